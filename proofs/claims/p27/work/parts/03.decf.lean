section
/-! decode rows of a long method, out of its bytes chunk by chunk -/
theorem dr_app (t : List UInt8) (r : Nat) : ∀ (a : List UInt8), (a ++ t).drop (a.length + r) = t.drop r
  | [] => by
    show List.drop (0 + r) t = _
    rw [Nat.zero_add]
  | x :: a => by
    rw [show (x :: a).length + r = a.length + r + 1 from by rw [List.length_cons]; omega]
    exact dr_app t r a
theorem dr_len {a t : List UInt8} {m r : Nat} (h : a.length = m) : (a ++ t).drop (m + r) = t.drop r := by
  subst h
  exact dr_app t r a
def eqL : List UInt8 → List UInt8 → Bool
  | [], [] => true
  | a :: x, b :: y => cond (Nat.beq a.toNat b.toNat) (eqL x y) false
  | _, _ => false
theorem eqL_eq : ∀ {x y : List UInt8}, eqL x y = true → x = y
  | [], [], _ => rfl
  | a :: x, b :: y, h => by
    have h : cond (Nat.beq a.toNat b.toNat) (eqL x y) false = true := h
    cases e : Nat.beq a.toNat b.toNat with
    | true =>
      rw [e] at h
      have e1 : a = b := UInt8.toNat_inj.mp (Nat.eq_of_beq_eq_true e)
      rw [e1, eqL_eq h]
    | false =>
      rw [e] at h
      cases h
  | [], _ :: _, h => by
    have h : false = true := h
    cases h
  | _ :: _, [], h => by
    have h : false = true := h
    cases h
theorem drop_s {L : List UInt8} {p : Nat} {x : UInt8} {r : List UInt8} (h : L.drop p = x :: r) : L.drop (p + 1) = r := by
  have e : (L.drop p).drop 1 = r := by rw [h]; rfl
  rw [List.drop_drop] at e
  first
    | exact e
    | (rw [Nat.add_comm] at e; exact e)
theorem u1_run {code : ByteArray} {p : Nat} {b : UInt8} {r : List UInt8} (h : code.data.toList.drop p = b :: r) : (Reader.u1 : Decoder Nat) code p = .ok (b.toNat, p + 1) := by
  have hp : p < code.size := by
    have e : (code.data.toList.drop p).length = (b :: r).length := by rw [h]
    rw [List.length_drop, List.length_cons] at e
    show p < code.data.size
    rw [← Array.length_toList]
    omega
  have hb : code.data.toList[p]? = some b := by
    have e : (code.data.toList.drop p)[0]? = some b := by rw [h]; rfl
    rw [List.getElem?_drop, Nat.add_zero] at e
    exact e
  have hb2 : code[p]'hp = b := by
    obtain ⟨h1, h2⟩ := List.getElem?_eq_some_iff.mp hb
    rw [Array.getElem_toList] at h2
    exact h2
  show (dite (p < code.size) (fun h => ((set (p + 1) : Decoder PUnit) >>= fun _ => (pure (code[p]'h).toNat : Decoder Nat))) (fun _ => (throw (HasTruncated.truncated p) : Decoder Nat))) code p = _
  rw [dif_pos hp, ← hb2]
  rfl
theorem rd_bind {α β : Type} {r : Decoder α} {f : α → Decoder β} {code : ByteArray} {p q : Nat} {a : α} (h : r code p = .ok (a, q)) : (r >>= f) code p = f a code q := by
  show Except.bind (r code p) (fun x => f x.1 code x.2) = _
  rw [h]
  rfl
theorem rd_map {α β : Type} {r : Decoder α} {g : α → β} {code : ByteArray} {p q : Nat} {a : α} (h : r code p = .ok (a, q)) : (g <$> r) code p = .ok (g a, q) := by
  first
    | (show Except.bind (r code p) (fun x => .ok (g x.1, x.2)) = _; rw [h]; rfl)
    | (show Except.map (fun x => (g x.1, x.2)) (r code p) = _; rw [h]; rfl)
theorem u2_run {code : ByteArray} {p : Nat} {x y : UInt8} {r : List UInt8} (h : code.data.toList.drop p = x :: y :: r) : (Reader.u2 : Decoder Nat) code p = .ok (x.toNat * 256 + y.toNat, p + 2) :=
  (rd_bind (u1_run h)).trans (rd_bind (u1_run (drop_s h)))
theorem s1_run {code : ByteArray} {p : Nat} {x : UInt8} {r : List UInt8} (h : code.data.toList.drop p = x :: r) : (Reader.s1 : Decoder Int) code p = .ok (Reader.signed 8 x.toNat, p + 1) := rd_map (u1_run h)
theorem s2_run {code : ByteArray} {p : Nat} {x y : UInt8} {r : List UInt8} (h : code.data.toList.drop p = x :: y :: r) : (Reader.s2 : Decoder Int) code p = .ok (Reader.signed 16 (x.toNat * 256 + y.toNat), p + 2) := rd_map (u2_run h)
theorem dec_of {code : ByteArray} {pc q k : Nat} {i : Instr} (h : (Decoder.instr pc) code pc = .ok (i, q)) (hq : q = pc + k) : decode code pc = .ok (i, k) := by
  subst hq
  show Except.bind ((Decoder.instr pc) code pc) (fun x => (pure (x.1, x.2 - pc) : Except DecodeError (Instr × Nat))) = _
  rw [h]
  show Except.ok (i, pc + k - pc) = _
  rw [Nat.add_sub_cancel_left]
theorem dk_f {α : Type} {rd : Decoder α} {f : α → Instr} {code : ByteArray} {p q : Nat} {a a' : α} (h : rd code p = .ok (a, q)) (e : a = a') : (rd >>= fun x => (pure (f x) : Decoder Instr)) code p = .ok (f a', q) := by
  subst e
  exact rd_bind h

theorem dn_1 {code : ByteArray} {pc : Nat} {r : List UInt8} (h : code.data.toList.drop pc = 1 :: r) : decode code pc = .ok (.aconst_null, 1) := dec_of (rd_bind (u1_run h)) rfl
theorem dn_2 {code : ByteArray} {pc : Nat} {r : List UInt8} (h : code.data.toList.drop pc = 2 :: r) : decode code pc = .ok (.iconst (-1), 1) := dec_of (rd_bind (u1_run h)) rfl
theorem dn_3 {code : ByteArray} {pc : Nat} {r : List UInt8} (h : code.data.toList.drop pc = 3 :: r) : decode code pc = .ok (.iconst 0, 1) := dec_of (rd_bind (u1_run h)) rfl
theorem dn_4 {code : ByteArray} {pc : Nat} {r : List UInt8} (h : code.data.toList.drop pc = 4 :: r) : decode code pc = .ok (.iconst 1, 1) := dec_of (rd_bind (u1_run h)) rfl
theorem dn_5 {code : ByteArray} {pc : Nat} {r : List UInt8} (h : code.data.toList.drop pc = 5 :: r) : decode code pc = .ok (.iconst 2, 1) := dec_of (rd_bind (u1_run h)) rfl
theorem dn_6 {code : ByteArray} {pc : Nat} {r : List UInt8} (h : code.data.toList.drop pc = 6 :: r) : decode code pc = .ok (.iconst 3, 1) := dec_of (rd_bind (u1_run h)) rfl
theorem dn_7 {code : ByteArray} {pc : Nat} {r : List UInt8} (h : code.data.toList.drop pc = 7 :: r) : decode code pc = .ok (.iconst 4, 1) := dec_of (rd_bind (u1_run h)) rfl
theorem dn_8 {code : ByteArray} {pc : Nat} {r : List UInt8} (h : code.data.toList.drop pc = 8 :: r) : decode code pc = .ok (.iconst 5, 1) := dec_of (rd_bind (u1_run h)) rfl
theorem dn_9 {code : ByteArray} {pc : Nat} {r : List UInt8} (h : code.data.toList.drop pc = 9 :: r) : decode code pc = .ok (.lconst 0, 1) := dec_of (rd_bind (u1_run h)) rfl
theorem dn_10 {code : ByteArray} {pc : Nat} {r : List UInt8} (h : code.data.toList.drop pc = 10 :: r) : decode code pc = .ok (.lconst 1, 1) := dec_of (rd_bind (u1_run h)) rfl
theorem dn_16 {code : ByteArray} {pc : Nat} {r : List UInt8} {x : UInt8} {n : Int} (h : code.data.toList.drop pc = 16 :: x :: r) (hn : Reader.signed 8 x.toNat = n) : decode code pc = .ok (.bipush n, 2) := dec_of ((rd_bind (u1_run h)).trans (dk_f (f := fun a => (.bipush a : Instr)) (s1_run (drop_s h)) hn)) rfl
theorem dn_17 {code : ByteArray} {pc : Nat} {r : List UInt8} {x y : UInt8} {n : Int} (h : code.data.toList.drop pc = 17 :: x :: y :: r) (hn : Reader.signed 16 (x.toNat * 256 + y.toNat) = n) : decode code pc = .ok (.sipush n, 3) := dec_of ((rd_bind (u1_run h)).trans (dk_f (f := fun a => (.sipush a : Instr)) (s2_run (drop_s h)) hn)) rfl
theorem dn_18 {code : ByteArray} {pc : Nat} {r : List UInt8} {x : UInt8} {n : Nat} (h : code.data.toList.drop pc = 18 :: x :: r) (hn : x.toNat = n) : decode code pc = .ok (.ldc n, 2) := dec_of ((rd_bind (u1_run h)).trans (dk_f (f := fun a => (.ldc a : Instr)) (u1_run (drop_s h)) hn)) rfl
theorem dn_19 {code : ByteArray} {pc : Nat} {r : List UInt8} {x y : UInt8} {n : Nat} (h : code.data.toList.drop pc = 19 :: x :: y :: r) (hn : x.toNat * 256 + y.toNat = n) : decode code pc = .ok (.ldc_w n, 3) := dec_of ((rd_bind (u1_run h)).trans (dk_f (f := fun a => (.ldc_w a : Instr)) (u2_run (drop_s h)) hn)) rfl
theorem dn_20 {code : ByteArray} {pc : Nat} {r : List UInt8} {x y : UInt8} {n : Nat} (h : code.data.toList.drop pc = 20 :: x :: y :: r) (hn : x.toNat * 256 + y.toNat = n) : decode code pc = .ok (.ldc2_w n, 3) := dec_of ((rd_bind (u1_run h)).trans (dk_f (f := fun a => (.ldc2_w a : Instr)) (u2_run (drop_s h)) hn)) rfl
theorem dn_21 {code : ByteArray} {pc : Nat} {r : List UInt8} {x : UInt8} {n : Nat} (h : code.data.toList.drop pc = 21 :: x :: r) (hn : x.toNat = n) : decode code pc = .ok (.iload n, 2) := dec_of ((rd_bind (u1_run h)).trans (dk_f (f := fun a => (.iload a : Instr)) (u1_run (drop_s h)) hn)) rfl
theorem dn_25 {code : ByteArray} {pc : Nat} {r : List UInt8} {x : UInt8} {n : Nat} (h : code.data.toList.drop pc = 25 :: x :: r) (hn : x.toNat = n) : decode code pc = .ok (.aload n, 2) := dec_of ((rd_bind (u1_run h)).trans (dk_f (f := fun a => (.aload a : Instr)) (u1_run (drop_s h)) hn)) rfl
theorem dn_26 {code : ByteArray} {pc : Nat} {r : List UInt8} (h : code.data.toList.drop pc = 26 :: r) : decode code pc = .ok (.iload_n 0, 1) := dec_of (rd_bind (u1_run h)) rfl
theorem dn_27 {code : ByteArray} {pc : Nat} {r : List UInt8} (h : code.data.toList.drop pc = 27 :: r) : decode code pc = .ok (.iload_n 1, 1) := dec_of (rd_bind (u1_run h)) rfl
theorem dn_28 {code : ByteArray} {pc : Nat} {r : List UInt8} (h : code.data.toList.drop pc = 28 :: r) : decode code pc = .ok (.iload_n 2, 1) := dec_of (rd_bind (u1_run h)) rfl
theorem dn_29 {code : ByteArray} {pc : Nat} {r : List UInt8} (h : code.data.toList.drop pc = 29 :: r) : decode code pc = .ok (.iload_n 3, 1) := dec_of (rd_bind (u1_run h)) rfl
theorem dn_30 {code : ByteArray} {pc : Nat} {r : List UInt8} (h : code.data.toList.drop pc = 30 :: r) : decode code pc = .ok (.lload_n 0, 1) := dec_of (rd_bind (u1_run h)) rfl
theorem dn_31 {code : ByteArray} {pc : Nat} {r : List UInt8} (h : code.data.toList.drop pc = 31 :: r) : decode code pc = .ok (.lload_n 1, 1) := dec_of (rd_bind (u1_run h)) rfl
theorem dn_33 {code : ByteArray} {pc : Nat} {r : List UInt8} (h : code.data.toList.drop pc = 33 :: r) : decode code pc = .ok (.lload_n 3, 1) := dec_of (rd_bind (u1_run h)) rfl
theorem dn_42 {code : ByteArray} {pc : Nat} {r : List UInt8} (h : code.data.toList.drop pc = 42 :: r) : decode code pc = .ok (.aload_n 0, 1) := dec_of (rd_bind (u1_run h)) rfl
theorem dn_43 {code : ByteArray} {pc : Nat} {r : List UInt8} (h : code.data.toList.drop pc = 43 :: r) : decode code pc = .ok (.aload_n 1, 1) := dec_of (rd_bind (u1_run h)) rfl
theorem dn_44 {code : ByteArray} {pc : Nat} {r : List UInt8} (h : code.data.toList.drop pc = 44 :: r) : decode code pc = .ok (.aload_n 2, 1) := dec_of (rd_bind (u1_run h)) rfl
theorem dn_45 {code : ByteArray} {pc : Nat} {r : List UInt8} (h : code.data.toList.drop pc = 45 :: r) : decode code pc = .ok (.aload_n 3, 1) := dec_of (rd_bind (u1_run h)) rfl
theorem dn_46 {code : ByteArray} {pc : Nat} {r : List UInt8} (h : code.data.toList.drop pc = 46 :: r) : decode code pc = .ok (.iaload, 1) := dec_of (rd_bind (u1_run h)) rfl
theorem dn_50 {code : ByteArray} {pc : Nat} {r : List UInt8} (h : code.data.toList.drop pc = 50 :: r) : decode code pc = .ok (.aaload, 1) := dec_of (rd_bind (u1_run h)) rfl
theorem dn_51 {code : ByteArray} {pc : Nat} {r : List UInt8} (h : code.data.toList.drop pc = 51 :: r) : decode code pc = .ok (.baload, 1) := dec_of (rd_bind (u1_run h)) rfl
theorem dn_54 {code : ByteArray} {pc : Nat} {r : List UInt8} {x : UInt8} {n : Nat} (h : code.data.toList.drop pc = 54 :: x :: r) (hn : x.toNat = n) : decode code pc = .ok (.istore n, 2) := dec_of ((rd_bind (u1_run h)).trans (dk_f (f := fun a => (.istore a : Instr)) (u1_run (drop_s h)) hn)) rfl
theorem dn_58 {code : ByteArray} {pc : Nat} {r : List UInt8} {x : UInt8} {n : Nat} (h : code.data.toList.drop pc = 58 :: x :: r) (hn : x.toNat = n) : decode code pc = .ok (.astore n, 2) := dec_of ((rd_bind (u1_run h)).trans (dk_f (f := fun a => (.astore a : Instr)) (u1_run (drop_s h)) hn)) rfl
theorem dn_59 {code : ByteArray} {pc : Nat} {r : List UInt8} (h : code.data.toList.drop pc = 59 :: r) : decode code pc = .ok (.istore_n 0, 1) := dec_of (rd_bind (u1_run h)) rfl
theorem dn_60 {code : ByteArray} {pc : Nat} {r : List UInt8} (h : code.data.toList.drop pc = 60 :: r) : decode code pc = .ok (.istore_n 1, 1) := dec_of (rd_bind (u1_run h)) rfl
theorem dn_61 {code : ByteArray} {pc : Nat} {r : List UInt8} (h : code.data.toList.drop pc = 61 :: r) : decode code pc = .ok (.istore_n 2, 1) := dec_of (rd_bind (u1_run h)) rfl
theorem dn_62 {code : ByteArray} {pc : Nat} {r : List UInt8} (h : code.data.toList.drop pc = 62 :: r) : decode code pc = .ok (.istore_n 3, 1) := dec_of (rd_bind (u1_run h)) rfl
theorem dn_64 {code : ByteArray} {pc : Nat} {r : List UInt8} (h : code.data.toList.drop pc = 64 :: r) : decode code pc = .ok (.lstore_n 1, 1) := dec_of (rd_bind (u1_run h)) rfl
theorem dn_66 {code : ByteArray} {pc : Nat} {r : List UInt8} (h : code.data.toList.drop pc = 66 :: r) : decode code pc = .ok (.lstore_n 3, 1) := dec_of (rd_bind (u1_run h)) rfl
theorem dn_76 {code : ByteArray} {pc : Nat} {r : List UInt8} (h : code.data.toList.drop pc = 76 :: r) : decode code pc = .ok (.astore_n 1, 1) := dec_of (rd_bind (u1_run h)) rfl
theorem dn_77 {code : ByteArray} {pc : Nat} {r : List UInt8} (h : code.data.toList.drop pc = 77 :: r) : decode code pc = .ok (.astore_n 2, 1) := dec_of (rd_bind (u1_run h)) rfl
theorem dn_78 {code : ByteArray} {pc : Nat} {r : List UInt8} (h : code.data.toList.drop pc = 78 :: r) : decode code pc = .ok (.astore_n 3, 1) := dec_of (rd_bind (u1_run h)) rfl
theorem dn_79 {code : ByteArray} {pc : Nat} {r : List UInt8} (h : code.data.toList.drop pc = 79 :: r) : decode code pc = .ok (.iastore, 1) := dec_of (rd_bind (u1_run h)) rfl
theorem dn_83 {code : ByteArray} {pc : Nat} {r : List UInt8} (h : code.data.toList.drop pc = 83 :: r) : decode code pc = .ok (.aastore, 1) := dec_of (rd_bind (u1_run h)) rfl
theorem dn_84 {code : ByteArray} {pc : Nat} {r : List UInt8} (h : code.data.toList.drop pc = 84 :: r) : decode code pc = .ok (.bastore, 1) := dec_of (rd_bind (u1_run h)) rfl
theorem dn_87 {code : ByteArray} {pc : Nat} {r : List UInt8} (h : code.data.toList.drop pc = 87 :: r) : decode code pc = .ok (.pop, 1) := dec_of (rd_bind (u1_run h)) rfl
theorem dn_88 {code : ByteArray} {pc : Nat} {r : List UInt8} (h : code.data.toList.drop pc = 88 :: r) : decode code pc = .ok (.pop2, 1) := dec_of (rd_bind (u1_run h)) rfl
theorem dn_89 {code : ByteArray} {pc : Nat} {r : List UInt8} (h : code.data.toList.drop pc = 89 :: r) : decode code pc = .ok (.dup, 1) := dec_of (rd_bind (u1_run h)) rfl
theorem dn_90 {code : ByteArray} {pc : Nat} {r : List UInt8} (h : code.data.toList.drop pc = 90 :: r) : decode code pc = .ok (.dup_x1, 1) := dec_of (rd_bind (u1_run h)) rfl
theorem dn_92 {code : ByteArray} {pc : Nat} {r : List UInt8} (h : code.data.toList.drop pc = 92 :: r) : decode code pc = .ok (.dup2, 1) := dec_of (rd_bind (u1_run h)) rfl
theorem dn_96 {code : ByteArray} {pc : Nat} {r : List UInt8} (h : code.data.toList.drop pc = 96 :: r) : decode code pc = .ok (.iadd, 1) := dec_of (rd_bind (u1_run h)) rfl
theorem dn_97 {code : ByteArray} {pc : Nat} {r : List UInt8} (h : code.data.toList.drop pc = 97 :: r) : decode code pc = .ok (.ladd, 1) := dec_of (rd_bind (u1_run h)) rfl
theorem dn_100 {code : ByteArray} {pc : Nat} {r : List UInt8} (h : code.data.toList.drop pc = 100 :: r) : decode code pc = .ok (.isub, 1) := dec_of (rd_bind (u1_run h)) rfl
theorem dn_104 {code : ByteArray} {pc : Nat} {r : List UInt8} (h : code.data.toList.drop pc = 104 :: r) : decode code pc = .ok (.imul, 1) := dec_of (rd_bind (u1_run h)) rfl
theorem dn_105 {code : ByteArray} {pc : Nat} {r : List UInt8} (h : code.data.toList.drop pc = 105 :: r) : decode code pc = .ok (.lmul, 1) := dec_of (rd_bind (u1_run h)) rfl
theorem dn_108 {code : ByteArray} {pc : Nat} {r : List UInt8} (h : code.data.toList.drop pc = 108 :: r) : decode code pc = .ok (.idiv, 1) := dec_of (rd_bind (u1_run h)) rfl
theorem dn_116 {code : ByteArray} {pc : Nat} {r : List UInt8} (h : code.data.toList.drop pc = 116 :: r) : decode code pc = .ok (.ineg, 1) := dec_of (rd_bind (u1_run h)) rfl
theorem dn_120 {code : ByteArray} {pc : Nat} {r : List UInt8} (h : code.data.toList.drop pc = 120 :: r) : decode code pc = .ok (.ishl, 1) := dec_of (rd_bind (u1_run h)) rfl
theorem dn_122 {code : ByteArray} {pc : Nat} {r : List UInt8} (h : code.data.toList.drop pc = 122 :: r) : decode code pc = .ok (.ishr, 1) := dec_of (rd_bind (u1_run h)) rfl
theorem dn_124 {code : ByteArray} {pc : Nat} {r : List UInt8} (h : code.data.toList.drop pc = 124 :: r) : decode code pc = .ok (.iushr, 1) := dec_of (rd_bind (u1_run h)) rfl
theorem dn_126 {code : ByteArray} {pc : Nat} {r : List UInt8} (h : code.data.toList.drop pc = 126 :: r) : decode code pc = .ok (.iand, 1) := dec_of (rd_bind (u1_run h)) rfl
theorem dn_128 {code : ByteArray} {pc : Nat} {r : List UInt8} (h : code.data.toList.drop pc = 128 :: r) : decode code pc = .ok (.ior, 1) := dec_of (rd_bind (u1_run h)) rfl
theorem dn_130 {code : ByteArray} {pc : Nat} {r : List UInt8} (h : code.data.toList.drop pc = 130 :: r) : decode code pc = .ok (.ixor, 1) := dec_of (rd_bind (u1_run h)) rfl
theorem dn_132 {code : ByteArray} {pc : Nat} {r : List UInt8} {x y : UInt8} {n : Nat} {z : Int} (h : code.data.toList.drop pc = 132 :: x :: y :: r) (hn : x.toNat = n) (hz : Reader.signed 8 y.toNat = z) : decode code pc = .ok (.iinc n z, 3) := dec_of ((rd_bind (u1_run h)).trans ((rd_bind (u1_run (drop_s h))).trans (by subst hn; exact dk_f (f := fun b => Instr.iinc x.toNat b) (s1_run (drop_s (drop_s h))) hz))) rfl
theorem dn_133 {code : ByteArray} {pc : Nat} {r : List UInt8} (h : code.data.toList.drop pc = 133 :: r) : decode code pc = .ok (.i2l, 1) := dec_of (rd_bind (u1_run h)) rfl
theorem dn_145 {code : ByteArray} {pc : Nat} {r : List UInt8} (h : code.data.toList.drop pc = 145 :: r) : decode code pc = .ok (.i2b, 1) := dec_of (rd_bind (u1_run h)) rfl
theorem dn_146 {code : ByteArray} {pc : Nat} {r : List UInt8} (h : code.data.toList.drop pc = 146 :: r) : decode code pc = .ok (.i2c, 1) := dec_of (rd_bind (u1_run h)) rfl
theorem dn_148 {code : ByteArray} {pc : Nat} {r : List UInt8} (h : code.data.toList.drop pc = 148 :: r) : decode code pc = .ok (.lcmp, 1) := dec_of (rd_bind (u1_run h)) rfl
theorem dn_153 {code : ByteArray} {pc : Nat} {r : List UInt8} {x y : UInt8} {n : Int} (h : code.data.toList.drop pc = 153 :: x :: y :: r) (hn : Reader.signed 16 (x.toNat * 256 + y.toNat) = n) : decode code pc = .ok (.ifCond .eq n, 3) := dec_of ((rd_bind (u1_run h)).trans (dk_f (f := fun a => (.ifCond .eq a : Instr)) (s2_run (drop_s h)) hn)) rfl
theorem dn_154 {code : ByteArray} {pc : Nat} {r : List UInt8} {x y : UInt8} {n : Int} (h : code.data.toList.drop pc = 154 :: x :: y :: r) (hn : Reader.signed 16 (x.toNat * 256 + y.toNat) = n) : decode code pc = .ok (.ifCond .ne n, 3) := dec_of ((rd_bind (u1_run h)).trans (dk_f (f := fun a => (.ifCond .ne a : Instr)) (s2_run (drop_s h)) hn)) rfl
theorem dn_155 {code : ByteArray} {pc : Nat} {r : List UInt8} {x y : UInt8} {n : Int} (h : code.data.toList.drop pc = 155 :: x :: y :: r) (hn : Reader.signed 16 (x.toNat * 256 + y.toNat) = n) : decode code pc = .ok (.ifCond .lt n, 3) := dec_of ((rd_bind (u1_run h)).trans (dk_f (f := fun a => (.ifCond .lt a : Instr)) (s2_run (drop_s h)) hn)) rfl
theorem dn_156 {code : ByteArray} {pc : Nat} {r : List UInt8} {x y : UInt8} {n : Int} (h : code.data.toList.drop pc = 156 :: x :: y :: r) (hn : Reader.signed 16 (x.toNat * 256 + y.toNat) = n) : decode code pc = .ok (.ifCond .ge n, 3) := dec_of ((rd_bind (u1_run h)).trans (dk_f (f := fun a => (.ifCond .ge a : Instr)) (s2_run (drop_s h)) hn)) rfl
theorem dn_158 {code : ByteArray} {pc : Nat} {r : List UInt8} {x y : UInt8} {n : Int} (h : code.data.toList.drop pc = 158 :: x :: y :: r) (hn : Reader.signed 16 (x.toNat * 256 + y.toNat) = n) : decode code pc = .ok (.ifCond .le n, 3) := dec_of ((rd_bind (u1_run h)).trans (dk_f (f := fun a => (.ifCond .le a : Instr)) (s2_run (drop_s h)) hn)) rfl
theorem dn_159 {code : ByteArray} {pc : Nat} {r : List UInt8} {x y : UInt8} {n : Int} (h : code.data.toList.drop pc = 159 :: x :: y :: r) (hn : Reader.signed 16 (x.toNat * 256 + y.toNat) = n) : decode code pc = .ok (.if_icmp .eq n, 3) := dec_of ((rd_bind (u1_run h)).trans (dk_f (f := fun a => (.if_icmp .eq a : Instr)) (s2_run (drop_s h)) hn)) rfl
theorem dn_160 {code : ByteArray} {pc : Nat} {r : List UInt8} {x y : UInt8} {n : Int} (h : code.data.toList.drop pc = 160 :: x :: y :: r) (hn : Reader.signed 16 (x.toNat * 256 + y.toNat) = n) : decode code pc = .ok (.if_icmp .ne n, 3) := dec_of ((rd_bind (u1_run h)).trans (dk_f (f := fun a => (.if_icmp .ne a : Instr)) (s2_run (drop_s h)) hn)) rfl
theorem dn_161 {code : ByteArray} {pc : Nat} {r : List UInt8} {x y : UInt8} {n : Int} (h : code.data.toList.drop pc = 161 :: x :: y :: r) (hn : Reader.signed 16 (x.toNat * 256 + y.toNat) = n) : decode code pc = .ok (.if_icmp .lt n, 3) := dec_of ((rd_bind (u1_run h)).trans (dk_f (f := fun a => (.if_icmp .lt a : Instr)) (s2_run (drop_s h)) hn)) rfl
theorem dn_162 {code : ByteArray} {pc : Nat} {r : List UInt8} {x y : UInt8} {n : Int} (h : code.data.toList.drop pc = 162 :: x :: y :: r) (hn : Reader.signed 16 (x.toNat * 256 + y.toNat) = n) : decode code pc = .ok (.if_icmp .ge n, 3) := dec_of ((rd_bind (u1_run h)).trans (dk_f (f := fun a => (.if_icmp .ge a : Instr)) (s2_run (drop_s h)) hn)) rfl
theorem dn_163 {code : ByteArray} {pc : Nat} {r : List UInt8} {x y : UInt8} {n : Int} (h : code.data.toList.drop pc = 163 :: x :: y :: r) (hn : Reader.signed 16 (x.toNat * 256 + y.toNat) = n) : decode code pc = .ok (.if_icmp .gt n, 3) := dec_of ((rd_bind (u1_run h)).trans (dk_f (f := fun a => (.if_icmp .gt a : Instr)) (s2_run (drop_s h)) hn)) rfl
theorem dn_164 {code : ByteArray} {pc : Nat} {r : List UInt8} {x y : UInt8} {n : Int} (h : code.data.toList.drop pc = 164 :: x :: y :: r) (hn : Reader.signed 16 (x.toNat * 256 + y.toNat) = n) : decode code pc = .ok (.if_icmp .le n, 3) := dec_of ((rd_bind (u1_run h)).trans (dk_f (f := fun a => (.if_icmp .le a : Instr)) (s2_run (drop_s h)) hn)) rfl
theorem dn_167 {code : ByteArray} {pc : Nat} {r : List UInt8} {x y : UInt8} {n : Int} (h : code.data.toList.drop pc = 167 :: x :: y :: r) (hn : Reader.signed 16 (x.toNat * 256 + y.toNat) = n) : decode code pc = .ok (.goto n, 3) := dec_of ((rd_bind (u1_run h)).trans (dk_f (f := fun a => (.goto a : Instr)) (s2_run (drop_s h)) hn)) rfl
theorem dn_172 {code : ByteArray} {pc : Nat} {r : List UInt8} (h : code.data.toList.drop pc = 172 :: r) : decode code pc = .ok (.ireturn, 1) := dec_of (rd_bind (u1_run h)) rfl
theorem dn_173 {code : ByteArray} {pc : Nat} {r : List UInt8} (h : code.data.toList.drop pc = 173 :: r) : decode code pc = .ok (.lreturn, 1) := dec_of (rd_bind (u1_run h)) rfl
theorem dn_176 {code : ByteArray} {pc : Nat} {r : List UInt8} (h : code.data.toList.drop pc = 176 :: r) : decode code pc = .ok (.areturn, 1) := dec_of (rd_bind (u1_run h)) rfl
theorem dn_177 {code : ByteArray} {pc : Nat} {r : List UInt8} (h : code.data.toList.drop pc = 177 :: r) : decode code pc = .ok (.return_, 1) := dec_of (rd_bind (u1_run h)) rfl
theorem dn_178 {code : ByteArray} {pc : Nat} {r : List UInt8} {x y : UInt8} {n : Nat} (h : code.data.toList.drop pc = 178 :: x :: y :: r) (hn : x.toNat * 256 + y.toNat = n) : decode code pc = .ok (.getstatic n, 3) := dec_of ((rd_bind (u1_run h)).trans (dk_f (f := fun a => (.getstatic a : Instr)) (u2_run (drop_s h)) hn)) rfl
theorem dn_180 {code : ByteArray} {pc : Nat} {r : List UInt8} {x y : UInt8} {n : Nat} (h : code.data.toList.drop pc = 180 :: x :: y :: r) (hn : x.toNat * 256 + y.toNat = n) : decode code pc = .ok (.getfield n, 3) := dec_of ((rd_bind (u1_run h)).trans (dk_f (f := fun a => (.getfield a : Instr)) (u2_run (drop_s h)) hn)) rfl
theorem dn_181 {code : ByteArray} {pc : Nat} {r : List UInt8} {x y : UInt8} {n : Nat} (h : code.data.toList.drop pc = 181 :: x :: y :: r) (hn : x.toNat * 256 + y.toNat = n) : decode code pc = .ok (.putfield n, 3) := dec_of ((rd_bind (u1_run h)).trans (dk_f (f := fun a => (.putfield a : Instr)) (u2_run (drop_s h)) hn)) rfl
theorem dn_182 {code : ByteArray} {pc : Nat} {r : List UInt8} {x y : UInt8} {n : Nat} (h : code.data.toList.drop pc = 182 :: x :: y :: r) (hn : x.toNat * 256 + y.toNat = n) : decode code pc = .ok (.invokevirtual n, 3) := dec_of ((rd_bind (u1_run h)).trans (dk_f (f := fun a => (.invokevirtual a : Instr)) (u2_run (drop_s h)) hn)) rfl
theorem dn_183 {code : ByteArray} {pc : Nat} {r : List UInt8} {x y : UInt8} {n : Nat} (h : code.data.toList.drop pc = 183 :: x :: y :: r) (hn : x.toNat * 256 + y.toNat = n) : decode code pc = .ok (.invokespecial n, 3) := dec_of ((rd_bind (u1_run h)).trans (dk_f (f := fun a => (.invokespecial a : Instr)) (u2_run (drop_s h)) hn)) rfl
theorem dn_184 {code : ByteArray} {pc : Nat} {r : List UInt8} {x y : UInt8} {n : Nat} (h : code.data.toList.drop pc = 184 :: x :: y :: r) (hn : x.toNat * 256 + y.toNat = n) : decode code pc = .ok (.invokestatic n, 3) := dec_of ((rd_bind (u1_run h)).trans (dk_f (f := fun a => (.invokestatic a : Instr)) (u2_run (drop_s h)) hn)) rfl
theorem dn_187 {code : ByteArray} {pc : Nat} {r : List UInt8} {x y : UInt8} {n : Nat} (h : code.data.toList.drop pc = 187 :: x :: y :: r) (hn : x.toNat * 256 + y.toNat = n) : decode code pc = .ok (.new n, 3) := dec_of ((rd_bind (u1_run h)).trans (dk_f (f := fun a => (.new a : Instr)) (u2_run (drop_s h)) hn)) rfl
theorem dn_189 {code : ByteArray} {pc : Nat} {r : List UInt8} {x y : UInt8} {n : Nat} (h : code.data.toList.drop pc = 189 :: x :: y :: r) (hn : x.toNat * 256 + y.toNat = n) : decode code pc = .ok (.anewarray n, 3) := dec_of ((rd_bind (u1_run h)).trans (dk_f (f := fun a => (.anewarray a : Instr)) (u2_run (drop_s h)) hn)) rfl
theorem dn_190 {code : ByteArray} {pc : Nat} {r : List UInt8} (h : code.data.toList.drop pc = 190 :: r) : decode code pc = .ok (.arraylength, 1) := dec_of (rd_bind (u1_run h)) rfl
theorem dn_191 {code : ByteArray} {pc : Nat} {r : List UInt8} (h : code.data.toList.drop pc = 191 :: r) : decode code pc = .ok (.athrow, 1) := dec_of (rd_bind (u1_run h)) rfl
theorem dn_192 {code : ByteArray} {pc : Nat} {r : List UInt8} {x y : UInt8} {n : Nat} (h : code.data.toList.drop pc = 192 :: x :: y :: r) (hn : x.toNat * 256 + y.toNat = n) : decode code pc = .ok (.checkcast n, 3) := dec_of ((rd_bind (u1_run h)).trans (dk_f (f := fun a => (.checkcast a : Instr)) (u2_run (drop_s h)) hn)) rfl
theorem dn_199 {code : ByteArray} {pc : Nat} {r : List UInt8} {x y : UInt8} {n : Int} (h : code.data.toList.drop pc = 199 :: x :: y :: r) (hn : Reader.signed 16 (x.toNat * 256 + y.toNat) = n) : decode code pc = .ok (.ifnonnull n, 3) := dec_of ((rd_bind (u1_run h)).trans (dk_f (f := fun a => (.ifnonnull a : Instr)) (s2_run (drop_s h)) hn)) rfl
def kc_0 : List UInt8 := [187, 0, 8, 89, 183, 0, 171, 76, 187, 0, 172, 89, 183, 0, 174, 77, 187, 0, 14, 89, 183, 0, 175, 78, 3, 54, 4, 21, 4, 42, 190, 7, 100, 163, 8, 169, 42, 21, 4, 46, 16, 63, 126, 170, 0, 0, 8, 153, 0, 0, 0, 0, 0, 0, 0, 49, 0, 0, 0, 213, 0, 0, 0, 253, 0, 0, 1, 49, 0, 0, 1, 101, 0, 0, 1, 141, 0, 0, 1, 169, 0, 0, 1, 209, 0, 0, 1, 249, 0, 0, 2, 21, 0, 0, 2, 73, 0, 0, 2, 125, 0, 0, 2, 193, 0, 0, 3, 5, 0, 0, 3, 57, 0, 0, 3, 85, 0, 0, 3, 113, 0, 0, 3, 153, 0, 0, 3, 181, 0, 0, 3, 221, 0, 0, 4, 33, 0, 0, 4, 73, 0, 0, 4, 125, 0, 0, 4, 177, 0, 0, 4, 217, 0, 0, 5, 1, 0, 0, 5, 41, 0, 0, 5, 122, 0, 0, 5, 150, 0, 0, 5, 190, 0, 0, 5, 218, 0, 0, 5, 246, 0, 0, 6, 30, 0, 0, 6, 70, 0, 0, 6, 110, 0, 0, 6, 178, 0, 0, 6, 218, 0, 0, 6, 246, 0, 0, 7, 18, 0, 0, 7, 70, 0, 0, 7, 110, 0, 0, 7, 138, 0, 0, 7, 190, 0, 0, 7, 218, 0, 0, 7, 246, 0, 0, 8, 18, 0, 0, 8, 46, 0, 0, 8, 86, 0, 0, 8, 114, 0, 0, 8, 127, 0, 0, 8, 140, 43, 42, 21, 4, 4, 96, 46]
def kc_1 : List UInt8 := [42, 21, 4, 5, 96, 46, 45, 184, 0, 176, 54, 5, 44, 42, 21, 4, 4, 96, 46, 42, 21, 4, 5, 96, 46, 182, 0, 181, 54, 6, 167, 7, 159, 43, 42, 21, 4, 4, 96, 46, 42, 21, 4, 5, 96]
def kc_2 : List UInt8 := [46, 42, 21, 4, 6, 96, 46, 45, 184, 0, 182, 54, 5, 44, 42, 21, 4, 4, 96, 46, 42, 21, 4, 5, 96, 46, 42, 21, 4, 6, 96, 46, 182, 0, 185, 54, 6, 167, 7, 107, 43, 42, 21, 4, 4]
def kc_3 : List UInt8 := [96, 46, 42, 21, 4, 5, 96, 46, 42, 21, 4, 6, 96, 46, 45, 184, 0, 186, 54, 5, 44, 42, 21, 4, 4, 96, 46, 42, 21, 4, 5, 96, 46, 42, 21, 4, 6, 96, 46, 182, 0, 188]
def kc_4 : List UInt8 := [54, 6, 167, 7, 55, 43, 42, 21, 4, 4, 96, 46, 42, 21, 4, 5, 96, 46, 45, 184, 0, 189, 54, 5, 44, 42, 21, 4, 4, 96, 46, 42, 21, 4, 5, 96, 46, 182, 0, 191, 54, 6, 167, 7, 15, 43, 42]
def kc_5 : List UInt8 := [21, 4, 4, 96, 46, 45, 184, 0, 192, 54, 5, 44, 42, 21, 4, 4, 96, 46, 182, 0, 195, 54, 6, 167, 6, 243, 43, 42, 21, 4, 4, 96, 46, 42, 21, 4, 5, 96, 46, 45, 184, 0, 196, 54, 5, 44, 42]
def kc_6 : List UInt8 := [21, 4, 4, 96, 46, 42, 21, 4, 5, 96, 46, 182, 0, 198, 54, 6, 167, 6, 203, 43, 42, 21, 4, 4, 96, 46, 42, 21, 4, 5, 96, 46, 45, 184, 0, 199, 54, 5, 44, 42, 21, 4, 4, 96, 46]
def kc_7 : List UInt8 := [42, 21, 4, 5, 96, 46, 182, 0, 201, 54, 6, 167, 6, 163, 43, 42, 21, 4, 4, 96, 46, 45, 184, 0, 202, 54, 5, 44, 42, 21, 4, 4, 96, 46, 182, 0, 204, 54, 6, 167, 6, 135, 43, 42, 21, 4, 4, 96, 46]
def kc_8 : List UInt8 := [42, 21, 4, 5, 96, 46, 42, 21, 4, 6, 96, 46, 45, 184, 0, 205, 54, 5, 44, 42, 21, 4, 4, 96, 46, 42, 21, 4, 5, 96, 46, 42, 21, 4, 6, 96, 46, 182, 0, 207, 54, 6, 167, 6, 83]
def kc_9 : List UInt8 := [43, 42, 21, 4, 4, 96, 46, 42, 21, 4, 5, 96, 46, 42, 21, 4, 6, 96, 46, 45, 184, 0, 208, 54, 5, 44, 42, 21, 4, 4, 96, 46, 42, 21, 4, 5, 96, 46, 42, 21, 4]
def kc_10 : List UInt8 := [6, 96, 46, 182, 0, 210, 54, 6, 167, 6, 31, 43, 42, 21, 4, 4, 96, 46, 42, 21, 4, 5, 96, 46, 42, 21, 4, 6, 96, 46, 153, 0, 7, 4, 167, 0, 4, 3, 45, 184, 0, 211, 54, 5, 44, 42, 21, 4]
def kc_11 : List UInt8 := [4, 96, 46, 42, 21, 4, 5, 96, 46, 42, 21, 4, 6, 96, 46, 153, 0, 7, 4, 167, 0, 4, 3, 182, 0, 214, 54, 6, 167, 5, 219, 43, 42, 21, 4, 4, 96, 46, 42, 21, 4, 5, 96, 46, 42]
def kc_12 : List UInt8 := [21, 4, 6, 96, 46, 153, 0, 7, 4, 167, 0, 4, 3, 45, 184, 0, 215, 54, 5, 44, 42, 21, 4, 4, 96, 46, 42, 21, 4, 5, 96, 46, 42, 21, 4, 6, 96, 46, 153, 0, 7, 4, 167, 0, 4, 3, 182, 0, 217]
def kc_13 : List UInt8 := [54, 6, 167, 5, 151, 43, 42, 21, 4, 4, 96, 46, 42, 21, 4, 5, 96, 46, 42, 21, 4, 6, 96, 46, 45, 184, 0, 218, 54, 5, 44, 42, 21, 4, 4, 96, 46, 42, 21, 4, 5, 96, 46]
def kc_14 : List UInt8 := [42, 21, 4, 6, 96, 46, 182, 0, 220, 54, 6, 167, 5, 99, 43, 42, 21, 4, 4, 96, 46, 45, 184, 0, 221, 54, 5, 44, 42, 21, 4, 4, 96, 46, 182, 0, 223, 54, 6, 167, 5, 71, 43, 42, 21, 4, 4, 96, 46]
def kc_15 : List UInt8 := [45, 184, 0, 224, 54, 5, 44, 42, 21, 4, 4, 96, 46, 182, 0, 226, 54, 6, 167, 5, 43, 43, 42, 21, 4, 4, 96, 46, 42, 21, 4, 5, 96, 46, 45, 184, 0, 227, 54, 5, 44, 42, 21, 4, 4, 96, 46]
def kc_16 : List UInt8 := [42, 21, 4, 5, 96, 46, 182, 0, 229, 54, 6, 167, 5, 3, 43, 42, 21, 4, 4, 96, 46, 45, 184, 0, 230, 54, 5, 44, 42, 21, 4, 4, 96, 46, 182, 0, 232, 54, 6, 167, 4, 231, 43, 42, 21, 4, 4, 96, 46]
def kc_17 : List UInt8 := [42, 21, 4, 5, 96, 46, 45, 184, 0, 233, 54, 5, 44, 42, 21, 4, 4, 96, 46, 42, 21, 4, 5, 96, 46, 182, 0, 235, 54, 6, 167, 4, 191, 43, 42, 21, 4, 4, 96, 46, 42, 21, 4, 5, 96]
def kc_18 : List UInt8 := [46, 42, 21, 4, 6, 96, 46, 153, 0, 7, 4, 167, 0, 4, 3, 45, 184, 0, 236, 54, 5, 44, 42, 21, 4, 4, 96, 46, 42, 21, 4, 5, 96, 46, 42, 21, 4, 6, 96, 46, 153, 0, 7, 4, 167, 0, 4]
def kc_19 : List UInt8 := [3, 182, 0, 238, 54, 6, 167, 4, 123, 43, 42, 21, 4, 4, 96, 46, 42, 21, 4, 5, 96, 46, 45, 184, 0, 239, 54, 5, 44, 42, 21, 4, 4, 96, 46, 42, 21, 4, 5, 96, 46, 182, 0, 241, 54, 6, 167, 4, 83]
def kc_20 : List UInt8 := [43, 42, 21, 4, 4, 96, 46, 42, 21, 4, 5, 96, 46, 42, 21, 4, 6, 96, 46, 45, 184, 0, 242, 54, 5, 44, 42, 21, 4, 4, 96, 46, 42, 21, 4, 5, 96, 46, 42, 21, 4]
def kc_21 : List UInt8 := [6, 96, 46, 182, 0, 244, 54, 6, 167, 4, 31, 43, 42, 21, 4, 4, 96, 46, 42, 21, 4, 5, 96, 46, 42, 21, 4, 6, 96, 46, 45, 184, 0, 245, 54, 5, 44, 42, 21, 4, 4, 96, 46, 42]
def kc_22 : List UInt8 := [21, 4, 5, 96, 46, 42, 21, 4, 6, 96, 46, 182, 0, 247, 54, 6, 167, 3, 235, 43, 42, 21, 4, 4, 96, 46, 42, 21, 4, 5, 96, 46, 45, 184, 0, 248, 54, 5, 44, 42, 21, 4, 4, 96, 46]
def kc_23 : List UInt8 := [42, 21, 4, 5, 96, 46, 182, 0, 250, 54, 6, 167, 3, 195, 43, 42, 21, 4, 4, 96, 46, 42, 21, 4, 5, 96, 46, 45, 184, 0, 251, 54, 5, 44, 42, 21, 4, 4, 96, 46, 42, 21, 4, 5, 96]
def kc_24 : List UInt8 := [46, 182, 0, 253, 54, 6, 167, 3, 155, 43, 42, 21, 4, 4, 96, 46, 42, 21, 4, 5, 96, 46, 45, 184, 0, 254, 54, 5, 44, 42, 21, 4, 4, 96, 46, 42, 21, 4, 5, 96, 46, 182, 1, 0, 54, 6, 167, 3, 115]
def kc_25 : List UInt8 := [43, 42, 21, 4, 4, 96, 46, 42, 21, 4, 5, 96, 46, 42, 21, 4, 6, 96, 46, 45, 184, 1, 1, 54, 5, 44, 42, 21, 4, 4, 96, 46, 42, 21, 4, 5, 96, 46, 42, 21, 4]
def kc_26 : List UInt8 := [6, 96, 46, 182, 1, 3, 54, 6, 44, 182, 1, 4, 21, 5, 159, 0, 5, 3, 172, 21, 5, 154, 0, 16, 45, 180, 0, 13, 21, 6, 133, 148, 153, 0, 5, 3, 172, 167, 3, 34, 43, 42, 21, 4, 4, 96, 46, 45, 184, 1, 8, 54, 5, 44]
def kc_27 : List UInt8 := [42, 21, 4, 4, 96, 46, 182, 1, 10, 54, 6, 167, 3, 6, 43, 42, 21, 4, 4, 96, 46, 42, 21, 4, 5, 96, 46, 45, 184, 1, 11, 54, 5, 44, 42, 21, 4, 4, 96, 46, 42, 21, 4, 5, 96]
def kc_28 : List UInt8 := [46, 182, 1, 13, 54, 6, 167, 2, 222, 43, 42, 21, 4, 4, 96, 46, 45, 184, 1, 14, 54, 5, 44, 42, 21, 4, 4, 96, 46, 182, 1, 16, 58, 6, 167, 2, 194, 43, 42, 21, 4, 4, 96, 46, 45, 184, 1, 17, 54, 5, 44]
def kc_29 : List UInt8 := [42, 21, 4, 4, 96, 46, 182, 1, 19, 58, 6, 167, 2, 166, 43, 42, 21, 4, 4, 96, 46, 42, 21, 4, 5, 96, 46, 45, 184, 1, 20, 54, 5, 44, 42, 21, 4, 4, 96, 46, 42, 21, 4, 5, 96]
def kc_30 : List UInt8 := [46, 182, 1, 22, 54, 6, 167, 2, 126, 43, 42, 21, 4, 4, 96, 46, 42, 21, 4, 5, 96, 46, 45, 184, 1, 23, 54, 5, 44, 42, 21, 4, 4, 96, 46, 42, 21, 4, 5, 96, 46, 182, 1, 25, 54, 6, 167, 2, 86]
def kc_31 : List UInt8 := [43, 42, 21, 4, 4, 96, 46, 42, 21, 4, 5, 96, 46, 45, 184, 1, 26, 54, 5, 44, 42, 21, 4, 4, 96, 46, 42, 21, 4, 5, 96, 46, 182, 1, 28, 54, 6, 167, 2, 46, 43, 42, 21, 4, 4]
def kc_32 : List UInt8 := [96, 46, 42, 21, 4, 5, 96, 46, 42, 21, 4, 6, 96, 46, 153, 0, 7, 4, 167, 0, 4, 3, 45, 184, 1, 29, 54, 5, 44, 42, 21, 4, 4, 96, 46, 42, 21, 4, 5, 96, 46, 42, 21, 4]
def kc_33 : List UInt8 := [6, 96, 46, 153, 0, 7, 4, 167, 0, 4, 3, 182, 1, 31, 54, 6, 167, 1, 234, 43, 42, 21, 4, 4, 96, 46, 42, 21, 4, 5, 96, 46, 45, 184, 1, 32, 54, 5, 44, 42, 21, 4, 4, 96, 46, 42, 21, 4]
def kc_34 : List UInt8 := [5, 96, 46, 182, 1, 34, 54, 6, 167, 1, 194, 43, 42, 21, 4, 4, 96, 46, 45, 184, 1, 35, 54, 5, 44, 42, 21, 4, 4, 96, 46, 182, 1, 37, 54, 6, 167, 1, 166, 43, 42, 21, 4, 4, 96, 46, 45, 184, 1, 38]
def kc_35 : List UInt8 := [54, 5, 44, 42, 21, 4, 4, 96, 46, 182, 1, 40, 54, 6, 167, 1, 138, 43, 42, 21, 4, 4, 96, 46, 42, 21, 4, 5, 96, 46, 42, 21, 4, 6, 96, 46, 45, 184, 1, 41, 54, 5, 44, 42, 21, 4]
def kc_36 : List UInt8 := [4, 96, 46, 42, 21, 4, 5, 96, 46, 42, 21, 4, 6, 96, 46, 182, 1, 43, 54, 6, 167, 1, 86, 43, 42, 21, 4, 4, 96, 46, 42, 21, 4, 5, 96, 46, 45, 184, 1, 44, 54, 5, 44, 42]
def kc_37 : List UInt8 := [21, 4, 4, 96, 46, 42, 21, 4, 5, 96, 46, 182, 1, 46, 54, 6, 167, 1, 46, 43, 42, 21, 4, 4, 96, 46, 45, 184, 1, 47, 54, 5, 44, 42, 21, 4, 4, 96, 46, 182, 1, 49, 54, 6, 167, 1, 18, 43, 42]
def kc_38 : List UInt8 := [21, 4, 4, 96, 46, 42, 21, 4, 5, 96, 46, 42, 21, 4, 6, 96, 46, 45, 184, 1, 50, 54, 5, 44, 42, 21, 4, 4, 96, 46, 42, 21, 4, 5, 96, 46, 42, 21, 4, 6, 96]
def kc_39 : List UInt8 := [46, 182, 1, 52, 54, 6, 167, 0, 222, 43, 42, 21, 4, 4, 96, 46, 45, 184, 1, 53, 54, 5, 44, 42, 21, 4, 4, 96, 46, 182, 1, 55, 58, 6, 167, 0, 194, 43, 42, 21, 4, 4, 96, 46, 45, 184, 1, 56, 54, 5, 44]
def kc_40 : List UInt8 := [42, 21, 4, 4, 96, 46, 182, 1, 58, 54, 6, 167, 0, 166, 43, 42, 21, 4, 4, 96, 46, 45, 184, 1, 59, 54, 5, 44, 42, 21, 4, 4, 96, 46, 182, 1, 61, 54, 6, 167, 0, 138, 43, 42, 21, 4, 4, 96, 46]
def kc_41 : List UInt8 := [45, 184, 1, 62, 54, 5, 44, 42, 21, 4, 4, 96, 46, 182, 1, 64, 54, 6, 167, 0, 110, 43, 42, 21, 4, 4, 96, 46, 42, 21, 4, 5, 96, 46, 45, 184, 1, 65, 54, 5, 44, 42, 21, 4, 4, 96, 46]
def kc_42 : List UInt8 := [42, 21, 4, 5, 96, 46, 182, 1, 67, 54, 6, 167, 0, 70, 43, 42, 21, 4, 4, 96, 46, 45, 184, 1, 68, 54, 5, 44, 42, 21, 4, 4, 96, 46, 182, 1, 70, 54, 6, 167, 0, 42, 43, 182, 1, 71, 87, 44, 182, 1, 74, 87]
def kc_43 : List UInt8 := [167, 0, 29, 43, 182, 1, 75, 87, 44, 182, 1, 79, 87, 167, 0, 16, 43, 182, 1, 80, 88, 44, 182, 1, 84, 88, 167, 0, 3, 132, 4, 4, 167, 247, 84, 4, 172]
def tc_44 : List UInt8 := []
def tc_43 : List UInt8 := kc_43 ++ tc_44
def tc_42 : List UInt8 := kc_42 ++ tc_43
def tc_41 : List UInt8 := kc_41 ++ tc_42
def tc_40 : List UInt8 := kc_40 ++ tc_41
def tc_39 : List UInt8 := kc_39 ++ tc_40
def tc_38 : List UInt8 := kc_38 ++ tc_39
def tc_37 : List UInt8 := kc_37 ++ tc_38
def tc_36 : List UInt8 := kc_36 ++ tc_37
def tc_35 : List UInt8 := kc_35 ++ tc_36
def tc_34 : List UInt8 := kc_34 ++ tc_35
def tc_33 : List UInt8 := kc_33 ++ tc_34
def tc_32 : List UInt8 := kc_32 ++ tc_33
def tc_31 : List UInt8 := kc_31 ++ tc_32
def tc_30 : List UInt8 := kc_30 ++ tc_31
def tc_29 : List UInt8 := kc_29 ++ tc_30
def tc_28 : List UInt8 := kc_28 ++ tc_29
def tc_27 : List UInt8 := kc_27 ++ tc_28
def tc_26 : List UInt8 := kc_26 ++ tc_27
def tc_25 : List UInt8 := kc_25 ++ tc_26
def tc_24 : List UInt8 := kc_24 ++ tc_25
def tc_23 : List UInt8 := kc_23 ++ tc_24
def tc_22 : List UInt8 := kc_22 ++ tc_23
def tc_21 : List UInt8 := kc_21 ++ tc_22
def tc_20 : List UInt8 := kc_20 ++ tc_21
def tc_19 : List UInt8 := kc_19 ++ tc_20
def tc_18 : List UInt8 := kc_18 ++ tc_19
def tc_17 : List UInt8 := kc_17 ++ tc_18
def tc_16 : List UInt8 := kc_16 ++ tc_17
def tc_15 : List UInt8 := kc_15 ++ tc_16
def tc_14 : List UInt8 := kc_14 ++ tc_15
def tc_13 : List UInt8 := kc_13 ++ tc_14
def tc_12 : List UInt8 := kc_12 ++ tc_13
def tc_11 : List UInt8 := kc_11 ++ tc_12
def tc_10 : List UInt8 := kc_10 ++ tc_11
def tc_9 : List UInt8 := kc_9 ++ tc_10
def tc_8 : List UInt8 := kc_8 ++ tc_9
def tc_7 : List UInt8 := kc_7 ++ tc_8
def tc_6 : List UInt8 := kc_6 ++ tc_7
def tc_5 : List UInt8 := kc_5 ++ tc_6
def tc_4 : List UInt8 := kc_4 ++ tc_5
def tc_3 : List UInt8 := kc_3 ++ tc_4
def tc_2 : List UInt8 := kc_2 ++ tc_3
def tc_1 : List UInt8 := kc_1 ++ tc_2
def tc_0 : List UInt8 := kc_0 ++ tc_1
set_option maxRecDepth 100000 in
theorem tc_all : cL_law.data.toList = tc_0 := eqL_eq (by decide +kernel)
theorem ow_0 (r : Nat) : cL_law.data.toList.drop (0 + r) = tc_0.drop r := by rw [tc_all, Nat.zero_add]
theorem ow_1 (r : Nat) : cL_law.data.toList.drop (263 + r) = tc_1.drop r := by
  have e := ow_0 (263 + r)
  rw [show 0 + (263 + r) = 263 + r by omega] at e
  exact e.trans (dr_len (a := kc_0) (t := tc_1) (by decide +kernel))
theorem ow_2 (r : Nat) : cL_law.data.toList.drop (308 + r) = tc_2.drop r := by
  have e := ow_1 (45 + r)
  rw [show 263 + (45 + r) = 308 + r by omega] at e
  exact e.trans (dr_len (a := kc_1) (t := tc_2) (by decide +kernel))
theorem ow_3 (r : Nat) : cL_law.data.toList.drop (353 + r) = tc_3.drop r := by
  have e := ow_2 (45 + r)
  rw [show 308 + (45 + r) = 353 + r by omega] at e
  exact e.trans (dr_len (a := kc_2) (t := tc_3) (by decide +kernel))
theorem ow_4 (r : Nat) : cL_law.data.toList.drop (395 + r) = tc_4.drop r := by
  have e := ow_3 (42 + r)
  rw [show 353 + (42 + r) = 395 + r by omega] at e
  exact e.trans (dr_len (a := kc_3) (t := tc_4) (by decide +kernel))
theorem ow_5 (r : Nat) : cL_law.data.toList.drop (442 + r) = tc_5.drop r := by
  have e := ow_4 (47 + r)
  rw [show 395 + (47 + r) = 442 + r by omega] at e
  exact e.trans (dr_len (a := kc_4) (t := tc_5) (by decide +kernel))
theorem ow_6 (r : Nat) : cL_law.data.toList.drop (489 + r) = tc_6.drop r := by
  have e := ow_5 (47 + r)
  rw [show 442 + (47 + r) = 489 + r by omega] at e
  exact e.trans (dr_len (a := kc_5) (t := tc_6) (by decide +kernel))
theorem ow_7 (r : Nat) : cL_law.data.toList.drop (534 + r) = tc_7.drop r := by
  have e := ow_6 (45 + r)
  rw [show 489 + (45 + r) = 534 + r by omega] at e
  exact e.trans (dr_len (a := kc_6) (t := tc_7) (by decide +kernel))
theorem ow_8 (r : Nat) : cL_law.data.toList.drop (583 + r) = tc_8.drop r := by
  have e := ow_7 (49 + r)
  rw [show 534 + (49 + r) = 583 + r by omega] at e
  exact e.trans (dr_len (a := kc_7) (t := tc_8) (by decide +kernel))
theorem ow_9 (r : Nat) : cL_law.data.toList.drop (628 + r) = tc_9.drop r := by
  have e := ow_8 (45 + r)
  rw [show 583 + (45 + r) = 628 + r by omega] at e
  exact e.trans (dr_len (a := kc_8) (t := tc_9) (by decide +kernel))
theorem ow_10 (r : Nat) : cL_law.data.toList.drop (669 + r) = tc_10.drop r := by
  have e := ow_9 (41 + r)
  rw [show 628 + (41 + r) = 669 + r by omega] at e
  exact e.trans (dr_len (a := kc_9) (t := tc_10) (by decide +kernel))
theorem ow_11 (r : Nat) : cL_law.data.toList.drop (717 + r) = tc_11.drop r := by
  have e := ow_10 (48 + r)
  rw [show 669 + (48 + r) = 717 + r by omega] at e
  exact e.trans (dr_len (a := kc_10) (t := tc_11) (by decide +kernel))
theorem ow_12 (r : Nat) : cL_law.data.toList.drop (762 + r) = tc_12.drop r := by
  have e := ow_11 (45 + r)
  rw [show 717 + (45 + r) = 762 + r by omega] at e
  exact e.trans (dr_len (a := kc_11) (t := tc_12) (by decide +kernel))
theorem ow_13 (r : Nat) : cL_law.data.toList.drop (811 + r) = tc_13.drop r := by
  have e := ow_12 (49 + r)
  rw [show 762 + (49 + r) = 811 + r by omega] at e
  exact e.trans (dr_len (a := kc_12) (t := tc_13) (by decide +kernel))
theorem ow_14 (r : Nat) : cL_law.data.toList.drop (854 + r) = tc_14.drop r := by
  have e := ow_13 (43 + r)
  rw [show 811 + (43 + r) = 854 + r by omega] at e
  exact e.trans (dr_len (a := kc_13) (t := tc_14) (by decide +kernel))
theorem ow_15 (r : Nat) : cL_law.data.toList.drop (903 + r) = tc_15.drop r := by
  have e := ow_14 (49 + r)
  rw [show 854 + (49 + r) = 903 + r by omega] at e
  exact e.trans (dr_len (a := kc_14) (t := tc_15) (by decide +kernel))
theorem ow_16 (r : Nat) : cL_law.data.toList.drop (950 + r) = tc_16.drop r := by
  have e := ow_15 (47 + r)
  rw [show 903 + (47 + r) = 950 + r by omega] at e
  exact e.trans (dr_len (a := kc_15) (t := tc_16) (by decide +kernel))
theorem ow_17 (r : Nat) : cL_law.data.toList.drop (999 + r) = tc_17.drop r := by
  have e := ow_16 (49 + r)
  rw [show 950 + (49 + r) = 999 + r by omega] at e
  exact e.trans (dr_len (a := kc_16) (t := tc_17) (by decide +kernel))
theorem ow_18 (r : Nat) : cL_law.data.toList.drop (1044 + r) = tc_18.drop r := by
  have e := ow_17 (45 + r)
  rw [show 999 + (45 + r) = 1044 + r by omega] at e
  exact e.trans (dr_len (a := kc_17) (t := tc_18) (by decide +kernel))
theorem ow_19 (r : Nat) : cL_law.data.toList.drop (1091 + r) = tc_19.drop r := by
  have e := ow_18 (47 + r)
  rw [show 1044 + (47 + r) = 1091 + r by omega] at e
  exact e.trans (dr_len (a := kc_18) (t := tc_19) (by decide +kernel))
theorem ow_20 (r : Nat) : cL_law.data.toList.drop (1140 + r) = tc_20.drop r := by
  have e := ow_19 (49 + r)
  rw [show 1091 + (49 + r) = 1140 + r by omega] at e
  exact e.trans (dr_len (a := kc_19) (t := tc_20) (by decide +kernel))
theorem ow_21 (r : Nat) : cL_law.data.toList.drop (1181 + r) = tc_21.drop r := by
  have e := ow_20 (41 + r)
  rw [show 1140 + (41 + r) = 1181 + r by omega] at e
  exact e.trans (dr_len (a := kc_20) (t := tc_21) (by decide +kernel))
theorem ow_22 (r : Nat) : cL_law.data.toList.drop (1225 + r) = tc_22.drop r := by
  have e := ow_21 (44 + r)
  rw [show 1181 + (44 + r) = 1225 + r by omega] at e
  exact e.trans (dr_len (a := kc_21) (t := tc_22) (by decide +kernel))
theorem ow_23 (r : Nat) : cL_law.data.toList.drop (1270 + r) = tc_23.drop r := by
  have e := ow_22 (45 + r)
  rw [show 1225 + (45 + r) = 1270 + r by omega] at e
  exact e.trans (dr_len (a := kc_22) (t := tc_23) (by decide +kernel))
theorem ow_24 (r : Nat) : cL_law.data.toList.drop (1315 + r) = tc_24.drop r := by
  have e := ow_23 (45 + r)
  rw [show 1270 + (45 + r) = 1315 + r by omega] at e
  exact e.trans (dr_len (a := kc_23) (t := tc_24) (by decide +kernel))
theorem ow_25 (r : Nat) : cL_law.data.toList.drop (1364 + r) = tc_25.drop r := by
  have e := ow_24 (49 + r)
  rw [show 1315 + (49 + r) = 1364 + r by omega] at e
  exact e.trans (dr_len (a := kc_24) (t := tc_25) (by decide +kernel))
theorem ow_26 (r : Nat) : cL_law.data.toList.drop (1405 + r) = tc_26.drop r := by
  have e := ow_25 (41 + r)
  rw [show 1364 + (41 + r) = 1405 + r by omega] at e
  exact e.trans (dr_len (a := kc_25) (t := tc_26) (by decide +kernel))
theorem ow_27 (r : Nat) : cL_law.data.toList.drop (1459 + r) = tc_27.drop r := by
  have e := ow_26 (54 + r)
  rw [show 1405 + (54 + r) = 1459 + r by omega] at e
  exact e.trans (dr_len (a := kc_26) (t := tc_27) (by decide +kernel))
theorem ow_28 (r : Nat) : cL_law.data.toList.drop (1504 + r) = tc_28.drop r := by
  have e := ow_27 (45 + r)
  rw [show 1459 + (45 + r) = 1504 + r by omega] at e
  exact e.trans (dr_len (a := kc_27) (t := tc_28) (by decide +kernel))
theorem ow_29 (r : Nat) : cL_law.data.toList.drop (1555 + r) = tc_29.drop r := by
  have e := ow_28 (51 + r)
  rw [show 1504 + (51 + r) = 1555 + r by omega] at e
  exact e.trans (dr_len (a := kc_28) (t := tc_29) (by decide +kernel))
theorem ow_30 (r : Nat) : cL_law.data.toList.drop (1600 + r) = tc_30.drop r := by
  have e := ow_29 (45 + r)
  rw [show 1555 + (45 + r) = 1600 + r by omega] at e
  exact e.trans (dr_len (a := kc_29) (t := tc_30) (by decide +kernel))
theorem ow_31 (r : Nat) : cL_law.data.toList.drop (1649 + r) = tc_31.drop r := by
  have e := ow_30 (49 + r)
  rw [show 1600 + (49 + r) = 1649 + r by omega] at e
  exact e.trans (dr_len (a := kc_30) (t := tc_31) (by decide +kernel))
theorem ow_32 (r : Nat) : cL_law.data.toList.drop (1694 + r) = tc_32.drop r := by
  have e := ow_31 (45 + r)
  rw [show 1649 + (45 + r) = 1694 + r by omega] at e
  exact e.trans (dr_len (a := kc_31) (t := tc_32) (by decide +kernel))
theorem ow_33 (r : Nat) : cL_law.data.toList.drop (1738 + r) = tc_33.drop r := by
  have e := ow_32 (44 + r)
  rw [show 1694 + (44 + r) = 1738 + r by omega] at e
  exact e.trans (dr_len (a := kc_32) (t := tc_33) (by decide +kernel))
theorem ow_34 (r : Nat) : cL_law.data.toList.drop (1786 + r) = tc_34.drop r := by
  have e := ow_33 (48 + r)
  rw [show 1738 + (48 + r) = 1786 + r by omega] at e
  exact e.trans (dr_len (a := kc_33) (t := tc_34) (by decide +kernel))
theorem ow_35 (r : Nat) : cL_law.data.toList.drop (1836 + r) = tc_35.drop r := by
  have e := ow_34 (50 + r)
  rw [show 1786 + (50 + r) = 1836 + r by omega] at e
  exact e.trans (dr_len (a := kc_34) (t := tc_35) (by decide +kernel))
theorem ow_36 (r : Nat) : cL_law.data.toList.drop (1882 + r) = tc_36.drop r := by
  have e := ow_35 (46 + r)
  rw [show 1836 + (46 + r) = 1882 + r by omega] at e
  exact e.trans (dr_len (a := kc_35) (t := tc_36) (by decide +kernel))
theorem ow_37 (r : Nat) : cL_law.data.toList.drop (1926 + r) = tc_37.drop r := by
  have e := ow_36 (44 + r)
  rw [show 1882 + (44 + r) = 1926 + r by omega] at e
  exact e.trans (dr_len (a := kc_36) (t := tc_37) (by decide +kernel))
theorem ow_38 (r : Nat) : cL_law.data.toList.drop (1975 + r) = tc_38.drop r := by
  have e := ow_37 (49 + r)
  rw [show 1926 + (49 + r) = 1975 + r by omega] at e
  exact e.trans (dr_len (a := kc_37) (t := tc_38) (by decide +kernel))
theorem ow_39 (r : Nat) : cL_law.data.toList.drop (2016 + r) = tc_39.drop r := by
  have e := ow_38 (41 + r)
  rw [show 1975 + (41 + r) = 2016 + r by omega] at e
  exact e.trans (dr_len (a := kc_38) (t := tc_39) (by decide +kernel))
theorem ow_40 (r : Nat) : cL_law.data.toList.drop (2067 + r) = tc_40.drop r := by
  have e := ow_39 (51 + r)
  rw [show 2016 + (51 + r) = 2067 + r by omega] at e
  exact e.trans (dr_len (a := kc_39) (t := tc_40) (by decide +kernel))
theorem ow_41 (r : Nat) : cL_law.data.toList.drop (2116 + r) = tc_41.drop r := by
  have e := ow_40 (49 + r)
  rw [show 2067 + (49 + r) = 2116 + r by omega] at e
  exact e.trans (dr_len (a := kc_40) (t := tc_41) (by decide +kernel))
theorem ow_42 (r : Nat) : cL_law.data.toList.drop (2163 + r) = tc_42.drop r := by
  have e := ow_41 (47 + r)
  rw [show 2116 + (47 + r) = 2163 + r by omega] at e
  exact e.trans (dr_len (a := kc_41) (t := tc_42) (by decide +kernel))
theorem ow_43 (r : Nat) : cL_law.data.toList.drop (2215 + r) = tc_43.drop r := by
  have e := ow_42 (52 + r)
  rw [show 2163 + (52 + r) = 2215 + r by omega] at e
  exact e.trans (dr_len (a := kc_42) (t := tc_43) (by decide +kernel))
theorem oo_0 (r : Nat) {pc : Nat} {l : List UInt8} (hp : 0 + r = pc) (h : tc_0.drop r = l) : cL_law.data.toList.drop pc = l := by
  subst hp
  exact (ow_0 r).trans h
theorem oo_1 (r : Nat) {pc : Nat} {l : List UInt8} (hp : 263 + r = pc) (h : tc_1.drop r = l) : cL_law.data.toList.drop pc = l := by
  subst hp
  exact (ow_1 r).trans h
theorem oo_2 (r : Nat) {pc : Nat} {l : List UInt8} (hp : 308 + r = pc) (h : tc_2.drop r = l) : cL_law.data.toList.drop pc = l := by
  subst hp
  exact (ow_2 r).trans h
theorem oo_3 (r : Nat) {pc : Nat} {l : List UInt8} (hp : 353 + r = pc) (h : tc_3.drop r = l) : cL_law.data.toList.drop pc = l := by
  subst hp
  exact (ow_3 r).trans h
theorem oo_4 (r : Nat) {pc : Nat} {l : List UInt8} (hp : 395 + r = pc) (h : tc_4.drop r = l) : cL_law.data.toList.drop pc = l := by
  subst hp
  exact (ow_4 r).trans h
theorem oo_5 (r : Nat) {pc : Nat} {l : List UInt8} (hp : 442 + r = pc) (h : tc_5.drop r = l) : cL_law.data.toList.drop pc = l := by
  subst hp
  exact (ow_5 r).trans h
theorem oo_6 (r : Nat) {pc : Nat} {l : List UInt8} (hp : 489 + r = pc) (h : tc_6.drop r = l) : cL_law.data.toList.drop pc = l := by
  subst hp
  exact (ow_6 r).trans h
theorem oo_7 (r : Nat) {pc : Nat} {l : List UInt8} (hp : 534 + r = pc) (h : tc_7.drop r = l) : cL_law.data.toList.drop pc = l := by
  subst hp
  exact (ow_7 r).trans h
theorem oo_8 (r : Nat) {pc : Nat} {l : List UInt8} (hp : 583 + r = pc) (h : tc_8.drop r = l) : cL_law.data.toList.drop pc = l := by
  subst hp
  exact (ow_8 r).trans h
theorem oo_9 (r : Nat) {pc : Nat} {l : List UInt8} (hp : 628 + r = pc) (h : tc_9.drop r = l) : cL_law.data.toList.drop pc = l := by
  subst hp
  exact (ow_9 r).trans h
theorem oo_10 (r : Nat) {pc : Nat} {l : List UInt8} (hp : 669 + r = pc) (h : tc_10.drop r = l) : cL_law.data.toList.drop pc = l := by
  subst hp
  exact (ow_10 r).trans h
theorem oo_11 (r : Nat) {pc : Nat} {l : List UInt8} (hp : 717 + r = pc) (h : tc_11.drop r = l) : cL_law.data.toList.drop pc = l := by
  subst hp
  exact (ow_11 r).trans h
theorem oo_12 (r : Nat) {pc : Nat} {l : List UInt8} (hp : 762 + r = pc) (h : tc_12.drop r = l) : cL_law.data.toList.drop pc = l := by
  subst hp
  exact (ow_12 r).trans h
theorem oo_13 (r : Nat) {pc : Nat} {l : List UInt8} (hp : 811 + r = pc) (h : tc_13.drop r = l) : cL_law.data.toList.drop pc = l := by
  subst hp
  exact (ow_13 r).trans h
theorem oo_14 (r : Nat) {pc : Nat} {l : List UInt8} (hp : 854 + r = pc) (h : tc_14.drop r = l) : cL_law.data.toList.drop pc = l := by
  subst hp
  exact (ow_14 r).trans h
theorem oo_15 (r : Nat) {pc : Nat} {l : List UInt8} (hp : 903 + r = pc) (h : tc_15.drop r = l) : cL_law.data.toList.drop pc = l := by
  subst hp
  exact (ow_15 r).trans h
theorem oo_16 (r : Nat) {pc : Nat} {l : List UInt8} (hp : 950 + r = pc) (h : tc_16.drop r = l) : cL_law.data.toList.drop pc = l := by
  subst hp
  exact (ow_16 r).trans h
theorem oo_17 (r : Nat) {pc : Nat} {l : List UInt8} (hp : 999 + r = pc) (h : tc_17.drop r = l) : cL_law.data.toList.drop pc = l := by
  subst hp
  exact (ow_17 r).trans h
theorem oo_18 (r : Nat) {pc : Nat} {l : List UInt8} (hp : 1044 + r = pc) (h : tc_18.drop r = l) : cL_law.data.toList.drop pc = l := by
  subst hp
  exact (ow_18 r).trans h
theorem oo_19 (r : Nat) {pc : Nat} {l : List UInt8} (hp : 1091 + r = pc) (h : tc_19.drop r = l) : cL_law.data.toList.drop pc = l := by
  subst hp
  exact (ow_19 r).trans h
theorem oo_20 (r : Nat) {pc : Nat} {l : List UInt8} (hp : 1140 + r = pc) (h : tc_20.drop r = l) : cL_law.data.toList.drop pc = l := by
  subst hp
  exact (ow_20 r).trans h
theorem oo_21 (r : Nat) {pc : Nat} {l : List UInt8} (hp : 1181 + r = pc) (h : tc_21.drop r = l) : cL_law.data.toList.drop pc = l := by
  subst hp
  exact (ow_21 r).trans h
theorem oo_22 (r : Nat) {pc : Nat} {l : List UInt8} (hp : 1225 + r = pc) (h : tc_22.drop r = l) : cL_law.data.toList.drop pc = l := by
  subst hp
  exact (ow_22 r).trans h
theorem oo_23 (r : Nat) {pc : Nat} {l : List UInt8} (hp : 1270 + r = pc) (h : tc_23.drop r = l) : cL_law.data.toList.drop pc = l := by
  subst hp
  exact (ow_23 r).trans h
theorem oo_24 (r : Nat) {pc : Nat} {l : List UInt8} (hp : 1315 + r = pc) (h : tc_24.drop r = l) : cL_law.data.toList.drop pc = l := by
  subst hp
  exact (ow_24 r).trans h
theorem oo_25 (r : Nat) {pc : Nat} {l : List UInt8} (hp : 1364 + r = pc) (h : tc_25.drop r = l) : cL_law.data.toList.drop pc = l := by
  subst hp
  exact (ow_25 r).trans h
theorem oo_26 (r : Nat) {pc : Nat} {l : List UInt8} (hp : 1405 + r = pc) (h : tc_26.drop r = l) : cL_law.data.toList.drop pc = l := by
  subst hp
  exact (ow_26 r).trans h
theorem oo_27 (r : Nat) {pc : Nat} {l : List UInt8} (hp : 1459 + r = pc) (h : tc_27.drop r = l) : cL_law.data.toList.drop pc = l := by
  subst hp
  exact (ow_27 r).trans h
theorem oo_28 (r : Nat) {pc : Nat} {l : List UInt8} (hp : 1504 + r = pc) (h : tc_28.drop r = l) : cL_law.data.toList.drop pc = l := by
  subst hp
  exact (ow_28 r).trans h
theorem oo_29 (r : Nat) {pc : Nat} {l : List UInt8} (hp : 1555 + r = pc) (h : tc_29.drop r = l) : cL_law.data.toList.drop pc = l := by
  subst hp
  exact (ow_29 r).trans h
theorem oo_30 (r : Nat) {pc : Nat} {l : List UInt8} (hp : 1600 + r = pc) (h : tc_30.drop r = l) : cL_law.data.toList.drop pc = l := by
  subst hp
  exact (ow_30 r).trans h
theorem oo_31 (r : Nat) {pc : Nat} {l : List UInt8} (hp : 1649 + r = pc) (h : tc_31.drop r = l) : cL_law.data.toList.drop pc = l := by
  subst hp
  exact (ow_31 r).trans h
theorem oo_32 (r : Nat) {pc : Nat} {l : List UInt8} (hp : 1694 + r = pc) (h : tc_32.drop r = l) : cL_law.data.toList.drop pc = l := by
  subst hp
  exact (ow_32 r).trans h
theorem oo_33 (r : Nat) {pc : Nat} {l : List UInt8} (hp : 1738 + r = pc) (h : tc_33.drop r = l) : cL_law.data.toList.drop pc = l := by
  subst hp
  exact (ow_33 r).trans h
theorem oo_34 (r : Nat) {pc : Nat} {l : List UInt8} (hp : 1786 + r = pc) (h : tc_34.drop r = l) : cL_law.data.toList.drop pc = l := by
  subst hp
  exact (ow_34 r).trans h
theorem oo_35 (r : Nat) {pc : Nat} {l : List UInt8} (hp : 1836 + r = pc) (h : tc_35.drop r = l) : cL_law.data.toList.drop pc = l := by
  subst hp
  exact (ow_35 r).trans h
theorem oo_36 (r : Nat) {pc : Nat} {l : List UInt8} (hp : 1882 + r = pc) (h : tc_36.drop r = l) : cL_law.data.toList.drop pc = l := by
  subst hp
  exact (ow_36 r).trans h
theorem oo_37 (r : Nat) {pc : Nat} {l : List UInt8} (hp : 1926 + r = pc) (h : tc_37.drop r = l) : cL_law.data.toList.drop pc = l := by
  subst hp
  exact (ow_37 r).trans h
theorem oo_38 (r : Nat) {pc : Nat} {l : List UInt8} (hp : 1975 + r = pc) (h : tc_38.drop r = l) : cL_law.data.toList.drop pc = l := by
  subst hp
  exact (ow_38 r).trans h
theorem oo_39 (r : Nat) {pc : Nat} {l : List UInt8} (hp : 2016 + r = pc) (h : tc_39.drop r = l) : cL_law.data.toList.drop pc = l := by
  subst hp
  exact (ow_39 r).trans h
theorem oo_40 (r : Nat) {pc : Nat} {l : List UInt8} (hp : 2067 + r = pc) (h : tc_40.drop r = l) : cL_law.data.toList.drop pc = l := by
  subst hp
  exact (ow_40 r).trans h
theorem oo_41 (r : Nat) {pc : Nat} {l : List UInt8} (hp : 2116 + r = pc) (h : tc_41.drop r = l) : cL_law.data.toList.drop pc = l := by
  subst hp
  exact (ow_41 r).trans h
theorem oo_42 (r : Nat) {pc : Nat} {l : List UInt8} (hp : 2163 + r = pc) (h : tc_42.drop r = l) : cL_law.data.toList.drop pc = l := by
  subst hp
  exact (ow_42 r).trans h
theorem oo_43 (r : Nat) {pc : Nat} {l : List UInt8} (hp : 2215 + r = pc) (h : tc_43.drop r = l) : cL_law.data.toList.drop pc = l := by
  subst hp
  exact (ow_43 r).trans h
end
section
/-! decode rows -/
theorem dL_law_0 : decode cL_law 0 = .ok (.new 8, 3) := dn_187 (oo_0 0 rfl rfl) rfl
theorem dL_law_3 : decode cL_law 3 = .ok (.dup, 1) := dn_89 (oo_0 3 rfl rfl)
theorem dL_law_4 : decode cL_law 4 = .ok (.invokespecial 171, 3) := dn_183 (oo_0 4 rfl rfl) rfl
theorem dL_law_7 : decode cL_law 7 = .ok (.astore_n 1, 1) := dn_76 (oo_0 7 rfl rfl)
theorem dL_law_8 : decode cL_law 8 = .ok (.new 172, 3) := dn_187 (oo_0 8 rfl rfl) rfl
theorem dL_law_11 : decode cL_law 11 = .ok (.dup, 1) := dn_89 (oo_0 11 rfl rfl)
theorem dL_law_12 : decode cL_law 12 = .ok (.invokespecial 174, 3) := dn_183 (oo_0 12 rfl rfl) rfl
theorem dL_law_15 : decode cL_law 15 = .ok (.astore_n 2, 1) := dn_77 (oo_0 15 rfl rfl)
theorem dL_law_16 : decode cL_law 16 = .ok (.new 14, 3) := dn_187 (oo_0 16 rfl rfl) rfl
theorem dL_law_19 : decode cL_law 19 = .ok (.dup, 1) := dn_89 (oo_0 19 rfl rfl)
theorem dL_law_20 : decode cL_law 20 = .ok (.invokespecial 175, 3) := dn_183 (oo_0 20 rfl rfl) rfl
theorem dL_law_23 : decode cL_law 23 = .ok (.astore_n 3, 1) := dn_78 (oo_0 23 rfl rfl)
theorem dL_law_24 : decode cL_law 24 = .ok (.iconst 0, 1) := dn_3 (oo_0 24 rfl rfl)
theorem dL_law_25 : decode cL_law 25 = .ok (.istore 4, 2) := dn_54 (oo_0 25 rfl rfl) rfl
theorem dL_law_27 : decode cL_law 27 = .ok (.iload 4, 2) := dn_21 (oo_0 27 rfl rfl) rfl
theorem dL_law_29 : decode cL_law 29 = .ok (.aload_n 0, 1) := dn_42 (oo_0 29 rfl rfl)
theorem dL_law_30 : decode cL_law 30 = .ok (.arraylength, 1) := dn_190 (oo_0 30 rfl rfl)
theorem dL_law_31 : decode cL_law 31 = .ok (.iconst 4, 1) := dn_7 (oo_0 31 rfl rfl)
theorem dL_law_32 : decode cL_law 32 = .ok (.isub, 1) := dn_100 (oo_0 32 rfl rfl)
theorem dL_law_33 : decode cL_law 33 = .ok (.if_icmp .gt 2217, 3) := dn_163 (oo_0 33 rfl rfl) (by decide +kernel)
theorem dL_law_36 : decode cL_law 36 = .ok (.aload_n 0, 1) := dn_42 (oo_0 36 rfl rfl)
theorem dL_law_37 : decode cL_law 37 = .ok (.iload 4, 2) := dn_21 (oo_0 37 rfl rfl) rfl
theorem dL_law_39 : decode cL_law 39 = .ok (.iaload, 1) := dn_46 (oo_0 39 rfl rfl)
theorem dL_law_40 : decode cL_law 40 = .ok (.bipush 63, 2) := dn_16 (oo_0 40 rfl rfl) (by decide +kernel)
theorem dL_law_42 : decode cL_law 42 = .ok (.iand, 1) := dn_126 (oo_0 42 rfl rfl)
theorem dL_law_43 : decode cL_law 43 = .ok (.tableswitch 2201 0 49 #[213, 253, 305, 357, 397, 425, 465, 505, 533, 585, 637, 705, 773, 825, 853, 881, 921, 949, 989, 1057, 1097, 1149, 1201, 1241, 1281, 1321, 1402, 1430, 1470, 1498, 1526, 1566, 1606, 1646, 1714, 1754, 1782, 1810, 1862, 1902, 1930, 1982, 2010, 2038, 2066, 2094, 2134, 2162, 2175, 2188], 213) := by decide +kernel
theorem dL_law_256 : decode cL_law 256 = .ok (.aload_n 1, 1) := dn_43 (oo_0 256 rfl rfl)
theorem dL_law_257 : decode cL_law 257 = .ok (.aload_n 0, 1) := dn_42 (oo_0 257 rfl rfl)
theorem dL_law_258 : decode cL_law 258 = .ok (.iload 4, 2) := dn_21 (oo_0 258 rfl rfl) rfl
theorem dL_law_260 : decode cL_law 260 = .ok (.iconst 1, 1) := dn_4 (oo_0 260 rfl rfl)
theorem dL_law_261 : decode cL_law 261 = .ok (.iadd, 1) := dn_96 (oo_0 261 rfl rfl)
theorem dL_law_262 : decode cL_law 262 = .ok (.iaload, 1) := dn_46 (oo_0 262 rfl rfl)
theorem dL_law_263 : decode cL_law 263 = .ok (.aload_n 0, 1) := dn_42 (oo_1 0 rfl rfl)
theorem dL_law_264 : decode cL_law 264 = .ok (.iload 4, 2) := dn_21 (oo_1 1 rfl rfl) rfl
theorem dL_law_266 : decode cL_law 266 = .ok (.iconst 2, 1) := dn_5 (oo_1 3 rfl rfl)
theorem dL_law_267 : decode cL_law 267 = .ok (.iadd, 1) := dn_96 (oo_1 4 rfl rfl)
theorem dL_law_268 : decode cL_law 268 = .ok (.iaload, 1) := dn_46 (oo_1 5 rfl rfl)
theorem dL_law_269 : decode cL_law 269 = .ok (.aload_n 3, 1) := dn_45 (oo_1 6 rfl rfl)
theorem dL_law_270 : decode cL_law 270 = .ok (.invokestatic 176, 3) := dn_184 (oo_1 7 rfl rfl) rfl
theorem dL_law_273 : decode cL_law 273 = .ok (.istore 5, 2) := dn_54 (oo_1 10 rfl rfl) rfl
theorem dL_law_275 : decode cL_law 275 = .ok (.aload_n 2, 1) := dn_44 (oo_1 12 rfl rfl)
theorem dL_law_276 : decode cL_law 276 = .ok (.aload_n 0, 1) := dn_42 (oo_1 13 rfl rfl)
theorem dL_law_277 : decode cL_law 277 = .ok (.iload 4, 2) := dn_21 (oo_1 14 rfl rfl) rfl
theorem dL_law_279 : decode cL_law 279 = .ok (.iconst 1, 1) := dn_4 (oo_1 16 rfl rfl)
theorem dL_law_280 : decode cL_law 280 = .ok (.iadd, 1) := dn_96 (oo_1 17 rfl rfl)
theorem dL_law_281 : decode cL_law 281 = .ok (.iaload, 1) := dn_46 (oo_1 18 rfl rfl)
theorem dL_law_282 : decode cL_law 282 = .ok (.aload_n 0, 1) := dn_42 (oo_1 19 rfl rfl)
theorem dL_law_283 : decode cL_law 283 = .ok (.iload 4, 2) := dn_21 (oo_1 20 rfl rfl) rfl
theorem dL_law_285 : decode cL_law 285 = .ok (.iconst 2, 1) := dn_5 (oo_1 22 rfl rfl)
theorem dL_law_286 : decode cL_law 286 = .ok (.iadd, 1) := dn_96 (oo_1 23 rfl rfl)
theorem dL_law_287 : decode cL_law 287 = .ok (.iaload, 1) := dn_46 (oo_1 24 rfl rfl)
theorem dL_law_288 : decode cL_law 288 = .ok (.invokevirtual 181, 3) := dn_182 (oo_1 25 rfl rfl) rfl
theorem dL_law_291 : decode cL_law 291 = .ok (.istore 6, 2) := dn_54 (oo_1 28 rfl rfl) rfl
theorem dL_law_293 : decode cL_law 293 = .ok (.goto 1951, 3) := dn_167 (oo_1 30 rfl rfl) (by decide +kernel)
theorem dL_law_296 : decode cL_law 296 = .ok (.aload_n 1, 1) := dn_43 (oo_1 33 rfl rfl)
theorem dL_law_297 : decode cL_law 297 = .ok (.aload_n 0, 1) := dn_42 (oo_1 34 rfl rfl)
theorem dL_law_298 : decode cL_law 298 = .ok (.iload 4, 2) := dn_21 (oo_1 35 rfl rfl) rfl
theorem dL_law_300 : decode cL_law 300 = .ok (.iconst 1, 1) := dn_4 (oo_1 37 rfl rfl)
theorem dL_law_301 : decode cL_law 301 = .ok (.iadd, 1) := dn_96 (oo_1 38 rfl rfl)
theorem dL_law_302 : decode cL_law 302 = .ok (.iaload, 1) := dn_46 (oo_1 39 rfl rfl)
theorem dL_law_303 : decode cL_law 303 = .ok (.aload_n 0, 1) := dn_42 (oo_1 40 rfl rfl)
theorem dL_law_304 : decode cL_law 304 = .ok (.iload 4, 2) := dn_21 (oo_1 41 rfl rfl) rfl
theorem dL_law_306 : decode cL_law 306 = .ok (.iconst 2, 1) := dn_5 (oo_1 43 rfl rfl)
theorem dL_law_307 : decode cL_law 307 = .ok (.iadd, 1) := dn_96 (oo_1 44 rfl rfl)
theorem dL_law_308 : decode cL_law 308 = .ok (.iaload, 1) := dn_46 (oo_2 0 rfl rfl)
theorem dL_law_309 : decode cL_law 309 = .ok (.aload_n 0, 1) := dn_42 (oo_2 1 rfl rfl)
theorem dL_law_310 : decode cL_law 310 = .ok (.iload 4, 2) := dn_21 (oo_2 2 rfl rfl) rfl
theorem dL_law_312 : decode cL_law 312 = .ok (.iconst 3, 1) := dn_6 (oo_2 4 rfl rfl)
theorem dL_law_313 : decode cL_law 313 = .ok (.iadd, 1) := dn_96 (oo_2 5 rfl rfl)
theorem dL_law_314 : decode cL_law 314 = .ok (.iaload, 1) := dn_46 (oo_2 6 rfl rfl)
theorem dL_law_315 : decode cL_law 315 = .ok (.aload_n 3, 1) := dn_45 (oo_2 7 rfl rfl)
theorem dL_law_316 : decode cL_law 316 = .ok (.invokestatic 182, 3) := dn_184 (oo_2 8 rfl rfl) rfl
theorem dL_law_319 : decode cL_law 319 = .ok (.istore 5, 2) := dn_54 (oo_2 11 rfl rfl) rfl
theorem dL_law_321 : decode cL_law 321 = .ok (.aload_n 2, 1) := dn_44 (oo_2 13 rfl rfl)
theorem dL_law_322 : decode cL_law 322 = .ok (.aload_n 0, 1) := dn_42 (oo_2 14 rfl rfl)
theorem dL_law_323 : decode cL_law 323 = .ok (.iload 4, 2) := dn_21 (oo_2 15 rfl rfl) rfl
theorem dL_law_325 : decode cL_law 325 = .ok (.iconst 1, 1) := dn_4 (oo_2 17 rfl rfl)
theorem dL_law_326 : decode cL_law 326 = .ok (.iadd, 1) := dn_96 (oo_2 18 rfl rfl)
theorem dL_law_327 : decode cL_law 327 = .ok (.iaload, 1) := dn_46 (oo_2 19 rfl rfl)
theorem dL_law_328 : decode cL_law 328 = .ok (.aload_n 0, 1) := dn_42 (oo_2 20 rfl rfl)
theorem dL_law_329 : decode cL_law 329 = .ok (.iload 4, 2) := dn_21 (oo_2 21 rfl rfl) rfl
theorem dL_law_331 : decode cL_law 331 = .ok (.iconst 2, 1) := dn_5 (oo_2 23 rfl rfl)
theorem dL_law_332 : decode cL_law 332 = .ok (.iadd, 1) := dn_96 (oo_2 24 rfl rfl)
theorem dL_law_333 : decode cL_law 333 = .ok (.iaload, 1) := dn_46 (oo_2 25 rfl rfl)
theorem dL_law_334 : decode cL_law 334 = .ok (.aload_n 0, 1) := dn_42 (oo_2 26 rfl rfl)
theorem dL_law_335 : decode cL_law 335 = .ok (.iload 4, 2) := dn_21 (oo_2 27 rfl rfl) rfl
theorem dL_law_337 : decode cL_law 337 = .ok (.iconst 3, 1) := dn_6 (oo_2 29 rfl rfl)
theorem dL_law_338 : decode cL_law 338 = .ok (.iadd, 1) := dn_96 (oo_2 30 rfl rfl)
theorem dL_law_339 : decode cL_law 339 = .ok (.iaload, 1) := dn_46 (oo_2 31 rfl rfl)
theorem dL_law_340 : decode cL_law 340 = .ok (.invokevirtual 185, 3) := dn_182 (oo_2 32 rfl rfl) rfl
theorem dL_law_343 : decode cL_law 343 = .ok (.istore 6, 2) := dn_54 (oo_2 35 rfl rfl) rfl
theorem dL_law_345 : decode cL_law 345 = .ok (.goto 1899, 3) := dn_167 (oo_2 37 rfl rfl) (by decide +kernel)
theorem dL_law_348 : decode cL_law 348 = .ok (.aload_n 1, 1) := dn_43 (oo_2 40 rfl rfl)
theorem dL_law_349 : decode cL_law 349 = .ok (.aload_n 0, 1) := dn_42 (oo_2 41 rfl rfl)
theorem dL_law_350 : decode cL_law 350 = .ok (.iload 4, 2) := dn_21 (oo_2 42 rfl rfl) rfl
theorem dL_law_352 : decode cL_law 352 = .ok (.iconst 1, 1) := dn_4 (oo_2 44 rfl rfl)
theorem dL_law_353 : decode cL_law 353 = .ok (.iadd, 1) := dn_96 (oo_3 0 rfl rfl)
theorem dL_law_354 : decode cL_law 354 = .ok (.iaload, 1) := dn_46 (oo_3 1 rfl rfl)
theorem dL_law_355 : decode cL_law 355 = .ok (.aload_n 0, 1) := dn_42 (oo_3 2 rfl rfl)
theorem dL_law_356 : decode cL_law 356 = .ok (.iload 4, 2) := dn_21 (oo_3 3 rfl rfl) rfl
theorem dL_law_358 : decode cL_law 358 = .ok (.iconst 2, 1) := dn_5 (oo_3 5 rfl rfl)
theorem dL_law_359 : decode cL_law 359 = .ok (.iadd, 1) := dn_96 (oo_3 6 rfl rfl)
theorem dL_law_360 : decode cL_law 360 = .ok (.iaload, 1) := dn_46 (oo_3 7 rfl rfl)
theorem dL_law_361 : decode cL_law 361 = .ok (.aload_n 0, 1) := dn_42 (oo_3 8 rfl rfl)
theorem dL_law_362 : decode cL_law 362 = .ok (.iload 4, 2) := dn_21 (oo_3 9 rfl rfl) rfl
theorem dL_law_364 : decode cL_law 364 = .ok (.iconst 3, 1) := dn_6 (oo_3 11 rfl rfl)
theorem dL_law_365 : decode cL_law 365 = .ok (.iadd, 1) := dn_96 (oo_3 12 rfl rfl)
theorem dL_law_366 : decode cL_law 366 = .ok (.iaload, 1) := dn_46 (oo_3 13 rfl rfl)
theorem dL_law_367 : decode cL_law 367 = .ok (.aload_n 3, 1) := dn_45 (oo_3 14 rfl rfl)
theorem dL_law_368 : decode cL_law 368 = .ok (.invokestatic 186, 3) := dn_184 (oo_3 15 rfl rfl) rfl
theorem dL_law_371 : decode cL_law 371 = .ok (.istore 5, 2) := dn_54 (oo_3 18 rfl rfl) rfl
theorem dL_law_373 : decode cL_law 373 = .ok (.aload_n 2, 1) := dn_44 (oo_3 20 rfl rfl)
theorem dL_law_374 : decode cL_law 374 = .ok (.aload_n 0, 1) := dn_42 (oo_3 21 rfl rfl)
theorem dL_law_375 : decode cL_law 375 = .ok (.iload 4, 2) := dn_21 (oo_3 22 rfl rfl) rfl
theorem dL_law_377 : decode cL_law 377 = .ok (.iconst 1, 1) := dn_4 (oo_3 24 rfl rfl)
theorem dL_law_378 : decode cL_law 378 = .ok (.iadd, 1) := dn_96 (oo_3 25 rfl rfl)
theorem dL_law_379 : decode cL_law 379 = .ok (.iaload, 1) := dn_46 (oo_3 26 rfl rfl)
theorem dL_law_380 : decode cL_law 380 = .ok (.aload_n 0, 1) := dn_42 (oo_3 27 rfl rfl)
theorem dL_law_381 : decode cL_law 381 = .ok (.iload 4, 2) := dn_21 (oo_3 28 rfl rfl) rfl
theorem dL_law_383 : decode cL_law 383 = .ok (.iconst 2, 1) := dn_5 (oo_3 30 rfl rfl)
theorem dL_law_384 : decode cL_law 384 = .ok (.iadd, 1) := dn_96 (oo_3 31 rfl rfl)
theorem dL_law_385 : decode cL_law 385 = .ok (.iaload, 1) := dn_46 (oo_3 32 rfl rfl)
theorem dL_law_386 : decode cL_law 386 = .ok (.aload_n 0, 1) := dn_42 (oo_3 33 rfl rfl)
theorem dL_law_387 : decode cL_law 387 = .ok (.iload 4, 2) := dn_21 (oo_3 34 rfl rfl) rfl
theorem dL_law_389 : decode cL_law 389 = .ok (.iconst 3, 1) := dn_6 (oo_3 36 rfl rfl)
theorem dL_law_390 : decode cL_law 390 = .ok (.iadd, 1) := dn_96 (oo_3 37 rfl rfl)
theorem dL_law_391 : decode cL_law 391 = .ok (.iaload, 1) := dn_46 (oo_3 38 rfl rfl)
theorem dL_law_392 : decode cL_law 392 = .ok (.invokevirtual 188, 3) := dn_182 (oo_3 39 rfl rfl) rfl
theorem dL_law_395 : decode cL_law 395 = .ok (.istore 6, 2) := dn_54 (oo_4 0 rfl rfl) rfl
theorem dL_law_397 : decode cL_law 397 = .ok (.goto 1847, 3) := dn_167 (oo_4 2 rfl rfl) (by decide +kernel)
theorem dL_law_400 : decode cL_law 400 = .ok (.aload_n 1, 1) := dn_43 (oo_4 5 rfl rfl)
theorem dL_law_401 : decode cL_law 401 = .ok (.aload_n 0, 1) := dn_42 (oo_4 6 rfl rfl)
theorem dL_law_402 : decode cL_law 402 = .ok (.iload 4, 2) := dn_21 (oo_4 7 rfl rfl) rfl
theorem dL_law_404 : decode cL_law 404 = .ok (.iconst 1, 1) := dn_4 (oo_4 9 rfl rfl)
theorem dL_law_405 : decode cL_law 405 = .ok (.iadd, 1) := dn_96 (oo_4 10 rfl rfl)
theorem dL_law_406 : decode cL_law 406 = .ok (.iaload, 1) := dn_46 (oo_4 11 rfl rfl)
theorem dL_law_407 : decode cL_law 407 = .ok (.aload_n 0, 1) := dn_42 (oo_4 12 rfl rfl)
theorem dL_law_408 : decode cL_law 408 = .ok (.iload 4, 2) := dn_21 (oo_4 13 rfl rfl) rfl
theorem dL_law_410 : decode cL_law 410 = .ok (.iconst 2, 1) := dn_5 (oo_4 15 rfl rfl)
theorem dL_law_411 : decode cL_law 411 = .ok (.iadd, 1) := dn_96 (oo_4 16 rfl rfl)
theorem dL_law_412 : decode cL_law 412 = .ok (.iaload, 1) := dn_46 (oo_4 17 rfl rfl)
theorem dL_law_413 : decode cL_law 413 = .ok (.aload_n 3, 1) := dn_45 (oo_4 18 rfl rfl)
theorem dL_law_414 : decode cL_law 414 = .ok (.invokestatic 189, 3) := dn_184 (oo_4 19 rfl rfl) rfl
theorem dL_law_417 : decode cL_law 417 = .ok (.istore 5, 2) := dn_54 (oo_4 22 rfl rfl) rfl
theorem dL_law_419 : decode cL_law 419 = .ok (.aload_n 2, 1) := dn_44 (oo_4 24 rfl rfl)
theorem dL_law_420 : decode cL_law 420 = .ok (.aload_n 0, 1) := dn_42 (oo_4 25 rfl rfl)
theorem dL_law_421 : decode cL_law 421 = .ok (.iload 4, 2) := dn_21 (oo_4 26 rfl rfl) rfl
theorem dL_law_423 : decode cL_law 423 = .ok (.iconst 1, 1) := dn_4 (oo_4 28 rfl rfl)
theorem dL_law_424 : decode cL_law 424 = .ok (.iadd, 1) := dn_96 (oo_4 29 rfl rfl)
theorem dL_law_425 : decode cL_law 425 = .ok (.iaload, 1) := dn_46 (oo_4 30 rfl rfl)
theorem dL_law_426 : decode cL_law 426 = .ok (.aload_n 0, 1) := dn_42 (oo_4 31 rfl rfl)
theorem dL_law_427 : decode cL_law 427 = .ok (.iload 4, 2) := dn_21 (oo_4 32 rfl rfl) rfl
theorem dL_law_429 : decode cL_law 429 = .ok (.iconst 2, 1) := dn_5 (oo_4 34 rfl rfl)
theorem dL_law_430 : decode cL_law 430 = .ok (.iadd, 1) := dn_96 (oo_4 35 rfl rfl)
theorem dL_law_431 : decode cL_law 431 = .ok (.iaload, 1) := dn_46 (oo_4 36 rfl rfl)
theorem dL_law_432 : decode cL_law 432 = .ok (.invokevirtual 191, 3) := dn_182 (oo_4 37 rfl rfl) rfl
theorem dL_law_435 : decode cL_law 435 = .ok (.istore 6, 2) := dn_54 (oo_4 40 rfl rfl) rfl
theorem dL_law_437 : decode cL_law 437 = .ok (.goto 1807, 3) := dn_167 (oo_4 42 rfl rfl) (by decide +kernel)
theorem dL_law_440 : decode cL_law 440 = .ok (.aload_n 1, 1) := dn_43 (oo_4 45 rfl rfl)
theorem dL_law_441 : decode cL_law 441 = .ok (.aload_n 0, 1) := dn_42 (oo_4 46 rfl rfl)
theorem dL_law_442 : decode cL_law 442 = .ok (.iload 4, 2) := dn_21 (oo_5 0 rfl rfl) rfl
theorem dL_law_444 : decode cL_law 444 = .ok (.iconst 1, 1) := dn_4 (oo_5 2 rfl rfl)
theorem dL_law_445 : decode cL_law 445 = .ok (.iadd, 1) := dn_96 (oo_5 3 rfl rfl)
theorem dL_law_446 : decode cL_law 446 = .ok (.iaload, 1) := dn_46 (oo_5 4 rfl rfl)
theorem dL_law_447 : decode cL_law 447 = .ok (.aload_n 3, 1) := dn_45 (oo_5 5 rfl rfl)
theorem dL_law_448 : decode cL_law 448 = .ok (.invokestatic 192, 3) := dn_184 (oo_5 6 rfl rfl) rfl
theorem dL_law_451 : decode cL_law 451 = .ok (.istore 5, 2) := dn_54 (oo_5 9 rfl rfl) rfl
theorem dL_law_453 : decode cL_law 453 = .ok (.aload_n 2, 1) := dn_44 (oo_5 11 rfl rfl)
theorem dL_law_454 : decode cL_law 454 = .ok (.aload_n 0, 1) := dn_42 (oo_5 12 rfl rfl)
theorem dL_law_455 : decode cL_law 455 = .ok (.iload 4, 2) := dn_21 (oo_5 13 rfl rfl) rfl
theorem dL_law_457 : decode cL_law 457 = .ok (.iconst 1, 1) := dn_4 (oo_5 15 rfl rfl)
theorem dL_law_458 : decode cL_law 458 = .ok (.iadd, 1) := dn_96 (oo_5 16 rfl rfl)
theorem dL_law_459 : decode cL_law 459 = .ok (.iaload, 1) := dn_46 (oo_5 17 rfl rfl)
theorem dL_law_460 : decode cL_law 460 = .ok (.invokevirtual 195, 3) := dn_182 (oo_5 18 rfl rfl) rfl
theorem dL_law_463 : decode cL_law 463 = .ok (.istore 6, 2) := dn_54 (oo_5 21 rfl rfl) rfl
theorem dL_law_465 : decode cL_law 465 = .ok (.goto 1779, 3) := dn_167 (oo_5 23 rfl rfl) (by decide +kernel)
theorem dL_law_468 : decode cL_law 468 = .ok (.aload_n 1, 1) := dn_43 (oo_5 26 rfl rfl)
theorem dL_law_469 : decode cL_law 469 = .ok (.aload_n 0, 1) := dn_42 (oo_5 27 rfl rfl)
theorem dL_law_470 : decode cL_law 470 = .ok (.iload 4, 2) := dn_21 (oo_5 28 rfl rfl) rfl
theorem dL_law_472 : decode cL_law 472 = .ok (.iconst 1, 1) := dn_4 (oo_5 30 rfl rfl)
theorem dL_law_473 : decode cL_law 473 = .ok (.iadd, 1) := dn_96 (oo_5 31 rfl rfl)
theorem dL_law_474 : decode cL_law 474 = .ok (.iaload, 1) := dn_46 (oo_5 32 rfl rfl)
theorem dL_law_475 : decode cL_law 475 = .ok (.aload_n 0, 1) := dn_42 (oo_5 33 rfl rfl)
theorem dL_law_476 : decode cL_law 476 = .ok (.iload 4, 2) := dn_21 (oo_5 34 rfl rfl) rfl
theorem dL_law_478 : decode cL_law 478 = .ok (.iconst 2, 1) := dn_5 (oo_5 36 rfl rfl)
theorem dL_law_479 : decode cL_law 479 = .ok (.iadd, 1) := dn_96 (oo_5 37 rfl rfl)
theorem dL_law_480 : decode cL_law 480 = .ok (.iaload, 1) := dn_46 (oo_5 38 rfl rfl)
theorem dL_law_481 : decode cL_law 481 = .ok (.aload_n 3, 1) := dn_45 (oo_5 39 rfl rfl)
theorem dL_law_482 : decode cL_law 482 = .ok (.invokestatic 196, 3) := dn_184 (oo_5 40 rfl rfl) rfl
theorem dL_law_485 : decode cL_law 485 = .ok (.istore 5, 2) := dn_54 (oo_5 43 rfl rfl) rfl
theorem dL_law_487 : decode cL_law 487 = .ok (.aload_n 2, 1) := dn_44 (oo_5 45 rfl rfl)
theorem dL_law_488 : decode cL_law 488 = .ok (.aload_n 0, 1) := dn_42 (oo_5 46 rfl rfl)
theorem dL_law_489 : decode cL_law 489 = .ok (.iload 4, 2) := dn_21 (oo_6 0 rfl rfl) rfl
theorem dL_law_491 : decode cL_law 491 = .ok (.iconst 1, 1) := dn_4 (oo_6 2 rfl rfl)
theorem dL_law_492 : decode cL_law 492 = .ok (.iadd, 1) := dn_96 (oo_6 3 rfl rfl)
theorem dL_law_493 : decode cL_law 493 = .ok (.iaload, 1) := dn_46 (oo_6 4 rfl rfl)
theorem dL_law_494 : decode cL_law 494 = .ok (.aload_n 0, 1) := dn_42 (oo_6 5 rfl rfl)
theorem dL_law_495 : decode cL_law 495 = .ok (.iload 4, 2) := dn_21 (oo_6 6 rfl rfl) rfl
theorem dL_law_497 : decode cL_law 497 = .ok (.iconst 2, 1) := dn_5 (oo_6 8 rfl rfl)
theorem dL_law_498 : decode cL_law 498 = .ok (.iadd, 1) := dn_96 (oo_6 9 rfl rfl)
theorem dL_law_499 : decode cL_law 499 = .ok (.iaload, 1) := dn_46 (oo_6 10 rfl rfl)
theorem dL_law_500 : decode cL_law 500 = .ok (.invokevirtual 198, 3) := dn_182 (oo_6 11 rfl rfl) rfl
theorem dL_law_503 : decode cL_law 503 = .ok (.istore 6, 2) := dn_54 (oo_6 14 rfl rfl) rfl
theorem dL_law_505 : decode cL_law 505 = .ok (.goto 1739, 3) := dn_167 (oo_6 16 rfl rfl) (by decide +kernel)
theorem dL_law_508 : decode cL_law 508 = .ok (.aload_n 1, 1) := dn_43 (oo_6 19 rfl rfl)
theorem dL_law_509 : decode cL_law 509 = .ok (.aload_n 0, 1) := dn_42 (oo_6 20 rfl rfl)
theorem dL_law_510 : decode cL_law 510 = .ok (.iload 4, 2) := dn_21 (oo_6 21 rfl rfl) rfl
theorem dL_law_512 : decode cL_law 512 = .ok (.iconst 1, 1) := dn_4 (oo_6 23 rfl rfl)
theorem dL_law_513 : decode cL_law 513 = .ok (.iadd, 1) := dn_96 (oo_6 24 rfl rfl)
theorem dL_law_514 : decode cL_law 514 = .ok (.iaload, 1) := dn_46 (oo_6 25 rfl rfl)
theorem dL_law_515 : decode cL_law 515 = .ok (.aload_n 0, 1) := dn_42 (oo_6 26 rfl rfl)
theorem dL_law_516 : decode cL_law 516 = .ok (.iload 4, 2) := dn_21 (oo_6 27 rfl rfl) rfl
theorem dL_law_518 : decode cL_law 518 = .ok (.iconst 2, 1) := dn_5 (oo_6 29 rfl rfl)
theorem dL_law_519 : decode cL_law 519 = .ok (.iadd, 1) := dn_96 (oo_6 30 rfl rfl)
theorem dL_law_520 : decode cL_law 520 = .ok (.iaload, 1) := dn_46 (oo_6 31 rfl rfl)
theorem dL_law_521 : decode cL_law 521 = .ok (.aload_n 3, 1) := dn_45 (oo_6 32 rfl rfl)
theorem dL_law_522 : decode cL_law 522 = .ok (.invokestatic 199, 3) := dn_184 (oo_6 33 rfl rfl) rfl
theorem dL_law_525 : decode cL_law 525 = .ok (.istore 5, 2) := dn_54 (oo_6 36 rfl rfl) rfl
theorem dL_law_527 : decode cL_law 527 = .ok (.aload_n 2, 1) := dn_44 (oo_6 38 rfl rfl)
theorem dL_law_528 : decode cL_law 528 = .ok (.aload_n 0, 1) := dn_42 (oo_6 39 rfl rfl)
theorem dL_law_529 : decode cL_law 529 = .ok (.iload 4, 2) := dn_21 (oo_6 40 rfl rfl) rfl
theorem dL_law_531 : decode cL_law 531 = .ok (.iconst 1, 1) := dn_4 (oo_6 42 rfl rfl)
theorem dL_law_532 : decode cL_law 532 = .ok (.iadd, 1) := dn_96 (oo_6 43 rfl rfl)
theorem dL_law_533 : decode cL_law 533 = .ok (.iaload, 1) := dn_46 (oo_6 44 rfl rfl)
theorem dL_law_534 : decode cL_law 534 = .ok (.aload_n 0, 1) := dn_42 (oo_7 0 rfl rfl)
theorem dL_law_535 : decode cL_law 535 = .ok (.iload 4, 2) := dn_21 (oo_7 1 rfl rfl) rfl
theorem dL_law_537 : decode cL_law 537 = .ok (.iconst 2, 1) := dn_5 (oo_7 3 rfl rfl)
theorem dL_law_538 : decode cL_law 538 = .ok (.iadd, 1) := dn_96 (oo_7 4 rfl rfl)
theorem dL_law_539 : decode cL_law 539 = .ok (.iaload, 1) := dn_46 (oo_7 5 rfl rfl)
theorem dL_law_540 : decode cL_law 540 = .ok (.invokevirtual 201, 3) := dn_182 (oo_7 6 rfl rfl) rfl
theorem dL_law_543 : decode cL_law 543 = .ok (.istore 6, 2) := dn_54 (oo_7 9 rfl rfl) rfl
theorem dL_law_545 : decode cL_law 545 = .ok (.goto 1699, 3) := dn_167 (oo_7 11 rfl rfl) (by decide +kernel)
theorem dL_law_548 : decode cL_law 548 = .ok (.aload_n 1, 1) := dn_43 (oo_7 14 rfl rfl)
theorem dL_law_549 : decode cL_law 549 = .ok (.aload_n 0, 1) := dn_42 (oo_7 15 rfl rfl)
theorem dL_law_550 : decode cL_law 550 = .ok (.iload 4, 2) := dn_21 (oo_7 16 rfl rfl) rfl
theorem dL_law_552 : decode cL_law 552 = .ok (.iconst 1, 1) := dn_4 (oo_7 18 rfl rfl)
theorem dL_law_553 : decode cL_law 553 = .ok (.iadd, 1) := dn_96 (oo_7 19 rfl rfl)
theorem dL_law_554 : decode cL_law 554 = .ok (.iaload, 1) := dn_46 (oo_7 20 rfl rfl)
theorem dL_law_555 : decode cL_law 555 = .ok (.aload_n 3, 1) := dn_45 (oo_7 21 rfl rfl)
theorem dL_law_556 : decode cL_law 556 = .ok (.invokestatic 202, 3) := dn_184 (oo_7 22 rfl rfl) rfl
theorem dL_law_559 : decode cL_law 559 = .ok (.istore 5, 2) := dn_54 (oo_7 25 rfl rfl) rfl
theorem dL_law_561 : decode cL_law 561 = .ok (.aload_n 2, 1) := dn_44 (oo_7 27 rfl rfl)
theorem dL_law_562 : decode cL_law 562 = .ok (.aload_n 0, 1) := dn_42 (oo_7 28 rfl rfl)
theorem dL_law_563 : decode cL_law 563 = .ok (.iload 4, 2) := dn_21 (oo_7 29 rfl rfl) rfl
theorem dL_law_565 : decode cL_law 565 = .ok (.iconst 1, 1) := dn_4 (oo_7 31 rfl rfl)
theorem dL_law_566 : decode cL_law 566 = .ok (.iadd, 1) := dn_96 (oo_7 32 rfl rfl)
theorem dL_law_567 : decode cL_law 567 = .ok (.iaload, 1) := dn_46 (oo_7 33 rfl rfl)
theorem dL_law_568 : decode cL_law 568 = .ok (.invokevirtual 204, 3) := dn_182 (oo_7 34 rfl rfl) rfl
theorem dL_law_571 : decode cL_law 571 = .ok (.istore 6, 2) := dn_54 (oo_7 37 rfl rfl) rfl
theorem dL_law_573 : decode cL_law 573 = .ok (.goto 1671, 3) := dn_167 (oo_7 39 rfl rfl) (by decide +kernel)
theorem dL_law_576 : decode cL_law 576 = .ok (.aload_n 1, 1) := dn_43 (oo_7 42 rfl rfl)
theorem dL_law_577 : decode cL_law 577 = .ok (.aload_n 0, 1) := dn_42 (oo_7 43 rfl rfl)
theorem dL_law_578 : decode cL_law 578 = .ok (.iload 4, 2) := dn_21 (oo_7 44 rfl rfl) rfl
theorem dL_law_580 : decode cL_law 580 = .ok (.iconst 1, 1) := dn_4 (oo_7 46 rfl rfl)
theorem dL_law_581 : decode cL_law 581 = .ok (.iadd, 1) := dn_96 (oo_7 47 rfl rfl)
theorem dL_law_582 : decode cL_law 582 = .ok (.iaload, 1) := dn_46 (oo_7 48 rfl rfl)
theorem dL_law_583 : decode cL_law 583 = .ok (.aload_n 0, 1) := dn_42 (oo_8 0 rfl rfl)
theorem dL_law_584 : decode cL_law 584 = .ok (.iload 4, 2) := dn_21 (oo_8 1 rfl rfl) rfl
theorem dL_law_586 : decode cL_law 586 = .ok (.iconst 2, 1) := dn_5 (oo_8 3 rfl rfl)
theorem dL_law_587 : decode cL_law 587 = .ok (.iadd, 1) := dn_96 (oo_8 4 rfl rfl)
theorem dL_law_588 : decode cL_law 588 = .ok (.iaload, 1) := dn_46 (oo_8 5 rfl rfl)
theorem dL_law_589 : decode cL_law 589 = .ok (.aload_n 0, 1) := dn_42 (oo_8 6 rfl rfl)
theorem dL_law_590 : decode cL_law 590 = .ok (.iload 4, 2) := dn_21 (oo_8 7 rfl rfl) rfl
theorem dL_law_592 : decode cL_law 592 = .ok (.iconst 3, 1) := dn_6 (oo_8 9 rfl rfl)
theorem dL_law_593 : decode cL_law 593 = .ok (.iadd, 1) := dn_96 (oo_8 10 rfl rfl)
theorem dL_law_594 : decode cL_law 594 = .ok (.iaload, 1) := dn_46 (oo_8 11 rfl rfl)
theorem dL_law_595 : decode cL_law 595 = .ok (.aload_n 3, 1) := dn_45 (oo_8 12 rfl rfl)
theorem dL_law_596 : decode cL_law 596 = .ok (.invokestatic 205, 3) := dn_184 (oo_8 13 rfl rfl) rfl
theorem dL_law_599 : decode cL_law 599 = .ok (.istore 5, 2) := dn_54 (oo_8 16 rfl rfl) rfl
theorem dL_law_601 : decode cL_law 601 = .ok (.aload_n 2, 1) := dn_44 (oo_8 18 rfl rfl)
theorem dL_law_602 : decode cL_law 602 = .ok (.aload_n 0, 1) := dn_42 (oo_8 19 rfl rfl)
theorem dL_law_603 : decode cL_law 603 = .ok (.iload 4, 2) := dn_21 (oo_8 20 rfl rfl) rfl
theorem dL_law_605 : decode cL_law 605 = .ok (.iconst 1, 1) := dn_4 (oo_8 22 rfl rfl)
theorem dL_law_606 : decode cL_law 606 = .ok (.iadd, 1) := dn_96 (oo_8 23 rfl rfl)
theorem dL_law_607 : decode cL_law 607 = .ok (.iaload, 1) := dn_46 (oo_8 24 rfl rfl)
theorem dL_law_608 : decode cL_law 608 = .ok (.aload_n 0, 1) := dn_42 (oo_8 25 rfl rfl)
theorem dL_law_609 : decode cL_law 609 = .ok (.iload 4, 2) := dn_21 (oo_8 26 rfl rfl) rfl
theorem dL_law_611 : decode cL_law 611 = .ok (.iconst 2, 1) := dn_5 (oo_8 28 rfl rfl)
theorem dL_law_612 : decode cL_law 612 = .ok (.iadd, 1) := dn_96 (oo_8 29 rfl rfl)
theorem dL_law_613 : decode cL_law 613 = .ok (.iaload, 1) := dn_46 (oo_8 30 rfl rfl)
theorem dL_law_614 : decode cL_law 614 = .ok (.aload_n 0, 1) := dn_42 (oo_8 31 rfl rfl)
theorem dL_law_615 : decode cL_law 615 = .ok (.iload 4, 2) := dn_21 (oo_8 32 rfl rfl) rfl
theorem dL_law_617 : decode cL_law 617 = .ok (.iconst 3, 1) := dn_6 (oo_8 34 rfl rfl)
theorem dL_law_618 : decode cL_law 618 = .ok (.iadd, 1) := dn_96 (oo_8 35 rfl rfl)
theorem dL_law_619 : decode cL_law 619 = .ok (.iaload, 1) := dn_46 (oo_8 36 rfl rfl)
theorem dL_law_620 : decode cL_law 620 = .ok (.invokevirtual 207, 3) := dn_182 (oo_8 37 rfl rfl) rfl
theorem dL_law_623 : decode cL_law 623 = .ok (.istore 6, 2) := dn_54 (oo_8 40 rfl rfl) rfl
theorem dL_law_625 : decode cL_law 625 = .ok (.goto 1619, 3) := dn_167 (oo_8 42 rfl rfl) (by decide +kernel)
theorem dL_law_628 : decode cL_law 628 = .ok (.aload_n 1, 1) := dn_43 (oo_9 0 rfl rfl)
theorem dL_law_629 : decode cL_law 629 = .ok (.aload_n 0, 1) := dn_42 (oo_9 1 rfl rfl)
theorem dL_law_630 : decode cL_law 630 = .ok (.iload 4, 2) := dn_21 (oo_9 2 rfl rfl) rfl
theorem dL_law_632 : decode cL_law 632 = .ok (.iconst 1, 1) := dn_4 (oo_9 4 rfl rfl)
theorem dL_law_633 : decode cL_law 633 = .ok (.iadd, 1) := dn_96 (oo_9 5 rfl rfl)
theorem dL_law_634 : decode cL_law 634 = .ok (.iaload, 1) := dn_46 (oo_9 6 rfl rfl)
theorem dL_law_635 : decode cL_law 635 = .ok (.aload_n 0, 1) := dn_42 (oo_9 7 rfl rfl)
theorem dL_law_636 : decode cL_law 636 = .ok (.iload 4, 2) := dn_21 (oo_9 8 rfl rfl) rfl
theorem dL_law_638 : decode cL_law 638 = .ok (.iconst 2, 1) := dn_5 (oo_9 10 rfl rfl)
theorem dL_law_639 : decode cL_law 639 = .ok (.iadd, 1) := dn_96 (oo_9 11 rfl rfl)
theorem dL_law_640 : decode cL_law 640 = .ok (.iaload, 1) := dn_46 (oo_9 12 rfl rfl)
theorem dL_law_641 : decode cL_law 641 = .ok (.aload_n 0, 1) := dn_42 (oo_9 13 rfl rfl)
theorem dL_law_642 : decode cL_law 642 = .ok (.iload 4, 2) := dn_21 (oo_9 14 rfl rfl) rfl
theorem dL_law_644 : decode cL_law 644 = .ok (.iconst 3, 1) := dn_6 (oo_9 16 rfl rfl)
theorem dL_law_645 : decode cL_law 645 = .ok (.iadd, 1) := dn_96 (oo_9 17 rfl rfl)
theorem dL_law_646 : decode cL_law 646 = .ok (.iaload, 1) := dn_46 (oo_9 18 rfl rfl)
theorem dL_law_647 : decode cL_law 647 = .ok (.aload_n 3, 1) := dn_45 (oo_9 19 rfl rfl)
theorem dL_law_648 : decode cL_law 648 = .ok (.invokestatic 208, 3) := dn_184 (oo_9 20 rfl rfl) rfl
theorem dL_law_651 : decode cL_law 651 = .ok (.istore 5, 2) := dn_54 (oo_9 23 rfl rfl) rfl
theorem dL_law_653 : decode cL_law 653 = .ok (.aload_n 2, 1) := dn_44 (oo_9 25 rfl rfl)
theorem dL_law_654 : decode cL_law 654 = .ok (.aload_n 0, 1) := dn_42 (oo_9 26 rfl rfl)
theorem dL_law_655 : decode cL_law 655 = .ok (.iload 4, 2) := dn_21 (oo_9 27 rfl rfl) rfl
theorem dL_law_657 : decode cL_law 657 = .ok (.iconst 1, 1) := dn_4 (oo_9 29 rfl rfl)
theorem dL_law_658 : decode cL_law 658 = .ok (.iadd, 1) := dn_96 (oo_9 30 rfl rfl)
theorem dL_law_659 : decode cL_law 659 = .ok (.iaload, 1) := dn_46 (oo_9 31 rfl rfl)
theorem dL_law_660 : decode cL_law 660 = .ok (.aload_n 0, 1) := dn_42 (oo_9 32 rfl rfl)
theorem dL_law_661 : decode cL_law 661 = .ok (.iload 4, 2) := dn_21 (oo_9 33 rfl rfl) rfl
theorem dL_law_663 : decode cL_law 663 = .ok (.iconst 2, 1) := dn_5 (oo_9 35 rfl rfl)
theorem dL_law_664 : decode cL_law 664 = .ok (.iadd, 1) := dn_96 (oo_9 36 rfl rfl)
theorem dL_law_665 : decode cL_law 665 = .ok (.iaload, 1) := dn_46 (oo_9 37 rfl rfl)
theorem dL_law_666 : decode cL_law 666 = .ok (.aload_n 0, 1) := dn_42 (oo_9 38 rfl rfl)
theorem dL_law_667 : decode cL_law 667 = .ok (.iload 4, 2) := dn_21 (oo_9 39 rfl rfl) rfl
theorem dL_law_669 : decode cL_law 669 = .ok (.iconst 3, 1) := dn_6 (oo_10 0 rfl rfl)
theorem dL_law_670 : decode cL_law 670 = .ok (.iadd, 1) := dn_96 (oo_10 1 rfl rfl)
theorem dL_law_671 : decode cL_law 671 = .ok (.iaload, 1) := dn_46 (oo_10 2 rfl rfl)
theorem dL_law_672 : decode cL_law 672 = .ok (.invokevirtual 210, 3) := dn_182 (oo_10 3 rfl rfl) rfl
theorem dL_law_675 : decode cL_law 675 = .ok (.istore 6, 2) := dn_54 (oo_10 6 rfl rfl) rfl
theorem dL_law_677 : decode cL_law 677 = .ok (.goto 1567, 3) := dn_167 (oo_10 8 rfl rfl) (by decide +kernel)
theorem dL_law_680 : decode cL_law 680 = .ok (.aload_n 1, 1) := dn_43 (oo_10 11 rfl rfl)
theorem dL_law_681 : decode cL_law 681 = .ok (.aload_n 0, 1) := dn_42 (oo_10 12 rfl rfl)
theorem dL_law_682 : decode cL_law 682 = .ok (.iload 4, 2) := dn_21 (oo_10 13 rfl rfl) rfl
theorem dL_law_684 : decode cL_law 684 = .ok (.iconst 1, 1) := dn_4 (oo_10 15 rfl rfl)
theorem dL_law_685 : decode cL_law 685 = .ok (.iadd, 1) := dn_96 (oo_10 16 rfl rfl)
theorem dL_law_686 : decode cL_law 686 = .ok (.iaload, 1) := dn_46 (oo_10 17 rfl rfl)
theorem dL_law_687 : decode cL_law 687 = .ok (.aload_n 0, 1) := dn_42 (oo_10 18 rfl rfl)
theorem dL_law_688 : decode cL_law 688 = .ok (.iload 4, 2) := dn_21 (oo_10 19 rfl rfl) rfl
theorem dL_law_690 : decode cL_law 690 = .ok (.iconst 2, 1) := dn_5 (oo_10 21 rfl rfl)
theorem dL_law_691 : decode cL_law 691 = .ok (.iadd, 1) := dn_96 (oo_10 22 rfl rfl)
theorem dL_law_692 : decode cL_law 692 = .ok (.iaload, 1) := dn_46 (oo_10 23 rfl rfl)
theorem dL_law_693 : decode cL_law 693 = .ok (.aload_n 0, 1) := dn_42 (oo_10 24 rfl rfl)
theorem dL_law_694 : decode cL_law 694 = .ok (.iload 4, 2) := dn_21 (oo_10 25 rfl rfl) rfl
theorem dL_law_696 : decode cL_law 696 = .ok (.iconst 3, 1) := dn_6 (oo_10 27 rfl rfl)
theorem dL_law_697 : decode cL_law 697 = .ok (.iadd, 1) := dn_96 (oo_10 28 rfl rfl)
theorem dL_law_698 : decode cL_law 698 = .ok (.iaload, 1) := dn_46 (oo_10 29 rfl rfl)
theorem dL_law_699 : decode cL_law 699 = .ok (.ifCond .eq 7, 3) := dn_153 (oo_10 30 rfl rfl) (by decide +kernel)
theorem dL_law_702 : decode cL_law 702 = .ok (.iconst 1, 1) := dn_4 (oo_10 33 rfl rfl)
theorem dL_law_703 : decode cL_law 703 = .ok (.goto 4, 3) := dn_167 (oo_10 34 rfl rfl) (by decide +kernel)
theorem dL_law_706 : decode cL_law 706 = .ok (.iconst 0, 1) := dn_3 (oo_10 37 rfl rfl)
theorem dL_law_707 : decode cL_law 707 = .ok (.aload_n 3, 1) := dn_45 (oo_10 38 rfl rfl)
theorem dL_law_708 : decode cL_law 708 = .ok (.invokestatic 211, 3) := dn_184 (oo_10 39 rfl rfl) rfl
theorem dL_law_711 : decode cL_law 711 = .ok (.istore 5, 2) := dn_54 (oo_10 42 rfl rfl) rfl
theorem dL_law_713 : decode cL_law 713 = .ok (.aload_n 2, 1) := dn_44 (oo_10 44 rfl rfl)
theorem dL_law_714 : decode cL_law 714 = .ok (.aload_n 0, 1) := dn_42 (oo_10 45 rfl rfl)
theorem dL_law_715 : decode cL_law 715 = .ok (.iload 4, 2) := dn_21 (oo_10 46 rfl rfl) rfl
theorem dL_law_717 : decode cL_law 717 = .ok (.iconst 1, 1) := dn_4 (oo_11 0 rfl rfl)
theorem dL_law_718 : decode cL_law 718 = .ok (.iadd, 1) := dn_96 (oo_11 1 rfl rfl)
theorem dL_law_719 : decode cL_law 719 = .ok (.iaload, 1) := dn_46 (oo_11 2 rfl rfl)
theorem dL_law_720 : decode cL_law 720 = .ok (.aload_n 0, 1) := dn_42 (oo_11 3 rfl rfl)
theorem dL_law_721 : decode cL_law 721 = .ok (.iload 4, 2) := dn_21 (oo_11 4 rfl rfl) rfl
theorem dL_law_723 : decode cL_law 723 = .ok (.iconst 2, 1) := dn_5 (oo_11 6 rfl rfl)
theorem dL_law_724 : decode cL_law 724 = .ok (.iadd, 1) := dn_96 (oo_11 7 rfl rfl)
theorem dL_law_725 : decode cL_law 725 = .ok (.iaload, 1) := dn_46 (oo_11 8 rfl rfl)
theorem dL_law_726 : decode cL_law 726 = .ok (.aload_n 0, 1) := dn_42 (oo_11 9 rfl rfl)
theorem dL_law_727 : decode cL_law 727 = .ok (.iload 4, 2) := dn_21 (oo_11 10 rfl rfl) rfl
theorem dL_law_729 : decode cL_law 729 = .ok (.iconst 3, 1) := dn_6 (oo_11 12 rfl rfl)
theorem dL_law_730 : decode cL_law 730 = .ok (.iadd, 1) := dn_96 (oo_11 13 rfl rfl)
theorem dL_law_731 : decode cL_law 731 = .ok (.iaload, 1) := dn_46 (oo_11 14 rfl rfl)
theorem dL_law_732 : decode cL_law 732 = .ok (.ifCond .eq 7, 3) := dn_153 (oo_11 15 rfl rfl) (by decide +kernel)
theorem dL_law_735 : decode cL_law 735 = .ok (.iconst 1, 1) := dn_4 (oo_11 18 rfl rfl)
theorem dL_law_736 : decode cL_law 736 = .ok (.goto 4, 3) := dn_167 (oo_11 19 rfl rfl) (by decide +kernel)
theorem dL_law_739 : decode cL_law 739 = .ok (.iconst 0, 1) := dn_3 (oo_11 22 rfl rfl)
theorem dL_law_740 : decode cL_law 740 = .ok (.invokevirtual 214, 3) := dn_182 (oo_11 23 rfl rfl) rfl
theorem dL_law_743 : decode cL_law 743 = .ok (.istore 6, 2) := dn_54 (oo_11 26 rfl rfl) rfl
theorem dL_law_745 : decode cL_law 745 = .ok (.goto 1499, 3) := dn_167 (oo_11 28 rfl rfl) (by decide +kernel)
theorem dL_law_748 : decode cL_law 748 = .ok (.aload_n 1, 1) := dn_43 (oo_11 31 rfl rfl)
theorem dL_law_749 : decode cL_law 749 = .ok (.aload_n 0, 1) := dn_42 (oo_11 32 rfl rfl)
theorem dL_law_750 : decode cL_law 750 = .ok (.iload 4, 2) := dn_21 (oo_11 33 rfl rfl) rfl
theorem dL_law_752 : decode cL_law 752 = .ok (.iconst 1, 1) := dn_4 (oo_11 35 rfl rfl)
theorem dL_law_753 : decode cL_law 753 = .ok (.iadd, 1) := dn_96 (oo_11 36 rfl rfl)
theorem dL_law_754 : decode cL_law 754 = .ok (.iaload, 1) := dn_46 (oo_11 37 rfl rfl)
theorem dL_law_755 : decode cL_law 755 = .ok (.aload_n 0, 1) := dn_42 (oo_11 38 rfl rfl)
theorem dL_law_756 : decode cL_law 756 = .ok (.iload 4, 2) := dn_21 (oo_11 39 rfl rfl) rfl
theorem dL_law_758 : decode cL_law 758 = .ok (.iconst 2, 1) := dn_5 (oo_11 41 rfl rfl)
theorem dL_law_759 : decode cL_law 759 = .ok (.iadd, 1) := dn_96 (oo_11 42 rfl rfl)
theorem dL_law_760 : decode cL_law 760 = .ok (.iaload, 1) := dn_46 (oo_11 43 rfl rfl)
theorem dL_law_761 : decode cL_law 761 = .ok (.aload_n 0, 1) := dn_42 (oo_11 44 rfl rfl)
theorem dL_law_762 : decode cL_law 762 = .ok (.iload 4, 2) := dn_21 (oo_12 0 rfl rfl) rfl
theorem dL_law_764 : decode cL_law 764 = .ok (.iconst 3, 1) := dn_6 (oo_12 2 rfl rfl)
theorem dL_law_765 : decode cL_law 765 = .ok (.iadd, 1) := dn_96 (oo_12 3 rfl rfl)
theorem dL_law_766 : decode cL_law 766 = .ok (.iaload, 1) := dn_46 (oo_12 4 rfl rfl)
theorem dL_law_767 : decode cL_law 767 = .ok (.ifCond .eq 7, 3) := dn_153 (oo_12 5 rfl rfl) (by decide +kernel)
theorem dL_law_770 : decode cL_law 770 = .ok (.iconst 1, 1) := dn_4 (oo_12 8 rfl rfl)
theorem dL_law_771 : decode cL_law 771 = .ok (.goto 4, 3) := dn_167 (oo_12 9 rfl rfl) (by decide +kernel)
theorem dL_law_774 : decode cL_law 774 = .ok (.iconst 0, 1) := dn_3 (oo_12 12 rfl rfl)
theorem dL_law_775 : decode cL_law 775 = .ok (.aload_n 3, 1) := dn_45 (oo_12 13 rfl rfl)
theorem dL_law_776 : decode cL_law 776 = .ok (.invokestatic 215, 3) := dn_184 (oo_12 14 rfl rfl) rfl
theorem dL_law_779 : decode cL_law 779 = .ok (.istore 5, 2) := dn_54 (oo_12 17 rfl rfl) rfl
theorem dL_law_781 : decode cL_law 781 = .ok (.aload_n 2, 1) := dn_44 (oo_12 19 rfl rfl)
theorem dL_law_782 : decode cL_law 782 = .ok (.aload_n 0, 1) := dn_42 (oo_12 20 rfl rfl)
theorem dL_law_783 : decode cL_law 783 = .ok (.iload 4, 2) := dn_21 (oo_12 21 rfl rfl) rfl
theorem dL_law_785 : decode cL_law 785 = .ok (.iconst 1, 1) := dn_4 (oo_12 23 rfl rfl)
theorem dL_law_786 : decode cL_law 786 = .ok (.iadd, 1) := dn_96 (oo_12 24 rfl rfl)
theorem dL_law_787 : decode cL_law 787 = .ok (.iaload, 1) := dn_46 (oo_12 25 rfl rfl)
theorem dL_law_788 : decode cL_law 788 = .ok (.aload_n 0, 1) := dn_42 (oo_12 26 rfl rfl)
theorem dL_law_789 : decode cL_law 789 = .ok (.iload 4, 2) := dn_21 (oo_12 27 rfl rfl) rfl
theorem dL_law_791 : decode cL_law 791 = .ok (.iconst 2, 1) := dn_5 (oo_12 29 rfl rfl)
theorem dL_law_792 : decode cL_law 792 = .ok (.iadd, 1) := dn_96 (oo_12 30 rfl rfl)
theorem dL_law_793 : decode cL_law 793 = .ok (.iaload, 1) := dn_46 (oo_12 31 rfl rfl)
theorem dL_law_794 : decode cL_law 794 = .ok (.aload_n 0, 1) := dn_42 (oo_12 32 rfl rfl)
theorem dL_law_795 : decode cL_law 795 = .ok (.iload 4, 2) := dn_21 (oo_12 33 rfl rfl) rfl
theorem dL_law_797 : decode cL_law 797 = .ok (.iconst 3, 1) := dn_6 (oo_12 35 rfl rfl)
theorem dL_law_798 : decode cL_law 798 = .ok (.iadd, 1) := dn_96 (oo_12 36 rfl rfl)
theorem dL_law_799 : decode cL_law 799 = .ok (.iaload, 1) := dn_46 (oo_12 37 rfl rfl)
theorem dL_law_800 : decode cL_law 800 = .ok (.ifCond .eq 7, 3) := dn_153 (oo_12 38 rfl rfl) (by decide +kernel)
theorem dL_law_803 : decode cL_law 803 = .ok (.iconst 1, 1) := dn_4 (oo_12 41 rfl rfl)
theorem dL_law_804 : decode cL_law 804 = .ok (.goto 4, 3) := dn_167 (oo_12 42 rfl rfl) (by decide +kernel)
theorem dL_law_807 : decode cL_law 807 = .ok (.iconst 0, 1) := dn_3 (oo_12 45 rfl rfl)
theorem dL_law_808 : decode cL_law 808 = .ok (.invokevirtual 217, 3) := dn_182 (oo_12 46 rfl rfl) rfl
theorem dL_law_811 : decode cL_law 811 = .ok (.istore 6, 2) := dn_54 (oo_13 0 rfl rfl) rfl
theorem dL_law_813 : decode cL_law 813 = .ok (.goto 1431, 3) := dn_167 (oo_13 2 rfl rfl) (by decide +kernel)
theorem dL_law_816 : decode cL_law 816 = .ok (.aload_n 1, 1) := dn_43 (oo_13 5 rfl rfl)
theorem dL_law_817 : decode cL_law 817 = .ok (.aload_n 0, 1) := dn_42 (oo_13 6 rfl rfl)
theorem dL_law_818 : decode cL_law 818 = .ok (.iload 4, 2) := dn_21 (oo_13 7 rfl rfl) rfl
theorem dL_law_820 : decode cL_law 820 = .ok (.iconst 1, 1) := dn_4 (oo_13 9 rfl rfl)
theorem dL_law_821 : decode cL_law 821 = .ok (.iadd, 1) := dn_96 (oo_13 10 rfl rfl)
theorem dL_law_822 : decode cL_law 822 = .ok (.iaload, 1) := dn_46 (oo_13 11 rfl rfl)
theorem dL_law_823 : decode cL_law 823 = .ok (.aload_n 0, 1) := dn_42 (oo_13 12 rfl rfl)
theorem dL_law_824 : decode cL_law 824 = .ok (.iload 4, 2) := dn_21 (oo_13 13 rfl rfl) rfl
theorem dL_law_826 : decode cL_law 826 = .ok (.iconst 2, 1) := dn_5 (oo_13 15 rfl rfl)
theorem dL_law_827 : decode cL_law 827 = .ok (.iadd, 1) := dn_96 (oo_13 16 rfl rfl)
theorem dL_law_828 : decode cL_law 828 = .ok (.iaload, 1) := dn_46 (oo_13 17 rfl rfl)
theorem dL_law_829 : decode cL_law 829 = .ok (.aload_n 0, 1) := dn_42 (oo_13 18 rfl rfl)
theorem dL_law_830 : decode cL_law 830 = .ok (.iload 4, 2) := dn_21 (oo_13 19 rfl rfl) rfl
theorem dL_law_832 : decode cL_law 832 = .ok (.iconst 3, 1) := dn_6 (oo_13 21 rfl rfl)
theorem dL_law_833 : decode cL_law 833 = .ok (.iadd, 1) := dn_96 (oo_13 22 rfl rfl)
theorem dL_law_834 : decode cL_law 834 = .ok (.iaload, 1) := dn_46 (oo_13 23 rfl rfl)
theorem dL_law_835 : decode cL_law 835 = .ok (.aload_n 3, 1) := dn_45 (oo_13 24 rfl rfl)
theorem dL_law_836 : decode cL_law 836 = .ok (.invokestatic 218, 3) := dn_184 (oo_13 25 rfl rfl) rfl
theorem dL_law_839 : decode cL_law 839 = .ok (.istore 5, 2) := dn_54 (oo_13 28 rfl rfl) rfl
theorem dL_law_841 : decode cL_law 841 = .ok (.aload_n 2, 1) := dn_44 (oo_13 30 rfl rfl)
theorem dL_law_842 : decode cL_law 842 = .ok (.aload_n 0, 1) := dn_42 (oo_13 31 rfl rfl)
theorem dL_law_843 : decode cL_law 843 = .ok (.iload 4, 2) := dn_21 (oo_13 32 rfl rfl) rfl
theorem dL_law_845 : decode cL_law 845 = .ok (.iconst 1, 1) := dn_4 (oo_13 34 rfl rfl)
theorem dL_law_846 : decode cL_law 846 = .ok (.iadd, 1) := dn_96 (oo_13 35 rfl rfl)
theorem dL_law_847 : decode cL_law 847 = .ok (.iaload, 1) := dn_46 (oo_13 36 rfl rfl)
theorem dL_law_848 : decode cL_law 848 = .ok (.aload_n 0, 1) := dn_42 (oo_13 37 rfl rfl)
theorem dL_law_849 : decode cL_law 849 = .ok (.iload 4, 2) := dn_21 (oo_13 38 rfl rfl) rfl
theorem dL_law_851 : decode cL_law 851 = .ok (.iconst 2, 1) := dn_5 (oo_13 40 rfl rfl)
theorem dL_law_852 : decode cL_law 852 = .ok (.iadd, 1) := dn_96 (oo_13 41 rfl rfl)
theorem dL_law_853 : decode cL_law 853 = .ok (.iaload, 1) := dn_46 (oo_13 42 rfl rfl)
theorem dL_law_854 : decode cL_law 854 = .ok (.aload_n 0, 1) := dn_42 (oo_14 0 rfl rfl)
theorem dL_law_855 : decode cL_law 855 = .ok (.iload 4, 2) := dn_21 (oo_14 1 rfl rfl) rfl
theorem dL_law_857 : decode cL_law 857 = .ok (.iconst 3, 1) := dn_6 (oo_14 3 rfl rfl)
theorem dL_law_858 : decode cL_law 858 = .ok (.iadd, 1) := dn_96 (oo_14 4 rfl rfl)
theorem dL_law_859 : decode cL_law 859 = .ok (.iaload, 1) := dn_46 (oo_14 5 rfl rfl)
theorem dL_law_860 : decode cL_law 860 = .ok (.invokevirtual 220, 3) := dn_182 (oo_14 6 rfl rfl) rfl
theorem dL_law_863 : decode cL_law 863 = .ok (.istore 6, 2) := dn_54 (oo_14 9 rfl rfl) rfl
theorem dL_law_865 : decode cL_law 865 = .ok (.goto 1379, 3) := dn_167 (oo_14 11 rfl rfl) (by decide +kernel)
theorem dL_law_868 : decode cL_law 868 = .ok (.aload_n 1, 1) := dn_43 (oo_14 14 rfl rfl)
theorem dL_law_869 : decode cL_law 869 = .ok (.aload_n 0, 1) := dn_42 (oo_14 15 rfl rfl)
theorem dL_law_870 : decode cL_law 870 = .ok (.iload 4, 2) := dn_21 (oo_14 16 rfl rfl) rfl
theorem dL_law_872 : decode cL_law 872 = .ok (.iconst 1, 1) := dn_4 (oo_14 18 rfl rfl)
theorem dL_law_873 : decode cL_law 873 = .ok (.iadd, 1) := dn_96 (oo_14 19 rfl rfl)
theorem dL_law_874 : decode cL_law 874 = .ok (.iaload, 1) := dn_46 (oo_14 20 rfl rfl)
theorem dL_law_875 : decode cL_law 875 = .ok (.aload_n 3, 1) := dn_45 (oo_14 21 rfl rfl)
theorem dL_law_876 : decode cL_law 876 = .ok (.invokestatic 221, 3) := dn_184 (oo_14 22 rfl rfl) rfl
theorem dL_law_879 : decode cL_law 879 = .ok (.istore 5, 2) := dn_54 (oo_14 25 rfl rfl) rfl
theorem dL_law_881 : decode cL_law 881 = .ok (.aload_n 2, 1) := dn_44 (oo_14 27 rfl rfl)
theorem dL_law_882 : decode cL_law 882 = .ok (.aload_n 0, 1) := dn_42 (oo_14 28 rfl rfl)
theorem dL_law_883 : decode cL_law 883 = .ok (.iload 4, 2) := dn_21 (oo_14 29 rfl rfl) rfl
theorem dL_law_885 : decode cL_law 885 = .ok (.iconst 1, 1) := dn_4 (oo_14 31 rfl rfl)
theorem dL_law_886 : decode cL_law 886 = .ok (.iadd, 1) := dn_96 (oo_14 32 rfl rfl)
theorem dL_law_887 : decode cL_law 887 = .ok (.iaload, 1) := dn_46 (oo_14 33 rfl rfl)
theorem dL_law_888 : decode cL_law 888 = .ok (.invokevirtual 223, 3) := dn_182 (oo_14 34 rfl rfl) rfl
theorem dL_law_891 : decode cL_law 891 = .ok (.istore 6, 2) := dn_54 (oo_14 37 rfl rfl) rfl
theorem dL_law_893 : decode cL_law 893 = .ok (.goto 1351, 3) := dn_167 (oo_14 39 rfl rfl) (by decide +kernel)
theorem dL_law_896 : decode cL_law 896 = .ok (.aload_n 1, 1) := dn_43 (oo_14 42 rfl rfl)
theorem dL_law_897 : decode cL_law 897 = .ok (.aload_n 0, 1) := dn_42 (oo_14 43 rfl rfl)
theorem dL_law_898 : decode cL_law 898 = .ok (.iload 4, 2) := dn_21 (oo_14 44 rfl rfl) rfl
theorem dL_law_900 : decode cL_law 900 = .ok (.iconst 1, 1) := dn_4 (oo_14 46 rfl rfl)
theorem dL_law_901 : decode cL_law 901 = .ok (.iadd, 1) := dn_96 (oo_14 47 rfl rfl)
theorem dL_law_902 : decode cL_law 902 = .ok (.iaload, 1) := dn_46 (oo_14 48 rfl rfl)
theorem dL_law_903 : decode cL_law 903 = .ok (.aload_n 3, 1) := dn_45 (oo_15 0 rfl rfl)
theorem dL_law_904 : decode cL_law 904 = .ok (.invokestatic 224, 3) := dn_184 (oo_15 1 rfl rfl) rfl
theorem dL_law_907 : decode cL_law 907 = .ok (.istore 5, 2) := dn_54 (oo_15 4 rfl rfl) rfl
theorem dL_law_909 : decode cL_law 909 = .ok (.aload_n 2, 1) := dn_44 (oo_15 6 rfl rfl)
theorem dL_law_910 : decode cL_law 910 = .ok (.aload_n 0, 1) := dn_42 (oo_15 7 rfl rfl)
theorem dL_law_911 : decode cL_law 911 = .ok (.iload 4, 2) := dn_21 (oo_15 8 rfl rfl) rfl
theorem dL_law_913 : decode cL_law 913 = .ok (.iconst 1, 1) := dn_4 (oo_15 10 rfl rfl)
theorem dL_law_914 : decode cL_law 914 = .ok (.iadd, 1) := dn_96 (oo_15 11 rfl rfl)
theorem dL_law_915 : decode cL_law 915 = .ok (.iaload, 1) := dn_46 (oo_15 12 rfl rfl)
theorem dL_law_916 : decode cL_law 916 = .ok (.invokevirtual 226, 3) := dn_182 (oo_15 13 rfl rfl) rfl
theorem dL_law_919 : decode cL_law 919 = .ok (.istore 6, 2) := dn_54 (oo_15 16 rfl rfl) rfl
theorem dL_law_921 : decode cL_law 921 = .ok (.goto 1323, 3) := dn_167 (oo_15 18 rfl rfl) (by decide +kernel)
theorem dL_law_924 : decode cL_law 924 = .ok (.aload_n 1, 1) := dn_43 (oo_15 21 rfl rfl)
theorem dL_law_925 : decode cL_law 925 = .ok (.aload_n 0, 1) := dn_42 (oo_15 22 rfl rfl)
theorem dL_law_926 : decode cL_law 926 = .ok (.iload 4, 2) := dn_21 (oo_15 23 rfl rfl) rfl
theorem dL_law_928 : decode cL_law 928 = .ok (.iconst 1, 1) := dn_4 (oo_15 25 rfl rfl)
theorem dL_law_929 : decode cL_law 929 = .ok (.iadd, 1) := dn_96 (oo_15 26 rfl rfl)
theorem dL_law_930 : decode cL_law 930 = .ok (.iaload, 1) := dn_46 (oo_15 27 rfl rfl)
theorem dL_law_931 : decode cL_law 931 = .ok (.aload_n 0, 1) := dn_42 (oo_15 28 rfl rfl)
theorem dL_law_932 : decode cL_law 932 = .ok (.iload 4, 2) := dn_21 (oo_15 29 rfl rfl) rfl
theorem dL_law_934 : decode cL_law 934 = .ok (.iconst 2, 1) := dn_5 (oo_15 31 rfl rfl)
theorem dL_law_935 : decode cL_law 935 = .ok (.iadd, 1) := dn_96 (oo_15 32 rfl rfl)
theorem dL_law_936 : decode cL_law 936 = .ok (.iaload, 1) := dn_46 (oo_15 33 rfl rfl)
theorem dL_law_937 : decode cL_law 937 = .ok (.aload_n 3, 1) := dn_45 (oo_15 34 rfl rfl)
theorem dL_law_938 : decode cL_law 938 = .ok (.invokestatic 227, 3) := dn_184 (oo_15 35 rfl rfl) rfl
theorem dL_law_941 : decode cL_law 941 = .ok (.istore 5, 2) := dn_54 (oo_15 38 rfl rfl) rfl
theorem dL_law_943 : decode cL_law 943 = .ok (.aload_n 2, 1) := dn_44 (oo_15 40 rfl rfl)
theorem dL_law_944 : decode cL_law 944 = .ok (.aload_n 0, 1) := dn_42 (oo_15 41 rfl rfl)
theorem dL_law_945 : decode cL_law 945 = .ok (.iload 4, 2) := dn_21 (oo_15 42 rfl rfl) rfl
theorem dL_law_947 : decode cL_law 947 = .ok (.iconst 1, 1) := dn_4 (oo_15 44 rfl rfl)
theorem dL_law_948 : decode cL_law 948 = .ok (.iadd, 1) := dn_96 (oo_15 45 rfl rfl)
theorem dL_law_949 : decode cL_law 949 = .ok (.iaload, 1) := dn_46 (oo_15 46 rfl rfl)
theorem dL_law_950 : decode cL_law 950 = .ok (.aload_n 0, 1) := dn_42 (oo_16 0 rfl rfl)
theorem dL_law_951 : decode cL_law 951 = .ok (.iload 4, 2) := dn_21 (oo_16 1 rfl rfl) rfl
theorem dL_law_953 : decode cL_law 953 = .ok (.iconst 2, 1) := dn_5 (oo_16 3 rfl rfl)
theorem dL_law_954 : decode cL_law 954 = .ok (.iadd, 1) := dn_96 (oo_16 4 rfl rfl)
theorem dL_law_955 : decode cL_law 955 = .ok (.iaload, 1) := dn_46 (oo_16 5 rfl rfl)
theorem dL_law_956 : decode cL_law 956 = .ok (.invokevirtual 229, 3) := dn_182 (oo_16 6 rfl rfl) rfl
theorem dL_law_959 : decode cL_law 959 = .ok (.istore 6, 2) := dn_54 (oo_16 9 rfl rfl) rfl
theorem dL_law_961 : decode cL_law 961 = .ok (.goto 1283, 3) := dn_167 (oo_16 11 rfl rfl) (by decide +kernel)
theorem dL_law_964 : decode cL_law 964 = .ok (.aload_n 1, 1) := dn_43 (oo_16 14 rfl rfl)
theorem dL_law_965 : decode cL_law 965 = .ok (.aload_n 0, 1) := dn_42 (oo_16 15 rfl rfl)
theorem dL_law_966 : decode cL_law 966 = .ok (.iload 4, 2) := dn_21 (oo_16 16 rfl rfl) rfl
theorem dL_law_968 : decode cL_law 968 = .ok (.iconst 1, 1) := dn_4 (oo_16 18 rfl rfl)
theorem dL_law_969 : decode cL_law 969 = .ok (.iadd, 1) := dn_96 (oo_16 19 rfl rfl)
theorem dL_law_970 : decode cL_law 970 = .ok (.iaload, 1) := dn_46 (oo_16 20 rfl rfl)
theorem dL_law_971 : decode cL_law 971 = .ok (.aload_n 3, 1) := dn_45 (oo_16 21 rfl rfl)
theorem dL_law_972 : decode cL_law 972 = .ok (.invokestatic 230, 3) := dn_184 (oo_16 22 rfl rfl) rfl
theorem dL_law_975 : decode cL_law 975 = .ok (.istore 5, 2) := dn_54 (oo_16 25 rfl rfl) rfl
theorem dL_law_977 : decode cL_law 977 = .ok (.aload_n 2, 1) := dn_44 (oo_16 27 rfl rfl)
theorem dL_law_978 : decode cL_law 978 = .ok (.aload_n 0, 1) := dn_42 (oo_16 28 rfl rfl)
theorem dL_law_979 : decode cL_law 979 = .ok (.iload 4, 2) := dn_21 (oo_16 29 rfl rfl) rfl
theorem dL_law_981 : decode cL_law 981 = .ok (.iconst 1, 1) := dn_4 (oo_16 31 rfl rfl)
theorem dL_law_982 : decode cL_law 982 = .ok (.iadd, 1) := dn_96 (oo_16 32 rfl rfl)
theorem dL_law_983 : decode cL_law 983 = .ok (.iaload, 1) := dn_46 (oo_16 33 rfl rfl)
theorem dL_law_984 : decode cL_law 984 = .ok (.invokevirtual 232, 3) := dn_182 (oo_16 34 rfl rfl) rfl
theorem dL_law_987 : decode cL_law 987 = .ok (.istore 6, 2) := dn_54 (oo_16 37 rfl rfl) rfl
theorem dL_law_989 : decode cL_law 989 = .ok (.goto 1255, 3) := dn_167 (oo_16 39 rfl rfl) (by decide +kernel)
theorem dL_law_992 : decode cL_law 992 = .ok (.aload_n 1, 1) := dn_43 (oo_16 42 rfl rfl)
theorem dL_law_993 : decode cL_law 993 = .ok (.aload_n 0, 1) := dn_42 (oo_16 43 rfl rfl)
theorem dL_law_994 : decode cL_law 994 = .ok (.iload 4, 2) := dn_21 (oo_16 44 rfl rfl) rfl
theorem dL_law_996 : decode cL_law 996 = .ok (.iconst 1, 1) := dn_4 (oo_16 46 rfl rfl)
theorem dL_law_997 : decode cL_law 997 = .ok (.iadd, 1) := dn_96 (oo_16 47 rfl rfl)
theorem dL_law_998 : decode cL_law 998 = .ok (.iaload, 1) := dn_46 (oo_16 48 rfl rfl)
theorem dL_law_999 : decode cL_law 999 = .ok (.aload_n 0, 1) := dn_42 (oo_17 0 rfl rfl)
theorem dL_law_1000 : decode cL_law 1000 = .ok (.iload 4, 2) := dn_21 (oo_17 1 rfl rfl) rfl
theorem dL_law_1002 : decode cL_law 1002 = .ok (.iconst 2, 1) := dn_5 (oo_17 3 rfl rfl)
theorem dL_law_1003 : decode cL_law 1003 = .ok (.iadd, 1) := dn_96 (oo_17 4 rfl rfl)
theorem dL_law_1004 : decode cL_law 1004 = .ok (.iaload, 1) := dn_46 (oo_17 5 rfl rfl)
theorem dL_law_1005 : decode cL_law 1005 = .ok (.aload_n 3, 1) := dn_45 (oo_17 6 rfl rfl)
end
section
/-! decode rows -/
theorem dL_law_1006 : decode cL_law 1006 = .ok (.invokestatic 233, 3) := dn_184 (oo_17 7 rfl rfl) rfl
theorem dL_law_1009 : decode cL_law 1009 = .ok (.istore 5, 2) := dn_54 (oo_17 10 rfl rfl) rfl
theorem dL_law_1011 : decode cL_law 1011 = .ok (.aload_n 2, 1) := dn_44 (oo_17 12 rfl rfl)
theorem dL_law_1012 : decode cL_law 1012 = .ok (.aload_n 0, 1) := dn_42 (oo_17 13 rfl rfl)
theorem dL_law_1013 : decode cL_law 1013 = .ok (.iload 4, 2) := dn_21 (oo_17 14 rfl rfl) rfl
theorem dL_law_1015 : decode cL_law 1015 = .ok (.iconst 1, 1) := dn_4 (oo_17 16 rfl rfl)
theorem dL_law_1016 : decode cL_law 1016 = .ok (.iadd, 1) := dn_96 (oo_17 17 rfl rfl)
theorem dL_law_1017 : decode cL_law 1017 = .ok (.iaload, 1) := dn_46 (oo_17 18 rfl rfl)
theorem dL_law_1018 : decode cL_law 1018 = .ok (.aload_n 0, 1) := dn_42 (oo_17 19 rfl rfl)
theorem dL_law_1019 : decode cL_law 1019 = .ok (.iload 4, 2) := dn_21 (oo_17 20 rfl rfl) rfl
theorem dL_law_1021 : decode cL_law 1021 = .ok (.iconst 2, 1) := dn_5 (oo_17 22 rfl rfl)
theorem dL_law_1022 : decode cL_law 1022 = .ok (.iadd, 1) := dn_96 (oo_17 23 rfl rfl)
theorem dL_law_1023 : decode cL_law 1023 = .ok (.iaload, 1) := dn_46 (oo_17 24 rfl rfl)
theorem dL_law_1024 : decode cL_law 1024 = .ok (.invokevirtual 235, 3) := dn_182 (oo_17 25 rfl rfl) rfl
theorem dL_law_1027 : decode cL_law 1027 = .ok (.istore 6, 2) := dn_54 (oo_17 28 rfl rfl) rfl
theorem dL_law_1029 : decode cL_law 1029 = .ok (.goto 1215, 3) := dn_167 (oo_17 30 rfl rfl) (by decide +kernel)
theorem dL_law_1032 : decode cL_law 1032 = .ok (.aload_n 1, 1) := dn_43 (oo_17 33 rfl rfl)
theorem dL_law_1033 : decode cL_law 1033 = .ok (.aload_n 0, 1) := dn_42 (oo_17 34 rfl rfl)
theorem dL_law_1034 : decode cL_law 1034 = .ok (.iload 4, 2) := dn_21 (oo_17 35 rfl rfl) rfl
theorem dL_law_1036 : decode cL_law 1036 = .ok (.iconst 1, 1) := dn_4 (oo_17 37 rfl rfl)
theorem dL_law_1037 : decode cL_law 1037 = .ok (.iadd, 1) := dn_96 (oo_17 38 rfl rfl)
theorem dL_law_1038 : decode cL_law 1038 = .ok (.iaload, 1) := dn_46 (oo_17 39 rfl rfl)
theorem dL_law_1039 : decode cL_law 1039 = .ok (.aload_n 0, 1) := dn_42 (oo_17 40 rfl rfl)
theorem dL_law_1040 : decode cL_law 1040 = .ok (.iload 4, 2) := dn_21 (oo_17 41 rfl rfl) rfl
theorem dL_law_1042 : decode cL_law 1042 = .ok (.iconst 2, 1) := dn_5 (oo_17 43 rfl rfl)
theorem dL_law_1043 : decode cL_law 1043 = .ok (.iadd, 1) := dn_96 (oo_17 44 rfl rfl)
theorem dL_law_1044 : decode cL_law 1044 = .ok (.iaload, 1) := dn_46 (oo_18 0 rfl rfl)
theorem dL_law_1045 : decode cL_law 1045 = .ok (.aload_n 0, 1) := dn_42 (oo_18 1 rfl rfl)
theorem dL_law_1046 : decode cL_law 1046 = .ok (.iload 4, 2) := dn_21 (oo_18 2 rfl rfl) rfl
theorem dL_law_1048 : decode cL_law 1048 = .ok (.iconst 3, 1) := dn_6 (oo_18 4 rfl rfl)
theorem dL_law_1049 : decode cL_law 1049 = .ok (.iadd, 1) := dn_96 (oo_18 5 rfl rfl)
theorem dL_law_1050 : decode cL_law 1050 = .ok (.iaload, 1) := dn_46 (oo_18 6 rfl rfl)
theorem dL_law_1051 : decode cL_law 1051 = .ok (.ifCond .eq 7, 3) := dn_153 (oo_18 7 rfl rfl) (by decide +kernel)
theorem dL_law_1054 : decode cL_law 1054 = .ok (.iconst 1, 1) := dn_4 (oo_18 10 rfl rfl)
theorem dL_law_1055 : decode cL_law 1055 = .ok (.goto 4, 3) := dn_167 (oo_18 11 rfl rfl) (by decide +kernel)
theorem dL_law_1058 : decode cL_law 1058 = .ok (.iconst 0, 1) := dn_3 (oo_18 14 rfl rfl)
theorem dL_law_1059 : decode cL_law 1059 = .ok (.aload_n 3, 1) := dn_45 (oo_18 15 rfl rfl)
theorem dL_law_1060 : decode cL_law 1060 = .ok (.invokestatic 236, 3) := dn_184 (oo_18 16 rfl rfl) rfl
theorem dL_law_1063 : decode cL_law 1063 = .ok (.istore 5, 2) := dn_54 (oo_18 19 rfl rfl) rfl
theorem dL_law_1065 : decode cL_law 1065 = .ok (.aload_n 2, 1) := dn_44 (oo_18 21 rfl rfl)
theorem dL_law_1066 : decode cL_law 1066 = .ok (.aload_n 0, 1) := dn_42 (oo_18 22 rfl rfl)
theorem dL_law_1067 : decode cL_law 1067 = .ok (.iload 4, 2) := dn_21 (oo_18 23 rfl rfl) rfl
theorem dL_law_1069 : decode cL_law 1069 = .ok (.iconst 1, 1) := dn_4 (oo_18 25 rfl rfl)
theorem dL_law_1070 : decode cL_law 1070 = .ok (.iadd, 1) := dn_96 (oo_18 26 rfl rfl)
theorem dL_law_1071 : decode cL_law 1071 = .ok (.iaload, 1) := dn_46 (oo_18 27 rfl rfl)
theorem dL_law_1072 : decode cL_law 1072 = .ok (.aload_n 0, 1) := dn_42 (oo_18 28 rfl rfl)
theorem dL_law_1073 : decode cL_law 1073 = .ok (.iload 4, 2) := dn_21 (oo_18 29 rfl rfl) rfl
theorem dL_law_1075 : decode cL_law 1075 = .ok (.iconst 2, 1) := dn_5 (oo_18 31 rfl rfl)
theorem dL_law_1076 : decode cL_law 1076 = .ok (.iadd, 1) := dn_96 (oo_18 32 rfl rfl)
theorem dL_law_1077 : decode cL_law 1077 = .ok (.iaload, 1) := dn_46 (oo_18 33 rfl rfl)
theorem dL_law_1078 : decode cL_law 1078 = .ok (.aload_n 0, 1) := dn_42 (oo_18 34 rfl rfl)
theorem dL_law_1079 : decode cL_law 1079 = .ok (.iload 4, 2) := dn_21 (oo_18 35 rfl rfl) rfl
theorem dL_law_1081 : decode cL_law 1081 = .ok (.iconst 3, 1) := dn_6 (oo_18 37 rfl rfl)
theorem dL_law_1082 : decode cL_law 1082 = .ok (.iadd, 1) := dn_96 (oo_18 38 rfl rfl)
theorem dL_law_1083 : decode cL_law 1083 = .ok (.iaload, 1) := dn_46 (oo_18 39 rfl rfl)
theorem dL_law_1084 : decode cL_law 1084 = .ok (.ifCond .eq 7, 3) := dn_153 (oo_18 40 rfl rfl) (by decide +kernel)
theorem dL_law_1087 : decode cL_law 1087 = .ok (.iconst 1, 1) := dn_4 (oo_18 43 rfl rfl)
theorem dL_law_1088 : decode cL_law 1088 = .ok (.goto 4, 3) := dn_167 (oo_18 44 rfl rfl) (by decide +kernel)
theorem dL_law_1091 : decode cL_law 1091 = .ok (.iconst 0, 1) := dn_3 (oo_19 0 rfl rfl)
theorem dL_law_1092 : decode cL_law 1092 = .ok (.invokevirtual 238, 3) := dn_182 (oo_19 1 rfl rfl) rfl
theorem dL_law_1095 : decode cL_law 1095 = .ok (.istore 6, 2) := dn_54 (oo_19 4 rfl rfl) rfl
theorem dL_law_1097 : decode cL_law 1097 = .ok (.goto 1147, 3) := dn_167 (oo_19 6 rfl rfl) (by decide +kernel)
theorem dL_law_1100 : decode cL_law 1100 = .ok (.aload_n 1, 1) := dn_43 (oo_19 9 rfl rfl)
theorem dL_law_1101 : decode cL_law 1101 = .ok (.aload_n 0, 1) := dn_42 (oo_19 10 rfl rfl)
theorem dL_law_1102 : decode cL_law 1102 = .ok (.iload 4, 2) := dn_21 (oo_19 11 rfl rfl) rfl
theorem dL_law_1104 : decode cL_law 1104 = .ok (.iconst 1, 1) := dn_4 (oo_19 13 rfl rfl)
theorem dL_law_1105 : decode cL_law 1105 = .ok (.iadd, 1) := dn_96 (oo_19 14 rfl rfl)
theorem dL_law_1106 : decode cL_law 1106 = .ok (.iaload, 1) := dn_46 (oo_19 15 rfl rfl)
theorem dL_law_1107 : decode cL_law 1107 = .ok (.aload_n 0, 1) := dn_42 (oo_19 16 rfl rfl)
theorem dL_law_1108 : decode cL_law 1108 = .ok (.iload 4, 2) := dn_21 (oo_19 17 rfl rfl) rfl
theorem dL_law_1110 : decode cL_law 1110 = .ok (.iconst 2, 1) := dn_5 (oo_19 19 rfl rfl)
theorem dL_law_1111 : decode cL_law 1111 = .ok (.iadd, 1) := dn_96 (oo_19 20 rfl rfl)
theorem dL_law_1112 : decode cL_law 1112 = .ok (.iaload, 1) := dn_46 (oo_19 21 rfl rfl)
theorem dL_law_1113 : decode cL_law 1113 = .ok (.aload_n 3, 1) := dn_45 (oo_19 22 rfl rfl)
theorem dL_law_1114 : decode cL_law 1114 = .ok (.invokestatic 239, 3) := dn_184 (oo_19 23 rfl rfl) rfl
theorem dL_law_1117 : decode cL_law 1117 = .ok (.istore 5, 2) := dn_54 (oo_19 26 rfl rfl) rfl
theorem dL_law_1119 : decode cL_law 1119 = .ok (.aload_n 2, 1) := dn_44 (oo_19 28 rfl rfl)
theorem dL_law_1120 : decode cL_law 1120 = .ok (.aload_n 0, 1) := dn_42 (oo_19 29 rfl rfl)
theorem dL_law_1121 : decode cL_law 1121 = .ok (.iload 4, 2) := dn_21 (oo_19 30 rfl rfl) rfl
theorem dL_law_1123 : decode cL_law 1123 = .ok (.iconst 1, 1) := dn_4 (oo_19 32 rfl rfl)
theorem dL_law_1124 : decode cL_law 1124 = .ok (.iadd, 1) := dn_96 (oo_19 33 rfl rfl)
theorem dL_law_1125 : decode cL_law 1125 = .ok (.iaload, 1) := dn_46 (oo_19 34 rfl rfl)
theorem dL_law_1126 : decode cL_law 1126 = .ok (.aload_n 0, 1) := dn_42 (oo_19 35 rfl rfl)
theorem dL_law_1127 : decode cL_law 1127 = .ok (.iload 4, 2) := dn_21 (oo_19 36 rfl rfl) rfl
theorem dL_law_1129 : decode cL_law 1129 = .ok (.iconst 2, 1) := dn_5 (oo_19 38 rfl rfl)
theorem dL_law_1130 : decode cL_law 1130 = .ok (.iadd, 1) := dn_96 (oo_19 39 rfl rfl)
theorem dL_law_1131 : decode cL_law 1131 = .ok (.iaload, 1) := dn_46 (oo_19 40 rfl rfl)
theorem dL_law_1132 : decode cL_law 1132 = .ok (.invokevirtual 241, 3) := dn_182 (oo_19 41 rfl rfl) rfl
theorem dL_law_1135 : decode cL_law 1135 = .ok (.istore 6, 2) := dn_54 (oo_19 44 rfl rfl) rfl
theorem dL_law_1137 : decode cL_law 1137 = .ok (.goto 1107, 3) := dn_167 (oo_19 46 rfl rfl) (by decide +kernel)
theorem dL_law_1140 : decode cL_law 1140 = .ok (.aload_n 1, 1) := dn_43 (oo_20 0 rfl rfl)
theorem dL_law_1141 : decode cL_law 1141 = .ok (.aload_n 0, 1) := dn_42 (oo_20 1 rfl rfl)
theorem dL_law_1142 : decode cL_law 1142 = .ok (.iload 4, 2) := dn_21 (oo_20 2 rfl rfl) rfl
theorem dL_law_1144 : decode cL_law 1144 = .ok (.iconst 1, 1) := dn_4 (oo_20 4 rfl rfl)
theorem dL_law_1145 : decode cL_law 1145 = .ok (.iadd, 1) := dn_96 (oo_20 5 rfl rfl)
theorem dL_law_1146 : decode cL_law 1146 = .ok (.iaload, 1) := dn_46 (oo_20 6 rfl rfl)
theorem dL_law_1147 : decode cL_law 1147 = .ok (.aload_n 0, 1) := dn_42 (oo_20 7 rfl rfl)
theorem dL_law_1148 : decode cL_law 1148 = .ok (.iload 4, 2) := dn_21 (oo_20 8 rfl rfl) rfl
theorem dL_law_1150 : decode cL_law 1150 = .ok (.iconst 2, 1) := dn_5 (oo_20 10 rfl rfl)
theorem dL_law_1151 : decode cL_law 1151 = .ok (.iadd, 1) := dn_96 (oo_20 11 rfl rfl)
theorem dL_law_1152 : decode cL_law 1152 = .ok (.iaload, 1) := dn_46 (oo_20 12 rfl rfl)
theorem dL_law_1153 : decode cL_law 1153 = .ok (.aload_n 0, 1) := dn_42 (oo_20 13 rfl rfl)
theorem dL_law_1154 : decode cL_law 1154 = .ok (.iload 4, 2) := dn_21 (oo_20 14 rfl rfl) rfl
theorem dL_law_1156 : decode cL_law 1156 = .ok (.iconst 3, 1) := dn_6 (oo_20 16 rfl rfl)
theorem dL_law_1157 : decode cL_law 1157 = .ok (.iadd, 1) := dn_96 (oo_20 17 rfl rfl)
theorem dL_law_1158 : decode cL_law 1158 = .ok (.iaload, 1) := dn_46 (oo_20 18 rfl rfl)
theorem dL_law_1159 : decode cL_law 1159 = .ok (.aload_n 3, 1) := dn_45 (oo_20 19 rfl rfl)
theorem dL_law_1160 : decode cL_law 1160 = .ok (.invokestatic 242, 3) := dn_184 (oo_20 20 rfl rfl) rfl
theorem dL_law_1163 : decode cL_law 1163 = .ok (.istore 5, 2) := dn_54 (oo_20 23 rfl rfl) rfl
theorem dL_law_1165 : decode cL_law 1165 = .ok (.aload_n 2, 1) := dn_44 (oo_20 25 rfl rfl)
theorem dL_law_1166 : decode cL_law 1166 = .ok (.aload_n 0, 1) := dn_42 (oo_20 26 rfl rfl)
theorem dL_law_1167 : decode cL_law 1167 = .ok (.iload 4, 2) := dn_21 (oo_20 27 rfl rfl) rfl
theorem dL_law_1169 : decode cL_law 1169 = .ok (.iconst 1, 1) := dn_4 (oo_20 29 rfl rfl)
theorem dL_law_1170 : decode cL_law 1170 = .ok (.iadd, 1) := dn_96 (oo_20 30 rfl rfl)
theorem dL_law_1171 : decode cL_law 1171 = .ok (.iaload, 1) := dn_46 (oo_20 31 rfl rfl)
theorem dL_law_1172 : decode cL_law 1172 = .ok (.aload_n 0, 1) := dn_42 (oo_20 32 rfl rfl)
theorem dL_law_1173 : decode cL_law 1173 = .ok (.iload 4, 2) := dn_21 (oo_20 33 rfl rfl) rfl
theorem dL_law_1175 : decode cL_law 1175 = .ok (.iconst 2, 1) := dn_5 (oo_20 35 rfl rfl)
theorem dL_law_1176 : decode cL_law 1176 = .ok (.iadd, 1) := dn_96 (oo_20 36 rfl rfl)
theorem dL_law_1177 : decode cL_law 1177 = .ok (.iaload, 1) := dn_46 (oo_20 37 rfl rfl)
theorem dL_law_1178 : decode cL_law 1178 = .ok (.aload_n 0, 1) := dn_42 (oo_20 38 rfl rfl)
theorem dL_law_1179 : decode cL_law 1179 = .ok (.iload 4, 2) := dn_21 (oo_20 39 rfl rfl) rfl
theorem dL_law_1181 : decode cL_law 1181 = .ok (.iconst 3, 1) := dn_6 (oo_21 0 rfl rfl)
theorem dL_law_1182 : decode cL_law 1182 = .ok (.iadd, 1) := dn_96 (oo_21 1 rfl rfl)
theorem dL_law_1183 : decode cL_law 1183 = .ok (.iaload, 1) := dn_46 (oo_21 2 rfl rfl)
theorem dL_law_1184 : decode cL_law 1184 = .ok (.invokevirtual 244, 3) := dn_182 (oo_21 3 rfl rfl) rfl
theorem dL_law_1187 : decode cL_law 1187 = .ok (.istore 6, 2) := dn_54 (oo_21 6 rfl rfl) rfl
theorem dL_law_1189 : decode cL_law 1189 = .ok (.goto 1055, 3) := dn_167 (oo_21 8 rfl rfl) (by decide +kernel)
theorem dL_law_1192 : decode cL_law 1192 = .ok (.aload_n 1, 1) := dn_43 (oo_21 11 rfl rfl)
theorem dL_law_1193 : decode cL_law 1193 = .ok (.aload_n 0, 1) := dn_42 (oo_21 12 rfl rfl)
theorem dL_law_1194 : decode cL_law 1194 = .ok (.iload 4, 2) := dn_21 (oo_21 13 rfl rfl) rfl
theorem dL_law_1196 : decode cL_law 1196 = .ok (.iconst 1, 1) := dn_4 (oo_21 15 rfl rfl)
theorem dL_law_1197 : decode cL_law 1197 = .ok (.iadd, 1) := dn_96 (oo_21 16 rfl rfl)
theorem dL_law_1198 : decode cL_law 1198 = .ok (.iaload, 1) := dn_46 (oo_21 17 rfl rfl)
theorem dL_law_1199 : decode cL_law 1199 = .ok (.aload_n 0, 1) := dn_42 (oo_21 18 rfl rfl)
theorem dL_law_1200 : decode cL_law 1200 = .ok (.iload 4, 2) := dn_21 (oo_21 19 rfl rfl) rfl
theorem dL_law_1202 : decode cL_law 1202 = .ok (.iconst 2, 1) := dn_5 (oo_21 21 rfl rfl)
theorem dL_law_1203 : decode cL_law 1203 = .ok (.iadd, 1) := dn_96 (oo_21 22 rfl rfl)
theorem dL_law_1204 : decode cL_law 1204 = .ok (.iaload, 1) := dn_46 (oo_21 23 rfl rfl)
theorem dL_law_1205 : decode cL_law 1205 = .ok (.aload_n 0, 1) := dn_42 (oo_21 24 rfl rfl)
theorem dL_law_1206 : decode cL_law 1206 = .ok (.iload 4, 2) := dn_21 (oo_21 25 rfl rfl) rfl
theorem dL_law_1208 : decode cL_law 1208 = .ok (.iconst 3, 1) := dn_6 (oo_21 27 rfl rfl)
theorem dL_law_1209 : decode cL_law 1209 = .ok (.iadd, 1) := dn_96 (oo_21 28 rfl rfl)
theorem dL_law_1210 : decode cL_law 1210 = .ok (.iaload, 1) := dn_46 (oo_21 29 rfl rfl)
theorem dL_law_1211 : decode cL_law 1211 = .ok (.aload_n 3, 1) := dn_45 (oo_21 30 rfl rfl)
theorem dL_law_1212 : decode cL_law 1212 = .ok (.invokestatic 245, 3) := dn_184 (oo_21 31 rfl rfl) rfl
theorem dL_law_1215 : decode cL_law 1215 = .ok (.istore 5, 2) := dn_54 (oo_21 34 rfl rfl) rfl
theorem dL_law_1217 : decode cL_law 1217 = .ok (.aload_n 2, 1) := dn_44 (oo_21 36 rfl rfl)
theorem dL_law_1218 : decode cL_law 1218 = .ok (.aload_n 0, 1) := dn_42 (oo_21 37 rfl rfl)
theorem dL_law_1219 : decode cL_law 1219 = .ok (.iload 4, 2) := dn_21 (oo_21 38 rfl rfl) rfl
theorem dL_law_1221 : decode cL_law 1221 = .ok (.iconst 1, 1) := dn_4 (oo_21 40 rfl rfl)
theorem dL_law_1222 : decode cL_law 1222 = .ok (.iadd, 1) := dn_96 (oo_21 41 rfl rfl)
theorem dL_law_1223 : decode cL_law 1223 = .ok (.iaload, 1) := dn_46 (oo_21 42 rfl rfl)
theorem dL_law_1224 : decode cL_law 1224 = .ok (.aload_n 0, 1) := dn_42 (oo_21 43 rfl rfl)
theorem dL_law_1225 : decode cL_law 1225 = .ok (.iload 4, 2) := dn_21 (oo_22 0 rfl rfl) rfl
theorem dL_law_1227 : decode cL_law 1227 = .ok (.iconst 2, 1) := dn_5 (oo_22 2 rfl rfl)
theorem dL_law_1228 : decode cL_law 1228 = .ok (.iadd, 1) := dn_96 (oo_22 3 rfl rfl)
theorem dL_law_1229 : decode cL_law 1229 = .ok (.iaload, 1) := dn_46 (oo_22 4 rfl rfl)
theorem dL_law_1230 : decode cL_law 1230 = .ok (.aload_n 0, 1) := dn_42 (oo_22 5 rfl rfl)
theorem dL_law_1231 : decode cL_law 1231 = .ok (.iload 4, 2) := dn_21 (oo_22 6 rfl rfl) rfl
theorem dL_law_1233 : decode cL_law 1233 = .ok (.iconst 3, 1) := dn_6 (oo_22 8 rfl rfl)
theorem dL_law_1234 : decode cL_law 1234 = .ok (.iadd, 1) := dn_96 (oo_22 9 rfl rfl)
theorem dL_law_1235 : decode cL_law 1235 = .ok (.iaload, 1) := dn_46 (oo_22 10 rfl rfl)
theorem dL_law_1236 : decode cL_law 1236 = .ok (.invokevirtual 247, 3) := dn_182 (oo_22 11 rfl rfl) rfl
theorem dL_law_1239 : decode cL_law 1239 = .ok (.istore 6, 2) := dn_54 (oo_22 14 rfl rfl) rfl
theorem dL_law_1241 : decode cL_law 1241 = .ok (.goto 1003, 3) := dn_167 (oo_22 16 rfl rfl) (by decide +kernel)
theorem dL_law_1244 : decode cL_law 1244 = .ok (.aload_n 1, 1) := dn_43 (oo_22 19 rfl rfl)
theorem dL_law_1245 : decode cL_law 1245 = .ok (.aload_n 0, 1) := dn_42 (oo_22 20 rfl rfl)
theorem dL_law_1246 : decode cL_law 1246 = .ok (.iload 4, 2) := dn_21 (oo_22 21 rfl rfl) rfl
theorem dL_law_1248 : decode cL_law 1248 = .ok (.iconst 1, 1) := dn_4 (oo_22 23 rfl rfl)
theorem dL_law_1249 : decode cL_law 1249 = .ok (.iadd, 1) := dn_96 (oo_22 24 rfl rfl)
theorem dL_law_1250 : decode cL_law 1250 = .ok (.iaload, 1) := dn_46 (oo_22 25 rfl rfl)
theorem dL_law_1251 : decode cL_law 1251 = .ok (.aload_n 0, 1) := dn_42 (oo_22 26 rfl rfl)
theorem dL_law_1252 : decode cL_law 1252 = .ok (.iload 4, 2) := dn_21 (oo_22 27 rfl rfl) rfl
theorem dL_law_1254 : decode cL_law 1254 = .ok (.iconst 2, 1) := dn_5 (oo_22 29 rfl rfl)
theorem dL_law_1255 : decode cL_law 1255 = .ok (.iadd, 1) := dn_96 (oo_22 30 rfl rfl)
theorem dL_law_1256 : decode cL_law 1256 = .ok (.iaload, 1) := dn_46 (oo_22 31 rfl rfl)
theorem dL_law_1257 : decode cL_law 1257 = .ok (.aload_n 3, 1) := dn_45 (oo_22 32 rfl rfl)
theorem dL_law_1258 : decode cL_law 1258 = .ok (.invokestatic 248, 3) := dn_184 (oo_22 33 rfl rfl) rfl
theorem dL_law_1261 : decode cL_law 1261 = .ok (.istore 5, 2) := dn_54 (oo_22 36 rfl rfl) rfl
theorem dL_law_1263 : decode cL_law 1263 = .ok (.aload_n 2, 1) := dn_44 (oo_22 38 rfl rfl)
theorem dL_law_1264 : decode cL_law 1264 = .ok (.aload_n 0, 1) := dn_42 (oo_22 39 rfl rfl)
theorem dL_law_1265 : decode cL_law 1265 = .ok (.iload 4, 2) := dn_21 (oo_22 40 rfl rfl) rfl
theorem dL_law_1267 : decode cL_law 1267 = .ok (.iconst 1, 1) := dn_4 (oo_22 42 rfl rfl)
theorem dL_law_1268 : decode cL_law 1268 = .ok (.iadd, 1) := dn_96 (oo_22 43 rfl rfl)
theorem dL_law_1269 : decode cL_law 1269 = .ok (.iaload, 1) := dn_46 (oo_22 44 rfl rfl)
theorem dL_law_1270 : decode cL_law 1270 = .ok (.aload_n 0, 1) := dn_42 (oo_23 0 rfl rfl)
theorem dL_law_1271 : decode cL_law 1271 = .ok (.iload 4, 2) := dn_21 (oo_23 1 rfl rfl) rfl
theorem dL_law_1273 : decode cL_law 1273 = .ok (.iconst 2, 1) := dn_5 (oo_23 3 rfl rfl)
theorem dL_law_1274 : decode cL_law 1274 = .ok (.iadd, 1) := dn_96 (oo_23 4 rfl rfl)
theorem dL_law_1275 : decode cL_law 1275 = .ok (.iaload, 1) := dn_46 (oo_23 5 rfl rfl)
theorem dL_law_1276 : decode cL_law 1276 = .ok (.invokevirtual 250, 3) := dn_182 (oo_23 6 rfl rfl) rfl
theorem dL_law_1279 : decode cL_law 1279 = .ok (.istore 6, 2) := dn_54 (oo_23 9 rfl rfl) rfl
theorem dL_law_1281 : decode cL_law 1281 = .ok (.goto 963, 3) := dn_167 (oo_23 11 rfl rfl) (by decide +kernel)
theorem dL_law_1284 : decode cL_law 1284 = .ok (.aload_n 1, 1) := dn_43 (oo_23 14 rfl rfl)
theorem dL_law_1285 : decode cL_law 1285 = .ok (.aload_n 0, 1) := dn_42 (oo_23 15 rfl rfl)
theorem dL_law_1286 : decode cL_law 1286 = .ok (.iload 4, 2) := dn_21 (oo_23 16 rfl rfl) rfl
theorem dL_law_1288 : decode cL_law 1288 = .ok (.iconst 1, 1) := dn_4 (oo_23 18 rfl rfl)
theorem dL_law_1289 : decode cL_law 1289 = .ok (.iadd, 1) := dn_96 (oo_23 19 rfl rfl)
theorem dL_law_1290 : decode cL_law 1290 = .ok (.iaload, 1) := dn_46 (oo_23 20 rfl rfl)
theorem dL_law_1291 : decode cL_law 1291 = .ok (.aload_n 0, 1) := dn_42 (oo_23 21 rfl rfl)
theorem dL_law_1292 : decode cL_law 1292 = .ok (.iload 4, 2) := dn_21 (oo_23 22 rfl rfl) rfl
theorem dL_law_1294 : decode cL_law 1294 = .ok (.iconst 2, 1) := dn_5 (oo_23 24 rfl rfl)
theorem dL_law_1295 : decode cL_law 1295 = .ok (.iadd, 1) := dn_96 (oo_23 25 rfl rfl)
theorem dL_law_1296 : decode cL_law 1296 = .ok (.iaload, 1) := dn_46 (oo_23 26 rfl rfl)
theorem dL_law_1297 : decode cL_law 1297 = .ok (.aload_n 3, 1) := dn_45 (oo_23 27 rfl rfl)
theorem dL_law_1298 : decode cL_law 1298 = .ok (.invokestatic 251, 3) := dn_184 (oo_23 28 rfl rfl) rfl
theorem dL_law_1301 : decode cL_law 1301 = .ok (.istore 5, 2) := dn_54 (oo_23 31 rfl rfl) rfl
theorem dL_law_1303 : decode cL_law 1303 = .ok (.aload_n 2, 1) := dn_44 (oo_23 33 rfl rfl)
theorem dL_law_1304 : decode cL_law 1304 = .ok (.aload_n 0, 1) := dn_42 (oo_23 34 rfl rfl)
theorem dL_law_1305 : decode cL_law 1305 = .ok (.iload 4, 2) := dn_21 (oo_23 35 rfl rfl) rfl
theorem dL_law_1307 : decode cL_law 1307 = .ok (.iconst 1, 1) := dn_4 (oo_23 37 rfl rfl)
theorem dL_law_1308 : decode cL_law 1308 = .ok (.iadd, 1) := dn_96 (oo_23 38 rfl rfl)
theorem dL_law_1309 : decode cL_law 1309 = .ok (.iaload, 1) := dn_46 (oo_23 39 rfl rfl)
theorem dL_law_1310 : decode cL_law 1310 = .ok (.aload_n 0, 1) := dn_42 (oo_23 40 rfl rfl)
theorem dL_law_1311 : decode cL_law 1311 = .ok (.iload 4, 2) := dn_21 (oo_23 41 rfl rfl) rfl
theorem dL_law_1313 : decode cL_law 1313 = .ok (.iconst 2, 1) := dn_5 (oo_23 43 rfl rfl)
theorem dL_law_1314 : decode cL_law 1314 = .ok (.iadd, 1) := dn_96 (oo_23 44 rfl rfl)
theorem dL_law_1315 : decode cL_law 1315 = .ok (.iaload, 1) := dn_46 (oo_24 0 rfl rfl)
theorem dL_law_1316 : decode cL_law 1316 = .ok (.invokevirtual 253, 3) := dn_182 (oo_24 1 rfl rfl) rfl
theorem dL_law_1319 : decode cL_law 1319 = .ok (.istore 6, 2) := dn_54 (oo_24 4 rfl rfl) rfl
theorem dL_law_1321 : decode cL_law 1321 = .ok (.goto 923, 3) := dn_167 (oo_24 6 rfl rfl) (by decide +kernel)
theorem dL_law_1324 : decode cL_law 1324 = .ok (.aload_n 1, 1) := dn_43 (oo_24 9 rfl rfl)
theorem dL_law_1325 : decode cL_law 1325 = .ok (.aload_n 0, 1) := dn_42 (oo_24 10 rfl rfl)
theorem dL_law_1326 : decode cL_law 1326 = .ok (.iload 4, 2) := dn_21 (oo_24 11 rfl rfl) rfl
theorem dL_law_1328 : decode cL_law 1328 = .ok (.iconst 1, 1) := dn_4 (oo_24 13 rfl rfl)
theorem dL_law_1329 : decode cL_law 1329 = .ok (.iadd, 1) := dn_96 (oo_24 14 rfl rfl)
theorem dL_law_1330 : decode cL_law 1330 = .ok (.iaload, 1) := dn_46 (oo_24 15 rfl rfl)
theorem dL_law_1331 : decode cL_law 1331 = .ok (.aload_n 0, 1) := dn_42 (oo_24 16 rfl rfl)
theorem dL_law_1332 : decode cL_law 1332 = .ok (.iload 4, 2) := dn_21 (oo_24 17 rfl rfl) rfl
theorem dL_law_1334 : decode cL_law 1334 = .ok (.iconst 2, 1) := dn_5 (oo_24 19 rfl rfl)
theorem dL_law_1335 : decode cL_law 1335 = .ok (.iadd, 1) := dn_96 (oo_24 20 rfl rfl)
theorem dL_law_1336 : decode cL_law 1336 = .ok (.iaload, 1) := dn_46 (oo_24 21 rfl rfl)
theorem dL_law_1337 : decode cL_law 1337 = .ok (.aload_n 3, 1) := dn_45 (oo_24 22 rfl rfl)
theorem dL_law_1338 : decode cL_law 1338 = .ok (.invokestatic 254, 3) := dn_184 (oo_24 23 rfl rfl) rfl
theorem dL_law_1341 : decode cL_law 1341 = .ok (.istore 5, 2) := dn_54 (oo_24 26 rfl rfl) rfl
theorem dL_law_1343 : decode cL_law 1343 = .ok (.aload_n 2, 1) := dn_44 (oo_24 28 rfl rfl)
theorem dL_law_1344 : decode cL_law 1344 = .ok (.aload_n 0, 1) := dn_42 (oo_24 29 rfl rfl)
theorem dL_law_1345 : decode cL_law 1345 = .ok (.iload 4, 2) := dn_21 (oo_24 30 rfl rfl) rfl
theorem dL_law_1347 : decode cL_law 1347 = .ok (.iconst 1, 1) := dn_4 (oo_24 32 rfl rfl)
theorem dL_law_1348 : decode cL_law 1348 = .ok (.iadd, 1) := dn_96 (oo_24 33 rfl rfl)
theorem dL_law_1349 : decode cL_law 1349 = .ok (.iaload, 1) := dn_46 (oo_24 34 rfl rfl)
theorem dL_law_1350 : decode cL_law 1350 = .ok (.aload_n 0, 1) := dn_42 (oo_24 35 rfl rfl)
theorem dL_law_1351 : decode cL_law 1351 = .ok (.iload 4, 2) := dn_21 (oo_24 36 rfl rfl) rfl
theorem dL_law_1353 : decode cL_law 1353 = .ok (.iconst 2, 1) := dn_5 (oo_24 38 rfl rfl)
theorem dL_law_1354 : decode cL_law 1354 = .ok (.iadd, 1) := dn_96 (oo_24 39 rfl rfl)
theorem dL_law_1355 : decode cL_law 1355 = .ok (.iaload, 1) := dn_46 (oo_24 40 rfl rfl)
theorem dL_law_1356 : decode cL_law 1356 = .ok (.invokevirtual 256, 3) := dn_182 (oo_24 41 rfl rfl) rfl
theorem dL_law_1359 : decode cL_law 1359 = .ok (.istore 6, 2) := dn_54 (oo_24 44 rfl rfl) rfl
theorem dL_law_1361 : decode cL_law 1361 = .ok (.goto 883, 3) := dn_167 (oo_24 46 rfl rfl) (by decide +kernel)
theorem dL_law_1364 : decode cL_law 1364 = .ok (.aload_n 1, 1) := dn_43 (oo_25 0 rfl rfl)
theorem dL_law_1365 : decode cL_law 1365 = .ok (.aload_n 0, 1) := dn_42 (oo_25 1 rfl rfl)
theorem dL_law_1366 : decode cL_law 1366 = .ok (.iload 4, 2) := dn_21 (oo_25 2 rfl rfl) rfl
theorem dL_law_1368 : decode cL_law 1368 = .ok (.iconst 1, 1) := dn_4 (oo_25 4 rfl rfl)
theorem dL_law_1369 : decode cL_law 1369 = .ok (.iadd, 1) := dn_96 (oo_25 5 rfl rfl)
theorem dL_law_1370 : decode cL_law 1370 = .ok (.iaload, 1) := dn_46 (oo_25 6 rfl rfl)
theorem dL_law_1371 : decode cL_law 1371 = .ok (.aload_n 0, 1) := dn_42 (oo_25 7 rfl rfl)
theorem dL_law_1372 : decode cL_law 1372 = .ok (.iload 4, 2) := dn_21 (oo_25 8 rfl rfl) rfl
theorem dL_law_1374 : decode cL_law 1374 = .ok (.iconst 2, 1) := dn_5 (oo_25 10 rfl rfl)
theorem dL_law_1375 : decode cL_law 1375 = .ok (.iadd, 1) := dn_96 (oo_25 11 rfl rfl)
theorem dL_law_1376 : decode cL_law 1376 = .ok (.iaload, 1) := dn_46 (oo_25 12 rfl rfl)
theorem dL_law_1377 : decode cL_law 1377 = .ok (.aload_n 0, 1) := dn_42 (oo_25 13 rfl rfl)
theorem dL_law_1378 : decode cL_law 1378 = .ok (.iload 4, 2) := dn_21 (oo_25 14 rfl rfl) rfl
theorem dL_law_1380 : decode cL_law 1380 = .ok (.iconst 3, 1) := dn_6 (oo_25 16 rfl rfl)
theorem dL_law_1381 : decode cL_law 1381 = .ok (.iadd, 1) := dn_96 (oo_25 17 rfl rfl)
theorem dL_law_1382 : decode cL_law 1382 = .ok (.iaload, 1) := dn_46 (oo_25 18 rfl rfl)
theorem dL_law_1383 : decode cL_law 1383 = .ok (.aload_n 3, 1) := dn_45 (oo_25 19 rfl rfl)
theorem dL_law_1384 : decode cL_law 1384 = .ok (.invokestatic 257, 3) := dn_184 (oo_25 20 rfl rfl) rfl
theorem dL_law_1387 : decode cL_law 1387 = .ok (.istore 5, 2) := dn_54 (oo_25 23 rfl rfl) rfl
theorem dL_law_1389 : decode cL_law 1389 = .ok (.aload_n 2, 1) := dn_44 (oo_25 25 rfl rfl)
theorem dL_law_1390 : decode cL_law 1390 = .ok (.aload_n 0, 1) := dn_42 (oo_25 26 rfl rfl)
theorem dL_law_1391 : decode cL_law 1391 = .ok (.iload 4, 2) := dn_21 (oo_25 27 rfl rfl) rfl
theorem dL_law_1393 : decode cL_law 1393 = .ok (.iconst 1, 1) := dn_4 (oo_25 29 rfl rfl)
theorem dL_law_1394 : decode cL_law 1394 = .ok (.iadd, 1) := dn_96 (oo_25 30 rfl rfl)
theorem dL_law_1395 : decode cL_law 1395 = .ok (.iaload, 1) := dn_46 (oo_25 31 rfl rfl)
theorem dL_law_1396 : decode cL_law 1396 = .ok (.aload_n 0, 1) := dn_42 (oo_25 32 rfl rfl)
theorem dL_law_1397 : decode cL_law 1397 = .ok (.iload 4, 2) := dn_21 (oo_25 33 rfl rfl) rfl
theorem dL_law_1399 : decode cL_law 1399 = .ok (.iconst 2, 1) := dn_5 (oo_25 35 rfl rfl)
theorem dL_law_1400 : decode cL_law 1400 = .ok (.iadd, 1) := dn_96 (oo_25 36 rfl rfl)
theorem dL_law_1401 : decode cL_law 1401 = .ok (.iaload, 1) := dn_46 (oo_25 37 rfl rfl)
theorem dL_law_1402 : decode cL_law 1402 = .ok (.aload_n 0, 1) := dn_42 (oo_25 38 rfl rfl)
theorem dL_law_1403 : decode cL_law 1403 = .ok (.iload 4, 2) := dn_21 (oo_25 39 rfl rfl) rfl
theorem dL_law_1405 : decode cL_law 1405 = .ok (.iconst 3, 1) := dn_6 (oo_26 0 rfl rfl)
theorem dL_law_1406 : decode cL_law 1406 = .ok (.iadd, 1) := dn_96 (oo_26 1 rfl rfl)
theorem dL_law_1407 : decode cL_law 1407 = .ok (.iaload, 1) := dn_46 (oo_26 2 rfl rfl)
theorem dL_law_1408 : decode cL_law 1408 = .ok (.invokevirtual 259, 3) := dn_182 (oo_26 3 rfl rfl) rfl
theorem dL_law_1411 : decode cL_law 1411 = .ok (.istore 6, 2) := dn_54 (oo_26 6 rfl rfl) rfl
theorem dL_law_1413 : decode cL_law 1413 = .ok (.aload_n 2, 1) := dn_44 (oo_26 8 rfl rfl)
theorem dL_law_1414 : decode cL_law 1414 = .ok (.invokevirtual 260, 3) := dn_182 (oo_26 9 rfl rfl) rfl
theorem dL_law_1417 : decode cL_law 1417 = .ok (.iload 5, 2) := dn_21 (oo_26 12 rfl rfl) rfl
theorem dL_law_1419 : decode cL_law 1419 = .ok (.if_icmp .eq 5, 3) := dn_159 (oo_26 14 rfl rfl) (by decide +kernel)
theorem dL_law_1422 : decode cL_law 1422 = .ok (.iconst 0, 1) := dn_3 (oo_26 17 rfl rfl)
theorem dL_law_1423 : decode cL_law 1423 = .ok (.ireturn, 1) := dn_172 (oo_26 18 rfl rfl)
theorem dL_law_1424 : decode cL_law 1424 = .ok (.iload 5, 2) := dn_21 (oo_26 19 rfl rfl) rfl
theorem dL_law_1426 : decode cL_law 1426 = .ok (.ifCond .ne 16, 3) := dn_154 (oo_26 21 rfl rfl) (by decide +kernel)
theorem dL_law_1429 : decode cL_law 1429 = .ok (.aload_n 3, 1) := dn_45 (oo_26 24 rfl rfl)
theorem dL_law_1430 : decode cL_law 1430 = .ok (.getfield 13, 3) := dn_180 (oo_26 25 rfl rfl) rfl
theorem dL_law_1433 : decode cL_law 1433 = .ok (.iload 6, 2) := dn_21 (oo_26 28 rfl rfl) rfl
theorem dL_law_1435 : decode cL_law 1435 = .ok (.i2l, 1) := dn_133 (oo_26 30 rfl rfl)
theorem dL_law_1436 : decode cL_law 1436 = .ok (.lcmp, 1) := dn_148 (oo_26 31 rfl rfl)
theorem dL_law_1437 : decode cL_law 1437 = .ok (.ifCond .eq 5, 3) := dn_153 (oo_26 32 rfl rfl) (by decide +kernel)
theorem dL_law_1440 : decode cL_law 1440 = .ok (.iconst 0, 1) := dn_3 (oo_26 35 rfl rfl)
theorem dL_law_1441 : decode cL_law 1441 = .ok (.ireturn, 1) := dn_172 (oo_26 36 rfl rfl)
theorem dL_law_1442 : decode cL_law 1442 = .ok (.goto 802, 3) := dn_167 (oo_26 37 rfl rfl) (by decide +kernel)
theorem dL_law_1445 : decode cL_law 1445 = .ok (.aload_n 1, 1) := dn_43 (oo_26 40 rfl rfl)
theorem dL_law_1446 : decode cL_law 1446 = .ok (.aload_n 0, 1) := dn_42 (oo_26 41 rfl rfl)
theorem dL_law_1447 : decode cL_law 1447 = .ok (.iload 4, 2) := dn_21 (oo_26 42 rfl rfl) rfl
theorem dL_law_1449 : decode cL_law 1449 = .ok (.iconst 1, 1) := dn_4 (oo_26 44 rfl rfl)
theorem dL_law_1450 : decode cL_law 1450 = .ok (.iadd, 1) := dn_96 (oo_26 45 rfl rfl)
theorem dL_law_1451 : decode cL_law 1451 = .ok (.iaload, 1) := dn_46 (oo_26 46 rfl rfl)
theorem dL_law_1452 : decode cL_law 1452 = .ok (.aload_n 3, 1) := dn_45 (oo_26 47 rfl rfl)
theorem dL_law_1453 : decode cL_law 1453 = .ok (.invokestatic 264, 3) := dn_184 (oo_26 48 rfl rfl) rfl
theorem dL_law_1456 : decode cL_law 1456 = .ok (.istore 5, 2) := dn_54 (oo_26 51 rfl rfl) rfl
theorem dL_law_1458 : decode cL_law 1458 = .ok (.aload_n 2, 1) := dn_44 (oo_26 53 rfl rfl)
theorem dL_law_1459 : decode cL_law 1459 = .ok (.aload_n 0, 1) := dn_42 (oo_27 0 rfl rfl)
theorem dL_law_1460 : decode cL_law 1460 = .ok (.iload 4, 2) := dn_21 (oo_27 1 rfl rfl) rfl
theorem dL_law_1462 : decode cL_law 1462 = .ok (.iconst 1, 1) := dn_4 (oo_27 3 rfl rfl)
theorem dL_law_1463 : decode cL_law 1463 = .ok (.iadd, 1) := dn_96 (oo_27 4 rfl rfl)
theorem dL_law_1464 : decode cL_law 1464 = .ok (.iaload, 1) := dn_46 (oo_27 5 rfl rfl)
theorem dL_law_1465 : decode cL_law 1465 = .ok (.invokevirtual 266, 3) := dn_182 (oo_27 6 rfl rfl) rfl
theorem dL_law_1468 : decode cL_law 1468 = .ok (.istore 6, 2) := dn_54 (oo_27 9 rfl rfl) rfl
theorem dL_law_1470 : decode cL_law 1470 = .ok (.goto 774, 3) := dn_167 (oo_27 11 rfl rfl) (by decide +kernel)
theorem dL_law_1473 : decode cL_law 1473 = .ok (.aload_n 1, 1) := dn_43 (oo_27 14 rfl rfl)
theorem dL_law_1474 : decode cL_law 1474 = .ok (.aload_n 0, 1) := dn_42 (oo_27 15 rfl rfl)
theorem dL_law_1475 : decode cL_law 1475 = .ok (.iload 4, 2) := dn_21 (oo_27 16 rfl rfl) rfl
theorem dL_law_1477 : decode cL_law 1477 = .ok (.iconst 1, 1) := dn_4 (oo_27 18 rfl rfl)
theorem dL_law_1478 : decode cL_law 1478 = .ok (.iadd, 1) := dn_96 (oo_27 19 rfl rfl)
theorem dL_law_1479 : decode cL_law 1479 = .ok (.iaload, 1) := dn_46 (oo_27 20 rfl rfl)
theorem dL_law_1480 : decode cL_law 1480 = .ok (.aload_n 0, 1) := dn_42 (oo_27 21 rfl rfl)
theorem dL_law_1481 : decode cL_law 1481 = .ok (.iload 4, 2) := dn_21 (oo_27 22 rfl rfl) rfl
theorem dL_law_1483 : decode cL_law 1483 = .ok (.iconst 2, 1) := dn_5 (oo_27 24 rfl rfl)
theorem dL_law_1484 : decode cL_law 1484 = .ok (.iadd, 1) := dn_96 (oo_27 25 rfl rfl)
theorem dL_law_1485 : decode cL_law 1485 = .ok (.iaload, 1) := dn_46 (oo_27 26 rfl rfl)
theorem dL_law_1486 : decode cL_law 1486 = .ok (.aload_n 3, 1) := dn_45 (oo_27 27 rfl rfl)
theorem dL_law_1487 : decode cL_law 1487 = .ok (.invokestatic 267, 3) := dn_184 (oo_27 28 rfl rfl) rfl
theorem dL_law_1490 : decode cL_law 1490 = .ok (.istore 5, 2) := dn_54 (oo_27 31 rfl rfl) rfl
theorem dL_law_1492 : decode cL_law 1492 = .ok (.aload_n 2, 1) := dn_44 (oo_27 33 rfl rfl)
theorem dL_law_1493 : decode cL_law 1493 = .ok (.aload_n 0, 1) := dn_42 (oo_27 34 rfl rfl)
theorem dL_law_1494 : decode cL_law 1494 = .ok (.iload 4, 2) := dn_21 (oo_27 35 rfl rfl) rfl
theorem dL_law_1496 : decode cL_law 1496 = .ok (.iconst 1, 1) := dn_4 (oo_27 37 rfl rfl)
theorem dL_law_1497 : decode cL_law 1497 = .ok (.iadd, 1) := dn_96 (oo_27 38 rfl rfl)
theorem dL_law_1498 : decode cL_law 1498 = .ok (.iaload, 1) := dn_46 (oo_27 39 rfl rfl)
theorem dL_law_1499 : decode cL_law 1499 = .ok (.aload_n 0, 1) := dn_42 (oo_27 40 rfl rfl)
theorem dL_law_1500 : decode cL_law 1500 = .ok (.iload 4, 2) := dn_21 (oo_27 41 rfl rfl) rfl
theorem dL_law_1502 : decode cL_law 1502 = .ok (.iconst 2, 1) := dn_5 (oo_27 43 rfl rfl)
theorem dL_law_1503 : decode cL_law 1503 = .ok (.iadd, 1) := dn_96 (oo_27 44 rfl rfl)
theorem dL_law_1504 : decode cL_law 1504 = .ok (.iaload, 1) := dn_46 (oo_28 0 rfl rfl)
theorem dL_law_1505 : decode cL_law 1505 = .ok (.invokevirtual 269, 3) := dn_182 (oo_28 1 rfl rfl) rfl
theorem dL_law_1508 : decode cL_law 1508 = .ok (.istore 6, 2) := dn_54 (oo_28 4 rfl rfl) rfl
theorem dL_law_1510 : decode cL_law 1510 = .ok (.goto 734, 3) := dn_167 (oo_28 6 rfl rfl) (by decide +kernel)
theorem dL_law_1513 : decode cL_law 1513 = .ok (.aload_n 1, 1) := dn_43 (oo_28 9 rfl rfl)
theorem dL_law_1514 : decode cL_law 1514 = .ok (.aload_n 0, 1) := dn_42 (oo_28 10 rfl rfl)
theorem dL_law_1515 : decode cL_law 1515 = .ok (.iload 4, 2) := dn_21 (oo_28 11 rfl rfl) rfl
theorem dL_law_1517 : decode cL_law 1517 = .ok (.iconst 1, 1) := dn_4 (oo_28 13 rfl rfl)
theorem dL_law_1518 : decode cL_law 1518 = .ok (.iadd, 1) := dn_96 (oo_28 14 rfl rfl)
theorem dL_law_1519 : decode cL_law 1519 = .ok (.iaload, 1) := dn_46 (oo_28 15 rfl rfl)
theorem dL_law_1520 : decode cL_law 1520 = .ok (.aload_n 3, 1) := dn_45 (oo_28 16 rfl rfl)
theorem dL_law_1521 : decode cL_law 1521 = .ok (.invokestatic 270, 3) := dn_184 (oo_28 17 rfl rfl) rfl
theorem dL_law_1524 : decode cL_law 1524 = .ok (.istore 5, 2) := dn_54 (oo_28 20 rfl rfl) rfl
theorem dL_law_1526 : decode cL_law 1526 = .ok (.aload_n 2, 1) := dn_44 (oo_28 22 rfl rfl)
theorem dL_law_1527 : decode cL_law 1527 = .ok (.aload_n 0, 1) := dn_42 (oo_28 23 rfl rfl)
theorem dL_law_1528 : decode cL_law 1528 = .ok (.iload 4, 2) := dn_21 (oo_28 24 rfl rfl) rfl
theorem dL_law_1530 : decode cL_law 1530 = .ok (.iconst 1, 1) := dn_4 (oo_28 26 rfl rfl)
theorem dL_law_1531 : decode cL_law 1531 = .ok (.iadd, 1) := dn_96 (oo_28 27 rfl rfl)
theorem dL_law_1532 : decode cL_law 1532 = .ok (.iaload, 1) := dn_46 (oo_28 28 rfl rfl)
theorem dL_law_1533 : decode cL_law 1533 = .ok (.invokevirtual 272, 3) := dn_182 (oo_28 29 rfl rfl) rfl
theorem dL_law_1536 : decode cL_law 1536 = .ok (.astore 6, 2) := dn_58 (oo_28 32 rfl rfl) rfl
theorem dL_law_1538 : decode cL_law 1538 = .ok (.goto 706, 3) := dn_167 (oo_28 34 rfl rfl) (by decide +kernel)
theorem dL_law_1541 : decode cL_law 1541 = .ok (.aload_n 1, 1) := dn_43 (oo_28 37 rfl rfl)
theorem dL_law_1542 : decode cL_law 1542 = .ok (.aload_n 0, 1) := dn_42 (oo_28 38 rfl rfl)
theorem dL_law_1543 : decode cL_law 1543 = .ok (.iload 4, 2) := dn_21 (oo_28 39 rfl rfl) rfl
theorem dL_law_1545 : decode cL_law 1545 = .ok (.iconst 1, 1) := dn_4 (oo_28 41 rfl rfl)
theorem dL_law_1546 : decode cL_law 1546 = .ok (.iadd, 1) := dn_96 (oo_28 42 rfl rfl)
theorem dL_law_1547 : decode cL_law 1547 = .ok (.iaload, 1) := dn_46 (oo_28 43 rfl rfl)
theorem dL_law_1548 : decode cL_law 1548 = .ok (.aload_n 3, 1) := dn_45 (oo_28 44 rfl rfl)
theorem dL_law_1549 : decode cL_law 1549 = .ok (.invokestatic 273, 3) := dn_184 (oo_28 45 rfl rfl) rfl
theorem dL_law_1552 : decode cL_law 1552 = .ok (.istore 5, 2) := dn_54 (oo_28 48 rfl rfl) rfl
theorem dL_law_1554 : decode cL_law 1554 = .ok (.aload_n 2, 1) := dn_44 (oo_28 50 rfl rfl)
theorem dL_law_1555 : decode cL_law 1555 = .ok (.aload_n 0, 1) := dn_42 (oo_29 0 rfl rfl)
theorem dL_law_1556 : decode cL_law 1556 = .ok (.iload 4, 2) := dn_21 (oo_29 1 rfl rfl) rfl
theorem dL_law_1558 : decode cL_law 1558 = .ok (.iconst 1, 1) := dn_4 (oo_29 3 rfl rfl)
theorem dL_law_1559 : decode cL_law 1559 = .ok (.iadd, 1) := dn_96 (oo_29 4 rfl rfl)
theorem dL_law_1560 : decode cL_law 1560 = .ok (.iaload, 1) := dn_46 (oo_29 5 rfl rfl)
theorem dL_law_1561 : decode cL_law 1561 = .ok (.invokevirtual 275, 3) := dn_182 (oo_29 6 rfl rfl) rfl
theorem dL_law_1564 : decode cL_law 1564 = .ok (.astore 6, 2) := dn_58 (oo_29 9 rfl rfl) rfl
theorem dL_law_1566 : decode cL_law 1566 = .ok (.goto 678, 3) := dn_167 (oo_29 11 rfl rfl) (by decide +kernel)
theorem dL_law_1569 : decode cL_law 1569 = .ok (.aload_n 1, 1) := dn_43 (oo_29 14 rfl rfl)
theorem dL_law_1570 : decode cL_law 1570 = .ok (.aload_n 0, 1) := dn_42 (oo_29 15 rfl rfl)
theorem dL_law_1571 : decode cL_law 1571 = .ok (.iload 4, 2) := dn_21 (oo_29 16 rfl rfl) rfl
theorem dL_law_1573 : decode cL_law 1573 = .ok (.iconst 1, 1) := dn_4 (oo_29 18 rfl rfl)
theorem dL_law_1574 : decode cL_law 1574 = .ok (.iadd, 1) := dn_96 (oo_29 19 rfl rfl)
theorem dL_law_1575 : decode cL_law 1575 = .ok (.iaload, 1) := dn_46 (oo_29 20 rfl rfl)
theorem dL_law_1576 : decode cL_law 1576 = .ok (.aload_n 0, 1) := dn_42 (oo_29 21 rfl rfl)
theorem dL_law_1577 : decode cL_law 1577 = .ok (.iload 4, 2) := dn_21 (oo_29 22 rfl rfl) rfl
theorem dL_law_1579 : decode cL_law 1579 = .ok (.iconst 2, 1) := dn_5 (oo_29 24 rfl rfl)
theorem dL_law_1580 : decode cL_law 1580 = .ok (.iadd, 1) := dn_96 (oo_29 25 rfl rfl)
theorem dL_law_1581 : decode cL_law 1581 = .ok (.iaload, 1) := dn_46 (oo_29 26 rfl rfl)
theorem dL_law_1582 : decode cL_law 1582 = .ok (.aload_n 3, 1) := dn_45 (oo_29 27 rfl rfl)
theorem dL_law_1583 : decode cL_law 1583 = .ok (.invokestatic 276, 3) := dn_184 (oo_29 28 rfl rfl) rfl
theorem dL_law_1586 : decode cL_law 1586 = .ok (.istore 5, 2) := dn_54 (oo_29 31 rfl rfl) rfl
theorem dL_law_1588 : decode cL_law 1588 = .ok (.aload_n 2, 1) := dn_44 (oo_29 33 rfl rfl)
theorem dL_law_1589 : decode cL_law 1589 = .ok (.aload_n 0, 1) := dn_42 (oo_29 34 rfl rfl)
theorem dL_law_1590 : decode cL_law 1590 = .ok (.iload 4, 2) := dn_21 (oo_29 35 rfl rfl) rfl
theorem dL_law_1592 : decode cL_law 1592 = .ok (.iconst 1, 1) := dn_4 (oo_29 37 rfl rfl)
theorem dL_law_1593 : decode cL_law 1593 = .ok (.iadd, 1) := dn_96 (oo_29 38 rfl rfl)
theorem dL_law_1594 : decode cL_law 1594 = .ok (.iaload, 1) := dn_46 (oo_29 39 rfl rfl)
theorem dL_law_1595 : decode cL_law 1595 = .ok (.aload_n 0, 1) := dn_42 (oo_29 40 rfl rfl)
theorem dL_law_1596 : decode cL_law 1596 = .ok (.iload 4, 2) := dn_21 (oo_29 41 rfl rfl) rfl
theorem dL_law_1598 : decode cL_law 1598 = .ok (.iconst 2, 1) := dn_5 (oo_29 43 rfl rfl)
theorem dL_law_1599 : decode cL_law 1599 = .ok (.iadd, 1) := dn_96 (oo_29 44 rfl rfl)
theorem dL_law_1600 : decode cL_law 1600 = .ok (.iaload, 1) := dn_46 (oo_30 0 rfl rfl)
theorem dL_law_1601 : decode cL_law 1601 = .ok (.invokevirtual 278, 3) := dn_182 (oo_30 1 rfl rfl) rfl
theorem dL_law_1604 : decode cL_law 1604 = .ok (.istore 6, 2) := dn_54 (oo_30 4 rfl rfl) rfl
theorem dL_law_1606 : decode cL_law 1606 = .ok (.goto 638, 3) := dn_167 (oo_30 6 rfl rfl) (by decide +kernel)
theorem dL_law_1609 : decode cL_law 1609 = .ok (.aload_n 1, 1) := dn_43 (oo_30 9 rfl rfl)
theorem dL_law_1610 : decode cL_law 1610 = .ok (.aload_n 0, 1) := dn_42 (oo_30 10 rfl rfl)
theorem dL_law_1611 : decode cL_law 1611 = .ok (.iload 4, 2) := dn_21 (oo_30 11 rfl rfl) rfl
theorem dL_law_1613 : decode cL_law 1613 = .ok (.iconst 1, 1) := dn_4 (oo_30 13 rfl rfl)
theorem dL_law_1614 : decode cL_law 1614 = .ok (.iadd, 1) := dn_96 (oo_30 14 rfl rfl)
theorem dL_law_1615 : decode cL_law 1615 = .ok (.iaload, 1) := dn_46 (oo_30 15 rfl rfl)
theorem dL_law_1616 : decode cL_law 1616 = .ok (.aload_n 0, 1) := dn_42 (oo_30 16 rfl rfl)
theorem dL_law_1617 : decode cL_law 1617 = .ok (.iload 4, 2) := dn_21 (oo_30 17 rfl rfl) rfl
theorem dL_law_1619 : decode cL_law 1619 = .ok (.iconst 2, 1) := dn_5 (oo_30 19 rfl rfl)
theorem dL_law_1620 : decode cL_law 1620 = .ok (.iadd, 1) := dn_96 (oo_30 20 rfl rfl)
theorem dL_law_1621 : decode cL_law 1621 = .ok (.iaload, 1) := dn_46 (oo_30 21 rfl rfl)
theorem dL_law_1622 : decode cL_law 1622 = .ok (.aload_n 3, 1) := dn_45 (oo_30 22 rfl rfl)
theorem dL_law_1623 : decode cL_law 1623 = .ok (.invokestatic 279, 3) := dn_184 (oo_30 23 rfl rfl) rfl
theorem dL_law_1626 : decode cL_law 1626 = .ok (.istore 5, 2) := dn_54 (oo_30 26 rfl rfl) rfl
theorem dL_law_1628 : decode cL_law 1628 = .ok (.aload_n 2, 1) := dn_44 (oo_30 28 rfl rfl)
theorem dL_law_1629 : decode cL_law 1629 = .ok (.aload_n 0, 1) := dn_42 (oo_30 29 rfl rfl)
theorem dL_law_1630 : decode cL_law 1630 = .ok (.iload 4, 2) := dn_21 (oo_30 30 rfl rfl) rfl
theorem dL_law_1632 : decode cL_law 1632 = .ok (.iconst 1, 1) := dn_4 (oo_30 32 rfl rfl)
theorem dL_law_1633 : decode cL_law 1633 = .ok (.iadd, 1) := dn_96 (oo_30 33 rfl rfl)
theorem dL_law_1634 : decode cL_law 1634 = .ok (.iaload, 1) := dn_46 (oo_30 34 rfl rfl)
theorem dL_law_1635 : decode cL_law 1635 = .ok (.aload_n 0, 1) := dn_42 (oo_30 35 rfl rfl)
theorem dL_law_1636 : decode cL_law 1636 = .ok (.iload 4, 2) := dn_21 (oo_30 36 rfl rfl) rfl
theorem dL_law_1638 : decode cL_law 1638 = .ok (.iconst 2, 1) := dn_5 (oo_30 38 rfl rfl)
theorem dL_law_1639 : decode cL_law 1639 = .ok (.iadd, 1) := dn_96 (oo_30 39 rfl rfl)
theorem dL_law_1640 : decode cL_law 1640 = .ok (.iaload, 1) := dn_46 (oo_30 40 rfl rfl)
theorem dL_law_1641 : decode cL_law 1641 = .ok (.invokevirtual 281, 3) := dn_182 (oo_30 41 rfl rfl) rfl
theorem dL_law_1644 : decode cL_law 1644 = .ok (.istore 6, 2) := dn_54 (oo_30 44 rfl rfl) rfl
theorem dL_law_1646 : decode cL_law 1646 = .ok (.goto 598, 3) := dn_167 (oo_30 46 rfl rfl) (by decide +kernel)
theorem dL_law_1649 : decode cL_law 1649 = .ok (.aload_n 1, 1) := dn_43 (oo_31 0 rfl rfl)
theorem dL_law_1650 : decode cL_law 1650 = .ok (.aload_n 0, 1) := dn_42 (oo_31 1 rfl rfl)
theorem dL_law_1651 : decode cL_law 1651 = .ok (.iload 4, 2) := dn_21 (oo_31 2 rfl rfl) rfl
theorem dL_law_1653 : decode cL_law 1653 = .ok (.iconst 1, 1) := dn_4 (oo_31 4 rfl rfl)
theorem dL_law_1654 : decode cL_law 1654 = .ok (.iadd, 1) := dn_96 (oo_31 5 rfl rfl)
theorem dL_law_1655 : decode cL_law 1655 = .ok (.iaload, 1) := dn_46 (oo_31 6 rfl rfl)
theorem dL_law_1656 : decode cL_law 1656 = .ok (.aload_n 0, 1) := dn_42 (oo_31 7 rfl rfl)
theorem dL_law_1657 : decode cL_law 1657 = .ok (.iload 4, 2) := dn_21 (oo_31 8 rfl rfl) rfl
theorem dL_law_1659 : decode cL_law 1659 = .ok (.iconst 2, 1) := dn_5 (oo_31 10 rfl rfl)
theorem dL_law_1660 : decode cL_law 1660 = .ok (.iadd, 1) := dn_96 (oo_31 11 rfl rfl)
theorem dL_law_1661 : decode cL_law 1661 = .ok (.iaload, 1) := dn_46 (oo_31 12 rfl rfl)
theorem dL_law_1662 : decode cL_law 1662 = .ok (.aload_n 3, 1) := dn_45 (oo_31 13 rfl rfl)
theorem dL_law_1663 : decode cL_law 1663 = .ok (.invokestatic 282, 3) := dn_184 (oo_31 14 rfl rfl) rfl
theorem dL_law_1666 : decode cL_law 1666 = .ok (.istore 5, 2) := dn_54 (oo_31 17 rfl rfl) rfl
theorem dL_law_1668 : decode cL_law 1668 = .ok (.aload_n 2, 1) := dn_44 (oo_31 19 rfl rfl)
theorem dL_law_1669 : decode cL_law 1669 = .ok (.aload_n 0, 1) := dn_42 (oo_31 20 rfl rfl)
theorem dL_law_1670 : decode cL_law 1670 = .ok (.iload 4, 2) := dn_21 (oo_31 21 rfl rfl) rfl
theorem dL_law_1672 : decode cL_law 1672 = .ok (.iconst 1, 1) := dn_4 (oo_31 23 rfl rfl)
theorem dL_law_1673 : decode cL_law 1673 = .ok (.iadd, 1) := dn_96 (oo_31 24 rfl rfl)
theorem dL_law_1674 : decode cL_law 1674 = .ok (.iaload, 1) := dn_46 (oo_31 25 rfl rfl)
theorem dL_law_1675 : decode cL_law 1675 = .ok (.aload_n 0, 1) := dn_42 (oo_31 26 rfl rfl)
theorem dL_law_1676 : decode cL_law 1676 = .ok (.iload 4, 2) := dn_21 (oo_31 27 rfl rfl) rfl
theorem dL_law_1678 : decode cL_law 1678 = .ok (.iconst 2, 1) := dn_5 (oo_31 29 rfl rfl)
theorem dL_law_1679 : decode cL_law 1679 = .ok (.iadd, 1) := dn_96 (oo_31 30 rfl rfl)
theorem dL_law_1680 : decode cL_law 1680 = .ok (.iaload, 1) := dn_46 (oo_31 31 rfl rfl)
theorem dL_law_1681 : decode cL_law 1681 = .ok (.invokevirtual 284, 3) := dn_182 (oo_31 32 rfl rfl) rfl
theorem dL_law_1684 : decode cL_law 1684 = .ok (.istore 6, 2) := dn_54 (oo_31 35 rfl rfl) rfl
theorem dL_law_1686 : decode cL_law 1686 = .ok (.goto 558, 3) := dn_167 (oo_31 37 rfl rfl) (by decide +kernel)
theorem dL_law_1689 : decode cL_law 1689 = .ok (.aload_n 1, 1) := dn_43 (oo_31 40 rfl rfl)
theorem dL_law_1690 : decode cL_law 1690 = .ok (.aload_n 0, 1) := dn_42 (oo_31 41 rfl rfl)
theorem dL_law_1691 : decode cL_law 1691 = .ok (.iload 4, 2) := dn_21 (oo_31 42 rfl rfl) rfl
theorem dL_law_1693 : decode cL_law 1693 = .ok (.iconst 1, 1) := dn_4 (oo_31 44 rfl rfl)
theorem dL_law_1694 : decode cL_law 1694 = .ok (.iadd, 1) := dn_96 (oo_32 0 rfl rfl)
theorem dL_law_1695 : decode cL_law 1695 = .ok (.iaload, 1) := dn_46 (oo_32 1 rfl rfl)
theorem dL_law_1696 : decode cL_law 1696 = .ok (.aload_n 0, 1) := dn_42 (oo_32 2 rfl rfl)
theorem dL_law_1697 : decode cL_law 1697 = .ok (.iload 4, 2) := dn_21 (oo_32 3 rfl rfl) rfl
theorem dL_law_1699 : decode cL_law 1699 = .ok (.iconst 2, 1) := dn_5 (oo_32 5 rfl rfl)
theorem dL_law_1700 : decode cL_law 1700 = .ok (.iadd, 1) := dn_96 (oo_32 6 rfl rfl)
theorem dL_law_1701 : decode cL_law 1701 = .ok (.iaload, 1) := dn_46 (oo_32 7 rfl rfl)
theorem dL_law_1702 : decode cL_law 1702 = .ok (.aload_n 0, 1) := dn_42 (oo_32 8 rfl rfl)
theorem dL_law_1703 : decode cL_law 1703 = .ok (.iload 4, 2) := dn_21 (oo_32 9 rfl rfl) rfl
theorem dL_law_1705 : decode cL_law 1705 = .ok (.iconst 3, 1) := dn_6 (oo_32 11 rfl rfl)
theorem dL_law_1706 : decode cL_law 1706 = .ok (.iadd, 1) := dn_96 (oo_32 12 rfl rfl)
theorem dL_law_1707 : decode cL_law 1707 = .ok (.iaload, 1) := dn_46 (oo_32 13 rfl rfl)
theorem dL_law_1708 : decode cL_law 1708 = .ok (.ifCond .eq 7, 3) := dn_153 (oo_32 14 rfl rfl) (by decide +kernel)
theorem dL_law_1711 : decode cL_law 1711 = .ok (.iconst 1, 1) := dn_4 (oo_32 17 rfl rfl)
theorem dL_law_1712 : decode cL_law 1712 = .ok (.goto 4, 3) := dn_167 (oo_32 18 rfl rfl) (by decide +kernel)
theorem dL_law_1715 : decode cL_law 1715 = .ok (.iconst 0, 1) := dn_3 (oo_32 21 rfl rfl)
theorem dL_law_1716 : decode cL_law 1716 = .ok (.aload_n 3, 1) := dn_45 (oo_32 22 rfl rfl)
theorem dL_law_1717 : decode cL_law 1717 = .ok (.invokestatic 285, 3) := dn_184 (oo_32 23 rfl rfl) rfl
theorem dL_law_1720 : decode cL_law 1720 = .ok (.istore 5, 2) := dn_54 (oo_32 26 rfl rfl) rfl
theorem dL_law_1722 : decode cL_law 1722 = .ok (.aload_n 2, 1) := dn_44 (oo_32 28 rfl rfl)
theorem dL_law_1723 : decode cL_law 1723 = .ok (.aload_n 0, 1) := dn_42 (oo_32 29 rfl rfl)
theorem dL_law_1724 : decode cL_law 1724 = .ok (.iload 4, 2) := dn_21 (oo_32 30 rfl rfl) rfl
theorem dL_law_1726 : decode cL_law 1726 = .ok (.iconst 1, 1) := dn_4 (oo_32 32 rfl rfl)
theorem dL_law_1727 : decode cL_law 1727 = .ok (.iadd, 1) := dn_96 (oo_32 33 rfl rfl)
theorem dL_law_1728 : decode cL_law 1728 = .ok (.iaload, 1) := dn_46 (oo_32 34 rfl rfl)
theorem dL_law_1729 : decode cL_law 1729 = .ok (.aload_n 0, 1) := dn_42 (oo_32 35 rfl rfl)
theorem dL_law_1730 : decode cL_law 1730 = .ok (.iload 4, 2) := dn_21 (oo_32 36 rfl rfl) rfl
theorem dL_law_1732 : decode cL_law 1732 = .ok (.iconst 2, 1) := dn_5 (oo_32 38 rfl rfl)
theorem dL_law_1733 : decode cL_law 1733 = .ok (.iadd, 1) := dn_96 (oo_32 39 rfl rfl)
theorem dL_law_1734 : decode cL_law 1734 = .ok (.iaload, 1) := dn_46 (oo_32 40 rfl rfl)
theorem dL_law_1735 : decode cL_law 1735 = .ok (.aload_n 0, 1) := dn_42 (oo_32 41 rfl rfl)
theorem dL_law_1736 : decode cL_law 1736 = .ok (.iload 4, 2) := dn_21 (oo_32 42 rfl rfl) rfl
theorem dL_law_1738 : decode cL_law 1738 = .ok (.iconst 3, 1) := dn_6 (oo_33 0 rfl rfl)
theorem dL_law_1739 : decode cL_law 1739 = .ok (.iadd, 1) := dn_96 (oo_33 1 rfl rfl)
theorem dL_law_1740 : decode cL_law 1740 = .ok (.iaload, 1) := dn_46 (oo_33 2 rfl rfl)
theorem dL_law_1741 : decode cL_law 1741 = .ok (.ifCond .eq 7, 3) := dn_153 (oo_33 3 rfl rfl) (by decide +kernel)
theorem dL_law_1744 : decode cL_law 1744 = .ok (.iconst 1, 1) := dn_4 (oo_33 6 rfl rfl)
theorem dL_law_1745 : decode cL_law 1745 = .ok (.goto 4, 3) := dn_167 (oo_33 7 rfl rfl) (by decide +kernel)
theorem dL_law_1748 : decode cL_law 1748 = .ok (.iconst 0, 1) := dn_3 (oo_33 10 rfl rfl)
theorem dL_law_1749 : decode cL_law 1749 = .ok (.invokevirtual 287, 3) := dn_182 (oo_33 11 rfl rfl) rfl
theorem dL_law_1752 : decode cL_law 1752 = .ok (.istore 6, 2) := dn_54 (oo_33 14 rfl rfl) rfl
theorem dL_law_1754 : decode cL_law 1754 = .ok (.goto 490, 3) := dn_167 (oo_33 16 rfl rfl) (by decide +kernel)
theorem dL_law_1757 : decode cL_law 1757 = .ok (.aload_n 1, 1) := dn_43 (oo_33 19 rfl rfl)
theorem dL_law_1758 : decode cL_law 1758 = .ok (.aload_n 0, 1) := dn_42 (oo_33 20 rfl rfl)
theorem dL_law_1759 : decode cL_law 1759 = .ok (.iload 4, 2) := dn_21 (oo_33 21 rfl rfl) rfl
theorem dL_law_1761 : decode cL_law 1761 = .ok (.iconst 1, 1) := dn_4 (oo_33 23 rfl rfl)
theorem dL_law_1762 : decode cL_law 1762 = .ok (.iadd, 1) := dn_96 (oo_33 24 rfl rfl)
theorem dL_law_1763 : decode cL_law 1763 = .ok (.iaload, 1) := dn_46 (oo_33 25 rfl rfl)
theorem dL_law_1764 : decode cL_law 1764 = .ok (.aload_n 0, 1) := dn_42 (oo_33 26 rfl rfl)
theorem dL_law_1765 : decode cL_law 1765 = .ok (.iload 4, 2) := dn_21 (oo_33 27 rfl rfl) rfl
theorem dL_law_1767 : decode cL_law 1767 = .ok (.iconst 2, 1) := dn_5 (oo_33 29 rfl rfl)
theorem dL_law_1768 : decode cL_law 1768 = .ok (.iadd, 1) := dn_96 (oo_33 30 rfl rfl)
theorem dL_law_1769 : decode cL_law 1769 = .ok (.iaload, 1) := dn_46 (oo_33 31 rfl rfl)
theorem dL_law_1770 : decode cL_law 1770 = .ok (.aload_n 3, 1) := dn_45 (oo_33 32 rfl rfl)
theorem dL_law_1771 : decode cL_law 1771 = .ok (.invokestatic 288, 3) := dn_184 (oo_33 33 rfl rfl) rfl
theorem dL_law_1774 : decode cL_law 1774 = .ok (.istore 5, 2) := dn_54 (oo_33 36 rfl rfl) rfl
theorem dL_law_1776 : decode cL_law 1776 = .ok (.aload_n 2, 1) := dn_44 (oo_33 38 rfl rfl)
theorem dL_law_1777 : decode cL_law 1777 = .ok (.aload_n 0, 1) := dn_42 (oo_33 39 rfl rfl)
theorem dL_law_1778 : decode cL_law 1778 = .ok (.iload 4, 2) := dn_21 (oo_33 40 rfl rfl) rfl
theorem dL_law_1780 : decode cL_law 1780 = .ok (.iconst 1, 1) := dn_4 (oo_33 42 rfl rfl)
theorem dL_law_1781 : decode cL_law 1781 = .ok (.iadd, 1) := dn_96 (oo_33 43 rfl rfl)
theorem dL_law_1782 : decode cL_law 1782 = .ok (.iaload, 1) := dn_46 (oo_33 44 rfl rfl)
theorem dL_law_1783 : decode cL_law 1783 = .ok (.aload_n 0, 1) := dn_42 (oo_33 45 rfl rfl)
theorem dL_law_1784 : decode cL_law 1784 = .ok (.iload 4, 2) := dn_21 (oo_33 46 rfl rfl) rfl
theorem dL_law_1786 : decode cL_law 1786 = .ok (.iconst 2, 1) := dn_5 (oo_34 0 rfl rfl)
theorem dL_law_1787 : decode cL_law 1787 = .ok (.iadd, 1) := dn_96 (oo_34 1 rfl rfl)
theorem dL_law_1788 : decode cL_law 1788 = .ok (.iaload, 1) := dn_46 (oo_34 2 rfl rfl)
theorem dL_law_1789 : decode cL_law 1789 = .ok (.invokevirtual 290, 3) := dn_182 (oo_34 3 rfl rfl) rfl
theorem dL_law_1792 : decode cL_law 1792 = .ok (.istore 6, 2) := dn_54 (oo_34 6 rfl rfl) rfl
theorem dL_law_1794 : decode cL_law 1794 = .ok (.goto 450, 3) := dn_167 (oo_34 8 rfl rfl) (by decide +kernel)
theorem dL_law_1797 : decode cL_law 1797 = .ok (.aload_n 1, 1) := dn_43 (oo_34 11 rfl rfl)
theorem dL_law_1798 : decode cL_law 1798 = .ok (.aload_n 0, 1) := dn_42 (oo_34 12 rfl rfl)
theorem dL_law_1799 : decode cL_law 1799 = .ok (.iload 4, 2) := dn_21 (oo_34 13 rfl rfl) rfl
theorem dL_law_1801 : decode cL_law 1801 = .ok (.iconst 1, 1) := dn_4 (oo_34 15 rfl rfl)
theorem dL_law_1802 : decode cL_law 1802 = .ok (.iadd, 1) := dn_96 (oo_34 16 rfl rfl)
theorem dL_law_1803 : decode cL_law 1803 = .ok (.iaload, 1) := dn_46 (oo_34 17 rfl rfl)
end
section
/-! decode rows -/
theorem dL_law_1804 : decode cL_law 1804 = .ok (.aload_n 3, 1) := dn_45 (oo_34 18 rfl rfl)
theorem dL_law_1805 : decode cL_law 1805 = .ok (.invokestatic 291, 3) := dn_184 (oo_34 19 rfl rfl) rfl
theorem dL_law_1808 : decode cL_law 1808 = .ok (.istore 5, 2) := dn_54 (oo_34 22 rfl rfl) rfl
theorem dL_law_1810 : decode cL_law 1810 = .ok (.aload_n 2, 1) := dn_44 (oo_34 24 rfl rfl)
theorem dL_law_1811 : decode cL_law 1811 = .ok (.aload_n 0, 1) := dn_42 (oo_34 25 rfl rfl)
theorem dL_law_1812 : decode cL_law 1812 = .ok (.iload 4, 2) := dn_21 (oo_34 26 rfl rfl) rfl
theorem dL_law_1814 : decode cL_law 1814 = .ok (.iconst 1, 1) := dn_4 (oo_34 28 rfl rfl)
theorem dL_law_1815 : decode cL_law 1815 = .ok (.iadd, 1) := dn_96 (oo_34 29 rfl rfl)
theorem dL_law_1816 : decode cL_law 1816 = .ok (.iaload, 1) := dn_46 (oo_34 30 rfl rfl)
theorem dL_law_1817 : decode cL_law 1817 = .ok (.invokevirtual 293, 3) := dn_182 (oo_34 31 rfl rfl) rfl
theorem dL_law_1820 : decode cL_law 1820 = .ok (.istore 6, 2) := dn_54 (oo_34 34 rfl rfl) rfl
theorem dL_law_1822 : decode cL_law 1822 = .ok (.goto 422, 3) := dn_167 (oo_34 36 rfl rfl) (by decide +kernel)
theorem dL_law_1825 : decode cL_law 1825 = .ok (.aload_n 1, 1) := dn_43 (oo_34 39 rfl rfl)
theorem dL_law_1826 : decode cL_law 1826 = .ok (.aload_n 0, 1) := dn_42 (oo_34 40 rfl rfl)
theorem dL_law_1827 : decode cL_law 1827 = .ok (.iload 4, 2) := dn_21 (oo_34 41 rfl rfl) rfl
theorem dL_law_1829 : decode cL_law 1829 = .ok (.iconst 1, 1) := dn_4 (oo_34 43 rfl rfl)
theorem dL_law_1830 : decode cL_law 1830 = .ok (.iadd, 1) := dn_96 (oo_34 44 rfl rfl)
theorem dL_law_1831 : decode cL_law 1831 = .ok (.iaload, 1) := dn_46 (oo_34 45 rfl rfl)
theorem dL_law_1832 : decode cL_law 1832 = .ok (.aload_n 3, 1) := dn_45 (oo_34 46 rfl rfl)
theorem dL_law_1833 : decode cL_law 1833 = .ok (.invokestatic 294, 3) := dn_184 (oo_34 47 rfl rfl) rfl
theorem dL_law_1836 : decode cL_law 1836 = .ok (.istore 5, 2) := dn_54 (oo_35 0 rfl rfl) rfl
theorem dL_law_1838 : decode cL_law 1838 = .ok (.aload_n 2, 1) := dn_44 (oo_35 2 rfl rfl)
theorem dL_law_1839 : decode cL_law 1839 = .ok (.aload_n 0, 1) := dn_42 (oo_35 3 rfl rfl)
theorem dL_law_1840 : decode cL_law 1840 = .ok (.iload 4, 2) := dn_21 (oo_35 4 rfl rfl) rfl
theorem dL_law_1842 : decode cL_law 1842 = .ok (.iconst 1, 1) := dn_4 (oo_35 6 rfl rfl)
theorem dL_law_1843 : decode cL_law 1843 = .ok (.iadd, 1) := dn_96 (oo_35 7 rfl rfl)
theorem dL_law_1844 : decode cL_law 1844 = .ok (.iaload, 1) := dn_46 (oo_35 8 rfl rfl)
theorem dL_law_1845 : decode cL_law 1845 = .ok (.invokevirtual 296, 3) := dn_182 (oo_35 9 rfl rfl) rfl
theorem dL_law_1848 : decode cL_law 1848 = .ok (.istore 6, 2) := dn_54 (oo_35 12 rfl rfl) rfl
theorem dL_law_1850 : decode cL_law 1850 = .ok (.goto 394, 3) := dn_167 (oo_35 14 rfl rfl) (by decide +kernel)
theorem dL_law_1853 : decode cL_law 1853 = .ok (.aload_n 1, 1) := dn_43 (oo_35 17 rfl rfl)
theorem dL_law_1854 : decode cL_law 1854 = .ok (.aload_n 0, 1) := dn_42 (oo_35 18 rfl rfl)
theorem dL_law_1855 : decode cL_law 1855 = .ok (.iload 4, 2) := dn_21 (oo_35 19 rfl rfl) rfl
theorem dL_law_1857 : decode cL_law 1857 = .ok (.iconst 1, 1) := dn_4 (oo_35 21 rfl rfl)
theorem dL_law_1858 : decode cL_law 1858 = .ok (.iadd, 1) := dn_96 (oo_35 22 rfl rfl)
theorem dL_law_1859 : decode cL_law 1859 = .ok (.iaload, 1) := dn_46 (oo_35 23 rfl rfl)
theorem dL_law_1860 : decode cL_law 1860 = .ok (.aload_n 0, 1) := dn_42 (oo_35 24 rfl rfl)
theorem dL_law_1861 : decode cL_law 1861 = .ok (.iload 4, 2) := dn_21 (oo_35 25 rfl rfl) rfl
theorem dL_law_1863 : decode cL_law 1863 = .ok (.iconst 2, 1) := dn_5 (oo_35 27 rfl rfl)
theorem dL_law_1864 : decode cL_law 1864 = .ok (.iadd, 1) := dn_96 (oo_35 28 rfl rfl)
theorem dL_law_1865 : decode cL_law 1865 = .ok (.iaload, 1) := dn_46 (oo_35 29 rfl rfl)
theorem dL_law_1866 : decode cL_law 1866 = .ok (.aload_n 0, 1) := dn_42 (oo_35 30 rfl rfl)
theorem dL_law_1867 : decode cL_law 1867 = .ok (.iload 4, 2) := dn_21 (oo_35 31 rfl rfl) rfl
theorem dL_law_1869 : decode cL_law 1869 = .ok (.iconst 3, 1) := dn_6 (oo_35 33 rfl rfl)
theorem dL_law_1870 : decode cL_law 1870 = .ok (.iadd, 1) := dn_96 (oo_35 34 rfl rfl)
theorem dL_law_1871 : decode cL_law 1871 = .ok (.iaload, 1) := dn_46 (oo_35 35 rfl rfl)
theorem dL_law_1872 : decode cL_law 1872 = .ok (.aload_n 3, 1) := dn_45 (oo_35 36 rfl rfl)
theorem dL_law_1873 : decode cL_law 1873 = .ok (.invokestatic 297, 3) := dn_184 (oo_35 37 rfl rfl) rfl
theorem dL_law_1876 : decode cL_law 1876 = .ok (.istore 5, 2) := dn_54 (oo_35 40 rfl rfl) rfl
theorem dL_law_1878 : decode cL_law 1878 = .ok (.aload_n 2, 1) := dn_44 (oo_35 42 rfl rfl)
theorem dL_law_1879 : decode cL_law 1879 = .ok (.aload_n 0, 1) := dn_42 (oo_35 43 rfl rfl)
theorem dL_law_1880 : decode cL_law 1880 = .ok (.iload 4, 2) := dn_21 (oo_35 44 rfl rfl) rfl
theorem dL_law_1882 : decode cL_law 1882 = .ok (.iconst 1, 1) := dn_4 (oo_36 0 rfl rfl)
theorem dL_law_1883 : decode cL_law 1883 = .ok (.iadd, 1) := dn_96 (oo_36 1 rfl rfl)
theorem dL_law_1884 : decode cL_law 1884 = .ok (.iaload, 1) := dn_46 (oo_36 2 rfl rfl)
theorem dL_law_1885 : decode cL_law 1885 = .ok (.aload_n 0, 1) := dn_42 (oo_36 3 rfl rfl)
theorem dL_law_1886 : decode cL_law 1886 = .ok (.iload 4, 2) := dn_21 (oo_36 4 rfl rfl) rfl
theorem dL_law_1888 : decode cL_law 1888 = .ok (.iconst 2, 1) := dn_5 (oo_36 6 rfl rfl)
theorem dL_law_1889 : decode cL_law 1889 = .ok (.iadd, 1) := dn_96 (oo_36 7 rfl rfl)
theorem dL_law_1890 : decode cL_law 1890 = .ok (.iaload, 1) := dn_46 (oo_36 8 rfl rfl)
theorem dL_law_1891 : decode cL_law 1891 = .ok (.aload_n 0, 1) := dn_42 (oo_36 9 rfl rfl)
theorem dL_law_1892 : decode cL_law 1892 = .ok (.iload 4, 2) := dn_21 (oo_36 10 rfl rfl) rfl
theorem dL_law_1894 : decode cL_law 1894 = .ok (.iconst 3, 1) := dn_6 (oo_36 12 rfl rfl)
theorem dL_law_1895 : decode cL_law 1895 = .ok (.iadd, 1) := dn_96 (oo_36 13 rfl rfl)
theorem dL_law_1896 : decode cL_law 1896 = .ok (.iaload, 1) := dn_46 (oo_36 14 rfl rfl)
theorem dL_law_1897 : decode cL_law 1897 = .ok (.invokevirtual 299, 3) := dn_182 (oo_36 15 rfl rfl) rfl
theorem dL_law_1900 : decode cL_law 1900 = .ok (.istore 6, 2) := dn_54 (oo_36 18 rfl rfl) rfl
theorem dL_law_1902 : decode cL_law 1902 = .ok (.goto 342, 3) := dn_167 (oo_36 20 rfl rfl) (by decide +kernel)
theorem dL_law_1905 : decode cL_law 1905 = .ok (.aload_n 1, 1) := dn_43 (oo_36 23 rfl rfl)
theorem dL_law_1906 : decode cL_law 1906 = .ok (.aload_n 0, 1) := dn_42 (oo_36 24 rfl rfl)
theorem dL_law_1907 : decode cL_law 1907 = .ok (.iload 4, 2) := dn_21 (oo_36 25 rfl rfl) rfl
theorem dL_law_1909 : decode cL_law 1909 = .ok (.iconst 1, 1) := dn_4 (oo_36 27 rfl rfl)
theorem dL_law_1910 : decode cL_law 1910 = .ok (.iadd, 1) := dn_96 (oo_36 28 rfl rfl)
theorem dL_law_1911 : decode cL_law 1911 = .ok (.iaload, 1) := dn_46 (oo_36 29 rfl rfl)
theorem dL_law_1912 : decode cL_law 1912 = .ok (.aload_n 0, 1) := dn_42 (oo_36 30 rfl rfl)
theorem dL_law_1913 : decode cL_law 1913 = .ok (.iload 4, 2) := dn_21 (oo_36 31 rfl rfl) rfl
theorem dL_law_1915 : decode cL_law 1915 = .ok (.iconst 2, 1) := dn_5 (oo_36 33 rfl rfl)
theorem dL_law_1916 : decode cL_law 1916 = .ok (.iadd, 1) := dn_96 (oo_36 34 rfl rfl)
theorem dL_law_1917 : decode cL_law 1917 = .ok (.iaload, 1) := dn_46 (oo_36 35 rfl rfl)
theorem dL_law_1918 : decode cL_law 1918 = .ok (.aload_n 3, 1) := dn_45 (oo_36 36 rfl rfl)
theorem dL_law_1919 : decode cL_law 1919 = .ok (.invokestatic 300, 3) := dn_184 (oo_36 37 rfl rfl) rfl
theorem dL_law_1922 : decode cL_law 1922 = .ok (.istore 5, 2) := dn_54 (oo_36 40 rfl rfl) rfl
theorem dL_law_1924 : decode cL_law 1924 = .ok (.aload_n 2, 1) := dn_44 (oo_36 42 rfl rfl)
theorem dL_law_1925 : decode cL_law 1925 = .ok (.aload_n 0, 1) := dn_42 (oo_36 43 rfl rfl)
theorem dL_law_1926 : decode cL_law 1926 = .ok (.iload 4, 2) := dn_21 (oo_37 0 rfl rfl) rfl
theorem dL_law_1928 : decode cL_law 1928 = .ok (.iconst 1, 1) := dn_4 (oo_37 2 rfl rfl)
theorem dL_law_1929 : decode cL_law 1929 = .ok (.iadd, 1) := dn_96 (oo_37 3 rfl rfl)
theorem dL_law_1930 : decode cL_law 1930 = .ok (.iaload, 1) := dn_46 (oo_37 4 rfl rfl)
theorem dL_law_1931 : decode cL_law 1931 = .ok (.aload_n 0, 1) := dn_42 (oo_37 5 rfl rfl)
theorem dL_law_1932 : decode cL_law 1932 = .ok (.iload 4, 2) := dn_21 (oo_37 6 rfl rfl) rfl
theorem dL_law_1934 : decode cL_law 1934 = .ok (.iconst 2, 1) := dn_5 (oo_37 8 rfl rfl)
theorem dL_law_1935 : decode cL_law 1935 = .ok (.iadd, 1) := dn_96 (oo_37 9 rfl rfl)
theorem dL_law_1936 : decode cL_law 1936 = .ok (.iaload, 1) := dn_46 (oo_37 10 rfl rfl)
theorem dL_law_1937 : decode cL_law 1937 = .ok (.invokevirtual 302, 3) := dn_182 (oo_37 11 rfl rfl) rfl
theorem dL_law_1940 : decode cL_law 1940 = .ok (.istore 6, 2) := dn_54 (oo_37 14 rfl rfl) rfl
theorem dL_law_1942 : decode cL_law 1942 = .ok (.goto 302, 3) := dn_167 (oo_37 16 rfl rfl) (by decide +kernel)
theorem dL_law_1945 : decode cL_law 1945 = .ok (.aload_n 1, 1) := dn_43 (oo_37 19 rfl rfl)
theorem dL_law_1946 : decode cL_law 1946 = .ok (.aload_n 0, 1) := dn_42 (oo_37 20 rfl rfl)
theorem dL_law_1947 : decode cL_law 1947 = .ok (.iload 4, 2) := dn_21 (oo_37 21 rfl rfl) rfl
theorem dL_law_1949 : decode cL_law 1949 = .ok (.iconst 1, 1) := dn_4 (oo_37 23 rfl rfl)
theorem dL_law_1950 : decode cL_law 1950 = .ok (.iadd, 1) := dn_96 (oo_37 24 rfl rfl)
theorem dL_law_1951 : decode cL_law 1951 = .ok (.iaload, 1) := dn_46 (oo_37 25 rfl rfl)
theorem dL_law_1952 : decode cL_law 1952 = .ok (.aload_n 3, 1) := dn_45 (oo_37 26 rfl rfl)
theorem dL_law_1953 : decode cL_law 1953 = .ok (.invokestatic 303, 3) := dn_184 (oo_37 27 rfl rfl) rfl
theorem dL_law_1956 : decode cL_law 1956 = .ok (.istore 5, 2) := dn_54 (oo_37 30 rfl rfl) rfl
theorem dL_law_1958 : decode cL_law 1958 = .ok (.aload_n 2, 1) := dn_44 (oo_37 32 rfl rfl)
theorem dL_law_1959 : decode cL_law 1959 = .ok (.aload_n 0, 1) := dn_42 (oo_37 33 rfl rfl)
theorem dL_law_1960 : decode cL_law 1960 = .ok (.iload 4, 2) := dn_21 (oo_37 34 rfl rfl) rfl
theorem dL_law_1962 : decode cL_law 1962 = .ok (.iconst 1, 1) := dn_4 (oo_37 36 rfl rfl)
theorem dL_law_1963 : decode cL_law 1963 = .ok (.iadd, 1) := dn_96 (oo_37 37 rfl rfl)
theorem dL_law_1964 : decode cL_law 1964 = .ok (.iaload, 1) := dn_46 (oo_37 38 rfl rfl)
theorem dL_law_1965 : decode cL_law 1965 = .ok (.invokevirtual 305, 3) := dn_182 (oo_37 39 rfl rfl) rfl
theorem dL_law_1968 : decode cL_law 1968 = .ok (.istore 6, 2) := dn_54 (oo_37 42 rfl rfl) rfl
theorem dL_law_1970 : decode cL_law 1970 = .ok (.goto 274, 3) := dn_167 (oo_37 44 rfl rfl) (by decide +kernel)
theorem dL_law_1973 : decode cL_law 1973 = .ok (.aload_n 1, 1) := dn_43 (oo_37 47 rfl rfl)
theorem dL_law_1974 : decode cL_law 1974 = .ok (.aload_n 0, 1) := dn_42 (oo_37 48 rfl rfl)
theorem dL_law_1975 : decode cL_law 1975 = .ok (.iload 4, 2) := dn_21 (oo_38 0 rfl rfl) rfl
theorem dL_law_1977 : decode cL_law 1977 = .ok (.iconst 1, 1) := dn_4 (oo_38 2 rfl rfl)
theorem dL_law_1978 : decode cL_law 1978 = .ok (.iadd, 1) := dn_96 (oo_38 3 rfl rfl)
theorem dL_law_1979 : decode cL_law 1979 = .ok (.iaload, 1) := dn_46 (oo_38 4 rfl rfl)
theorem dL_law_1980 : decode cL_law 1980 = .ok (.aload_n 0, 1) := dn_42 (oo_38 5 rfl rfl)
theorem dL_law_1981 : decode cL_law 1981 = .ok (.iload 4, 2) := dn_21 (oo_38 6 rfl rfl) rfl
theorem dL_law_1983 : decode cL_law 1983 = .ok (.iconst 2, 1) := dn_5 (oo_38 8 rfl rfl)
theorem dL_law_1984 : decode cL_law 1984 = .ok (.iadd, 1) := dn_96 (oo_38 9 rfl rfl)
theorem dL_law_1985 : decode cL_law 1985 = .ok (.iaload, 1) := dn_46 (oo_38 10 rfl rfl)
theorem dL_law_1986 : decode cL_law 1986 = .ok (.aload_n 0, 1) := dn_42 (oo_38 11 rfl rfl)
theorem dL_law_1987 : decode cL_law 1987 = .ok (.iload 4, 2) := dn_21 (oo_38 12 rfl rfl) rfl
theorem dL_law_1989 : decode cL_law 1989 = .ok (.iconst 3, 1) := dn_6 (oo_38 14 rfl rfl)
theorem dL_law_1990 : decode cL_law 1990 = .ok (.iadd, 1) := dn_96 (oo_38 15 rfl rfl)
theorem dL_law_1991 : decode cL_law 1991 = .ok (.iaload, 1) := dn_46 (oo_38 16 rfl rfl)
theorem dL_law_1992 : decode cL_law 1992 = .ok (.aload_n 3, 1) := dn_45 (oo_38 17 rfl rfl)
theorem dL_law_1993 : decode cL_law 1993 = .ok (.invokestatic 306, 3) := dn_184 (oo_38 18 rfl rfl) rfl
theorem dL_law_1996 : decode cL_law 1996 = .ok (.istore 5, 2) := dn_54 (oo_38 21 rfl rfl) rfl
theorem dL_law_1998 : decode cL_law 1998 = .ok (.aload_n 2, 1) := dn_44 (oo_38 23 rfl rfl)
theorem dL_law_1999 : decode cL_law 1999 = .ok (.aload_n 0, 1) := dn_42 (oo_38 24 rfl rfl)
theorem dL_law_2000 : decode cL_law 2000 = .ok (.iload 4, 2) := dn_21 (oo_38 25 rfl rfl) rfl
theorem dL_law_2002 : decode cL_law 2002 = .ok (.iconst 1, 1) := dn_4 (oo_38 27 rfl rfl)
theorem dL_law_2003 : decode cL_law 2003 = .ok (.iadd, 1) := dn_96 (oo_38 28 rfl rfl)
theorem dL_law_2004 : decode cL_law 2004 = .ok (.iaload, 1) := dn_46 (oo_38 29 rfl rfl)
theorem dL_law_2005 : decode cL_law 2005 = .ok (.aload_n 0, 1) := dn_42 (oo_38 30 rfl rfl)
theorem dL_law_2006 : decode cL_law 2006 = .ok (.iload 4, 2) := dn_21 (oo_38 31 rfl rfl) rfl
theorem dL_law_2008 : decode cL_law 2008 = .ok (.iconst 2, 1) := dn_5 (oo_38 33 rfl rfl)
theorem dL_law_2009 : decode cL_law 2009 = .ok (.iadd, 1) := dn_96 (oo_38 34 rfl rfl)
theorem dL_law_2010 : decode cL_law 2010 = .ok (.iaload, 1) := dn_46 (oo_38 35 rfl rfl)
theorem dL_law_2011 : decode cL_law 2011 = .ok (.aload_n 0, 1) := dn_42 (oo_38 36 rfl rfl)
theorem dL_law_2012 : decode cL_law 2012 = .ok (.iload 4, 2) := dn_21 (oo_38 37 rfl rfl) rfl
theorem dL_law_2014 : decode cL_law 2014 = .ok (.iconst 3, 1) := dn_6 (oo_38 39 rfl rfl)
theorem dL_law_2015 : decode cL_law 2015 = .ok (.iadd, 1) := dn_96 (oo_38 40 rfl rfl)
theorem dL_law_2016 : decode cL_law 2016 = .ok (.iaload, 1) := dn_46 (oo_39 0 rfl rfl)
theorem dL_law_2017 : decode cL_law 2017 = .ok (.invokevirtual 308, 3) := dn_182 (oo_39 1 rfl rfl) rfl
theorem dL_law_2020 : decode cL_law 2020 = .ok (.istore 6, 2) := dn_54 (oo_39 4 rfl rfl) rfl
theorem dL_law_2022 : decode cL_law 2022 = .ok (.goto 222, 3) := dn_167 (oo_39 6 rfl rfl) (by decide +kernel)
theorem dL_law_2025 : decode cL_law 2025 = .ok (.aload_n 1, 1) := dn_43 (oo_39 9 rfl rfl)
theorem dL_law_2026 : decode cL_law 2026 = .ok (.aload_n 0, 1) := dn_42 (oo_39 10 rfl rfl)
theorem dL_law_2027 : decode cL_law 2027 = .ok (.iload 4, 2) := dn_21 (oo_39 11 rfl rfl) rfl
theorem dL_law_2029 : decode cL_law 2029 = .ok (.iconst 1, 1) := dn_4 (oo_39 13 rfl rfl)
theorem dL_law_2030 : decode cL_law 2030 = .ok (.iadd, 1) := dn_96 (oo_39 14 rfl rfl)
theorem dL_law_2031 : decode cL_law 2031 = .ok (.iaload, 1) := dn_46 (oo_39 15 rfl rfl)
theorem dL_law_2032 : decode cL_law 2032 = .ok (.aload_n 3, 1) := dn_45 (oo_39 16 rfl rfl)
theorem dL_law_2033 : decode cL_law 2033 = .ok (.invokestatic 309, 3) := dn_184 (oo_39 17 rfl rfl) rfl
theorem dL_law_2036 : decode cL_law 2036 = .ok (.istore 5, 2) := dn_54 (oo_39 20 rfl rfl) rfl
theorem dL_law_2038 : decode cL_law 2038 = .ok (.aload_n 2, 1) := dn_44 (oo_39 22 rfl rfl)
theorem dL_law_2039 : decode cL_law 2039 = .ok (.aload_n 0, 1) := dn_42 (oo_39 23 rfl rfl)
theorem dL_law_2040 : decode cL_law 2040 = .ok (.iload 4, 2) := dn_21 (oo_39 24 rfl rfl) rfl
theorem dL_law_2042 : decode cL_law 2042 = .ok (.iconst 1, 1) := dn_4 (oo_39 26 rfl rfl)
theorem dL_law_2043 : decode cL_law 2043 = .ok (.iadd, 1) := dn_96 (oo_39 27 rfl rfl)
theorem dL_law_2044 : decode cL_law 2044 = .ok (.iaload, 1) := dn_46 (oo_39 28 rfl rfl)
theorem dL_law_2045 : decode cL_law 2045 = .ok (.invokevirtual 311, 3) := dn_182 (oo_39 29 rfl rfl) rfl
theorem dL_law_2048 : decode cL_law 2048 = .ok (.astore 6, 2) := dn_58 (oo_39 32 rfl rfl) rfl
theorem dL_law_2050 : decode cL_law 2050 = .ok (.goto 194, 3) := dn_167 (oo_39 34 rfl rfl) (by decide +kernel)
theorem dL_law_2053 : decode cL_law 2053 = .ok (.aload_n 1, 1) := dn_43 (oo_39 37 rfl rfl)
theorem dL_law_2054 : decode cL_law 2054 = .ok (.aload_n 0, 1) := dn_42 (oo_39 38 rfl rfl)
theorem dL_law_2055 : decode cL_law 2055 = .ok (.iload 4, 2) := dn_21 (oo_39 39 rfl rfl) rfl
theorem dL_law_2057 : decode cL_law 2057 = .ok (.iconst 1, 1) := dn_4 (oo_39 41 rfl rfl)
theorem dL_law_2058 : decode cL_law 2058 = .ok (.iadd, 1) := dn_96 (oo_39 42 rfl rfl)
theorem dL_law_2059 : decode cL_law 2059 = .ok (.iaload, 1) := dn_46 (oo_39 43 rfl rfl)
theorem dL_law_2060 : decode cL_law 2060 = .ok (.aload_n 3, 1) := dn_45 (oo_39 44 rfl rfl)
theorem dL_law_2061 : decode cL_law 2061 = .ok (.invokestatic 312, 3) := dn_184 (oo_39 45 rfl rfl) rfl
theorem dL_law_2064 : decode cL_law 2064 = .ok (.istore 5, 2) := dn_54 (oo_39 48 rfl rfl) rfl
theorem dL_law_2066 : decode cL_law 2066 = .ok (.aload_n 2, 1) := dn_44 (oo_39 50 rfl rfl)
theorem dL_law_2067 : decode cL_law 2067 = .ok (.aload_n 0, 1) := dn_42 (oo_40 0 rfl rfl)
theorem dL_law_2068 : decode cL_law 2068 = .ok (.iload 4, 2) := dn_21 (oo_40 1 rfl rfl) rfl
theorem dL_law_2070 : decode cL_law 2070 = .ok (.iconst 1, 1) := dn_4 (oo_40 3 rfl rfl)
theorem dL_law_2071 : decode cL_law 2071 = .ok (.iadd, 1) := dn_96 (oo_40 4 rfl rfl)
theorem dL_law_2072 : decode cL_law 2072 = .ok (.iaload, 1) := dn_46 (oo_40 5 rfl rfl)
theorem dL_law_2073 : decode cL_law 2073 = .ok (.invokevirtual 314, 3) := dn_182 (oo_40 6 rfl rfl) rfl
theorem dL_law_2076 : decode cL_law 2076 = .ok (.istore 6, 2) := dn_54 (oo_40 9 rfl rfl) rfl
theorem dL_law_2078 : decode cL_law 2078 = .ok (.goto 166, 3) := dn_167 (oo_40 11 rfl rfl) (by decide +kernel)
theorem dL_law_2081 : decode cL_law 2081 = .ok (.aload_n 1, 1) := dn_43 (oo_40 14 rfl rfl)
theorem dL_law_2082 : decode cL_law 2082 = .ok (.aload_n 0, 1) := dn_42 (oo_40 15 rfl rfl)
theorem dL_law_2083 : decode cL_law 2083 = .ok (.iload 4, 2) := dn_21 (oo_40 16 rfl rfl) rfl
theorem dL_law_2085 : decode cL_law 2085 = .ok (.iconst 1, 1) := dn_4 (oo_40 18 rfl rfl)
theorem dL_law_2086 : decode cL_law 2086 = .ok (.iadd, 1) := dn_96 (oo_40 19 rfl rfl)
theorem dL_law_2087 : decode cL_law 2087 = .ok (.iaload, 1) := dn_46 (oo_40 20 rfl rfl)
theorem dL_law_2088 : decode cL_law 2088 = .ok (.aload_n 3, 1) := dn_45 (oo_40 21 rfl rfl)
theorem dL_law_2089 : decode cL_law 2089 = .ok (.invokestatic 315, 3) := dn_184 (oo_40 22 rfl rfl) rfl
theorem dL_law_2092 : decode cL_law 2092 = .ok (.istore 5, 2) := dn_54 (oo_40 25 rfl rfl) rfl
theorem dL_law_2094 : decode cL_law 2094 = .ok (.aload_n 2, 1) := dn_44 (oo_40 27 rfl rfl)
theorem dL_law_2095 : decode cL_law 2095 = .ok (.aload_n 0, 1) := dn_42 (oo_40 28 rfl rfl)
theorem dL_law_2096 : decode cL_law 2096 = .ok (.iload 4, 2) := dn_21 (oo_40 29 rfl rfl) rfl
theorem dL_law_2098 : decode cL_law 2098 = .ok (.iconst 1, 1) := dn_4 (oo_40 31 rfl rfl)
theorem dL_law_2099 : decode cL_law 2099 = .ok (.iadd, 1) := dn_96 (oo_40 32 rfl rfl)
theorem dL_law_2100 : decode cL_law 2100 = .ok (.iaload, 1) := dn_46 (oo_40 33 rfl rfl)
theorem dL_law_2101 : decode cL_law 2101 = .ok (.invokevirtual 317, 3) := dn_182 (oo_40 34 rfl rfl) rfl
theorem dL_law_2104 : decode cL_law 2104 = .ok (.istore 6, 2) := dn_54 (oo_40 37 rfl rfl) rfl
theorem dL_law_2106 : decode cL_law 2106 = .ok (.goto 138, 3) := dn_167 (oo_40 39 rfl rfl) (by decide +kernel)
theorem dL_law_2109 : decode cL_law 2109 = .ok (.aload_n 1, 1) := dn_43 (oo_40 42 rfl rfl)
theorem dL_law_2110 : decode cL_law 2110 = .ok (.aload_n 0, 1) := dn_42 (oo_40 43 rfl rfl)
theorem dL_law_2111 : decode cL_law 2111 = .ok (.iload 4, 2) := dn_21 (oo_40 44 rfl rfl) rfl
theorem dL_law_2113 : decode cL_law 2113 = .ok (.iconst 1, 1) := dn_4 (oo_40 46 rfl rfl)
theorem dL_law_2114 : decode cL_law 2114 = .ok (.iadd, 1) := dn_96 (oo_40 47 rfl rfl)
theorem dL_law_2115 : decode cL_law 2115 = .ok (.iaload, 1) := dn_46 (oo_40 48 rfl rfl)
theorem dL_law_2116 : decode cL_law 2116 = .ok (.aload_n 3, 1) := dn_45 (oo_41 0 rfl rfl)
theorem dL_law_2117 : decode cL_law 2117 = .ok (.invokestatic 318, 3) := dn_184 (oo_41 1 rfl rfl) rfl
theorem dL_law_2120 : decode cL_law 2120 = .ok (.istore 5, 2) := dn_54 (oo_41 4 rfl rfl) rfl
theorem dL_law_2122 : decode cL_law 2122 = .ok (.aload_n 2, 1) := dn_44 (oo_41 6 rfl rfl)
theorem dL_law_2123 : decode cL_law 2123 = .ok (.aload_n 0, 1) := dn_42 (oo_41 7 rfl rfl)
theorem dL_law_2124 : decode cL_law 2124 = .ok (.iload 4, 2) := dn_21 (oo_41 8 rfl rfl) rfl
theorem dL_law_2126 : decode cL_law 2126 = .ok (.iconst 1, 1) := dn_4 (oo_41 10 rfl rfl)
theorem dL_law_2127 : decode cL_law 2127 = .ok (.iadd, 1) := dn_96 (oo_41 11 rfl rfl)
theorem dL_law_2128 : decode cL_law 2128 = .ok (.iaload, 1) := dn_46 (oo_41 12 rfl rfl)
theorem dL_law_2129 : decode cL_law 2129 = .ok (.invokevirtual 320, 3) := dn_182 (oo_41 13 rfl rfl) rfl
theorem dL_law_2132 : decode cL_law 2132 = .ok (.istore 6, 2) := dn_54 (oo_41 16 rfl rfl) rfl
theorem dL_law_2134 : decode cL_law 2134 = .ok (.goto 110, 3) := dn_167 (oo_41 18 rfl rfl) (by decide +kernel)
theorem dL_law_2137 : decode cL_law 2137 = .ok (.aload_n 1, 1) := dn_43 (oo_41 21 rfl rfl)
theorem dL_law_2138 : decode cL_law 2138 = .ok (.aload_n 0, 1) := dn_42 (oo_41 22 rfl rfl)
theorem dL_law_2139 : decode cL_law 2139 = .ok (.iload 4, 2) := dn_21 (oo_41 23 rfl rfl) rfl
theorem dL_law_2141 : decode cL_law 2141 = .ok (.iconst 1, 1) := dn_4 (oo_41 25 rfl rfl)
theorem dL_law_2142 : decode cL_law 2142 = .ok (.iadd, 1) := dn_96 (oo_41 26 rfl rfl)
theorem dL_law_2143 : decode cL_law 2143 = .ok (.iaload, 1) := dn_46 (oo_41 27 rfl rfl)
theorem dL_law_2144 : decode cL_law 2144 = .ok (.aload_n 0, 1) := dn_42 (oo_41 28 rfl rfl)
theorem dL_law_2145 : decode cL_law 2145 = .ok (.iload 4, 2) := dn_21 (oo_41 29 rfl rfl) rfl
theorem dL_law_2147 : decode cL_law 2147 = .ok (.iconst 2, 1) := dn_5 (oo_41 31 rfl rfl)
theorem dL_law_2148 : decode cL_law 2148 = .ok (.iadd, 1) := dn_96 (oo_41 32 rfl rfl)
theorem dL_law_2149 : decode cL_law 2149 = .ok (.iaload, 1) := dn_46 (oo_41 33 rfl rfl)
theorem dL_law_2150 : decode cL_law 2150 = .ok (.aload_n 3, 1) := dn_45 (oo_41 34 rfl rfl)
theorem dL_law_2151 : decode cL_law 2151 = .ok (.invokestatic 321, 3) := dn_184 (oo_41 35 rfl rfl) rfl
theorem dL_law_2154 : decode cL_law 2154 = .ok (.istore 5, 2) := dn_54 (oo_41 38 rfl rfl) rfl
theorem dL_law_2156 : decode cL_law 2156 = .ok (.aload_n 2, 1) := dn_44 (oo_41 40 rfl rfl)
theorem dL_law_2157 : decode cL_law 2157 = .ok (.aload_n 0, 1) := dn_42 (oo_41 41 rfl rfl)
theorem dL_law_2158 : decode cL_law 2158 = .ok (.iload 4, 2) := dn_21 (oo_41 42 rfl rfl) rfl
theorem dL_law_2160 : decode cL_law 2160 = .ok (.iconst 1, 1) := dn_4 (oo_41 44 rfl rfl)
theorem dL_law_2161 : decode cL_law 2161 = .ok (.iadd, 1) := dn_96 (oo_41 45 rfl rfl)
theorem dL_law_2162 : decode cL_law 2162 = .ok (.iaload, 1) := dn_46 (oo_41 46 rfl rfl)
theorem dL_law_2163 : decode cL_law 2163 = .ok (.aload_n 0, 1) := dn_42 (oo_42 0 rfl rfl)
theorem dL_law_2164 : decode cL_law 2164 = .ok (.iload 4, 2) := dn_21 (oo_42 1 rfl rfl) rfl
theorem dL_law_2166 : decode cL_law 2166 = .ok (.iconst 2, 1) := dn_5 (oo_42 3 rfl rfl)
theorem dL_law_2167 : decode cL_law 2167 = .ok (.iadd, 1) := dn_96 (oo_42 4 rfl rfl)
theorem dL_law_2168 : decode cL_law 2168 = .ok (.iaload, 1) := dn_46 (oo_42 5 rfl rfl)
theorem dL_law_2169 : decode cL_law 2169 = .ok (.invokevirtual 323, 3) := dn_182 (oo_42 6 rfl rfl) rfl
theorem dL_law_2172 : decode cL_law 2172 = .ok (.istore 6, 2) := dn_54 (oo_42 9 rfl rfl) rfl
theorem dL_law_2174 : decode cL_law 2174 = .ok (.goto 70, 3) := dn_167 (oo_42 11 rfl rfl) (by decide +kernel)
theorem dL_law_2177 : decode cL_law 2177 = .ok (.aload_n 1, 1) := dn_43 (oo_42 14 rfl rfl)
theorem dL_law_2178 : decode cL_law 2178 = .ok (.aload_n 0, 1) := dn_42 (oo_42 15 rfl rfl)
theorem dL_law_2179 : decode cL_law 2179 = .ok (.iload 4, 2) := dn_21 (oo_42 16 rfl rfl) rfl
theorem dL_law_2181 : decode cL_law 2181 = .ok (.iconst 1, 1) := dn_4 (oo_42 18 rfl rfl)
theorem dL_law_2182 : decode cL_law 2182 = .ok (.iadd, 1) := dn_96 (oo_42 19 rfl rfl)
theorem dL_law_2183 : decode cL_law 2183 = .ok (.iaload, 1) := dn_46 (oo_42 20 rfl rfl)
theorem dL_law_2184 : decode cL_law 2184 = .ok (.aload_n 3, 1) := dn_45 (oo_42 21 rfl rfl)
theorem dL_law_2185 : decode cL_law 2185 = .ok (.invokestatic 324, 3) := dn_184 (oo_42 22 rfl rfl) rfl
theorem dL_law_2188 : decode cL_law 2188 = .ok (.istore 5, 2) := dn_54 (oo_42 25 rfl rfl) rfl
theorem dL_law_2190 : decode cL_law 2190 = .ok (.aload_n 2, 1) := dn_44 (oo_42 27 rfl rfl)
theorem dL_law_2191 : decode cL_law 2191 = .ok (.aload_n 0, 1) := dn_42 (oo_42 28 rfl rfl)
theorem dL_law_2192 : decode cL_law 2192 = .ok (.iload 4, 2) := dn_21 (oo_42 29 rfl rfl) rfl
theorem dL_law_2194 : decode cL_law 2194 = .ok (.iconst 1, 1) := dn_4 (oo_42 31 rfl rfl)
theorem dL_law_2195 : decode cL_law 2195 = .ok (.iadd, 1) := dn_96 (oo_42 32 rfl rfl)
theorem dL_law_2196 : decode cL_law 2196 = .ok (.iaload, 1) := dn_46 (oo_42 33 rfl rfl)
theorem dL_law_2197 : decode cL_law 2197 = .ok (.invokevirtual 326, 3) := dn_182 (oo_42 34 rfl rfl) rfl
theorem dL_law_2200 : decode cL_law 2200 = .ok (.istore 6, 2) := dn_54 (oo_42 37 rfl rfl) rfl
theorem dL_law_2202 : decode cL_law 2202 = .ok (.goto 42, 3) := dn_167 (oo_42 39 rfl rfl) (by decide +kernel)
theorem dL_law_2205 : decode cL_law 2205 = .ok (.aload_n 1, 1) := dn_43 (oo_42 42 rfl rfl)
theorem dL_law_2206 : decode cL_law 2206 = .ok (.invokevirtual 327, 3) := dn_182 (oo_42 43 rfl rfl) rfl
theorem dL_law_2209 : decode cL_law 2209 = .ok (.pop, 1) := dn_87 (oo_42 46 rfl rfl)
theorem dL_law_2210 : decode cL_law 2210 = .ok (.aload_n 2, 1) := dn_44 (oo_42 47 rfl rfl)
theorem dL_law_2211 : decode cL_law 2211 = .ok (.invokevirtual 330, 3) := dn_182 (oo_42 48 rfl rfl) rfl
theorem dL_law_2214 : decode cL_law 2214 = .ok (.pop, 1) := dn_87 (oo_42 51 rfl rfl)
theorem dL_law_2215 : decode cL_law 2215 = .ok (.goto 29, 3) := dn_167 (oo_43 0 rfl rfl) (by decide +kernel)
theorem dL_law_2218 : decode cL_law 2218 = .ok (.aload_n 1, 1) := dn_43 (oo_43 3 rfl rfl)
theorem dL_law_2219 : decode cL_law 2219 = .ok (.invokevirtual 331, 3) := dn_182 (oo_43 4 rfl rfl) rfl
theorem dL_law_2222 : decode cL_law 2222 = .ok (.pop, 1) := dn_87 (oo_43 7 rfl rfl)
theorem dL_law_2223 : decode cL_law 2223 = .ok (.aload_n 2, 1) := dn_44 (oo_43 8 rfl rfl)
theorem dL_law_2224 : decode cL_law 2224 = .ok (.invokevirtual 335, 3) := dn_182 (oo_43 9 rfl rfl) rfl
theorem dL_law_2227 : decode cL_law 2227 = .ok (.pop, 1) := dn_87 (oo_43 12 rfl rfl)
theorem dL_law_2228 : decode cL_law 2228 = .ok (.goto 16, 3) := dn_167 (oo_43 13 rfl rfl) (by decide +kernel)
theorem dL_law_2231 : decode cL_law 2231 = .ok (.aload_n 1, 1) := dn_43 (oo_43 16 rfl rfl)
theorem dL_law_2232 : decode cL_law 2232 = .ok (.invokevirtual 336, 3) := dn_182 (oo_43 17 rfl rfl) rfl
theorem dL_law_2235 : decode cL_law 2235 = .ok (.pop2, 1) := dn_88 (oo_43 20 rfl rfl)
theorem dL_law_2236 : decode cL_law 2236 = .ok (.aload_n 2, 1) := dn_44 (oo_43 21 rfl rfl)
theorem dL_law_2237 : decode cL_law 2237 = .ok (.invokevirtual 340, 3) := dn_182 (oo_43 22 rfl rfl) rfl
theorem dL_law_2240 : decode cL_law 2240 = .ok (.pop2, 1) := dn_88 (oo_43 25 rfl rfl)
theorem dL_law_2241 : decode cL_law 2241 = .ok (.goto 3, 3) := dn_167 (oo_43 26 rfl rfl) (by decide +kernel)
theorem dL_law_2244 : decode cL_law 2244 = .ok (.iinc 4 4, 3) := dn_132 (oo_43 29 rfl rfl) rfl (by decide +kernel)
theorem dL_law_2247 : decode cL_law 2247 = .ok (.goto (-2220), 3) := dn_167 (oo_43 32 rfl rfl) (by decide +kernel)
theorem dL_law_2250 : decode cL_law 2250 = .ok (.iconst 1, 1) := dn_4 (oo_43 35 rfl rfl)
theorem dL_law_2251 : decode cL_law 2251 = .ok (.ireturn, 1) := dn_172 (oo_43 36 rfl rfl)
end
