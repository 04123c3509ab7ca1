/-! decode rows of a long method, out of its bytes chunk by chunk -/
theorem dr_app (t : List UInt8) (r : Nat) : ∀ (a : List UInt8), (a ++ t).drop (a.length + r) = t.drop r
  | [] => by
    show List.drop (0 + r) t = _
    rw [Nat.zero_add]
  | x :: a => by
    rw [show (x :: a).length + r = a.length + r + 1 from by rw [List.length_cons]; omega]
    exact dr_app t r a
theorem dr_len {a t : List UInt8} {m r : Nat} (h : a.length = m) : (a ++ t).drop (m + r) = t.drop r := by
  subst h
  exact dr_app t r a
def eqL : List UInt8 → List UInt8 → Bool
  | [], [] => true
  | a :: x, b :: y => cond (Nat.beq a.toNat b.toNat) (eqL x y) false
  | _, _ => false
theorem eqL_eq : ∀ {x y : List UInt8}, eqL x y = true → x = y
  | [], [], _ => rfl
  | a :: x, b :: y, h => by
    have h : cond (Nat.beq a.toNat b.toNat) (eqL x y) false = true := h
    cases e : Nat.beq a.toNat b.toNat with
    | true =>
      rw [e] at h
      have e1 : a = b := UInt8.toNat_inj.mp (Nat.eq_of_beq_eq_true e)
      rw [e1, eqL_eq h]
    | false =>
      rw [e] at h
      cases h
  | [], _ :: _, h => by
    have h : false = true := h
    cases h
  | _ :: _, [], h => by
    have h : false = true := h
    cases h
theorem drop_s {L : List UInt8} {p : Nat} {x : UInt8} {r : List UInt8} (h : L.drop p = x :: r) : L.drop (p + 1) = r := by
  have e : (L.drop p).drop 1 = r := by rw [h]; rfl
  rw [List.drop_drop] at e
  first
    | exact e
    | (rw [Nat.add_comm] at e; exact e)
theorem u1_run {code : ByteArray} {p : Nat} {b : UInt8} {r : List UInt8} (h : code.data.toList.drop p = b :: r) : (Reader.u1 : Decoder Nat) code p = .ok (b.toNat, p + 1) := by
  have hp : p < code.size := by
    have e : (code.data.toList.drop p).length = (b :: r).length := by rw [h]
    rw [List.length_drop, List.length_cons] at e
    show p < code.data.size
    rw [← Array.length_toList]
    omega
  have hb : code.data.toList[p]? = some b := by
    have e : (code.data.toList.drop p)[0]? = some b := by rw [h]; rfl
    rw [List.getElem?_drop, Nat.add_zero] at e
    exact e
  have hb2 : code[p]'hp = b := by
    obtain ⟨h1, h2⟩ := List.getElem?_eq_some_iff.mp hb
    rw [Array.getElem_toList] at h2
    exact h2
  show (dite (p < code.size) (fun h => ((set (p + 1) : Decoder PUnit) >>= fun _ => (pure (code[p]'h).toNat : Decoder Nat))) (fun _ => (throw (HasTruncated.truncated p) : Decoder Nat))) code p = _
  rw [dif_pos hp, ← hb2]
  rfl
theorem rd_bind {α β : Type} {r : Decoder α} {f : α → Decoder β} {code : ByteArray} {p q : Nat} {a : α} (h : r code p = .ok (a, q)) : (r >>= f) code p = f a code q := by
  show Except.bind (r code p) (fun x => f x.1 code x.2) = _
  rw [h]
  rfl
theorem rd_map {α β : Type} {r : Decoder α} {g : α → β} {code : ByteArray} {p q : Nat} {a : α} (h : r code p = .ok (a, q)) : (g <$> r) code p = .ok (g a, q) := by
  first
    | (show Except.bind (r code p) (fun x => .ok (g x.1, x.2)) = _; rw [h]; rfl)
    | (show Except.map (fun x => (g x.1, x.2)) (r code p) = _; rw [h]; rfl)
theorem u2_run {code : ByteArray} {p : Nat} {x y : UInt8} {r : List UInt8} (h : code.data.toList.drop p = x :: y :: r) : (Reader.u2 : Decoder Nat) code p = .ok (x.toNat * 256 + y.toNat, p + 2) :=
  (rd_bind (u1_run h)).trans (rd_bind (u1_run (drop_s h)))
theorem s1_run {code : ByteArray} {p : Nat} {x : UInt8} {r : List UInt8} (h : code.data.toList.drop p = x :: r) : (Reader.s1 : Decoder Int) code p = .ok (Reader.signed 8 x.toNat, p + 1) := rd_map (u1_run h)
theorem s2_run {code : ByteArray} {p : Nat} {x y : UInt8} {r : List UInt8} (h : code.data.toList.drop p = x :: y :: r) : (Reader.s2 : Decoder Int) code p = .ok (Reader.signed 16 (x.toNat * 256 + y.toNat), p + 2) := rd_map (u2_run h)
theorem dec_of {code : ByteArray} {pc q k : Nat} {i : Instr} (h : (Decoder.instr pc) code pc = .ok (i, q)) (hq : q = pc + k) : decode code pc = .ok (i, k) := by
  subst hq
  show Except.bind ((Decoder.instr pc) code pc) (fun x => (pure (x.1, x.2 - pc) : Except DecodeError (Instr × Nat))) = _
  rw [h]
  show Except.ok (i, pc + k - pc) = _
  rw [Nat.add_sub_cancel_left]
theorem dk_f {α : Type} {rd : Decoder α} {f : α → Instr} {code : ByteArray} {p q : Nat} {a a' : α} (h : rd code p = .ok (a, q)) (e : a = a') : (rd >>= fun x => (pure (f x) : Decoder Instr)) code p = .ok (f a', q) := by
  subst e
  exact rd_bind h

theorem dn_3 {code : ByteArray} {pc : Nat} {r : List UInt8} (h : code.data.toList.drop pc = 3 :: r) : decode code pc = .ok (.iconst 0, 1) := dec_of (rd_bind (u1_run h)) rfl
theorem dn_4 {code : ByteArray} {pc : Nat} {r : List UInt8} (h : code.data.toList.drop pc = 4 :: r) : decode code pc = .ok (.iconst 1, 1) := dec_of (rd_bind (u1_run h)) rfl
theorem dn_5 {code : ByteArray} {pc : Nat} {r : List UInt8} (h : code.data.toList.drop pc = 5 :: r) : decode code pc = .ok (.iconst 2, 1) := dec_of (rd_bind (u1_run h)) rfl
theorem dn_6 {code : ByteArray} {pc : Nat} {r : List UInt8} (h : code.data.toList.drop pc = 6 :: r) : decode code pc = .ok (.iconst 3, 1) := dec_of (rd_bind (u1_run h)) rfl
theorem dn_7 {code : ByteArray} {pc : Nat} {r : List UInt8} (h : code.data.toList.drop pc = 7 :: r) : decode code pc = .ok (.iconst 4, 1) := dec_of (rd_bind (u1_run h)) rfl
theorem dn_16 {code : ByteArray} {pc : Nat} {r : List UInt8} {x : UInt8} {n : Int} (h : code.data.toList.drop pc = 16 :: x :: r) (hn : Reader.signed 8 x.toNat = n) : decode code pc = .ok (.bipush n, 2) := dec_of ((rd_bind (u1_run h)).trans (dk_f (f := fun a => (.bipush a : Instr)) (s1_run (drop_s h)) hn)) rfl
theorem dn_21 {code : ByteArray} {pc : Nat} {r : List UInt8} {x : UInt8} {n : Nat} (h : code.data.toList.drop pc = 21 :: x :: r) (hn : x.toNat = n) : decode code pc = .ok (.iload n, 2) := dec_of ((rd_bind (u1_run h)).trans (dk_f (f := fun a => (.iload a : Instr)) (u1_run (drop_s h)) hn)) rfl
theorem dn_42 {code : ByteArray} {pc : Nat} {r : List UInt8} (h : code.data.toList.drop pc = 42 :: r) : decode code pc = .ok (.aload_n 0, 1) := dec_of (rd_bind (u1_run h)) rfl
theorem dn_43 {code : ByteArray} {pc : Nat} {r : List UInt8} (h : code.data.toList.drop pc = 43 :: r) : decode code pc = .ok (.aload_n 1, 1) := dec_of (rd_bind (u1_run h)) rfl
theorem dn_44 {code : ByteArray} {pc : Nat} {r : List UInt8} (h : code.data.toList.drop pc = 44 :: r) : decode code pc = .ok (.aload_n 2, 1) := dec_of (rd_bind (u1_run h)) rfl
theorem dn_45 {code : ByteArray} {pc : Nat} {r : List UInt8} (h : code.data.toList.drop pc = 45 :: r) : decode code pc = .ok (.aload_n 3, 1) := dec_of (rd_bind (u1_run h)) rfl
theorem dn_46 {code : ByteArray} {pc : Nat} {r : List UInt8} (h : code.data.toList.drop pc = 46 :: r) : decode code pc = .ok (.iaload, 1) := dec_of (rd_bind (u1_run h)) rfl
theorem dn_54 {code : ByteArray} {pc : Nat} {r : List UInt8} {x : UInt8} {n : Nat} (h : code.data.toList.drop pc = 54 :: x :: r) (hn : x.toNat = n) : decode code pc = .ok (.istore n, 2) := dec_of ((rd_bind (u1_run h)).trans (dk_f (f := fun a => (.istore a : Instr)) (u1_run (drop_s h)) hn)) rfl
theorem dn_58 {code : ByteArray} {pc : Nat} {r : List UInt8} {x : UInt8} {n : Nat} (h : code.data.toList.drop pc = 58 :: x :: r) (hn : x.toNat = n) : decode code pc = .ok (.astore n, 2) := dec_of ((rd_bind (u1_run h)).trans (dk_f (f := fun a => (.astore a : Instr)) (u1_run (drop_s h)) hn)) rfl
theorem dn_76 {code : ByteArray} {pc : Nat} {r : List UInt8} (h : code.data.toList.drop pc = 76 :: r) : decode code pc = .ok (.astore_n 1, 1) := dec_of (rd_bind (u1_run h)) rfl
theorem dn_77 {code : ByteArray} {pc : Nat} {r : List UInt8} (h : code.data.toList.drop pc = 77 :: r) : decode code pc = .ok (.astore_n 2, 1) := dec_of (rd_bind (u1_run h)) rfl
theorem dn_78 {code : ByteArray} {pc : Nat} {r : List UInt8} (h : code.data.toList.drop pc = 78 :: r) : decode code pc = .ok (.astore_n 3, 1) := dec_of (rd_bind (u1_run h)) rfl
theorem dn_87 {code : ByteArray} {pc : Nat} {r : List UInt8} (h : code.data.toList.drop pc = 87 :: r) : decode code pc = .ok (.pop, 1) := dec_of (rd_bind (u1_run h)) rfl
theorem dn_88 {code : ByteArray} {pc : Nat} {r : List UInt8} (h : code.data.toList.drop pc = 88 :: r) : decode code pc = .ok (.pop2, 1) := dec_of (rd_bind (u1_run h)) rfl
theorem dn_89 {code : ByteArray} {pc : Nat} {r : List UInt8} (h : code.data.toList.drop pc = 89 :: r) : decode code pc = .ok (.dup, 1) := dec_of (rd_bind (u1_run h)) rfl
theorem dn_96 {code : ByteArray} {pc : Nat} {r : List UInt8} (h : code.data.toList.drop pc = 96 :: r) : decode code pc = .ok (.iadd, 1) := dec_of (rd_bind (u1_run h)) rfl
theorem dn_100 {code : ByteArray} {pc : Nat} {r : List UInt8} (h : code.data.toList.drop pc = 100 :: r) : decode code pc = .ok (.isub, 1) := dec_of (rd_bind (u1_run h)) rfl
theorem dn_126 {code : ByteArray} {pc : Nat} {r : List UInt8} (h : code.data.toList.drop pc = 126 :: r) : decode code pc = .ok (.iand, 1) := dec_of (rd_bind (u1_run h)) rfl
theorem dn_132 {code : ByteArray} {pc : Nat} {r : List UInt8} {x y : UInt8} {n : Nat} {z : Int} (h : code.data.toList.drop pc = 132 :: x :: y :: r) (hn : x.toNat = n) (hz : Reader.signed 8 y.toNat = z) : decode code pc = .ok (.iinc n z, 3) := dec_of ((rd_bind (u1_run h)).trans ((rd_bind (u1_run (drop_s h))).trans (by subst hn; exact dk_f (f := fun b => Instr.iinc x.toNat b) (s1_run (drop_s (drop_s h))) hz))) rfl
theorem dn_153 {code : ByteArray} {pc : Nat} {r : List UInt8} {x y : UInt8} {n : Int} (h : code.data.toList.drop pc = 153 :: x :: y :: r) (hn : Reader.signed 16 (x.toNat * 256 + y.toNat) = n) : decode code pc = .ok (.ifCond .eq n, 3) := dec_of ((rd_bind (u1_run h)).trans (dk_f (f := fun a => (.ifCond .eq a : Instr)) (s2_run (drop_s h)) hn)) rfl
theorem dn_159 {code : ByteArray} {pc : Nat} {r : List UInt8} {x y : UInt8} {n : Int} (h : code.data.toList.drop pc = 159 :: x :: y :: r) (hn : Reader.signed 16 (x.toNat * 256 + y.toNat) = n) : decode code pc = .ok (.if_icmp .eq n, 3) := dec_of ((rd_bind (u1_run h)).trans (dk_f (f := fun a => (.if_icmp .eq a : Instr)) (s2_run (drop_s h)) hn)) rfl
theorem dn_163 {code : ByteArray} {pc : Nat} {r : List UInt8} {x y : UInt8} {n : Int} (h : code.data.toList.drop pc = 163 :: x :: y :: r) (hn : Reader.signed 16 (x.toNat * 256 + y.toNat) = n) : decode code pc = .ok (.if_icmp .gt n, 3) := dec_of ((rd_bind (u1_run h)).trans (dk_f (f := fun a => (.if_icmp .gt a : Instr)) (s2_run (drop_s h)) hn)) rfl
theorem dn_167 {code : ByteArray} {pc : Nat} {r : List UInt8} {x y : UInt8} {n : Int} (h : code.data.toList.drop pc = 167 :: x :: y :: r) (hn : Reader.signed 16 (x.toNat * 256 + y.toNat) = n) : decode code pc = .ok (.goto n, 3) := dec_of ((rd_bind (u1_run h)).trans (dk_f (f := fun a => (.goto a : Instr)) (s2_run (drop_s h)) hn)) rfl
theorem dn_172 {code : ByteArray} {pc : Nat} {r : List UInt8} (h : code.data.toList.drop pc = 172 :: r) : decode code pc = .ok (.ireturn, 1) := dec_of (rd_bind (u1_run h)) rfl
theorem dn_182 {code : ByteArray} {pc : Nat} {r : List UInt8} {x y : UInt8} {n : Nat} (h : code.data.toList.drop pc = 182 :: x :: y :: r) (hn : x.toNat * 256 + y.toNat = n) : decode code pc = .ok (.invokevirtual n, 3) := dec_of ((rd_bind (u1_run h)).trans (dk_f (f := fun a => (.invokevirtual a : Instr)) (u2_run (drop_s h)) hn)) rfl
theorem dn_183 {code : ByteArray} {pc : Nat} {r : List UInt8} {x y : UInt8} {n : Nat} (h : code.data.toList.drop pc = 183 :: x :: y :: r) (hn : x.toNat * 256 + y.toNat = n) : decode code pc = .ok (.invokespecial n, 3) := dec_of ((rd_bind (u1_run h)).trans (dk_f (f := fun a => (.invokespecial a : Instr)) (u2_run (drop_s h)) hn)) rfl
theorem dn_184 {code : ByteArray} {pc : Nat} {r : List UInt8} {x y : UInt8} {n : Nat} (h : code.data.toList.drop pc = 184 :: x :: y :: r) (hn : x.toNat * 256 + y.toNat = n) : decode code pc = .ok (.invokestatic n, 3) := dec_of ((rd_bind (u1_run h)).trans (dk_f (f := fun a => (.invokestatic a : Instr)) (u2_run (drop_s h)) hn)) rfl
theorem dn_187 {code : ByteArray} {pc : Nat} {r : List UInt8} {x y : UInt8} {n : Nat} (h : code.data.toList.drop pc = 187 :: x :: y :: r) (hn : x.toNat * 256 + y.toNat = n) : decode code pc = .ok (.new n, 3) := dec_of ((rd_bind (u1_run h)).trans (dk_f (f := fun a => (.new a : Instr)) (u2_run (drop_s h)) hn)) rfl
theorem dn_190 {code : ByteArray} {pc : Nat} {r : List UInt8} (h : code.data.toList.drop pc = 190 :: r) : decode code pc = .ok (.arraylength, 1) := dec_of (rd_bind (u1_run h)) rfl
def kc_0 : List UInt8 := [187, 0, 8, 89, 183, 0, 171, 76, 187, 0, 172, 89, 183, 0, 174, 77, 187, 0, 14, 89, 183, 0, 175, 78, 3, 54, 4, 21, 4, 42, 190, 7, 100, 163, 8, 140, 42, 21, 4, 46, 16, 63, 126, 170, 0, 0, 8, 124, 0, 0, 0, 0, 0, 0, 0, 49, 0, 0, 0, 213, 0, 0, 0, 253, 0, 0, 1, 49, 0, 0, 1, 101, 0, 0, 1, 141, 0, 0, 1, 169, 0, 0, 1, 209, 0, 0, 1, 249, 0, 0, 2, 21, 0, 0, 2, 73, 0, 0, 2, 125, 0, 0, 2, 193, 0, 0, 3, 5, 0, 0, 3, 57, 0, 0, 3, 85, 0, 0, 3, 113, 0, 0, 3, 153, 0, 0, 3, 181, 0, 0, 3, 221, 0, 0, 4, 33, 0, 0, 4, 73, 0, 0, 4, 125, 0, 0, 4, 177, 0, 0, 4, 217, 0, 0, 5, 1, 0, 0, 5, 41, 0, 0, 5, 93, 0, 0, 5, 121, 0, 0, 5, 161, 0, 0, 5, 189, 0, 0, 5, 217, 0, 0, 6, 1, 0, 0, 6, 41, 0, 0, 6, 81, 0, 0, 6, 149, 0, 0, 6, 189, 0, 0, 6, 217, 0, 0, 6, 245, 0, 0, 7, 41, 0, 0, 7, 81, 0, 0, 7, 109, 0, 0, 7, 161, 0, 0, 7, 189, 0, 0, 7, 217, 0, 0, 7, 245, 0, 0, 8, 17, 0, 0, 8, 57, 0, 0, 8, 85, 0, 0, 8, 98, 0, 0, 8, 111, 43, 42, 21, 4, 4, 96, 46]
def kc_1 : List UInt8 := [42, 21, 4, 5, 96, 46, 45, 184, 0, 176, 54, 5, 44, 42, 21, 4, 4, 96, 46, 42, 21, 4, 5, 96, 46, 182, 0, 181, 54, 6, 167, 7, 130, 43, 42, 21, 4, 4, 96, 46, 42, 21, 4, 5, 96]
def kc_2 : List UInt8 := [46, 42, 21, 4, 6, 96, 46, 45, 184, 0, 182, 54, 5, 44, 42, 21, 4, 4, 96, 46, 42, 21, 4, 5, 96, 46, 42, 21, 4, 6, 96, 46, 182, 0, 185, 54, 6, 167, 7, 78, 43, 42, 21, 4, 4]
def kc_3 : List UInt8 := [96, 46, 42, 21, 4, 5, 96, 46, 42, 21, 4, 6, 96, 46, 45, 184, 0, 186, 54, 5, 44, 42, 21, 4, 4, 96, 46, 42, 21, 4, 5, 96, 46, 42, 21, 4, 6, 96, 46, 182, 0, 188]
def kc_4 : List UInt8 := [54, 6, 167, 7, 26, 43, 42, 21, 4, 4, 96, 46, 42, 21, 4, 5, 96, 46, 45, 184, 0, 189, 54, 5, 44, 42, 21, 4, 4, 96, 46, 42, 21, 4, 5, 96, 46, 182, 0, 191, 54, 6, 167, 6, 242, 43, 42]
def kc_5 : List UInt8 := [21, 4, 4, 96, 46, 45, 184, 0, 192, 54, 5, 44, 42, 21, 4, 4, 96, 46, 182, 0, 195, 54, 6, 167, 6, 214, 43, 42, 21, 4, 4, 96, 46, 42, 21, 4, 5, 96, 46, 45, 184, 0, 196, 54, 5, 44, 42]
def kc_6 : List UInt8 := [21, 4, 4, 96, 46, 42, 21, 4, 5, 96, 46, 182, 0, 198, 54, 6, 167, 6, 174, 43, 42, 21, 4, 4, 96, 46, 42, 21, 4, 5, 96, 46, 45, 184, 0, 199, 54, 5, 44, 42, 21, 4, 4, 96, 46]
def kc_7 : List UInt8 := [42, 21, 4, 5, 96, 46, 182, 0, 201, 54, 6, 167, 6, 134, 43, 42, 21, 4, 4, 96, 46, 45, 184, 0, 202, 54, 5, 44, 42, 21, 4, 4, 96, 46, 182, 0, 204, 54, 6, 167, 6, 106, 43, 42, 21, 4, 4, 96, 46]
def kc_8 : List UInt8 := [42, 21, 4, 5, 96, 46, 42, 21, 4, 6, 96, 46, 45, 184, 0, 205, 54, 5, 44, 42, 21, 4, 4, 96, 46, 42, 21, 4, 5, 96, 46, 42, 21, 4, 6, 96, 46, 182, 0, 207, 54, 6, 167, 6, 54]
def kc_9 : List UInt8 := [43, 42, 21, 4, 4, 96, 46, 42, 21, 4, 5, 96, 46, 42, 21, 4, 6, 96, 46, 45, 184, 0, 208, 54, 5, 44, 42, 21, 4, 4, 96, 46, 42, 21, 4, 5, 96, 46, 42, 21, 4]
def kc_10 : List UInt8 := [6, 96, 46, 182, 0, 210, 54, 6, 167, 6, 2, 43, 42, 21, 4, 4, 96, 46, 42, 21, 4, 5, 96, 46, 42, 21, 4, 6, 96, 46, 153, 0, 7, 4, 167, 0, 4, 3, 45, 184, 0, 211, 54, 5, 44, 42, 21, 4]
def kc_11 : List UInt8 := [4, 96, 46, 42, 21, 4, 5, 96, 46, 42, 21, 4, 6, 96, 46, 153, 0, 7, 4, 167, 0, 4, 3, 182, 0, 214, 54, 6, 167, 5, 190, 43, 42, 21, 4, 4, 96, 46, 42, 21, 4, 5, 96, 46, 42]
def kc_12 : List UInt8 := [21, 4, 6, 96, 46, 153, 0, 7, 4, 167, 0, 4, 3, 45, 184, 0, 215, 54, 5, 44, 42, 21, 4, 4, 96, 46, 42, 21, 4, 5, 96, 46, 42, 21, 4, 6, 96, 46, 153, 0, 7, 4, 167, 0, 4, 3, 182, 0, 217]
def kc_13 : List UInt8 := [54, 6, 167, 5, 122, 43, 42, 21, 4, 4, 96, 46, 42, 21, 4, 5, 96, 46, 42, 21, 4, 6, 96, 46, 45, 184, 0, 218, 54, 5, 44, 42, 21, 4, 4, 96, 46, 42, 21, 4, 5, 96, 46]
def kc_14 : List UInt8 := [42, 21, 4, 6, 96, 46, 182, 0, 220, 54, 6, 167, 5, 70, 43, 42, 21, 4, 4, 96, 46, 45, 184, 0, 221, 54, 5, 44, 42, 21, 4, 4, 96, 46, 182, 0, 223, 54, 6, 167, 5, 42, 43, 42, 21, 4, 4, 96, 46]
def kc_15 : List UInt8 := [45, 184, 0, 224, 54, 5, 44, 42, 21, 4, 4, 96, 46, 182, 0, 226, 54, 6, 167, 5, 14, 43, 42, 21, 4, 4, 96, 46, 42, 21, 4, 5, 96, 46, 45, 184, 0, 227, 54, 5, 44, 42, 21, 4, 4, 96, 46]
def kc_16 : List UInt8 := [42, 21, 4, 5, 96, 46, 182, 0, 229, 54, 6, 167, 4, 230, 43, 42, 21, 4, 4, 96, 46, 45, 184, 0, 230, 54, 5, 44, 42, 21, 4, 4, 96, 46, 182, 0, 232, 54, 6, 167, 4, 202, 43, 42, 21, 4, 4, 96, 46]
def kc_17 : List UInt8 := [42, 21, 4, 5, 96, 46, 45, 184, 0, 233, 54, 5, 44, 42, 21, 4, 4, 96, 46, 42, 21, 4, 5, 96, 46, 182, 0, 235, 54, 6, 167, 4, 162, 43, 42, 21, 4, 4, 96, 46, 42, 21, 4, 5, 96]
def kc_18 : List UInt8 := [46, 42, 21, 4, 6, 96, 46, 153, 0, 7, 4, 167, 0, 4, 3, 45, 184, 0, 236, 54, 5, 44, 42, 21, 4, 4, 96, 46, 42, 21, 4, 5, 96, 46, 42, 21, 4, 6, 96, 46, 153, 0, 7, 4, 167, 0, 4]
def kc_19 : List UInt8 := [3, 182, 0, 238, 54, 6, 167, 4, 94, 43, 42, 21, 4, 4, 96, 46, 42, 21, 4, 5, 96, 46, 45, 184, 0, 239, 54, 5, 44, 42, 21, 4, 4, 96, 46, 42, 21, 4, 5, 96, 46, 182, 0, 241, 54, 6, 167, 4, 54]
def kc_20 : List UInt8 := [43, 42, 21, 4, 4, 96, 46, 42, 21, 4, 5, 96, 46, 42, 21, 4, 6, 96, 46, 45, 184, 0, 242, 54, 5, 44, 42, 21, 4, 4, 96, 46, 42, 21, 4, 5, 96, 46, 42, 21, 4]
def kc_21 : List UInt8 := [6, 96, 46, 182, 0, 244, 54, 6, 167, 4, 2, 43, 42, 21, 4, 4, 96, 46, 42, 21, 4, 5, 96, 46, 42, 21, 4, 6, 96, 46, 45, 184, 0, 245, 54, 5, 44, 42, 21, 4, 4, 96, 46, 42]
def kc_22 : List UInt8 := [21, 4, 5, 96, 46, 42, 21, 4, 6, 96, 46, 182, 0, 247, 54, 6, 167, 3, 206, 43, 42, 21, 4, 4, 96, 46, 42, 21, 4, 5, 96, 46, 45, 184, 0, 248, 54, 5, 44, 42, 21, 4, 4, 96, 46]
def kc_23 : List UInt8 := [42, 21, 4, 5, 96, 46, 182, 0, 250, 54, 6, 167, 3, 166, 43, 42, 21, 4, 4, 96, 46, 42, 21, 4, 5, 96, 46, 45, 184, 0, 251, 54, 5, 44, 42, 21, 4, 4, 96, 46, 42, 21, 4, 5, 96]
def kc_24 : List UInt8 := [46, 182, 0, 253, 54, 6, 167, 3, 126, 43, 42, 21, 4, 4, 96, 46, 42, 21, 4, 5, 96, 46, 45, 184, 0, 254, 54, 5, 44, 42, 21, 4, 4, 96, 46, 42, 21, 4, 5, 96, 46, 182, 1, 0, 54, 6, 167, 3, 86]
def kc_25 : List UInt8 := [43, 42, 21, 4, 4, 96, 46, 42, 21, 4, 5, 96, 46, 42, 21, 4, 6, 96, 46, 45, 184, 1, 1, 54, 5, 44, 42, 21, 4, 4, 96, 46, 42, 21, 4, 5, 96, 46, 42, 21, 4]
def kc_26 : List UInt8 := [6, 96, 46, 182, 1, 3, 54, 6, 167, 3, 34, 43, 42, 21, 4, 4, 96, 46, 45, 184, 1, 4, 54, 5, 44, 42, 21, 4, 4, 96, 46, 182, 1, 6, 54, 6, 167, 3, 6, 43, 42, 21, 4, 4, 96, 46, 42, 21, 4]
def kc_27 : List UInt8 := [5, 96, 46, 45, 184, 1, 7, 54, 5, 44, 42, 21, 4, 4, 96, 46, 42, 21, 4, 5, 96, 46, 182, 1, 9, 54, 6, 167, 2, 222, 43, 42, 21, 4, 4, 96, 46, 45, 184, 1, 10, 54, 5, 44, 42, 21, 4]
def kc_28 : List UInt8 := [4, 96, 46, 182, 1, 12, 58, 6, 167, 2, 194, 43, 42, 21, 4, 4, 96, 46, 45, 184, 1, 13, 54, 5, 44, 42, 21, 4, 4, 96, 46, 182, 1, 15, 58, 6, 167, 2, 166, 43, 42, 21, 4, 4, 96, 46, 42, 21, 4]
def kc_29 : List UInt8 := [5, 96, 46, 45, 184, 1, 16, 54, 5, 44, 42, 21, 4, 4, 96, 46, 42, 21, 4, 5, 96, 46, 182, 1, 18, 54, 6, 167, 2, 126, 43, 42, 21, 4, 4, 96, 46, 42, 21, 4, 5, 96, 46, 45]
def kc_30 : List UInt8 := [184, 1, 19, 54, 5, 44, 42, 21, 4, 4, 96, 46, 42, 21, 4, 5, 96, 46, 182, 1, 21, 54, 6, 167, 2, 86, 43, 42, 21, 4, 4, 96, 46, 42, 21, 4, 5, 96, 46, 45, 184, 1, 22, 54, 5, 44, 42]
def kc_31 : List UInt8 := [21, 4, 4, 96, 46, 42, 21, 4, 5, 96, 46, 182, 1, 24, 54, 6, 167, 2, 46, 43, 42, 21, 4, 4, 96, 46, 42, 21, 4, 5, 96, 46, 42, 21, 4, 6, 96, 46, 153, 0, 7, 4, 167, 0, 4, 3]
def kc_32 : List UInt8 := [45, 184, 1, 25, 54, 5, 44, 42, 21, 4, 4, 96, 46, 42, 21, 4, 5, 96, 46, 42, 21, 4, 6, 96, 46, 153, 0, 7, 4, 167, 0, 4, 3, 182, 1, 27, 54, 6, 167, 1, 234, 43, 42, 21, 4, 4, 96, 46]
def kc_33 : List UInt8 := [42, 21, 4, 5, 96, 46, 45, 184, 1, 28, 54, 5, 44, 42, 21, 4, 4, 96, 46, 42, 21, 4, 5, 96, 46, 182, 1, 30, 54, 6, 167, 1, 194, 43, 42, 21, 4, 4, 96, 46, 45, 184, 1, 31, 54, 5, 44]
def kc_34 : List UInt8 := [42, 21, 4, 4, 96, 46, 182, 1, 33, 54, 6, 167, 1, 166, 43, 42, 21, 4, 4, 96, 46, 45, 184, 1, 34, 54, 5, 44, 42, 21, 4, 4, 96, 46, 182, 1, 36, 54, 6, 167, 1, 138, 43, 42, 21, 4, 4, 96, 46]
def kc_35 : List UInt8 := [42, 21, 4, 5, 96, 46, 42, 21, 4, 6, 96, 46, 45, 184, 1, 37, 54, 5, 44, 42, 21, 4, 4, 96, 46, 42, 21, 4, 5, 96, 46, 42, 21, 4, 6, 96, 46, 182, 1, 39, 54, 6, 167, 1, 86]
def kc_36 : List UInt8 := [43, 42, 21, 4, 4, 96, 46, 42, 21, 4, 5, 96, 46, 45, 184, 1, 40, 54, 5, 44, 42, 21, 4, 4, 96, 46, 42, 21, 4, 5, 96, 46, 182, 1, 42, 54, 6, 167, 1, 46, 43, 42, 21, 4, 4]
def kc_37 : List UInt8 := [96, 46, 45, 184, 1, 43, 54, 5, 44, 42, 21, 4, 4, 96, 46, 182, 1, 45, 54, 6, 167, 1, 18, 43, 42, 21, 4, 4, 96, 46, 42, 21, 4, 5, 96, 46, 42, 21, 4, 6, 96, 46, 45, 184, 1, 46]
def kc_38 : List UInt8 := [54, 5, 44, 42, 21, 4, 4, 96, 46, 42, 21, 4, 5, 96, 46, 42, 21, 4, 6, 96, 46, 182, 1, 48, 54, 6, 167, 0, 222, 43, 42, 21, 4, 4, 96, 46, 45, 184, 1, 49, 54, 5, 44, 42, 21, 4]
def kc_39 : List UInt8 := [4, 96, 46, 182, 1, 51, 58, 6, 167, 0, 194, 43, 42, 21, 4, 4, 96, 46, 45, 184, 1, 52, 54, 5, 44, 42, 21, 4, 4, 96, 46, 182, 1, 54, 54, 6, 167, 0, 166, 43, 42, 21, 4, 4, 96, 46, 45, 184, 1, 55]
def kc_40 : List UInt8 := [54, 5, 44, 42, 21, 4, 4, 96, 46, 182, 1, 57, 54, 6, 167, 0, 138, 43, 42, 21, 4, 4, 96, 46, 45, 184, 1, 58, 54, 5, 44, 42, 21, 4, 4, 96, 46, 182, 1, 60, 54, 6, 167, 0, 110, 43, 42, 21, 4, 4]
def kc_41 : List UInt8 := [96, 46, 42, 21, 4, 5, 96, 46, 45, 184, 1, 61, 54, 5, 44, 42, 21, 4, 4, 96, 46, 42, 21, 4, 5, 96, 46, 182, 1, 63, 54, 6, 167, 0, 70, 43, 42, 21, 4, 4, 96, 46, 45, 184, 1, 64]
def kc_42 : List UInt8 := [54, 5, 44, 42, 21, 4, 4, 96, 46, 182, 1, 66, 54, 6, 167, 0, 42, 43, 182, 1, 67, 87, 44, 182, 1, 71, 87, 167, 0, 29, 43, 182, 1, 72, 44, 182, 1, 76, 159, 0, 18, 3, 172, 43, 182, 1, 77, 88, 44, 182, 1, 81, 88, 167, 0, 3, 132, 4, 4]
def kc_43 : List UInt8 := [167, 247, 113, 4, 172]
def tc_44 : List UInt8 := []
def tc_43 : List UInt8 := kc_43 ++ tc_44
def tc_42 : List UInt8 := kc_42 ++ tc_43
def tc_41 : List UInt8 := kc_41 ++ tc_42
def tc_40 : List UInt8 := kc_40 ++ tc_41
def tc_39 : List UInt8 := kc_39 ++ tc_40
def tc_38 : List UInt8 := kc_38 ++ tc_39
def tc_37 : List UInt8 := kc_37 ++ tc_38
def tc_36 : List UInt8 := kc_36 ++ tc_37
def tc_35 : List UInt8 := kc_35 ++ tc_36
def tc_34 : List UInt8 := kc_34 ++ tc_35
def tc_33 : List UInt8 := kc_33 ++ tc_34
def tc_32 : List UInt8 := kc_32 ++ tc_33
def tc_31 : List UInt8 := kc_31 ++ tc_32
def tc_30 : List UInt8 := kc_30 ++ tc_31
def tc_29 : List UInt8 := kc_29 ++ tc_30
def tc_28 : List UInt8 := kc_28 ++ tc_29
def tc_27 : List UInt8 := kc_27 ++ tc_28
def tc_26 : List UInt8 := kc_26 ++ tc_27
def tc_25 : List UInt8 := kc_25 ++ tc_26
def tc_24 : List UInt8 := kc_24 ++ tc_25
def tc_23 : List UInt8 := kc_23 ++ tc_24
def tc_22 : List UInt8 := kc_22 ++ tc_23
def tc_21 : List UInt8 := kc_21 ++ tc_22
def tc_20 : List UInt8 := kc_20 ++ tc_21
def tc_19 : List UInt8 := kc_19 ++ tc_20
def tc_18 : List UInt8 := kc_18 ++ tc_19
def tc_17 : List UInt8 := kc_17 ++ tc_18
def tc_16 : List UInt8 := kc_16 ++ tc_17
def tc_15 : List UInt8 := kc_15 ++ tc_16
def tc_14 : List UInt8 := kc_14 ++ tc_15
def tc_13 : List UInt8 := kc_13 ++ tc_14
def tc_12 : List UInt8 := kc_12 ++ tc_13
def tc_11 : List UInt8 := kc_11 ++ tc_12
def tc_10 : List UInt8 := kc_10 ++ tc_11
def tc_9 : List UInt8 := kc_9 ++ tc_10
def tc_8 : List UInt8 := kc_8 ++ tc_9
def tc_7 : List UInt8 := kc_7 ++ tc_8
def tc_6 : List UInt8 := kc_6 ++ tc_7
def tc_5 : List UInt8 := kc_5 ++ tc_6
def tc_4 : List UInt8 := kc_4 ++ tc_5
def tc_3 : List UInt8 := kc_3 ++ tc_4
def tc_2 : List UInt8 := kc_2 ++ tc_3
def tc_1 : List UInt8 := kc_1 ++ tc_2
def tc_0 : List UInt8 := kc_0 ++ tc_1
set_option maxRecDepth 100000 in
theorem tc_all : cL_law.data.toList = tc_0 := eqL_eq (by decide +kernel)
theorem ow_0 (r : Nat) : cL_law.data.toList.drop (0 + r) = tc_0.drop r := by rw [tc_all, Nat.zero_add]
theorem ow_1 (r : Nat) : cL_law.data.toList.drop (263 + r) = tc_1.drop r := by
  have e := ow_0 (263 + r)
  rw [show 0 + (263 + r) = 263 + r by omega] at e
  exact e.trans (dr_len (a := kc_0) (t := tc_1) (by decide +kernel))
theorem ow_2 (r : Nat) : cL_law.data.toList.drop (308 + r) = tc_2.drop r := by
  have e := ow_1 (45 + r)
  rw [show 263 + (45 + r) = 308 + r by omega] at e
  exact e.trans (dr_len (a := kc_1) (t := tc_2) (by decide +kernel))
theorem ow_3 (r : Nat) : cL_law.data.toList.drop (353 + r) = tc_3.drop r := by
  have e := ow_2 (45 + r)
  rw [show 308 + (45 + r) = 353 + r by omega] at e
  exact e.trans (dr_len (a := kc_2) (t := tc_3) (by decide +kernel))
theorem ow_4 (r : Nat) : cL_law.data.toList.drop (395 + r) = tc_4.drop r := by
  have e := ow_3 (42 + r)
  rw [show 353 + (42 + r) = 395 + r by omega] at e
  exact e.trans (dr_len (a := kc_3) (t := tc_4) (by decide +kernel))
theorem ow_5 (r : Nat) : cL_law.data.toList.drop (442 + r) = tc_5.drop r := by
  have e := ow_4 (47 + r)
  rw [show 395 + (47 + r) = 442 + r by omega] at e
  exact e.trans (dr_len (a := kc_4) (t := tc_5) (by decide +kernel))
theorem ow_6 (r : Nat) : cL_law.data.toList.drop (489 + r) = tc_6.drop r := by
  have e := ow_5 (47 + r)
  rw [show 442 + (47 + r) = 489 + r by omega] at e
  exact e.trans (dr_len (a := kc_5) (t := tc_6) (by decide +kernel))
theorem ow_7 (r : Nat) : cL_law.data.toList.drop (534 + r) = tc_7.drop r := by
  have e := ow_6 (45 + r)
  rw [show 489 + (45 + r) = 534 + r by omega] at e
  exact e.trans (dr_len (a := kc_6) (t := tc_7) (by decide +kernel))
theorem ow_8 (r : Nat) : cL_law.data.toList.drop (583 + r) = tc_8.drop r := by
  have e := ow_7 (49 + r)
  rw [show 534 + (49 + r) = 583 + r by omega] at e
  exact e.trans (dr_len (a := kc_7) (t := tc_8) (by decide +kernel))
theorem ow_9 (r : Nat) : cL_law.data.toList.drop (628 + r) = tc_9.drop r := by
  have e := ow_8 (45 + r)
  rw [show 583 + (45 + r) = 628 + r by omega] at e
  exact e.trans (dr_len (a := kc_8) (t := tc_9) (by decide +kernel))
theorem ow_10 (r : Nat) : cL_law.data.toList.drop (669 + r) = tc_10.drop r := by
  have e := ow_9 (41 + r)
  rw [show 628 + (41 + r) = 669 + r by omega] at e
  exact e.trans (dr_len (a := kc_9) (t := tc_10) (by decide +kernel))
theorem ow_11 (r : Nat) : cL_law.data.toList.drop (717 + r) = tc_11.drop r := by
  have e := ow_10 (48 + r)
  rw [show 669 + (48 + r) = 717 + r by omega] at e
  exact e.trans (dr_len (a := kc_10) (t := tc_11) (by decide +kernel))
theorem ow_12 (r : Nat) : cL_law.data.toList.drop (762 + r) = tc_12.drop r := by
  have e := ow_11 (45 + r)
  rw [show 717 + (45 + r) = 762 + r by omega] at e
  exact e.trans (dr_len (a := kc_11) (t := tc_12) (by decide +kernel))
theorem ow_13 (r : Nat) : cL_law.data.toList.drop (811 + r) = tc_13.drop r := by
  have e := ow_12 (49 + r)
  rw [show 762 + (49 + r) = 811 + r by omega] at e
  exact e.trans (dr_len (a := kc_12) (t := tc_13) (by decide +kernel))
theorem ow_14 (r : Nat) : cL_law.data.toList.drop (854 + r) = tc_14.drop r := by
  have e := ow_13 (43 + r)
  rw [show 811 + (43 + r) = 854 + r by omega] at e
  exact e.trans (dr_len (a := kc_13) (t := tc_14) (by decide +kernel))
theorem ow_15 (r : Nat) : cL_law.data.toList.drop (903 + r) = tc_15.drop r := by
  have e := ow_14 (49 + r)
  rw [show 854 + (49 + r) = 903 + r by omega] at e
  exact e.trans (dr_len (a := kc_14) (t := tc_15) (by decide +kernel))
theorem ow_16 (r : Nat) : cL_law.data.toList.drop (950 + r) = tc_16.drop r := by
  have e := ow_15 (47 + r)
  rw [show 903 + (47 + r) = 950 + r by omega] at e
  exact e.trans (dr_len (a := kc_15) (t := tc_16) (by decide +kernel))
theorem ow_17 (r : Nat) : cL_law.data.toList.drop (999 + r) = tc_17.drop r := by
  have e := ow_16 (49 + r)
  rw [show 950 + (49 + r) = 999 + r by omega] at e
  exact e.trans (dr_len (a := kc_16) (t := tc_17) (by decide +kernel))
theorem ow_18 (r : Nat) : cL_law.data.toList.drop (1044 + r) = tc_18.drop r := by
  have e := ow_17 (45 + r)
  rw [show 999 + (45 + r) = 1044 + r by omega] at e
  exact e.trans (dr_len (a := kc_17) (t := tc_18) (by decide +kernel))
theorem ow_19 (r : Nat) : cL_law.data.toList.drop (1091 + r) = tc_19.drop r := by
  have e := ow_18 (47 + r)
  rw [show 1044 + (47 + r) = 1091 + r by omega] at e
  exact e.trans (dr_len (a := kc_18) (t := tc_19) (by decide +kernel))
theorem ow_20 (r : Nat) : cL_law.data.toList.drop (1140 + r) = tc_20.drop r := by
  have e := ow_19 (49 + r)
  rw [show 1091 + (49 + r) = 1140 + r by omega] at e
  exact e.trans (dr_len (a := kc_19) (t := tc_20) (by decide +kernel))
theorem ow_21 (r : Nat) : cL_law.data.toList.drop (1181 + r) = tc_21.drop r := by
  have e := ow_20 (41 + r)
  rw [show 1140 + (41 + r) = 1181 + r by omega] at e
  exact e.trans (dr_len (a := kc_20) (t := tc_21) (by decide +kernel))
theorem ow_22 (r : Nat) : cL_law.data.toList.drop (1225 + r) = tc_22.drop r := by
  have e := ow_21 (44 + r)
  rw [show 1181 + (44 + r) = 1225 + r by omega] at e
  exact e.trans (dr_len (a := kc_21) (t := tc_22) (by decide +kernel))
theorem ow_23 (r : Nat) : cL_law.data.toList.drop (1270 + r) = tc_23.drop r := by
  have e := ow_22 (45 + r)
  rw [show 1225 + (45 + r) = 1270 + r by omega] at e
  exact e.trans (dr_len (a := kc_22) (t := tc_23) (by decide +kernel))
theorem ow_24 (r : Nat) : cL_law.data.toList.drop (1315 + r) = tc_24.drop r := by
  have e := ow_23 (45 + r)
  rw [show 1270 + (45 + r) = 1315 + r by omega] at e
  exact e.trans (dr_len (a := kc_23) (t := tc_24) (by decide +kernel))
theorem ow_25 (r : Nat) : cL_law.data.toList.drop (1364 + r) = tc_25.drop r := by
  have e := ow_24 (49 + r)
  rw [show 1315 + (49 + r) = 1364 + r by omega] at e
  exact e.trans (dr_len (a := kc_24) (t := tc_25) (by decide +kernel))
theorem ow_26 (r : Nat) : cL_law.data.toList.drop (1405 + r) = tc_26.drop r := by
  have e := ow_25 (41 + r)
  rw [show 1364 + (41 + r) = 1405 + r by omega] at e
  exact e.trans (dr_len (a := kc_25) (t := tc_26) (by decide +kernel))
theorem ow_27 (r : Nat) : cL_law.data.toList.drop (1454 + r) = tc_27.drop r := by
  have e := ow_26 (49 + r)
  rw [show 1405 + (49 + r) = 1454 + r by omega] at e
  exact e.trans (dr_len (a := kc_26) (t := tc_27) (by decide +kernel))
theorem ow_28 (r : Nat) : cL_law.data.toList.drop (1501 + r) = tc_28.drop r := by
  have e := ow_27 (47 + r)
  rw [show 1454 + (47 + r) = 1501 + r by omega] at e
  exact e.trans (dr_len (a := kc_27) (t := tc_28) (by decide +kernel))
theorem ow_29 (r : Nat) : cL_law.data.toList.drop (1550 + r) = tc_29.drop r := by
  have e := ow_28 (49 + r)
  rw [show 1501 + (49 + r) = 1550 + r by omega] at e
  exact e.trans (dr_len (a := kc_28) (t := tc_29) (by decide +kernel))
theorem ow_30 (r : Nat) : cL_law.data.toList.drop (1594 + r) = tc_30.drop r := by
  have e := ow_29 (44 + r)
  rw [show 1550 + (44 + r) = 1594 + r by omega] at e
  exact e.trans (dr_len (a := kc_29) (t := tc_30) (by decide +kernel))
theorem ow_31 (r : Nat) : cL_law.data.toList.drop (1641 + r) = tc_31.drop r := by
  have e := ow_30 (47 + r)
  rw [show 1594 + (47 + r) = 1641 + r by omega] at e
  exact e.trans (dr_len (a := kc_30) (t := tc_31) (by decide +kernel))
theorem ow_32 (r : Nat) : cL_law.data.toList.drop (1687 + r) = tc_32.drop r := by
  have e := ow_31 (46 + r)
  rw [show 1641 + (46 + r) = 1687 + r by omega] at e
  exact e.trans (dr_len (a := kc_31) (t := tc_32) (by decide +kernel))
theorem ow_33 (r : Nat) : cL_law.data.toList.drop (1735 + r) = tc_33.drop r := by
  have e := ow_32 (48 + r)
  rw [show 1687 + (48 + r) = 1735 + r by omega] at e
  exact e.trans (dr_len (a := kc_32) (t := tc_33) (by decide +kernel))
theorem ow_34 (r : Nat) : cL_law.data.toList.drop (1782 + r) = tc_34.drop r := by
  have e := ow_33 (47 + r)
  rw [show 1735 + (47 + r) = 1782 + r by omega] at e
  exact e.trans (dr_len (a := kc_33) (t := tc_34) (by decide +kernel))
theorem ow_35 (r : Nat) : cL_law.data.toList.drop (1831 + r) = tc_35.drop r := by
  have e := ow_34 (49 + r)
  rw [show 1782 + (49 + r) = 1831 + r by omega] at e
  exact e.trans (dr_len (a := kc_34) (t := tc_35) (by decide +kernel))
theorem ow_36 (r : Nat) : cL_law.data.toList.drop (1876 + r) = tc_36.drop r := by
  have e := ow_35 (45 + r)
  rw [show 1831 + (45 + r) = 1876 + r by omega] at e
  exact e.trans (dr_len (a := kc_35) (t := tc_36) (by decide +kernel))
theorem ow_37 (r : Nat) : cL_law.data.toList.drop (1921 + r) = tc_37.drop r := by
  have e := ow_36 (45 + r)
  rw [show 1876 + (45 + r) = 1921 + r by omega] at e
  exact e.trans (dr_len (a := kc_36) (t := tc_37) (by decide +kernel))
theorem ow_38 (r : Nat) : cL_law.data.toList.drop (1967 + r) = tc_38.drop r := by
  have e := ow_37 (46 + r)
  rw [show 1921 + (46 + r) = 1967 + r by omega] at e
  exact e.trans (dr_len (a := kc_37) (t := tc_38) (by decide +kernel))
theorem ow_39 (r : Nat) : cL_law.data.toList.drop (2013 + r) = tc_39.drop r := by
  have e := ow_38 (46 + r)
  rw [show 1967 + (46 + r) = 2013 + r by omega] at e
  exact e.trans (dr_len (a := kc_38) (t := tc_39) (by decide +kernel))
theorem ow_40 (r : Nat) : cL_law.data.toList.drop (2063 + r) = tc_40.drop r := by
  have e := ow_39 (50 + r)
  rw [show 2013 + (50 + r) = 2063 + r by omega] at e
  exact e.trans (dr_len (a := kc_39) (t := tc_40) (by decide +kernel))
theorem ow_41 (r : Nat) : cL_law.data.toList.drop (2113 + r) = tc_41.drop r := by
  have e := ow_40 (50 + r)
  rw [show 2063 + (50 + r) = 2113 + r by omega] at e
  exact e.trans (dr_len (a := kc_40) (t := tc_41) (by decide +kernel))
theorem ow_42 (r : Nat) : cL_law.data.toList.drop (2159 + r) = tc_42.drop r := by
  have e := ow_41 (46 + r)
  rw [show 2113 + (46 + r) = 2159 + r by omega] at e
  exact e.trans (dr_len (a := kc_41) (t := tc_42) (by decide +kernel))
theorem ow_43 (r : Nat) : cL_law.data.toList.drop (2218 + r) = tc_43.drop r := by
  have e := ow_42 (59 + r)
  rw [show 2159 + (59 + r) = 2218 + r by omega] at e
  exact e.trans (dr_len (a := kc_42) (t := tc_43) (by decide +kernel))
theorem oo_0 (r : Nat) {pc : Nat} {l : List UInt8} (hp : 0 + r = pc) (h : tc_0.drop r = l) : cL_law.data.toList.drop pc = l := by
  subst hp
  exact (ow_0 r).trans h
theorem oo_1 (r : Nat) {pc : Nat} {l : List UInt8} (hp : 263 + r = pc) (h : tc_1.drop r = l) : cL_law.data.toList.drop pc = l := by
  subst hp
  exact (ow_1 r).trans h
theorem oo_2 (r : Nat) {pc : Nat} {l : List UInt8} (hp : 308 + r = pc) (h : tc_2.drop r = l) : cL_law.data.toList.drop pc = l := by
  subst hp
  exact (ow_2 r).trans h
theorem oo_3 (r : Nat) {pc : Nat} {l : List UInt8} (hp : 353 + r = pc) (h : tc_3.drop r = l) : cL_law.data.toList.drop pc = l := by
  subst hp
  exact (ow_3 r).trans h
theorem oo_4 (r : Nat) {pc : Nat} {l : List UInt8} (hp : 395 + r = pc) (h : tc_4.drop r = l) : cL_law.data.toList.drop pc = l := by
  subst hp
  exact (ow_4 r).trans h
theorem oo_5 (r : Nat) {pc : Nat} {l : List UInt8} (hp : 442 + r = pc) (h : tc_5.drop r = l) : cL_law.data.toList.drop pc = l := by
  subst hp
  exact (ow_5 r).trans h
theorem oo_6 (r : Nat) {pc : Nat} {l : List UInt8} (hp : 489 + r = pc) (h : tc_6.drop r = l) : cL_law.data.toList.drop pc = l := by
  subst hp
  exact (ow_6 r).trans h
theorem oo_7 (r : Nat) {pc : Nat} {l : List UInt8} (hp : 534 + r = pc) (h : tc_7.drop r = l) : cL_law.data.toList.drop pc = l := by
  subst hp
  exact (ow_7 r).trans h
theorem oo_8 (r : Nat) {pc : Nat} {l : List UInt8} (hp : 583 + r = pc) (h : tc_8.drop r = l) : cL_law.data.toList.drop pc = l := by
  subst hp
  exact (ow_8 r).trans h
theorem oo_9 (r : Nat) {pc : Nat} {l : List UInt8} (hp : 628 + r = pc) (h : tc_9.drop r = l) : cL_law.data.toList.drop pc = l := by
  subst hp
  exact (ow_9 r).trans h
theorem oo_10 (r : Nat) {pc : Nat} {l : List UInt8} (hp : 669 + r = pc) (h : tc_10.drop r = l) : cL_law.data.toList.drop pc = l := by
  subst hp
  exact (ow_10 r).trans h
theorem oo_11 (r : Nat) {pc : Nat} {l : List UInt8} (hp : 717 + r = pc) (h : tc_11.drop r = l) : cL_law.data.toList.drop pc = l := by
  subst hp
  exact (ow_11 r).trans h
theorem oo_12 (r : Nat) {pc : Nat} {l : List UInt8} (hp : 762 + r = pc) (h : tc_12.drop r = l) : cL_law.data.toList.drop pc = l := by
  subst hp
  exact (ow_12 r).trans h
theorem oo_13 (r : Nat) {pc : Nat} {l : List UInt8} (hp : 811 + r = pc) (h : tc_13.drop r = l) : cL_law.data.toList.drop pc = l := by
  subst hp
  exact (ow_13 r).trans h
theorem oo_14 (r : Nat) {pc : Nat} {l : List UInt8} (hp : 854 + r = pc) (h : tc_14.drop r = l) : cL_law.data.toList.drop pc = l := by
  subst hp
  exact (ow_14 r).trans h
theorem oo_15 (r : Nat) {pc : Nat} {l : List UInt8} (hp : 903 + r = pc) (h : tc_15.drop r = l) : cL_law.data.toList.drop pc = l := by
  subst hp
  exact (ow_15 r).trans h
theorem oo_16 (r : Nat) {pc : Nat} {l : List UInt8} (hp : 950 + r = pc) (h : tc_16.drop r = l) : cL_law.data.toList.drop pc = l := by
  subst hp
  exact (ow_16 r).trans h
theorem oo_17 (r : Nat) {pc : Nat} {l : List UInt8} (hp : 999 + r = pc) (h : tc_17.drop r = l) : cL_law.data.toList.drop pc = l := by
  subst hp
  exact (ow_17 r).trans h
theorem oo_18 (r : Nat) {pc : Nat} {l : List UInt8} (hp : 1044 + r = pc) (h : tc_18.drop r = l) : cL_law.data.toList.drop pc = l := by
  subst hp
  exact (ow_18 r).trans h
theorem oo_19 (r : Nat) {pc : Nat} {l : List UInt8} (hp : 1091 + r = pc) (h : tc_19.drop r = l) : cL_law.data.toList.drop pc = l := by
  subst hp
  exact (ow_19 r).trans h
theorem oo_20 (r : Nat) {pc : Nat} {l : List UInt8} (hp : 1140 + r = pc) (h : tc_20.drop r = l) : cL_law.data.toList.drop pc = l := by
  subst hp
  exact (ow_20 r).trans h
theorem oo_21 (r : Nat) {pc : Nat} {l : List UInt8} (hp : 1181 + r = pc) (h : tc_21.drop r = l) : cL_law.data.toList.drop pc = l := by
  subst hp
  exact (ow_21 r).trans h
theorem oo_22 (r : Nat) {pc : Nat} {l : List UInt8} (hp : 1225 + r = pc) (h : tc_22.drop r = l) : cL_law.data.toList.drop pc = l := by
  subst hp
  exact (ow_22 r).trans h
theorem oo_23 (r : Nat) {pc : Nat} {l : List UInt8} (hp : 1270 + r = pc) (h : tc_23.drop r = l) : cL_law.data.toList.drop pc = l := by
  subst hp
  exact (ow_23 r).trans h
theorem oo_24 (r : Nat) {pc : Nat} {l : List UInt8} (hp : 1315 + r = pc) (h : tc_24.drop r = l) : cL_law.data.toList.drop pc = l := by
  subst hp
  exact (ow_24 r).trans h
theorem oo_25 (r : Nat) {pc : Nat} {l : List UInt8} (hp : 1364 + r = pc) (h : tc_25.drop r = l) : cL_law.data.toList.drop pc = l := by
  subst hp
  exact (ow_25 r).trans h
theorem oo_26 (r : Nat) {pc : Nat} {l : List UInt8} (hp : 1405 + r = pc) (h : tc_26.drop r = l) : cL_law.data.toList.drop pc = l := by
  subst hp
  exact (ow_26 r).trans h
theorem oo_27 (r : Nat) {pc : Nat} {l : List UInt8} (hp : 1454 + r = pc) (h : tc_27.drop r = l) : cL_law.data.toList.drop pc = l := by
  subst hp
  exact (ow_27 r).trans h
theorem oo_28 (r : Nat) {pc : Nat} {l : List UInt8} (hp : 1501 + r = pc) (h : tc_28.drop r = l) : cL_law.data.toList.drop pc = l := by
  subst hp
  exact (ow_28 r).trans h
theorem oo_29 (r : Nat) {pc : Nat} {l : List UInt8} (hp : 1550 + r = pc) (h : tc_29.drop r = l) : cL_law.data.toList.drop pc = l := by
  subst hp
  exact (ow_29 r).trans h
theorem oo_30 (r : Nat) {pc : Nat} {l : List UInt8} (hp : 1594 + r = pc) (h : tc_30.drop r = l) : cL_law.data.toList.drop pc = l := by
  subst hp
  exact (ow_30 r).trans h
theorem oo_31 (r : Nat) {pc : Nat} {l : List UInt8} (hp : 1641 + r = pc) (h : tc_31.drop r = l) : cL_law.data.toList.drop pc = l := by
  subst hp
  exact (ow_31 r).trans h
theorem oo_32 (r : Nat) {pc : Nat} {l : List UInt8} (hp : 1687 + r = pc) (h : tc_32.drop r = l) : cL_law.data.toList.drop pc = l := by
  subst hp
  exact (ow_32 r).trans h
theorem oo_33 (r : Nat) {pc : Nat} {l : List UInt8} (hp : 1735 + r = pc) (h : tc_33.drop r = l) : cL_law.data.toList.drop pc = l := by
  subst hp
  exact (ow_33 r).trans h
theorem oo_34 (r : Nat) {pc : Nat} {l : List UInt8} (hp : 1782 + r = pc) (h : tc_34.drop r = l) : cL_law.data.toList.drop pc = l := by
  subst hp
  exact (ow_34 r).trans h
theorem oo_35 (r : Nat) {pc : Nat} {l : List UInt8} (hp : 1831 + r = pc) (h : tc_35.drop r = l) : cL_law.data.toList.drop pc = l := by
  subst hp
  exact (ow_35 r).trans h
theorem oo_36 (r : Nat) {pc : Nat} {l : List UInt8} (hp : 1876 + r = pc) (h : tc_36.drop r = l) : cL_law.data.toList.drop pc = l := by
  subst hp
  exact (ow_36 r).trans h
theorem oo_37 (r : Nat) {pc : Nat} {l : List UInt8} (hp : 1921 + r = pc) (h : tc_37.drop r = l) : cL_law.data.toList.drop pc = l := by
  subst hp
  exact (ow_37 r).trans h
theorem oo_38 (r : Nat) {pc : Nat} {l : List UInt8} (hp : 1967 + r = pc) (h : tc_38.drop r = l) : cL_law.data.toList.drop pc = l := by
  subst hp
  exact (ow_38 r).trans h
theorem oo_39 (r : Nat) {pc : Nat} {l : List UInt8} (hp : 2013 + r = pc) (h : tc_39.drop r = l) : cL_law.data.toList.drop pc = l := by
  subst hp
  exact (ow_39 r).trans h
theorem oo_40 (r : Nat) {pc : Nat} {l : List UInt8} (hp : 2063 + r = pc) (h : tc_40.drop r = l) : cL_law.data.toList.drop pc = l := by
  subst hp
  exact (ow_40 r).trans h
theorem oo_41 (r : Nat) {pc : Nat} {l : List UInt8} (hp : 2113 + r = pc) (h : tc_41.drop r = l) : cL_law.data.toList.drop pc = l := by
  subst hp
  exact (ow_41 r).trans h
theorem oo_42 (r : Nat) {pc : Nat} {l : List UInt8} (hp : 2159 + r = pc) (h : tc_42.drop r = l) : cL_law.data.toList.drop pc = l := by
  subst hp
  exact (ow_42 r).trans h
theorem oo_43 (r : Nat) {pc : Nat} {l : List UInt8} (hp : 2218 + r = pc) (h : tc_43.drop r = l) : cL_law.data.toList.drop pc = l := by
  subst hp
  exact (ow_43 r).trans h
