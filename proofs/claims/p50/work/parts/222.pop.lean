/-! how many bits: Integer.bitCount as the JDK counts is how many places are in a set -/
theorem nx_and (a b : Nat) : nI a &&& nI b = nI (a &&& b) := by
  apply Int32.toBitVec_inj.1
  show BitVec.ofNat 32 a &&& BitVec.ofNat 32 b = BitVec.ofNat 32 (a &&& b)
  apply BitVec.eq_of_getLsbD_eq
  intro i hi
  simp [hi]
theorem nx_cnt : ∀ j : Fin 32, (UInt32.ofNat j.val &&& Int32.toUInt32 31).toNat % 32 = j.val := by decide +kernel
theorem nx_ushB {k j : Nat} (hk : k < 2147483648) (hj : j < 32) : ((nI k).toUInt32 >>> ((nI j).toUInt32 &&& Int32.toUInt32 31)).toInt32 = nI (k >>> j) := by
  have hs : k >>> j ≤ k := by
    rw [Nat.shiftRight_eq_div_pow]
    exact Nat.div_le_self _ _
  have e2 : UInt32.ofNat k >>> (UInt32.ofNat j &&& Int32.toUInt32 31) = UInt32.ofNat (k >>> j) := by
    apply UInt32.toNat_inj.1
    have h1 : (UInt32.ofNat k).toNat = k := Nat.mod_eq_of_lt (show k < 2 ^ 32 by omega)
    have h2 : (UInt32.ofNat (k >>> j)).toNat = k >>> j := Nat.mod_eq_of_lt (show k >>> j < 2 ^ 32 by omega)
    rw [UInt32.toNat_shiftRight, nx_cnt ⟨j, hj⟩, h1, h2]
  show (UInt32.ofNat k >>> (UInt32.ofNat j &&& Int32.toUInt32 31)).toInt32 = _
  rw [e2]
  rfl
theorem bAnd_n {a b : Nat} (ha : a < 2147483648) : bAnd (a : Int) (b : Int) = ((a &&& b : Nat) : Int) := by
  have h : a &&& b ≤ a := Nat.and_le_left
  unfold bAnd
  rw [zI_nat, zI_nat, nx_and, nI_toInt (by omega)]
theorem bUshr_n {a j : Nat} (ha : a < 2147483648) (hj : j < 32) : bUshr (a : Int) (j : Int) = ((a / 2 ^ j : Nat) : Int) := by
  have h : a / 2 ^ j ≤ a := Nat.div_le_self _ _
  unfold bUshr
  rw [zI_nat, zI_nat, nx_ushB ha hj, Nat.shiftRight_eq_div_pow, nI_toInt (by omega)]
def s1B (z : Nat) : Nat := z - ((z / 2) &&& 85)
def s2B (a : Nat) : Nat := (a &&& 51) + ((a / 4) &&& 51)
def pcB (z : Nat) : Nat := (s2B (s1B z) + s2B (s1B z) / 16) % 16
set_option maxRecDepth 100000 in
theorem pcB_d : ∀ z : Fin 256, ((z.val / 2) &&& 85) ≤ z.val ∧ s1B z.val < 256 ∧ s2B (s1B z.val) ≤ 68 ∧ s2B (s1B z.val) % 16 ≤ 4 ∧ pcB z.val ≤ 8 := by decide +kernel
theorem pcB_f {z : Nat} (h : z < 256) : ((z / 2) &&& 85) ≤ z ∧ s1B z < 256 ∧ s2B (s1B z) ≤ 68 ∧ s2B (s1B z) % 16 ≤ 4 ∧ pcB z ≤ 8 := pcB_d ⟨z, h⟩
theorem and_sp {y m z u : Nat} (hz : z < 256) (hu : u < 256) : (256 * y + z) &&& (256 * m + u) = 256 * (y &&& m) + (z &&& u) := by
  have h1 := Nat.and_div_two_pow (a := 256 * y + z) (b := 256 * m + u) (n := 8)
  have h2 := Nat.and_mod_two_pow (a := 256 * y + z) (b := 256 * m + u) (n := 8)
  rw [show (2 : Nat) ^ 8 = 256 from rfl] at h1 h2
  rw [show (256 * y + z) / 256 = y by omega, show (256 * m + u) / 256 = m by omega] at h1
  rw [show (256 * y + z) % 256 = z by omega, show (256 * m + u) % 256 = u by omega] at h2
  generalize (256 * y + z) &&& (256 * m + u) = X at h1 h2 ⊢
  generalize y &&& m = Y at h1 ⊢
  generalize z &&& u = Z at h2 ⊢
  omega
set_option maxRecDepth 100000 in
theorem m85 : ∀ b : Fin 2, ∀ w : Fin 128, (128 * b.val + w.val) &&& 85 = w.val &&& 85 := by decide +kernel
set_option maxRecDepth 100000 in
theorem m51 : ∀ b : Fin 4, ∀ w : Fin 64, (64 * b.val + w.val) &&& 51 = w.val &&& 51 := by decide +kernel
theorem sh1 {y z m : Nat} (hz : z < 256) : ((256 * y + z) / 2) &&& (256 * m + 85) = 256 * ((y / 2) &&& m) + ((z / 2) &&& 85) := by
  rw [show (256 * y + z) / 2 = 256 * (y / 2) + (128 * (y % 2) + z / 2) by omega, and_sp (by omega) (by decide)]
  rw [m85 ⟨y % 2, by omega⟩ ⟨z / 2, by omega⟩]
theorem sh2 {y z m : Nat} (hz : z < 256) : ((256 * y + z) / 4) &&& (256 * m + 51) = 256 * ((y / 4) &&& m) + ((z / 4) &&& 51) := by
  rw [show (256 * y + z) / 4 = 256 * (y / 4) + (64 * (y % 4) + z / 4) by omega, and_sp (by omega) (by decide)]
  rw [m51 ⟨y % 4, by omega⟩ ⟨z / 4, by omega⟩]
def W4 (a b c d : Nat) : Nat := 256 * (256 * (256 * d + c) + b) + a
def pcN (x : Nat) : Nat := pcB (x % 256) + pcB (x / 256 % 256) + pcB (x / 65536 % 256) + pcB (x / 16777216 % 256)
/-- the three steps, byte by byte -/
theorem st1_n {z0 z1 z2 z3 : Nat} (h0 : z0 < 256) (h1 : z1 < 256) (h2 : z2 < 256) (h3 : z3 < 256) : W4 z0 z1 z2 z3 - ((W4 z0 z1 z2 z3 / 2) &&& 1431655765) = W4 (s1B z0) (s1B z1) (s1B z2) (s1B z3) := by
  have e : (W4 z0 z1 z2 z3 / 2) &&& 1431655765 = W4 ((z0 / 2) &&& 85) ((z1 / 2) &&& 85) ((z2 / 2) &&& 85) ((z3 / 2) &&& 85) := by
    unfold W4
    rw [show (1431655765 : Nat) = 256 * (256 * (256 * 85 + 85) + 85) + 85 from rfl, sh1 h0, sh1 h1, sh1 h2]
  rw [e]
  have f0 := (pcB_f h0).1
  have f1 := (pcB_f h1).1
  have f2 := (pcB_f h2).1
  have f3 := (pcB_f h3).1
  unfold W4 s1B
  generalize (z0 / 2) &&& 85 = u0 at f0 ⊢
  generalize (z1 / 2) &&& 85 = u1 at f1 ⊢
  generalize (z2 / 2) &&& 85 = u2 at f2 ⊢
  generalize (z3 / 2) &&& 85 = u3 at f3 ⊢
  omega
theorem st2_n {z0 z1 z2 z3 : Nat} (h0 : z0 < 256) (h1 : z1 < 256) (h2 : z2 < 256) (h3 : z3 < 256) : (W4 z0 z1 z2 z3 &&& 858993459) + ((W4 z0 z1 z2 z3 / 4) &&& 858993459) = W4 (s2B z0) (s2B z1) (s2B z2) (s2B z3) := by
  have e1 : W4 z0 z1 z2 z3 &&& 858993459 = W4 (z0 &&& 51) (z1 &&& 51) (z2 &&& 51) (z3 &&& 51) := by
    unfold W4
    rw [show (858993459 : Nat) = 256 * (256 * (256 * 51 + 51) + 51) + 51 from rfl, and_sp h0 (by decide), and_sp h1 (by decide), and_sp h2 (by decide)]
  have e2 : (W4 z0 z1 z2 z3 / 4) &&& 858993459 = W4 ((z0 / 4) &&& 51) ((z1 / 4) &&& 51) ((z2 / 4) &&& 51) ((z3 / 4) &&& 51) := by
    unfold W4
    rw [show (858993459 : Nat) = 256 * (256 * (256 * 51 + 51) + 51) + 51 from rfl, sh2 h0, sh2 h1, sh2 h2]
  rw [e1, e2]
  unfold W4 s2B
  generalize z0 &&& 51 = u0
  generalize z1 &&& 51 = u1
  generalize z2 &&& 51 = u2
  generalize z3 &&& 51 = u3
  generalize (z0 / 4) &&& 51 = v0
  generalize (z1 / 4) &&& 51 = v1
  generalize (z2 / 4) &&& 51 = v2
  generalize (z3 / 4) &&& 51 = v3
  omega
theorem and15 (x : Nat) : x &&& 15 = x % 16 := Nat.and_two_pow_sub_one_eq_mod x 4
theorem st3_n {b0 b1 b2 b3 : Nat} (h0 : b0 ≤ 68) (h1 : b1 ≤ 68) (h2 : b2 ≤ 68) (h3 : b3 ≤ 68) (g1 : b1 % 16 ≤ 4) (g2 : b2 % 16 ≤ 4) (g3 : b3 % 16 ≤ 4) : (W4 b0 b1 b2 b3 + W4 b0 b1 b2 b3 / 16) &&& 252645135 = W4 ((b0 + b0 / 16) % 16) ((b1 + b1 / 16) % 16) ((b2 + b2 / 16) % 16) ((b3 + b3 / 16) % 16) := by
  have e : W4 b0 b1 b2 b3 + W4 b0 b1 b2 b3 / 16 = W4 (b0 + b0 / 16 + 16 * (b1 % 16)) (b1 + b1 / 16 + 16 * (b2 % 16)) (b2 + b2 / 16 + 16 * (b3 % 16)) (b3 + b3 / 16) := by
    unfold W4
    omega
  rw [e]
  unfold W4
  rw [show (252645135 : Nat) = 256 * (256 * (256 * 15 + 15) + 15) + 15 from rfl, and_sp (by omega) (by decide), and_sp (by omega) (by decide), and_sp (by omega) (by decide), and15, and15, and15, and15]
  omega
theorem bcn_n {x : Nat} (hx : x < 1073741824) : bcn (x : Int) = (pcN x : Int) := by
  obtain ⟨z0, z1, z2, z3, h0, h1, h2, h3, e⟩ : ∃ z0 z1 z2 z3, z0 < 256 ∧ z1 < 256 ∧ z2 < 256 ∧ z3 < 64 ∧ x = W4 z0 z1 z2 z3 := ⟨x % 256, x / 256 % 256, x / 65536 % 256, x / 16777216, by omega, by omega, by omega, by omega, by unfold W4; omega⟩
  have hp : pcN x = pcB z0 + pcB z1 + pcB z2 + pcB z3 := by
    unfold pcN
    rw [show x % 256 = z0 by rw [e]; unfold W4; omega, show x / 256 % 256 = z1 by rw [e]; unfold W4; omega, show x / 65536 % 256 = z2 by rw [e]; unfold W4; omega, show x / 16777216 % 256 = z3 by rw [e]; unfold W4; omega]
  obtain ⟨-, a0, b0, c0, d0⟩ := pcB_f h0
  obtain ⟨-, a1, b1, c1, d1⟩ := pcB_f h1
  obtain ⟨-, a2, b2, c2, d2⟩ := pcB_f h2
  obtain ⟨l3, a3, b3, c3, d3⟩ := pcB_f (show z3 < 256 by omega)
  have a3' : s1B z3 < 64 := by unfold s1B; omega
  have t1 := st1_n h0 h1 h2 (show z3 < 256 by omega)
  have t2 := st2_n a0 a1 a2 a3
  have t3 := st3_n b0 b1 b2 b3 c1 c2 c3
  have hle : (x / 2) &&& 1431655765 ≤ x := Nat.le_trans Nat.and_le_left (Nat.div_le_self _ _)
  rw [← e] at t1
  have i1 : (x : Int) - bAnd (bUshr (x : Int) 1) 1431655765 = ((W4 (s1B z0) (s1B z1) (s1B z2) (s1B z3) : Nat) : Int) := by
    have f1 := bUshr_n (a := x) (j := 1) (by omega) (by omega)
    have f2 := bAnd_n (a := x / 2 ^ 1) (b := 1431655765) (by have := Nat.div_le_self x (2 ^ 1); omega)
    rw [show ((1 : Nat) : Int) = 1 from rfl] at f1
    rw [show ((1431655765 : Nat) : Int) = 1431655765 from rfl] at f2
    rw [f1, f2, ← t1, show (2 : Nat) ^ 1 = 2 from rfl]
    omega
  have w1 : W4 (s1B z0) (s1B z1) (s1B z2) (s1B z3) < 2147483648 := by unfold W4; omega
  generalize W4 (s1B z0) (s1B z1) (s1B z2) (s1B z3) = A at t1 t2 i1 w1
  have i2 : bAnd (A : Int) 858993459 + bAnd (bUshr (A : Int) 2) 858993459 = ((W4 (s2B (s1B z0)) (s2B (s1B z1)) (s2B (s1B z2)) (s2B (s1B z3)) : Nat) : Int) := by
    have f1 := bUshr_n (a := A) (j := 2) (by omega) (by omega)
    have f2 := bAnd_n (a := A / 2 ^ 2) (b := 858993459) (by have := Nat.div_le_self A (2 ^ 2); omega)
    have f3 := bAnd_n (a := A) (b := 858993459) w1
    rw [show ((2 : Nat) : Int) = 2 from rfl] at f1
    rw [show ((858993459 : Nat) : Int) = 858993459 from rfl] at f2 f3
    rw [f1, f2, f3, ← t2, show (2 : Nat) ^ 2 = 4 from rfl]
    omega
  have w2 : W4 (s2B (s1B z0)) (s2B (s1B z1)) (s2B (s1B z2)) (s2B (s1B z3)) ≤ 1145324612 := by unfold W4; omega
  generalize W4 (s2B (s1B z0)) (s2B (s1B z1)) (s2B (s1B z2)) (s2B (s1B z3)) = B at t2 t3 i2 w2
  have i3 : bAnd ((B : Int) + bUshr (B : Int) 4) 252645135 = ((W4 (pcB z0) (pcB z1) (pcB z2) (pcB z3) : Nat) : Int) := by
    have f1 := bUshr_n (a := B) (j := 4) (by omega) (by omega)
    have f2 := bAnd_n (a := B + B / 2 ^ 4) (b := 252645135) (by rw [show (2 : Nat) ^ 4 = 16 from rfl]; omega)
    rw [show ((4 : Nat) : Int) = 4 from rfl] at f1
    rw [show ((252645135 : Nat) : Int) = 252645135 from rfl] at f2
    rw [f1, show (B : Int) + ((B / 2 ^ 4 : Nat) : Int) = ((B + B / 2 ^ 4 : Nat) : Int) by omega, f2, show (2 : Nat) ^ 4 = 16 from rfl, t3]
    rfl
  have w3 : W4 (pcB z0) (pcB z1) (pcB z2) (pcB z3) ≤ 134744072 := by unfold W4; omega
  have w4 : ∃ C, C = W4 (pcB z0) (pcB z1) (pcB z2) (pcB z3) := ⟨_, rfl⟩
  obtain ⟨C, hC⟩ := w4
  rw [← hC] at i3 w3
  have f4 := bUshr_n (a := C) (j := 8) (by omega) (by omega)
  have f5 := bUshr_n (a := C + C / 2 ^ 8) (j := 16) (by rw [show (2 : Nat) ^ 8 = 256 from rfl]; omega) (by omega)
  have f6 := bAnd_n (a := C + C / 2 ^ 8 + (C + C / 2 ^ 8) / 2 ^ 16) (b := 63) (by rw [show (2 : Nat) ^ 8 = 256 from rfl, show (2 : Nat) ^ 16 = 65536 from rfl]; omega)
  rw [show ((8 : Nat) : Int) = 8 from rfl] at f4
  rw [show ((16 : Nat) : Int) = 16 from rfl] at f5
  rw [show ((63 : Nat) : Int) = 63 from rfl] at f6
  have a63 : ∀ y : Nat, y &&& 63 = y % 64 := fun y => Nat.and_two_pow_sub_one_eq_mod y 6
  show bAnd (bAnd ((bAnd ((x : Int) - bAnd (bUshr (x : Int) 1) 1431655765) 858993459 + bAnd (bUshr ((x : Int) - bAnd (bUshr (x : Int) 1) 1431655765) 2) 858993459) + bUshr (bAnd ((x : Int) - bAnd (bUshr (x : Int) 1) 1431655765) 858993459 + bAnd (bUshr ((x : Int) - bAnd (bUshr (x : Int) 1) 1431655765) 2) 858993459) 4) 252645135 + bUshr (bAnd ((bAnd ((x : Int) - bAnd (bUshr (x : Int) 1) 1431655765) 858993459 + bAnd (bUshr ((x : Int) - bAnd (bUshr (x : Int) 1) 1431655765) 2) 858993459) + bUshr (bAnd ((x : Int) - bAnd (bUshr (x : Int) 1) 1431655765) 858993459 + bAnd (bUshr ((x : Int) - bAnd (bUshr (x : Int) 1) 1431655765) 2) 858993459) 4) 252645135) 8 + bUshr (bAnd ((bAnd ((x : Int) - bAnd (bUshr (x : Int) 1) 1431655765) 858993459 + bAnd (bUshr ((x : Int) - bAnd (bUshr (x : Int) 1) 1431655765) 2) 858993459) + bUshr (bAnd ((x : Int) - bAnd (bUshr (x : Int) 1) 1431655765) 858993459 + bAnd (bUshr ((x : Int) - bAnd (bUshr (x : Int) 1) 1431655765) 2) 858993459) 4) 252645135 + bUshr (bAnd ((bAnd ((x : Int) - bAnd (bUshr (x : Int) 1) 1431655765) 858993459 + bAnd (bUshr ((x : Int) - bAnd (bUshr (x : Int) 1) 1431655765) 2) 858993459) + bUshr (bAnd ((x : Int) - bAnd (bUshr (x : Int) 1) 1431655765) 858993459 + bAnd (bUshr ((x : Int) - bAnd (bUshr (x : Int) 1) 1431655765) 2) 858993459) 4) 252645135) 8) 16) 63 = _
  rw [i1, i2, i3, f4, show (C : Int) + ((C / 2 ^ 8 : Nat) : Int) = ((C + C / 2 ^ 8 : Nat) : Int) by omega, f5, show ((C + C / 2 ^ 8 : Nat) : Int) + (((C + C / 2 ^ 8) / 2 ^ 16 : Nat) : Int) = ((C + C / 2 ^ 8 + (C + C / 2 ^ 8) / 2 ^ 16 : Nat) : Int) by omega, f6, a63, hp, show (2 : Nat) ^ 8 = 256 from rfl, show (2 : Nat) ^ 16 = 65536 from rfl]
  unfold W4 at hC
  have k1 : C / 256 = pcB z1 + 256 * pcB z2 + 65536 * pcB z3 := by omega
  have k2 : (C + C / 256) / 65536 = pcB z2 + pcB z3 + 256 * pcB z3 := by omega
  have k3 : (C + C / 256 + (C + C / 256) / 65536) % 64 = pcB z0 + pcB z1 + pcB z2 + pcB z3 := by
    rw [k2, k1, hC]
    omega
  rw [k3]
set_option maxRecDepth 100000 in
theorem pcB_s : ∀ k : Fin 8, ∀ z : Fin 256, z.val < 2 ^ k.val → pcB (z.val + 2 ^ k.val) = pcB z.val + 1 := by decide +kernel
theorem pcB_t {k z : Nat} (hk : k < 8) (hz : z < 2 ^ k) : pcB (z + 2 ^ k) = pcB z + 1 := pcB_s ⟨k, hk⟩ ⟨z, by
  have : 2 ^ k ≤ 2 ^ 7 := Nat.pow_le_pow_right (by decide) (by omega)
  omega⟩ hz
theorem pcN_s {i x : Nat} (hi : i < 30) (hx : x < 2 ^ i) : pcN (x + 2 ^ i) = pcN x + 1 := by
  have h0 : ∀ k, k < 8 → x < 2 ^ k → pcN (x + 2 ^ k) = pcN x + 1 := fun k hk h => by
    have hp : 2 ^ k ≤ 2 ^ 7 := Nat.pow_le_pow_right (by decide) (by omega)
    have := pcB_t hk h
    unfold pcN
    rw [show (x + 2 ^ k) % 256 = x + 2 ^ k by omega, show x % 256 = x by omega, show (x + 2 ^ k) / 256 % 256 = x / 256 % 256 by omega, show (x + 2 ^ k) / 65536 % 256 = x / 65536 % 256 by omega, show (x + 2 ^ k) / 16777216 % 256 = x / 16777216 % 256 by omega]
    omega
  have h1 : ∀ k, k < 8 → x < 256 * 2 ^ k → pcN (x + 256 * 2 ^ k) = pcN x + 1 := fun k hk h => by
    have hp : 2 ^ k ≤ 2 ^ 7 := Nat.pow_le_pow_right (by decide) (by omega)
    have := pcB_t (z := x / 256) hk (by omega)
    unfold pcN
    rw [show (x + 256 * 2 ^ k) % 256 = x % 256 by omega, show (x + 256 * 2 ^ k) / 256 % 256 = x / 256 + 2 ^ k by omega, show x / 256 % 256 = x / 256 by omega, show (x + 256 * 2 ^ k) / 65536 % 256 = x / 65536 % 256 by omega, show (x + 256 * 2 ^ k) / 16777216 % 256 = x / 16777216 % 256 by omega]
    omega
  have h2 : ∀ k, k < 8 → x < 65536 * 2 ^ k → pcN (x + 65536 * 2 ^ k) = pcN x + 1 := fun k hk h => by
    have hp : 2 ^ k ≤ 2 ^ 7 := Nat.pow_le_pow_right (by decide) (by omega)
    have := pcB_t (z := x / 65536) hk (by omega)
    unfold pcN
    rw [show (x + 65536 * 2 ^ k) % 256 = x % 256 by omega, show (x + 65536 * 2 ^ k) / 256 % 256 = x / 256 % 256 by omega, show (x + 65536 * 2 ^ k) / 65536 % 256 = x / 65536 + 2 ^ k by omega, show x / 65536 % 256 = x / 65536 by omega, show (x + 65536 * 2 ^ k) / 16777216 % 256 = x / 16777216 % 256 by omega]
    omega
  have h3 : ∀ k, k < 8 → x < 16777216 * 2 ^ k → pcN (x + 16777216 * 2 ^ k) = pcN x + 1 := fun k hk h => by
    have hp : 2 ^ k ≤ 2 ^ 7 := Nat.pow_le_pow_right (by decide) (by omega)
    have := pcB_t (z := x / 16777216) hk (by omega)
    unfold pcN
    rw [show (x + 16777216 * 2 ^ k) % 256 = x % 256 by omega, show (x + 16777216 * 2 ^ k) / 256 % 256 = x / 256 % 256 by omega, show (x + 16777216 * 2 ^ k) / 65536 % 256 = x / 65536 % 256 by omega, show (x + 16777216 * 2 ^ k) / 16777216 % 256 = x / 16777216 + 2 ^ k by omega, show x / 16777216 % 256 = x / 16777216 by omega]
    omega
  rcases (by omega : i < 8 ∨ (8 ≤ i ∧ i < 16) ∨ (16 ≤ i ∧ i < 24) ∨ (24 ≤ i ∧ i < 32)) with q | q | q | q
  · exact h0 i q hx
  · have e : 2 ^ i = 256 * 2 ^ (i - 8) := by
      rw [show (256 : Nat) = 2 ^ 8 from rfl, ← Nat.pow_add]
      congr 1
      omega
    rw [e] at hx ⊢
    exact h1 (i - 8) (by omega) hx
  · have e : 2 ^ i = 65536 * 2 ^ (i - 16) := by
      rw [show (65536 : Nat) = 2 ^ 16 from rfl, ← Nat.pow_add]
      congr 1
      omega
    rw [e] at hx ⊢
    exact h2 (i - 16) (by omega) hx
  · have e : 2 ^ i = 16777216 * 2 ^ (i - 24) := by
      rw [show (16777216 : Nat) = 2 ^ 24 from rfl, ← Nat.pow_add]
      congr 1
      omega
    rw [e] at hx ⊢
    exact h3 (i - 24) (by omega) hx
set_option maxRecDepth 100000 in
theorem bShl_d : ∀ i : Fin 31, bShl 1 ((i.val : Nat) : Int) = ((2 ^ i.val : Nat) : Int) := by decide +kernel
theorem bOr_s {i v : Nat} (hi : i < 31) (hv : v < 2 ^ i) : bOr (v : Int) (bShl 1 (i : Int)) = ((v + 2 ^ i : Nat) : Int) := by
  have hp : 2 ^ i ≤ 2 ^ 30 := Nat.pow_le_pow_right (by decide) (by omega)
  have e := Nat.two_pow_add_eq_or_of_lt hv 1
  rw [Nat.mul_one] at e
  have h : nI v ||| nI (2 ^ i) = nI (v + 2 ^ i) := by
    apply Int32.toBitVec_inj.1
    rw [Int32.toBitVec_or]
    show BitVec.ofNat 32 v ||| BitVec.ofNat 32 (2 ^ i) = BitVec.ofNat 32 (v + 2 ^ i)
    rw [Nat.add_comm v, e, Nat.or_comm]
    apply BitVec.eq_of_getLsbD_eq
    intro j hj
    simp [hj]
  rw [bShl_d ⟨i, hi⟩]
  unfold bOr
  rw [zI_nat, zI_nat, h, nI_toInt (by omega)]
theorem pcN_0 : pcN 0 = 0 := by decide +kernel
/-- counting -/
def cst (P : Int → Bool) (c v : Int) : Int := if P c = true then v + 1 else v
theorem cst_t {P : Int → Bool} {c v : Int} (h : P c = true) : cst P c v = v + 1 := if_pos h
theorem cst_f {P : Int → Bool} {c v : Int} (h : P c = false) : cst P c v = v := if_neg (by rw [h]; decide)
/-- bits of a set of places, counted -/
theorem msk_pc {P : Int → Bool} {n : Int} (n0 : 0 ≤ n) (n9 : n ≤ 30) : ∃ X : Nat, msk P n = (X : Int) ∧ X < 2 ^ n.toNat ∧ forI (cst P) 0 n 0 = (pcN X : Int) := by
  have h := forI_rel (f := mstep P) (g := cst P) (R := fun i v c => ∃ X : Nat, v = (X : Int) ∧ X < 2 ^ i.toNat ∧ c = (pcN X : Int)) (i := 0) (n := n) n0 (v := (0 : Int)) (w := (0 : Int)) ⟨0, rfl, by decide, by rw [pcN_0]; rfl⟩ (fun i v c h1 h2 ⟨X, e1, e2, e3⟩ => by
    have es : (i + 1).toNat = i.toNat + 1 := by omega
    have ei : ((i.toNat : Nat) : Int) = i := Int.toNat_of_nonneg h1
    have hpow : 2 ^ (i + 1).toNat = 2 ^ i.toNat + 2 ^ i.toNat := by rw [es, Nat.pow_succ]; omega
    cases hp : P i with
    | true =>
      refine ⟨X + 2 ^ i.toNat, ?_, by omega, ?_⟩
      · rw [mstep_t hp, e1, ← bOr_s (by omega) e2, ei]
      · rw [cst_t hp, e3, pcN_s (by omega) e2]
        omega
    | false => exact ⟨X, by rw [mstep_f hp, e1], by omega, by rw [cst_f hp, e3]⟩)
  exact h
theorem bcn_msk {P : Int → Bool} {n : Int} (n0 : 0 ≤ n) (n9 : n ≤ 30) : bcn (msk P n) = forI (cst P) 0 n 0 := by
  obtain ⟨X, e1, e2, e3⟩ := msk_pc (P := P) n0 n9
  have hp : 2 ^ n.toNat ≤ 2 ^ 30 := Nat.pow_le_pow_right (by decide) (by omega)
  rw [e1, e3, bcn_n (by omega)]
