/-! decode rows of the JDK -/
def kb_cJ5_init_d00df : List UInt8 := [42, 183, 0, 3, 178, 0, 18, 153, 0, 18, 42, 27, 188, 8, 181, 0, 15, 42, 3, 181, 0, 22, 167, 0, 16, 42, 27, 184, 0, 26, 181, 0, 15, 42, 4, 181, 0, 22, 177]
set_option maxRecDepth 10000 in
theorem ob_cJ5_init_d00df (r : Nat) {l : List UInt8} (h : kb_cJ5_init_d00df.drop r = l) : (cJ5_init_d00df).data.toList.drop r = l := by
  rw [show (cJ5_init_d00df).data.toList = kb_cJ5_init_d00df from eqL_eq (by decide +kernel)]
  exact h
theorem dJ5_init_d00df_0 : decode cJ5_init_d00df 0 = .ok (.aload_n 0, 1) := dn_42 (ob_cJ5_init_d00df 0 rfl)
theorem dJ5_init_d00df_1 : decode cJ5_init_d00df 1 = .ok (.invokespecial 3, 3) := dn_183 (ob_cJ5_init_d00df 1 rfl) rfl
theorem dJ5_init_d00df_4 : decode cJ5_init_d00df 4 = .ok (.getstatic 18, 3) := dn_178 (ob_cJ5_init_d00df 4 rfl) rfl
theorem dJ5_init_d00df_7 : decode cJ5_init_d00df 7 = .ok (.ifCond .eq 18, 3) := dn_153 (ob_cJ5_init_d00df 7 rfl) (by decide +kernel)
theorem dJ5_init_d00df_10 : decode cJ5_init_d00df 10 = .ok (.aload_n 0, 1) := dn_42 (ob_cJ5_init_d00df 10 rfl)
theorem dJ5_init_d00df_11 : decode cJ5_init_d00df 11 = .ok (.iload_n 1, 1) := dn_27 (ob_cJ5_init_d00df 11 rfl)
theorem dJ5_init_d00df_12 : decode cJ5_init_d00df 12 = .ok (.newarray .byte, 2) := by decide +kernel
theorem dJ5_init_d00df_14 : decode cJ5_init_d00df 14 = .ok (.putfield 15, 3) := dn_181 (ob_cJ5_init_d00df 14 rfl) rfl
theorem dJ5_init_d00df_17 : decode cJ5_init_d00df 17 = .ok (.aload_n 0, 1) := dn_42 (ob_cJ5_init_d00df 17 rfl)
theorem dJ5_init_d00df_18 : decode cJ5_init_d00df 18 = .ok (.iconst 0, 1) := dn_3 (ob_cJ5_init_d00df 18 rfl)
theorem dJ5_init_d00df_19 : decode cJ5_init_d00df 19 = .ok (.putfield 22, 3) := dn_181 (ob_cJ5_init_d00df 19 rfl) rfl
theorem dJ5_init_d00df_22 : decode cJ5_init_d00df 22 = .ok (.goto 16, 3) := dn_167 (ob_cJ5_init_d00df 22 rfl) (by decide +kernel)
theorem dJ5_init_d00df_25 : decode cJ5_init_d00df 25 = .ok (.aload_n 0, 1) := dn_42 (ob_cJ5_init_d00df 25 rfl)
theorem dJ5_init_d00df_26 : decode cJ5_init_d00df 26 = .ok (.iload_n 1, 1) := dn_27 (ob_cJ5_init_d00df 26 rfl)
theorem dJ5_init_d00df_27 : decode cJ5_init_d00df 27 = .ok (.invokestatic 26, 3) := dn_184 (ob_cJ5_init_d00df 27 rfl) rfl
theorem dJ5_init_d00df_30 : decode cJ5_init_d00df 30 = .ok (.putfield 15, 3) := dn_181 (ob_cJ5_init_d00df 30 rfl) rfl
theorem dJ5_init_d00df_33 : decode cJ5_init_d00df 33 = .ok (.aload_n 0, 1) := dn_42 (ob_cJ5_init_d00df 33 rfl)
theorem dJ5_init_d00df_34 : decode cJ5_init_d00df 34 = .ok (.iconst 1, 1) := dn_4 (ob_cJ5_init_d00df 34 rfl)
theorem dJ5_init_d00df_35 : decode cJ5_init_d00df 35 = .ok (.putfield 22, 3) := dn_181 (ob_cJ5_init_d00df 35 rfl) rfl
theorem dJ5_init_d00df_38 : decode cJ5_init_d00df 38 = .ok (.return_, 1) := dn_177 (ob_cJ5_init_d00df 38 rfl)
def kb_cJ5_length_8abf5 : List UInt8 := [42, 180, 0, 79, 172]
set_option maxRecDepth 10000 in
theorem ob_cJ5_length_8abf5 (r : Nat) {l : List UInt8} (h : kb_cJ5_length_8abf5.drop r = l) : (cJ5_length_8abf5).data.toList.drop r = l := by
  rw [show (cJ5_length_8abf5).data.toList = kb_cJ5_length_8abf5 from eqL_eq (by decide +kernel)]
  exact h
theorem dJ5_length_8abf5_0 : decode cJ5_length_8abf5 0 = .ok (.aload_n 0, 1) := dn_42 (ob_cJ5_length_8abf5 0 rfl)
theorem dJ5_length_8abf5_1 : decode cJ5_length_8abf5 1 = .ok (.getfield 79, 3) := dn_180 (ob_cJ5_length_8abf5 1 rfl) rfl
theorem dJ5_length_8abf5_4 : decode cJ5_length_8abf5 4 = .ok (.ireturn, 1) := dn_172 (ob_cJ5_length_8abf5 4 rfl)
def kb_cJ5_ensureCapacityInternal_d00df : List UInt8 := [42, 180, 0, 15, 190, 42, 180, 0, 22, 122, 61, 27, 28, 100, 158, 0, 24, 42, 42, 180, 0, 15, 42, 27, 182, 0, 104, 42, 180, 0, 22, 120, 184, 0, 108, 181, 0, 15, 177]
set_option maxRecDepth 10000 in
theorem ob_cJ5_ensureCapacityInternal_d00df (r : Nat) {l : List UInt8} (h : kb_cJ5_ensureCapacityInternal_d00df.drop r = l) : (cJ5_ensureCapacityInternal_d00df).data.toList.drop r = l := by
  rw [show (cJ5_ensureCapacityInternal_d00df).data.toList = kb_cJ5_ensureCapacityInternal_d00df from eqL_eq (by decide +kernel)]
  exact h
theorem dJ5_ensureCapacityInternal_d00df_0 : decode cJ5_ensureCapacityInternal_d00df 0 = .ok (.aload_n 0, 1) := dn_42 (ob_cJ5_ensureCapacityInternal_d00df 0 rfl)
theorem dJ5_ensureCapacityInternal_d00df_1 : decode cJ5_ensureCapacityInternal_d00df 1 = .ok (.getfield 15, 3) := dn_180 (ob_cJ5_ensureCapacityInternal_d00df 1 rfl) rfl
theorem dJ5_ensureCapacityInternal_d00df_4 : decode cJ5_ensureCapacityInternal_d00df 4 = .ok (.arraylength, 1) := dn_190 (ob_cJ5_ensureCapacityInternal_d00df 4 rfl)
theorem dJ5_ensureCapacityInternal_d00df_5 : decode cJ5_ensureCapacityInternal_d00df 5 = .ok (.aload_n 0, 1) := dn_42 (ob_cJ5_ensureCapacityInternal_d00df 5 rfl)
theorem dJ5_ensureCapacityInternal_d00df_6 : decode cJ5_ensureCapacityInternal_d00df 6 = .ok (.getfield 22, 3) := dn_180 (ob_cJ5_ensureCapacityInternal_d00df 6 rfl) rfl
theorem dJ5_ensureCapacityInternal_d00df_9 : decode cJ5_ensureCapacityInternal_d00df 9 = .ok (.ishr, 1) := dn_122 (ob_cJ5_ensureCapacityInternal_d00df 9 rfl)
theorem dJ5_ensureCapacityInternal_d00df_10 : decode cJ5_ensureCapacityInternal_d00df 10 = .ok (.istore_n 2, 1) := dn_61 (ob_cJ5_ensureCapacityInternal_d00df 10 rfl)
theorem dJ5_ensureCapacityInternal_d00df_11 : decode cJ5_ensureCapacityInternal_d00df 11 = .ok (.iload_n 1, 1) := dn_27 (ob_cJ5_ensureCapacityInternal_d00df 11 rfl)
theorem dJ5_ensureCapacityInternal_d00df_12 : decode cJ5_ensureCapacityInternal_d00df 12 = .ok (.iload_n 2, 1) := dn_28 (ob_cJ5_ensureCapacityInternal_d00df 12 rfl)
theorem dJ5_ensureCapacityInternal_d00df_13 : decode cJ5_ensureCapacityInternal_d00df 13 = .ok (.isub, 1) := dn_100 (ob_cJ5_ensureCapacityInternal_d00df 13 rfl)
theorem dJ5_ensureCapacityInternal_d00df_14 : decode cJ5_ensureCapacityInternal_d00df 14 = .ok (.ifCond .le 24, 3) := dn_158 (ob_cJ5_ensureCapacityInternal_d00df 14 rfl) (by decide +kernel)
theorem dJ5_ensureCapacityInternal_d00df_17 : decode cJ5_ensureCapacityInternal_d00df 17 = .ok (.aload_n 0, 1) := dn_42 (ob_cJ5_ensureCapacityInternal_d00df 17 rfl)
theorem dJ5_ensureCapacityInternal_d00df_18 : decode cJ5_ensureCapacityInternal_d00df 18 = .ok (.aload_n 0, 1) := dn_42 (ob_cJ5_ensureCapacityInternal_d00df 18 rfl)
theorem dJ5_ensureCapacityInternal_d00df_19 : decode cJ5_ensureCapacityInternal_d00df 19 = .ok (.getfield 15, 3) := dn_180 (ob_cJ5_ensureCapacityInternal_d00df 19 rfl) rfl
theorem dJ5_ensureCapacityInternal_d00df_22 : decode cJ5_ensureCapacityInternal_d00df 22 = .ok (.aload_n 0, 1) := dn_42 (ob_cJ5_ensureCapacityInternal_d00df 22 rfl)
theorem dJ5_ensureCapacityInternal_d00df_23 : decode cJ5_ensureCapacityInternal_d00df 23 = .ok (.iload_n 1, 1) := dn_27 (ob_cJ5_ensureCapacityInternal_d00df 23 rfl)
theorem dJ5_ensureCapacityInternal_d00df_24 : decode cJ5_ensureCapacityInternal_d00df 24 = .ok (.invokevirtual 104, 3) := dn_182 (ob_cJ5_ensureCapacityInternal_d00df 24 rfl) rfl
theorem dJ5_ensureCapacityInternal_d00df_27 : decode cJ5_ensureCapacityInternal_d00df 27 = .ok (.aload_n 0, 1) := dn_42 (ob_cJ5_ensureCapacityInternal_d00df 27 rfl)
theorem dJ5_ensureCapacityInternal_d00df_28 : decode cJ5_ensureCapacityInternal_d00df 28 = .ok (.getfield 22, 3) := dn_180 (ob_cJ5_ensureCapacityInternal_d00df 28 rfl) rfl
theorem dJ5_ensureCapacityInternal_d00df_31 : decode cJ5_ensureCapacityInternal_d00df 31 = .ok (.ishl, 1) := dn_120 (ob_cJ5_ensureCapacityInternal_d00df 31 rfl)
theorem dJ5_ensureCapacityInternal_d00df_32 : decode cJ5_ensureCapacityInternal_d00df 32 = .ok (.invokestatic 108, 3) := dn_184 (ob_cJ5_ensureCapacityInternal_d00df 32 rfl) rfl
theorem dJ5_ensureCapacityInternal_d00df_35 : decode cJ5_ensureCapacityInternal_d00df 35 = .ok (.putfield 15, 3) := dn_181 (ob_cJ5_ensureCapacityInternal_d00df 35 rfl) rfl
theorem dJ5_ensureCapacityInternal_d00df_38 : decode cJ5_ensureCapacityInternal_d00df 38 = .ok (.return_, 1) := dn_177 (ob_cJ5_ensureCapacityInternal_d00df 38 rfl)
def kb_cJ5_newCapacity_0f7a4_0 : List UInt8 := [42, 180, 0, 15, 190, 61, 27, 42, 180, 0, 22, 120, 62, 29, 28, 100, 54, 4, 28, 21, 4, 28, 5, 42, 180, 0, 22, 120, 96, 184, 0, 114, 54, 5, 21, 5, 18, 39, 160, 0, 13]
def kb_cJ5_newCapacity_0f7a4_1 : List UInt8 := [187, 0, 120, 89, 18, 122, 183, 0, 124, 191, 21, 5, 42, 180, 0, 22, 122, 172]
def tb_cJ5_newCapacity_0f7a4_2 : List UInt8 := []
def tb_cJ5_newCapacity_0f7a4_1 : List UInt8 := kb_cJ5_newCapacity_0f7a4_1 ++ tb_cJ5_newCapacity_0f7a4_2
def tb_cJ5_newCapacity_0f7a4_0 : List UInt8 := kb_cJ5_newCapacity_0f7a4_0 ++ tb_cJ5_newCapacity_0f7a4_1
set_option maxRecDepth 100000 in
theorem tb_cJ5_newCapacity_0f7a4 : (cJ5_newCapacity_0f7a4).data.toList = tb_cJ5_newCapacity_0f7a4_0 := eqL_eq (by decide +kernel)
theorem ow_cJ5_newCapacity_0f7a4_0 (r : Nat) : (cJ5_newCapacity_0f7a4).data.toList.drop (0 + r) = tb_cJ5_newCapacity_0f7a4_0.drop r := by rw [tb_cJ5_newCapacity_0f7a4, Nat.zero_add]
theorem ow_cJ5_newCapacity_0f7a4_1 (r : Nat) : (cJ5_newCapacity_0f7a4).data.toList.drop (41 + r) = tb_cJ5_newCapacity_0f7a4_1.drop r := by
  have e := ow_cJ5_newCapacity_0f7a4_0 (41 + r)
  rw [show 0 + (41 + r) = 41 + r by omega] at e
  exact e.trans (dr_len (a := kb_cJ5_newCapacity_0f7a4_0) (t := tb_cJ5_newCapacity_0f7a4_1) (by decide +kernel))
theorem ob_cJ5_newCapacity_0f7a4_0 (r : Nat) {pc : Nat} {l : List UInt8} (hp : 0 + r = pc) (h : tb_cJ5_newCapacity_0f7a4_0.drop r = l) : (cJ5_newCapacity_0f7a4).data.toList.drop pc = l := by
  subst hp
  exact (ow_cJ5_newCapacity_0f7a4_0 r).trans h
theorem ob_cJ5_newCapacity_0f7a4_1 (r : Nat) {pc : Nat} {l : List UInt8} (hp : 41 + r = pc) (h : tb_cJ5_newCapacity_0f7a4_1.drop r = l) : (cJ5_newCapacity_0f7a4).data.toList.drop pc = l := by
  subst hp
  exact (ow_cJ5_newCapacity_0f7a4_1 r).trans h
theorem dJ5_newCapacity_0f7a4_0 : decode cJ5_newCapacity_0f7a4 0 = .ok (.aload_n 0, 1) := dn_42 (ob_cJ5_newCapacity_0f7a4_0 0 rfl rfl)
theorem dJ5_newCapacity_0f7a4_1 : decode cJ5_newCapacity_0f7a4 1 = .ok (.getfield 15, 3) := dn_180 (ob_cJ5_newCapacity_0f7a4_0 1 rfl rfl) rfl
theorem dJ5_newCapacity_0f7a4_4 : decode cJ5_newCapacity_0f7a4 4 = .ok (.arraylength, 1) := dn_190 (ob_cJ5_newCapacity_0f7a4_0 4 rfl rfl)
theorem dJ5_newCapacity_0f7a4_5 : decode cJ5_newCapacity_0f7a4 5 = .ok (.istore_n 2, 1) := dn_61 (ob_cJ5_newCapacity_0f7a4_0 5 rfl rfl)
theorem dJ5_newCapacity_0f7a4_6 : decode cJ5_newCapacity_0f7a4 6 = .ok (.iload_n 1, 1) := dn_27 (ob_cJ5_newCapacity_0f7a4_0 6 rfl rfl)
theorem dJ5_newCapacity_0f7a4_7 : decode cJ5_newCapacity_0f7a4 7 = .ok (.aload_n 0, 1) := dn_42 (ob_cJ5_newCapacity_0f7a4_0 7 rfl rfl)
theorem dJ5_newCapacity_0f7a4_8 : decode cJ5_newCapacity_0f7a4 8 = .ok (.getfield 22, 3) := dn_180 (ob_cJ5_newCapacity_0f7a4_0 8 rfl rfl) rfl
theorem dJ5_newCapacity_0f7a4_11 : decode cJ5_newCapacity_0f7a4 11 = .ok (.ishl, 1) := dn_120 (ob_cJ5_newCapacity_0f7a4_0 11 rfl rfl)
theorem dJ5_newCapacity_0f7a4_12 : decode cJ5_newCapacity_0f7a4 12 = .ok (.istore_n 3, 1) := dn_62 (ob_cJ5_newCapacity_0f7a4_0 12 rfl rfl)
theorem dJ5_newCapacity_0f7a4_13 : decode cJ5_newCapacity_0f7a4 13 = .ok (.iload_n 3, 1) := dn_29 (ob_cJ5_newCapacity_0f7a4_0 13 rfl rfl)
theorem dJ5_newCapacity_0f7a4_14 : decode cJ5_newCapacity_0f7a4 14 = .ok (.iload_n 2, 1) := dn_28 (ob_cJ5_newCapacity_0f7a4_0 14 rfl rfl)
theorem dJ5_newCapacity_0f7a4_15 : decode cJ5_newCapacity_0f7a4 15 = .ok (.isub, 1) := dn_100 (ob_cJ5_newCapacity_0f7a4_0 15 rfl rfl)
theorem dJ5_newCapacity_0f7a4_16 : decode cJ5_newCapacity_0f7a4 16 = .ok (.istore 4, 2) := dn_54 (ob_cJ5_newCapacity_0f7a4_0 16 rfl rfl) rfl
theorem dJ5_newCapacity_0f7a4_18 : decode cJ5_newCapacity_0f7a4 18 = .ok (.iload_n 2, 1) := dn_28 (ob_cJ5_newCapacity_0f7a4_0 18 rfl rfl)
theorem dJ5_newCapacity_0f7a4_19 : decode cJ5_newCapacity_0f7a4 19 = .ok (.iload 4, 2) := dn_21 (ob_cJ5_newCapacity_0f7a4_0 19 rfl rfl) rfl
theorem dJ5_newCapacity_0f7a4_21 : decode cJ5_newCapacity_0f7a4 21 = .ok (.iload_n 2, 1) := dn_28 (ob_cJ5_newCapacity_0f7a4_0 21 rfl rfl)
theorem dJ5_newCapacity_0f7a4_22 : decode cJ5_newCapacity_0f7a4 22 = .ok (.iconst 2, 1) := dn_5 (ob_cJ5_newCapacity_0f7a4_0 22 rfl rfl)
theorem dJ5_newCapacity_0f7a4_23 : decode cJ5_newCapacity_0f7a4 23 = .ok (.aload_n 0, 1) := dn_42 (ob_cJ5_newCapacity_0f7a4_0 23 rfl rfl)
theorem dJ5_newCapacity_0f7a4_24 : decode cJ5_newCapacity_0f7a4 24 = .ok (.getfield 22, 3) := dn_180 (ob_cJ5_newCapacity_0f7a4_0 24 rfl rfl) rfl
theorem dJ5_newCapacity_0f7a4_27 : decode cJ5_newCapacity_0f7a4 27 = .ok (.ishl, 1) := dn_120 (ob_cJ5_newCapacity_0f7a4_0 27 rfl rfl)
theorem dJ5_newCapacity_0f7a4_28 : decode cJ5_newCapacity_0f7a4 28 = .ok (.iadd, 1) := dn_96 (ob_cJ5_newCapacity_0f7a4_0 28 rfl rfl)
theorem dJ5_newCapacity_0f7a4_29 : decode cJ5_newCapacity_0f7a4 29 = .ok (.invokestatic 114, 3) := dn_184 (ob_cJ5_newCapacity_0f7a4_0 29 rfl rfl) rfl
theorem dJ5_newCapacity_0f7a4_32 : decode cJ5_newCapacity_0f7a4 32 = .ok (.istore 5, 2) := dn_54 (ob_cJ5_newCapacity_0f7a4_0 32 rfl rfl) rfl
theorem dJ5_newCapacity_0f7a4_34 : decode cJ5_newCapacity_0f7a4 34 = .ok (.iload 5, 2) := dn_21 (ob_cJ5_newCapacity_0f7a4_0 34 rfl rfl) rfl
theorem dJ5_newCapacity_0f7a4_36 : decode cJ5_newCapacity_0f7a4 36 = .ok (.ldc 39, 2) := dn_18 (ob_cJ5_newCapacity_0f7a4_0 36 rfl rfl) rfl
theorem dJ5_newCapacity_0f7a4_38 : decode cJ5_newCapacity_0f7a4 38 = .ok (.if_icmp .ne 13, 3) := dn_160 (ob_cJ5_newCapacity_0f7a4_0 38 rfl rfl) (by decide +kernel)
theorem dJ5_newCapacity_0f7a4_41 : decode cJ5_newCapacity_0f7a4 41 = .ok (.new 120, 3) := dn_187 (ob_cJ5_newCapacity_0f7a4_1 0 rfl rfl) rfl
theorem dJ5_newCapacity_0f7a4_44 : decode cJ5_newCapacity_0f7a4 44 = .ok (.dup, 1) := dn_89 (ob_cJ5_newCapacity_0f7a4_1 3 rfl rfl)
theorem dJ5_newCapacity_0f7a4_45 : decode cJ5_newCapacity_0f7a4 45 = .ok (.ldc 122, 2) := dn_18 (ob_cJ5_newCapacity_0f7a4_1 4 rfl rfl) rfl
theorem dJ5_newCapacity_0f7a4_47 : decode cJ5_newCapacity_0f7a4 47 = .ok (.invokespecial 124, 3) := dn_183 (ob_cJ5_newCapacity_0f7a4_1 6 rfl rfl) rfl
theorem dJ5_newCapacity_0f7a4_50 : decode cJ5_newCapacity_0f7a4 50 = .ok (.athrow, 1) := dn_191 (ob_cJ5_newCapacity_0f7a4_1 9 rfl rfl)
theorem dJ5_newCapacity_0f7a4_51 : decode cJ5_newCapacity_0f7a4 51 = .ok (.iload 5, 2) := dn_21 (ob_cJ5_newCapacity_0f7a4_1 10 rfl rfl) rfl
theorem dJ5_newCapacity_0f7a4_53 : decode cJ5_newCapacity_0f7a4 53 = .ok (.aload_n 0, 1) := dn_42 (ob_cJ5_newCapacity_0f7a4_1 12 rfl rfl)
theorem dJ5_newCapacity_0f7a4_54 : decode cJ5_newCapacity_0f7a4 54 = .ok (.getfield 22, 3) := dn_180 (ob_cJ5_newCapacity_0f7a4_1 13 rfl rfl) rfl
theorem dJ5_newCapacity_0f7a4_57 : decode cJ5_newCapacity_0f7a4 57 = .ok (.ishr, 1) := dn_122 (ob_cJ5_newCapacity_0f7a4_1 16 rfl rfl)
theorem dJ5_newCapacity_0f7a4_58 : decode cJ5_newCapacity_0f7a4 58 = .ok (.ireturn, 1) := dn_172 (ob_cJ5_newCapacity_0f7a4_1 17 rfl rfl)
def kb_cJ5_inflate_da8c8_0 : List UInt8 := [42, 182, 0, 83, 154, 0, 4, 177, 42, 180, 0, 15, 190, 184, 0, 26, 76, 42, 180, 0, 15, 3, 43, 3, 42, 180, 0, 79, 184, 0, 125, 42, 43, 181, 0, 15, 42, 4, 181, 0, 22]
def kb_cJ5_inflate_da8c8_1 : List UInt8 := [177]
def tb_cJ5_inflate_da8c8_2 : List UInt8 := []
def tb_cJ5_inflate_da8c8_1 : List UInt8 := kb_cJ5_inflate_da8c8_1 ++ tb_cJ5_inflate_da8c8_2
def tb_cJ5_inflate_da8c8_0 : List UInt8 := kb_cJ5_inflate_da8c8_0 ++ tb_cJ5_inflate_da8c8_1
set_option maxRecDepth 100000 in
theorem tb_cJ5_inflate_da8c8 : (cJ5_inflate_da8c8).data.toList = tb_cJ5_inflate_da8c8_0 := eqL_eq (by decide +kernel)
theorem ow_cJ5_inflate_da8c8_0 (r : Nat) : (cJ5_inflate_da8c8).data.toList.drop (0 + r) = tb_cJ5_inflate_da8c8_0.drop r := by rw [tb_cJ5_inflate_da8c8, Nat.zero_add]
theorem ow_cJ5_inflate_da8c8_1 (r : Nat) : (cJ5_inflate_da8c8).data.toList.drop (41 + r) = tb_cJ5_inflate_da8c8_1.drop r := by
  have e := ow_cJ5_inflate_da8c8_0 (41 + r)
  rw [show 0 + (41 + r) = 41 + r by omega] at e
  exact e.trans (dr_len (a := kb_cJ5_inflate_da8c8_0) (t := tb_cJ5_inflate_da8c8_1) (by decide +kernel))
theorem ob_cJ5_inflate_da8c8_0 (r : Nat) {pc : Nat} {l : List UInt8} (hp : 0 + r = pc) (h : tb_cJ5_inflate_da8c8_0.drop r = l) : (cJ5_inflate_da8c8).data.toList.drop pc = l := by
  subst hp
  exact (ow_cJ5_inflate_da8c8_0 r).trans h
theorem ob_cJ5_inflate_da8c8_1 (r : Nat) {pc : Nat} {l : List UInt8} (hp : 41 + r = pc) (h : tb_cJ5_inflate_da8c8_1.drop r = l) : (cJ5_inflate_da8c8).data.toList.drop pc = l := by
  subst hp
  exact (ow_cJ5_inflate_da8c8_1 r).trans h
theorem dJ5_inflate_da8c8_0 : decode cJ5_inflate_da8c8 0 = .ok (.aload_n 0, 1) := dn_42 (ob_cJ5_inflate_da8c8_0 0 rfl rfl)
theorem dJ5_inflate_da8c8_1 : decode cJ5_inflate_da8c8 1 = .ok (.invokevirtual 83, 3) := dn_182 (ob_cJ5_inflate_da8c8_0 1 rfl rfl) rfl
theorem dJ5_inflate_da8c8_4 : decode cJ5_inflate_da8c8 4 = .ok (.ifCond .ne 4, 3) := dn_154 (ob_cJ5_inflate_da8c8_0 4 rfl rfl) (by decide +kernel)
theorem dJ5_inflate_da8c8_7 : decode cJ5_inflate_da8c8 7 = .ok (.return_, 1) := dn_177 (ob_cJ5_inflate_da8c8_0 7 rfl rfl)
theorem dJ5_inflate_da8c8_8 : decode cJ5_inflate_da8c8 8 = .ok (.aload_n 0, 1) := dn_42 (ob_cJ5_inflate_da8c8_0 8 rfl rfl)
theorem dJ5_inflate_da8c8_9 : decode cJ5_inflate_da8c8 9 = .ok (.getfield 15, 3) := dn_180 (ob_cJ5_inflate_da8c8_0 9 rfl rfl) rfl
theorem dJ5_inflate_da8c8_12 : decode cJ5_inflate_da8c8 12 = .ok (.arraylength, 1) := dn_190 (ob_cJ5_inflate_da8c8_0 12 rfl rfl)
theorem dJ5_inflate_da8c8_13 : decode cJ5_inflate_da8c8 13 = .ok (.invokestatic 26, 3) := dn_184 (ob_cJ5_inflate_da8c8_0 13 rfl rfl) rfl
theorem dJ5_inflate_da8c8_16 : decode cJ5_inflate_da8c8 16 = .ok (.astore_n 1, 1) := dn_76 (ob_cJ5_inflate_da8c8_0 16 rfl rfl)
theorem dJ5_inflate_da8c8_17 : decode cJ5_inflate_da8c8 17 = .ok (.aload_n 0, 1) := dn_42 (ob_cJ5_inflate_da8c8_0 17 rfl rfl)
theorem dJ5_inflate_da8c8_18 : decode cJ5_inflate_da8c8 18 = .ok (.getfield 15, 3) := dn_180 (ob_cJ5_inflate_da8c8_0 18 rfl rfl) rfl
theorem dJ5_inflate_da8c8_21 : decode cJ5_inflate_da8c8 21 = .ok (.iconst 0, 1) := dn_3 (ob_cJ5_inflate_da8c8_0 21 rfl rfl)
theorem dJ5_inflate_da8c8_22 : decode cJ5_inflate_da8c8 22 = .ok (.aload_n 1, 1) := dn_43 (ob_cJ5_inflate_da8c8_0 22 rfl rfl)
theorem dJ5_inflate_da8c8_23 : decode cJ5_inflate_da8c8 23 = .ok (.iconst 0, 1) := dn_3 (ob_cJ5_inflate_da8c8_0 23 rfl rfl)
theorem dJ5_inflate_da8c8_24 : decode cJ5_inflate_da8c8 24 = .ok (.aload_n 0, 1) := dn_42 (ob_cJ5_inflate_da8c8_0 24 rfl rfl)
theorem dJ5_inflate_da8c8_25 : decode cJ5_inflate_da8c8 25 = .ok (.getfield 79, 3) := dn_180 (ob_cJ5_inflate_da8c8_0 25 rfl rfl) rfl
theorem dJ5_inflate_da8c8_28 : decode cJ5_inflate_da8c8 28 = .ok (.invokestatic 125, 3) := dn_184 (ob_cJ5_inflate_da8c8_0 28 rfl rfl) rfl
theorem dJ5_inflate_da8c8_31 : decode cJ5_inflate_da8c8 31 = .ok (.aload_n 0, 1) := dn_42 (ob_cJ5_inflate_da8c8_0 31 rfl rfl)
theorem dJ5_inflate_da8c8_32 : decode cJ5_inflate_da8c8 32 = .ok (.aload_n 1, 1) := dn_43 (ob_cJ5_inflate_da8c8_0 32 rfl rfl)
theorem dJ5_inflate_da8c8_33 : decode cJ5_inflate_da8c8 33 = .ok (.putfield 15, 3) := dn_181 (ob_cJ5_inflate_da8c8_0 33 rfl rfl) rfl
theorem dJ5_inflate_da8c8_36 : decode cJ5_inflate_da8c8 36 = .ok (.aload_n 0, 1) := dn_42 (ob_cJ5_inflate_da8c8_0 36 rfl rfl)
theorem dJ5_inflate_da8c8_37 : decode cJ5_inflate_da8c8 37 = .ok (.iconst 1, 1) := dn_4 (ob_cJ5_inflate_da8c8_0 37 rfl rfl)
theorem dJ5_inflate_da8c8_38 : decode cJ5_inflate_da8c8 38 = .ok (.putfield 22, 3) := dn_181 (ob_cJ5_inflate_da8c8_0 38 rfl rfl) rfl
theorem dJ5_inflate_da8c8_41 : decode cJ5_inflate_da8c8 41 = .ok (.return_, 1) := dn_177 (ob_cJ5_inflate_da8c8_1 0 rfl rfl)
def kb_cJ5_append_cf1ce_0 : List UInt8 := [43, 199, 0, 8, 42, 182, 0, 204, 176, 43, 182, 0, 32, 61, 42, 42, 180, 0, 79, 28, 96, 182, 0, 100, 42, 42, 180, 0, 79, 43, 182, 0, 208, 42, 89, 180, 0, 79, 28, 96]
def kb_cJ5_append_cf1ce_1 : List UInt8 := [181, 0, 79, 42, 176]
def tb_cJ5_append_cf1ce_2 : List UInt8 := []
def tb_cJ5_append_cf1ce_1 : List UInt8 := kb_cJ5_append_cf1ce_1 ++ tb_cJ5_append_cf1ce_2
def tb_cJ5_append_cf1ce_0 : List UInt8 := kb_cJ5_append_cf1ce_0 ++ tb_cJ5_append_cf1ce_1
set_option maxRecDepth 100000 in
theorem tb_cJ5_append_cf1ce : (cJ5_append_cf1ce).data.toList = tb_cJ5_append_cf1ce_0 := eqL_eq (by decide +kernel)
theorem ow_cJ5_append_cf1ce_0 (r : Nat) : (cJ5_append_cf1ce).data.toList.drop (0 + r) = tb_cJ5_append_cf1ce_0.drop r := by rw [tb_cJ5_append_cf1ce, Nat.zero_add]
theorem ow_cJ5_append_cf1ce_1 (r : Nat) : (cJ5_append_cf1ce).data.toList.drop (40 + r) = tb_cJ5_append_cf1ce_1.drop r := by
  have e := ow_cJ5_append_cf1ce_0 (40 + r)
  rw [show 0 + (40 + r) = 40 + r by omega] at e
  exact e.trans (dr_len (a := kb_cJ5_append_cf1ce_0) (t := tb_cJ5_append_cf1ce_1) (by decide +kernel))
theorem ob_cJ5_append_cf1ce_0 (r : Nat) {pc : Nat} {l : List UInt8} (hp : 0 + r = pc) (h : tb_cJ5_append_cf1ce_0.drop r = l) : (cJ5_append_cf1ce).data.toList.drop pc = l := by
  subst hp
  exact (ow_cJ5_append_cf1ce_0 r).trans h
theorem ob_cJ5_append_cf1ce_1 (r : Nat) {pc : Nat} {l : List UInt8} (hp : 40 + r = pc) (h : tb_cJ5_append_cf1ce_1.drop r = l) : (cJ5_append_cf1ce).data.toList.drop pc = l := by
  subst hp
  exact (ow_cJ5_append_cf1ce_1 r).trans h
theorem dJ5_append_cf1ce_0 : decode cJ5_append_cf1ce 0 = .ok (.aload_n 1, 1) := dn_43 (ob_cJ5_append_cf1ce_0 0 rfl rfl)
theorem dJ5_append_cf1ce_1 : decode cJ5_append_cf1ce 1 = .ok (.ifnonnull 8, 3) := dn_199 (ob_cJ5_append_cf1ce_0 1 rfl rfl) (by decide +kernel)
theorem dJ5_append_cf1ce_4 : decode cJ5_append_cf1ce 4 = .ok (.aload_n 0, 1) := dn_42 (ob_cJ5_append_cf1ce_0 4 rfl rfl)
theorem dJ5_append_cf1ce_5 : decode cJ5_append_cf1ce 5 = .ok (.invokevirtual 204, 3) := dn_182 (ob_cJ5_append_cf1ce_0 5 rfl rfl) rfl
theorem dJ5_append_cf1ce_8 : decode cJ5_append_cf1ce 8 = .ok (.areturn, 1) := dn_176 (ob_cJ5_append_cf1ce_0 8 rfl rfl)
theorem dJ5_append_cf1ce_9 : decode cJ5_append_cf1ce 9 = .ok (.aload_n 1, 1) := dn_43 (ob_cJ5_append_cf1ce_0 9 rfl rfl)
theorem dJ5_append_cf1ce_10 : decode cJ5_append_cf1ce 10 = .ok (.invokevirtual 32, 3) := dn_182 (ob_cJ5_append_cf1ce_0 10 rfl rfl) rfl
theorem dJ5_append_cf1ce_13 : decode cJ5_append_cf1ce 13 = .ok (.istore_n 2, 1) := dn_61 (ob_cJ5_append_cf1ce_0 13 rfl rfl)
theorem dJ5_append_cf1ce_14 : decode cJ5_append_cf1ce 14 = .ok (.aload_n 0, 1) := dn_42 (ob_cJ5_append_cf1ce_0 14 rfl rfl)
theorem dJ5_append_cf1ce_15 : decode cJ5_append_cf1ce 15 = .ok (.aload_n 0, 1) := dn_42 (ob_cJ5_append_cf1ce_0 15 rfl rfl)
theorem dJ5_append_cf1ce_16 : decode cJ5_append_cf1ce 16 = .ok (.getfield 79, 3) := dn_180 (ob_cJ5_append_cf1ce_0 16 rfl rfl) rfl
theorem dJ5_append_cf1ce_19 : decode cJ5_append_cf1ce 19 = .ok (.iload_n 2, 1) := dn_28 (ob_cJ5_append_cf1ce_0 19 rfl rfl)
theorem dJ5_append_cf1ce_20 : decode cJ5_append_cf1ce 20 = .ok (.iadd, 1) := dn_96 (ob_cJ5_append_cf1ce_0 20 rfl rfl)
theorem dJ5_append_cf1ce_21 : decode cJ5_append_cf1ce 21 = .ok (.invokevirtual 100, 3) := dn_182 (ob_cJ5_append_cf1ce_0 21 rfl rfl) rfl
theorem dJ5_append_cf1ce_24 : decode cJ5_append_cf1ce 24 = .ok (.aload_n 0, 1) := dn_42 (ob_cJ5_append_cf1ce_0 24 rfl rfl)
theorem dJ5_append_cf1ce_25 : decode cJ5_append_cf1ce 25 = .ok (.aload_n 0, 1) := dn_42 (ob_cJ5_append_cf1ce_0 25 rfl rfl)
theorem dJ5_append_cf1ce_26 : decode cJ5_append_cf1ce 26 = .ok (.getfield 79, 3) := dn_180 (ob_cJ5_append_cf1ce_0 26 rfl rfl) rfl
theorem dJ5_append_cf1ce_29 : decode cJ5_append_cf1ce 29 = .ok (.aload_n 1, 1) := dn_43 (ob_cJ5_append_cf1ce_0 29 rfl rfl)
theorem dJ5_append_cf1ce_30 : decode cJ5_append_cf1ce 30 = .ok (.invokevirtual 208, 3) := dn_182 (ob_cJ5_append_cf1ce_0 30 rfl rfl) rfl
theorem dJ5_append_cf1ce_33 : decode cJ5_append_cf1ce 33 = .ok (.aload_n 0, 1) := dn_42 (ob_cJ5_append_cf1ce_0 33 rfl rfl)
theorem dJ5_append_cf1ce_34 : decode cJ5_append_cf1ce 34 = .ok (.dup, 1) := dn_89 (ob_cJ5_append_cf1ce_0 34 rfl rfl)
theorem dJ5_append_cf1ce_35 : decode cJ5_append_cf1ce 35 = .ok (.getfield 79, 3) := dn_180 (ob_cJ5_append_cf1ce_0 35 rfl rfl) rfl
theorem dJ5_append_cf1ce_38 : decode cJ5_append_cf1ce 38 = .ok (.iload_n 2, 1) := dn_28 (ob_cJ5_append_cf1ce_0 38 rfl rfl)
theorem dJ5_append_cf1ce_39 : decode cJ5_append_cf1ce 39 = .ok (.iadd, 1) := dn_96 (ob_cJ5_append_cf1ce_0 39 rfl rfl)
theorem dJ5_append_cf1ce_40 : decode cJ5_append_cf1ce 40 = .ok (.putfield 79, 3) := dn_181 (ob_cJ5_append_cf1ce_1 0 rfl rfl) rfl
theorem dJ5_append_cf1ce_43 : decode cJ5_append_cf1ce 43 = .ok (.aload_n 0, 1) := dn_42 (ob_cJ5_append_cf1ce_1 3 rfl rfl)
theorem dJ5_append_cf1ce_44 : decode cJ5_append_cf1ce 44 = .ok (.areturn, 1) := dn_176 (ob_cJ5_append_cf1ce_1 4 rfl rfl)
def kb_cJ5_appendNull_278bc_0 : List UInt8 := [42, 42, 180, 0, 79, 7, 96, 182, 0, 100, 42, 180, 0, 79, 60, 42, 180, 0, 15, 77, 42, 182, 0, 83, 153, 0, 38, 44, 27, 132, 1, 1, 16, 110, 84, 44, 27, 132, 1, 1]
def kb_cJ5_appendNull_278bc_1 : List UInt8 := [16, 117, 84, 44, 27, 132, 1, 1, 16, 108, 84, 44, 27, 132, 1, 1, 16, 108, 84, 167, 0, 17, 44, 27, 16, 110, 16, 117, 16, 108, 16, 108, 184, 0, 226, 60, 42, 27, 181, 0, 79]
def kb_cJ5_appendNull_278bc_2 : List UInt8 := [42, 176]
def tb_cJ5_appendNull_278bc_3 : List UInt8 := []
def tb_cJ5_appendNull_278bc_2 : List UInt8 := kb_cJ5_appendNull_278bc_2 ++ tb_cJ5_appendNull_278bc_3
def tb_cJ5_appendNull_278bc_1 : List UInt8 := kb_cJ5_appendNull_278bc_1 ++ tb_cJ5_appendNull_278bc_2
def tb_cJ5_appendNull_278bc_0 : List UInt8 := kb_cJ5_appendNull_278bc_0 ++ tb_cJ5_appendNull_278bc_1
set_option maxRecDepth 100000 in
theorem tb_cJ5_appendNull_278bc : (cJ5_appendNull_278bc).data.toList = tb_cJ5_appendNull_278bc_0 := eqL_eq (by decide +kernel)
theorem ow_cJ5_appendNull_278bc_0 (r : Nat) : (cJ5_appendNull_278bc).data.toList.drop (0 + r) = tb_cJ5_appendNull_278bc_0.drop r := by rw [tb_cJ5_appendNull_278bc, Nat.zero_add]
theorem ow_cJ5_appendNull_278bc_1 (r : Nat) : (cJ5_appendNull_278bc).data.toList.drop (40 + r) = tb_cJ5_appendNull_278bc_1.drop r := by
  have e := ow_cJ5_appendNull_278bc_0 (40 + r)
  rw [show 0 + (40 + r) = 40 + r by omega] at e
  exact e.trans (dr_len (a := kb_cJ5_appendNull_278bc_0) (t := tb_cJ5_appendNull_278bc_1) (by decide +kernel))
theorem ow_cJ5_appendNull_278bc_2 (r : Nat) : (cJ5_appendNull_278bc).data.toList.drop (81 + r) = tb_cJ5_appendNull_278bc_2.drop r := by
  have e := ow_cJ5_appendNull_278bc_1 (41 + r)
  rw [show 40 + (41 + r) = 81 + r by omega] at e
  exact e.trans (dr_len (a := kb_cJ5_appendNull_278bc_1) (t := tb_cJ5_appendNull_278bc_2) (by decide +kernel))
theorem ob_cJ5_appendNull_278bc_0 (r : Nat) {pc : Nat} {l : List UInt8} (hp : 0 + r = pc) (h : tb_cJ5_appendNull_278bc_0.drop r = l) : (cJ5_appendNull_278bc).data.toList.drop pc = l := by
  subst hp
  exact (ow_cJ5_appendNull_278bc_0 r).trans h
theorem ob_cJ5_appendNull_278bc_1 (r : Nat) {pc : Nat} {l : List UInt8} (hp : 40 + r = pc) (h : tb_cJ5_appendNull_278bc_1.drop r = l) : (cJ5_appendNull_278bc).data.toList.drop pc = l := by
  subst hp
  exact (ow_cJ5_appendNull_278bc_1 r).trans h
theorem ob_cJ5_appendNull_278bc_2 (r : Nat) {pc : Nat} {l : List UInt8} (hp : 81 + r = pc) (h : tb_cJ5_appendNull_278bc_2.drop r = l) : (cJ5_appendNull_278bc).data.toList.drop pc = l := by
  subst hp
  exact (ow_cJ5_appendNull_278bc_2 r).trans h
theorem dJ5_appendNull_278bc_0 : decode cJ5_appendNull_278bc 0 = .ok (.aload_n 0, 1) := dn_42 (ob_cJ5_appendNull_278bc_0 0 rfl rfl)
theorem dJ5_appendNull_278bc_1 : decode cJ5_appendNull_278bc 1 = .ok (.aload_n 0, 1) := dn_42 (ob_cJ5_appendNull_278bc_0 1 rfl rfl)
theorem dJ5_appendNull_278bc_2 : decode cJ5_appendNull_278bc 2 = .ok (.getfield 79, 3) := dn_180 (ob_cJ5_appendNull_278bc_0 2 rfl rfl) rfl
theorem dJ5_appendNull_278bc_5 : decode cJ5_appendNull_278bc 5 = .ok (.iconst 4, 1) := dn_7 (ob_cJ5_appendNull_278bc_0 5 rfl rfl)
theorem dJ5_appendNull_278bc_6 : decode cJ5_appendNull_278bc 6 = .ok (.iadd, 1) := dn_96 (ob_cJ5_appendNull_278bc_0 6 rfl rfl)
theorem dJ5_appendNull_278bc_7 : decode cJ5_appendNull_278bc 7 = .ok (.invokevirtual 100, 3) := dn_182 (ob_cJ5_appendNull_278bc_0 7 rfl rfl) rfl
theorem dJ5_appendNull_278bc_10 : decode cJ5_appendNull_278bc 10 = .ok (.aload_n 0, 1) := dn_42 (ob_cJ5_appendNull_278bc_0 10 rfl rfl)
theorem dJ5_appendNull_278bc_11 : decode cJ5_appendNull_278bc 11 = .ok (.getfield 79, 3) := dn_180 (ob_cJ5_appendNull_278bc_0 11 rfl rfl) rfl
theorem dJ5_appendNull_278bc_14 : decode cJ5_appendNull_278bc 14 = .ok (.istore_n 1, 1) := dn_60 (ob_cJ5_appendNull_278bc_0 14 rfl rfl)
theorem dJ5_appendNull_278bc_15 : decode cJ5_appendNull_278bc 15 = .ok (.aload_n 0, 1) := dn_42 (ob_cJ5_appendNull_278bc_0 15 rfl rfl)
theorem dJ5_appendNull_278bc_16 : decode cJ5_appendNull_278bc 16 = .ok (.getfield 15, 3) := dn_180 (ob_cJ5_appendNull_278bc_0 16 rfl rfl) rfl
theorem dJ5_appendNull_278bc_19 : decode cJ5_appendNull_278bc 19 = .ok (.astore_n 2, 1) := dn_77 (ob_cJ5_appendNull_278bc_0 19 rfl rfl)
theorem dJ5_appendNull_278bc_20 : decode cJ5_appendNull_278bc 20 = .ok (.aload_n 0, 1) := dn_42 (ob_cJ5_appendNull_278bc_0 20 rfl rfl)
theorem dJ5_appendNull_278bc_21 : decode cJ5_appendNull_278bc 21 = .ok (.invokevirtual 83, 3) := dn_182 (ob_cJ5_appendNull_278bc_0 21 rfl rfl) rfl
theorem dJ5_appendNull_278bc_24 : decode cJ5_appendNull_278bc 24 = .ok (.ifCond .eq 38, 3) := dn_153 (ob_cJ5_appendNull_278bc_0 24 rfl rfl) (by decide +kernel)
theorem dJ5_appendNull_278bc_27 : decode cJ5_appendNull_278bc 27 = .ok (.aload_n 2, 1) := dn_44 (ob_cJ5_appendNull_278bc_0 27 rfl rfl)
theorem dJ5_appendNull_278bc_28 : decode cJ5_appendNull_278bc 28 = .ok (.iload_n 1, 1) := dn_27 (ob_cJ5_appendNull_278bc_0 28 rfl rfl)
theorem dJ5_appendNull_278bc_29 : decode cJ5_appendNull_278bc 29 = .ok (.iinc 1 1, 3) := dn_132 (ob_cJ5_appendNull_278bc_0 29 rfl rfl) rfl (by decide +kernel)
theorem dJ5_appendNull_278bc_32 : decode cJ5_appendNull_278bc 32 = .ok (.bipush 110, 2) := dn_16 (ob_cJ5_appendNull_278bc_0 32 rfl rfl) (by decide +kernel)
theorem dJ5_appendNull_278bc_34 : decode cJ5_appendNull_278bc 34 = .ok (.bastore, 1) := dn_84 (ob_cJ5_appendNull_278bc_0 34 rfl rfl)
theorem dJ5_appendNull_278bc_35 : decode cJ5_appendNull_278bc 35 = .ok (.aload_n 2, 1) := dn_44 (ob_cJ5_appendNull_278bc_0 35 rfl rfl)
theorem dJ5_appendNull_278bc_36 : decode cJ5_appendNull_278bc 36 = .ok (.iload_n 1, 1) := dn_27 (ob_cJ5_appendNull_278bc_0 36 rfl rfl)
theorem dJ5_appendNull_278bc_37 : decode cJ5_appendNull_278bc 37 = .ok (.iinc 1 1, 3) := dn_132 (ob_cJ5_appendNull_278bc_0 37 rfl rfl) rfl (by decide +kernel)
theorem dJ5_appendNull_278bc_40 : decode cJ5_appendNull_278bc 40 = .ok (.bipush 117, 2) := dn_16 (ob_cJ5_appendNull_278bc_1 0 rfl rfl) (by decide +kernel)
theorem dJ5_appendNull_278bc_42 : decode cJ5_appendNull_278bc 42 = .ok (.bastore, 1) := dn_84 (ob_cJ5_appendNull_278bc_1 2 rfl rfl)
theorem dJ5_appendNull_278bc_43 : decode cJ5_appendNull_278bc 43 = .ok (.aload_n 2, 1) := dn_44 (ob_cJ5_appendNull_278bc_1 3 rfl rfl)
theorem dJ5_appendNull_278bc_44 : decode cJ5_appendNull_278bc 44 = .ok (.iload_n 1, 1) := dn_27 (ob_cJ5_appendNull_278bc_1 4 rfl rfl)
theorem dJ5_appendNull_278bc_45 : decode cJ5_appendNull_278bc 45 = .ok (.iinc 1 1, 3) := dn_132 (ob_cJ5_appendNull_278bc_1 5 rfl rfl) rfl (by decide +kernel)
theorem dJ5_appendNull_278bc_48 : decode cJ5_appendNull_278bc 48 = .ok (.bipush 108, 2) := dn_16 (ob_cJ5_appendNull_278bc_1 8 rfl rfl) (by decide +kernel)
theorem dJ5_appendNull_278bc_50 : decode cJ5_appendNull_278bc 50 = .ok (.bastore, 1) := dn_84 (ob_cJ5_appendNull_278bc_1 10 rfl rfl)
theorem dJ5_appendNull_278bc_51 : decode cJ5_appendNull_278bc 51 = .ok (.aload_n 2, 1) := dn_44 (ob_cJ5_appendNull_278bc_1 11 rfl rfl)
theorem dJ5_appendNull_278bc_52 : decode cJ5_appendNull_278bc 52 = .ok (.iload_n 1, 1) := dn_27 (ob_cJ5_appendNull_278bc_1 12 rfl rfl)
theorem dJ5_appendNull_278bc_53 : decode cJ5_appendNull_278bc 53 = .ok (.iinc 1 1, 3) := dn_132 (ob_cJ5_appendNull_278bc_1 13 rfl rfl) rfl (by decide +kernel)
theorem dJ5_appendNull_278bc_56 : decode cJ5_appendNull_278bc 56 = .ok (.bipush 108, 2) := dn_16 (ob_cJ5_appendNull_278bc_1 16 rfl rfl) (by decide +kernel)
theorem dJ5_appendNull_278bc_58 : decode cJ5_appendNull_278bc 58 = .ok (.bastore, 1) := dn_84 (ob_cJ5_appendNull_278bc_1 18 rfl rfl)
theorem dJ5_appendNull_278bc_59 : decode cJ5_appendNull_278bc 59 = .ok (.goto 17, 3) := dn_167 (ob_cJ5_appendNull_278bc_1 19 rfl rfl) (by decide +kernel)
theorem dJ5_appendNull_278bc_62 : decode cJ5_appendNull_278bc 62 = .ok (.aload_n 2, 1) := dn_44 (ob_cJ5_appendNull_278bc_1 22 rfl rfl)
theorem dJ5_appendNull_278bc_63 : decode cJ5_appendNull_278bc 63 = .ok (.iload_n 1, 1) := dn_27 (ob_cJ5_appendNull_278bc_1 23 rfl rfl)
theorem dJ5_appendNull_278bc_64 : decode cJ5_appendNull_278bc 64 = .ok (.bipush 110, 2) := dn_16 (ob_cJ5_appendNull_278bc_1 24 rfl rfl) (by decide +kernel)
theorem dJ5_appendNull_278bc_66 : decode cJ5_appendNull_278bc 66 = .ok (.bipush 117, 2) := dn_16 (ob_cJ5_appendNull_278bc_1 26 rfl rfl) (by decide +kernel)
theorem dJ5_appendNull_278bc_68 : decode cJ5_appendNull_278bc 68 = .ok (.bipush 108, 2) := dn_16 (ob_cJ5_appendNull_278bc_1 28 rfl rfl) (by decide +kernel)
theorem dJ5_appendNull_278bc_70 : decode cJ5_appendNull_278bc 70 = .ok (.bipush 108, 2) := dn_16 (ob_cJ5_appendNull_278bc_1 30 rfl rfl) (by decide +kernel)
theorem dJ5_appendNull_278bc_72 : decode cJ5_appendNull_278bc 72 = .ok (.invokestatic 226, 3) := dn_184 (ob_cJ5_appendNull_278bc_1 32 rfl rfl) rfl
theorem dJ5_appendNull_278bc_75 : decode cJ5_appendNull_278bc 75 = .ok (.istore_n 1, 1) := dn_60 (ob_cJ5_appendNull_278bc_1 35 rfl rfl)
theorem dJ5_appendNull_278bc_76 : decode cJ5_appendNull_278bc 76 = .ok (.aload_n 0, 1) := dn_42 (ob_cJ5_appendNull_278bc_1 36 rfl rfl)
theorem dJ5_appendNull_278bc_77 : decode cJ5_appendNull_278bc 77 = .ok (.iload_n 1, 1) := dn_27 (ob_cJ5_appendNull_278bc_1 37 rfl rfl)
theorem dJ5_appendNull_278bc_78 : decode cJ5_appendNull_278bc 78 = .ok (.putfield 79, 3) := dn_181 (ob_cJ5_appendNull_278bc_1 38 rfl rfl) rfl
theorem dJ5_appendNull_278bc_81 : decode cJ5_appendNull_278bc 81 = .ok (.aload_n 0, 1) := dn_42 (ob_cJ5_appendNull_278bc_2 0 rfl rfl)
theorem dJ5_appendNull_278bc_82 : decode cJ5_appendNull_278bc 82 = .ok (.areturn, 1) := dn_176 (ob_cJ5_appendNull_278bc_2 1 rfl rfl)
def kb_cJ5_append_3fe6f_0 : List UInt8 := [42, 42, 180, 0, 79, 4, 96, 182, 0, 100, 42, 182, 0, 83, 153, 0, 31, 27, 184, 0, 191, 153, 0, 24, 42, 180, 0, 15, 42, 89, 180, 0, 79, 90, 4, 96, 181, 0, 79, 27]
def kb_cJ5_append_3fe6f_1 : List UInt8 := [145, 84, 167, 0, 33, 42, 182, 0, 83, 153, 0, 7, 42, 182, 0, 195, 42, 180, 0, 15, 42, 89, 180, 0, 79, 90, 4, 96, 181, 0, 79, 27, 184, 0, 197, 42, 176]
def tb_cJ5_append_3fe6f_2 : List UInt8 := []
def tb_cJ5_append_3fe6f_1 : List UInt8 := kb_cJ5_append_3fe6f_1 ++ tb_cJ5_append_3fe6f_2
def tb_cJ5_append_3fe6f_0 : List UInt8 := kb_cJ5_append_3fe6f_0 ++ tb_cJ5_append_3fe6f_1
set_option maxRecDepth 100000 in
theorem tb_cJ5_append_3fe6f : (cJ5_append_3fe6f).data.toList = tb_cJ5_append_3fe6f_0 := eqL_eq (by decide +kernel)
theorem ow_cJ5_append_3fe6f_0 (r : Nat) : (cJ5_append_3fe6f).data.toList.drop (0 + r) = tb_cJ5_append_3fe6f_0.drop r := by rw [tb_cJ5_append_3fe6f, Nat.zero_add]
theorem ow_cJ5_append_3fe6f_1 (r : Nat) : (cJ5_append_3fe6f).data.toList.drop (40 + r) = tb_cJ5_append_3fe6f_1.drop r := by
  have e := ow_cJ5_append_3fe6f_0 (40 + r)
  rw [show 0 + (40 + r) = 40 + r by omega] at e
  exact e.trans (dr_len (a := kb_cJ5_append_3fe6f_0) (t := tb_cJ5_append_3fe6f_1) (by decide +kernel))
theorem ob_cJ5_append_3fe6f_0 (r : Nat) {pc : Nat} {l : List UInt8} (hp : 0 + r = pc) (h : tb_cJ5_append_3fe6f_0.drop r = l) : (cJ5_append_3fe6f).data.toList.drop pc = l := by
  subst hp
  exact (ow_cJ5_append_3fe6f_0 r).trans h
theorem ob_cJ5_append_3fe6f_1 (r : Nat) {pc : Nat} {l : List UInt8} (hp : 40 + r = pc) (h : tb_cJ5_append_3fe6f_1.drop r = l) : (cJ5_append_3fe6f).data.toList.drop pc = l := by
  subst hp
  exact (ow_cJ5_append_3fe6f_1 r).trans h
theorem dJ5_append_3fe6f_0 : decode cJ5_append_3fe6f 0 = .ok (.aload_n 0, 1) := dn_42 (ob_cJ5_append_3fe6f_0 0 rfl rfl)
theorem dJ5_append_3fe6f_1 : decode cJ5_append_3fe6f 1 = .ok (.aload_n 0, 1) := dn_42 (ob_cJ5_append_3fe6f_0 1 rfl rfl)
theorem dJ5_append_3fe6f_2 : decode cJ5_append_3fe6f 2 = .ok (.getfield 79, 3) := dn_180 (ob_cJ5_append_3fe6f_0 2 rfl rfl) rfl
theorem dJ5_append_3fe6f_5 : decode cJ5_append_3fe6f 5 = .ok (.iconst 1, 1) := dn_4 (ob_cJ5_append_3fe6f_0 5 rfl rfl)
theorem dJ5_append_3fe6f_6 : decode cJ5_append_3fe6f 6 = .ok (.iadd, 1) := dn_96 (ob_cJ5_append_3fe6f_0 6 rfl rfl)
theorem dJ5_append_3fe6f_7 : decode cJ5_append_3fe6f 7 = .ok (.invokevirtual 100, 3) := dn_182 (ob_cJ5_append_3fe6f_0 7 rfl rfl) rfl
theorem dJ5_append_3fe6f_10 : decode cJ5_append_3fe6f 10 = .ok (.aload_n 0, 1) := dn_42 (ob_cJ5_append_3fe6f_0 10 rfl rfl)
theorem dJ5_append_3fe6f_11 : decode cJ5_append_3fe6f 11 = .ok (.invokevirtual 83, 3) := dn_182 (ob_cJ5_append_3fe6f_0 11 rfl rfl) rfl
theorem dJ5_append_3fe6f_14 : decode cJ5_append_3fe6f 14 = .ok (.ifCond .eq 31, 3) := dn_153 (ob_cJ5_append_3fe6f_0 14 rfl rfl) (by decide +kernel)
theorem dJ5_append_3fe6f_17 : decode cJ5_append_3fe6f 17 = .ok (.iload_n 1, 1) := dn_27 (ob_cJ5_append_3fe6f_0 17 rfl rfl)
theorem dJ5_append_3fe6f_18 : decode cJ5_append_3fe6f 18 = .ok (.invokestatic 191, 3) := dn_184 (ob_cJ5_append_3fe6f_0 18 rfl rfl) rfl
theorem dJ5_append_3fe6f_21 : decode cJ5_append_3fe6f 21 = .ok (.ifCond .eq 24, 3) := dn_153 (ob_cJ5_append_3fe6f_0 21 rfl rfl) (by decide +kernel)
theorem dJ5_append_3fe6f_24 : decode cJ5_append_3fe6f 24 = .ok (.aload_n 0, 1) := dn_42 (ob_cJ5_append_3fe6f_0 24 rfl rfl)
theorem dJ5_append_3fe6f_25 : decode cJ5_append_3fe6f 25 = .ok (.getfield 15, 3) := dn_180 (ob_cJ5_append_3fe6f_0 25 rfl rfl) rfl
theorem dJ5_append_3fe6f_28 : decode cJ5_append_3fe6f 28 = .ok (.aload_n 0, 1) := dn_42 (ob_cJ5_append_3fe6f_0 28 rfl rfl)
theorem dJ5_append_3fe6f_29 : decode cJ5_append_3fe6f 29 = .ok (.dup, 1) := dn_89 (ob_cJ5_append_3fe6f_0 29 rfl rfl)
theorem dJ5_append_3fe6f_30 : decode cJ5_append_3fe6f 30 = .ok (.getfield 79, 3) := dn_180 (ob_cJ5_append_3fe6f_0 30 rfl rfl) rfl
theorem dJ5_append_3fe6f_33 : decode cJ5_append_3fe6f 33 = .ok (.dup_x1, 1) := dn_90 (ob_cJ5_append_3fe6f_0 33 rfl rfl)
theorem dJ5_append_3fe6f_34 : decode cJ5_append_3fe6f 34 = .ok (.iconst 1, 1) := dn_4 (ob_cJ5_append_3fe6f_0 34 rfl rfl)
theorem dJ5_append_3fe6f_35 : decode cJ5_append_3fe6f 35 = .ok (.iadd, 1) := dn_96 (ob_cJ5_append_3fe6f_0 35 rfl rfl)
theorem dJ5_append_3fe6f_36 : decode cJ5_append_3fe6f 36 = .ok (.putfield 79, 3) := dn_181 (ob_cJ5_append_3fe6f_0 36 rfl rfl) rfl
theorem dJ5_append_3fe6f_39 : decode cJ5_append_3fe6f 39 = .ok (.iload_n 1, 1) := dn_27 (ob_cJ5_append_3fe6f_0 39 rfl rfl)
theorem dJ5_append_3fe6f_40 : decode cJ5_append_3fe6f 40 = .ok (.i2b, 1) := dn_145 (ob_cJ5_append_3fe6f_1 0 rfl rfl)
theorem dJ5_append_3fe6f_41 : decode cJ5_append_3fe6f 41 = .ok (.bastore, 1) := dn_84 (ob_cJ5_append_3fe6f_1 1 rfl rfl)
theorem dJ5_append_3fe6f_42 : decode cJ5_append_3fe6f 42 = .ok (.goto 33, 3) := dn_167 (ob_cJ5_append_3fe6f_1 2 rfl rfl) (by decide +kernel)
theorem dJ5_append_3fe6f_45 : decode cJ5_append_3fe6f 45 = .ok (.aload_n 0, 1) := dn_42 (ob_cJ5_append_3fe6f_1 5 rfl rfl)
theorem dJ5_append_3fe6f_46 : decode cJ5_append_3fe6f 46 = .ok (.invokevirtual 83, 3) := dn_182 (ob_cJ5_append_3fe6f_1 6 rfl rfl) rfl
theorem dJ5_append_3fe6f_49 : decode cJ5_append_3fe6f 49 = .ok (.ifCond .eq 7, 3) := dn_153 (ob_cJ5_append_3fe6f_1 9 rfl rfl) (by decide +kernel)
theorem dJ5_append_3fe6f_52 : decode cJ5_append_3fe6f 52 = .ok (.aload_n 0, 1) := dn_42 (ob_cJ5_append_3fe6f_1 12 rfl rfl)
theorem dJ5_append_3fe6f_53 : decode cJ5_append_3fe6f 53 = .ok (.invokevirtual 195, 3) := dn_182 (ob_cJ5_append_3fe6f_1 13 rfl rfl) rfl
theorem dJ5_append_3fe6f_56 : decode cJ5_append_3fe6f 56 = .ok (.aload_n 0, 1) := dn_42 (ob_cJ5_append_3fe6f_1 16 rfl rfl)
theorem dJ5_append_3fe6f_57 : decode cJ5_append_3fe6f 57 = .ok (.getfield 15, 3) := dn_180 (ob_cJ5_append_3fe6f_1 17 rfl rfl) rfl
theorem dJ5_append_3fe6f_60 : decode cJ5_append_3fe6f 60 = .ok (.aload_n 0, 1) := dn_42 (ob_cJ5_append_3fe6f_1 20 rfl rfl)
theorem dJ5_append_3fe6f_61 : decode cJ5_append_3fe6f 61 = .ok (.dup, 1) := dn_89 (ob_cJ5_append_3fe6f_1 21 rfl rfl)
theorem dJ5_append_3fe6f_62 : decode cJ5_append_3fe6f 62 = .ok (.getfield 79, 3) := dn_180 (ob_cJ5_append_3fe6f_1 22 rfl rfl) rfl
theorem dJ5_append_3fe6f_65 : decode cJ5_append_3fe6f 65 = .ok (.dup_x1, 1) := dn_90 (ob_cJ5_append_3fe6f_1 25 rfl rfl)
theorem dJ5_append_3fe6f_66 : decode cJ5_append_3fe6f 66 = .ok (.iconst 1, 1) := dn_4 (ob_cJ5_append_3fe6f_1 26 rfl rfl)
theorem dJ5_append_3fe6f_67 : decode cJ5_append_3fe6f 67 = .ok (.iadd, 1) := dn_96 (ob_cJ5_append_3fe6f_1 27 rfl rfl)
theorem dJ5_append_3fe6f_68 : decode cJ5_append_3fe6f 68 = .ok (.putfield 79, 3) := dn_181 (ob_cJ5_append_3fe6f_1 28 rfl rfl) rfl
theorem dJ5_append_3fe6f_71 : decode cJ5_append_3fe6f 71 = .ok (.iload_n 1, 1) := dn_27 (ob_cJ5_append_3fe6f_1 31 rfl rfl)
theorem dJ5_append_3fe6f_72 : decode cJ5_append_3fe6f 72 = .ok (.invokestatic 197, 3) := dn_184 (ob_cJ5_append_3fe6f_1 32 rfl rfl) rfl
theorem dJ5_append_3fe6f_75 : decode cJ5_append_3fe6f 75 = .ok (.aload_n 0, 1) := dn_42 (ob_cJ5_append_3fe6f_1 35 rfl rfl)
theorem dJ5_append_3fe6f_76 : decode cJ5_append_3fe6f 76 = .ok (.areturn, 1) := dn_176 (ob_cJ5_append_3fe6f_1 36 rfl rfl)
def kb_cJ5_append_c97b9_0 : List UInt8 := [42, 180, 0, 79, 61, 28, 27, 184, 0, 245, 96, 62, 42, 29, 182, 0, 100, 42, 182, 0, 83, 153, 0, 16, 27, 29, 42, 180, 0, 15, 184, 0, 248, 87, 167, 0, 14, 27, 28, 29]
def kb_cJ5_append_c97b9_1 : List UInt8 := [42, 180, 0, 15, 184, 0, 251, 87, 42, 29, 181, 0, 79, 42, 176]
def tb_cJ5_append_c97b9_2 : List UInt8 := []
def tb_cJ5_append_c97b9_1 : List UInt8 := kb_cJ5_append_c97b9_1 ++ tb_cJ5_append_c97b9_2
def tb_cJ5_append_c97b9_0 : List UInt8 := kb_cJ5_append_c97b9_0 ++ tb_cJ5_append_c97b9_1
set_option maxRecDepth 100000 in
theorem tb_cJ5_append_c97b9 : (cJ5_append_c97b9).data.toList = tb_cJ5_append_c97b9_0 := eqL_eq (by decide +kernel)
theorem ow_cJ5_append_c97b9_0 (r : Nat) : (cJ5_append_c97b9).data.toList.drop (0 + r) = tb_cJ5_append_c97b9_0.drop r := by rw [tb_cJ5_append_c97b9, Nat.zero_add]
theorem ow_cJ5_append_c97b9_1 (r : Nat) : (cJ5_append_c97b9).data.toList.drop (40 + r) = tb_cJ5_append_c97b9_1.drop r := by
  have e := ow_cJ5_append_c97b9_0 (40 + r)
  rw [show 0 + (40 + r) = 40 + r by omega] at e
  exact e.trans (dr_len (a := kb_cJ5_append_c97b9_0) (t := tb_cJ5_append_c97b9_1) (by decide +kernel))
theorem ob_cJ5_append_c97b9_0 (r : Nat) {pc : Nat} {l : List UInt8} (hp : 0 + r = pc) (h : tb_cJ5_append_c97b9_0.drop r = l) : (cJ5_append_c97b9).data.toList.drop pc = l := by
  subst hp
  exact (ow_cJ5_append_c97b9_0 r).trans h
theorem ob_cJ5_append_c97b9_1 (r : Nat) {pc : Nat} {l : List UInt8} (hp : 40 + r = pc) (h : tb_cJ5_append_c97b9_1.drop r = l) : (cJ5_append_c97b9).data.toList.drop pc = l := by
  subst hp
  exact (ow_cJ5_append_c97b9_1 r).trans h
theorem dJ5_append_c97b9_0 : decode cJ5_append_c97b9 0 = .ok (.aload_n 0, 1) := dn_42 (ob_cJ5_append_c97b9_0 0 rfl rfl)
theorem dJ5_append_c97b9_1 : decode cJ5_append_c97b9 1 = .ok (.getfield 79, 3) := dn_180 (ob_cJ5_append_c97b9_0 1 rfl rfl) rfl
theorem dJ5_append_c97b9_4 : decode cJ5_append_c97b9 4 = .ok (.istore_n 2, 1) := dn_61 (ob_cJ5_append_c97b9_0 4 rfl rfl)
theorem dJ5_append_c97b9_5 : decode cJ5_append_c97b9 5 = .ok (.iload_n 2, 1) := dn_28 (ob_cJ5_append_c97b9_0 5 rfl rfl)
theorem dJ5_append_c97b9_6 : decode cJ5_append_c97b9 6 = .ok (.iload_n 1, 1) := dn_27 (ob_cJ5_append_c97b9_0 6 rfl rfl)
theorem dJ5_append_c97b9_7 : decode cJ5_append_c97b9 7 = .ok (.invokestatic 245, 3) := dn_184 (ob_cJ5_append_c97b9_0 7 rfl rfl) rfl
theorem dJ5_append_c97b9_10 : decode cJ5_append_c97b9 10 = .ok (.iadd, 1) := dn_96 (ob_cJ5_append_c97b9_0 10 rfl rfl)
theorem dJ5_append_c97b9_11 : decode cJ5_append_c97b9 11 = .ok (.istore_n 3, 1) := dn_62 (ob_cJ5_append_c97b9_0 11 rfl rfl)
theorem dJ5_append_c97b9_12 : decode cJ5_append_c97b9 12 = .ok (.aload_n 0, 1) := dn_42 (ob_cJ5_append_c97b9_0 12 rfl rfl)
theorem dJ5_append_c97b9_13 : decode cJ5_append_c97b9 13 = .ok (.iload_n 3, 1) := dn_29 (ob_cJ5_append_c97b9_0 13 rfl rfl)
theorem dJ5_append_c97b9_14 : decode cJ5_append_c97b9 14 = .ok (.invokevirtual 100, 3) := dn_182 (ob_cJ5_append_c97b9_0 14 rfl rfl) rfl
theorem dJ5_append_c97b9_17 : decode cJ5_append_c97b9 17 = .ok (.aload_n 0, 1) := dn_42 (ob_cJ5_append_c97b9_0 17 rfl rfl)
theorem dJ5_append_c97b9_18 : decode cJ5_append_c97b9 18 = .ok (.invokevirtual 83, 3) := dn_182 (ob_cJ5_append_c97b9_0 18 rfl rfl) rfl
theorem dJ5_append_c97b9_21 : decode cJ5_append_c97b9 21 = .ok (.ifCond .eq 16, 3) := dn_153 (ob_cJ5_append_c97b9_0 21 rfl rfl) (by decide +kernel)
theorem dJ5_append_c97b9_24 : decode cJ5_append_c97b9 24 = .ok (.iload_n 1, 1) := dn_27 (ob_cJ5_append_c97b9_0 24 rfl rfl)
theorem dJ5_append_c97b9_25 : decode cJ5_append_c97b9 25 = .ok (.iload_n 3, 1) := dn_29 (ob_cJ5_append_c97b9_0 25 rfl rfl)
theorem dJ5_append_c97b9_26 : decode cJ5_append_c97b9 26 = .ok (.aload_n 0, 1) := dn_42 (ob_cJ5_append_c97b9_0 26 rfl rfl)
theorem dJ5_append_c97b9_27 : decode cJ5_append_c97b9 27 = .ok (.getfield 15, 3) := dn_180 (ob_cJ5_append_c97b9_0 27 rfl rfl) rfl
theorem dJ5_append_c97b9_30 : decode cJ5_append_c97b9 30 = .ok (.invokestatic 248, 3) := dn_184 (ob_cJ5_append_c97b9_0 30 rfl rfl) rfl
theorem dJ5_append_c97b9_33 : decode cJ5_append_c97b9 33 = .ok (.pop, 1) := dn_87 (ob_cJ5_append_c97b9_0 33 rfl rfl)
theorem dJ5_append_c97b9_34 : decode cJ5_append_c97b9 34 = .ok (.goto 14, 3) := dn_167 (ob_cJ5_append_c97b9_0 34 rfl rfl) (by decide +kernel)
theorem dJ5_append_c97b9_37 : decode cJ5_append_c97b9 37 = .ok (.iload_n 1, 1) := dn_27 (ob_cJ5_append_c97b9_0 37 rfl rfl)
theorem dJ5_append_c97b9_38 : decode cJ5_append_c97b9 38 = .ok (.iload_n 2, 1) := dn_28 (ob_cJ5_append_c97b9_0 38 rfl rfl)
theorem dJ5_append_c97b9_39 : decode cJ5_append_c97b9 39 = .ok (.iload_n 3, 1) := dn_29 (ob_cJ5_append_c97b9_0 39 rfl rfl)
theorem dJ5_append_c97b9_40 : decode cJ5_append_c97b9 40 = .ok (.aload_n 0, 1) := dn_42 (ob_cJ5_append_c97b9_1 0 rfl rfl)
theorem dJ5_append_c97b9_41 : decode cJ5_append_c97b9 41 = .ok (.getfield 15, 3) := dn_180 (ob_cJ5_append_c97b9_1 1 rfl rfl) rfl
theorem dJ5_append_c97b9_44 : decode cJ5_append_c97b9 44 = .ok (.invokestatic 251, 3) := dn_184 (ob_cJ5_append_c97b9_1 4 rfl rfl) rfl
theorem dJ5_append_c97b9_47 : decode cJ5_append_c97b9 47 = .ok (.pop, 1) := dn_87 (ob_cJ5_append_c97b9_1 7 rfl rfl)
theorem dJ5_append_c97b9_48 : decode cJ5_append_c97b9 48 = .ok (.aload_n 0, 1) := dn_42 (ob_cJ5_append_c97b9_1 8 rfl rfl)
theorem dJ5_append_c97b9_49 : decode cJ5_append_c97b9 49 = .ok (.iload_n 3, 1) := dn_29 (ob_cJ5_append_c97b9_1 9 rfl rfl)
theorem dJ5_append_c97b9_50 : decode cJ5_append_c97b9 50 = .ok (.putfield 79, 3) := dn_181 (ob_cJ5_append_c97b9_1 10 rfl rfl) rfl
theorem dJ5_append_c97b9_53 : decode cJ5_append_c97b9 53 = .ok (.aload_n 0, 1) := dn_42 (ob_cJ5_append_c97b9_1 13 rfl rfl)
theorem dJ5_append_c97b9_54 : decode cJ5_append_c97b9 54 = .ok (.areturn, 1) := dn_176 (ob_cJ5_append_c97b9_1 14 rfl rfl)
def kb_cJ5_getValue_6d5f1 : List UInt8 := [42, 180, 0, 15, 176]
set_option maxRecDepth 10000 in
theorem ob_cJ5_getValue_6d5f1 (r : Nat) {l : List UInt8} (h : kb_cJ5_getValue_6d5f1.drop r = l) : (cJ5_getValue_6d5f1).data.toList.drop r = l := by
  rw [show (cJ5_getValue_6d5f1).data.toList = kb_cJ5_getValue_6d5f1 from eqL_eq (by decide +kernel)]
  exact h
theorem dJ5_getValue_6d5f1_0 : decode cJ5_getValue_6d5f1 0 = .ok (.aload_n 0, 1) := dn_42 (ob_cJ5_getValue_6d5f1 0 rfl)
theorem dJ5_getValue_6d5f1_1 : decode cJ5_getValue_6d5f1 1 = .ok (.getfield 15, 3) := dn_180 (ob_cJ5_getValue_6d5f1 1 rfl) rfl
theorem dJ5_getValue_6d5f1_4 : decode cJ5_getValue_6d5f1 4 = .ok (.areturn, 1) := dn_176 (ob_cJ5_getValue_6d5f1 4 rfl)
def kb_cJ5_isLatin1_aae02 : List UInt8 := [178, 0, 18, 153, 0, 14, 42, 180, 0, 22, 154, 0, 7, 4, 167, 0, 4, 3, 172]
set_option maxRecDepth 10000 in
theorem ob_cJ5_isLatin1_aae02 (r : Nat) {l : List UInt8} (h : kb_cJ5_isLatin1_aae02.drop r = l) : (cJ5_isLatin1_aae02).data.toList.drop r = l := by
  rw [show (cJ5_isLatin1_aae02).data.toList = kb_cJ5_isLatin1_aae02 from eqL_eq (by decide +kernel)]
  exact h
theorem dJ5_isLatin1_aae02_0 : decode cJ5_isLatin1_aae02 0 = .ok (.getstatic 18, 3) := dn_178 (ob_cJ5_isLatin1_aae02 0 rfl) rfl
theorem dJ5_isLatin1_aae02_3 : decode cJ5_isLatin1_aae02 3 = .ok (.ifCond .eq 14, 3) := dn_153 (ob_cJ5_isLatin1_aae02 3 rfl) (by decide +kernel)
theorem dJ5_isLatin1_aae02_6 : decode cJ5_isLatin1_aae02 6 = .ok (.aload_n 0, 1) := dn_42 (ob_cJ5_isLatin1_aae02 6 rfl)
theorem dJ5_isLatin1_aae02_7 : decode cJ5_isLatin1_aae02 7 = .ok (.getfield 22, 3) := dn_180 (ob_cJ5_isLatin1_aae02 7 rfl) rfl
theorem dJ5_isLatin1_aae02_10 : decode cJ5_isLatin1_aae02 10 = .ok (.ifCond .ne 7, 3) := dn_154 (ob_cJ5_isLatin1_aae02 10 rfl) (by decide +kernel)
theorem dJ5_isLatin1_aae02_13 : decode cJ5_isLatin1_aae02 13 = .ok (.iconst 1, 1) := dn_4 (ob_cJ5_isLatin1_aae02 13 rfl)
theorem dJ5_isLatin1_aae02_14 : decode cJ5_isLatin1_aae02 14 = .ok (.goto 4, 3) := dn_167 (ob_cJ5_isLatin1_aae02 14 rfl) (by decide +kernel)
theorem dJ5_isLatin1_aae02_17 : decode cJ5_isLatin1_aae02 17 = .ok (.iconst 0, 1) := dn_3 (ob_cJ5_isLatin1_aae02 17 rfl)
theorem dJ5_isLatin1_aae02_18 : decode cJ5_isLatin1_aae02 18 = .ok (.ireturn, 1) := dn_172 (ob_cJ5_isLatin1_aae02 18 rfl)
def kb_cJ5_inflateIfNeededFor_a7421 : List UInt8 := [178, 0, 18, 153, 0, 18, 42, 180, 0, 22, 43, 182, 0, 40, 159, 0, 7, 42, 182, 0, 195, 177]
set_option maxRecDepth 10000 in
theorem ob_cJ5_inflateIfNeededFor_a7421 (r : Nat) {l : List UInt8} (h : kb_cJ5_inflateIfNeededFor_a7421.drop r = l) : (cJ5_inflateIfNeededFor_a7421).data.toList.drop r = l := by
  rw [show (cJ5_inflateIfNeededFor_a7421).data.toList = kb_cJ5_inflateIfNeededFor_a7421 from eqL_eq (by decide +kernel)]
  exact h
theorem dJ5_inflateIfNeededFor_a7421_0 : decode cJ5_inflateIfNeededFor_a7421 0 = .ok (.getstatic 18, 3) := dn_178 (ob_cJ5_inflateIfNeededFor_a7421 0 rfl) rfl
theorem dJ5_inflateIfNeededFor_a7421_3 : decode cJ5_inflateIfNeededFor_a7421 3 = .ok (.ifCond .eq 18, 3) := dn_153 (ob_cJ5_inflateIfNeededFor_a7421 3 rfl) (by decide +kernel)
theorem dJ5_inflateIfNeededFor_a7421_6 : decode cJ5_inflateIfNeededFor_a7421 6 = .ok (.aload_n 0, 1) := dn_42 (ob_cJ5_inflateIfNeededFor_a7421 6 rfl)
theorem dJ5_inflateIfNeededFor_a7421_7 : decode cJ5_inflateIfNeededFor_a7421 7 = .ok (.getfield 22, 3) := dn_180 (ob_cJ5_inflateIfNeededFor_a7421 7 rfl) rfl
theorem dJ5_inflateIfNeededFor_a7421_10 : decode cJ5_inflateIfNeededFor_a7421 10 = .ok (.aload_n 1, 1) := dn_43 (ob_cJ5_inflateIfNeededFor_a7421 10 rfl)
theorem dJ5_inflateIfNeededFor_a7421_11 : decode cJ5_inflateIfNeededFor_a7421 11 = .ok (.invokevirtual 40, 3) := dn_182 (ob_cJ5_inflateIfNeededFor_a7421 11 rfl) rfl
theorem dJ5_inflateIfNeededFor_a7421_14 : decode cJ5_inflateIfNeededFor_a7421 14 = .ok (.if_icmp .eq 7, 3) := dn_159 (ob_cJ5_inflateIfNeededFor_a7421 14 rfl) (by decide +kernel)
theorem dJ5_inflateIfNeededFor_a7421_17 : decode cJ5_inflateIfNeededFor_a7421 17 = .ok (.aload_n 0, 1) := dn_42 (ob_cJ5_inflateIfNeededFor_a7421 17 rfl)
theorem dJ5_inflateIfNeededFor_a7421_18 : decode cJ5_inflateIfNeededFor_a7421 18 = .ok (.invokevirtual 195, 3) := dn_182 (ob_cJ5_inflateIfNeededFor_a7421 18 rfl) rfl
theorem dJ5_inflateIfNeededFor_a7421_21 : decode cJ5_inflateIfNeededFor_a7421 21 = .ok (.return_, 1) := dn_177 (ob_cJ5_inflateIfNeededFor_a7421 21 rfl)
def kb_cJ5_putStringAt_47b60 : List UInt8 := [42, 44, 182, 1, 141, 44, 42, 180, 0, 15, 27, 42, 180, 0, 22, 182, 1, 143, 177]
set_option maxRecDepth 10000 in
theorem ob_cJ5_putStringAt_47b60 (r : Nat) {l : List UInt8} (h : kb_cJ5_putStringAt_47b60.drop r = l) : (cJ5_putStringAt_47b60).data.toList.drop r = l := by
  rw [show (cJ5_putStringAt_47b60).data.toList = kb_cJ5_putStringAt_47b60 from eqL_eq (by decide +kernel)]
  exact h
theorem dJ5_putStringAt_47b60_0 : decode cJ5_putStringAt_47b60 0 = .ok (.aload_n 0, 1) := dn_42 (ob_cJ5_putStringAt_47b60 0 rfl)
theorem dJ5_putStringAt_47b60_1 : decode cJ5_putStringAt_47b60 1 = .ok (.aload_n 2, 1) := dn_44 (ob_cJ5_putStringAt_47b60 1 rfl)
theorem dJ5_putStringAt_47b60_2 : decode cJ5_putStringAt_47b60 2 = .ok (.invokevirtual 397, 3) := dn_182 (ob_cJ5_putStringAt_47b60 2 rfl) rfl
theorem dJ5_putStringAt_47b60_5 : decode cJ5_putStringAt_47b60 5 = .ok (.aload_n 2, 1) := dn_44 (ob_cJ5_putStringAt_47b60 5 rfl)
theorem dJ5_putStringAt_47b60_6 : decode cJ5_putStringAt_47b60 6 = .ok (.aload_n 0, 1) := dn_42 (ob_cJ5_putStringAt_47b60 6 rfl)
theorem dJ5_putStringAt_47b60_7 : decode cJ5_putStringAt_47b60 7 = .ok (.getfield 15, 3) := dn_180 (ob_cJ5_putStringAt_47b60 7 rfl) rfl
theorem dJ5_putStringAt_47b60_10 : decode cJ5_putStringAt_47b60 10 = .ok (.iload_n 1, 1) := dn_27 (ob_cJ5_putStringAt_47b60 10 rfl)
theorem dJ5_putStringAt_47b60_11 : decode cJ5_putStringAt_47b60 11 = .ok (.aload_n 0, 1) := dn_42 (ob_cJ5_putStringAt_47b60 11 rfl)
theorem dJ5_putStringAt_47b60_12 : decode cJ5_putStringAt_47b60 12 = .ok (.getfield 22, 3) := dn_180 (ob_cJ5_putStringAt_47b60 12 rfl) rfl
theorem dJ5_putStringAt_47b60_15 : decode cJ5_putStringAt_47b60 15 = .ok (.invokevirtual 399, 3) := dn_182 (ob_cJ5_putStringAt_47b60 15 rfl) rfl
theorem dJ5_putStringAt_47b60_18 : decode cJ5_putStringAt_47b60 18 = .ok (.return_, 1) := dn_177 (ob_cJ5_putStringAt_47b60 18 rfl)
def kb_cJ6_getChars_ba4f3_0 : List UInt8 := [27, 54, 5, 26, 156, 0, 7, 4, 167, 0, 4, 3, 54, 6, 21, 6, 154, 0, 6, 26, 116, 59, 26, 16, 156, 163, 0, 47, 26, 16, 100, 108, 62, 29, 16, 100, 104, 26, 100, 54, 4]
def kb_cJ6_getChars_ba4f3_1 : List UInt8 := [29, 59, 44, 132, 5, 255, 21, 5, 178, 0, 83, 21, 4, 51, 84, 44, 132, 5, 255, 21, 5, 178, 0, 87, 21, 4, 51, 84, 167, 255, 209, 44, 132, 5, 255, 21, 5, 178, 0, 83]
def kb_cJ6_getChars_ba4f3_2 : List UInt8 := [26, 116, 51, 84, 26, 16, 247, 162, 0, 16, 44, 132, 5, 255, 21, 5, 178, 0, 87, 26, 116, 51, 84, 21, 6, 153, 0, 12, 44, 132, 5, 255, 21, 5, 16, 45, 84, 21, 5, 172]
def tb_cJ6_getChars_ba4f3_3 : List UInt8 := []
def tb_cJ6_getChars_ba4f3_2 : List UInt8 := kb_cJ6_getChars_ba4f3_2 ++ tb_cJ6_getChars_ba4f3_3
def tb_cJ6_getChars_ba4f3_1 : List UInt8 := kb_cJ6_getChars_ba4f3_1 ++ tb_cJ6_getChars_ba4f3_2
def tb_cJ6_getChars_ba4f3_0 : List UInt8 := kb_cJ6_getChars_ba4f3_0 ++ tb_cJ6_getChars_ba4f3_1
set_option maxRecDepth 100000 in
theorem tb_cJ6_getChars_ba4f3 : (cJ6_getChars_ba4f3).data.toList = tb_cJ6_getChars_ba4f3_0 := eqL_eq (by decide +kernel)
theorem ow_cJ6_getChars_ba4f3_0 (r : Nat) : (cJ6_getChars_ba4f3).data.toList.drop (0 + r) = tb_cJ6_getChars_ba4f3_0.drop r := by rw [tb_cJ6_getChars_ba4f3, Nat.zero_add]
theorem ow_cJ6_getChars_ba4f3_1 (r : Nat) : (cJ6_getChars_ba4f3).data.toList.drop (41 + r) = tb_cJ6_getChars_ba4f3_1.drop r := by
  have e := ow_cJ6_getChars_ba4f3_0 (41 + r)
  rw [show 0 + (41 + r) = 41 + r by omega] at e
  exact e.trans (dr_len (a := kb_cJ6_getChars_ba4f3_0) (t := tb_cJ6_getChars_ba4f3_1) (by decide +kernel))
theorem ow_cJ6_getChars_ba4f3_2 (r : Nat) : (cJ6_getChars_ba4f3).data.toList.drop (81 + r) = tb_cJ6_getChars_ba4f3_2.drop r := by
  have e := ow_cJ6_getChars_ba4f3_1 (40 + r)
  rw [show 41 + (40 + r) = 81 + r by omega] at e
  exact e.trans (dr_len (a := kb_cJ6_getChars_ba4f3_1) (t := tb_cJ6_getChars_ba4f3_2) (by decide +kernel))
theorem ob_cJ6_getChars_ba4f3_0 (r : Nat) {pc : Nat} {l : List UInt8} (hp : 0 + r = pc) (h : tb_cJ6_getChars_ba4f3_0.drop r = l) : (cJ6_getChars_ba4f3).data.toList.drop pc = l := by
  subst hp
  exact (ow_cJ6_getChars_ba4f3_0 r).trans h
theorem ob_cJ6_getChars_ba4f3_1 (r : Nat) {pc : Nat} {l : List UInt8} (hp : 41 + r = pc) (h : tb_cJ6_getChars_ba4f3_1.drop r = l) : (cJ6_getChars_ba4f3).data.toList.drop pc = l := by
  subst hp
  exact (ow_cJ6_getChars_ba4f3_1 r).trans h
theorem ob_cJ6_getChars_ba4f3_2 (r : Nat) {pc : Nat} {l : List UInt8} (hp : 81 + r = pc) (h : tb_cJ6_getChars_ba4f3_2.drop r = l) : (cJ6_getChars_ba4f3).data.toList.drop pc = l := by
  subst hp
  exact (ow_cJ6_getChars_ba4f3_2 r).trans h
theorem dJ6_getChars_ba4f3_0 : decode cJ6_getChars_ba4f3 0 = .ok (.iload_n 1, 1) := dn_27 (ob_cJ6_getChars_ba4f3_0 0 rfl rfl)
theorem dJ6_getChars_ba4f3_1 : decode cJ6_getChars_ba4f3 1 = .ok (.istore 5, 2) := dn_54 (ob_cJ6_getChars_ba4f3_0 1 rfl rfl) rfl
theorem dJ6_getChars_ba4f3_3 : decode cJ6_getChars_ba4f3 3 = .ok (.iload_n 0, 1) := dn_26 (ob_cJ6_getChars_ba4f3_0 3 rfl rfl)
theorem dJ6_getChars_ba4f3_4 : decode cJ6_getChars_ba4f3 4 = .ok (.ifCond .ge 7, 3) := dn_156 (ob_cJ6_getChars_ba4f3_0 4 rfl rfl) (by decide +kernel)
theorem dJ6_getChars_ba4f3_7 : decode cJ6_getChars_ba4f3 7 = .ok (.iconst 1, 1) := dn_4 (ob_cJ6_getChars_ba4f3_0 7 rfl rfl)
theorem dJ6_getChars_ba4f3_8 : decode cJ6_getChars_ba4f3 8 = .ok (.goto 4, 3) := dn_167 (ob_cJ6_getChars_ba4f3_0 8 rfl rfl) (by decide +kernel)
theorem dJ6_getChars_ba4f3_11 : decode cJ6_getChars_ba4f3 11 = .ok (.iconst 0, 1) := dn_3 (ob_cJ6_getChars_ba4f3_0 11 rfl rfl)
theorem dJ6_getChars_ba4f3_12 : decode cJ6_getChars_ba4f3 12 = .ok (.istore 6, 2) := dn_54 (ob_cJ6_getChars_ba4f3_0 12 rfl rfl) rfl
theorem dJ6_getChars_ba4f3_14 : decode cJ6_getChars_ba4f3 14 = .ok (.iload 6, 2) := dn_21 (ob_cJ6_getChars_ba4f3_0 14 rfl rfl) rfl
theorem dJ6_getChars_ba4f3_16 : decode cJ6_getChars_ba4f3 16 = .ok (.ifCond .ne 6, 3) := dn_154 (ob_cJ6_getChars_ba4f3_0 16 rfl rfl) (by decide +kernel)
theorem dJ6_getChars_ba4f3_19 : decode cJ6_getChars_ba4f3 19 = .ok (.iload_n 0, 1) := dn_26 (ob_cJ6_getChars_ba4f3_0 19 rfl rfl)
theorem dJ6_getChars_ba4f3_20 : decode cJ6_getChars_ba4f3 20 = .ok (.ineg, 1) := dn_116 (ob_cJ6_getChars_ba4f3_0 20 rfl rfl)
theorem dJ6_getChars_ba4f3_21 : decode cJ6_getChars_ba4f3 21 = .ok (.istore_n 0, 1) := dn_59 (ob_cJ6_getChars_ba4f3_0 21 rfl rfl)
theorem dJ6_getChars_ba4f3_22 : decode cJ6_getChars_ba4f3 22 = .ok (.iload_n 0, 1) := dn_26 (ob_cJ6_getChars_ba4f3_0 22 rfl rfl)
theorem dJ6_getChars_ba4f3_23 : decode cJ6_getChars_ba4f3 23 = .ok (.bipush (-100), 2) := dn_16 (ob_cJ6_getChars_ba4f3_0 23 rfl rfl) (by decide +kernel)
theorem dJ6_getChars_ba4f3_25 : decode cJ6_getChars_ba4f3 25 = .ok (.if_icmp .gt 47, 3) := dn_163 (ob_cJ6_getChars_ba4f3_0 25 rfl rfl) (by decide +kernel)
theorem dJ6_getChars_ba4f3_28 : decode cJ6_getChars_ba4f3 28 = .ok (.iload_n 0, 1) := dn_26 (ob_cJ6_getChars_ba4f3_0 28 rfl rfl)
theorem dJ6_getChars_ba4f3_29 : decode cJ6_getChars_ba4f3 29 = .ok (.bipush 100, 2) := dn_16 (ob_cJ6_getChars_ba4f3_0 29 rfl rfl) (by decide +kernel)
theorem dJ6_getChars_ba4f3_31 : decode cJ6_getChars_ba4f3 31 = .ok (.idiv, 1) := dn_108 (ob_cJ6_getChars_ba4f3_0 31 rfl rfl)
theorem dJ6_getChars_ba4f3_32 : decode cJ6_getChars_ba4f3 32 = .ok (.istore_n 3, 1) := dn_62 (ob_cJ6_getChars_ba4f3_0 32 rfl rfl)
theorem dJ6_getChars_ba4f3_33 : decode cJ6_getChars_ba4f3 33 = .ok (.iload_n 3, 1) := dn_29 (ob_cJ6_getChars_ba4f3_0 33 rfl rfl)
theorem dJ6_getChars_ba4f3_34 : decode cJ6_getChars_ba4f3 34 = .ok (.bipush 100, 2) := dn_16 (ob_cJ6_getChars_ba4f3_0 34 rfl rfl) (by decide +kernel)
theorem dJ6_getChars_ba4f3_36 : decode cJ6_getChars_ba4f3 36 = .ok (.imul, 1) := dn_104 (ob_cJ6_getChars_ba4f3_0 36 rfl rfl)
theorem dJ6_getChars_ba4f3_37 : decode cJ6_getChars_ba4f3 37 = .ok (.iload_n 0, 1) := dn_26 (ob_cJ6_getChars_ba4f3_0 37 rfl rfl)
theorem dJ6_getChars_ba4f3_38 : decode cJ6_getChars_ba4f3 38 = .ok (.isub, 1) := dn_100 (ob_cJ6_getChars_ba4f3_0 38 rfl rfl)
theorem dJ6_getChars_ba4f3_39 : decode cJ6_getChars_ba4f3 39 = .ok (.istore 4, 2) := dn_54 (ob_cJ6_getChars_ba4f3_0 39 rfl rfl) rfl
theorem dJ6_getChars_ba4f3_41 : decode cJ6_getChars_ba4f3 41 = .ok (.iload_n 3, 1) := dn_29 (ob_cJ6_getChars_ba4f3_1 0 rfl rfl)
theorem dJ6_getChars_ba4f3_42 : decode cJ6_getChars_ba4f3 42 = .ok (.istore_n 0, 1) := dn_59 (ob_cJ6_getChars_ba4f3_1 1 rfl rfl)
theorem dJ6_getChars_ba4f3_43 : decode cJ6_getChars_ba4f3 43 = .ok (.aload_n 2, 1) := dn_44 (ob_cJ6_getChars_ba4f3_1 2 rfl rfl)
theorem dJ6_getChars_ba4f3_44 : decode cJ6_getChars_ba4f3 44 = .ok (.iinc 5 (-1), 3) := dn_132 (ob_cJ6_getChars_ba4f3_1 3 rfl rfl) rfl (by decide +kernel)
theorem dJ6_getChars_ba4f3_47 : decode cJ6_getChars_ba4f3 47 = .ok (.iload 5, 2) := dn_21 (ob_cJ6_getChars_ba4f3_1 6 rfl rfl) rfl
theorem dJ6_getChars_ba4f3_49 : decode cJ6_getChars_ba4f3 49 = .ok (.getstatic 83, 3) := dn_178 (ob_cJ6_getChars_ba4f3_1 8 rfl rfl) rfl
theorem dJ6_getChars_ba4f3_52 : decode cJ6_getChars_ba4f3 52 = .ok (.iload 4, 2) := dn_21 (ob_cJ6_getChars_ba4f3_1 11 rfl rfl) rfl
theorem dJ6_getChars_ba4f3_54 : decode cJ6_getChars_ba4f3 54 = .ok (.baload, 1) := dn_51 (ob_cJ6_getChars_ba4f3_1 13 rfl rfl)
theorem dJ6_getChars_ba4f3_55 : decode cJ6_getChars_ba4f3 55 = .ok (.bastore, 1) := dn_84 (ob_cJ6_getChars_ba4f3_1 14 rfl rfl)
theorem dJ6_getChars_ba4f3_56 : decode cJ6_getChars_ba4f3 56 = .ok (.aload_n 2, 1) := dn_44 (ob_cJ6_getChars_ba4f3_1 15 rfl rfl)
theorem dJ6_getChars_ba4f3_57 : decode cJ6_getChars_ba4f3 57 = .ok (.iinc 5 (-1), 3) := dn_132 (ob_cJ6_getChars_ba4f3_1 16 rfl rfl) rfl (by decide +kernel)
theorem dJ6_getChars_ba4f3_60 : decode cJ6_getChars_ba4f3 60 = .ok (.iload 5, 2) := dn_21 (ob_cJ6_getChars_ba4f3_1 19 rfl rfl) rfl
theorem dJ6_getChars_ba4f3_62 : decode cJ6_getChars_ba4f3 62 = .ok (.getstatic 87, 3) := dn_178 (ob_cJ6_getChars_ba4f3_1 21 rfl rfl) rfl
theorem dJ6_getChars_ba4f3_65 : decode cJ6_getChars_ba4f3 65 = .ok (.iload 4, 2) := dn_21 (ob_cJ6_getChars_ba4f3_1 24 rfl rfl) rfl
theorem dJ6_getChars_ba4f3_67 : decode cJ6_getChars_ba4f3 67 = .ok (.baload, 1) := dn_51 (ob_cJ6_getChars_ba4f3_1 26 rfl rfl)
theorem dJ6_getChars_ba4f3_68 : decode cJ6_getChars_ba4f3 68 = .ok (.bastore, 1) := dn_84 (ob_cJ6_getChars_ba4f3_1 27 rfl rfl)
theorem dJ6_getChars_ba4f3_69 : decode cJ6_getChars_ba4f3 69 = .ok (.goto (-47), 3) := dn_167 (ob_cJ6_getChars_ba4f3_1 28 rfl rfl) (by decide +kernel)
theorem dJ6_getChars_ba4f3_72 : decode cJ6_getChars_ba4f3 72 = .ok (.aload_n 2, 1) := dn_44 (ob_cJ6_getChars_ba4f3_1 31 rfl rfl)
theorem dJ6_getChars_ba4f3_73 : decode cJ6_getChars_ba4f3 73 = .ok (.iinc 5 (-1), 3) := dn_132 (ob_cJ6_getChars_ba4f3_1 32 rfl rfl) rfl (by decide +kernel)
theorem dJ6_getChars_ba4f3_76 : decode cJ6_getChars_ba4f3 76 = .ok (.iload 5, 2) := dn_21 (ob_cJ6_getChars_ba4f3_1 35 rfl rfl) rfl
theorem dJ6_getChars_ba4f3_78 : decode cJ6_getChars_ba4f3 78 = .ok (.getstatic 83, 3) := dn_178 (ob_cJ6_getChars_ba4f3_1 37 rfl rfl) rfl
theorem dJ6_getChars_ba4f3_81 : decode cJ6_getChars_ba4f3 81 = .ok (.iload_n 0, 1) := dn_26 (ob_cJ6_getChars_ba4f3_2 0 rfl rfl)
theorem dJ6_getChars_ba4f3_82 : decode cJ6_getChars_ba4f3 82 = .ok (.ineg, 1) := dn_116 (ob_cJ6_getChars_ba4f3_2 1 rfl rfl)
theorem dJ6_getChars_ba4f3_83 : decode cJ6_getChars_ba4f3 83 = .ok (.baload, 1) := dn_51 (ob_cJ6_getChars_ba4f3_2 2 rfl rfl)
theorem dJ6_getChars_ba4f3_84 : decode cJ6_getChars_ba4f3 84 = .ok (.bastore, 1) := dn_84 (ob_cJ6_getChars_ba4f3_2 3 rfl rfl)
theorem dJ6_getChars_ba4f3_85 : decode cJ6_getChars_ba4f3 85 = .ok (.iload_n 0, 1) := dn_26 (ob_cJ6_getChars_ba4f3_2 4 rfl rfl)
theorem dJ6_getChars_ba4f3_86 : decode cJ6_getChars_ba4f3 86 = .ok (.bipush (-9), 2) := dn_16 (ob_cJ6_getChars_ba4f3_2 5 rfl rfl) (by decide +kernel)
theorem dJ6_getChars_ba4f3_88 : decode cJ6_getChars_ba4f3 88 = .ok (.if_icmp .ge 16, 3) := dn_162 (ob_cJ6_getChars_ba4f3_2 7 rfl rfl) (by decide +kernel)
theorem dJ6_getChars_ba4f3_91 : decode cJ6_getChars_ba4f3 91 = .ok (.aload_n 2, 1) := dn_44 (ob_cJ6_getChars_ba4f3_2 10 rfl rfl)
theorem dJ6_getChars_ba4f3_92 : decode cJ6_getChars_ba4f3 92 = .ok (.iinc 5 (-1), 3) := dn_132 (ob_cJ6_getChars_ba4f3_2 11 rfl rfl) rfl (by decide +kernel)
theorem dJ6_getChars_ba4f3_95 : decode cJ6_getChars_ba4f3 95 = .ok (.iload 5, 2) := dn_21 (ob_cJ6_getChars_ba4f3_2 14 rfl rfl) rfl
theorem dJ6_getChars_ba4f3_97 : decode cJ6_getChars_ba4f3 97 = .ok (.getstatic 87, 3) := dn_178 (ob_cJ6_getChars_ba4f3_2 16 rfl rfl) rfl
theorem dJ6_getChars_ba4f3_100 : decode cJ6_getChars_ba4f3 100 = .ok (.iload_n 0, 1) := dn_26 (ob_cJ6_getChars_ba4f3_2 19 rfl rfl)
theorem dJ6_getChars_ba4f3_101 : decode cJ6_getChars_ba4f3 101 = .ok (.ineg, 1) := dn_116 (ob_cJ6_getChars_ba4f3_2 20 rfl rfl)
theorem dJ6_getChars_ba4f3_102 : decode cJ6_getChars_ba4f3 102 = .ok (.baload, 1) := dn_51 (ob_cJ6_getChars_ba4f3_2 21 rfl rfl)
theorem dJ6_getChars_ba4f3_103 : decode cJ6_getChars_ba4f3 103 = .ok (.bastore, 1) := dn_84 (ob_cJ6_getChars_ba4f3_2 22 rfl rfl)
theorem dJ6_getChars_ba4f3_104 : decode cJ6_getChars_ba4f3 104 = .ok (.iload 6, 2) := dn_21 (ob_cJ6_getChars_ba4f3_2 23 rfl rfl) rfl
theorem dJ6_getChars_ba4f3_106 : decode cJ6_getChars_ba4f3 106 = .ok (.ifCond .eq 12, 3) := dn_153 (ob_cJ6_getChars_ba4f3_2 25 rfl rfl) (by decide +kernel)
theorem dJ6_getChars_ba4f3_109 : decode cJ6_getChars_ba4f3 109 = .ok (.aload_n 2, 1) := dn_44 (ob_cJ6_getChars_ba4f3_2 28 rfl rfl)
theorem dJ6_getChars_ba4f3_110 : decode cJ6_getChars_ba4f3 110 = .ok (.iinc 5 (-1), 3) := dn_132 (ob_cJ6_getChars_ba4f3_2 29 rfl rfl) rfl (by decide +kernel)
theorem dJ6_getChars_ba4f3_113 : decode cJ6_getChars_ba4f3 113 = .ok (.iload 5, 2) := dn_21 (ob_cJ6_getChars_ba4f3_2 32 rfl rfl) rfl
theorem dJ6_getChars_ba4f3_115 : decode cJ6_getChars_ba4f3 115 = .ok (.bipush 45, 2) := dn_16 (ob_cJ6_getChars_ba4f3_2 34 rfl rfl) (by decide +kernel)
theorem dJ6_getChars_ba4f3_117 : decode cJ6_getChars_ba4f3 117 = .ok (.bastore, 1) := dn_84 (ob_cJ6_getChars_ba4f3_2 36 rfl rfl)
theorem dJ6_getChars_ba4f3_118 : decode cJ6_getChars_ba4f3 118 = .ok (.iload 5, 2) := dn_21 (ob_cJ6_getChars_ba4f3_2 37 rfl rfl) rfl
theorem dJ6_getChars_ba4f3_120 : decode cJ6_getChars_ba4f3 120 = .ok (.ireturn, 1) := dn_172 (ob_cJ6_getChars_ba4f3_2 39 rfl rfl)
def kb_cJ6_stringSize_0f7a4_0 : List UInt8 := [4, 60, 26, 155, 0, 8, 3, 60, 26, 116, 59, 16, 246, 61, 4, 62, 29, 16, 10, 162, 0, 23, 26, 28, 164, 0, 7, 29, 27, 96, 172, 16, 10, 28, 104, 61, 132, 3, 1, 167, 255, 233]
def kb_cJ6_stringSize_0f7a4_1 : List UInt8 := [16, 10, 27, 96, 172]
def tb_cJ6_stringSize_0f7a4_2 : List UInt8 := []
def tb_cJ6_stringSize_0f7a4_1 : List UInt8 := kb_cJ6_stringSize_0f7a4_1 ++ tb_cJ6_stringSize_0f7a4_2
def tb_cJ6_stringSize_0f7a4_0 : List UInt8 := kb_cJ6_stringSize_0f7a4_0 ++ tb_cJ6_stringSize_0f7a4_1
set_option maxRecDepth 100000 in
theorem tb_cJ6_stringSize_0f7a4 : (cJ6_stringSize_0f7a4).data.toList = tb_cJ6_stringSize_0f7a4_0 := eqL_eq (by decide +kernel)
theorem ow_cJ6_stringSize_0f7a4_0 (r : Nat) : (cJ6_stringSize_0f7a4).data.toList.drop (0 + r) = tb_cJ6_stringSize_0f7a4_0.drop r := by rw [tb_cJ6_stringSize_0f7a4, Nat.zero_add]
theorem ow_cJ6_stringSize_0f7a4_1 (r : Nat) : (cJ6_stringSize_0f7a4).data.toList.drop (42 + r) = tb_cJ6_stringSize_0f7a4_1.drop r := by
  have e := ow_cJ6_stringSize_0f7a4_0 (42 + r)
  rw [show 0 + (42 + r) = 42 + r by omega] at e
  exact e.trans (dr_len (a := kb_cJ6_stringSize_0f7a4_0) (t := tb_cJ6_stringSize_0f7a4_1) (by decide +kernel))
theorem ob_cJ6_stringSize_0f7a4_0 (r : Nat) {pc : Nat} {l : List UInt8} (hp : 0 + r = pc) (h : tb_cJ6_stringSize_0f7a4_0.drop r = l) : (cJ6_stringSize_0f7a4).data.toList.drop pc = l := by
  subst hp
  exact (ow_cJ6_stringSize_0f7a4_0 r).trans h
theorem ob_cJ6_stringSize_0f7a4_1 (r : Nat) {pc : Nat} {l : List UInt8} (hp : 42 + r = pc) (h : tb_cJ6_stringSize_0f7a4_1.drop r = l) : (cJ6_stringSize_0f7a4).data.toList.drop pc = l := by
  subst hp
  exact (ow_cJ6_stringSize_0f7a4_1 r).trans h
theorem dJ6_stringSize_0f7a4_0 : decode cJ6_stringSize_0f7a4 0 = .ok (.iconst 1, 1) := dn_4 (ob_cJ6_stringSize_0f7a4_0 0 rfl rfl)
theorem dJ6_stringSize_0f7a4_1 : decode cJ6_stringSize_0f7a4 1 = .ok (.istore_n 1, 1) := dn_60 (ob_cJ6_stringSize_0f7a4_0 1 rfl rfl)
theorem dJ6_stringSize_0f7a4_2 : decode cJ6_stringSize_0f7a4 2 = .ok (.iload_n 0, 1) := dn_26 (ob_cJ6_stringSize_0f7a4_0 2 rfl rfl)
theorem dJ6_stringSize_0f7a4_3 : decode cJ6_stringSize_0f7a4 3 = .ok (.ifCond .lt 8, 3) := dn_155 (ob_cJ6_stringSize_0f7a4_0 3 rfl rfl) (by decide +kernel)
theorem dJ6_stringSize_0f7a4_6 : decode cJ6_stringSize_0f7a4 6 = .ok (.iconst 0, 1) := dn_3 (ob_cJ6_stringSize_0f7a4_0 6 rfl rfl)
theorem dJ6_stringSize_0f7a4_7 : decode cJ6_stringSize_0f7a4 7 = .ok (.istore_n 1, 1) := dn_60 (ob_cJ6_stringSize_0f7a4_0 7 rfl rfl)
theorem dJ6_stringSize_0f7a4_8 : decode cJ6_stringSize_0f7a4 8 = .ok (.iload_n 0, 1) := dn_26 (ob_cJ6_stringSize_0f7a4_0 8 rfl rfl)
theorem dJ6_stringSize_0f7a4_9 : decode cJ6_stringSize_0f7a4 9 = .ok (.ineg, 1) := dn_116 (ob_cJ6_stringSize_0f7a4_0 9 rfl rfl)
theorem dJ6_stringSize_0f7a4_10 : decode cJ6_stringSize_0f7a4 10 = .ok (.istore_n 0, 1) := dn_59 (ob_cJ6_stringSize_0f7a4_0 10 rfl rfl)
theorem dJ6_stringSize_0f7a4_11 : decode cJ6_stringSize_0f7a4 11 = .ok (.bipush (-10), 2) := dn_16 (ob_cJ6_stringSize_0f7a4_0 11 rfl rfl) (by decide +kernel)
theorem dJ6_stringSize_0f7a4_13 : decode cJ6_stringSize_0f7a4 13 = .ok (.istore_n 2, 1) := dn_61 (ob_cJ6_stringSize_0f7a4_0 13 rfl rfl)
theorem dJ6_stringSize_0f7a4_14 : decode cJ6_stringSize_0f7a4 14 = .ok (.iconst 1, 1) := dn_4 (ob_cJ6_stringSize_0f7a4_0 14 rfl rfl)
theorem dJ6_stringSize_0f7a4_15 : decode cJ6_stringSize_0f7a4 15 = .ok (.istore_n 3, 1) := dn_62 (ob_cJ6_stringSize_0f7a4_0 15 rfl rfl)
theorem dJ6_stringSize_0f7a4_16 : decode cJ6_stringSize_0f7a4 16 = .ok (.iload_n 3, 1) := dn_29 (ob_cJ6_stringSize_0f7a4_0 16 rfl rfl)
theorem dJ6_stringSize_0f7a4_17 : decode cJ6_stringSize_0f7a4 17 = .ok (.bipush 10, 2) := dn_16 (ob_cJ6_stringSize_0f7a4_0 17 rfl rfl) (by decide +kernel)
theorem dJ6_stringSize_0f7a4_19 : decode cJ6_stringSize_0f7a4 19 = .ok (.if_icmp .ge 23, 3) := dn_162 (ob_cJ6_stringSize_0f7a4_0 19 rfl rfl) (by decide +kernel)
theorem dJ6_stringSize_0f7a4_22 : decode cJ6_stringSize_0f7a4 22 = .ok (.iload_n 0, 1) := dn_26 (ob_cJ6_stringSize_0f7a4_0 22 rfl rfl)
theorem dJ6_stringSize_0f7a4_23 : decode cJ6_stringSize_0f7a4 23 = .ok (.iload_n 2, 1) := dn_28 (ob_cJ6_stringSize_0f7a4_0 23 rfl rfl)
theorem dJ6_stringSize_0f7a4_24 : decode cJ6_stringSize_0f7a4 24 = .ok (.if_icmp .le 7, 3) := dn_164 (ob_cJ6_stringSize_0f7a4_0 24 rfl rfl) (by decide +kernel)
theorem dJ6_stringSize_0f7a4_27 : decode cJ6_stringSize_0f7a4 27 = .ok (.iload_n 3, 1) := dn_29 (ob_cJ6_stringSize_0f7a4_0 27 rfl rfl)
theorem dJ6_stringSize_0f7a4_28 : decode cJ6_stringSize_0f7a4 28 = .ok (.iload_n 1, 1) := dn_27 (ob_cJ6_stringSize_0f7a4_0 28 rfl rfl)
theorem dJ6_stringSize_0f7a4_29 : decode cJ6_stringSize_0f7a4 29 = .ok (.iadd, 1) := dn_96 (ob_cJ6_stringSize_0f7a4_0 29 rfl rfl)
theorem dJ6_stringSize_0f7a4_30 : decode cJ6_stringSize_0f7a4 30 = .ok (.ireturn, 1) := dn_172 (ob_cJ6_stringSize_0f7a4_0 30 rfl rfl)
theorem dJ6_stringSize_0f7a4_31 : decode cJ6_stringSize_0f7a4 31 = .ok (.bipush 10, 2) := dn_16 (ob_cJ6_stringSize_0f7a4_0 31 rfl rfl) (by decide +kernel)
theorem dJ6_stringSize_0f7a4_33 : decode cJ6_stringSize_0f7a4 33 = .ok (.iload_n 2, 1) := dn_28 (ob_cJ6_stringSize_0f7a4_0 33 rfl rfl)
theorem dJ6_stringSize_0f7a4_34 : decode cJ6_stringSize_0f7a4 34 = .ok (.imul, 1) := dn_104 (ob_cJ6_stringSize_0f7a4_0 34 rfl rfl)
theorem dJ6_stringSize_0f7a4_35 : decode cJ6_stringSize_0f7a4 35 = .ok (.istore_n 2, 1) := dn_61 (ob_cJ6_stringSize_0f7a4_0 35 rfl rfl)
theorem dJ6_stringSize_0f7a4_36 : decode cJ6_stringSize_0f7a4 36 = .ok (.iinc 3 1, 3) := dn_132 (ob_cJ6_stringSize_0f7a4_0 36 rfl rfl) rfl (by decide +kernel)
theorem dJ6_stringSize_0f7a4_39 : decode cJ6_stringSize_0f7a4 39 = .ok (.goto (-23), 3) := dn_167 (ob_cJ6_stringSize_0f7a4_0 39 rfl rfl) (by decide +kernel)
theorem dJ6_stringSize_0f7a4_42 : decode cJ6_stringSize_0f7a4 42 = .ok (.bipush 10, 2) := dn_16 (ob_cJ6_stringSize_0f7a4_1 0 rfl rfl) (by decide +kernel)
theorem dJ6_stringSize_0f7a4_44 : decode cJ6_stringSize_0f7a4 44 = .ok (.iload_n 1, 1) := dn_27 (ob_cJ6_stringSize_0f7a4_1 2 rfl rfl)
theorem dJ6_stringSize_0f7a4_45 : decode cJ6_stringSize_0f7a4 45 = .ok (.iadd, 1) := dn_96 (ob_cJ6_stringSize_0f7a4_1 3 rfl rfl)
theorem dJ6_stringSize_0f7a4_46 : decode cJ6_stringSize_0f7a4 46 = .ok (.ireturn, 1) := dn_172 (ob_cJ6_stringSize_0f7a4_1 4 rfl rfl)
def kb_cJ6_bitCount_0f7a4_0 : List UInt8 := [26, 26, 4, 124, 19, 1, 9, 126, 100, 59, 26, 19, 1, 10, 126, 26, 5, 124, 19, 1, 10, 126, 96, 59, 26, 26, 7, 124, 96, 19, 1, 11, 126, 59, 26, 26, 16, 8, 124, 96]
def kb_cJ6_bitCount_0f7a4_1 : List UInt8 := [59, 26, 26, 16, 16, 124, 96, 59, 26, 16, 63, 126, 172]
def tb_cJ6_bitCount_0f7a4_2 : List UInt8 := []
def tb_cJ6_bitCount_0f7a4_1 : List UInt8 := kb_cJ6_bitCount_0f7a4_1 ++ tb_cJ6_bitCount_0f7a4_2
def tb_cJ6_bitCount_0f7a4_0 : List UInt8 := kb_cJ6_bitCount_0f7a4_0 ++ tb_cJ6_bitCount_0f7a4_1
set_option maxRecDepth 100000 in
theorem tb_cJ6_bitCount_0f7a4 : (cJ6_bitCount_0f7a4).data.toList = tb_cJ6_bitCount_0f7a4_0 := eqL_eq (by decide +kernel)
theorem ow_cJ6_bitCount_0f7a4_0 (r : Nat) : (cJ6_bitCount_0f7a4).data.toList.drop (0 + r) = tb_cJ6_bitCount_0f7a4_0.drop r := by rw [tb_cJ6_bitCount_0f7a4, Nat.zero_add]
theorem ow_cJ6_bitCount_0f7a4_1 (r : Nat) : (cJ6_bitCount_0f7a4).data.toList.drop (40 + r) = tb_cJ6_bitCount_0f7a4_1.drop r := by
  have e := ow_cJ6_bitCount_0f7a4_0 (40 + r)
  rw [show 0 + (40 + r) = 40 + r by omega] at e
  exact e.trans (dr_len (a := kb_cJ6_bitCount_0f7a4_0) (t := tb_cJ6_bitCount_0f7a4_1) (by decide +kernel))
theorem ob_cJ6_bitCount_0f7a4_0 (r : Nat) {pc : Nat} {l : List UInt8} (hp : 0 + r = pc) (h : tb_cJ6_bitCount_0f7a4_0.drop r = l) : (cJ6_bitCount_0f7a4).data.toList.drop pc = l := by
  subst hp
  exact (ow_cJ6_bitCount_0f7a4_0 r).trans h
theorem ob_cJ6_bitCount_0f7a4_1 (r : Nat) {pc : Nat} {l : List UInt8} (hp : 40 + r = pc) (h : tb_cJ6_bitCount_0f7a4_1.drop r = l) : (cJ6_bitCount_0f7a4).data.toList.drop pc = l := by
  subst hp
  exact (ow_cJ6_bitCount_0f7a4_1 r).trans h
theorem dJ6_bitCount_0f7a4_0 : decode cJ6_bitCount_0f7a4 0 = .ok (.iload_n 0, 1) := dn_26 (ob_cJ6_bitCount_0f7a4_0 0 rfl rfl)
theorem dJ6_bitCount_0f7a4_1 : decode cJ6_bitCount_0f7a4 1 = .ok (.iload_n 0, 1) := dn_26 (ob_cJ6_bitCount_0f7a4_0 1 rfl rfl)
theorem dJ6_bitCount_0f7a4_2 : decode cJ6_bitCount_0f7a4 2 = .ok (.iconst 1, 1) := dn_4 (ob_cJ6_bitCount_0f7a4_0 2 rfl rfl)
theorem dJ6_bitCount_0f7a4_3 : decode cJ6_bitCount_0f7a4 3 = .ok (.iushr, 1) := dn_124 (ob_cJ6_bitCount_0f7a4_0 3 rfl rfl)
theorem dJ6_bitCount_0f7a4_4 : decode cJ6_bitCount_0f7a4 4 = .ok (.ldc_w 265, 3) := dn_19 (ob_cJ6_bitCount_0f7a4_0 4 rfl rfl) rfl
theorem dJ6_bitCount_0f7a4_7 : decode cJ6_bitCount_0f7a4 7 = .ok (.iand, 1) := dn_126 (ob_cJ6_bitCount_0f7a4_0 7 rfl rfl)
theorem dJ6_bitCount_0f7a4_8 : decode cJ6_bitCount_0f7a4 8 = .ok (.isub, 1) := dn_100 (ob_cJ6_bitCount_0f7a4_0 8 rfl rfl)
theorem dJ6_bitCount_0f7a4_9 : decode cJ6_bitCount_0f7a4 9 = .ok (.istore_n 0, 1) := dn_59 (ob_cJ6_bitCount_0f7a4_0 9 rfl rfl)
theorem dJ6_bitCount_0f7a4_10 : decode cJ6_bitCount_0f7a4 10 = .ok (.iload_n 0, 1) := dn_26 (ob_cJ6_bitCount_0f7a4_0 10 rfl rfl)
theorem dJ6_bitCount_0f7a4_11 : decode cJ6_bitCount_0f7a4 11 = .ok (.ldc_w 266, 3) := dn_19 (ob_cJ6_bitCount_0f7a4_0 11 rfl rfl) rfl
theorem dJ6_bitCount_0f7a4_14 : decode cJ6_bitCount_0f7a4 14 = .ok (.iand, 1) := dn_126 (ob_cJ6_bitCount_0f7a4_0 14 rfl rfl)
theorem dJ6_bitCount_0f7a4_15 : decode cJ6_bitCount_0f7a4 15 = .ok (.iload_n 0, 1) := dn_26 (ob_cJ6_bitCount_0f7a4_0 15 rfl rfl)
theorem dJ6_bitCount_0f7a4_16 : decode cJ6_bitCount_0f7a4 16 = .ok (.iconst 2, 1) := dn_5 (ob_cJ6_bitCount_0f7a4_0 16 rfl rfl)
theorem dJ6_bitCount_0f7a4_17 : decode cJ6_bitCount_0f7a4 17 = .ok (.iushr, 1) := dn_124 (ob_cJ6_bitCount_0f7a4_0 17 rfl rfl)
theorem dJ6_bitCount_0f7a4_18 : decode cJ6_bitCount_0f7a4 18 = .ok (.ldc_w 266, 3) := dn_19 (ob_cJ6_bitCount_0f7a4_0 18 rfl rfl) rfl
theorem dJ6_bitCount_0f7a4_21 : decode cJ6_bitCount_0f7a4 21 = .ok (.iand, 1) := dn_126 (ob_cJ6_bitCount_0f7a4_0 21 rfl rfl)
theorem dJ6_bitCount_0f7a4_22 : decode cJ6_bitCount_0f7a4 22 = .ok (.iadd, 1) := dn_96 (ob_cJ6_bitCount_0f7a4_0 22 rfl rfl)
theorem dJ6_bitCount_0f7a4_23 : decode cJ6_bitCount_0f7a4 23 = .ok (.istore_n 0, 1) := dn_59 (ob_cJ6_bitCount_0f7a4_0 23 rfl rfl)
theorem dJ6_bitCount_0f7a4_24 : decode cJ6_bitCount_0f7a4 24 = .ok (.iload_n 0, 1) := dn_26 (ob_cJ6_bitCount_0f7a4_0 24 rfl rfl)
theorem dJ6_bitCount_0f7a4_25 : decode cJ6_bitCount_0f7a4 25 = .ok (.iload_n 0, 1) := dn_26 (ob_cJ6_bitCount_0f7a4_0 25 rfl rfl)
theorem dJ6_bitCount_0f7a4_26 : decode cJ6_bitCount_0f7a4 26 = .ok (.iconst 4, 1) := dn_7 (ob_cJ6_bitCount_0f7a4_0 26 rfl rfl)
theorem dJ6_bitCount_0f7a4_27 : decode cJ6_bitCount_0f7a4 27 = .ok (.iushr, 1) := dn_124 (ob_cJ6_bitCount_0f7a4_0 27 rfl rfl)
theorem dJ6_bitCount_0f7a4_28 : decode cJ6_bitCount_0f7a4 28 = .ok (.iadd, 1) := dn_96 (ob_cJ6_bitCount_0f7a4_0 28 rfl rfl)
theorem dJ6_bitCount_0f7a4_29 : decode cJ6_bitCount_0f7a4 29 = .ok (.ldc_w 267, 3) := dn_19 (ob_cJ6_bitCount_0f7a4_0 29 rfl rfl) rfl
theorem dJ6_bitCount_0f7a4_32 : decode cJ6_bitCount_0f7a4 32 = .ok (.iand, 1) := dn_126 (ob_cJ6_bitCount_0f7a4_0 32 rfl rfl)
theorem dJ6_bitCount_0f7a4_33 : decode cJ6_bitCount_0f7a4 33 = .ok (.istore_n 0, 1) := dn_59 (ob_cJ6_bitCount_0f7a4_0 33 rfl rfl)
theorem dJ6_bitCount_0f7a4_34 : decode cJ6_bitCount_0f7a4 34 = .ok (.iload_n 0, 1) := dn_26 (ob_cJ6_bitCount_0f7a4_0 34 rfl rfl)
theorem dJ6_bitCount_0f7a4_35 : decode cJ6_bitCount_0f7a4 35 = .ok (.iload_n 0, 1) := dn_26 (ob_cJ6_bitCount_0f7a4_0 35 rfl rfl)
theorem dJ6_bitCount_0f7a4_36 : decode cJ6_bitCount_0f7a4 36 = .ok (.bipush 8, 2) := dn_16 (ob_cJ6_bitCount_0f7a4_0 36 rfl rfl) (by decide +kernel)
theorem dJ6_bitCount_0f7a4_38 : decode cJ6_bitCount_0f7a4 38 = .ok (.iushr, 1) := dn_124 (ob_cJ6_bitCount_0f7a4_0 38 rfl rfl)
theorem dJ6_bitCount_0f7a4_39 : decode cJ6_bitCount_0f7a4 39 = .ok (.iadd, 1) := dn_96 (ob_cJ6_bitCount_0f7a4_0 39 rfl rfl)
theorem dJ6_bitCount_0f7a4_40 : decode cJ6_bitCount_0f7a4 40 = .ok (.istore_n 0, 1) := dn_59 (ob_cJ6_bitCount_0f7a4_1 0 rfl rfl)
theorem dJ6_bitCount_0f7a4_41 : decode cJ6_bitCount_0f7a4 41 = .ok (.iload_n 0, 1) := dn_26 (ob_cJ6_bitCount_0f7a4_1 1 rfl rfl)
theorem dJ6_bitCount_0f7a4_42 : decode cJ6_bitCount_0f7a4 42 = .ok (.iload_n 0, 1) := dn_26 (ob_cJ6_bitCount_0f7a4_1 2 rfl rfl)
theorem dJ6_bitCount_0f7a4_43 : decode cJ6_bitCount_0f7a4 43 = .ok (.bipush 16, 2) := dn_16 (ob_cJ6_bitCount_0f7a4_1 3 rfl rfl) (by decide +kernel)
theorem dJ6_bitCount_0f7a4_45 : decode cJ6_bitCount_0f7a4 45 = .ok (.iushr, 1) := dn_124 (ob_cJ6_bitCount_0f7a4_1 5 rfl rfl)
theorem dJ6_bitCount_0f7a4_46 : decode cJ6_bitCount_0f7a4 46 = .ok (.iadd, 1) := dn_96 (ob_cJ6_bitCount_0f7a4_1 6 rfl rfl)
theorem dJ6_bitCount_0f7a4_47 : decode cJ6_bitCount_0f7a4 47 = .ok (.istore_n 0, 1) := dn_59 (ob_cJ6_bitCount_0f7a4_1 7 rfl rfl)
theorem dJ6_bitCount_0f7a4_48 : decode cJ6_bitCount_0f7a4 48 = .ok (.iload_n 0, 1) := dn_26 (ob_cJ6_bitCount_0f7a4_1 8 rfl rfl)
theorem dJ6_bitCount_0f7a4_49 : decode cJ6_bitCount_0f7a4 49 = .ok (.bipush 63, 2) := dn_16 (ob_cJ6_bitCount_0f7a4_1 9 rfl rfl) (by decide +kernel)
theorem dJ6_bitCount_0f7a4_51 : decode cJ6_bitCount_0f7a4 51 = .ok (.iand, 1) := dn_126 (ob_cJ6_bitCount_0f7a4_1 11 rfl rfl)
theorem dJ6_bitCount_0f7a4_52 : decode cJ6_bitCount_0f7a4 52 = .ok (.ireturn, 1) := dn_172 (ob_cJ6_bitCount_0f7a4_1 12 rfl rfl)
def kb_cJ9_max_7cf53 : List UInt8 := [26, 27, 161, 0, 7, 26, 167, 0, 4, 27, 172]
set_option maxRecDepth 10000 in
theorem ob_cJ9_max_7cf53 (r : Nat) {l : List UInt8} (h : kb_cJ9_max_7cf53.drop r = l) : (cJ9_max_7cf53).data.toList.drop r = l := by
  rw [show (cJ9_max_7cf53).data.toList = kb_cJ9_max_7cf53 from eqL_eq (by decide +kernel)]
  exact h
theorem dJ9_max_7cf53_0 : decode cJ9_max_7cf53 0 = .ok (.iload_n 0, 1) := dn_26 (ob_cJ9_max_7cf53 0 rfl)
theorem dJ9_max_7cf53_1 : decode cJ9_max_7cf53 1 = .ok (.iload_n 1, 1) := dn_27 (ob_cJ9_max_7cf53 1 rfl)
theorem dJ9_max_7cf53_2 : decode cJ9_max_7cf53 2 = .ok (.if_icmp .lt 7, 3) := dn_161 (ob_cJ9_max_7cf53 2 rfl) (by decide +kernel)
theorem dJ9_max_7cf53_5 : decode cJ9_max_7cf53 5 = .ok (.iload_n 0, 1) := dn_26 (ob_cJ9_max_7cf53 5 rfl)
theorem dJ9_max_7cf53_6 : decode cJ9_max_7cf53 6 = .ok (.goto 4, 3) := dn_167 (ob_cJ9_max_7cf53 6 rfl) (by decide +kernel)
theorem dJ9_max_7cf53_9 : decode cJ9_max_7cf53 9 = .ok (.iload_n 1, 1) := dn_27 (ob_cJ9_max_7cf53 9 rfl)
theorem dJ9_max_7cf53_10 : decode cJ9_max_7cf53 10 = .ok (.ireturn, 1) := dn_172 (ob_cJ9_max_7cf53 10 rfl)
def kb_cJ9_min_7cf53 : List UInt8 := [26, 27, 163, 0, 7, 26, 167, 0, 4, 27, 172]
set_option maxRecDepth 10000 in
theorem ob_cJ9_min_7cf53 (r : Nat) {l : List UInt8} (h : kb_cJ9_min_7cf53.drop r = l) : (cJ9_min_7cf53).data.toList.drop r = l := by
  rw [show (cJ9_min_7cf53).data.toList = kb_cJ9_min_7cf53 from eqL_eq (by decide +kernel)]
  exact h
theorem dJ9_min_7cf53_0 : decode cJ9_min_7cf53 0 = .ok (.iload_n 0, 1) := dn_26 (ob_cJ9_min_7cf53 0 rfl)
theorem dJ9_min_7cf53_1 : decode cJ9_min_7cf53 1 = .ok (.iload_n 1, 1) := dn_27 (ob_cJ9_min_7cf53 1 rfl)
theorem dJ9_min_7cf53_2 : decode cJ9_min_7cf53 2 = .ok (.if_icmp .gt 7, 3) := dn_163 (ob_cJ9_min_7cf53 2 rfl) (by decide +kernel)
theorem dJ9_min_7cf53_5 : decode cJ9_min_7cf53 5 = .ok (.iload_n 0, 1) := dn_26 (ob_cJ9_min_7cf53 5 rfl)
theorem dJ9_min_7cf53_6 : decode cJ9_min_7cf53 6 = .ok (.goto 4, 3) := dn_167 (ob_cJ9_min_7cf53 6 rfl) (by decide +kernel)
theorem dJ9_min_7cf53_9 : decode cJ9_min_7cf53 9 = .ok (.iload_n 1, 1) := dn_27 (ob_cJ9_min_7cf53 9 rfl)
theorem dJ9_min_7cf53_10 : decode cJ9_min_7cf53 10 = .ok (.ireturn, 1) := dn_172 (ob_cJ9_min_7cf53 10 rfl)
def kb_cJ0_init_81219 : List UInt8 := [42, 43, 1, 183, 1, 233, 177]
set_option maxRecDepth 10000 in
theorem ob_cJ0_init_81219 (r : Nat) {l : List UInt8} (h : kb_cJ0_init_81219.drop r = l) : (cJ0_init_81219).data.toList.drop r = l := by
  rw [show (cJ0_init_81219).data.toList = kb_cJ0_init_81219 from eqL_eq (by decide +kernel)]
  exact h
theorem dJ0_init_81219_0 : decode cJ0_init_81219 0 = .ok (.aload_n 0, 1) := dn_42 (ob_cJ0_init_81219 0 rfl)
theorem dJ0_init_81219_1 : decode cJ0_init_81219 1 = .ok (.aload_n 1, 1) := dn_43 (ob_cJ0_init_81219 1 rfl)
theorem dJ0_init_81219_2 : decode cJ0_init_81219 2 = .ok (.aconst_null, 1) := dn_1 (ob_cJ0_init_81219 2 rfl)
theorem dJ0_init_81219_3 : decode cJ0_init_81219 3 = .ok (.invokespecial 489, 3) := dn_183 (ob_cJ0_init_81219 3 rfl) rfl
theorem dJ0_init_81219_6 : decode cJ0_init_81219 6 = .ok (.return_, 1) := dn_177 (ob_cJ0_init_81219 6 rfl)
def kb_cJ0_length_8abf5 : List UInt8 := [42, 180, 0, 9, 190, 42, 182, 1, 79, 122, 172]
set_option maxRecDepth 10000 in
theorem ob_cJ0_length_8abf5 (r : Nat) {l : List UInt8} (h : kb_cJ0_length_8abf5.drop r = l) : (cJ0_length_8abf5).data.toList.drop r = l := by
  rw [show (cJ0_length_8abf5).data.toList = kb_cJ0_length_8abf5 from eqL_eq (by decide +kernel)]
  exact h
theorem dJ0_length_8abf5_0 : decode cJ0_length_8abf5 0 = .ok (.aload_n 0, 1) := dn_42 (ob_cJ0_length_8abf5 0 rfl)
theorem dJ0_length_8abf5_1 : decode cJ0_length_8abf5 1 = .ok (.getfield 9, 3) := dn_180 (ob_cJ0_length_8abf5 1 rfl) rfl
theorem dJ0_length_8abf5_4 : decode cJ0_length_8abf5 4 = .ok (.arraylength, 1) := dn_190 (ob_cJ0_length_8abf5 4 rfl)
theorem dJ0_length_8abf5_5 : decode cJ0_length_8abf5 5 = .ok (.aload_n 0, 1) := dn_42 (ob_cJ0_length_8abf5 5 rfl)
theorem dJ0_length_8abf5_6 : decode cJ0_length_8abf5 6 = .ok (.invokevirtual 335, 3) := dn_182 (ob_cJ0_length_8abf5 6 rfl) rfl
theorem dJ0_length_8abf5_9 : decode cJ0_length_8abf5 9 = .ok (.ishr, 1) := dn_122 (ob_cJ0_length_8abf5 9 rfl)
theorem dJ0_length_8abf5_10 : decode cJ0_length_8abf5 10 = .ok (.ireturn, 1) := dn_172 (ob_cJ0_length_8abf5 10 rfl)
def kb_cJ0_getBytes_840e7_0 : List UInt8 := [42, 182, 1, 79, 29, 160, 0, 23, 42, 180, 0, 9, 3, 43, 28, 29, 120, 42, 180, 0, 9, 190, 184, 0, 212, 167, 0, 18, 42, 180, 0, 9, 3, 43, 28, 42, 180, 0, 9, 190]
def kb_cJ0_getBytes_840e7_1 : List UInt8 := [184, 0, 106, 177]
def tb_cJ0_getBytes_840e7_2 : List UInt8 := []
def tb_cJ0_getBytes_840e7_1 : List UInt8 := kb_cJ0_getBytes_840e7_1 ++ tb_cJ0_getBytes_840e7_2
def tb_cJ0_getBytes_840e7_0 : List UInt8 := kb_cJ0_getBytes_840e7_0 ++ tb_cJ0_getBytes_840e7_1
set_option maxRecDepth 100000 in
theorem tb_cJ0_getBytes_840e7 : (cJ0_getBytes_840e7).data.toList = tb_cJ0_getBytes_840e7_0 := eqL_eq (by decide +kernel)
theorem ow_cJ0_getBytes_840e7_0 (r : Nat) : (cJ0_getBytes_840e7).data.toList.drop (0 + r) = tb_cJ0_getBytes_840e7_0.drop r := by rw [tb_cJ0_getBytes_840e7, Nat.zero_add]
theorem ow_cJ0_getBytes_840e7_1 (r : Nat) : (cJ0_getBytes_840e7).data.toList.drop (40 + r) = tb_cJ0_getBytes_840e7_1.drop r := by
  have e := ow_cJ0_getBytes_840e7_0 (40 + r)
  rw [show 0 + (40 + r) = 40 + r by omega] at e
  exact e.trans (dr_len (a := kb_cJ0_getBytes_840e7_0) (t := tb_cJ0_getBytes_840e7_1) (by decide +kernel))
theorem ob_cJ0_getBytes_840e7_0 (r : Nat) {pc : Nat} {l : List UInt8} (hp : 0 + r = pc) (h : tb_cJ0_getBytes_840e7_0.drop r = l) : (cJ0_getBytes_840e7).data.toList.drop pc = l := by
  subst hp
  exact (ow_cJ0_getBytes_840e7_0 r).trans h
theorem ob_cJ0_getBytes_840e7_1 (r : Nat) {pc : Nat} {l : List UInt8} (hp : 40 + r = pc) (h : tb_cJ0_getBytes_840e7_1.drop r = l) : (cJ0_getBytes_840e7).data.toList.drop pc = l := by
  subst hp
  exact (ow_cJ0_getBytes_840e7_1 r).trans h
theorem dJ0_getBytes_840e7_0 : decode cJ0_getBytes_840e7 0 = .ok (.aload_n 0, 1) := dn_42 (ob_cJ0_getBytes_840e7_0 0 rfl rfl)
theorem dJ0_getBytes_840e7_1 : decode cJ0_getBytes_840e7 1 = .ok (.invokevirtual 335, 3) := dn_182 (ob_cJ0_getBytes_840e7_0 1 rfl rfl) rfl
theorem dJ0_getBytes_840e7_4 : decode cJ0_getBytes_840e7 4 = .ok (.iload_n 3, 1) := dn_29 (ob_cJ0_getBytes_840e7_0 4 rfl rfl)
theorem dJ0_getBytes_840e7_5 : decode cJ0_getBytes_840e7 5 = .ok (.if_icmp .ne 23, 3) := dn_160 (ob_cJ0_getBytes_840e7_0 5 rfl rfl) (by decide +kernel)
theorem dJ0_getBytes_840e7_8 : decode cJ0_getBytes_840e7 8 = .ok (.aload_n 0, 1) := dn_42 (ob_cJ0_getBytes_840e7_0 8 rfl rfl)
theorem dJ0_getBytes_840e7_9 : decode cJ0_getBytes_840e7 9 = .ok (.getfield 9, 3) := dn_180 (ob_cJ0_getBytes_840e7_0 9 rfl rfl) rfl
theorem dJ0_getBytes_840e7_12 : decode cJ0_getBytes_840e7 12 = .ok (.iconst 0, 1) := dn_3 (ob_cJ0_getBytes_840e7_0 12 rfl rfl)
theorem dJ0_getBytes_840e7_13 : decode cJ0_getBytes_840e7 13 = .ok (.aload_n 1, 1) := dn_43 (ob_cJ0_getBytes_840e7_0 13 rfl rfl)
theorem dJ0_getBytes_840e7_14 : decode cJ0_getBytes_840e7 14 = .ok (.iload_n 2, 1) := dn_28 (ob_cJ0_getBytes_840e7_0 14 rfl rfl)
theorem dJ0_getBytes_840e7_15 : decode cJ0_getBytes_840e7 15 = .ok (.iload_n 3, 1) := dn_29 (ob_cJ0_getBytes_840e7_0 15 rfl rfl)
theorem dJ0_getBytes_840e7_16 : decode cJ0_getBytes_840e7 16 = .ok (.ishl, 1) := dn_120 (ob_cJ0_getBytes_840e7_0 16 rfl rfl)
theorem dJ0_getBytes_840e7_17 : decode cJ0_getBytes_840e7 17 = .ok (.aload_n 0, 1) := dn_42 (ob_cJ0_getBytes_840e7_0 17 rfl rfl)
theorem dJ0_getBytes_840e7_18 : decode cJ0_getBytes_840e7 18 = .ok (.getfield 9, 3) := dn_180 (ob_cJ0_getBytes_840e7_0 18 rfl rfl) rfl
theorem dJ0_getBytes_840e7_21 : decode cJ0_getBytes_840e7 21 = .ok (.arraylength, 1) := dn_190 (ob_cJ0_getBytes_840e7_0 21 rfl rfl)
theorem dJ0_getBytes_840e7_22 : decode cJ0_getBytes_840e7 22 = .ok (.invokestatic 212, 3) := dn_184 (ob_cJ0_getBytes_840e7_0 22 rfl rfl) rfl
theorem dJ0_getBytes_840e7_25 : decode cJ0_getBytes_840e7 25 = .ok (.goto 18, 3) := dn_167 (ob_cJ0_getBytes_840e7_0 25 rfl rfl) (by decide +kernel)
theorem dJ0_getBytes_840e7_28 : decode cJ0_getBytes_840e7 28 = .ok (.aload_n 0, 1) := dn_42 (ob_cJ0_getBytes_840e7_0 28 rfl rfl)
theorem dJ0_getBytes_840e7_29 : decode cJ0_getBytes_840e7 29 = .ok (.getfield 9, 3) := dn_180 (ob_cJ0_getBytes_840e7_0 29 rfl rfl) rfl
theorem dJ0_getBytes_840e7_32 : decode cJ0_getBytes_840e7 32 = .ok (.iconst 0, 1) := dn_3 (ob_cJ0_getBytes_840e7_0 32 rfl rfl)
theorem dJ0_getBytes_840e7_33 : decode cJ0_getBytes_840e7 33 = .ok (.aload_n 1, 1) := dn_43 (ob_cJ0_getBytes_840e7_0 33 rfl rfl)
theorem dJ0_getBytes_840e7_34 : decode cJ0_getBytes_840e7 34 = .ok (.iload_n 2, 1) := dn_28 (ob_cJ0_getBytes_840e7_0 34 rfl rfl)
theorem dJ0_getBytes_840e7_35 : decode cJ0_getBytes_840e7 35 = .ok (.aload_n 0, 1) := dn_42 (ob_cJ0_getBytes_840e7_0 35 rfl rfl)
theorem dJ0_getBytes_840e7_36 : decode cJ0_getBytes_840e7 36 = .ok (.getfield 9, 3) := dn_180 (ob_cJ0_getBytes_840e7_0 36 rfl rfl) rfl
theorem dJ0_getBytes_840e7_39 : decode cJ0_getBytes_840e7 39 = .ok (.arraylength, 1) := dn_190 (ob_cJ0_getBytes_840e7_0 39 rfl rfl)
theorem dJ0_getBytes_840e7_40 : decode cJ0_getBytes_840e7 40 = .ok (.invokestatic 106, 3) := dn_184 (ob_cJ0_getBytes_840e7_1 0 rfl rfl) rfl
theorem dJ0_getBytes_840e7_43 : decode cJ0_getBytes_840e7 43 = .ok (.return_, 1) := dn_177 (ob_cJ0_getBytes_840e7_1 3 rfl rfl)
def kb_cJ0_init_db425_0 : List UInt8 := [42, 183, 0, 1, 43, 182, 2, 40, 78, 43, 182, 2, 37, 54, 4, 43, 182, 4, 23, 153, 0, 22, 42, 3, 181, 0, 15, 42, 45, 3, 21, 4, 184, 0, 54, 181, 0, 9, 167, 0, 59]
def kb_cJ0_init_db425_1 : List UInt8 := [178, 0, 38, 153, 0, 35, 43, 180, 4, 24, 153, 0, 28, 42, 45, 3, 21, 4, 184, 4, 27, 181, 0, 9, 42, 42, 180, 0, 9, 21, 4, 184, 0, 47, 181, 0, 15, 177, 42, 4]
def kb_cJ0_init_db425_2 : List UInt8 := [181, 0, 15, 42, 45, 3, 21, 4, 4, 120, 184, 0, 54, 181, 0, 9, 177]
def tb_cJ0_init_db425_3 : List UInt8 := []
def tb_cJ0_init_db425_2 : List UInt8 := kb_cJ0_init_db425_2 ++ tb_cJ0_init_db425_3
def tb_cJ0_init_db425_1 : List UInt8 := kb_cJ0_init_db425_1 ++ tb_cJ0_init_db425_2
def tb_cJ0_init_db425_0 : List UInt8 := kb_cJ0_init_db425_0 ++ tb_cJ0_init_db425_1
set_option maxRecDepth 100000 in
theorem tb_cJ0_init_db425 : (cJ0_init_db425).data.toList = tb_cJ0_init_db425_0 := eqL_eq (by decide +kernel)
theorem ow_cJ0_init_db425_0 (r : Nat) : (cJ0_init_db425).data.toList.drop (0 + r) = tb_cJ0_init_db425_0.drop r := by rw [tb_cJ0_init_db425, Nat.zero_add]
theorem ow_cJ0_init_db425_1 (r : Nat) : (cJ0_init_db425).data.toList.drop (41 + r) = tb_cJ0_init_db425_1.drop r := by
  have e := ow_cJ0_init_db425_0 (41 + r)
  rw [show 0 + (41 + r) = 41 + r by omega] at e
  exact e.trans (dr_len (a := kb_cJ0_init_db425_0) (t := tb_cJ0_init_db425_1) (by decide +kernel))
theorem ow_cJ0_init_db425_2 (r : Nat) : (cJ0_init_db425).data.toList.drop (81 + r) = tb_cJ0_init_db425_2.drop r := by
  have e := ow_cJ0_init_db425_1 (40 + r)
  rw [show 41 + (40 + r) = 81 + r by omega] at e
  exact e.trans (dr_len (a := kb_cJ0_init_db425_1) (t := tb_cJ0_init_db425_2) (by decide +kernel))
theorem ob_cJ0_init_db425_0 (r : Nat) {pc : Nat} {l : List UInt8} (hp : 0 + r = pc) (h : tb_cJ0_init_db425_0.drop r = l) : (cJ0_init_db425).data.toList.drop pc = l := by
  subst hp
  exact (ow_cJ0_init_db425_0 r).trans h
theorem ob_cJ0_init_db425_1 (r : Nat) {pc : Nat} {l : List UInt8} (hp : 41 + r = pc) (h : tb_cJ0_init_db425_1.drop r = l) : (cJ0_init_db425).data.toList.drop pc = l := by
  subst hp
  exact (ow_cJ0_init_db425_1 r).trans h
theorem ob_cJ0_init_db425_2 (r : Nat) {pc : Nat} {l : List UInt8} (hp : 81 + r = pc) (h : tb_cJ0_init_db425_2.drop r = l) : (cJ0_init_db425).data.toList.drop pc = l := by
  subst hp
  exact (ow_cJ0_init_db425_2 r).trans h
theorem dJ0_init_db425_0 : decode cJ0_init_db425 0 = .ok (.aload_n 0, 1) := dn_42 (ob_cJ0_init_db425_0 0 rfl rfl)
theorem dJ0_init_db425_1 : decode cJ0_init_db425 1 = .ok (.invokespecial 1, 3) := dn_183 (ob_cJ0_init_db425_0 1 rfl rfl) rfl
theorem dJ0_init_db425_4 : decode cJ0_init_db425 4 = .ok (.aload_n 1, 1) := dn_43 (ob_cJ0_init_db425_0 4 rfl rfl)
theorem dJ0_init_db425_5 : decode cJ0_init_db425 5 = .ok (.invokevirtual 552, 3) := dn_182 (ob_cJ0_init_db425_0 5 rfl rfl) rfl
theorem dJ0_init_db425_8 : decode cJ0_init_db425 8 = .ok (.astore_n 3, 1) := dn_78 (ob_cJ0_init_db425_0 8 rfl rfl)
theorem dJ0_init_db425_9 : decode cJ0_init_db425 9 = .ok (.aload_n 1, 1) := dn_43 (ob_cJ0_init_db425_0 9 rfl rfl)
theorem dJ0_init_db425_10 : decode cJ0_init_db425 10 = .ok (.invokevirtual 549, 3) := dn_182 (ob_cJ0_init_db425_0 10 rfl rfl) rfl
theorem dJ0_init_db425_13 : decode cJ0_init_db425 13 = .ok (.istore 4, 2) := dn_54 (ob_cJ0_init_db425_0 13 rfl rfl) rfl
theorem dJ0_init_db425_15 : decode cJ0_init_db425 15 = .ok (.aload_n 1, 1) := dn_43 (ob_cJ0_init_db425_0 15 rfl rfl)
theorem dJ0_init_db425_16 : decode cJ0_init_db425 16 = .ok (.invokevirtual 1047, 3) := dn_182 (ob_cJ0_init_db425_0 16 rfl rfl) rfl
theorem dJ0_init_db425_19 : decode cJ0_init_db425 19 = .ok (.ifCond .eq 22, 3) := dn_153 (ob_cJ0_init_db425_0 19 rfl rfl) (by decide +kernel)
theorem dJ0_init_db425_22 : decode cJ0_init_db425 22 = .ok (.aload_n 0, 1) := dn_42 (ob_cJ0_init_db425_0 22 rfl rfl)
theorem dJ0_init_db425_23 : decode cJ0_init_db425 23 = .ok (.iconst 0, 1) := dn_3 (ob_cJ0_init_db425_0 23 rfl rfl)
theorem dJ0_init_db425_24 : decode cJ0_init_db425 24 = .ok (.putfield 15, 3) := dn_181 (ob_cJ0_init_db425_0 24 rfl rfl) rfl
theorem dJ0_init_db425_27 : decode cJ0_init_db425 27 = .ok (.aload_n 0, 1) := dn_42 (ob_cJ0_init_db425_0 27 rfl rfl)
theorem dJ0_init_db425_28 : decode cJ0_init_db425 28 = .ok (.aload_n 3, 1) := dn_45 (ob_cJ0_init_db425_0 28 rfl rfl)
theorem dJ0_init_db425_29 : decode cJ0_init_db425 29 = .ok (.iconst 0, 1) := dn_3 (ob_cJ0_init_db425_0 29 rfl rfl)
theorem dJ0_init_db425_30 : decode cJ0_init_db425 30 = .ok (.iload 4, 2) := dn_21 (ob_cJ0_init_db425_0 30 rfl rfl) rfl
theorem dJ0_init_db425_32 : decode cJ0_init_db425 32 = .ok (.invokestatic 54, 3) := dn_184 (ob_cJ0_init_db425_0 32 rfl rfl) rfl
theorem dJ0_init_db425_35 : decode cJ0_init_db425 35 = .ok (.putfield 9, 3) := dn_181 (ob_cJ0_init_db425_0 35 rfl rfl) rfl
theorem dJ0_init_db425_38 : decode cJ0_init_db425 38 = .ok (.goto 59, 3) := dn_167 (ob_cJ0_init_db425_0 38 rfl rfl) (by decide +kernel)
theorem dJ0_init_db425_41 : decode cJ0_init_db425 41 = .ok (.getstatic 38, 3) := dn_178 (ob_cJ0_init_db425_1 0 rfl rfl) rfl
theorem dJ0_init_db425_44 : decode cJ0_init_db425 44 = .ok (.ifCond .eq 35, 3) := dn_153 (ob_cJ0_init_db425_1 3 rfl rfl) (by decide +kernel)
theorem dJ0_init_db425_47 : decode cJ0_init_db425 47 = .ok (.aload_n 1, 1) := dn_43 (ob_cJ0_init_db425_1 6 rfl rfl)
theorem dJ0_init_db425_48 : decode cJ0_init_db425 48 = .ok (.getfield 1048, 3) := dn_180 (ob_cJ0_init_db425_1 7 rfl rfl) rfl
theorem dJ0_init_db425_51 : decode cJ0_init_db425 51 = .ok (.ifCond .eq 28, 3) := dn_153 (ob_cJ0_init_db425_1 10 rfl rfl) (by decide +kernel)
theorem dJ0_init_db425_54 : decode cJ0_init_db425 54 = .ok (.aload_n 0, 1) := dn_42 (ob_cJ0_init_db425_1 13 rfl rfl)
theorem dJ0_init_db425_55 : decode cJ0_init_db425 55 = .ok (.aload_n 3, 1) := dn_45 (ob_cJ0_init_db425_1 14 rfl rfl)
theorem dJ0_init_db425_56 : decode cJ0_init_db425 56 = .ok (.iconst 0, 1) := dn_3 (ob_cJ0_init_db425_1 15 rfl rfl)
theorem dJ0_init_db425_57 : decode cJ0_init_db425 57 = .ok (.iload 4, 2) := dn_21 (ob_cJ0_init_db425_1 16 rfl rfl) rfl
theorem dJ0_init_db425_59 : decode cJ0_init_db425 59 = .ok (.invokestatic 1051, 3) := dn_184 (ob_cJ0_init_db425_1 18 rfl rfl) rfl
theorem dJ0_init_db425_62 : decode cJ0_init_db425 62 = .ok (.putfield 9, 3) := dn_181 (ob_cJ0_init_db425_1 21 rfl rfl) rfl
theorem dJ0_init_db425_65 : decode cJ0_init_db425 65 = .ok (.aload_n 0, 1) := dn_42 (ob_cJ0_init_db425_1 24 rfl rfl)
theorem dJ0_init_db425_66 : decode cJ0_init_db425 66 = .ok (.aload_n 0, 1) := dn_42 (ob_cJ0_init_db425_1 25 rfl rfl)
theorem dJ0_init_db425_67 : decode cJ0_init_db425 67 = .ok (.getfield 9, 3) := dn_180 (ob_cJ0_init_db425_1 26 rfl rfl) rfl
theorem dJ0_init_db425_70 : decode cJ0_init_db425 70 = .ok (.iload 4, 2) := dn_21 (ob_cJ0_init_db425_1 29 rfl rfl) rfl
theorem dJ0_init_db425_72 : decode cJ0_init_db425 72 = .ok (.invokestatic 47, 3) := dn_184 (ob_cJ0_init_db425_1 31 rfl rfl) rfl
theorem dJ0_init_db425_75 : decode cJ0_init_db425 75 = .ok (.putfield 15, 3) := dn_181 (ob_cJ0_init_db425_1 34 rfl rfl) rfl
theorem dJ0_init_db425_78 : decode cJ0_init_db425 78 = .ok (.return_, 1) := dn_177 (ob_cJ0_init_db425_1 37 rfl rfl)
theorem dJ0_init_db425_79 : decode cJ0_init_db425 79 = .ok (.aload_n 0, 1) := dn_42 (ob_cJ0_init_db425_1 38 rfl rfl)
theorem dJ0_init_db425_80 : decode cJ0_init_db425 80 = .ok (.iconst 1, 1) := dn_4 (ob_cJ0_init_db425_1 39 rfl rfl)
theorem dJ0_init_db425_81 : decode cJ0_init_db425 81 = .ok (.putfield 15, 3) := dn_181 (ob_cJ0_init_db425_2 0 rfl rfl) rfl
theorem dJ0_init_db425_84 : decode cJ0_init_db425 84 = .ok (.aload_n 0, 1) := dn_42 (ob_cJ0_init_db425_2 3 rfl rfl)
theorem dJ0_init_db425_85 : decode cJ0_init_db425 85 = .ok (.aload_n 3, 1) := dn_45 (ob_cJ0_init_db425_2 4 rfl rfl)
theorem dJ0_init_db425_86 : decode cJ0_init_db425 86 = .ok (.iconst 0, 1) := dn_3 (ob_cJ0_init_db425_2 5 rfl rfl)
theorem dJ0_init_db425_87 : decode cJ0_init_db425 87 = .ok (.iload 4, 2) := dn_21 (ob_cJ0_init_db425_2 6 rfl rfl) rfl
theorem dJ0_init_db425_89 : decode cJ0_init_db425 89 = .ok (.iconst 1, 1) := dn_4 (ob_cJ0_init_db425_2 8 rfl rfl)
theorem dJ0_init_db425_90 : decode cJ0_init_db425 90 = .ok (.ishl, 1) := dn_120 (ob_cJ0_init_db425_2 9 rfl rfl)
theorem dJ0_init_db425_91 : decode cJ0_init_db425 91 = .ok (.invokestatic 54, 3) := dn_184 (ob_cJ0_init_db425_2 10 rfl rfl) rfl
theorem dJ0_init_db425_94 : decode cJ0_init_db425 94 = .ok (.putfield 9, 3) := dn_181 (ob_cJ0_init_db425_2 13 rfl rfl) rfl
theorem dJ0_init_db425_97 : decode cJ0_init_db425 97 = .ok (.return_, 1) := dn_177 (ob_cJ0_init_db425_2 16 rfl rfl)
def kb_cJ0_coder_7d493 : List UInt8 := [178, 0, 38, 153, 0, 10, 42, 180, 0, 15, 167, 0, 4, 4, 172]
set_option maxRecDepth 10000 in
theorem ob_cJ0_coder_7d493 (r : Nat) {l : List UInt8} (h : kb_cJ0_coder_7d493.drop r = l) : (cJ0_coder_7d493).data.toList.drop r = l := by
  rw [show (cJ0_coder_7d493).data.toList = kb_cJ0_coder_7d493 from eqL_eq (by decide +kernel)]
  exact h
theorem dJ0_coder_7d493_0 : decode cJ0_coder_7d493 0 = .ok (.getstatic 38, 3) := dn_178 (ob_cJ0_coder_7d493 0 rfl) rfl
theorem dJ0_coder_7d493_3 : decode cJ0_coder_7d493 3 = .ok (.ifCond .eq 10, 3) := dn_153 (ob_cJ0_coder_7d493 3 rfl) (by decide +kernel)
theorem dJ0_coder_7d493_6 : decode cJ0_coder_7d493 6 = .ok (.aload_n 0, 1) := dn_42 (ob_cJ0_coder_7d493 6 rfl)
theorem dJ0_coder_7d493_7 : decode cJ0_coder_7d493 7 = .ok (.getfield 15, 3) := dn_180 (ob_cJ0_coder_7d493 7 rfl) rfl
theorem dJ0_coder_7d493_10 : decode cJ0_coder_7d493 10 = .ok (.goto 4, 3) := dn_167 (ob_cJ0_coder_7d493 10 rfl) (by decide +kernel)
theorem dJ0_coder_7d493_13 : decode cJ0_coder_7d493 13 = .ok (.iconst 1, 1) := dn_4 (ob_cJ0_coder_7d493 13 rfl)
theorem dJ0_coder_7d493_14 : decode cJ0_coder_7d493 14 = .ok (.ireturn, 1) := dn_172 (ob_cJ0_coder_7d493 14 rfl)
def kb_cJ0_checkIndex_df160 : List UInt8 := [26, 27, 178, 4, 29, 184, 4, 35, 87, 177]
set_option maxRecDepth 10000 in
theorem ob_cJ0_checkIndex_df160 (r : Nat) {l : List UInt8} (h : kb_cJ0_checkIndex_df160.drop r = l) : (cJ0_checkIndex_df160).data.toList.drop r = l := by
  rw [show (cJ0_checkIndex_df160).data.toList = kb_cJ0_checkIndex_df160 from eqL_eq (by decide +kernel)]
  exact h
theorem dJ0_checkIndex_df160_0 : decode cJ0_checkIndex_df160 0 = .ok (.iload_n 0, 1) := dn_26 (ob_cJ0_checkIndex_df160 0 rfl)
theorem dJ0_checkIndex_df160_1 : decode cJ0_checkIndex_df160 1 = .ok (.iload_n 1, 1) := dn_27 (ob_cJ0_checkIndex_df160 1 rfl)
theorem dJ0_checkIndex_df160_2 : decode cJ0_checkIndex_df160 2 = .ok (.getstatic 1053, 3) := dn_178 (ob_cJ0_checkIndex_df160 2 rfl) rfl
theorem dJ0_checkIndex_df160_5 : decode cJ0_checkIndex_df160 5 = .ok (.invokestatic 1059, 3) := dn_184 (ob_cJ0_checkIndex_df160 5 rfl) rfl
theorem dJ0_checkIndex_df160_8 : decode cJ0_checkIndex_df160 8 = .ok (.pop, 1) := dn_87 (ob_cJ0_checkIndex_df160 8 rfl)
theorem dJ0_checkIndex_df160_9 : decode cJ0_checkIndex_df160 9 = .ok (.return_, 1) := dn_177 (ob_cJ0_checkIndex_df160 9 rfl)
def kb_cJ0_checkBoundsOffCount_cabcc : List UInt8 := [26, 27, 28, 178, 4, 29, 184, 4, 41, 172]
set_option maxRecDepth 10000 in
theorem ob_cJ0_checkBoundsOffCount_cabcc (r : Nat) {l : List UInt8} (h : kb_cJ0_checkBoundsOffCount_cabcc.drop r = l) : (cJ0_checkBoundsOffCount_cabcc).data.toList.drop r = l := by
  rw [show (cJ0_checkBoundsOffCount_cabcc).data.toList = kb_cJ0_checkBoundsOffCount_cabcc from eqL_eq (by decide +kernel)]
  exact h
theorem dJ0_checkBoundsOffCount_cabcc_0 : decode cJ0_checkBoundsOffCount_cabcc 0 = .ok (.iload_n 0, 1) := dn_26 (ob_cJ0_checkBoundsOffCount_cabcc 0 rfl)
theorem dJ0_checkBoundsOffCount_cabcc_1 : decode cJ0_checkBoundsOffCount_cabcc 1 = .ok (.iload_n 1, 1) := dn_27 (ob_cJ0_checkBoundsOffCount_cabcc 1 rfl)
theorem dJ0_checkBoundsOffCount_cabcc_2 : decode cJ0_checkBoundsOffCount_cabcc 2 = .ok (.iload_n 2, 1) := dn_28 (ob_cJ0_checkBoundsOffCount_cabcc 2 rfl)
theorem dJ0_checkBoundsOffCount_cabcc_3 : decode cJ0_checkBoundsOffCount_cabcc 3 = .ok (.getstatic 1053, 3) := dn_178 (ob_cJ0_checkBoundsOffCount_cabcc 3 rfl) rfl
theorem dJ0_checkBoundsOffCount_cabcc_6 : decode cJ0_checkBoundsOffCount_cabcc 6 = .ok (.invokestatic 1065, 3) := dn_184 (ob_cJ0_checkBoundsOffCount_cabcc 6 rfl) rfl
theorem dJ0_checkBoundsOffCount_cabcc_9 : decode cJ0_checkBoundsOffCount_cabcc 9 = .ok (.ireturn, 1) := dn_172 (ob_cJ0_checkBoundsOffCount_cabcc 9 rfl)
def kb_cJ0_checkBoundsBeginEnd_23922 : List UInt8 := [26, 27, 28, 178, 4, 29, 184, 4, 38, 87, 177]
set_option maxRecDepth 10000 in
theorem ob_cJ0_checkBoundsBeginEnd_23922 (r : Nat) {l : List UInt8} (h : kb_cJ0_checkBoundsBeginEnd_23922.drop r = l) : (cJ0_checkBoundsBeginEnd_23922).data.toList.drop r = l := by
  rw [show (cJ0_checkBoundsBeginEnd_23922).data.toList = kb_cJ0_checkBoundsBeginEnd_23922 from eqL_eq (by decide +kernel)]
  exact h
theorem dJ0_checkBoundsBeginEnd_23922_0 : decode cJ0_checkBoundsBeginEnd_23922 0 = .ok (.iload_n 0, 1) := dn_26 (ob_cJ0_checkBoundsBeginEnd_23922 0 rfl)
theorem dJ0_checkBoundsBeginEnd_23922_1 : decode cJ0_checkBoundsBeginEnd_23922 1 = .ok (.iload_n 1, 1) := dn_27 (ob_cJ0_checkBoundsBeginEnd_23922 1 rfl)
theorem dJ0_checkBoundsBeginEnd_23922_2 : decode cJ0_checkBoundsBeginEnd_23922 2 = .ok (.iload_n 2, 1) := dn_28 (ob_cJ0_checkBoundsBeginEnd_23922 2 rfl)
theorem dJ0_checkBoundsBeginEnd_23922_3 : decode cJ0_checkBoundsBeginEnd_23922 3 = .ok (.getstatic 1053, 3) := dn_178 (ob_cJ0_checkBoundsBeginEnd_23922 3 rfl) rfl
theorem dJ0_checkBoundsBeginEnd_23922_6 : decode cJ0_checkBoundsBeginEnd_23922 6 = .ok (.invokestatic 1062, 3) := dn_184 (ob_cJ0_checkBoundsBeginEnd_23922 6 rfl) rfl
theorem dJ0_checkBoundsBeginEnd_23922_9 : decode cJ0_checkBoundsBeginEnd_23922 9 = .ok (.pop, 1) := dn_87 (ob_cJ0_checkBoundsBeginEnd_23922 9 rfl)
theorem dJ0_checkBoundsBeginEnd_23922_10 : decode cJ0_checkBoundsBeginEnd_23922 10 = .ok (.return_, 1) := dn_177 (ob_cJ0_checkBoundsBeginEnd_23922 10 rfl)
def kb_cJ4_init_da8c8 : List UInt8 := [42, 16, 16, 183, 0, 1, 177]
set_option maxRecDepth 10000 in
theorem ob_cJ4_init_da8c8 (r : Nat) {l : List UInt8} (h : kb_cJ4_init_da8c8.drop r = l) : (cJ4_init_da8c8).data.toList.drop r = l := by
  rw [show (cJ4_init_da8c8).data.toList = kb_cJ4_init_da8c8 from eqL_eq (by decide +kernel)]
  exact h
theorem dJ4_init_da8c8_0 : decode cJ4_init_da8c8 0 = .ok (.aload_n 0, 1) := dn_42 (ob_cJ4_init_da8c8 0 rfl)
theorem dJ4_init_da8c8_1 : decode cJ4_init_da8c8 1 = .ok (.bipush 16, 2) := dn_16 (ob_cJ4_init_da8c8 1 rfl) (by decide +kernel)
theorem dJ4_init_da8c8_3 : decode cJ4_init_da8c8 3 = .ok (.invokespecial 1, 3) := dn_183 (ob_cJ4_init_da8c8 3 rfl) rfl
theorem dJ4_init_da8c8_6 : decode cJ4_init_da8c8 6 = .ok (.return_, 1) := dn_177 (ob_cJ4_init_da8c8 6 rfl)
def kb_cJ4_append_15ec4 : List UInt8 := [42, 43, 183, 0, 29, 87, 42, 176]
set_option maxRecDepth 10000 in
theorem ob_cJ4_append_15ec4 (r : Nat) {l : List UInt8} (h : kb_cJ4_append_15ec4.drop r = l) : (cJ4_append_15ec4).data.toList.drop r = l := by
  rw [show (cJ4_append_15ec4).data.toList = kb_cJ4_append_15ec4 from eqL_eq (by decide +kernel)]
  exact h
theorem dJ4_append_15ec4_0 : decode cJ4_append_15ec4 0 = .ok (.aload_n 0, 1) := dn_42 (ob_cJ4_append_15ec4 0 rfl)
theorem dJ4_append_15ec4_1 : decode cJ4_append_15ec4 1 = .ok (.aload_n 1, 1) := dn_43 (ob_cJ4_append_15ec4 1 rfl)
theorem dJ4_append_15ec4_2 : decode cJ4_append_15ec4 2 = .ok (.invokespecial 29, 3) := dn_183 (ob_cJ4_append_15ec4 2 rfl) rfl
theorem dJ4_append_15ec4_5 : decode cJ4_append_15ec4 5 = .ok (.pop, 1) := dn_87 (ob_cJ4_append_15ec4 5 rfl)
theorem dJ4_append_15ec4_6 : decode cJ4_append_15ec4 6 = .ok (.aload_n 0, 1) := dn_42 (ob_cJ4_append_15ec4 6 rfl)
theorem dJ4_append_15ec4_7 : decode cJ4_append_15ec4 7 = .ok (.areturn, 1) := dn_176 (ob_cJ4_append_15ec4 7 rfl)
def kb_cJ4_append_cf468 : List UInt8 := [42, 27, 183, 0, 50, 87, 42, 176]
set_option maxRecDepth 10000 in
theorem ob_cJ4_append_cf468 (r : Nat) {l : List UInt8} (h : kb_cJ4_append_cf468.drop r = l) : (cJ4_append_cf468).data.toList.drop r = l := by
  rw [show (cJ4_append_cf468).data.toList = kb_cJ4_append_cf468 from eqL_eq (by decide +kernel)]
  exact h
theorem dJ4_append_cf468_0 : decode cJ4_append_cf468 0 = .ok (.aload_n 0, 1) := dn_42 (ob_cJ4_append_cf468 0 rfl)
theorem dJ4_append_cf468_1 : decode cJ4_append_cf468 1 = .ok (.iload_n 1, 1) := dn_27 (ob_cJ4_append_cf468 1 rfl)
theorem dJ4_append_cf468_2 : decode cJ4_append_cf468 2 = .ok (.invokespecial 50, 3) := dn_183 (ob_cJ4_append_cf468 2 rfl) rfl
theorem dJ4_append_cf468_5 : decode cJ4_append_cf468 5 = .ok (.pop, 1) := dn_87 (ob_cJ4_append_cf468 5 rfl)
theorem dJ4_append_cf468_6 : decode cJ4_append_cf468 6 = .ok (.aload_n 0, 1) := dn_42 (ob_cJ4_append_cf468 6 rfl)
theorem dJ4_append_cf468_7 : decode cJ4_append_cf468 7 = .ok (.areturn, 1) := dn_176 (ob_cJ4_append_cf468 7 rfl)
def kb_cJ4_append_bf812 : List UInt8 := [42, 27, 183, 0, 53, 87, 42, 176]
set_option maxRecDepth 10000 in
theorem ob_cJ4_append_bf812 (r : Nat) {l : List UInt8} (h : kb_cJ4_append_bf812.drop r = l) : (cJ4_append_bf812).data.toList.drop r = l := by
  rw [show (cJ4_append_bf812).data.toList = kb_cJ4_append_bf812 from eqL_eq (by decide +kernel)]
  exact h
theorem dJ4_append_bf812_0 : decode cJ4_append_bf812 0 = .ok (.aload_n 0, 1) := dn_42 (ob_cJ4_append_bf812 0 rfl)
theorem dJ4_append_bf812_1 : decode cJ4_append_bf812 1 = .ok (.iload_n 1, 1) := dn_27 (ob_cJ4_append_bf812 1 rfl)
theorem dJ4_append_bf812_2 : decode cJ4_append_bf812 2 = .ok (.invokespecial 53, 3) := dn_183 (ob_cJ4_append_bf812 2 rfl) rfl
theorem dJ4_append_bf812_5 : decode cJ4_append_bf812 5 = .ok (.pop, 1) := dn_87 (ob_cJ4_append_bf812 5 rfl)
theorem dJ4_append_bf812_6 : decode cJ4_append_bf812 6 = .ok (.aload_n 0, 1) := dn_42 (ob_cJ4_append_bf812 6 rfl)
theorem dJ4_append_bf812_7 : decode cJ4_append_bf812 7 = .ok (.areturn, 1) := dn_176 (ob_cJ4_append_bf812 7 rfl)
def kb_cJ4_toString_0e30d : List UInt8 := [187, 0, 18, 89, 42, 183, 0, 137, 176]
set_option maxRecDepth 10000 in
theorem ob_cJ4_toString_0e30d (r : Nat) {l : List UInt8} (h : kb_cJ4_toString_0e30d.drop r = l) : (cJ4_toString_0e30d).data.toList.drop r = l := by
  rw [show (cJ4_toString_0e30d).data.toList = kb_cJ4_toString_0e30d from eqL_eq (by decide +kernel)]
  exact h
theorem dJ4_toString_0e30d_0 : decode cJ4_toString_0e30d 0 = .ok (.new 18, 3) := dn_187 (ob_cJ4_toString_0e30d 0 rfl) rfl
theorem dJ4_toString_0e30d_3 : decode cJ4_toString_0e30d 3 = .ok (.dup, 1) := dn_89 (ob_cJ4_toString_0e30d 3 rfl)
theorem dJ4_toString_0e30d_4 : decode cJ4_toString_0e30d 4 = .ok (.aload_n 0, 1) := dn_42 (ob_cJ4_toString_0e30d 4 rfl)
theorem dJ4_toString_0e30d_5 : decode cJ4_toString_0e30d 5 = .ok (.invokespecial 137, 3) := dn_183 (ob_cJ4_toString_0e30d 5 rfl) rfl
theorem dJ4_toString_0e30d_8 : decode cJ4_toString_0e30d 8 = .ok (.areturn, 1) := dn_176 (ob_cJ4_toString_0e30d 8 rfl)
def kb_cJ4_length_8abf5 : List UInt8 := [42, 183, 1, 87, 172]
set_option maxRecDepth 10000 in
theorem ob_cJ4_length_8abf5 (r : Nat) {l : List UInt8} (h : kb_cJ4_length_8abf5.drop r = l) : (cJ4_length_8abf5).data.toList.drop r = l := by
  rw [show (cJ4_length_8abf5).data.toList = kb_cJ4_length_8abf5 from eqL_eq (by decide +kernel)]
  exact h
theorem dJ4_length_8abf5_0 : decode cJ4_length_8abf5 0 = .ok (.aload_n 0, 1) := dn_42 (ob_cJ4_length_8abf5 0 rfl)
theorem dJ4_length_8abf5_1 : decode cJ4_length_8abf5 1 = .ok (.invokespecial 343, 3) := dn_183 (ob_cJ4_length_8abf5 1 rfl) rfl
theorem dJ4_length_8abf5_4 : decode cJ4_length_8abf5 4 = .ok (.ireturn, 1) := dn_172 (ob_cJ4_length_8abf5 4 rfl)
def kb_cJ1_canEncode_fc78d : List UInt8 := [26, 17, 0, 255, 163, 0, 7, 4, 167, 0, 4, 3, 172]
set_option maxRecDepth 10000 in
theorem ob_cJ1_canEncode_fc78d (r : Nat) {l : List UInt8} (h : kb_cJ1_canEncode_fc78d.drop r = l) : (cJ1_canEncode_fc78d).data.toList.drop r = l := by
  rw [show (cJ1_canEncode_fc78d).data.toList = kb_cJ1_canEncode_fc78d from eqL_eq (by decide +kernel)]
  exact h
theorem dJ1_canEncode_fc78d_0 : decode cJ1_canEncode_fc78d 0 = .ok (.iload_n 0, 1) := dn_26 (ob_cJ1_canEncode_fc78d 0 rfl)
theorem dJ1_canEncode_fc78d_1 : decode cJ1_canEncode_fc78d 1 = .ok (.sipush 255, 3) := dn_17 (ob_cJ1_canEncode_fc78d 1 rfl) (by decide +kernel)
theorem dJ1_canEncode_fc78d_4 : decode cJ1_canEncode_fc78d 4 = .ok (.if_icmp .gt 7, 3) := dn_163 (ob_cJ1_canEncode_fc78d 4 rfl) (by decide +kernel)
theorem dJ1_canEncode_fc78d_7 : decode cJ1_canEncode_fc78d 7 = .ok (.iconst 1, 1) := dn_4 (ob_cJ1_canEncode_fc78d 7 rfl)
theorem dJ1_canEncode_fc78d_8 : decode cJ1_canEncode_fc78d 8 = .ok (.goto 4, 3) := dn_167 (ob_cJ1_canEncode_fc78d 8 rfl) (by decide +kernel)
theorem dJ1_canEncode_fc78d_11 : decode cJ1_canEncode_fc78d 11 = .ok (.iconst 0, 1) := dn_3 (ob_cJ1_canEncode_fc78d 11 rfl)
theorem dJ1_canEncode_fc78d_12 : decode cJ1_canEncode_fc78d 12 = .ok (.ireturn, 1) := dn_172 (ob_cJ1_canEncode_fc78d 12 rfl)
def kb_cJ1_inflate_0e8fd : List UInt8 := [42, 27, 44, 29, 21, 4, 184, 0, 240, 177]
set_option maxRecDepth 10000 in
theorem ob_cJ1_inflate_0e8fd (r : Nat) {l : List UInt8} (h : kb_cJ1_inflate_0e8fd.drop r = l) : (cJ1_inflate_0e8fd).data.toList.drop r = l := by
  rw [show (cJ1_inflate_0e8fd).data.toList = kb_cJ1_inflate_0e8fd from eqL_eq (by decide +kernel)]
  exact h
theorem dJ1_inflate_0e8fd_0 : decode cJ1_inflate_0e8fd 0 = .ok (.aload_n 0, 1) := dn_42 (ob_cJ1_inflate_0e8fd 0 rfl)
theorem dJ1_inflate_0e8fd_1 : decode cJ1_inflate_0e8fd 1 = .ok (.iload_n 1, 1) := dn_27 (ob_cJ1_inflate_0e8fd 1 rfl)
theorem dJ1_inflate_0e8fd_2 : decode cJ1_inflate_0e8fd 2 = .ok (.aload_n 2, 1) := dn_44 (ob_cJ1_inflate_0e8fd 2 rfl)
theorem dJ1_inflate_0e8fd_3 : decode cJ1_inflate_0e8fd 3 = .ok (.iload_n 3, 1) := dn_29 (ob_cJ1_inflate_0e8fd 3 rfl)
theorem dJ1_inflate_0e8fd_4 : decode cJ1_inflate_0e8fd 4 = .ok (.iload 4, 2) := dn_21 (ob_cJ1_inflate_0e8fd 4 rfl) rfl
theorem dJ1_inflate_0e8fd_6 : decode cJ1_inflate_0e8fd 6 = .ok (.invokestatic 240, 3) := dn_184 (ob_cJ1_inflate_0e8fd 6 rfl) rfl
theorem dJ1_inflate_0e8fd_9 : decode cJ1_inflate_0e8fd 9 = .ok (.return_, 1) := dn_177 (ob_cJ1_inflate_0e8fd 9 rfl)
def kb_cJ2_newBytesFor_77867 : List UInt8 := [26, 184, 0, 11, 188, 8, 176]
set_option maxRecDepth 10000 in
theorem ob_cJ2_newBytesFor_77867 (r : Nat) {l : List UInt8} (h : kb_cJ2_newBytesFor_77867.drop r = l) : (cJ2_newBytesFor_77867).data.toList.drop r = l := by
  rw [show (cJ2_newBytesFor_77867).data.toList = kb_cJ2_newBytesFor_77867 from eqL_eq (by decide +kernel)]
  exact h
theorem dJ2_newBytesFor_77867_0 : decode cJ2_newBytesFor_77867 0 = .ok (.iload_n 0, 1) := dn_26 (ob_cJ2_newBytesFor_77867 0 rfl)
theorem dJ2_newBytesFor_77867_1 : decode cJ2_newBytesFor_77867 1 = .ok (.invokestatic 11, 3) := dn_184 (ob_cJ2_newBytesFor_77867 1 rfl) rfl
theorem dJ2_newBytesFor_77867_4 : decode cJ2_newBytesFor_77867 4 = .ok (.newarray .byte, 2) := by decide +kernel
theorem dJ2_newBytesFor_77867_6 : decode cJ2_newBytesFor_77867 6 = .ok (.areturn, 1) := dn_176 (ob_cJ2_newBytesFor_77867 6 rfl)
def kb_cJ2_newBytesLength_0f7a4_0 : List UInt8 := [26, 156, 0, 11, 187, 0, 17, 89, 183, 0, 19, 191, 26, 18, 20, 161, 0, 40, 187, 0, 21, 89, 187, 0, 23, 89, 183, 0, 25, 18, 26, 182, 0, 28, 26, 182, 0, 32, 18, 35]
def kb_cJ2_newBytesLength_0f7a4_1 : List UInt8 := [182, 0, 28, 18, 20, 182, 0, 32, 182, 0, 37, 183, 0, 41, 191, 26, 4, 120, 172]
def tb_cJ2_newBytesLength_0f7a4_2 : List UInt8 := []
def tb_cJ2_newBytesLength_0f7a4_1 : List UInt8 := kb_cJ2_newBytesLength_0f7a4_1 ++ tb_cJ2_newBytesLength_0f7a4_2
def tb_cJ2_newBytesLength_0f7a4_0 : List UInt8 := kb_cJ2_newBytesLength_0f7a4_0 ++ tb_cJ2_newBytesLength_0f7a4_1
set_option maxRecDepth 100000 in
theorem tb_cJ2_newBytesLength_0f7a4 : (cJ2_newBytesLength_0f7a4).data.toList = tb_cJ2_newBytesLength_0f7a4_0 := eqL_eq (by decide +kernel)
theorem ow_cJ2_newBytesLength_0f7a4_0 (r : Nat) : (cJ2_newBytesLength_0f7a4).data.toList.drop (0 + r) = tb_cJ2_newBytesLength_0f7a4_0.drop r := by rw [tb_cJ2_newBytesLength_0f7a4, Nat.zero_add]
theorem ow_cJ2_newBytesLength_0f7a4_1 (r : Nat) : (cJ2_newBytesLength_0f7a4).data.toList.drop (40 + r) = tb_cJ2_newBytesLength_0f7a4_1.drop r := by
  have e := ow_cJ2_newBytesLength_0f7a4_0 (40 + r)
  rw [show 0 + (40 + r) = 40 + r by omega] at e
  exact e.trans (dr_len (a := kb_cJ2_newBytesLength_0f7a4_0) (t := tb_cJ2_newBytesLength_0f7a4_1) (by decide +kernel))
theorem ob_cJ2_newBytesLength_0f7a4_0 (r : Nat) {pc : Nat} {l : List UInt8} (hp : 0 + r = pc) (h : tb_cJ2_newBytesLength_0f7a4_0.drop r = l) : (cJ2_newBytesLength_0f7a4).data.toList.drop pc = l := by
  subst hp
  exact (ow_cJ2_newBytesLength_0f7a4_0 r).trans h
theorem ob_cJ2_newBytesLength_0f7a4_1 (r : Nat) {pc : Nat} {l : List UInt8} (hp : 40 + r = pc) (h : tb_cJ2_newBytesLength_0f7a4_1.drop r = l) : (cJ2_newBytesLength_0f7a4).data.toList.drop pc = l := by
  subst hp
  exact (ow_cJ2_newBytesLength_0f7a4_1 r).trans h
theorem dJ2_newBytesLength_0f7a4_0 : decode cJ2_newBytesLength_0f7a4 0 = .ok (.iload_n 0, 1) := dn_26 (ob_cJ2_newBytesLength_0f7a4_0 0 rfl rfl)
theorem dJ2_newBytesLength_0f7a4_1 : decode cJ2_newBytesLength_0f7a4 1 = .ok (.ifCond .ge 11, 3) := dn_156 (ob_cJ2_newBytesLength_0f7a4_0 1 rfl rfl) (by decide +kernel)
theorem dJ2_newBytesLength_0f7a4_4 : decode cJ2_newBytesLength_0f7a4 4 = .ok (.new 17, 3) := dn_187 (ob_cJ2_newBytesLength_0f7a4_0 4 rfl rfl) rfl
theorem dJ2_newBytesLength_0f7a4_7 : decode cJ2_newBytesLength_0f7a4 7 = .ok (.dup, 1) := dn_89 (ob_cJ2_newBytesLength_0f7a4_0 7 rfl rfl)
theorem dJ2_newBytesLength_0f7a4_8 : decode cJ2_newBytesLength_0f7a4 8 = .ok (.invokespecial 19, 3) := dn_183 (ob_cJ2_newBytesLength_0f7a4_0 8 rfl rfl) rfl
theorem dJ2_newBytesLength_0f7a4_11 : decode cJ2_newBytesLength_0f7a4 11 = .ok (.athrow, 1) := dn_191 (ob_cJ2_newBytesLength_0f7a4_0 11 rfl rfl)
theorem dJ2_newBytesLength_0f7a4_12 : decode cJ2_newBytesLength_0f7a4 12 = .ok (.iload_n 0, 1) := dn_26 (ob_cJ2_newBytesLength_0f7a4_0 12 rfl rfl)
theorem dJ2_newBytesLength_0f7a4_13 : decode cJ2_newBytesLength_0f7a4 13 = .ok (.ldc 20, 2) := dn_18 (ob_cJ2_newBytesLength_0f7a4_0 13 rfl rfl) rfl
theorem dJ2_newBytesLength_0f7a4_15 : decode cJ2_newBytesLength_0f7a4 15 = .ok (.if_icmp .lt 40, 3) := dn_161 (ob_cJ2_newBytesLength_0f7a4_0 15 rfl rfl) (by decide +kernel)
theorem dJ2_newBytesLength_0f7a4_18 : decode cJ2_newBytesLength_0f7a4 18 = .ok (.new 21, 3) := dn_187 (ob_cJ2_newBytesLength_0f7a4_0 18 rfl rfl) rfl
theorem dJ2_newBytesLength_0f7a4_21 : decode cJ2_newBytesLength_0f7a4 21 = .ok (.dup, 1) := dn_89 (ob_cJ2_newBytesLength_0f7a4_0 21 rfl rfl)
theorem dJ2_newBytesLength_0f7a4_22 : decode cJ2_newBytesLength_0f7a4 22 = .ok (.new 23, 3) := dn_187 (ob_cJ2_newBytesLength_0f7a4_0 22 rfl rfl) rfl
theorem dJ2_newBytesLength_0f7a4_25 : decode cJ2_newBytesLength_0f7a4 25 = .ok (.dup, 1) := dn_89 (ob_cJ2_newBytesLength_0f7a4_0 25 rfl rfl)
theorem dJ2_newBytesLength_0f7a4_26 : decode cJ2_newBytesLength_0f7a4 26 = .ok (.invokespecial 25, 3) := dn_183 (ob_cJ2_newBytesLength_0f7a4_0 26 rfl rfl) rfl
theorem dJ2_newBytesLength_0f7a4_29 : decode cJ2_newBytesLength_0f7a4 29 = .ok (.ldc 26, 2) := dn_18 (ob_cJ2_newBytesLength_0f7a4_0 29 rfl rfl) rfl
theorem dJ2_newBytesLength_0f7a4_31 : decode cJ2_newBytesLength_0f7a4 31 = .ok (.invokevirtual 28, 3) := dn_182 (ob_cJ2_newBytesLength_0f7a4_0 31 rfl rfl) rfl
theorem dJ2_newBytesLength_0f7a4_34 : decode cJ2_newBytesLength_0f7a4 34 = .ok (.iload_n 0, 1) := dn_26 (ob_cJ2_newBytesLength_0f7a4_0 34 rfl rfl)
theorem dJ2_newBytesLength_0f7a4_35 : decode cJ2_newBytesLength_0f7a4 35 = .ok (.invokevirtual 32, 3) := dn_182 (ob_cJ2_newBytesLength_0f7a4_0 35 rfl rfl) rfl
theorem dJ2_newBytesLength_0f7a4_38 : decode cJ2_newBytesLength_0f7a4 38 = .ok (.ldc 35, 2) := dn_18 (ob_cJ2_newBytesLength_0f7a4_0 38 rfl rfl) rfl
theorem dJ2_newBytesLength_0f7a4_40 : decode cJ2_newBytesLength_0f7a4 40 = .ok (.invokevirtual 28, 3) := dn_182 (ob_cJ2_newBytesLength_0f7a4_1 0 rfl rfl) rfl
theorem dJ2_newBytesLength_0f7a4_43 : decode cJ2_newBytesLength_0f7a4 43 = .ok (.ldc 20, 2) := dn_18 (ob_cJ2_newBytesLength_0f7a4_1 3 rfl rfl) rfl
theorem dJ2_newBytesLength_0f7a4_45 : decode cJ2_newBytesLength_0f7a4 45 = .ok (.invokevirtual 32, 3) := dn_182 (ob_cJ2_newBytesLength_0f7a4_1 5 rfl rfl) rfl
theorem dJ2_newBytesLength_0f7a4_48 : decode cJ2_newBytesLength_0f7a4 48 = .ok (.invokevirtual 37, 3) := dn_182 (ob_cJ2_newBytesLength_0f7a4_1 8 rfl rfl) rfl
theorem dJ2_newBytesLength_0f7a4_51 : decode cJ2_newBytesLength_0f7a4 51 = .ok (.invokespecial 41, 3) := dn_183 (ob_cJ2_newBytesLength_0f7a4_1 11 rfl rfl) rfl
theorem dJ2_newBytesLength_0f7a4_54 : decode cJ2_newBytesLength_0f7a4 54 = .ok (.athrow, 1) := dn_191 (ob_cJ2_newBytesLength_0f7a4_1 14 rfl rfl)
theorem dJ2_newBytesLength_0f7a4_55 : decode cJ2_newBytesLength_0f7a4 55 = .ok (.iload_n 0, 1) := dn_26 (ob_cJ2_newBytesLength_0f7a4_1 15 rfl rfl)
theorem dJ2_newBytesLength_0f7a4_56 : decode cJ2_newBytesLength_0f7a4 56 = .ok (.iconst 1, 1) := dn_4 (ob_cJ2_newBytesLength_0f7a4_1 16 rfl rfl)
theorem dJ2_newBytesLength_0f7a4_57 : decode cJ2_newBytesLength_0f7a4 57 = .ok (.ishl, 1) := dn_120 (ob_cJ2_newBytesLength_0f7a4_1 17 rfl rfl)
theorem dJ2_newBytesLength_0f7a4_58 : decode cJ2_newBytesLength_0f7a4 58 = .ok (.ireturn, 1) := dn_172 (ob_cJ2_newBytesLength_0f7a4_1 18 rfl rfl)
def kb_cJ2_putChar_b72d1_0 : List UInt8 := [178, 0, 44, 154, 0, 25, 27, 155, 0, 11, 27, 42, 184, 0, 48, 161, 0, 13, 187, 0, 52, 89, 18, 54, 183, 0, 56, 191, 27, 4, 120, 60, 42, 27, 132, 1, 1, 28, 178, 0, 59]
def kb_cJ2_putChar_b72d1_1 : List UInt8 := [122, 145, 84, 42, 27, 28, 178, 0, 63, 122, 145, 84, 177]
def tb_cJ2_putChar_b72d1_2 : List UInt8 := []
def tb_cJ2_putChar_b72d1_1 : List UInt8 := kb_cJ2_putChar_b72d1_1 ++ tb_cJ2_putChar_b72d1_2
def tb_cJ2_putChar_b72d1_0 : List UInt8 := kb_cJ2_putChar_b72d1_0 ++ tb_cJ2_putChar_b72d1_1
set_option maxRecDepth 100000 in
theorem tb_cJ2_putChar_b72d1 : (cJ2_putChar_b72d1).data.toList = tb_cJ2_putChar_b72d1_0 := eqL_eq (by decide +kernel)
theorem ow_cJ2_putChar_b72d1_0 (r : Nat) : (cJ2_putChar_b72d1).data.toList.drop (0 + r) = tb_cJ2_putChar_b72d1_0.drop r := by rw [tb_cJ2_putChar_b72d1, Nat.zero_add]
theorem ow_cJ2_putChar_b72d1_1 (r : Nat) : (cJ2_putChar_b72d1).data.toList.drop (41 + r) = tb_cJ2_putChar_b72d1_1.drop r := by
  have e := ow_cJ2_putChar_b72d1_0 (41 + r)
  rw [show 0 + (41 + r) = 41 + r by omega] at e
  exact e.trans (dr_len (a := kb_cJ2_putChar_b72d1_0) (t := tb_cJ2_putChar_b72d1_1) (by decide +kernel))
theorem ob_cJ2_putChar_b72d1_0 (r : Nat) {pc : Nat} {l : List UInt8} (hp : 0 + r = pc) (h : tb_cJ2_putChar_b72d1_0.drop r = l) : (cJ2_putChar_b72d1).data.toList.drop pc = l := by
  subst hp
  exact (ow_cJ2_putChar_b72d1_0 r).trans h
theorem ob_cJ2_putChar_b72d1_1 (r : Nat) {pc : Nat} {l : List UInt8} (hp : 41 + r = pc) (h : tb_cJ2_putChar_b72d1_1.drop r = l) : (cJ2_putChar_b72d1).data.toList.drop pc = l := by
  subst hp
  exact (ow_cJ2_putChar_b72d1_1 r).trans h
theorem dJ2_putChar_b72d1_0 : decode cJ2_putChar_b72d1 0 = .ok (.getstatic 44, 3) := dn_178 (ob_cJ2_putChar_b72d1_0 0 rfl rfl) rfl
theorem dJ2_putChar_b72d1_3 : decode cJ2_putChar_b72d1 3 = .ok (.ifCond .ne 25, 3) := dn_154 (ob_cJ2_putChar_b72d1_0 3 rfl rfl) (by decide +kernel)
theorem dJ2_putChar_b72d1_6 : decode cJ2_putChar_b72d1 6 = .ok (.iload_n 1, 1) := dn_27 (ob_cJ2_putChar_b72d1_0 6 rfl rfl)
theorem dJ2_putChar_b72d1_7 : decode cJ2_putChar_b72d1 7 = .ok (.ifCond .lt 11, 3) := dn_155 (ob_cJ2_putChar_b72d1_0 7 rfl rfl) (by decide +kernel)
theorem dJ2_putChar_b72d1_10 : decode cJ2_putChar_b72d1 10 = .ok (.iload_n 1, 1) := dn_27 (ob_cJ2_putChar_b72d1_0 10 rfl rfl)
theorem dJ2_putChar_b72d1_11 : decode cJ2_putChar_b72d1 11 = .ok (.aload_n 0, 1) := dn_42 (ob_cJ2_putChar_b72d1_0 11 rfl rfl)
theorem dJ2_putChar_b72d1_12 : decode cJ2_putChar_b72d1 12 = .ok (.invokestatic 48, 3) := dn_184 (ob_cJ2_putChar_b72d1_0 12 rfl rfl) rfl
theorem dJ2_putChar_b72d1_15 : decode cJ2_putChar_b72d1 15 = .ok (.if_icmp .lt 13, 3) := dn_161 (ob_cJ2_putChar_b72d1_0 15 rfl rfl) (by decide +kernel)
theorem dJ2_putChar_b72d1_18 : decode cJ2_putChar_b72d1 18 = .ok (.new 52, 3) := dn_187 (ob_cJ2_putChar_b72d1_0 18 rfl rfl) rfl
theorem dJ2_putChar_b72d1_21 : decode cJ2_putChar_b72d1 21 = .ok (.dup, 1) := dn_89 (ob_cJ2_putChar_b72d1_0 21 rfl rfl)
theorem dJ2_putChar_b72d1_22 : decode cJ2_putChar_b72d1 22 = .ok (.ldc 54, 2) := dn_18 (ob_cJ2_putChar_b72d1_0 22 rfl rfl) rfl
theorem dJ2_putChar_b72d1_24 : decode cJ2_putChar_b72d1 24 = .ok (.invokespecial 56, 3) := dn_183 (ob_cJ2_putChar_b72d1_0 24 rfl rfl) rfl
theorem dJ2_putChar_b72d1_27 : decode cJ2_putChar_b72d1 27 = .ok (.athrow, 1) := dn_191 (ob_cJ2_putChar_b72d1_0 27 rfl rfl)
theorem dJ2_putChar_b72d1_28 : decode cJ2_putChar_b72d1 28 = .ok (.iload_n 1, 1) := dn_27 (ob_cJ2_putChar_b72d1_0 28 rfl rfl)
theorem dJ2_putChar_b72d1_29 : decode cJ2_putChar_b72d1 29 = .ok (.iconst 1, 1) := dn_4 (ob_cJ2_putChar_b72d1_0 29 rfl rfl)
theorem dJ2_putChar_b72d1_30 : decode cJ2_putChar_b72d1 30 = .ok (.ishl, 1) := dn_120 (ob_cJ2_putChar_b72d1_0 30 rfl rfl)
theorem dJ2_putChar_b72d1_31 : decode cJ2_putChar_b72d1 31 = .ok (.istore_n 1, 1) := dn_60 (ob_cJ2_putChar_b72d1_0 31 rfl rfl)
theorem dJ2_putChar_b72d1_32 : decode cJ2_putChar_b72d1 32 = .ok (.aload_n 0, 1) := dn_42 (ob_cJ2_putChar_b72d1_0 32 rfl rfl)
theorem dJ2_putChar_b72d1_33 : decode cJ2_putChar_b72d1 33 = .ok (.iload_n 1, 1) := dn_27 (ob_cJ2_putChar_b72d1_0 33 rfl rfl)
theorem dJ2_putChar_b72d1_34 : decode cJ2_putChar_b72d1 34 = .ok (.iinc 1 1, 3) := dn_132 (ob_cJ2_putChar_b72d1_0 34 rfl rfl) rfl (by decide +kernel)
theorem dJ2_putChar_b72d1_37 : decode cJ2_putChar_b72d1 37 = .ok (.iload_n 2, 1) := dn_28 (ob_cJ2_putChar_b72d1_0 37 rfl rfl)
theorem dJ2_putChar_b72d1_38 : decode cJ2_putChar_b72d1 38 = .ok (.getstatic 59, 3) := dn_178 (ob_cJ2_putChar_b72d1_0 38 rfl rfl) rfl
theorem dJ2_putChar_b72d1_41 : decode cJ2_putChar_b72d1 41 = .ok (.ishr, 1) := dn_122 (ob_cJ2_putChar_b72d1_1 0 rfl rfl)
theorem dJ2_putChar_b72d1_42 : decode cJ2_putChar_b72d1 42 = .ok (.i2b, 1) := dn_145 (ob_cJ2_putChar_b72d1_1 1 rfl rfl)
theorem dJ2_putChar_b72d1_43 : decode cJ2_putChar_b72d1 43 = .ok (.bastore, 1) := dn_84 (ob_cJ2_putChar_b72d1_1 2 rfl rfl)
theorem dJ2_putChar_b72d1_44 : decode cJ2_putChar_b72d1 44 = .ok (.aload_n 0, 1) := dn_42 (ob_cJ2_putChar_b72d1_1 3 rfl rfl)
theorem dJ2_putChar_b72d1_45 : decode cJ2_putChar_b72d1 45 = .ok (.iload_n 1, 1) := dn_27 (ob_cJ2_putChar_b72d1_1 4 rfl rfl)
theorem dJ2_putChar_b72d1_46 : decode cJ2_putChar_b72d1 46 = .ok (.iload_n 2, 1) := dn_28 (ob_cJ2_putChar_b72d1_1 5 rfl rfl)
theorem dJ2_putChar_b72d1_47 : decode cJ2_putChar_b72d1 47 = .ok (.getstatic 63, 3) := dn_178 (ob_cJ2_putChar_b72d1_1 6 rfl rfl) rfl
theorem dJ2_putChar_b72d1_50 : decode cJ2_putChar_b72d1 50 = .ok (.ishr, 1) := dn_122 (ob_cJ2_putChar_b72d1_1 9 rfl rfl)
theorem dJ2_putChar_b72d1_51 : decode cJ2_putChar_b72d1 51 = .ok (.i2b, 1) := dn_145 (ob_cJ2_putChar_b72d1_1 10 rfl rfl)
theorem dJ2_putChar_b72d1_52 : decode cJ2_putChar_b72d1 52 = .ok (.bastore, 1) := dn_84 (ob_cJ2_putChar_b72d1_1 11 rfl rfl)
theorem dJ2_putChar_b72d1_53 : decode cJ2_putChar_b72d1 53 = .ok (.return_, 1) := dn_177 (ob_cJ2_putChar_b72d1_1 12 rfl rfl)
def kb_cJ2_getChar_3b067_0 : List UInt8 := [178, 0, 44, 154, 0, 25, 27, 155, 0, 11, 27, 42, 184, 0, 48, 161, 0, 13, 187, 0, 52, 89, 18, 54, 183, 0, 56, 191, 27, 4, 120, 60, 42, 27, 132, 1, 1, 51, 17, 0, 255]
def kb_cJ2_getChar_3b067_1 : List UInt8 := [126, 178, 0, 59, 120, 42, 27, 51, 17, 0, 255, 126, 178, 0, 63, 120, 128, 146, 172]
def tb_cJ2_getChar_3b067_2 : List UInt8 := []
def tb_cJ2_getChar_3b067_1 : List UInt8 := kb_cJ2_getChar_3b067_1 ++ tb_cJ2_getChar_3b067_2
def tb_cJ2_getChar_3b067_0 : List UInt8 := kb_cJ2_getChar_3b067_0 ++ tb_cJ2_getChar_3b067_1
set_option maxRecDepth 100000 in
theorem tb_cJ2_getChar_3b067 : (cJ2_getChar_3b067).data.toList = tb_cJ2_getChar_3b067_0 := eqL_eq (by decide +kernel)
theorem ow_cJ2_getChar_3b067_0 (r : Nat) : (cJ2_getChar_3b067).data.toList.drop (0 + r) = tb_cJ2_getChar_3b067_0.drop r := by rw [tb_cJ2_getChar_3b067, Nat.zero_add]
theorem ow_cJ2_getChar_3b067_1 (r : Nat) : (cJ2_getChar_3b067).data.toList.drop (41 + r) = tb_cJ2_getChar_3b067_1.drop r := by
  have e := ow_cJ2_getChar_3b067_0 (41 + r)
  rw [show 0 + (41 + r) = 41 + r by omega] at e
  exact e.trans (dr_len (a := kb_cJ2_getChar_3b067_0) (t := tb_cJ2_getChar_3b067_1) (by decide +kernel))
theorem ob_cJ2_getChar_3b067_0 (r : Nat) {pc : Nat} {l : List UInt8} (hp : 0 + r = pc) (h : tb_cJ2_getChar_3b067_0.drop r = l) : (cJ2_getChar_3b067).data.toList.drop pc = l := by
  subst hp
  exact (ow_cJ2_getChar_3b067_0 r).trans h
theorem ob_cJ2_getChar_3b067_1 (r : Nat) {pc : Nat} {l : List UInt8} (hp : 41 + r = pc) (h : tb_cJ2_getChar_3b067_1.drop r = l) : (cJ2_getChar_3b067).data.toList.drop pc = l := by
  subst hp
  exact (ow_cJ2_getChar_3b067_1 r).trans h
theorem dJ2_getChar_3b067_0 : decode cJ2_getChar_3b067 0 = .ok (.getstatic 44, 3) := dn_178 (ob_cJ2_getChar_3b067_0 0 rfl rfl) rfl
theorem dJ2_getChar_3b067_3 : decode cJ2_getChar_3b067 3 = .ok (.ifCond .ne 25, 3) := dn_154 (ob_cJ2_getChar_3b067_0 3 rfl rfl) (by decide +kernel)
theorem dJ2_getChar_3b067_6 : decode cJ2_getChar_3b067 6 = .ok (.iload_n 1, 1) := dn_27 (ob_cJ2_getChar_3b067_0 6 rfl rfl)
theorem dJ2_getChar_3b067_7 : decode cJ2_getChar_3b067 7 = .ok (.ifCond .lt 11, 3) := dn_155 (ob_cJ2_getChar_3b067_0 7 rfl rfl) (by decide +kernel)
theorem dJ2_getChar_3b067_10 : decode cJ2_getChar_3b067 10 = .ok (.iload_n 1, 1) := dn_27 (ob_cJ2_getChar_3b067_0 10 rfl rfl)
theorem dJ2_getChar_3b067_11 : decode cJ2_getChar_3b067 11 = .ok (.aload_n 0, 1) := dn_42 (ob_cJ2_getChar_3b067_0 11 rfl rfl)
theorem dJ2_getChar_3b067_12 : decode cJ2_getChar_3b067 12 = .ok (.invokestatic 48, 3) := dn_184 (ob_cJ2_getChar_3b067_0 12 rfl rfl) rfl
theorem dJ2_getChar_3b067_15 : decode cJ2_getChar_3b067 15 = .ok (.if_icmp .lt 13, 3) := dn_161 (ob_cJ2_getChar_3b067_0 15 rfl rfl) (by decide +kernel)
theorem dJ2_getChar_3b067_18 : decode cJ2_getChar_3b067 18 = .ok (.new 52, 3) := dn_187 (ob_cJ2_getChar_3b067_0 18 rfl rfl) rfl
theorem dJ2_getChar_3b067_21 : decode cJ2_getChar_3b067 21 = .ok (.dup, 1) := dn_89 (ob_cJ2_getChar_3b067_0 21 rfl rfl)
theorem dJ2_getChar_3b067_22 : decode cJ2_getChar_3b067 22 = .ok (.ldc 54, 2) := dn_18 (ob_cJ2_getChar_3b067_0 22 rfl rfl) rfl
theorem dJ2_getChar_3b067_24 : decode cJ2_getChar_3b067 24 = .ok (.invokespecial 56, 3) := dn_183 (ob_cJ2_getChar_3b067_0 24 rfl rfl) rfl
theorem dJ2_getChar_3b067_27 : decode cJ2_getChar_3b067 27 = .ok (.athrow, 1) := dn_191 (ob_cJ2_getChar_3b067_0 27 rfl rfl)
theorem dJ2_getChar_3b067_28 : decode cJ2_getChar_3b067 28 = .ok (.iload_n 1, 1) := dn_27 (ob_cJ2_getChar_3b067_0 28 rfl rfl)
theorem dJ2_getChar_3b067_29 : decode cJ2_getChar_3b067 29 = .ok (.iconst 1, 1) := dn_4 (ob_cJ2_getChar_3b067_0 29 rfl rfl)
theorem dJ2_getChar_3b067_30 : decode cJ2_getChar_3b067 30 = .ok (.ishl, 1) := dn_120 (ob_cJ2_getChar_3b067_0 30 rfl rfl)
theorem dJ2_getChar_3b067_31 : decode cJ2_getChar_3b067 31 = .ok (.istore_n 1, 1) := dn_60 (ob_cJ2_getChar_3b067_0 31 rfl rfl)
theorem dJ2_getChar_3b067_32 : decode cJ2_getChar_3b067 32 = .ok (.aload_n 0, 1) := dn_42 (ob_cJ2_getChar_3b067_0 32 rfl rfl)
theorem dJ2_getChar_3b067_33 : decode cJ2_getChar_3b067 33 = .ok (.iload_n 1, 1) := dn_27 (ob_cJ2_getChar_3b067_0 33 rfl rfl)
theorem dJ2_getChar_3b067_34 : decode cJ2_getChar_3b067 34 = .ok (.iinc 1 1, 3) := dn_132 (ob_cJ2_getChar_3b067_0 34 rfl rfl) rfl (by decide +kernel)
theorem dJ2_getChar_3b067_37 : decode cJ2_getChar_3b067 37 = .ok (.baload, 1) := dn_51 (ob_cJ2_getChar_3b067_0 37 rfl rfl)
theorem dJ2_getChar_3b067_38 : decode cJ2_getChar_3b067 38 = .ok (.sipush 255, 3) := dn_17 (ob_cJ2_getChar_3b067_0 38 rfl rfl) (by decide +kernel)
theorem dJ2_getChar_3b067_41 : decode cJ2_getChar_3b067 41 = .ok (.iand, 1) := dn_126 (ob_cJ2_getChar_3b067_1 0 rfl rfl)
theorem dJ2_getChar_3b067_42 : decode cJ2_getChar_3b067 42 = .ok (.getstatic 59, 3) := dn_178 (ob_cJ2_getChar_3b067_1 1 rfl rfl) rfl
theorem dJ2_getChar_3b067_45 : decode cJ2_getChar_3b067 45 = .ok (.ishl, 1) := dn_120 (ob_cJ2_getChar_3b067_1 4 rfl rfl)
theorem dJ2_getChar_3b067_46 : decode cJ2_getChar_3b067 46 = .ok (.aload_n 0, 1) := dn_42 (ob_cJ2_getChar_3b067_1 5 rfl rfl)
theorem dJ2_getChar_3b067_47 : decode cJ2_getChar_3b067 47 = .ok (.iload_n 1, 1) := dn_27 (ob_cJ2_getChar_3b067_1 6 rfl rfl)
theorem dJ2_getChar_3b067_48 : decode cJ2_getChar_3b067 48 = .ok (.baload, 1) := dn_51 (ob_cJ2_getChar_3b067_1 7 rfl rfl)
theorem dJ2_getChar_3b067_49 : decode cJ2_getChar_3b067 49 = .ok (.sipush 255, 3) := dn_17 (ob_cJ2_getChar_3b067_1 8 rfl rfl) (by decide +kernel)
theorem dJ2_getChar_3b067_52 : decode cJ2_getChar_3b067 52 = .ok (.iand, 1) := dn_126 (ob_cJ2_getChar_3b067_1 11 rfl rfl)
theorem dJ2_getChar_3b067_53 : decode cJ2_getChar_3b067 53 = .ok (.getstatic 63, 3) := dn_178 (ob_cJ2_getChar_3b067_1 12 rfl rfl) rfl
theorem dJ2_getChar_3b067_56 : decode cJ2_getChar_3b067 56 = .ok (.ishl, 1) := dn_120 (ob_cJ2_getChar_3b067_1 15 rfl rfl)
theorem dJ2_getChar_3b067_57 : decode cJ2_getChar_3b067 57 = .ok (.ior, 1) := dn_128 (ob_cJ2_getChar_3b067_1 16 rfl rfl)
theorem dJ2_getChar_3b067_58 : decode cJ2_getChar_3b067 58 = .ok (.i2c, 1) := dn_146 (ob_cJ2_getChar_3b067_1 17 rfl rfl)
theorem dJ2_getChar_3b067_59 : decode cJ2_getChar_3b067 59 = .ok (.ireturn, 1) := dn_172 (ob_cJ2_getChar_3b067_1 18 rfl rfl)
def kb_cJ2_length_9d52b : List UInt8 := [42, 190, 4, 122, 172]
set_option maxRecDepth 10000 in
theorem ob_cJ2_length_9d52b (r : Nat) {l : List UInt8} (h : kb_cJ2_length_9d52b.drop r = l) : (cJ2_length_9d52b).data.toList.drop r = l := by
  rw [show (cJ2_length_9d52b).data.toList = kb_cJ2_length_9d52b from eqL_eq (by decide +kernel)]
  exact h
theorem dJ2_length_9d52b_0 : decode cJ2_length_9d52b 0 = .ok (.aload_n 0, 1) := dn_42 (ob_cJ2_length_9d52b 0 rfl)
theorem dJ2_length_9d52b_1 : decode cJ2_length_9d52b 1 = .ok (.arraylength, 1) := dn_190 (ob_cJ2_length_9d52b 1 rfl)
theorem dJ2_length_9d52b_2 : decode cJ2_length_9d52b 2 = .ok (.iconst 1, 1) := dn_4 (ob_cJ2_length_9d52b 2 rfl)
theorem dJ2_length_9d52b_3 : decode cJ2_length_9d52b 3 = .ok (.ishr, 1) := dn_122 (ob_cJ2_length_9d52b 3 rfl)
theorem dJ2_length_9d52b_4 : decode cJ2_length_9d52b 4 = .ok (.ireturn, 1) := dn_172 (ob_cJ2_length_9d52b 4 rfl)
def kb_cJ2_coderFromArrayLen_85cad : List UInt8 := [27, 42, 190, 100, 16, 31, 124, 145, 172]
set_option maxRecDepth 10000 in
theorem ob_cJ2_coderFromArrayLen_85cad (r : Nat) {l : List UInt8} (h : kb_cJ2_coderFromArrayLen_85cad.drop r = l) : (cJ2_coderFromArrayLen_85cad).data.toList.drop r = l := by
  rw [show (cJ2_coderFromArrayLen_85cad).data.toList = kb_cJ2_coderFromArrayLen_85cad from eqL_eq (by decide +kernel)]
  exact h
theorem dJ2_coderFromArrayLen_85cad_0 : decode cJ2_coderFromArrayLen_85cad 0 = .ok (.iload_n 1, 1) := dn_27 (ob_cJ2_coderFromArrayLen_85cad 0 rfl)
theorem dJ2_coderFromArrayLen_85cad_1 : decode cJ2_coderFromArrayLen_85cad 1 = .ok (.aload_n 0, 1) := dn_42 (ob_cJ2_coderFromArrayLen_85cad 1 rfl)
theorem dJ2_coderFromArrayLen_85cad_2 : decode cJ2_coderFromArrayLen_85cad 2 = .ok (.arraylength, 1) := dn_190 (ob_cJ2_coderFromArrayLen_85cad 2 rfl)
theorem dJ2_coderFromArrayLen_85cad_3 : decode cJ2_coderFromArrayLen_85cad 3 = .ok (.isub, 1) := dn_100 (ob_cJ2_coderFromArrayLen_85cad 3 rfl)
theorem dJ2_coderFromArrayLen_85cad_4 : decode cJ2_coderFromArrayLen_85cad 4 = .ok (.bipush 31, 2) := dn_16 (ob_cJ2_coderFromArrayLen_85cad 4 rfl) (by decide +kernel)
theorem dJ2_coderFromArrayLen_85cad_6 : decode cJ2_coderFromArrayLen_85cad 6 = .ok (.iushr, 1) := dn_124 (ob_cJ2_coderFromArrayLen_85cad 6 rfl)
theorem dJ2_coderFromArrayLen_85cad_7 : decode cJ2_coderFromArrayLen_85cad 7 = .ok (.i2b, 1) := dn_145 (ob_cJ2_coderFromArrayLen_85cad 7 rfl)
theorem dJ2_coderFromArrayLen_85cad_8 : decode cJ2_coderFromArrayLen_85cad 8 = .ok (.ireturn, 1) := dn_172 (ob_cJ2_coderFromArrayLen_85cad 8 rfl)
def kb_cJ2_compress_39247_0 : List UInt8 := [28, 188, 8, 78, 42, 27, 45, 3, 28, 184, 0, 123, 54, 4, 21, 4, 28, 159, 0, 47, 42, 27, 4, 120, 27, 28, 96, 184, 0, 11, 184, 0, 126, 58, 5, 25, 5, 21, 4, 184, 0, 71]
def kb_cJ2_compress_39247_1 : List UInt8 := [17, 0, 255, 163, 0, 16, 25, 5, 3, 45, 3, 28, 184, 0, 123, 28, 159, 0, 6, 25, 5, 176, 45, 176]
def tb_cJ2_compress_39247_2 : List UInt8 := []
def tb_cJ2_compress_39247_1 : List UInt8 := kb_cJ2_compress_39247_1 ++ tb_cJ2_compress_39247_2
def tb_cJ2_compress_39247_0 : List UInt8 := kb_cJ2_compress_39247_0 ++ tb_cJ2_compress_39247_1
set_option maxRecDepth 100000 in
theorem tb_cJ2_compress_39247 : (cJ2_compress_39247).data.toList = tb_cJ2_compress_39247_0 := eqL_eq (by decide +kernel)
theorem ow_cJ2_compress_39247_0 (r : Nat) : (cJ2_compress_39247).data.toList.drop (0 + r) = tb_cJ2_compress_39247_0.drop r := by rw [tb_cJ2_compress_39247, Nat.zero_add]
theorem ow_cJ2_compress_39247_1 (r : Nat) : (cJ2_compress_39247).data.toList.drop (42 + r) = tb_cJ2_compress_39247_1.drop r := by
  have e := ow_cJ2_compress_39247_0 (42 + r)
  rw [show 0 + (42 + r) = 42 + r by omega] at e
  exact e.trans (dr_len (a := kb_cJ2_compress_39247_0) (t := tb_cJ2_compress_39247_1) (by decide +kernel))
theorem ob_cJ2_compress_39247_0 (r : Nat) {pc : Nat} {l : List UInt8} (hp : 0 + r = pc) (h : tb_cJ2_compress_39247_0.drop r = l) : (cJ2_compress_39247).data.toList.drop pc = l := by
  subst hp
  exact (ow_cJ2_compress_39247_0 r).trans h
theorem ob_cJ2_compress_39247_1 (r : Nat) {pc : Nat} {l : List UInt8} (hp : 42 + r = pc) (h : tb_cJ2_compress_39247_1.drop r = l) : (cJ2_compress_39247).data.toList.drop pc = l := by
  subst hp
  exact (ow_cJ2_compress_39247_1 r).trans h
theorem dJ2_compress_39247_0 : decode cJ2_compress_39247 0 = .ok (.iload_n 2, 1) := dn_28 (ob_cJ2_compress_39247_0 0 rfl rfl)
theorem dJ2_compress_39247_1 : decode cJ2_compress_39247 1 = .ok (.newarray .byte, 2) := by decide +kernel
theorem dJ2_compress_39247_3 : decode cJ2_compress_39247 3 = .ok (.astore_n 3, 1) := dn_78 (ob_cJ2_compress_39247_0 3 rfl rfl)
theorem dJ2_compress_39247_4 : decode cJ2_compress_39247 4 = .ok (.aload_n 0, 1) := dn_42 (ob_cJ2_compress_39247_0 4 rfl rfl)
theorem dJ2_compress_39247_5 : decode cJ2_compress_39247 5 = .ok (.iload_n 1, 1) := dn_27 (ob_cJ2_compress_39247_0 5 rfl rfl)
theorem dJ2_compress_39247_6 : decode cJ2_compress_39247 6 = .ok (.aload_n 3, 1) := dn_45 (ob_cJ2_compress_39247_0 6 rfl rfl)
theorem dJ2_compress_39247_7 : decode cJ2_compress_39247 7 = .ok (.iconst 0, 1) := dn_3 (ob_cJ2_compress_39247_0 7 rfl rfl)
theorem dJ2_compress_39247_8 : decode cJ2_compress_39247 8 = .ok (.iload_n 2, 1) := dn_28 (ob_cJ2_compress_39247_0 8 rfl rfl)
theorem dJ2_compress_39247_9 : decode cJ2_compress_39247 9 = .ok (.invokestatic 123, 3) := dn_184 (ob_cJ2_compress_39247_0 9 rfl rfl) rfl
theorem dJ2_compress_39247_12 : decode cJ2_compress_39247 12 = .ok (.istore 4, 2) := dn_54 (ob_cJ2_compress_39247_0 12 rfl rfl) rfl
theorem dJ2_compress_39247_14 : decode cJ2_compress_39247 14 = .ok (.iload 4, 2) := dn_21 (ob_cJ2_compress_39247_0 14 rfl rfl) rfl
theorem dJ2_compress_39247_16 : decode cJ2_compress_39247 16 = .ok (.iload_n 2, 1) := dn_28 (ob_cJ2_compress_39247_0 16 rfl rfl)
theorem dJ2_compress_39247_17 : decode cJ2_compress_39247 17 = .ok (.if_icmp .eq 47, 3) := dn_159 (ob_cJ2_compress_39247_0 17 rfl rfl) (by decide +kernel)
theorem dJ2_compress_39247_20 : decode cJ2_compress_39247 20 = .ok (.aload_n 0, 1) := dn_42 (ob_cJ2_compress_39247_0 20 rfl rfl)
theorem dJ2_compress_39247_21 : decode cJ2_compress_39247 21 = .ok (.iload_n 1, 1) := dn_27 (ob_cJ2_compress_39247_0 21 rfl rfl)
theorem dJ2_compress_39247_22 : decode cJ2_compress_39247 22 = .ok (.iconst 1, 1) := dn_4 (ob_cJ2_compress_39247_0 22 rfl rfl)
theorem dJ2_compress_39247_23 : decode cJ2_compress_39247 23 = .ok (.ishl, 1) := dn_120 (ob_cJ2_compress_39247_0 23 rfl rfl)
theorem dJ2_compress_39247_24 : decode cJ2_compress_39247 24 = .ok (.iload_n 1, 1) := dn_27 (ob_cJ2_compress_39247_0 24 rfl rfl)
theorem dJ2_compress_39247_25 : decode cJ2_compress_39247 25 = .ok (.iload_n 2, 1) := dn_28 (ob_cJ2_compress_39247_0 25 rfl rfl)
theorem dJ2_compress_39247_26 : decode cJ2_compress_39247 26 = .ok (.iadd, 1) := dn_96 (ob_cJ2_compress_39247_0 26 rfl rfl)
theorem dJ2_compress_39247_27 : decode cJ2_compress_39247 27 = .ok (.invokestatic 11, 3) := dn_184 (ob_cJ2_compress_39247_0 27 rfl rfl) rfl
theorem dJ2_compress_39247_30 : decode cJ2_compress_39247 30 = .ok (.invokestatic 126, 3) := dn_184 (ob_cJ2_compress_39247_0 30 rfl rfl) rfl
theorem dJ2_compress_39247_33 : decode cJ2_compress_39247 33 = .ok (.astore 5, 2) := dn_58 (ob_cJ2_compress_39247_0 33 rfl rfl) rfl
theorem dJ2_compress_39247_35 : decode cJ2_compress_39247 35 = .ok (.aload 5, 2) := dn_25 (ob_cJ2_compress_39247_0 35 rfl rfl) rfl
theorem dJ2_compress_39247_37 : decode cJ2_compress_39247 37 = .ok (.iload 4, 2) := dn_21 (ob_cJ2_compress_39247_0 37 rfl rfl) rfl
theorem dJ2_compress_39247_39 : decode cJ2_compress_39247 39 = .ok (.invokestatic 71, 3) := dn_184 (ob_cJ2_compress_39247_0 39 rfl rfl) rfl
theorem dJ2_compress_39247_42 : decode cJ2_compress_39247 42 = .ok (.sipush 255, 3) := dn_17 (ob_cJ2_compress_39247_1 0 rfl rfl) (by decide +kernel)
theorem dJ2_compress_39247_45 : decode cJ2_compress_39247 45 = .ok (.if_icmp .gt 16, 3) := dn_163 (ob_cJ2_compress_39247_1 3 rfl rfl) (by decide +kernel)
theorem dJ2_compress_39247_48 : decode cJ2_compress_39247 48 = .ok (.aload 5, 2) := dn_25 (ob_cJ2_compress_39247_1 6 rfl rfl) rfl
theorem dJ2_compress_39247_50 : decode cJ2_compress_39247 50 = .ok (.iconst 0, 1) := dn_3 (ob_cJ2_compress_39247_1 8 rfl rfl)
theorem dJ2_compress_39247_51 : decode cJ2_compress_39247 51 = .ok (.aload_n 3, 1) := dn_45 (ob_cJ2_compress_39247_1 9 rfl rfl)
theorem dJ2_compress_39247_52 : decode cJ2_compress_39247 52 = .ok (.iconst 0, 1) := dn_3 (ob_cJ2_compress_39247_1 10 rfl rfl)
theorem dJ2_compress_39247_53 : decode cJ2_compress_39247 53 = .ok (.iload_n 2, 1) := dn_28 (ob_cJ2_compress_39247_1 11 rfl rfl)
theorem dJ2_compress_39247_54 : decode cJ2_compress_39247 54 = .ok (.invokestatic 123, 3) := dn_184 (ob_cJ2_compress_39247_1 12 rfl rfl) rfl
theorem dJ2_compress_39247_57 : decode cJ2_compress_39247 57 = .ok (.iload_n 2, 1) := dn_28 (ob_cJ2_compress_39247_1 15 rfl rfl)
theorem dJ2_compress_39247_58 : decode cJ2_compress_39247 58 = .ok (.if_icmp .eq 6, 3) := dn_159 (ob_cJ2_compress_39247_1 16 rfl rfl) (by decide +kernel)
theorem dJ2_compress_39247_61 : decode cJ2_compress_39247 61 = .ok (.aload 5, 2) := dn_25 (ob_cJ2_compress_39247_1 19 rfl rfl) rfl
theorem dJ2_compress_39247_63 : decode cJ2_compress_39247 63 = .ok (.areturn, 1) := dn_176 (ob_cJ2_compress_39247_1 21 rfl rfl)
theorem dJ2_compress_39247_64 : decode cJ2_compress_39247 64 = .ok (.aload_n 3, 1) := dn_45 (ob_cJ2_compress_39247_1 22 rfl rfl)
theorem dJ2_compress_39247_65 : decode cJ2_compress_39247 65 = .ok (.areturn, 1) := dn_176 (ob_cJ2_compress_39247_1 23 rfl rfl)
def kb_cJ2_compress_5af95_0 : List UInt8 := [27, 21, 4, 42, 184, 0, 173, 3, 54, 5, 21, 5, 21, 4, 162, 0, 39, 42, 27, 184, 0, 71, 54, 6, 21, 6, 17, 0, 255, 164, 0, 6, 21, 5, 172, 44, 29, 21, 6, 145]
def kb_cJ2_compress_5af95_1 : List UInt8 := [84, 132, 1, 1, 132, 3, 1, 132, 5, 1, 167, 255, 216, 21, 4, 172]
def tb_cJ2_compress_5af95_2 : List UInt8 := []
def tb_cJ2_compress_5af95_1 : List UInt8 := kb_cJ2_compress_5af95_1 ++ tb_cJ2_compress_5af95_2
def tb_cJ2_compress_5af95_0 : List UInt8 := kb_cJ2_compress_5af95_0 ++ tb_cJ2_compress_5af95_1
set_option maxRecDepth 100000 in
theorem tb_cJ2_compress_5af95 : (cJ2_compress_5af95).data.toList = tb_cJ2_compress_5af95_0 := eqL_eq (by decide +kernel)
theorem ow_cJ2_compress_5af95_0 (r : Nat) : (cJ2_compress_5af95).data.toList.drop (0 + r) = tb_cJ2_compress_5af95_0.drop r := by rw [tb_cJ2_compress_5af95, Nat.zero_add]
theorem ow_cJ2_compress_5af95_1 (r : Nat) : (cJ2_compress_5af95).data.toList.drop (40 + r) = tb_cJ2_compress_5af95_1.drop r := by
  have e := ow_cJ2_compress_5af95_0 (40 + r)
  rw [show 0 + (40 + r) = 40 + r by omega] at e
  exact e.trans (dr_len (a := kb_cJ2_compress_5af95_0) (t := tb_cJ2_compress_5af95_1) (by decide +kernel))
theorem ob_cJ2_compress_5af95_0 (r : Nat) {pc : Nat} {l : List UInt8} (hp : 0 + r = pc) (h : tb_cJ2_compress_5af95_0.drop r = l) : (cJ2_compress_5af95).data.toList.drop pc = l := by
  subst hp
  exact (ow_cJ2_compress_5af95_0 r).trans h
theorem ob_cJ2_compress_5af95_1 (r : Nat) {pc : Nat} {l : List UInt8} (hp : 40 + r = pc) (h : tb_cJ2_compress_5af95_1.drop r = l) : (cJ2_compress_5af95).data.toList.drop pc = l := by
  subst hp
  exact (ow_cJ2_compress_5af95_1 r).trans h
theorem dJ2_compress_5af95_0 : decode cJ2_compress_5af95 0 = .ok (.iload_n 1, 1) := dn_27 (ob_cJ2_compress_5af95_0 0 rfl rfl)
theorem dJ2_compress_5af95_1 : decode cJ2_compress_5af95 1 = .ok (.iload 4, 2) := dn_21 (ob_cJ2_compress_5af95_0 1 rfl rfl) rfl
theorem dJ2_compress_5af95_3 : decode cJ2_compress_5af95 3 = .ok (.aload_n 0, 1) := dn_42 (ob_cJ2_compress_5af95_0 3 rfl rfl)
theorem dJ2_compress_5af95_4 : decode cJ2_compress_5af95 4 = .ok (.invokestatic 173, 3) := dn_184 (ob_cJ2_compress_5af95_0 4 rfl rfl) rfl
theorem dJ2_compress_5af95_7 : decode cJ2_compress_5af95 7 = .ok (.iconst 0, 1) := dn_3 (ob_cJ2_compress_5af95_0 7 rfl rfl)
theorem dJ2_compress_5af95_8 : decode cJ2_compress_5af95 8 = .ok (.istore 5, 2) := dn_54 (ob_cJ2_compress_5af95_0 8 rfl rfl) rfl
theorem dJ2_compress_5af95_10 : decode cJ2_compress_5af95 10 = .ok (.iload 5, 2) := dn_21 (ob_cJ2_compress_5af95_0 10 rfl rfl) rfl
theorem dJ2_compress_5af95_12 : decode cJ2_compress_5af95 12 = .ok (.iload 4, 2) := dn_21 (ob_cJ2_compress_5af95_0 12 rfl rfl) rfl
theorem dJ2_compress_5af95_14 : decode cJ2_compress_5af95 14 = .ok (.if_icmp .ge 39, 3) := dn_162 (ob_cJ2_compress_5af95_0 14 rfl rfl) (by decide +kernel)
theorem dJ2_compress_5af95_17 : decode cJ2_compress_5af95 17 = .ok (.aload_n 0, 1) := dn_42 (ob_cJ2_compress_5af95_0 17 rfl rfl)
theorem dJ2_compress_5af95_18 : decode cJ2_compress_5af95 18 = .ok (.iload_n 1, 1) := dn_27 (ob_cJ2_compress_5af95_0 18 rfl rfl)
theorem dJ2_compress_5af95_19 : decode cJ2_compress_5af95 19 = .ok (.invokestatic 71, 3) := dn_184 (ob_cJ2_compress_5af95_0 19 rfl rfl) rfl
theorem dJ2_compress_5af95_22 : decode cJ2_compress_5af95 22 = .ok (.istore 6, 2) := dn_54 (ob_cJ2_compress_5af95_0 22 rfl rfl) rfl
theorem dJ2_compress_5af95_24 : decode cJ2_compress_5af95 24 = .ok (.iload 6, 2) := dn_21 (ob_cJ2_compress_5af95_0 24 rfl rfl) rfl
theorem dJ2_compress_5af95_26 : decode cJ2_compress_5af95 26 = .ok (.sipush 255, 3) := dn_17 (ob_cJ2_compress_5af95_0 26 rfl rfl) (by decide +kernel)
theorem dJ2_compress_5af95_29 : decode cJ2_compress_5af95 29 = .ok (.if_icmp .le 6, 3) := dn_164 (ob_cJ2_compress_5af95_0 29 rfl rfl) (by decide +kernel)
theorem dJ2_compress_5af95_32 : decode cJ2_compress_5af95 32 = .ok (.iload 5, 2) := dn_21 (ob_cJ2_compress_5af95_0 32 rfl rfl) rfl
theorem dJ2_compress_5af95_34 : decode cJ2_compress_5af95 34 = .ok (.ireturn, 1) := dn_172 (ob_cJ2_compress_5af95_0 34 rfl rfl)
theorem dJ2_compress_5af95_35 : decode cJ2_compress_5af95 35 = .ok (.aload_n 2, 1) := dn_44 (ob_cJ2_compress_5af95_0 35 rfl rfl)
theorem dJ2_compress_5af95_36 : decode cJ2_compress_5af95 36 = .ok (.iload_n 3, 1) := dn_29 (ob_cJ2_compress_5af95_0 36 rfl rfl)
theorem dJ2_compress_5af95_37 : decode cJ2_compress_5af95 37 = .ok (.iload 6, 2) := dn_21 (ob_cJ2_compress_5af95_0 37 rfl rfl) rfl
theorem dJ2_compress_5af95_39 : decode cJ2_compress_5af95 39 = .ok (.i2b, 1) := dn_145 (ob_cJ2_compress_5af95_0 39 rfl rfl)
theorem dJ2_compress_5af95_40 : decode cJ2_compress_5af95 40 = .ok (.bastore, 1) := dn_84 (ob_cJ2_compress_5af95_1 0 rfl rfl)
theorem dJ2_compress_5af95_41 : decode cJ2_compress_5af95 41 = .ok (.iinc 1 1, 3) := dn_132 (ob_cJ2_compress_5af95_1 1 rfl rfl) rfl (by decide +kernel)
theorem dJ2_compress_5af95_44 : decode cJ2_compress_5af95 44 = .ok (.iinc 3 1, 3) := dn_132 (ob_cJ2_compress_5af95_1 4 rfl rfl) rfl (by decide +kernel)
theorem dJ2_compress_5af95_47 : decode cJ2_compress_5af95 47 = .ok (.iinc 5 1, 3) := dn_132 (ob_cJ2_compress_5af95_1 7 rfl rfl) rfl (by decide +kernel)
theorem dJ2_compress_5af95_50 : decode cJ2_compress_5af95 50 = .ok (.goto (-40), 3) := dn_167 (ob_cJ2_compress_5af95_1 10 rfl rfl) (by decide +kernel)
theorem dJ2_compress_5af95_53 : decode cJ2_compress_5af95 53 = .ok (.iload 4, 2) := dn_21 (ob_cJ2_compress_5af95_1 13 rfl rfl) rfl
theorem dJ2_compress_5af95_55 : decode cJ2_compress_5af95 55 = .ok (.ireturn, 1) := dn_172 (ob_cJ2_compress_5af95_1 15 rfl rfl)
def kb_cJ2_putCharSB_b72d1 : List UInt8 := [27, 42, 184, 0, 67, 42, 27, 28, 184, 0, 111, 177]
set_option maxRecDepth 10000 in
theorem ob_cJ2_putCharSB_b72d1 (r : Nat) {l : List UInt8} (h : kb_cJ2_putCharSB_b72d1.drop r = l) : (cJ2_putCharSB_b72d1).data.toList.drop r = l := by
  rw [show (cJ2_putCharSB_b72d1).data.toList = kb_cJ2_putCharSB_b72d1 from eqL_eq (by decide +kernel)]
  exact h
theorem dJ2_putCharSB_b72d1_0 : decode cJ2_putCharSB_b72d1 0 = .ok (.iload_n 1, 1) := dn_27 (ob_cJ2_putCharSB_b72d1 0 rfl)
theorem dJ2_putCharSB_b72d1_1 : decode cJ2_putCharSB_b72d1 1 = .ok (.aload_n 0, 1) := dn_42 (ob_cJ2_putCharSB_b72d1 1 rfl)
theorem dJ2_putCharSB_b72d1_2 : decode cJ2_putCharSB_b72d1 2 = .ok (.invokestatic 67, 3) := dn_184 (ob_cJ2_putCharSB_b72d1 2 rfl) rfl
theorem dJ2_putCharSB_b72d1_5 : decode cJ2_putCharSB_b72d1 5 = .ok (.aload_n 0, 1) := dn_42 (ob_cJ2_putCharSB_b72d1 5 rfl)
theorem dJ2_putCharSB_b72d1_6 : decode cJ2_putCharSB_b72d1 6 = .ok (.iload_n 1, 1) := dn_27 (ob_cJ2_putCharSB_b72d1 6 rfl)
theorem dJ2_putCharSB_b72d1_7 : decode cJ2_putCharSB_b72d1 7 = .ok (.iload_n 2, 1) := dn_28 (ob_cJ2_putCharSB_b72d1 7 rfl)
theorem dJ2_putCharSB_b72d1_8 : decode cJ2_putCharSB_b72d1 8 = .ok (.invokestatic 111, 3) := dn_184 (ob_cJ2_putCharSB_b72d1 8 rfl) rfl
theorem dJ2_putCharSB_b72d1_11 : decode cJ2_putCharSB_b72d1 11 = .ok (.return_, 1) := dn_177 (ob_cJ2_putCharSB_b72d1 11 rfl)
def kb_cJ2_getChars_46870 : List UInt8 := [27, 28, 45, 184, 0, 96, 26, 28, 45, 184, 1, 137, 54, 4, 178, 0, 44, 154, 0, 17, 27, 21, 4, 159, 0, 11, 187, 0, 52, 89, 183, 0, 66, 191, 21, 4, 172]
set_option maxRecDepth 10000 in
theorem ob_cJ2_getChars_46870 (r : Nat) {l : List UInt8} (h : kb_cJ2_getChars_46870.drop r = l) : (cJ2_getChars_46870).data.toList.drop r = l := by
  rw [show (cJ2_getChars_46870).data.toList = kb_cJ2_getChars_46870 from eqL_eq (by decide +kernel)]
  exact h
theorem dJ2_getChars_46870_0 : decode cJ2_getChars_46870 0 = .ok (.iload_n 1, 1) := dn_27 (ob_cJ2_getChars_46870 0 rfl)
theorem dJ2_getChars_46870_1 : decode cJ2_getChars_46870 1 = .ok (.iload_n 2, 1) := dn_28 (ob_cJ2_getChars_46870 1 rfl)
theorem dJ2_getChars_46870_2 : decode cJ2_getChars_46870 2 = .ok (.aload_n 3, 1) := dn_45 (ob_cJ2_getChars_46870 2 rfl)
theorem dJ2_getChars_46870_3 : decode cJ2_getChars_46870 3 = .ok (.invokestatic 96, 3) := dn_184 (ob_cJ2_getChars_46870 3 rfl) rfl
theorem dJ2_getChars_46870_6 : decode cJ2_getChars_46870 6 = .ok (.iload_n 0, 1) := dn_26 (ob_cJ2_getChars_46870 6 rfl)
theorem dJ2_getChars_46870_7 : decode cJ2_getChars_46870 7 = .ok (.iload_n 2, 1) := dn_28 (ob_cJ2_getChars_46870 7 rfl)
theorem dJ2_getChars_46870_8 : decode cJ2_getChars_46870 8 = .ok (.aload_n 3, 1) := dn_45 (ob_cJ2_getChars_46870 8 rfl)
theorem dJ2_getChars_46870_9 : decode cJ2_getChars_46870 9 = .ok (.invokestatic 393, 3) := dn_184 (ob_cJ2_getChars_46870 9 rfl) rfl
theorem dJ2_getChars_46870_12 : decode cJ2_getChars_46870 12 = .ok (.istore 4, 2) := dn_54 (ob_cJ2_getChars_46870 12 rfl) rfl
theorem dJ2_getChars_46870_14 : decode cJ2_getChars_46870 14 = .ok (.getstatic 44, 3) := dn_178 (ob_cJ2_getChars_46870 14 rfl) rfl
theorem dJ2_getChars_46870_17 : decode cJ2_getChars_46870 17 = .ok (.ifCond .ne 17, 3) := dn_154 (ob_cJ2_getChars_46870 17 rfl) (by decide +kernel)
theorem dJ2_getChars_46870_20 : decode cJ2_getChars_46870 20 = .ok (.iload_n 1, 1) := dn_27 (ob_cJ2_getChars_46870 20 rfl)
theorem dJ2_getChars_46870_21 : decode cJ2_getChars_46870 21 = .ok (.iload 4, 2) := dn_21 (ob_cJ2_getChars_46870 21 rfl) rfl
theorem dJ2_getChars_46870_23 : decode cJ2_getChars_46870 23 = .ok (.if_icmp .eq 11, 3) := dn_159 (ob_cJ2_getChars_46870 23 rfl) (by decide +kernel)
theorem dJ2_getChars_46870_26 : decode cJ2_getChars_46870 26 = .ok (.new 52, 3) := dn_187 (ob_cJ2_getChars_46870 26 rfl) rfl
theorem dJ2_getChars_46870_29 : decode cJ2_getChars_46870 29 = .ok (.dup, 1) := dn_89 (ob_cJ2_getChars_46870 29 rfl)
theorem dJ2_getChars_46870_30 : decode cJ2_getChars_46870 30 = .ok (.invokespecial 66, 3) := dn_183 (ob_cJ2_getChars_46870 30 rfl) rfl
theorem dJ2_getChars_46870_33 : decode cJ2_getChars_46870 33 = .ok (.athrow, 1) := dn_191 (ob_cJ2_getChars_46870 33 rfl)
theorem dJ2_getChars_46870_34 : decode cJ2_getChars_46870 34 = .ok (.iload 4, 2) := dn_21 (ob_cJ2_getChars_46870 34 rfl) rfl
theorem dJ2_getChars_46870_36 : decode cJ2_getChars_46870 36 = .ok (.ireturn, 1) := dn_172 (ob_cJ2_getChars_46870 36 rfl)
def kb_cJ2_putCharsAt_cd4e5_0 : List UInt8 := [27, 7, 96, 54, 6, 27, 21, 6, 42, 184, 0, 96, 42, 27, 132, 1, 1, 28, 184, 0, 111, 42, 27, 132, 1, 1, 29, 184, 0, 111, 42, 27, 132, 1, 1, 21, 4, 184, 0, 111]
def kb_cJ2_putCharsAt_cd4e5_1 : List UInt8 := [42, 27, 132, 1, 1, 21, 5, 184, 0, 111, 178, 0, 44, 154, 0, 17, 27, 21, 6, 159, 0, 11, 187, 0, 52, 89, 183, 0, 66, 191, 21, 6, 172]
def tb_cJ2_putCharsAt_cd4e5_2 : List UInt8 := []
def tb_cJ2_putCharsAt_cd4e5_1 : List UInt8 := kb_cJ2_putCharsAt_cd4e5_1 ++ tb_cJ2_putCharsAt_cd4e5_2
def tb_cJ2_putCharsAt_cd4e5_0 : List UInt8 := kb_cJ2_putCharsAt_cd4e5_0 ++ tb_cJ2_putCharsAt_cd4e5_1
set_option maxRecDepth 100000 in
theorem tb_cJ2_putCharsAt_cd4e5 : (cJ2_putCharsAt_cd4e5).data.toList = tb_cJ2_putCharsAt_cd4e5_0 := eqL_eq (by decide +kernel)
theorem ow_cJ2_putCharsAt_cd4e5_0 (r : Nat) : (cJ2_putCharsAt_cd4e5).data.toList.drop (0 + r) = tb_cJ2_putCharsAt_cd4e5_0.drop r := by rw [tb_cJ2_putCharsAt_cd4e5, Nat.zero_add]
theorem ow_cJ2_putCharsAt_cd4e5_1 (r : Nat) : (cJ2_putCharsAt_cd4e5).data.toList.drop (40 + r) = tb_cJ2_putCharsAt_cd4e5_1.drop r := by
  have e := ow_cJ2_putCharsAt_cd4e5_0 (40 + r)
  rw [show 0 + (40 + r) = 40 + r by omega] at e
  exact e.trans (dr_len (a := kb_cJ2_putCharsAt_cd4e5_0) (t := tb_cJ2_putCharsAt_cd4e5_1) (by decide +kernel))
theorem ob_cJ2_putCharsAt_cd4e5_0 (r : Nat) {pc : Nat} {l : List UInt8} (hp : 0 + r = pc) (h : tb_cJ2_putCharsAt_cd4e5_0.drop r = l) : (cJ2_putCharsAt_cd4e5).data.toList.drop pc = l := by
  subst hp
  exact (ow_cJ2_putCharsAt_cd4e5_0 r).trans h
theorem ob_cJ2_putCharsAt_cd4e5_1 (r : Nat) {pc : Nat} {l : List UInt8} (hp : 40 + r = pc) (h : tb_cJ2_putCharsAt_cd4e5_1.drop r = l) : (cJ2_putCharsAt_cd4e5).data.toList.drop pc = l := by
  subst hp
  exact (ow_cJ2_putCharsAt_cd4e5_1 r).trans h
theorem dJ2_putCharsAt_cd4e5_0 : decode cJ2_putCharsAt_cd4e5 0 = .ok (.iload_n 1, 1) := dn_27 (ob_cJ2_putCharsAt_cd4e5_0 0 rfl rfl)
theorem dJ2_putCharsAt_cd4e5_1 : decode cJ2_putCharsAt_cd4e5 1 = .ok (.iconst 4, 1) := dn_7 (ob_cJ2_putCharsAt_cd4e5_0 1 rfl rfl)
theorem dJ2_putCharsAt_cd4e5_2 : decode cJ2_putCharsAt_cd4e5 2 = .ok (.iadd, 1) := dn_96 (ob_cJ2_putCharsAt_cd4e5_0 2 rfl rfl)
theorem dJ2_putCharsAt_cd4e5_3 : decode cJ2_putCharsAt_cd4e5 3 = .ok (.istore 6, 2) := dn_54 (ob_cJ2_putCharsAt_cd4e5_0 3 rfl rfl) rfl
theorem dJ2_putCharsAt_cd4e5_5 : decode cJ2_putCharsAt_cd4e5 5 = .ok (.iload_n 1, 1) := dn_27 (ob_cJ2_putCharsAt_cd4e5_0 5 rfl rfl)
theorem dJ2_putCharsAt_cd4e5_6 : decode cJ2_putCharsAt_cd4e5 6 = .ok (.iload 6, 2) := dn_21 (ob_cJ2_putCharsAt_cd4e5_0 6 rfl rfl) rfl
theorem dJ2_putCharsAt_cd4e5_8 : decode cJ2_putCharsAt_cd4e5 8 = .ok (.aload_n 0, 1) := dn_42 (ob_cJ2_putCharsAt_cd4e5_0 8 rfl rfl)
theorem dJ2_putCharsAt_cd4e5_9 : decode cJ2_putCharsAt_cd4e5 9 = .ok (.invokestatic 96, 3) := dn_184 (ob_cJ2_putCharsAt_cd4e5_0 9 rfl rfl) rfl
theorem dJ2_putCharsAt_cd4e5_12 : decode cJ2_putCharsAt_cd4e5 12 = .ok (.aload_n 0, 1) := dn_42 (ob_cJ2_putCharsAt_cd4e5_0 12 rfl rfl)
theorem dJ2_putCharsAt_cd4e5_13 : decode cJ2_putCharsAt_cd4e5 13 = .ok (.iload_n 1, 1) := dn_27 (ob_cJ2_putCharsAt_cd4e5_0 13 rfl rfl)
theorem dJ2_putCharsAt_cd4e5_14 : decode cJ2_putCharsAt_cd4e5 14 = .ok (.iinc 1 1, 3) := dn_132 (ob_cJ2_putCharsAt_cd4e5_0 14 rfl rfl) rfl (by decide +kernel)
theorem dJ2_putCharsAt_cd4e5_17 : decode cJ2_putCharsAt_cd4e5 17 = .ok (.iload_n 2, 1) := dn_28 (ob_cJ2_putCharsAt_cd4e5_0 17 rfl rfl)
theorem dJ2_putCharsAt_cd4e5_18 : decode cJ2_putCharsAt_cd4e5 18 = .ok (.invokestatic 111, 3) := dn_184 (ob_cJ2_putCharsAt_cd4e5_0 18 rfl rfl) rfl
theorem dJ2_putCharsAt_cd4e5_21 : decode cJ2_putCharsAt_cd4e5 21 = .ok (.aload_n 0, 1) := dn_42 (ob_cJ2_putCharsAt_cd4e5_0 21 rfl rfl)
theorem dJ2_putCharsAt_cd4e5_22 : decode cJ2_putCharsAt_cd4e5 22 = .ok (.iload_n 1, 1) := dn_27 (ob_cJ2_putCharsAt_cd4e5_0 22 rfl rfl)
theorem dJ2_putCharsAt_cd4e5_23 : decode cJ2_putCharsAt_cd4e5 23 = .ok (.iinc 1 1, 3) := dn_132 (ob_cJ2_putCharsAt_cd4e5_0 23 rfl rfl) rfl (by decide +kernel)
theorem dJ2_putCharsAt_cd4e5_26 : decode cJ2_putCharsAt_cd4e5 26 = .ok (.iload_n 3, 1) := dn_29 (ob_cJ2_putCharsAt_cd4e5_0 26 rfl rfl)
theorem dJ2_putCharsAt_cd4e5_27 : decode cJ2_putCharsAt_cd4e5 27 = .ok (.invokestatic 111, 3) := dn_184 (ob_cJ2_putCharsAt_cd4e5_0 27 rfl rfl) rfl
theorem dJ2_putCharsAt_cd4e5_30 : decode cJ2_putCharsAt_cd4e5 30 = .ok (.aload_n 0, 1) := dn_42 (ob_cJ2_putCharsAt_cd4e5_0 30 rfl rfl)
theorem dJ2_putCharsAt_cd4e5_31 : decode cJ2_putCharsAt_cd4e5 31 = .ok (.iload_n 1, 1) := dn_27 (ob_cJ2_putCharsAt_cd4e5_0 31 rfl rfl)
theorem dJ2_putCharsAt_cd4e5_32 : decode cJ2_putCharsAt_cd4e5 32 = .ok (.iinc 1 1, 3) := dn_132 (ob_cJ2_putCharsAt_cd4e5_0 32 rfl rfl) rfl (by decide +kernel)
theorem dJ2_putCharsAt_cd4e5_35 : decode cJ2_putCharsAt_cd4e5 35 = .ok (.iload 4, 2) := dn_21 (ob_cJ2_putCharsAt_cd4e5_0 35 rfl rfl) rfl
theorem dJ2_putCharsAt_cd4e5_37 : decode cJ2_putCharsAt_cd4e5 37 = .ok (.invokestatic 111, 3) := dn_184 (ob_cJ2_putCharsAt_cd4e5_0 37 rfl rfl) rfl
theorem dJ2_putCharsAt_cd4e5_40 : decode cJ2_putCharsAt_cd4e5 40 = .ok (.aload_n 0, 1) := dn_42 (ob_cJ2_putCharsAt_cd4e5_1 0 rfl rfl)
theorem dJ2_putCharsAt_cd4e5_41 : decode cJ2_putCharsAt_cd4e5 41 = .ok (.iload_n 1, 1) := dn_27 (ob_cJ2_putCharsAt_cd4e5_1 1 rfl rfl)
theorem dJ2_putCharsAt_cd4e5_42 : decode cJ2_putCharsAt_cd4e5 42 = .ok (.iinc 1 1, 3) := dn_132 (ob_cJ2_putCharsAt_cd4e5_1 2 rfl rfl) rfl (by decide +kernel)
theorem dJ2_putCharsAt_cd4e5_45 : decode cJ2_putCharsAt_cd4e5 45 = .ok (.iload 5, 2) := dn_21 (ob_cJ2_putCharsAt_cd4e5_1 5 rfl rfl) rfl
theorem dJ2_putCharsAt_cd4e5_47 : decode cJ2_putCharsAt_cd4e5 47 = .ok (.invokestatic 111, 3) := dn_184 (ob_cJ2_putCharsAt_cd4e5_1 7 rfl rfl) rfl
theorem dJ2_putCharsAt_cd4e5_50 : decode cJ2_putCharsAt_cd4e5 50 = .ok (.getstatic 44, 3) := dn_178 (ob_cJ2_putCharsAt_cd4e5_1 10 rfl rfl) rfl
theorem dJ2_putCharsAt_cd4e5_53 : decode cJ2_putCharsAt_cd4e5 53 = .ok (.ifCond .ne 17, 3) := dn_154 (ob_cJ2_putCharsAt_cd4e5_1 13 rfl rfl) (by decide +kernel)
theorem dJ2_putCharsAt_cd4e5_56 : decode cJ2_putCharsAt_cd4e5 56 = .ok (.iload_n 1, 1) := dn_27 (ob_cJ2_putCharsAt_cd4e5_1 16 rfl rfl)
theorem dJ2_putCharsAt_cd4e5_57 : decode cJ2_putCharsAt_cd4e5 57 = .ok (.iload 6, 2) := dn_21 (ob_cJ2_putCharsAt_cd4e5_1 17 rfl rfl) rfl
theorem dJ2_putCharsAt_cd4e5_59 : decode cJ2_putCharsAt_cd4e5 59 = .ok (.if_icmp .eq 11, 3) := dn_159 (ob_cJ2_putCharsAt_cd4e5_1 19 rfl rfl) (by decide +kernel)
theorem dJ2_putCharsAt_cd4e5_62 : decode cJ2_putCharsAt_cd4e5 62 = .ok (.new 52, 3) := dn_187 (ob_cJ2_putCharsAt_cd4e5_1 22 rfl rfl) rfl
theorem dJ2_putCharsAt_cd4e5_65 : decode cJ2_putCharsAt_cd4e5 65 = .ok (.dup, 1) := dn_89 (ob_cJ2_putCharsAt_cd4e5_1 25 rfl rfl)
theorem dJ2_putCharsAt_cd4e5_66 : decode cJ2_putCharsAt_cd4e5 66 = .ok (.invokespecial 66, 3) := dn_183 (ob_cJ2_putCharsAt_cd4e5_1 26 rfl rfl) rfl
theorem dJ2_putCharsAt_cd4e5_69 : decode cJ2_putCharsAt_cd4e5 69 = .ok (.athrow, 1) := dn_191 (ob_cJ2_putCharsAt_cd4e5_1 29 rfl rfl)
theorem dJ2_putCharsAt_cd4e5_70 : decode cJ2_putCharsAt_cd4e5 70 = .ok (.iload 6, 2) := dn_21 (ob_cJ2_putCharsAt_cd4e5_1 30 rfl rfl) rfl
theorem dJ2_putCharsAt_cd4e5_72 : decode cJ2_putCharsAt_cd4e5 72 = .ok (.ireturn, 1) := dn_172 (ob_cJ2_putCharsAt_cd4e5_1 32 rfl rfl)
def kb_cJ2_inflate_0e8fd_0 : List UInt8 := [29, 21, 4, 44, 184, 0, 173, 3, 54, 5, 21, 5, 21, 4, 162, 0, 27, 44, 29, 132, 3, 1, 42, 27, 132, 1, 1, 51, 17, 0, 255, 126, 184, 0, 111, 132, 5, 1, 167, 255, 228]
def kb_cJ2_inflate_0e8fd_1 : List UInt8 := [177]
def tb_cJ2_inflate_0e8fd_2 : List UInt8 := []
def tb_cJ2_inflate_0e8fd_1 : List UInt8 := kb_cJ2_inflate_0e8fd_1 ++ tb_cJ2_inflate_0e8fd_2
def tb_cJ2_inflate_0e8fd_0 : List UInt8 := kb_cJ2_inflate_0e8fd_0 ++ tb_cJ2_inflate_0e8fd_1
set_option maxRecDepth 100000 in
theorem tb_cJ2_inflate_0e8fd : (cJ2_inflate_0e8fd).data.toList = tb_cJ2_inflate_0e8fd_0 := eqL_eq (by decide +kernel)
theorem ow_cJ2_inflate_0e8fd_0 (r : Nat) : (cJ2_inflate_0e8fd).data.toList.drop (0 + r) = tb_cJ2_inflate_0e8fd_0.drop r := by rw [tb_cJ2_inflate_0e8fd, Nat.zero_add]
theorem ow_cJ2_inflate_0e8fd_1 (r : Nat) : (cJ2_inflate_0e8fd).data.toList.drop (41 + r) = tb_cJ2_inflate_0e8fd_1.drop r := by
  have e := ow_cJ2_inflate_0e8fd_0 (41 + r)
  rw [show 0 + (41 + r) = 41 + r by omega] at e
  exact e.trans (dr_len (a := kb_cJ2_inflate_0e8fd_0) (t := tb_cJ2_inflate_0e8fd_1) (by decide +kernel))
theorem ob_cJ2_inflate_0e8fd_0 (r : Nat) {pc : Nat} {l : List UInt8} (hp : 0 + r = pc) (h : tb_cJ2_inflate_0e8fd_0.drop r = l) : (cJ2_inflate_0e8fd).data.toList.drop pc = l := by
  subst hp
  exact (ow_cJ2_inflate_0e8fd_0 r).trans h
theorem ob_cJ2_inflate_0e8fd_1 (r : Nat) {pc : Nat} {l : List UInt8} (hp : 41 + r = pc) (h : tb_cJ2_inflate_0e8fd_1.drop r = l) : (cJ2_inflate_0e8fd).data.toList.drop pc = l := by
  subst hp
  exact (ow_cJ2_inflate_0e8fd_1 r).trans h
theorem dJ2_inflate_0e8fd_0 : decode cJ2_inflate_0e8fd 0 = .ok (.iload_n 3, 1) := dn_29 (ob_cJ2_inflate_0e8fd_0 0 rfl rfl)
theorem dJ2_inflate_0e8fd_1 : decode cJ2_inflate_0e8fd 1 = .ok (.iload 4, 2) := dn_21 (ob_cJ2_inflate_0e8fd_0 1 rfl rfl) rfl
theorem dJ2_inflate_0e8fd_3 : decode cJ2_inflate_0e8fd 3 = .ok (.aload_n 2, 1) := dn_44 (ob_cJ2_inflate_0e8fd_0 3 rfl rfl)
theorem dJ2_inflate_0e8fd_4 : decode cJ2_inflate_0e8fd 4 = .ok (.invokestatic 173, 3) := dn_184 (ob_cJ2_inflate_0e8fd_0 4 rfl rfl) rfl
theorem dJ2_inflate_0e8fd_7 : decode cJ2_inflate_0e8fd 7 = .ok (.iconst 0, 1) := dn_3 (ob_cJ2_inflate_0e8fd_0 7 rfl rfl)
theorem dJ2_inflate_0e8fd_8 : decode cJ2_inflate_0e8fd 8 = .ok (.istore 5, 2) := dn_54 (ob_cJ2_inflate_0e8fd_0 8 rfl rfl) rfl
theorem dJ2_inflate_0e8fd_10 : decode cJ2_inflate_0e8fd 10 = .ok (.iload 5, 2) := dn_21 (ob_cJ2_inflate_0e8fd_0 10 rfl rfl) rfl
theorem dJ2_inflate_0e8fd_12 : decode cJ2_inflate_0e8fd 12 = .ok (.iload 4, 2) := dn_21 (ob_cJ2_inflate_0e8fd_0 12 rfl rfl) rfl
theorem dJ2_inflate_0e8fd_14 : decode cJ2_inflate_0e8fd 14 = .ok (.if_icmp .ge 27, 3) := dn_162 (ob_cJ2_inflate_0e8fd_0 14 rfl rfl) (by decide +kernel)
theorem dJ2_inflate_0e8fd_17 : decode cJ2_inflate_0e8fd 17 = .ok (.aload_n 2, 1) := dn_44 (ob_cJ2_inflate_0e8fd_0 17 rfl rfl)
theorem dJ2_inflate_0e8fd_18 : decode cJ2_inflate_0e8fd 18 = .ok (.iload_n 3, 1) := dn_29 (ob_cJ2_inflate_0e8fd_0 18 rfl rfl)
theorem dJ2_inflate_0e8fd_19 : decode cJ2_inflate_0e8fd 19 = .ok (.iinc 3 1, 3) := dn_132 (ob_cJ2_inflate_0e8fd_0 19 rfl rfl) rfl (by decide +kernel)
theorem dJ2_inflate_0e8fd_22 : decode cJ2_inflate_0e8fd 22 = .ok (.aload_n 0, 1) := dn_42 (ob_cJ2_inflate_0e8fd_0 22 rfl rfl)
theorem dJ2_inflate_0e8fd_23 : decode cJ2_inflate_0e8fd 23 = .ok (.iload_n 1, 1) := dn_27 (ob_cJ2_inflate_0e8fd_0 23 rfl rfl)
theorem dJ2_inflate_0e8fd_24 : decode cJ2_inflate_0e8fd 24 = .ok (.iinc 1 1, 3) := dn_132 (ob_cJ2_inflate_0e8fd_0 24 rfl rfl) rfl (by decide +kernel)
theorem dJ2_inflate_0e8fd_27 : decode cJ2_inflate_0e8fd 27 = .ok (.baload, 1) := dn_51 (ob_cJ2_inflate_0e8fd_0 27 rfl rfl)
theorem dJ2_inflate_0e8fd_28 : decode cJ2_inflate_0e8fd 28 = .ok (.sipush 255, 3) := dn_17 (ob_cJ2_inflate_0e8fd_0 28 rfl rfl) (by decide +kernel)
theorem dJ2_inflate_0e8fd_31 : decode cJ2_inflate_0e8fd 31 = .ok (.iand, 1) := dn_126 (ob_cJ2_inflate_0e8fd_0 31 rfl rfl)
theorem dJ2_inflate_0e8fd_32 : decode cJ2_inflate_0e8fd 32 = .ok (.invokestatic 111, 3) := dn_184 (ob_cJ2_inflate_0e8fd_0 32 rfl rfl) rfl
theorem dJ2_inflate_0e8fd_35 : decode cJ2_inflate_0e8fd 35 = .ok (.iinc 5 1, 3) := dn_132 (ob_cJ2_inflate_0e8fd_0 35 rfl rfl) rfl (by decide +kernel)
theorem dJ2_inflate_0e8fd_38 : decode cJ2_inflate_0e8fd 38 = .ok (.goto (-28), 3) := dn_167 (ob_cJ2_inflate_0e8fd_0 38 rfl rfl) (by decide +kernel)
theorem dJ2_inflate_0e8fd_41 : decode cJ2_inflate_0e8fd 41 = .ok (.return_, 1) := dn_177 (ob_cJ2_inflate_0e8fd_1 0 rfl rfl)
def kb_cJ2_getChars_ba4f3_0 : List UInt8 := [27, 54, 5, 26, 156, 0, 7, 4, 167, 0, 4, 3, 54, 6, 21, 6, 154, 0, 6, 26, 116, 59, 26, 16, 156, 163, 0, 51, 26, 16, 100, 108, 62, 29, 16, 100, 104, 26, 100, 54, 4]
def kb_cJ2_getChars_ba4f3_1 : List UInt8 := [29, 59, 44, 132, 5, 255, 21, 5, 178, 1, 147, 21, 4, 51, 184, 0, 111, 44, 132, 5, 255, 21, 5, 178, 1, 151, 21, 4, 51, 184, 0, 111, 167, 255, 205, 44, 132, 5, 255, 21, 5]
def kb_cJ2_getChars_ba4f3_2 : List UInt8 := [178, 1, 147, 26, 116, 51, 184, 0, 111, 26, 16, 247, 162, 0, 18, 44, 132, 5, 255, 21, 5, 178, 1, 151, 26, 116, 51, 184, 0, 111, 21, 6, 153, 0, 14, 44, 132, 5, 255, 21, 5]
def kb_cJ2_getChars_ba4f3_3 : List UInt8 := [16, 45, 184, 0, 111, 21, 5, 172]
def tb_cJ2_getChars_ba4f3_4 : List UInt8 := []
def tb_cJ2_getChars_ba4f3_3 : List UInt8 := kb_cJ2_getChars_ba4f3_3 ++ tb_cJ2_getChars_ba4f3_4
def tb_cJ2_getChars_ba4f3_2 : List UInt8 := kb_cJ2_getChars_ba4f3_2 ++ tb_cJ2_getChars_ba4f3_3
def tb_cJ2_getChars_ba4f3_1 : List UInt8 := kb_cJ2_getChars_ba4f3_1 ++ tb_cJ2_getChars_ba4f3_2
def tb_cJ2_getChars_ba4f3_0 : List UInt8 := kb_cJ2_getChars_ba4f3_0 ++ tb_cJ2_getChars_ba4f3_1
set_option maxRecDepth 100000 in
theorem tb_cJ2_getChars_ba4f3 : (cJ2_getChars_ba4f3).data.toList = tb_cJ2_getChars_ba4f3_0 := eqL_eq (by decide +kernel)
theorem ow_cJ2_getChars_ba4f3_0 (r : Nat) : (cJ2_getChars_ba4f3).data.toList.drop (0 + r) = tb_cJ2_getChars_ba4f3_0.drop r := by rw [tb_cJ2_getChars_ba4f3, Nat.zero_add]
theorem ow_cJ2_getChars_ba4f3_1 (r : Nat) : (cJ2_getChars_ba4f3).data.toList.drop (41 + r) = tb_cJ2_getChars_ba4f3_1.drop r := by
  have e := ow_cJ2_getChars_ba4f3_0 (41 + r)
  rw [show 0 + (41 + r) = 41 + r by omega] at e
  exact e.trans (dr_len (a := kb_cJ2_getChars_ba4f3_0) (t := tb_cJ2_getChars_ba4f3_1) (by decide +kernel))
theorem ow_cJ2_getChars_ba4f3_2 (r : Nat) : (cJ2_getChars_ba4f3).data.toList.drop (82 + r) = tb_cJ2_getChars_ba4f3_2.drop r := by
  have e := ow_cJ2_getChars_ba4f3_1 (41 + r)
  rw [show 41 + (41 + r) = 82 + r by omega] at e
  exact e.trans (dr_len (a := kb_cJ2_getChars_ba4f3_1) (t := tb_cJ2_getChars_ba4f3_2) (by decide +kernel))
theorem ow_cJ2_getChars_ba4f3_3 (r : Nat) : (cJ2_getChars_ba4f3).data.toList.drop (123 + r) = tb_cJ2_getChars_ba4f3_3.drop r := by
  have e := ow_cJ2_getChars_ba4f3_2 (41 + r)
  rw [show 82 + (41 + r) = 123 + r by omega] at e
  exact e.trans (dr_len (a := kb_cJ2_getChars_ba4f3_2) (t := tb_cJ2_getChars_ba4f3_3) (by decide +kernel))
theorem ob_cJ2_getChars_ba4f3_0 (r : Nat) {pc : Nat} {l : List UInt8} (hp : 0 + r = pc) (h : tb_cJ2_getChars_ba4f3_0.drop r = l) : (cJ2_getChars_ba4f3).data.toList.drop pc = l := by
  subst hp
  exact (ow_cJ2_getChars_ba4f3_0 r).trans h
theorem ob_cJ2_getChars_ba4f3_1 (r : Nat) {pc : Nat} {l : List UInt8} (hp : 41 + r = pc) (h : tb_cJ2_getChars_ba4f3_1.drop r = l) : (cJ2_getChars_ba4f3).data.toList.drop pc = l := by
  subst hp
  exact (ow_cJ2_getChars_ba4f3_1 r).trans h
theorem ob_cJ2_getChars_ba4f3_2 (r : Nat) {pc : Nat} {l : List UInt8} (hp : 82 + r = pc) (h : tb_cJ2_getChars_ba4f3_2.drop r = l) : (cJ2_getChars_ba4f3).data.toList.drop pc = l := by
  subst hp
  exact (ow_cJ2_getChars_ba4f3_2 r).trans h
theorem ob_cJ2_getChars_ba4f3_3 (r : Nat) {pc : Nat} {l : List UInt8} (hp : 123 + r = pc) (h : tb_cJ2_getChars_ba4f3_3.drop r = l) : (cJ2_getChars_ba4f3).data.toList.drop pc = l := by
  subst hp
  exact (ow_cJ2_getChars_ba4f3_3 r).trans h
theorem dJ2_getChars_ba4f3_0 : decode cJ2_getChars_ba4f3 0 = .ok (.iload_n 1, 1) := dn_27 (ob_cJ2_getChars_ba4f3_0 0 rfl rfl)
theorem dJ2_getChars_ba4f3_1 : decode cJ2_getChars_ba4f3 1 = .ok (.istore 5, 2) := dn_54 (ob_cJ2_getChars_ba4f3_0 1 rfl rfl) rfl
theorem dJ2_getChars_ba4f3_3 : decode cJ2_getChars_ba4f3 3 = .ok (.iload_n 0, 1) := dn_26 (ob_cJ2_getChars_ba4f3_0 3 rfl rfl)
theorem dJ2_getChars_ba4f3_4 : decode cJ2_getChars_ba4f3 4 = .ok (.ifCond .ge 7, 3) := dn_156 (ob_cJ2_getChars_ba4f3_0 4 rfl rfl) (by decide +kernel)
theorem dJ2_getChars_ba4f3_7 : decode cJ2_getChars_ba4f3 7 = .ok (.iconst 1, 1) := dn_4 (ob_cJ2_getChars_ba4f3_0 7 rfl rfl)
theorem dJ2_getChars_ba4f3_8 : decode cJ2_getChars_ba4f3 8 = .ok (.goto 4, 3) := dn_167 (ob_cJ2_getChars_ba4f3_0 8 rfl rfl) (by decide +kernel)
theorem dJ2_getChars_ba4f3_11 : decode cJ2_getChars_ba4f3 11 = .ok (.iconst 0, 1) := dn_3 (ob_cJ2_getChars_ba4f3_0 11 rfl rfl)
theorem dJ2_getChars_ba4f3_12 : decode cJ2_getChars_ba4f3 12 = .ok (.istore 6, 2) := dn_54 (ob_cJ2_getChars_ba4f3_0 12 rfl rfl) rfl
theorem dJ2_getChars_ba4f3_14 : decode cJ2_getChars_ba4f3 14 = .ok (.iload 6, 2) := dn_21 (ob_cJ2_getChars_ba4f3_0 14 rfl rfl) rfl
theorem dJ2_getChars_ba4f3_16 : decode cJ2_getChars_ba4f3 16 = .ok (.ifCond .ne 6, 3) := dn_154 (ob_cJ2_getChars_ba4f3_0 16 rfl rfl) (by decide +kernel)
theorem dJ2_getChars_ba4f3_19 : decode cJ2_getChars_ba4f3 19 = .ok (.iload_n 0, 1) := dn_26 (ob_cJ2_getChars_ba4f3_0 19 rfl rfl)
theorem dJ2_getChars_ba4f3_20 : decode cJ2_getChars_ba4f3 20 = .ok (.ineg, 1) := dn_116 (ob_cJ2_getChars_ba4f3_0 20 rfl rfl)
theorem dJ2_getChars_ba4f3_21 : decode cJ2_getChars_ba4f3 21 = .ok (.istore_n 0, 1) := dn_59 (ob_cJ2_getChars_ba4f3_0 21 rfl rfl)
theorem dJ2_getChars_ba4f3_22 : decode cJ2_getChars_ba4f3 22 = .ok (.iload_n 0, 1) := dn_26 (ob_cJ2_getChars_ba4f3_0 22 rfl rfl)
theorem dJ2_getChars_ba4f3_23 : decode cJ2_getChars_ba4f3 23 = .ok (.bipush (-100), 2) := dn_16 (ob_cJ2_getChars_ba4f3_0 23 rfl rfl) (by decide +kernel)
theorem dJ2_getChars_ba4f3_25 : decode cJ2_getChars_ba4f3 25 = .ok (.if_icmp .gt 51, 3) := dn_163 (ob_cJ2_getChars_ba4f3_0 25 rfl rfl) (by decide +kernel)
theorem dJ2_getChars_ba4f3_28 : decode cJ2_getChars_ba4f3 28 = .ok (.iload_n 0, 1) := dn_26 (ob_cJ2_getChars_ba4f3_0 28 rfl rfl)
theorem dJ2_getChars_ba4f3_29 : decode cJ2_getChars_ba4f3 29 = .ok (.bipush 100, 2) := dn_16 (ob_cJ2_getChars_ba4f3_0 29 rfl rfl) (by decide +kernel)
theorem dJ2_getChars_ba4f3_31 : decode cJ2_getChars_ba4f3 31 = .ok (.idiv, 1) := dn_108 (ob_cJ2_getChars_ba4f3_0 31 rfl rfl)
theorem dJ2_getChars_ba4f3_32 : decode cJ2_getChars_ba4f3 32 = .ok (.istore_n 3, 1) := dn_62 (ob_cJ2_getChars_ba4f3_0 32 rfl rfl)
theorem dJ2_getChars_ba4f3_33 : decode cJ2_getChars_ba4f3 33 = .ok (.iload_n 3, 1) := dn_29 (ob_cJ2_getChars_ba4f3_0 33 rfl rfl)
theorem dJ2_getChars_ba4f3_34 : decode cJ2_getChars_ba4f3 34 = .ok (.bipush 100, 2) := dn_16 (ob_cJ2_getChars_ba4f3_0 34 rfl rfl) (by decide +kernel)
theorem dJ2_getChars_ba4f3_36 : decode cJ2_getChars_ba4f3 36 = .ok (.imul, 1) := dn_104 (ob_cJ2_getChars_ba4f3_0 36 rfl rfl)
theorem dJ2_getChars_ba4f3_37 : decode cJ2_getChars_ba4f3 37 = .ok (.iload_n 0, 1) := dn_26 (ob_cJ2_getChars_ba4f3_0 37 rfl rfl)
theorem dJ2_getChars_ba4f3_38 : decode cJ2_getChars_ba4f3 38 = .ok (.isub, 1) := dn_100 (ob_cJ2_getChars_ba4f3_0 38 rfl rfl)
theorem dJ2_getChars_ba4f3_39 : decode cJ2_getChars_ba4f3 39 = .ok (.istore 4, 2) := dn_54 (ob_cJ2_getChars_ba4f3_0 39 rfl rfl) rfl
theorem dJ2_getChars_ba4f3_41 : decode cJ2_getChars_ba4f3 41 = .ok (.iload_n 3, 1) := dn_29 (ob_cJ2_getChars_ba4f3_1 0 rfl rfl)
theorem dJ2_getChars_ba4f3_42 : decode cJ2_getChars_ba4f3 42 = .ok (.istore_n 0, 1) := dn_59 (ob_cJ2_getChars_ba4f3_1 1 rfl rfl)
theorem dJ2_getChars_ba4f3_43 : decode cJ2_getChars_ba4f3 43 = .ok (.aload_n 2, 1) := dn_44 (ob_cJ2_getChars_ba4f3_1 2 rfl rfl)
theorem dJ2_getChars_ba4f3_44 : decode cJ2_getChars_ba4f3 44 = .ok (.iinc 5 (-1), 3) := dn_132 (ob_cJ2_getChars_ba4f3_1 3 rfl rfl) rfl (by decide +kernel)
theorem dJ2_getChars_ba4f3_47 : decode cJ2_getChars_ba4f3 47 = .ok (.iload 5, 2) := dn_21 (ob_cJ2_getChars_ba4f3_1 6 rfl rfl) rfl
theorem dJ2_getChars_ba4f3_49 : decode cJ2_getChars_ba4f3 49 = .ok (.getstatic 403, 3) := dn_178 (ob_cJ2_getChars_ba4f3_1 8 rfl rfl) rfl
theorem dJ2_getChars_ba4f3_52 : decode cJ2_getChars_ba4f3 52 = .ok (.iload 4, 2) := dn_21 (ob_cJ2_getChars_ba4f3_1 11 rfl rfl) rfl
theorem dJ2_getChars_ba4f3_54 : decode cJ2_getChars_ba4f3 54 = .ok (.baload, 1) := dn_51 (ob_cJ2_getChars_ba4f3_1 13 rfl rfl)
theorem dJ2_getChars_ba4f3_55 : decode cJ2_getChars_ba4f3 55 = .ok (.invokestatic 111, 3) := dn_184 (ob_cJ2_getChars_ba4f3_1 14 rfl rfl) rfl
theorem dJ2_getChars_ba4f3_58 : decode cJ2_getChars_ba4f3 58 = .ok (.aload_n 2, 1) := dn_44 (ob_cJ2_getChars_ba4f3_1 17 rfl rfl)
theorem dJ2_getChars_ba4f3_59 : decode cJ2_getChars_ba4f3 59 = .ok (.iinc 5 (-1), 3) := dn_132 (ob_cJ2_getChars_ba4f3_1 18 rfl rfl) rfl (by decide +kernel)
theorem dJ2_getChars_ba4f3_62 : decode cJ2_getChars_ba4f3 62 = .ok (.iload 5, 2) := dn_21 (ob_cJ2_getChars_ba4f3_1 21 rfl rfl) rfl
theorem dJ2_getChars_ba4f3_64 : decode cJ2_getChars_ba4f3 64 = .ok (.getstatic 407, 3) := dn_178 (ob_cJ2_getChars_ba4f3_1 23 rfl rfl) rfl
theorem dJ2_getChars_ba4f3_67 : decode cJ2_getChars_ba4f3 67 = .ok (.iload 4, 2) := dn_21 (ob_cJ2_getChars_ba4f3_1 26 rfl rfl) rfl
theorem dJ2_getChars_ba4f3_69 : decode cJ2_getChars_ba4f3 69 = .ok (.baload, 1) := dn_51 (ob_cJ2_getChars_ba4f3_1 28 rfl rfl)
theorem dJ2_getChars_ba4f3_70 : decode cJ2_getChars_ba4f3 70 = .ok (.invokestatic 111, 3) := dn_184 (ob_cJ2_getChars_ba4f3_1 29 rfl rfl) rfl
theorem dJ2_getChars_ba4f3_73 : decode cJ2_getChars_ba4f3 73 = .ok (.goto (-51), 3) := dn_167 (ob_cJ2_getChars_ba4f3_1 32 rfl rfl) (by decide +kernel)
theorem dJ2_getChars_ba4f3_76 : decode cJ2_getChars_ba4f3 76 = .ok (.aload_n 2, 1) := dn_44 (ob_cJ2_getChars_ba4f3_1 35 rfl rfl)
theorem dJ2_getChars_ba4f3_77 : decode cJ2_getChars_ba4f3 77 = .ok (.iinc 5 (-1), 3) := dn_132 (ob_cJ2_getChars_ba4f3_1 36 rfl rfl) rfl (by decide +kernel)
theorem dJ2_getChars_ba4f3_80 : decode cJ2_getChars_ba4f3 80 = .ok (.iload 5, 2) := dn_21 (ob_cJ2_getChars_ba4f3_1 39 rfl rfl) rfl
theorem dJ2_getChars_ba4f3_82 : decode cJ2_getChars_ba4f3 82 = .ok (.getstatic 403, 3) := dn_178 (ob_cJ2_getChars_ba4f3_2 0 rfl rfl) rfl
theorem dJ2_getChars_ba4f3_85 : decode cJ2_getChars_ba4f3 85 = .ok (.iload_n 0, 1) := dn_26 (ob_cJ2_getChars_ba4f3_2 3 rfl rfl)
theorem dJ2_getChars_ba4f3_86 : decode cJ2_getChars_ba4f3 86 = .ok (.ineg, 1) := dn_116 (ob_cJ2_getChars_ba4f3_2 4 rfl rfl)
theorem dJ2_getChars_ba4f3_87 : decode cJ2_getChars_ba4f3 87 = .ok (.baload, 1) := dn_51 (ob_cJ2_getChars_ba4f3_2 5 rfl rfl)
theorem dJ2_getChars_ba4f3_88 : decode cJ2_getChars_ba4f3 88 = .ok (.invokestatic 111, 3) := dn_184 (ob_cJ2_getChars_ba4f3_2 6 rfl rfl) rfl
theorem dJ2_getChars_ba4f3_91 : decode cJ2_getChars_ba4f3 91 = .ok (.iload_n 0, 1) := dn_26 (ob_cJ2_getChars_ba4f3_2 9 rfl rfl)
theorem dJ2_getChars_ba4f3_92 : decode cJ2_getChars_ba4f3 92 = .ok (.bipush (-9), 2) := dn_16 (ob_cJ2_getChars_ba4f3_2 10 rfl rfl) (by decide +kernel)
theorem dJ2_getChars_ba4f3_94 : decode cJ2_getChars_ba4f3 94 = .ok (.if_icmp .ge 18, 3) := dn_162 (ob_cJ2_getChars_ba4f3_2 12 rfl rfl) (by decide +kernel)
theorem dJ2_getChars_ba4f3_97 : decode cJ2_getChars_ba4f3 97 = .ok (.aload_n 2, 1) := dn_44 (ob_cJ2_getChars_ba4f3_2 15 rfl rfl)
theorem dJ2_getChars_ba4f3_98 : decode cJ2_getChars_ba4f3 98 = .ok (.iinc 5 (-1), 3) := dn_132 (ob_cJ2_getChars_ba4f3_2 16 rfl rfl) rfl (by decide +kernel)
theorem dJ2_getChars_ba4f3_101 : decode cJ2_getChars_ba4f3 101 = .ok (.iload 5, 2) := dn_21 (ob_cJ2_getChars_ba4f3_2 19 rfl rfl) rfl
theorem dJ2_getChars_ba4f3_103 : decode cJ2_getChars_ba4f3 103 = .ok (.getstatic 407, 3) := dn_178 (ob_cJ2_getChars_ba4f3_2 21 rfl rfl) rfl
theorem dJ2_getChars_ba4f3_106 : decode cJ2_getChars_ba4f3 106 = .ok (.iload_n 0, 1) := dn_26 (ob_cJ2_getChars_ba4f3_2 24 rfl rfl)
theorem dJ2_getChars_ba4f3_107 : decode cJ2_getChars_ba4f3 107 = .ok (.ineg, 1) := dn_116 (ob_cJ2_getChars_ba4f3_2 25 rfl rfl)
theorem dJ2_getChars_ba4f3_108 : decode cJ2_getChars_ba4f3 108 = .ok (.baload, 1) := dn_51 (ob_cJ2_getChars_ba4f3_2 26 rfl rfl)
theorem dJ2_getChars_ba4f3_109 : decode cJ2_getChars_ba4f3 109 = .ok (.invokestatic 111, 3) := dn_184 (ob_cJ2_getChars_ba4f3_2 27 rfl rfl) rfl
theorem dJ2_getChars_ba4f3_112 : decode cJ2_getChars_ba4f3 112 = .ok (.iload 6, 2) := dn_21 (ob_cJ2_getChars_ba4f3_2 30 rfl rfl) rfl
theorem dJ2_getChars_ba4f3_114 : decode cJ2_getChars_ba4f3 114 = .ok (.ifCond .eq 14, 3) := dn_153 (ob_cJ2_getChars_ba4f3_2 32 rfl rfl) (by decide +kernel)
theorem dJ2_getChars_ba4f3_117 : decode cJ2_getChars_ba4f3 117 = .ok (.aload_n 2, 1) := dn_44 (ob_cJ2_getChars_ba4f3_2 35 rfl rfl)
theorem dJ2_getChars_ba4f3_118 : decode cJ2_getChars_ba4f3 118 = .ok (.iinc 5 (-1), 3) := dn_132 (ob_cJ2_getChars_ba4f3_2 36 rfl rfl) rfl (by decide +kernel)
theorem dJ2_getChars_ba4f3_121 : decode cJ2_getChars_ba4f3 121 = .ok (.iload 5, 2) := dn_21 (ob_cJ2_getChars_ba4f3_2 39 rfl rfl) rfl
theorem dJ2_getChars_ba4f3_123 : decode cJ2_getChars_ba4f3 123 = .ok (.bipush 45, 2) := dn_16 (ob_cJ2_getChars_ba4f3_3 0 rfl rfl) (by decide +kernel)
theorem dJ2_getChars_ba4f3_125 : decode cJ2_getChars_ba4f3 125 = .ok (.invokestatic 111, 3) := dn_184 (ob_cJ2_getChars_ba4f3_3 2 rfl rfl) rfl
theorem dJ2_getChars_ba4f3_128 : decode cJ2_getChars_ba4f3 128 = .ok (.iload 5, 2) := dn_21 (ob_cJ2_getChars_ba4f3_3 5 rfl rfl) rfl
theorem dJ2_getChars_ba4f3_130 : decode cJ2_getChars_ba4f3 130 = .ok (.ireturn, 1) := dn_172 (ob_cJ2_getChars_ba4f3_3 7 rfl rfl)
def kb_cJ2_checkIndex_2214a : List UInt8 := [26, 43, 184, 0, 48, 184, 1, 158, 177]
set_option maxRecDepth 10000 in
theorem ob_cJ2_checkIndex_2214a (r : Nat) {l : List UInt8} (h : kb_cJ2_checkIndex_2214a.drop r = l) : (cJ2_checkIndex_2214a).data.toList.drop r = l := by
  rw [show (cJ2_checkIndex_2214a).data.toList = kb_cJ2_checkIndex_2214a from eqL_eq (by decide +kernel)]
  exact h
theorem dJ2_checkIndex_2214a_0 : decode cJ2_checkIndex_2214a 0 = .ok (.iload_n 0, 1) := dn_26 (ob_cJ2_checkIndex_2214a 0 rfl)
theorem dJ2_checkIndex_2214a_1 : decode cJ2_checkIndex_2214a 1 = .ok (.aload_n 1, 1) := dn_43 (ob_cJ2_checkIndex_2214a 1 rfl)
theorem dJ2_checkIndex_2214a_2 : decode cJ2_checkIndex_2214a 2 = .ok (.invokestatic 48, 3) := dn_184 (ob_cJ2_checkIndex_2214a 2 rfl) rfl
theorem dJ2_checkIndex_2214a_5 : decode cJ2_checkIndex_2214a 5 = .ok (.invokestatic 414, 3) := dn_184 (ob_cJ2_checkIndex_2214a 5 rfl) rfl
theorem dJ2_checkIndex_2214a_8 : decode cJ2_checkIndex_2214a 8 = .ok (.return_, 1) := dn_177 (ob_cJ2_checkIndex_2214a 8 rfl)
def kb_cJ2_checkBoundsBeginEnd_d044e : List UInt8 := [26, 27, 44, 184, 0, 48, 184, 0, 241, 177]
set_option maxRecDepth 10000 in
theorem ob_cJ2_checkBoundsBeginEnd_d044e (r : Nat) {l : List UInt8} (h : kb_cJ2_checkBoundsBeginEnd_d044e.drop r = l) : (cJ2_checkBoundsBeginEnd_d044e).data.toList.drop r = l := by
  rw [show (cJ2_checkBoundsBeginEnd_d044e).data.toList = kb_cJ2_checkBoundsBeginEnd_d044e from eqL_eq (by decide +kernel)]
  exact h
theorem dJ2_checkBoundsBeginEnd_d044e_0 : decode cJ2_checkBoundsBeginEnd_d044e 0 = .ok (.iload_n 0, 1) := dn_26 (ob_cJ2_checkBoundsBeginEnd_d044e 0 rfl)
theorem dJ2_checkBoundsBeginEnd_d044e_1 : decode cJ2_checkBoundsBeginEnd_d044e 1 = .ok (.iload_n 1, 1) := dn_27 (ob_cJ2_checkBoundsBeginEnd_d044e 1 rfl)
theorem dJ2_checkBoundsBeginEnd_d044e_2 : decode cJ2_checkBoundsBeginEnd_d044e 2 = .ok (.aload_n 2, 1) := dn_44 (ob_cJ2_checkBoundsBeginEnd_d044e 2 rfl)
theorem dJ2_checkBoundsBeginEnd_d044e_3 : decode cJ2_checkBoundsBeginEnd_d044e 3 = .ok (.invokestatic 48, 3) := dn_184 (ob_cJ2_checkBoundsBeginEnd_d044e 3 rfl) rfl
theorem dJ2_checkBoundsBeginEnd_d044e_6 : decode cJ2_checkBoundsBeginEnd_d044e 6 = .ok (.invokestatic 241, 3) := dn_184 (ob_cJ2_checkBoundsBeginEnd_d044e 6 rfl) rfl
theorem dJ2_checkBoundsBeginEnd_d044e_9 : decode cJ2_checkBoundsBeginEnd_d044e 9 = .ok (.return_, 1) := dn_177 (ob_cJ2_checkBoundsBeginEnd_d044e 9 rfl)
def kb_cJ2_checkBoundsOffCount_d044e : List UInt8 := [26, 27, 44, 184, 0, 48, 184, 1, 163, 87, 177]
set_option maxRecDepth 10000 in
theorem ob_cJ2_checkBoundsOffCount_d044e (r : Nat) {l : List UInt8} (h : kb_cJ2_checkBoundsOffCount_d044e.drop r = l) : (cJ2_checkBoundsOffCount_d044e).data.toList.drop r = l := by
  rw [show (cJ2_checkBoundsOffCount_d044e).data.toList = kb_cJ2_checkBoundsOffCount_d044e from eqL_eq (by decide +kernel)]
  exact h
theorem dJ2_checkBoundsOffCount_d044e_0 : decode cJ2_checkBoundsOffCount_d044e 0 = .ok (.iload_n 0, 1) := dn_26 (ob_cJ2_checkBoundsOffCount_d044e 0 rfl)
theorem dJ2_checkBoundsOffCount_d044e_1 : decode cJ2_checkBoundsOffCount_d044e 1 = .ok (.iload_n 1, 1) := dn_27 (ob_cJ2_checkBoundsOffCount_d044e 1 rfl)
theorem dJ2_checkBoundsOffCount_d044e_2 : decode cJ2_checkBoundsOffCount_d044e 2 = .ok (.aload_n 2, 1) := dn_44 (ob_cJ2_checkBoundsOffCount_d044e 2 rfl)
theorem dJ2_checkBoundsOffCount_d044e_3 : decode cJ2_checkBoundsOffCount_d044e 3 = .ok (.invokestatic 48, 3) := dn_184 (ob_cJ2_checkBoundsOffCount_d044e 3 rfl) rfl
theorem dJ2_checkBoundsOffCount_d044e_6 : decode cJ2_checkBoundsOffCount_d044e 6 = .ok (.invokestatic 419, 3) := dn_184 (ob_cJ2_checkBoundsOffCount_d044e 6 rfl) rfl
theorem dJ2_checkBoundsOffCount_d044e_9 : decode cJ2_checkBoundsOffCount_d044e 9 = .ok (.pop, 1) := dn_87 (ob_cJ2_checkBoundsOffCount_d044e 9 rfl)
theorem dJ2_checkBoundsOffCount_d044e_10 : decode cJ2_checkBoundsOffCount_d044e 10 = .ok (.return_, 1) := dn_177 (ob_cJ2_checkBoundsOffCount_d044e 10 rfl)
def kb_cJ7_copyOf_9075b : List UInt8 := [27, 42, 190, 160, 0, 11, 42, 182, 1, 54, 192, 1, 55, 176, 27, 188, 8, 77, 42, 3, 44, 3, 42, 190, 27, 184, 1, 48, 184, 0, 150, 44, 176]
set_option maxRecDepth 10000 in
theorem ob_cJ7_copyOf_9075b (r : Nat) {l : List UInt8} (h : kb_cJ7_copyOf_9075b.drop r = l) : (cJ7_copyOf_9075b).data.toList.drop r = l := by
  rw [show (cJ7_copyOf_9075b).data.toList = kb_cJ7_copyOf_9075b from eqL_eq (by decide +kernel)]
  exact h
theorem dJ7_copyOf_9075b_0 : decode cJ7_copyOf_9075b 0 = .ok (.iload_n 1, 1) := dn_27 (ob_cJ7_copyOf_9075b 0 rfl)
theorem dJ7_copyOf_9075b_1 : decode cJ7_copyOf_9075b 1 = .ok (.aload_n 0, 1) := dn_42 (ob_cJ7_copyOf_9075b 1 rfl)
theorem dJ7_copyOf_9075b_2 : decode cJ7_copyOf_9075b 2 = .ok (.arraylength, 1) := dn_190 (ob_cJ7_copyOf_9075b 2 rfl)
theorem dJ7_copyOf_9075b_3 : decode cJ7_copyOf_9075b 3 = .ok (.if_icmp .ne 11, 3) := dn_160 (ob_cJ7_copyOf_9075b 3 rfl) (by decide +kernel)
theorem dJ7_copyOf_9075b_6 : decode cJ7_copyOf_9075b 6 = .ok (.aload_n 0, 1) := dn_42 (ob_cJ7_copyOf_9075b 6 rfl)
theorem dJ7_copyOf_9075b_7 : decode cJ7_copyOf_9075b 7 = .ok (.invokevirtual 310, 3) := dn_182 (ob_cJ7_copyOf_9075b 7 rfl) rfl
theorem dJ7_copyOf_9075b_10 : decode cJ7_copyOf_9075b 10 = .ok (.checkcast 311, 3) := dn_192 (ob_cJ7_copyOf_9075b 10 rfl) rfl
theorem dJ7_copyOf_9075b_13 : decode cJ7_copyOf_9075b 13 = .ok (.areturn, 1) := dn_176 (ob_cJ7_copyOf_9075b 13 rfl)
theorem dJ7_copyOf_9075b_14 : decode cJ7_copyOf_9075b 14 = .ok (.iload_n 1, 1) := dn_27 (ob_cJ7_copyOf_9075b 14 rfl)
theorem dJ7_copyOf_9075b_15 : decode cJ7_copyOf_9075b 15 = .ok (.newarray .byte, 2) := by decide +kernel
theorem dJ7_copyOf_9075b_17 : decode cJ7_copyOf_9075b 17 = .ok (.astore_n 2, 1) := dn_77 (ob_cJ7_copyOf_9075b 17 rfl)
theorem dJ7_copyOf_9075b_18 : decode cJ7_copyOf_9075b 18 = .ok (.aload_n 0, 1) := dn_42 (ob_cJ7_copyOf_9075b 18 rfl)
theorem dJ7_copyOf_9075b_19 : decode cJ7_copyOf_9075b 19 = .ok (.iconst 0, 1) := dn_3 (ob_cJ7_copyOf_9075b 19 rfl)
theorem dJ7_copyOf_9075b_20 : decode cJ7_copyOf_9075b 20 = .ok (.aload_n 2, 1) := dn_44 (ob_cJ7_copyOf_9075b 20 rfl)
theorem dJ7_copyOf_9075b_21 : decode cJ7_copyOf_9075b 21 = .ok (.iconst 0, 1) := dn_3 (ob_cJ7_copyOf_9075b 21 rfl)
theorem dJ7_copyOf_9075b_22 : decode cJ7_copyOf_9075b 22 = .ok (.aload_n 0, 1) := dn_42 (ob_cJ7_copyOf_9075b 22 rfl)
theorem dJ7_copyOf_9075b_23 : decode cJ7_copyOf_9075b 23 = .ok (.arraylength, 1) := dn_190 (ob_cJ7_copyOf_9075b 23 rfl)
theorem dJ7_copyOf_9075b_24 : decode cJ7_copyOf_9075b 24 = .ok (.iload_n 1, 1) := dn_27 (ob_cJ7_copyOf_9075b 24 rfl)
theorem dJ7_copyOf_9075b_25 : decode cJ7_copyOf_9075b 25 = .ok (.invokestatic 304, 3) := dn_184 (ob_cJ7_copyOf_9075b 25 rfl) rfl
theorem dJ7_copyOf_9075b_28 : decode cJ7_copyOf_9075b 28 = .ok (.invokestatic 150, 3) := dn_184 (ob_cJ7_copyOf_9075b 28 rfl) rfl
theorem dJ7_copyOf_9075b_31 : decode cJ7_copyOf_9075b 31 = .ok (.aload_n 2, 1) := dn_44 (ob_cJ7_copyOf_9075b 31 rfl)
theorem dJ7_copyOf_9075b_32 : decode cJ7_copyOf_9075b 32 = .ok (.areturn, 1) := dn_176 (ob_cJ7_copyOf_9075b 32 rfl)
def kb_cJ7_checkLength_df160 : List UInt8 := [27, 26, 162, 0, 35, 187, 0, 43, 89, 187, 0, 45, 89, 183, 0, 47, 26, 182, 0, 54, 19, 1, 81, 182, 0, 50, 27, 182, 0, 54, 182, 0, 61, 183, 0, 65, 191, 177]
set_option maxRecDepth 10000 in
theorem ob_cJ7_checkLength_df160 (r : Nat) {l : List UInt8} (h : kb_cJ7_checkLength_df160.drop r = l) : (cJ7_checkLength_df160).data.toList.drop r = l := by
  rw [show (cJ7_checkLength_df160).data.toList = kb_cJ7_checkLength_df160 from eqL_eq (by decide +kernel)]
  exact h
theorem dJ7_checkLength_df160_0 : decode cJ7_checkLength_df160 0 = .ok (.iload_n 1, 1) := dn_27 (ob_cJ7_checkLength_df160 0 rfl)
theorem dJ7_checkLength_df160_1 : decode cJ7_checkLength_df160 1 = .ok (.iload_n 0, 1) := dn_26 (ob_cJ7_checkLength_df160 1 rfl)
theorem dJ7_checkLength_df160_2 : decode cJ7_checkLength_df160 2 = .ok (.if_icmp .ge 35, 3) := dn_162 (ob_cJ7_checkLength_df160 2 rfl) (by decide +kernel)
theorem dJ7_checkLength_df160_5 : decode cJ7_checkLength_df160 5 = .ok (.new 43, 3) := dn_187 (ob_cJ7_checkLength_df160 5 rfl) rfl
theorem dJ7_checkLength_df160_8 : decode cJ7_checkLength_df160 8 = .ok (.dup, 1) := dn_89 (ob_cJ7_checkLength_df160 8 rfl)
theorem dJ7_checkLength_df160_9 : decode cJ7_checkLength_df160 9 = .ok (.new 45, 3) := dn_187 (ob_cJ7_checkLength_df160 9 rfl) rfl
theorem dJ7_checkLength_df160_12 : decode cJ7_checkLength_df160 12 = .ok (.dup, 1) := dn_89 (ob_cJ7_checkLength_df160 12 rfl)
theorem dJ7_checkLength_df160_13 : decode cJ7_checkLength_df160 13 = .ok (.invokespecial 47, 3) := dn_183 (ob_cJ7_checkLength_df160 13 rfl) rfl
theorem dJ7_checkLength_df160_16 : decode cJ7_checkLength_df160 16 = .ok (.iload_n 0, 1) := dn_26 (ob_cJ7_checkLength_df160 16 rfl)
theorem dJ7_checkLength_df160_17 : decode cJ7_checkLength_df160 17 = .ok (.invokevirtual 54, 3) := dn_182 (ob_cJ7_checkLength_df160 17 rfl) rfl
theorem dJ7_checkLength_df160_20 : decode cJ7_checkLength_df160 20 = .ok (.ldc_w 337, 3) := dn_19 (ob_cJ7_checkLength_df160 20 rfl) rfl
theorem dJ7_checkLength_df160_23 : decode cJ7_checkLength_df160 23 = .ok (.invokevirtual 50, 3) := dn_182 (ob_cJ7_checkLength_df160 23 rfl) rfl
theorem dJ7_checkLength_df160_26 : decode cJ7_checkLength_df160 26 = .ok (.iload_n 1, 1) := dn_27 (ob_cJ7_checkLength_df160 26 rfl)
theorem dJ7_checkLength_df160_27 : decode cJ7_checkLength_df160 27 = .ok (.invokevirtual 54, 3) := dn_182 (ob_cJ7_checkLength_df160 27 rfl) rfl
theorem dJ7_checkLength_df160_30 : decode cJ7_checkLength_df160 30 = .ok (.invokevirtual 61, 3) := dn_182 (ob_cJ7_checkLength_df160 30 rfl) rfl
theorem dJ7_checkLength_df160_33 : decode cJ7_checkLength_df160 33 = .ok (.invokespecial 65, 3) := dn_183 (ob_cJ7_checkLength_df160 33 rfl) rfl
theorem dJ7_checkLength_df160_36 : decode cJ7_checkLength_df160 36 = .ok (.athrow, 1) := dn_191 (ob_cJ7_checkLength_df160 36 rfl)
theorem dJ7_checkLength_df160_37 : decode cJ7_checkLength_df160 37 = .ok (.return_, 1) := dn_177 (ob_cJ7_checkLength_df160 37 rfl)
def kb_cJ7_copyOfRange_39247 : List UInt8 := [27, 154, 0, 9, 28, 42, 190, 159, 0, 10, 42, 27, 28, 184, 1, 83, 176, 42, 182, 1, 54, 192, 1, 55, 176]
set_option maxRecDepth 10000 in
theorem ob_cJ7_copyOfRange_39247 (r : Nat) {l : List UInt8} (h : kb_cJ7_copyOfRange_39247.drop r = l) : (cJ7_copyOfRange_39247).data.toList.drop r = l := by
  rw [show (cJ7_copyOfRange_39247).data.toList = kb_cJ7_copyOfRange_39247 from eqL_eq (by decide +kernel)]
  exact h
theorem dJ7_copyOfRange_39247_0 : decode cJ7_copyOfRange_39247 0 = .ok (.iload_n 1, 1) := dn_27 (ob_cJ7_copyOfRange_39247 0 rfl)
theorem dJ7_copyOfRange_39247_1 : decode cJ7_copyOfRange_39247 1 = .ok (.ifCond .ne 9, 3) := dn_154 (ob_cJ7_copyOfRange_39247 1 rfl) (by decide +kernel)
theorem dJ7_copyOfRange_39247_4 : decode cJ7_copyOfRange_39247 4 = .ok (.iload_n 2, 1) := dn_28 (ob_cJ7_copyOfRange_39247 4 rfl)
theorem dJ7_copyOfRange_39247_5 : decode cJ7_copyOfRange_39247 5 = .ok (.aload_n 0, 1) := dn_42 (ob_cJ7_copyOfRange_39247 5 rfl)
theorem dJ7_copyOfRange_39247_6 : decode cJ7_copyOfRange_39247 6 = .ok (.arraylength, 1) := dn_190 (ob_cJ7_copyOfRange_39247 6 rfl)
theorem dJ7_copyOfRange_39247_7 : decode cJ7_copyOfRange_39247 7 = .ok (.if_icmp .eq 10, 3) := dn_159 (ob_cJ7_copyOfRange_39247 7 rfl) (by decide +kernel)
theorem dJ7_copyOfRange_39247_10 : decode cJ7_copyOfRange_39247 10 = .ok (.aload_n 0, 1) := dn_42 (ob_cJ7_copyOfRange_39247 10 rfl)
theorem dJ7_copyOfRange_39247_11 : decode cJ7_copyOfRange_39247 11 = .ok (.iload_n 1, 1) := dn_27 (ob_cJ7_copyOfRange_39247 11 rfl)
theorem dJ7_copyOfRange_39247_12 : decode cJ7_copyOfRange_39247 12 = .ok (.iload_n 2, 1) := dn_28 (ob_cJ7_copyOfRange_39247 12 rfl)
theorem dJ7_copyOfRange_39247_13 : decode cJ7_copyOfRange_39247 13 = .ok (.invokestatic 339, 3) := dn_184 (ob_cJ7_copyOfRange_39247 13 rfl) rfl
theorem dJ7_copyOfRange_39247_16 : decode cJ7_copyOfRange_39247 16 = .ok (.areturn, 1) := dn_176 (ob_cJ7_copyOfRange_39247 16 rfl)
theorem dJ7_copyOfRange_39247_17 : decode cJ7_copyOfRange_39247 17 = .ok (.aload_n 0, 1) := dn_42 (ob_cJ7_copyOfRange_39247 17 rfl)
theorem dJ7_copyOfRange_39247_18 : decode cJ7_copyOfRange_39247 18 = .ok (.invokevirtual 310, 3) := dn_182 (ob_cJ7_copyOfRange_39247 18 rfl) rfl
theorem dJ7_copyOfRange_39247_21 : decode cJ7_copyOfRange_39247 21 = .ok (.checkcast 311, 3) := dn_192 (ob_cJ7_copyOfRange_39247 21 rfl) rfl
theorem dJ7_copyOfRange_39247_24 : decode cJ7_copyOfRange_39247 24 = .ok (.areturn, 1) := dn_176 (ob_cJ7_copyOfRange_39247 24 rfl)
def kb_cJ7_copyOfRangeByte_39247 : List UInt8 := [27, 28, 184, 1, 87, 28, 27, 100, 62, 29, 188, 8, 58, 4, 42, 27, 25, 4, 3, 42, 190, 27, 100, 29, 184, 1, 48, 184, 0, 150, 25, 4, 176]
set_option maxRecDepth 10000 in
theorem ob_cJ7_copyOfRangeByte_39247 (r : Nat) {l : List UInt8} (h : kb_cJ7_copyOfRangeByte_39247.drop r = l) : (cJ7_copyOfRangeByte_39247).data.toList.drop r = l := by
  rw [show (cJ7_copyOfRangeByte_39247).data.toList = kb_cJ7_copyOfRangeByte_39247 from eqL_eq (by decide +kernel)]
  exact h
theorem dJ7_copyOfRangeByte_39247_0 : decode cJ7_copyOfRangeByte_39247 0 = .ok (.iload_n 1, 1) := dn_27 (ob_cJ7_copyOfRangeByte_39247 0 rfl)
theorem dJ7_copyOfRangeByte_39247_1 : decode cJ7_copyOfRangeByte_39247 1 = .ok (.iload_n 2, 1) := dn_28 (ob_cJ7_copyOfRangeByte_39247 1 rfl)
theorem dJ7_copyOfRangeByte_39247_2 : decode cJ7_copyOfRangeByte_39247 2 = .ok (.invokestatic 343, 3) := dn_184 (ob_cJ7_copyOfRangeByte_39247 2 rfl) rfl
theorem dJ7_copyOfRangeByte_39247_5 : decode cJ7_copyOfRangeByte_39247 5 = .ok (.iload_n 2, 1) := dn_28 (ob_cJ7_copyOfRangeByte_39247 5 rfl)
theorem dJ7_copyOfRangeByte_39247_6 : decode cJ7_copyOfRangeByte_39247 6 = .ok (.iload_n 1, 1) := dn_27 (ob_cJ7_copyOfRangeByte_39247 6 rfl)
theorem dJ7_copyOfRangeByte_39247_7 : decode cJ7_copyOfRangeByte_39247 7 = .ok (.isub, 1) := dn_100 (ob_cJ7_copyOfRangeByte_39247 7 rfl)
theorem dJ7_copyOfRangeByte_39247_8 : decode cJ7_copyOfRangeByte_39247 8 = .ok (.istore_n 3, 1) := dn_62 (ob_cJ7_copyOfRangeByte_39247 8 rfl)
theorem dJ7_copyOfRangeByte_39247_9 : decode cJ7_copyOfRangeByte_39247 9 = .ok (.iload_n 3, 1) := dn_29 (ob_cJ7_copyOfRangeByte_39247 9 rfl)
theorem dJ7_copyOfRangeByte_39247_10 : decode cJ7_copyOfRangeByte_39247 10 = .ok (.newarray .byte, 2) := by decide +kernel
theorem dJ7_copyOfRangeByte_39247_12 : decode cJ7_copyOfRangeByte_39247 12 = .ok (.astore 4, 2) := dn_58 (ob_cJ7_copyOfRangeByte_39247 12 rfl) rfl
theorem dJ7_copyOfRangeByte_39247_14 : decode cJ7_copyOfRangeByte_39247 14 = .ok (.aload_n 0, 1) := dn_42 (ob_cJ7_copyOfRangeByte_39247 14 rfl)
theorem dJ7_copyOfRangeByte_39247_15 : decode cJ7_copyOfRangeByte_39247 15 = .ok (.iload_n 1, 1) := dn_27 (ob_cJ7_copyOfRangeByte_39247 15 rfl)
theorem dJ7_copyOfRangeByte_39247_16 : decode cJ7_copyOfRangeByte_39247 16 = .ok (.aload 4, 2) := dn_25 (ob_cJ7_copyOfRangeByte_39247 16 rfl) rfl
theorem dJ7_copyOfRangeByte_39247_18 : decode cJ7_copyOfRangeByte_39247 18 = .ok (.iconst 0, 1) := dn_3 (ob_cJ7_copyOfRangeByte_39247 18 rfl)
theorem dJ7_copyOfRangeByte_39247_19 : decode cJ7_copyOfRangeByte_39247 19 = .ok (.aload_n 0, 1) := dn_42 (ob_cJ7_copyOfRangeByte_39247 19 rfl)
theorem dJ7_copyOfRangeByte_39247_20 : decode cJ7_copyOfRangeByte_39247 20 = .ok (.arraylength, 1) := dn_190 (ob_cJ7_copyOfRangeByte_39247 20 rfl)
theorem dJ7_copyOfRangeByte_39247_21 : decode cJ7_copyOfRangeByte_39247 21 = .ok (.iload_n 1, 1) := dn_27 (ob_cJ7_copyOfRangeByte_39247 21 rfl)
theorem dJ7_copyOfRangeByte_39247_22 : decode cJ7_copyOfRangeByte_39247 22 = .ok (.isub, 1) := dn_100 (ob_cJ7_copyOfRangeByte_39247 22 rfl)
theorem dJ7_copyOfRangeByte_39247_23 : decode cJ7_copyOfRangeByte_39247 23 = .ok (.iload_n 3, 1) := dn_29 (ob_cJ7_copyOfRangeByte_39247 23 rfl)
theorem dJ7_copyOfRangeByte_39247_24 : decode cJ7_copyOfRangeByte_39247 24 = .ok (.invokestatic 304, 3) := dn_184 (ob_cJ7_copyOfRangeByte_39247 24 rfl) rfl
theorem dJ7_copyOfRangeByte_39247_27 : decode cJ7_copyOfRangeByte_39247 27 = .ok (.invokestatic 150, 3) := dn_184 (ob_cJ7_copyOfRangeByte_39247 27 rfl) rfl
theorem dJ7_copyOfRangeByte_39247_30 : decode cJ7_copyOfRangeByte_39247 30 = .ok (.aload 4, 2) := dn_25 (ob_cJ7_copyOfRangeByte_39247 30 rfl) rfl
theorem dJ7_copyOfRangeByte_39247_32 : decode cJ7_copyOfRangeByte_39247 32 = .ok (.areturn, 1) := dn_176 (ob_cJ7_copyOfRangeByte_39247 32 rfl)
def kb_cJ8_newLength_cabcc : List UInt8 := [26, 27, 28, 184, 0, 194, 96, 62, 3, 29, 162, 0, 11, 29, 18, 200, 163, 0, 5, 29, 172, 26, 27, 184, 0, 201, 172]
set_option maxRecDepth 10000 in
theorem ob_cJ8_newLength_cabcc (r : Nat) {l : List UInt8} (h : kb_cJ8_newLength_cabcc.drop r = l) : (cJ8_newLength_cabcc).data.toList.drop r = l := by
  rw [show (cJ8_newLength_cabcc).data.toList = kb_cJ8_newLength_cabcc from eqL_eq (by decide +kernel)]
  exact h
theorem dJ8_newLength_cabcc_0 : decode cJ8_newLength_cabcc 0 = .ok (.iload_n 0, 1) := dn_26 (ob_cJ8_newLength_cabcc 0 rfl)
theorem dJ8_newLength_cabcc_1 : decode cJ8_newLength_cabcc 1 = .ok (.iload_n 1, 1) := dn_27 (ob_cJ8_newLength_cabcc 1 rfl)
theorem dJ8_newLength_cabcc_2 : decode cJ8_newLength_cabcc 2 = .ok (.iload_n 2, 1) := dn_28 (ob_cJ8_newLength_cabcc 2 rfl)
theorem dJ8_newLength_cabcc_3 : decode cJ8_newLength_cabcc 3 = .ok (.invokestatic 194, 3) := dn_184 (ob_cJ8_newLength_cabcc 3 rfl) rfl
theorem dJ8_newLength_cabcc_6 : decode cJ8_newLength_cabcc 6 = .ok (.iadd, 1) := dn_96 (ob_cJ8_newLength_cabcc 6 rfl)
theorem dJ8_newLength_cabcc_7 : decode cJ8_newLength_cabcc 7 = .ok (.istore_n 3, 1) := dn_62 (ob_cJ8_newLength_cabcc 7 rfl)
theorem dJ8_newLength_cabcc_8 : decode cJ8_newLength_cabcc 8 = .ok (.iconst 0, 1) := dn_3 (ob_cJ8_newLength_cabcc 8 rfl)
theorem dJ8_newLength_cabcc_9 : decode cJ8_newLength_cabcc 9 = .ok (.iload_n 3, 1) := dn_29 (ob_cJ8_newLength_cabcc 9 rfl)
theorem dJ8_newLength_cabcc_10 : decode cJ8_newLength_cabcc 10 = .ok (.if_icmp .ge 11, 3) := dn_162 (ob_cJ8_newLength_cabcc 10 rfl) (by decide +kernel)
theorem dJ8_newLength_cabcc_13 : decode cJ8_newLength_cabcc 13 = .ok (.iload_n 3, 1) := dn_29 (ob_cJ8_newLength_cabcc 13 rfl)
theorem dJ8_newLength_cabcc_14 : decode cJ8_newLength_cabcc 14 = .ok (.ldc 200, 2) := dn_18 (ob_cJ8_newLength_cabcc 14 rfl) rfl
theorem dJ8_newLength_cabcc_16 : decode cJ8_newLength_cabcc 16 = .ok (.if_icmp .gt 5, 3) := dn_163 (ob_cJ8_newLength_cabcc 16 rfl) (by decide +kernel)
theorem dJ8_newLength_cabcc_19 : decode cJ8_newLength_cabcc 19 = .ok (.iload_n 3, 1) := dn_29 (ob_cJ8_newLength_cabcc 19 rfl)
theorem dJ8_newLength_cabcc_20 : decode cJ8_newLength_cabcc 20 = .ok (.ireturn, 1) := dn_172 (ob_cJ8_newLength_cabcc 20 rfl)
theorem dJ8_newLength_cabcc_21 : decode cJ8_newLength_cabcc 21 = .ok (.iload_n 0, 1) := dn_26 (ob_cJ8_newLength_cabcc 21 rfl)
theorem dJ8_newLength_cabcc_22 : decode cJ8_newLength_cabcc 22 = .ok (.iload_n 1, 1) := dn_27 (ob_cJ8_newLength_cabcc 22 rfl)
theorem dJ8_newLength_cabcc_23 : decode cJ8_newLength_cabcc 23 = .ok (.invokestatic 201, 3) := dn_184 (ob_cJ8_newLength_cabcc 23 rfl) rfl
theorem dJ8_newLength_cabcc_26 : decode cJ8_newLength_cabcc 26 = .ok (.ireturn, 1) := dn_172 (ob_cJ8_newLength_cabcc 26 rfl)
def kb_cJ8_hugeLength_7cf53_0 : List UInt8 := [26, 27, 96, 61, 28, 156, 0, 44, 187, 0, 204, 89, 187, 0, 89, 89, 183, 0, 91, 18, 206, 182, 0, 94, 26, 182, 0, 98, 18, 208, 182, 0, 94, 27, 182, 0, 98, 18, 210, 182, 0, 94]
def kb_cJ8_hugeLength_7cf53_1 : List UInt8 := [182, 0, 101, 183, 0, 212, 191, 28, 18, 200, 163, 0, 6, 18, 200, 172, 28, 172]
def tb_cJ8_hugeLength_7cf53_2 : List UInt8 := []
def tb_cJ8_hugeLength_7cf53_1 : List UInt8 := kb_cJ8_hugeLength_7cf53_1 ++ tb_cJ8_hugeLength_7cf53_2
def tb_cJ8_hugeLength_7cf53_0 : List UInt8 := kb_cJ8_hugeLength_7cf53_0 ++ tb_cJ8_hugeLength_7cf53_1
set_option maxRecDepth 100000 in
theorem tb_cJ8_hugeLength_7cf53 : (cJ8_hugeLength_7cf53).data.toList = tb_cJ8_hugeLength_7cf53_0 := eqL_eq (by decide +kernel)
theorem ow_cJ8_hugeLength_7cf53_0 (r : Nat) : (cJ8_hugeLength_7cf53).data.toList.drop (0 + r) = tb_cJ8_hugeLength_7cf53_0.drop r := by rw [tb_cJ8_hugeLength_7cf53, Nat.zero_add]
theorem ow_cJ8_hugeLength_7cf53_1 (r : Nat) : (cJ8_hugeLength_7cf53).data.toList.drop (42 + r) = tb_cJ8_hugeLength_7cf53_1.drop r := by
  have e := ow_cJ8_hugeLength_7cf53_0 (42 + r)
  rw [show 0 + (42 + r) = 42 + r by omega] at e
  exact e.trans (dr_len (a := kb_cJ8_hugeLength_7cf53_0) (t := tb_cJ8_hugeLength_7cf53_1) (by decide +kernel))
theorem ob_cJ8_hugeLength_7cf53_0 (r : Nat) {pc : Nat} {l : List UInt8} (hp : 0 + r = pc) (h : tb_cJ8_hugeLength_7cf53_0.drop r = l) : (cJ8_hugeLength_7cf53).data.toList.drop pc = l := by
  subst hp
  exact (ow_cJ8_hugeLength_7cf53_0 r).trans h
theorem ob_cJ8_hugeLength_7cf53_1 (r : Nat) {pc : Nat} {l : List UInt8} (hp : 42 + r = pc) (h : tb_cJ8_hugeLength_7cf53_1.drop r = l) : (cJ8_hugeLength_7cf53).data.toList.drop pc = l := by
  subst hp
  exact (ow_cJ8_hugeLength_7cf53_1 r).trans h
theorem dJ8_hugeLength_7cf53_0 : decode cJ8_hugeLength_7cf53 0 = .ok (.iload_n 0, 1) := dn_26 (ob_cJ8_hugeLength_7cf53_0 0 rfl rfl)
theorem dJ8_hugeLength_7cf53_1 : decode cJ8_hugeLength_7cf53 1 = .ok (.iload_n 1, 1) := dn_27 (ob_cJ8_hugeLength_7cf53_0 1 rfl rfl)
theorem dJ8_hugeLength_7cf53_2 : decode cJ8_hugeLength_7cf53 2 = .ok (.iadd, 1) := dn_96 (ob_cJ8_hugeLength_7cf53_0 2 rfl rfl)
theorem dJ8_hugeLength_7cf53_3 : decode cJ8_hugeLength_7cf53 3 = .ok (.istore_n 2, 1) := dn_61 (ob_cJ8_hugeLength_7cf53_0 3 rfl rfl)
theorem dJ8_hugeLength_7cf53_4 : decode cJ8_hugeLength_7cf53 4 = .ok (.iload_n 2, 1) := dn_28 (ob_cJ8_hugeLength_7cf53_0 4 rfl rfl)
theorem dJ8_hugeLength_7cf53_5 : decode cJ8_hugeLength_7cf53 5 = .ok (.ifCond .ge 44, 3) := dn_156 (ob_cJ8_hugeLength_7cf53_0 5 rfl rfl) (by decide +kernel)
theorem dJ8_hugeLength_7cf53_8 : decode cJ8_hugeLength_7cf53 8 = .ok (.new 204, 3) := dn_187 (ob_cJ8_hugeLength_7cf53_0 8 rfl rfl) rfl
theorem dJ8_hugeLength_7cf53_11 : decode cJ8_hugeLength_7cf53 11 = .ok (.dup, 1) := dn_89 (ob_cJ8_hugeLength_7cf53_0 11 rfl rfl)
theorem dJ8_hugeLength_7cf53_12 : decode cJ8_hugeLength_7cf53 12 = .ok (.new 89, 3) := dn_187 (ob_cJ8_hugeLength_7cf53_0 12 rfl rfl) rfl
theorem dJ8_hugeLength_7cf53_15 : decode cJ8_hugeLength_7cf53 15 = .ok (.dup, 1) := dn_89 (ob_cJ8_hugeLength_7cf53_0 15 rfl rfl)
theorem dJ8_hugeLength_7cf53_16 : decode cJ8_hugeLength_7cf53 16 = .ok (.invokespecial 91, 3) := dn_183 (ob_cJ8_hugeLength_7cf53_0 16 rfl rfl) rfl
theorem dJ8_hugeLength_7cf53_19 : decode cJ8_hugeLength_7cf53 19 = .ok (.ldc 206, 2) := dn_18 (ob_cJ8_hugeLength_7cf53_0 19 rfl rfl) rfl
theorem dJ8_hugeLength_7cf53_21 : decode cJ8_hugeLength_7cf53 21 = .ok (.invokevirtual 94, 3) := dn_182 (ob_cJ8_hugeLength_7cf53_0 21 rfl rfl) rfl
theorem dJ8_hugeLength_7cf53_24 : decode cJ8_hugeLength_7cf53 24 = .ok (.iload_n 0, 1) := dn_26 (ob_cJ8_hugeLength_7cf53_0 24 rfl rfl)
theorem dJ8_hugeLength_7cf53_25 : decode cJ8_hugeLength_7cf53 25 = .ok (.invokevirtual 98, 3) := dn_182 (ob_cJ8_hugeLength_7cf53_0 25 rfl rfl) rfl
theorem dJ8_hugeLength_7cf53_28 : decode cJ8_hugeLength_7cf53 28 = .ok (.ldc 208, 2) := dn_18 (ob_cJ8_hugeLength_7cf53_0 28 rfl rfl) rfl
theorem dJ8_hugeLength_7cf53_30 : decode cJ8_hugeLength_7cf53 30 = .ok (.invokevirtual 94, 3) := dn_182 (ob_cJ8_hugeLength_7cf53_0 30 rfl rfl) rfl
theorem dJ8_hugeLength_7cf53_33 : decode cJ8_hugeLength_7cf53 33 = .ok (.iload_n 1, 1) := dn_27 (ob_cJ8_hugeLength_7cf53_0 33 rfl rfl)
theorem dJ8_hugeLength_7cf53_34 : decode cJ8_hugeLength_7cf53 34 = .ok (.invokevirtual 98, 3) := dn_182 (ob_cJ8_hugeLength_7cf53_0 34 rfl rfl) rfl
theorem dJ8_hugeLength_7cf53_37 : decode cJ8_hugeLength_7cf53 37 = .ok (.ldc 210, 2) := dn_18 (ob_cJ8_hugeLength_7cf53_0 37 rfl rfl) rfl
theorem dJ8_hugeLength_7cf53_39 : decode cJ8_hugeLength_7cf53 39 = .ok (.invokevirtual 94, 3) := dn_182 (ob_cJ8_hugeLength_7cf53_0 39 rfl rfl) rfl
theorem dJ8_hugeLength_7cf53_42 : decode cJ8_hugeLength_7cf53 42 = .ok (.invokevirtual 101, 3) := dn_182 (ob_cJ8_hugeLength_7cf53_1 0 rfl rfl) rfl
theorem dJ8_hugeLength_7cf53_45 : decode cJ8_hugeLength_7cf53 45 = .ok (.invokespecial 212, 3) := dn_183 (ob_cJ8_hugeLength_7cf53_1 3 rfl rfl) rfl
theorem dJ8_hugeLength_7cf53_48 : decode cJ8_hugeLength_7cf53 48 = .ok (.athrow, 1) := dn_191 (ob_cJ8_hugeLength_7cf53_1 6 rfl rfl)
theorem dJ8_hugeLength_7cf53_49 : decode cJ8_hugeLength_7cf53 49 = .ok (.iload_n 2, 1) := dn_28 (ob_cJ8_hugeLength_7cf53_1 7 rfl rfl)
theorem dJ8_hugeLength_7cf53_50 : decode cJ8_hugeLength_7cf53 50 = .ok (.ldc 200, 2) := dn_18 (ob_cJ8_hugeLength_7cf53_1 8 rfl rfl) rfl
theorem dJ8_hugeLength_7cf53_52 : decode cJ8_hugeLength_7cf53 52 = .ok (.if_icmp .gt 6, 3) := dn_163 (ob_cJ8_hugeLength_7cf53_1 10 rfl rfl) (by decide +kernel)
theorem dJ8_hugeLength_7cf53_55 : decode cJ8_hugeLength_7cf53 55 = .ok (.ldc 200, 2) := dn_18 (ob_cJ8_hugeLength_7cf53_1 13 rfl rfl) rfl
theorem dJ8_hugeLength_7cf53_57 : decode cJ8_hugeLength_7cf53 57 = .ok (.ireturn, 1) := dn_172 (ob_cJ8_hugeLength_7cf53_1 15 rfl rfl)
theorem dJ8_hugeLength_7cf53_58 : decode cJ8_hugeLength_7cf53 58 = .ok (.iload_n 2, 1) := dn_28 (ob_cJ8_hugeLength_7cf53_1 16 rfl rfl)
theorem dJ8_hugeLength_7cf53_59 : decode cJ8_hugeLength_7cf53 59 = .ok (.ireturn, 1) := dn_172 (ob_cJ8_hugeLength_7cf53_1 17 rfl rfl)
def kb_cJ3_checkIndex_8e157 : List UInt8 := [26, 155, 0, 8, 26, 27, 161, 0, 10, 44, 26, 27, 184, 0, 95, 191, 26, 172]
set_option maxRecDepth 10000 in
theorem ob_cJ3_checkIndex_8e157 (r : Nat) {l : List UInt8} (h : kb_cJ3_checkIndex_8e157.drop r = l) : (cJ3_checkIndex_8e157).data.toList.drop r = l := by
  rw [show (cJ3_checkIndex_8e157).data.toList = kb_cJ3_checkIndex_8e157 from eqL_eq (by decide +kernel)]
  exact h
theorem dJ3_checkIndex_8e157_0 : decode cJ3_checkIndex_8e157 0 = .ok (.iload_n 0, 1) := dn_26 (ob_cJ3_checkIndex_8e157 0 rfl)
theorem dJ3_checkIndex_8e157_1 : decode cJ3_checkIndex_8e157 1 = .ok (.ifCond .lt 8, 3) := dn_155 (ob_cJ3_checkIndex_8e157 1 rfl) (by decide +kernel)
theorem dJ3_checkIndex_8e157_4 : decode cJ3_checkIndex_8e157 4 = .ok (.iload_n 0, 1) := dn_26 (ob_cJ3_checkIndex_8e157 4 rfl)
theorem dJ3_checkIndex_8e157_5 : decode cJ3_checkIndex_8e157 5 = .ok (.iload_n 1, 1) := dn_27 (ob_cJ3_checkIndex_8e157 5 rfl)
theorem dJ3_checkIndex_8e157_6 : decode cJ3_checkIndex_8e157 6 = .ok (.if_icmp .lt 10, 3) := dn_161 (ob_cJ3_checkIndex_8e157 6 rfl) (by decide +kernel)
theorem dJ3_checkIndex_8e157_9 : decode cJ3_checkIndex_8e157 9 = .ok (.aload_n 2, 1) := dn_44 (ob_cJ3_checkIndex_8e157 9 rfl)
theorem dJ3_checkIndex_8e157_10 : decode cJ3_checkIndex_8e157 10 = .ok (.iload_n 0, 1) := dn_26 (ob_cJ3_checkIndex_8e157 10 rfl)
theorem dJ3_checkIndex_8e157_11 : decode cJ3_checkIndex_8e157 11 = .ok (.iload_n 1, 1) := dn_27 (ob_cJ3_checkIndex_8e157 11 rfl)
theorem dJ3_checkIndex_8e157_12 : decode cJ3_checkIndex_8e157 12 = .ok (.invokestatic 95, 3) := dn_184 (ob_cJ3_checkIndex_8e157 12 rfl) rfl
theorem dJ3_checkIndex_8e157_15 : decode cJ3_checkIndex_8e157 15 = .ok (.athrow, 1) := dn_191 (ob_cJ3_checkIndex_8e157 15 rfl)
theorem dJ3_checkIndex_8e157_16 : decode cJ3_checkIndex_8e157 16 = .ok (.iload_n 0, 1) := dn_26 (ob_cJ3_checkIndex_8e157 16 rfl)
theorem dJ3_checkIndex_8e157_17 : decode cJ3_checkIndex_8e157 17 = .ok (.ireturn, 1) := dn_172 (ob_cJ3_checkIndex_8e157 17 rfl)
def kb_cJ3_checkFromToIndex_8c36e : List UInt8 := [26, 155, 0, 13, 26, 27, 163, 0, 8, 27, 28, 164, 0, 11, 45, 26, 27, 28, 184, 0, 99, 191, 26, 172]
set_option maxRecDepth 10000 in
theorem ob_cJ3_checkFromToIndex_8c36e (r : Nat) {l : List UInt8} (h : kb_cJ3_checkFromToIndex_8c36e.drop r = l) : (cJ3_checkFromToIndex_8c36e).data.toList.drop r = l := by
  rw [show (cJ3_checkFromToIndex_8c36e).data.toList = kb_cJ3_checkFromToIndex_8c36e from eqL_eq (by decide +kernel)]
  exact h
theorem dJ3_checkFromToIndex_8c36e_0 : decode cJ3_checkFromToIndex_8c36e 0 = .ok (.iload_n 0, 1) := dn_26 (ob_cJ3_checkFromToIndex_8c36e 0 rfl)
theorem dJ3_checkFromToIndex_8c36e_1 : decode cJ3_checkFromToIndex_8c36e 1 = .ok (.ifCond .lt 13, 3) := dn_155 (ob_cJ3_checkFromToIndex_8c36e 1 rfl) (by decide +kernel)
theorem dJ3_checkFromToIndex_8c36e_4 : decode cJ3_checkFromToIndex_8c36e 4 = .ok (.iload_n 0, 1) := dn_26 (ob_cJ3_checkFromToIndex_8c36e 4 rfl)
theorem dJ3_checkFromToIndex_8c36e_5 : decode cJ3_checkFromToIndex_8c36e 5 = .ok (.iload_n 1, 1) := dn_27 (ob_cJ3_checkFromToIndex_8c36e 5 rfl)
theorem dJ3_checkFromToIndex_8c36e_6 : decode cJ3_checkFromToIndex_8c36e 6 = .ok (.if_icmp .gt 8, 3) := dn_163 (ob_cJ3_checkFromToIndex_8c36e 6 rfl) (by decide +kernel)
theorem dJ3_checkFromToIndex_8c36e_9 : decode cJ3_checkFromToIndex_8c36e 9 = .ok (.iload_n 1, 1) := dn_27 (ob_cJ3_checkFromToIndex_8c36e 9 rfl)
theorem dJ3_checkFromToIndex_8c36e_10 : decode cJ3_checkFromToIndex_8c36e 10 = .ok (.iload_n 2, 1) := dn_28 (ob_cJ3_checkFromToIndex_8c36e 10 rfl)
theorem dJ3_checkFromToIndex_8c36e_11 : decode cJ3_checkFromToIndex_8c36e 11 = .ok (.if_icmp .le 11, 3) := dn_164 (ob_cJ3_checkFromToIndex_8c36e 11 rfl) (by decide +kernel)
theorem dJ3_checkFromToIndex_8c36e_14 : decode cJ3_checkFromToIndex_8c36e 14 = .ok (.aload_n 3, 1) := dn_45 (ob_cJ3_checkFromToIndex_8c36e 14 rfl)
theorem dJ3_checkFromToIndex_8c36e_15 : decode cJ3_checkFromToIndex_8c36e 15 = .ok (.iload_n 0, 1) := dn_26 (ob_cJ3_checkFromToIndex_8c36e 15 rfl)
theorem dJ3_checkFromToIndex_8c36e_16 : decode cJ3_checkFromToIndex_8c36e 16 = .ok (.iload_n 1, 1) := dn_27 (ob_cJ3_checkFromToIndex_8c36e 16 rfl)
theorem dJ3_checkFromToIndex_8c36e_17 : decode cJ3_checkFromToIndex_8c36e 17 = .ok (.iload_n 2, 1) := dn_28 (ob_cJ3_checkFromToIndex_8c36e 17 rfl)
theorem dJ3_checkFromToIndex_8c36e_18 : decode cJ3_checkFromToIndex_8c36e 18 = .ok (.invokestatic 99, 3) := dn_184 (ob_cJ3_checkFromToIndex_8c36e 18 rfl) rfl
theorem dJ3_checkFromToIndex_8c36e_21 : decode cJ3_checkFromToIndex_8c36e 21 = .ok (.athrow, 1) := dn_191 (ob_cJ3_checkFromToIndex_8c36e 21 rfl)
theorem dJ3_checkFromToIndex_8c36e_22 : decode cJ3_checkFromToIndex_8c36e 22 = .ok (.iload_n 0, 1) := dn_26 (ob_cJ3_checkFromToIndex_8c36e 22 rfl)
theorem dJ3_checkFromToIndex_8c36e_23 : decode cJ3_checkFromToIndex_8c36e 23 = .ok (.ireturn, 1) := dn_172 (ob_cJ3_checkFromToIndex_8c36e 23 rfl)
def kb_cJ3_checkFromIndexSize_8c36e : List UInt8 := [28, 26, 128, 27, 128, 155, 0, 10, 27, 28, 26, 100, 164, 0, 11, 45, 26, 27, 28, 184, 0, 103, 191, 26, 172]
set_option maxRecDepth 10000 in
theorem ob_cJ3_checkFromIndexSize_8c36e (r : Nat) {l : List UInt8} (h : kb_cJ3_checkFromIndexSize_8c36e.drop r = l) : (cJ3_checkFromIndexSize_8c36e).data.toList.drop r = l := by
  rw [show (cJ3_checkFromIndexSize_8c36e).data.toList = kb_cJ3_checkFromIndexSize_8c36e from eqL_eq (by decide +kernel)]
  exact h
theorem dJ3_checkFromIndexSize_8c36e_0 : decode cJ3_checkFromIndexSize_8c36e 0 = .ok (.iload_n 2, 1) := dn_28 (ob_cJ3_checkFromIndexSize_8c36e 0 rfl)
theorem dJ3_checkFromIndexSize_8c36e_1 : decode cJ3_checkFromIndexSize_8c36e 1 = .ok (.iload_n 0, 1) := dn_26 (ob_cJ3_checkFromIndexSize_8c36e 1 rfl)
theorem dJ3_checkFromIndexSize_8c36e_2 : decode cJ3_checkFromIndexSize_8c36e 2 = .ok (.ior, 1) := dn_128 (ob_cJ3_checkFromIndexSize_8c36e 2 rfl)
theorem dJ3_checkFromIndexSize_8c36e_3 : decode cJ3_checkFromIndexSize_8c36e 3 = .ok (.iload_n 1, 1) := dn_27 (ob_cJ3_checkFromIndexSize_8c36e 3 rfl)
theorem dJ3_checkFromIndexSize_8c36e_4 : decode cJ3_checkFromIndexSize_8c36e 4 = .ok (.ior, 1) := dn_128 (ob_cJ3_checkFromIndexSize_8c36e 4 rfl)
theorem dJ3_checkFromIndexSize_8c36e_5 : decode cJ3_checkFromIndexSize_8c36e 5 = .ok (.ifCond .lt 10, 3) := dn_155 (ob_cJ3_checkFromIndexSize_8c36e 5 rfl) (by decide +kernel)
theorem dJ3_checkFromIndexSize_8c36e_8 : decode cJ3_checkFromIndexSize_8c36e 8 = .ok (.iload_n 1, 1) := dn_27 (ob_cJ3_checkFromIndexSize_8c36e 8 rfl)
theorem dJ3_checkFromIndexSize_8c36e_9 : decode cJ3_checkFromIndexSize_8c36e 9 = .ok (.iload_n 2, 1) := dn_28 (ob_cJ3_checkFromIndexSize_8c36e 9 rfl)
theorem dJ3_checkFromIndexSize_8c36e_10 : decode cJ3_checkFromIndexSize_8c36e 10 = .ok (.iload_n 0, 1) := dn_26 (ob_cJ3_checkFromIndexSize_8c36e 10 rfl)
theorem dJ3_checkFromIndexSize_8c36e_11 : decode cJ3_checkFromIndexSize_8c36e 11 = .ok (.isub, 1) := dn_100 (ob_cJ3_checkFromIndexSize_8c36e 11 rfl)
theorem dJ3_checkFromIndexSize_8c36e_12 : decode cJ3_checkFromIndexSize_8c36e 12 = .ok (.if_icmp .le 11, 3) := dn_164 (ob_cJ3_checkFromIndexSize_8c36e 12 rfl) (by decide +kernel)
theorem dJ3_checkFromIndexSize_8c36e_15 : decode cJ3_checkFromIndexSize_8c36e 15 = .ok (.aload_n 3, 1) := dn_45 (ob_cJ3_checkFromIndexSize_8c36e 15 rfl)
theorem dJ3_checkFromIndexSize_8c36e_16 : decode cJ3_checkFromIndexSize_8c36e 16 = .ok (.iload_n 0, 1) := dn_26 (ob_cJ3_checkFromIndexSize_8c36e 16 rfl)
theorem dJ3_checkFromIndexSize_8c36e_17 : decode cJ3_checkFromIndexSize_8c36e 17 = .ok (.iload_n 1, 1) := dn_27 (ob_cJ3_checkFromIndexSize_8c36e 17 rfl)
theorem dJ3_checkFromIndexSize_8c36e_18 : decode cJ3_checkFromIndexSize_8c36e 18 = .ok (.iload_n 2, 1) := dn_28 (ob_cJ3_checkFromIndexSize_8c36e 18 rfl)
theorem dJ3_checkFromIndexSize_8c36e_19 : decode cJ3_checkFromIndexSize_8c36e 19 = .ok (.invokestatic 103, 3) := dn_184 (ob_cJ3_checkFromIndexSize_8c36e 19 rfl) rfl
theorem dJ3_checkFromIndexSize_8c36e_22 : decode cJ3_checkFromIndexSize_8c36e 22 = .ok (.athrow, 1) := dn_191 (ob_cJ3_checkFromIndexSize_8c36e 22 rfl)
theorem dJ3_checkFromIndexSize_8c36e_23 : decode cJ3_checkFromIndexSize_8c36e 23 = .ok (.iload_n 0, 1) := dn_26 (ob_cJ3_checkFromIndexSize_8c36e 23 rfl)
theorem dJ3_checkFromIndexSize_8c36e_24 : decode cJ3_checkFromIndexSize_8c36e 24 = .ok (.ireturn, 1) := dn_172 (ob_cJ3_checkFromIndexSize_8c36e 24 rfl)
