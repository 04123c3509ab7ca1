/-! decode rows -/
def kb_cX4_init_0 : List UInt8 := [42, 183, 0, 1, 42, 17, 1, 0, 188, 10, 181, 0, 7, 42, 6, 16, 30, 197, 0, 13, 2, 181, 0, 15, 42, 6, 188, 10, 181, 0, 18, 42, 182, 0, 21, 42, 182, 0, 24, 42]
def kb_cX4_init_1 : List UInt8 := [182, 0, 27, 177]
def tb_cX4_init_2 : List UInt8 := []
def tb_cX4_init_1 : List UInt8 := kb_cX4_init_1 ++ tb_cX4_init_2
def tb_cX4_init_0 : List UInt8 := kb_cX4_init_0 ++ tb_cX4_init_1
set_option maxRecDepth 100000 in
theorem tb_cX4_init : (cX4_init).data.toList = tb_cX4_init_0 := eqL_eq (by decide +kernel)
theorem ow_cX4_init_0 (r : Nat) : (cX4_init).data.toList.drop (0 + r) = tb_cX4_init_0.drop r := by rw [tb_cX4_init, Nat.zero_add]
theorem ow_cX4_init_1 (r : Nat) : (cX4_init).data.toList.drop (40 + r) = tb_cX4_init_1.drop r := by
  have e := ow_cX4_init_0 (40 + r)
  rw [show 0 + (40 + r) = 40 + r by omega] at e
  exact e.trans (dr_len (a := kb_cX4_init_0) (t := tb_cX4_init_1) (by decide +kernel))
theorem ob_cX4_init_0 (r : Nat) {pc : Nat} {l : List UInt8} (hp : 0 + r = pc) (h : tb_cX4_init_0.drop r = l) : (cX4_init).data.toList.drop pc = l := by
  subst hp
  exact (ow_cX4_init_0 r).trans h
theorem ob_cX4_init_1 (r : Nat) {pc : Nat} {l : List UInt8} (hp : 40 + r = pc) (h : tb_cX4_init_1.drop r = l) : (cX4_init).data.toList.drop pc = l := by
  subst hp
  exact (ow_cX4_init_1 r).trans h
theorem dX4_init_0 : decode cX4_init 0 = .ok (.aload_n 0, 1) := dn_42 (ob_cX4_init_0 0 rfl rfl)
theorem dX4_init_1 : decode cX4_init 1 = .ok (.invokespecial 1, 3) := dn_183 (ob_cX4_init_0 1 rfl rfl) rfl
theorem dX4_init_4 : decode cX4_init 4 = .ok (.aload_n 0, 1) := dn_42 (ob_cX4_init_0 4 rfl rfl)
theorem dX4_init_5 : decode cX4_init 5 = .ok (.sipush 256, 3) := dn_17 (ob_cX4_init_0 5 rfl rfl) (by decide +kernel)
theorem dX4_init_8 : decode cX4_init 8 = .ok (.newarray .int, 2) := by decide +kernel
theorem dX4_init_10 : decode cX4_init 10 = .ok (.putfield 7, 3) := dn_181 (ob_cX4_init_0 10 rfl rfl) rfl
theorem dX4_init_13 : decode cX4_init 13 = .ok (.aload_n 0, 1) := dn_42 (ob_cX4_init_0 13 rfl rfl)
theorem dX4_init_14 : decode cX4_init 14 = .ok (.iconst 3, 1) := dn_6 (ob_cX4_init_0 14 rfl rfl)
theorem dX4_init_15 : decode cX4_init 15 = .ok (.bipush 30, 2) := dn_16 (ob_cX4_init_0 15 rfl rfl) (by decide +kernel)
theorem dX4_init_17 : decode cX4_init 17 = .ok (.multianewarray 13 2, 4) := by decide +kernel
theorem dX4_init_21 : decode cX4_init 21 = .ok (.putfield 15, 3) := dn_181 (ob_cX4_init_0 21 rfl rfl) rfl
theorem dX4_init_24 : decode cX4_init 24 = .ok (.aload_n 0, 1) := dn_42 (ob_cX4_init_0 24 rfl rfl)
theorem dX4_init_25 : decode cX4_init 25 = .ok (.iconst 3, 1) := dn_6 (ob_cX4_init_0 25 rfl rfl)
theorem dX4_init_26 : decode cX4_init 26 = .ok (.newarray .int, 2) := by decide +kernel
theorem dX4_init_28 : decode cX4_init 28 = .ok (.putfield 18, 3) := dn_181 (ob_cX4_init_0 28 rfl rfl) rfl
theorem dX4_init_31 : decode cX4_init 31 = .ok (.aload_n 0, 1) := dn_42 (ob_cX4_init_0 31 rfl rfl)
theorem dX4_init_32 : decode cX4_init 32 = .ok (.invokevirtual 21, 3) := dn_182 (ob_cX4_init_0 32 rfl rfl) rfl
theorem dX4_init_35 : decode cX4_init 35 = .ok (.aload_n 0, 1) := dn_42 (ob_cX4_init_0 35 rfl rfl)
theorem dX4_init_36 : decode cX4_init 36 = .ok (.invokevirtual 24, 3) := dn_182 (ob_cX4_init_0 36 rfl rfl) rfl
theorem dX4_init_39 : decode cX4_init 39 = .ok (.aload_n 0, 1) := dn_42 (ob_cX4_init_0 39 rfl rfl)
theorem dX4_init_40 : decode cX4_init 40 = .ok (.invokevirtual 27, 3) := dn_182 (ob_cX4_init_1 0 rfl rfl) rfl
theorem dX4_init_43 : decode cX4_init 43 = .ok (.return_, 1) := dn_177 (ob_cX4_init_1 3 rfl rfl)
def kb_cX4_thrown : List UInt8 := [42, 180, 0, 30, 172]
set_option maxRecDepth 10000 in
theorem ob_cX4_thrown (r : Nat) {l : List UInt8} (h : kb_cX4_thrown.drop r = l) : (cX4_thrown).data.toList.drop r = l := by
  rw [show (cX4_thrown).data.toList = kb_cX4_thrown from eqL_eq (by decide +kernel)]
  exact h
theorem dX4_thrown_0 : decode cX4_thrown 0 = .ok (.aload_n 0, 1) := dn_42 (ob_cX4_thrown 0 rfl)
theorem dX4_thrown_1 : decode cX4_thrown 1 = .ok (.getfield 30, 3) := dn_180 (ob_cX4_thrown 1 rfl) rfl
theorem dX4_thrown_4 : decode cX4_thrown 4 = .ok (.ireturn, 1) := dn_172 (ob_cX4_thrown 4 rfl)
def kb_cX4_told : List UInt8 := [28, 54, 4, 21, 4, 29, 163, 0, 17, 42, 180, 0, 7, 21, 4, 27, 79, 132, 4, 1, 167, 255, 239, 177]
set_option maxRecDepth 10000 in
theorem ob_cX4_told (r : Nat) {l : List UInt8} (h : kb_cX4_told.drop r = l) : (cX4_told).data.toList.drop r = l := by
  rw [show (cX4_told).data.toList = kb_cX4_told from eqL_eq (by decide +kernel)]
  exact h
theorem dX4_told_0 : decode cX4_told 0 = .ok (.iload_n 2, 1) := dn_28 (ob_cX4_told 0 rfl)
theorem dX4_told_1 : decode cX4_told 1 = .ok (.istore 4, 2) := dn_54 (ob_cX4_told 1 rfl) rfl
theorem dX4_told_3 : decode cX4_told 3 = .ok (.iload 4, 2) := dn_21 (ob_cX4_told 3 rfl) rfl
theorem dX4_told_5 : decode cX4_told 5 = .ok (.iload_n 3, 1) := dn_29 (ob_cX4_told 5 rfl)
theorem dX4_told_6 : decode cX4_told 6 = .ok (.if_icmp .gt 17, 3) := dn_163 (ob_cX4_told 6 rfl) (by decide +kernel)
theorem dX4_told_9 : decode cX4_told 9 = .ok (.aload_n 0, 1) := dn_42 (ob_cX4_told 9 rfl)
theorem dX4_told_10 : decode cX4_told 10 = .ok (.getfield 7, 3) := dn_180 (ob_cX4_told 10 rfl) rfl
theorem dX4_told_13 : decode cX4_told 13 = .ok (.iload 4, 2) := dn_21 (ob_cX4_told 13 rfl) rfl
theorem dX4_told_15 : decode cX4_told 15 = .ok (.iload_n 1, 1) := dn_27 (ob_cX4_told 15 rfl)
theorem dX4_told_16 : decode cX4_told 16 = .ok (.iastore, 1) := dn_79 (ob_cX4_told 16 rfl)
theorem dX4_told_17 : decode cX4_told 17 = .ok (.iinc 4 1, 3) := dn_132 (ob_cX4_told 17 rfl) rfl (by decide +kernel)
theorem dX4_told_20 : decode cX4_told 20 = .ok (.goto (-17), 3) := dn_167 (ob_cX4_told 20 rfl) (by decide +kernel)
theorem dX4_told_23 : decode cX4_told 23 = .ok (.return_, 1) := dn_177 (ob_cX4_told 23 rfl)
def kb_cX4_letters_0 : List UInt8 := [42, 4, 16, 65, 16, 90, 182, 0, 34, 42, 4, 17, 0, 192, 17, 0, 214, 182, 0, 34, 42, 4, 17, 0, 216, 17, 0, 222, 182, 0, 34, 42, 5, 16, 97, 16, 122, 182, 0, 34]
def kb_cX4_letters_1 : List UInt8 := [42, 5, 17, 0, 181, 17, 0, 181, 182, 0, 34, 42, 5, 17, 0, 223, 17, 0, 246, 182, 0, 34, 42, 5, 17, 0, 248, 17, 0, 255, 182, 0, 34, 42, 8, 17, 0, 170, 17, 0, 170]
def kb_cX4_letters_2 : List UInt8 := [182, 0, 34, 42, 8, 17, 0, 186, 17, 0, 186, 182, 0, 34, 42, 16, 9, 16, 48, 16, 57, 182, 0, 34, 42, 16, 11, 17, 0, 178, 17, 0, 179, 182, 0, 34, 42, 16, 11, 17, 0, 185]
def kb_cX4_letters_3 : List UInt8 := [17, 0, 185, 182, 0, 34, 42, 16, 11, 17, 0, 188, 17, 0, 190, 182, 0, 34, 42, 16, 12, 16, 32, 16, 32, 182, 0, 34, 42, 16, 12, 17, 0, 160, 17, 0, 160, 182, 0, 34]
def kb_cX4_letters_4 : List UInt8 := [42, 16, 15, 3, 16, 31, 182, 0, 34, 42, 16, 15, 16, 127, 17, 0, 159, 182, 0, 34, 42, 16, 16, 17, 0, 173, 17, 0, 173, 182, 0, 34, 177]
def tb_cX4_letters_5 : List UInt8 := []
def tb_cX4_letters_4 : List UInt8 := kb_cX4_letters_4 ++ tb_cX4_letters_5
def tb_cX4_letters_3 : List UInt8 := kb_cX4_letters_3 ++ tb_cX4_letters_4
def tb_cX4_letters_2 : List UInt8 := kb_cX4_letters_2 ++ tb_cX4_letters_3
def tb_cX4_letters_1 : List UInt8 := kb_cX4_letters_1 ++ tb_cX4_letters_2
def tb_cX4_letters_0 : List UInt8 := kb_cX4_letters_0 ++ tb_cX4_letters_1
set_option maxRecDepth 100000 in
theorem tb_cX4_letters : (cX4_letters).data.toList = tb_cX4_letters_0 := eqL_eq (by decide +kernel)
theorem ow_cX4_letters_0 (r : Nat) : (cX4_letters).data.toList.drop (0 + r) = tb_cX4_letters_0.drop r := by rw [tb_cX4_letters, Nat.zero_add]
theorem ow_cX4_letters_1 (r : Nat) : (cX4_letters).data.toList.drop (40 + r) = tb_cX4_letters_1.drop r := by
  have e := ow_cX4_letters_0 (40 + r)
  rw [show 0 + (40 + r) = 40 + r by omega] at e
  exact e.trans (dr_len (a := kb_cX4_letters_0) (t := tb_cX4_letters_1) (by decide +kernel))
theorem ow_cX4_letters_2 (r : Nat) : (cX4_letters).data.toList.drop (81 + r) = tb_cX4_letters_2.drop r := by
  have e := ow_cX4_letters_1 (41 + r)
  rw [show 40 + (41 + r) = 81 + r by omega] at e
  exact e.trans (dr_len (a := kb_cX4_letters_1) (t := tb_cX4_letters_2) (by decide +kernel))
theorem ow_cX4_letters_3 (r : Nat) : (cX4_letters).data.toList.drop (123 + r) = tb_cX4_letters_3.drop r := by
  have e := ow_cX4_letters_2 (42 + r)
  rw [show 81 + (42 + r) = 123 + r by omega] at e
  exact e.trans (dr_len (a := kb_cX4_letters_2) (t := tb_cX4_letters_3) (by decide +kernel))
theorem ow_cX4_letters_4 (r : Nat) : (cX4_letters).data.toList.drop (163 + r) = tb_cX4_letters_4.drop r := by
  have e := ow_cX4_letters_3 (40 + r)
  rw [show 123 + (40 + r) = 163 + r by omega] at e
  exact e.trans (dr_len (a := kb_cX4_letters_3) (t := tb_cX4_letters_4) (by decide +kernel))
theorem ob_cX4_letters_0 (r : Nat) {pc : Nat} {l : List UInt8} (hp : 0 + r = pc) (h : tb_cX4_letters_0.drop r = l) : (cX4_letters).data.toList.drop pc = l := by
  subst hp
  exact (ow_cX4_letters_0 r).trans h
theorem ob_cX4_letters_1 (r : Nat) {pc : Nat} {l : List UInt8} (hp : 40 + r = pc) (h : tb_cX4_letters_1.drop r = l) : (cX4_letters).data.toList.drop pc = l := by
  subst hp
  exact (ow_cX4_letters_1 r).trans h
theorem ob_cX4_letters_2 (r : Nat) {pc : Nat} {l : List UInt8} (hp : 81 + r = pc) (h : tb_cX4_letters_2.drop r = l) : (cX4_letters).data.toList.drop pc = l := by
  subst hp
  exact (ow_cX4_letters_2 r).trans h
theorem ob_cX4_letters_3 (r : Nat) {pc : Nat} {l : List UInt8} (hp : 123 + r = pc) (h : tb_cX4_letters_3.drop r = l) : (cX4_letters).data.toList.drop pc = l := by
  subst hp
  exact (ow_cX4_letters_3 r).trans h
theorem ob_cX4_letters_4 (r : Nat) {pc : Nat} {l : List UInt8} (hp : 163 + r = pc) (h : tb_cX4_letters_4.drop r = l) : (cX4_letters).data.toList.drop pc = l := by
  subst hp
  exact (ow_cX4_letters_4 r).trans h
theorem dX4_letters_0 : decode cX4_letters 0 = .ok (.aload_n 0, 1) := dn_42 (ob_cX4_letters_0 0 rfl rfl)
theorem dX4_letters_1 : decode cX4_letters 1 = .ok (.iconst 1, 1) := dn_4 (ob_cX4_letters_0 1 rfl rfl)
theorem dX4_letters_2 : decode cX4_letters 2 = .ok (.bipush 65, 2) := dn_16 (ob_cX4_letters_0 2 rfl rfl) (by decide +kernel)
theorem dX4_letters_4 : decode cX4_letters 4 = .ok (.bipush 90, 2) := dn_16 (ob_cX4_letters_0 4 rfl rfl) (by decide +kernel)
theorem dX4_letters_6 : decode cX4_letters 6 = .ok (.invokevirtual 34, 3) := dn_182 (ob_cX4_letters_0 6 rfl rfl) rfl
theorem dX4_letters_9 : decode cX4_letters 9 = .ok (.aload_n 0, 1) := dn_42 (ob_cX4_letters_0 9 rfl rfl)
theorem dX4_letters_10 : decode cX4_letters 10 = .ok (.iconst 1, 1) := dn_4 (ob_cX4_letters_0 10 rfl rfl)
theorem dX4_letters_11 : decode cX4_letters 11 = .ok (.sipush 192, 3) := dn_17 (ob_cX4_letters_0 11 rfl rfl) (by decide +kernel)
theorem dX4_letters_14 : decode cX4_letters 14 = .ok (.sipush 214, 3) := dn_17 (ob_cX4_letters_0 14 rfl rfl) (by decide +kernel)
theorem dX4_letters_17 : decode cX4_letters 17 = .ok (.invokevirtual 34, 3) := dn_182 (ob_cX4_letters_0 17 rfl rfl) rfl
theorem dX4_letters_20 : decode cX4_letters 20 = .ok (.aload_n 0, 1) := dn_42 (ob_cX4_letters_0 20 rfl rfl)
theorem dX4_letters_21 : decode cX4_letters 21 = .ok (.iconst 1, 1) := dn_4 (ob_cX4_letters_0 21 rfl rfl)
theorem dX4_letters_22 : decode cX4_letters 22 = .ok (.sipush 216, 3) := dn_17 (ob_cX4_letters_0 22 rfl rfl) (by decide +kernel)
theorem dX4_letters_25 : decode cX4_letters 25 = .ok (.sipush 222, 3) := dn_17 (ob_cX4_letters_0 25 rfl rfl) (by decide +kernel)
theorem dX4_letters_28 : decode cX4_letters 28 = .ok (.invokevirtual 34, 3) := dn_182 (ob_cX4_letters_0 28 rfl rfl) rfl
theorem dX4_letters_31 : decode cX4_letters 31 = .ok (.aload_n 0, 1) := dn_42 (ob_cX4_letters_0 31 rfl rfl)
theorem dX4_letters_32 : decode cX4_letters 32 = .ok (.iconst 2, 1) := dn_5 (ob_cX4_letters_0 32 rfl rfl)
theorem dX4_letters_33 : decode cX4_letters 33 = .ok (.bipush 97, 2) := dn_16 (ob_cX4_letters_0 33 rfl rfl) (by decide +kernel)
theorem dX4_letters_35 : decode cX4_letters 35 = .ok (.bipush 122, 2) := dn_16 (ob_cX4_letters_0 35 rfl rfl) (by decide +kernel)
theorem dX4_letters_37 : decode cX4_letters 37 = .ok (.invokevirtual 34, 3) := dn_182 (ob_cX4_letters_0 37 rfl rfl) rfl
theorem dX4_letters_40 : decode cX4_letters 40 = .ok (.aload_n 0, 1) := dn_42 (ob_cX4_letters_1 0 rfl rfl)
theorem dX4_letters_41 : decode cX4_letters 41 = .ok (.iconst 2, 1) := dn_5 (ob_cX4_letters_1 1 rfl rfl)
theorem dX4_letters_42 : decode cX4_letters 42 = .ok (.sipush 181, 3) := dn_17 (ob_cX4_letters_1 2 rfl rfl) (by decide +kernel)
theorem dX4_letters_45 : decode cX4_letters 45 = .ok (.sipush 181, 3) := dn_17 (ob_cX4_letters_1 5 rfl rfl) (by decide +kernel)
theorem dX4_letters_48 : decode cX4_letters 48 = .ok (.invokevirtual 34, 3) := dn_182 (ob_cX4_letters_1 8 rfl rfl) rfl
theorem dX4_letters_51 : decode cX4_letters 51 = .ok (.aload_n 0, 1) := dn_42 (ob_cX4_letters_1 11 rfl rfl)
theorem dX4_letters_52 : decode cX4_letters 52 = .ok (.iconst 2, 1) := dn_5 (ob_cX4_letters_1 12 rfl rfl)
theorem dX4_letters_53 : decode cX4_letters 53 = .ok (.sipush 223, 3) := dn_17 (ob_cX4_letters_1 13 rfl rfl) (by decide +kernel)
theorem dX4_letters_56 : decode cX4_letters 56 = .ok (.sipush 246, 3) := dn_17 (ob_cX4_letters_1 16 rfl rfl) (by decide +kernel)
theorem dX4_letters_59 : decode cX4_letters 59 = .ok (.invokevirtual 34, 3) := dn_182 (ob_cX4_letters_1 19 rfl rfl) rfl
theorem dX4_letters_62 : decode cX4_letters 62 = .ok (.aload_n 0, 1) := dn_42 (ob_cX4_letters_1 22 rfl rfl)
theorem dX4_letters_63 : decode cX4_letters 63 = .ok (.iconst 2, 1) := dn_5 (ob_cX4_letters_1 23 rfl rfl)
theorem dX4_letters_64 : decode cX4_letters 64 = .ok (.sipush 248, 3) := dn_17 (ob_cX4_letters_1 24 rfl rfl) (by decide +kernel)
theorem dX4_letters_67 : decode cX4_letters 67 = .ok (.sipush 255, 3) := dn_17 (ob_cX4_letters_1 27 rfl rfl) (by decide +kernel)
theorem dX4_letters_70 : decode cX4_letters 70 = .ok (.invokevirtual 34, 3) := dn_182 (ob_cX4_letters_1 30 rfl rfl) rfl
theorem dX4_letters_73 : decode cX4_letters 73 = .ok (.aload_n 0, 1) := dn_42 (ob_cX4_letters_1 33 rfl rfl)
theorem dX4_letters_74 : decode cX4_letters 74 = .ok (.iconst 5, 1) := dn_8 (ob_cX4_letters_1 34 rfl rfl)
theorem dX4_letters_75 : decode cX4_letters 75 = .ok (.sipush 170, 3) := dn_17 (ob_cX4_letters_1 35 rfl rfl) (by decide +kernel)
theorem dX4_letters_78 : decode cX4_letters 78 = .ok (.sipush 170, 3) := dn_17 (ob_cX4_letters_1 38 rfl rfl) (by decide +kernel)
theorem dX4_letters_81 : decode cX4_letters 81 = .ok (.invokevirtual 34, 3) := dn_182 (ob_cX4_letters_2 0 rfl rfl) rfl
theorem dX4_letters_84 : decode cX4_letters 84 = .ok (.aload_n 0, 1) := dn_42 (ob_cX4_letters_2 3 rfl rfl)
theorem dX4_letters_85 : decode cX4_letters 85 = .ok (.iconst 5, 1) := dn_8 (ob_cX4_letters_2 4 rfl rfl)
theorem dX4_letters_86 : decode cX4_letters 86 = .ok (.sipush 186, 3) := dn_17 (ob_cX4_letters_2 5 rfl rfl) (by decide +kernel)
theorem dX4_letters_89 : decode cX4_letters 89 = .ok (.sipush 186, 3) := dn_17 (ob_cX4_letters_2 8 rfl rfl) (by decide +kernel)
theorem dX4_letters_92 : decode cX4_letters 92 = .ok (.invokevirtual 34, 3) := dn_182 (ob_cX4_letters_2 11 rfl rfl) rfl
theorem dX4_letters_95 : decode cX4_letters 95 = .ok (.aload_n 0, 1) := dn_42 (ob_cX4_letters_2 14 rfl rfl)
theorem dX4_letters_96 : decode cX4_letters 96 = .ok (.bipush 9, 2) := dn_16 (ob_cX4_letters_2 15 rfl rfl) (by decide +kernel)
theorem dX4_letters_98 : decode cX4_letters 98 = .ok (.bipush 48, 2) := dn_16 (ob_cX4_letters_2 17 rfl rfl) (by decide +kernel)
theorem dX4_letters_100 : decode cX4_letters 100 = .ok (.bipush 57, 2) := dn_16 (ob_cX4_letters_2 19 rfl rfl) (by decide +kernel)
theorem dX4_letters_102 : decode cX4_letters 102 = .ok (.invokevirtual 34, 3) := dn_182 (ob_cX4_letters_2 21 rfl rfl) rfl
theorem dX4_letters_105 : decode cX4_letters 105 = .ok (.aload_n 0, 1) := dn_42 (ob_cX4_letters_2 24 rfl rfl)
theorem dX4_letters_106 : decode cX4_letters 106 = .ok (.bipush 11, 2) := dn_16 (ob_cX4_letters_2 25 rfl rfl) (by decide +kernel)
theorem dX4_letters_108 : decode cX4_letters 108 = .ok (.sipush 178, 3) := dn_17 (ob_cX4_letters_2 27 rfl rfl) (by decide +kernel)
theorem dX4_letters_111 : decode cX4_letters 111 = .ok (.sipush 179, 3) := dn_17 (ob_cX4_letters_2 30 rfl rfl) (by decide +kernel)
theorem dX4_letters_114 : decode cX4_letters 114 = .ok (.invokevirtual 34, 3) := dn_182 (ob_cX4_letters_2 33 rfl rfl) rfl
theorem dX4_letters_117 : decode cX4_letters 117 = .ok (.aload_n 0, 1) := dn_42 (ob_cX4_letters_2 36 rfl rfl)
theorem dX4_letters_118 : decode cX4_letters 118 = .ok (.bipush 11, 2) := dn_16 (ob_cX4_letters_2 37 rfl rfl) (by decide +kernel)
theorem dX4_letters_120 : decode cX4_letters 120 = .ok (.sipush 185, 3) := dn_17 (ob_cX4_letters_2 39 rfl rfl) (by decide +kernel)
theorem dX4_letters_123 : decode cX4_letters 123 = .ok (.sipush 185, 3) := dn_17 (ob_cX4_letters_3 0 rfl rfl) (by decide +kernel)
theorem dX4_letters_126 : decode cX4_letters 126 = .ok (.invokevirtual 34, 3) := dn_182 (ob_cX4_letters_3 3 rfl rfl) rfl
theorem dX4_letters_129 : decode cX4_letters 129 = .ok (.aload_n 0, 1) := dn_42 (ob_cX4_letters_3 6 rfl rfl)
theorem dX4_letters_130 : decode cX4_letters 130 = .ok (.bipush 11, 2) := dn_16 (ob_cX4_letters_3 7 rfl rfl) (by decide +kernel)
theorem dX4_letters_132 : decode cX4_letters 132 = .ok (.sipush 188, 3) := dn_17 (ob_cX4_letters_3 9 rfl rfl) (by decide +kernel)
theorem dX4_letters_135 : decode cX4_letters 135 = .ok (.sipush 190, 3) := dn_17 (ob_cX4_letters_3 12 rfl rfl) (by decide +kernel)
theorem dX4_letters_138 : decode cX4_letters 138 = .ok (.invokevirtual 34, 3) := dn_182 (ob_cX4_letters_3 15 rfl rfl) rfl
theorem dX4_letters_141 : decode cX4_letters 141 = .ok (.aload_n 0, 1) := dn_42 (ob_cX4_letters_3 18 rfl rfl)
theorem dX4_letters_142 : decode cX4_letters 142 = .ok (.bipush 12, 2) := dn_16 (ob_cX4_letters_3 19 rfl rfl) (by decide +kernel)
theorem dX4_letters_144 : decode cX4_letters 144 = .ok (.bipush 32, 2) := dn_16 (ob_cX4_letters_3 21 rfl rfl) (by decide +kernel)
theorem dX4_letters_146 : decode cX4_letters 146 = .ok (.bipush 32, 2) := dn_16 (ob_cX4_letters_3 23 rfl rfl) (by decide +kernel)
theorem dX4_letters_148 : decode cX4_letters 148 = .ok (.invokevirtual 34, 3) := dn_182 (ob_cX4_letters_3 25 rfl rfl) rfl
theorem dX4_letters_151 : decode cX4_letters 151 = .ok (.aload_n 0, 1) := dn_42 (ob_cX4_letters_3 28 rfl rfl)
theorem dX4_letters_152 : decode cX4_letters 152 = .ok (.bipush 12, 2) := dn_16 (ob_cX4_letters_3 29 rfl rfl) (by decide +kernel)
theorem dX4_letters_154 : decode cX4_letters 154 = .ok (.sipush 160, 3) := dn_17 (ob_cX4_letters_3 31 rfl rfl) (by decide +kernel)
theorem dX4_letters_157 : decode cX4_letters 157 = .ok (.sipush 160, 3) := dn_17 (ob_cX4_letters_3 34 rfl rfl) (by decide +kernel)
theorem dX4_letters_160 : decode cX4_letters 160 = .ok (.invokevirtual 34, 3) := dn_182 (ob_cX4_letters_3 37 rfl rfl) rfl
theorem dX4_letters_163 : decode cX4_letters 163 = .ok (.aload_n 0, 1) := dn_42 (ob_cX4_letters_4 0 rfl rfl)
theorem dX4_letters_164 : decode cX4_letters 164 = .ok (.bipush 15, 2) := dn_16 (ob_cX4_letters_4 1 rfl rfl) (by decide +kernel)
theorem dX4_letters_166 : decode cX4_letters 166 = .ok (.iconst 0, 1) := dn_3 (ob_cX4_letters_4 3 rfl rfl)
theorem dX4_letters_167 : decode cX4_letters 167 = .ok (.bipush 31, 2) := dn_16 (ob_cX4_letters_4 4 rfl rfl) (by decide +kernel)
theorem dX4_letters_169 : decode cX4_letters 169 = .ok (.invokevirtual 34, 3) := dn_182 (ob_cX4_letters_4 6 rfl rfl) rfl
theorem dX4_letters_172 : decode cX4_letters 172 = .ok (.aload_n 0, 1) := dn_42 (ob_cX4_letters_4 9 rfl rfl)
theorem dX4_letters_173 : decode cX4_letters 173 = .ok (.bipush 15, 2) := dn_16 (ob_cX4_letters_4 10 rfl rfl) (by decide +kernel)
theorem dX4_letters_175 : decode cX4_letters 175 = .ok (.bipush 127, 2) := dn_16 (ob_cX4_letters_4 12 rfl rfl) (by decide +kernel)
theorem dX4_letters_177 : decode cX4_letters 177 = .ok (.sipush 159, 3) := dn_17 (ob_cX4_letters_4 14 rfl rfl) (by decide +kernel)
theorem dX4_letters_180 : decode cX4_letters 180 = .ok (.invokevirtual 34, 3) := dn_182 (ob_cX4_letters_4 17 rfl rfl) rfl
theorem dX4_letters_183 : decode cX4_letters 183 = .ok (.aload_n 0, 1) := dn_42 (ob_cX4_letters_4 20 rfl rfl)
theorem dX4_letters_184 : decode cX4_letters 184 = .ok (.bipush 16, 2) := dn_16 (ob_cX4_letters_4 21 rfl rfl) (by decide +kernel)
theorem dX4_letters_186 : decode cX4_letters 186 = .ok (.sipush 173, 3) := dn_17 (ob_cX4_letters_4 23 rfl rfl) (by decide +kernel)
theorem dX4_letters_189 : decode cX4_letters 189 = .ok (.sipush 173, 3) := dn_17 (ob_cX4_letters_4 26 rfl rfl) (by decide +kernel)
theorem dX4_letters_192 : decode cX4_letters 192 = .ok (.invokevirtual 34, 3) := dn_182 (ob_cX4_letters_4 29 rfl rfl) rfl
theorem dX4_letters_195 : decode cX4_letters 195 = .ok (.return_, 1) := dn_177 (ob_cX4_letters_4 32 rfl rfl)
def kb_cX4_points_0 : List UInt8 := [42, 16, 20, 16, 45, 16, 45, 182, 0, 34, 6, 188, 10, 89, 3, 16, 40, 79, 89, 4, 16, 91, 79, 89, 5, 16, 123, 79, 76, 6, 188, 10, 89, 3, 16, 41, 79, 89, 4, 16, 93]
def kb_cX4_points_1 : List UInt8 := [79, 89, 5, 16, 125, 79, 77, 43, 78, 45, 190, 54, 4, 3, 54, 5, 21, 5, 21, 4, 162, 0, 25, 45, 21, 5, 46, 54, 6, 42, 16, 21, 21, 6, 21, 6, 182, 0, 34, 132, 5, 1]
def kb_cX4_points_2 : List UInt8 := [167, 255, 230, 44, 78, 45, 190, 54, 4, 3, 54, 5, 21, 5, 21, 4, 162, 0, 25, 45, 21, 5, 46, 54, 6, 42, 16, 22, 21, 6, 21, 6, 182, 0, 34, 132, 5, 1, 167, 255, 230]
def kb_cX4_points_3 : List UInt8 := [42, 16, 23, 16, 95, 16, 95, 182, 0, 34, 16, 20, 188, 10, 89, 3, 16, 33, 79, 89, 4, 16, 34, 79, 89, 5, 16, 35, 79, 89, 6, 16, 37, 79, 89, 7, 16, 38, 79, 89]
def kb_cX4_points_4 : List UInt8 := [8, 16, 39, 79, 89, 16, 6, 16, 42, 79, 89, 16, 7, 16, 44, 79, 89, 16, 8, 16, 46, 79, 89, 16, 9, 16, 47, 79, 89, 16, 10, 16, 58, 79, 89, 16, 11, 16, 59, 79]
def kb_cX4_points_5 : List UInt8 := [89, 16, 12, 16, 63, 79, 89, 16, 13, 16, 64, 79, 89, 16, 14, 16, 92, 79, 89, 16, 15, 17, 0, 161, 79, 89, 16, 16, 17, 0, 167, 79, 89, 16, 17, 17, 0, 182, 79, 89]
def kb_cX4_points_6 : List UInt8 := [16, 18, 17, 0, 183, 79, 89, 16, 19, 17, 0, 191, 79, 78, 45, 58, 4, 25, 4, 190, 54, 5, 3, 54, 6, 21, 6, 21, 5, 162, 0, 26, 25, 4, 21, 6, 46, 54, 7, 42]
def kb_cX4_points_7 : List UInt8 := [16, 24, 21, 7, 21, 7, 182, 0, 34, 132, 6, 1, 167, 255, 229, 177]
def tb_cX4_points_8 : List UInt8 := []
def tb_cX4_points_7 : List UInt8 := kb_cX4_points_7 ++ tb_cX4_points_8
def tb_cX4_points_6 : List UInt8 := kb_cX4_points_6 ++ tb_cX4_points_7
def tb_cX4_points_5 : List UInt8 := kb_cX4_points_5 ++ tb_cX4_points_6
def tb_cX4_points_4 : List UInt8 := kb_cX4_points_4 ++ tb_cX4_points_5
def tb_cX4_points_3 : List UInt8 := kb_cX4_points_3 ++ tb_cX4_points_4
def tb_cX4_points_2 : List UInt8 := kb_cX4_points_2 ++ tb_cX4_points_3
def tb_cX4_points_1 : List UInt8 := kb_cX4_points_1 ++ tb_cX4_points_2
def tb_cX4_points_0 : List UInt8 := kb_cX4_points_0 ++ tb_cX4_points_1
set_option maxRecDepth 100000 in
theorem tb_cX4_points : (cX4_points).data.toList = tb_cX4_points_0 := eqL_eq (by decide +kernel)
theorem ow_cX4_points_0 (r : Nat) : (cX4_points).data.toList.drop (0 + r) = tb_cX4_points_0.drop r := by rw [tb_cX4_points, Nat.zero_add]
theorem ow_cX4_points_1 (r : Nat) : (cX4_points).data.toList.drop (41 + r) = tb_cX4_points_1.drop r := by
  have e := ow_cX4_points_0 (41 + r)
  rw [show 0 + (41 + r) = 41 + r by omega] at e
  exact e.trans (dr_len (a := kb_cX4_points_0) (t := tb_cX4_points_1) (by decide +kernel))
theorem ow_cX4_points_2 (r : Nat) : (cX4_points).data.toList.drop (83 + r) = tb_cX4_points_2.drop r := by
  have e := ow_cX4_points_1 (42 + r)
  rw [show 41 + (42 + r) = 83 + r by omega] at e
  exact e.trans (dr_len (a := kb_cX4_points_1) (t := tb_cX4_points_2) (by decide +kernel))
theorem ow_cX4_points_3 (r : Nat) : (cX4_points).data.toList.drop (124 + r) = tb_cX4_points_3.drop r := by
  have e := ow_cX4_points_2 (41 + r)
  rw [show 83 + (41 + r) = 124 + r by omega] at e
  exact e.trans (dr_len (a := kb_cX4_points_2) (t := tb_cX4_points_3) (by decide +kernel))
theorem ow_cX4_points_4 (r : Nat) : (cX4_points).data.toList.drop (164 + r) = tb_cX4_points_4.drop r := by
  have e := ow_cX4_points_3 (40 + r)
  rw [show 124 + (40 + r) = 164 + r by omega] at e
  exact e.trans (dr_len (a := kb_cX4_points_3) (t := tb_cX4_points_4) (by decide +kernel))
theorem ow_cX4_points_5 (r : Nat) : (cX4_points).data.toList.drop (204 + r) = tb_cX4_points_5.drop r := by
  have e := ow_cX4_points_4 (40 + r)
  rw [show 164 + (40 + r) = 204 + r by omega] at e
  exact e.trans (dr_len (a := kb_cX4_points_4) (t := tb_cX4_points_5) (by decide +kernel))
theorem ow_cX4_points_6 (r : Nat) : (cX4_points).data.toList.drop (244 + r) = tb_cX4_points_6.drop r := by
  have e := ow_cX4_points_5 (40 + r)
  rw [show 204 + (40 + r) = 244 + r by omega] at e
  exact e.trans (dr_len (a := kb_cX4_points_5) (t := tb_cX4_points_6) (by decide +kernel))
theorem ow_cX4_points_7 (r : Nat) : (cX4_points).data.toList.drop (284 + r) = tb_cX4_points_7.drop r := by
  have e := ow_cX4_points_6 (40 + r)
  rw [show 244 + (40 + r) = 284 + r by omega] at e
  exact e.trans (dr_len (a := kb_cX4_points_6) (t := tb_cX4_points_7) (by decide +kernel))
theorem ob_cX4_points_0 (r : Nat) {pc : Nat} {l : List UInt8} (hp : 0 + r = pc) (h : tb_cX4_points_0.drop r = l) : (cX4_points).data.toList.drop pc = l := by
  subst hp
  exact (ow_cX4_points_0 r).trans h
theorem ob_cX4_points_1 (r : Nat) {pc : Nat} {l : List UInt8} (hp : 41 + r = pc) (h : tb_cX4_points_1.drop r = l) : (cX4_points).data.toList.drop pc = l := by
  subst hp
  exact (ow_cX4_points_1 r).trans h
theorem ob_cX4_points_2 (r : Nat) {pc : Nat} {l : List UInt8} (hp : 83 + r = pc) (h : tb_cX4_points_2.drop r = l) : (cX4_points).data.toList.drop pc = l := by
  subst hp
  exact (ow_cX4_points_2 r).trans h
theorem ob_cX4_points_3 (r : Nat) {pc : Nat} {l : List UInt8} (hp : 124 + r = pc) (h : tb_cX4_points_3.drop r = l) : (cX4_points).data.toList.drop pc = l := by
  subst hp
  exact (ow_cX4_points_3 r).trans h
theorem ob_cX4_points_4 (r : Nat) {pc : Nat} {l : List UInt8} (hp : 164 + r = pc) (h : tb_cX4_points_4.drop r = l) : (cX4_points).data.toList.drop pc = l := by
  subst hp
  exact (ow_cX4_points_4 r).trans h
theorem ob_cX4_points_5 (r : Nat) {pc : Nat} {l : List UInt8} (hp : 204 + r = pc) (h : tb_cX4_points_5.drop r = l) : (cX4_points).data.toList.drop pc = l := by
  subst hp
  exact (ow_cX4_points_5 r).trans h
theorem ob_cX4_points_6 (r : Nat) {pc : Nat} {l : List UInt8} (hp : 244 + r = pc) (h : tb_cX4_points_6.drop r = l) : (cX4_points).data.toList.drop pc = l := by
  subst hp
  exact (ow_cX4_points_6 r).trans h
theorem ob_cX4_points_7 (r : Nat) {pc : Nat} {l : List UInt8} (hp : 284 + r = pc) (h : tb_cX4_points_7.drop r = l) : (cX4_points).data.toList.drop pc = l := by
  subst hp
  exact (ow_cX4_points_7 r).trans h
theorem dX4_points_0 : decode cX4_points 0 = .ok (.aload_n 0, 1) := dn_42 (ob_cX4_points_0 0 rfl rfl)
theorem dX4_points_1 : decode cX4_points 1 = .ok (.bipush 20, 2) := dn_16 (ob_cX4_points_0 1 rfl rfl) (by decide +kernel)
theorem dX4_points_3 : decode cX4_points 3 = .ok (.bipush 45, 2) := dn_16 (ob_cX4_points_0 3 rfl rfl) (by decide +kernel)
theorem dX4_points_5 : decode cX4_points 5 = .ok (.bipush 45, 2) := dn_16 (ob_cX4_points_0 5 rfl rfl) (by decide +kernel)
theorem dX4_points_7 : decode cX4_points 7 = .ok (.invokevirtual 34, 3) := dn_182 (ob_cX4_points_0 7 rfl rfl) rfl
theorem dX4_points_10 : decode cX4_points 10 = .ok (.iconst 3, 1) := dn_6 (ob_cX4_points_0 10 rfl rfl)
theorem dX4_points_11 : decode cX4_points 11 = .ok (.newarray .int, 2) := by decide +kernel
theorem dX4_points_13 : decode cX4_points 13 = .ok (.dup, 1) := dn_89 (ob_cX4_points_0 13 rfl rfl)
theorem dX4_points_14 : decode cX4_points 14 = .ok (.iconst 0, 1) := dn_3 (ob_cX4_points_0 14 rfl rfl)
theorem dX4_points_15 : decode cX4_points 15 = .ok (.bipush 40, 2) := dn_16 (ob_cX4_points_0 15 rfl rfl) (by decide +kernel)
theorem dX4_points_17 : decode cX4_points 17 = .ok (.iastore, 1) := dn_79 (ob_cX4_points_0 17 rfl rfl)
theorem dX4_points_18 : decode cX4_points 18 = .ok (.dup, 1) := dn_89 (ob_cX4_points_0 18 rfl rfl)
theorem dX4_points_19 : decode cX4_points 19 = .ok (.iconst 1, 1) := dn_4 (ob_cX4_points_0 19 rfl rfl)
theorem dX4_points_20 : decode cX4_points 20 = .ok (.bipush 91, 2) := dn_16 (ob_cX4_points_0 20 rfl rfl) (by decide +kernel)
theorem dX4_points_22 : decode cX4_points 22 = .ok (.iastore, 1) := dn_79 (ob_cX4_points_0 22 rfl rfl)
theorem dX4_points_23 : decode cX4_points 23 = .ok (.dup, 1) := dn_89 (ob_cX4_points_0 23 rfl rfl)
theorem dX4_points_24 : decode cX4_points 24 = .ok (.iconst 2, 1) := dn_5 (ob_cX4_points_0 24 rfl rfl)
theorem dX4_points_25 : decode cX4_points 25 = .ok (.bipush 123, 2) := dn_16 (ob_cX4_points_0 25 rfl rfl) (by decide +kernel)
theorem dX4_points_27 : decode cX4_points 27 = .ok (.iastore, 1) := dn_79 (ob_cX4_points_0 27 rfl rfl)
theorem dX4_points_28 : decode cX4_points 28 = .ok (.astore_n 1, 1) := dn_76 (ob_cX4_points_0 28 rfl rfl)
theorem dX4_points_29 : decode cX4_points 29 = .ok (.iconst 3, 1) := dn_6 (ob_cX4_points_0 29 rfl rfl)
theorem dX4_points_30 : decode cX4_points 30 = .ok (.newarray .int, 2) := by decide +kernel
theorem dX4_points_32 : decode cX4_points 32 = .ok (.dup, 1) := dn_89 (ob_cX4_points_0 32 rfl rfl)
theorem dX4_points_33 : decode cX4_points 33 = .ok (.iconst 0, 1) := dn_3 (ob_cX4_points_0 33 rfl rfl)
theorem dX4_points_34 : decode cX4_points 34 = .ok (.bipush 41, 2) := dn_16 (ob_cX4_points_0 34 rfl rfl) (by decide +kernel)
theorem dX4_points_36 : decode cX4_points 36 = .ok (.iastore, 1) := dn_79 (ob_cX4_points_0 36 rfl rfl)
theorem dX4_points_37 : decode cX4_points 37 = .ok (.dup, 1) := dn_89 (ob_cX4_points_0 37 rfl rfl)
theorem dX4_points_38 : decode cX4_points 38 = .ok (.iconst 1, 1) := dn_4 (ob_cX4_points_0 38 rfl rfl)
theorem dX4_points_39 : decode cX4_points 39 = .ok (.bipush 93, 2) := dn_16 (ob_cX4_points_0 39 rfl rfl) (by decide +kernel)
theorem dX4_points_41 : decode cX4_points 41 = .ok (.iastore, 1) := dn_79 (ob_cX4_points_1 0 rfl rfl)
theorem dX4_points_42 : decode cX4_points 42 = .ok (.dup, 1) := dn_89 (ob_cX4_points_1 1 rfl rfl)
theorem dX4_points_43 : decode cX4_points 43 = .ok (.iconst 2, 1) := dn_5 (ob_cX4_points_1 2 rfl rfl)
theorem dX4_points_44 : decode cX4_points 44 = .ok (.bipush 125, 2) := dn_16 (ob_cX4_points_1 3 rfl rfl) (by decide +kernel)
theorem dX4_points_46 : decode cX4_points 46 = .ok (.iastore, 1) := dn_79 (ob_cX4_points_1 5 rfl rfl)
theorem dX4_points_47 : decode cX4_points 47 = .ok (.astore_n 2, 1) := dn_77 (ob_cX4_points_1 6 rfl rfl)
theorem dX4_points_48 : decode cX4_points 48 = .ok (.aload_n 1, 1) := dn_43 (ob_cX4_points_1 7 rfl rfl)
theorem dX4_points_49 : decode cX4_points 49 = .ok (.astore_n 3, 1) := dn_78 (ob_cX4_points_1 8 rfl rfl)
theorem dX4_points_50 : decode cX4_points 50 = .ok (.aload_n 3, 1) := dn_45 (ob_cX4_points_1 9 rfl rfl)
theorem dX4_points_51 : decode cX4_points 51 = .ok (.arraylength, 1) := dn_190 (ob_cX4_points_1 10 rfl rfl)
theorem dX4_points_52 : decode cX4_points 52 = .ok (.istore 4, 2) := dn_54 (ob_cX4_points_1 11 rfl rfl) rfl
theorem dX4_points_54 : decode cX4_points 54 = .ok (.iconst 0, 1) := dn_3 (ob_cX4_points_1 13 rfl rfl)
theorem dX4_points_55 : decode cX4_points 55 = .ok (.istore 5, 2) := dn_54 (ob_cX4_points_1 14 rfl rfl) rfl
theorem dX4_points_57 : decode cX4_points 57 = .ok (.iload 5, 2) := dn_21 (ob_cX4_points_1 16 rfl rfl) rfl
theorem dX4_points_59 : decode cX4_points 59 = .ok (.iload 4, 2) := dn_21 (ob_cX4_points_1 18 rfl rfl) rfl
theorem dX4_points_61 : decode cX4_points 61 = .ok (.if_icmp .ge 25, 3) := dn_162 (ob_cX4_points_1 20 rfl rfl) (by decide +kernel)
theorem dX4_points_64 : decode cX4_points 64 = .ok (.aload_n 3, 1) := dn_45 (ob_cX4_points_1 23 rfl rfl)
theorem dX4_points_65 : decode cX4_points 65 = .ok (.iload 5, 2) := dn_21 (ob_cX4_points_1 24 rfl rfl) rfl
theorem dX4_points_67 : decode cX4_points 67 = .ok (.iaload, 1) := dn_46 (ob_cX4_points_1 26 rfl rfl)
theorem dX4_points_68 : decode cX4_points 68 = .ok (.istore 6, 2) := dn_54 (ob_cX4_points_1 27 rfl rfl) rfl
theorem dX4_points_70 : decode cX4_points 70 = .ok (.aload_n 0, 1) := dn_42 (ob_cX4_points_1 29 rfl rfl)
theorem dX4_points_71 : decode cX4_points 71 = .ok (.bipush 21, 2) := dn_16 (ob_cX4_points_1 30 rfl rfl) (by decide +kernel)
theorem dX4_points_73 : decode cX4_points 73 = .ok (.iload 6, 2) := dn_21 (ob_cX4_points_1 32 rfl rfl) rfl
theorem dX4_points_75 : decode cX4_points 75 = .ok (.iload 6, 2) := dn_21 (ob_cX4_points_1 34 rfl rfl) rfl
theorem dX4_points_77 : decode cX4_points 77 = .ok (.invokevirtual 34, 3) := dn_182 (ob_cX4_points_1 36 rfl rfl) rfl
theorem dX4_points_80 : decode cX4_points 80 = .ok (.iinc 5 1, 3) := dn_132 (ob_cX4_points_1 39 rfl rfl) rfl (by decide +kernel)
theorem dX4_points_83 : decode cX4_points 83 = .ok (.goto (-26), 3) := dn_167 (ob_cX4_points_2 0 rfl rfl) (by decide +kernel)
theorem dX4_points_86 : decode cX4_points 86 = .ok (.aload_n 2, 1) := dn_44 (ob_cX4_points_2 3 rfl rfl)
theorem dX4_points_87 : decode cX4_points 87 = .ok (.astore_n 3, 1) := dn_78 (ob_cX4_points_2 4 rfl rfl)
theorem dX4_points_88 : decode cX4_points 88 = .ok (.aload_n 3, 1) := dn_45 (ob_cX4_points_2 5 rfl rfl)
theorem dX4_points_89 : decode cX4_points 89 = .ok (.arraylength, 1) := dn_190 (ob_cX4_points_2 6 rfl rfl)
theorem dX4_points_90 : decode cX4_points 90 = .ok (.istore 4, 2) := dn_54 (ob_cX4_points_2 7 rfl rfl) rfl
theorem dX4_points_92 : decode cX4_points 92 = .ok (.iconst 0, 1) := dn_3 (ob_cX4_points_2 9 rfl rfl)
theorem dX4_points_93 : decode cX4_points 93 = .ok (.istore 5, 2) := dn_54 (ob_cX4_points_2 10 rfl rfl) rfl
theorem dX4_points_95 : decode cX4_points 95 = .ok (.iload 5, 2) := dn_21 (ob_cX4_points_2 12 rfl rfl) rfl
theorem dX4_points_97 : decode cX4_points 97 = .ok (.iload 4, 2) := dn_21 (ob_cX4_points_2 14 rfl rfl) rfl
theorem dX4_points_99 : decode cX4_points 99 = .ok (.if_icmp .ge 25, 3) := dn_162 (ob_cX4_points_2 16 rfl rfl) (by decide +kernel)
theorem dX4_points_102 : decode cX4_points 102 = .ok (.aload_n 3, 1) := dn_45 (ob_cX4_points_2 19 rfl rfl)
theorem dX4_points_103 : decode cX4_points 103 = .ok (.iload 5, 2) := dn_21 (ob_cX4_points_2 20 rfl rfl) rfl
theorem dX4_points_105 : decode cX4_points 105 = .ok (.iaload, 1) := dn_46 (ob_cX4_points_2 22 rfl rfl)
theorem dX4_points_106 : decode cX4_points 106 = .ok (.istore 6, 2) := dn_54 (ob_cX4_points_2 23 rfl rfl) rfl
theorem dX4_points_108 : decode cX4_points 108 = .ok (.aload_n 0, 1) := dn_42 (ob_cX4_points_2 25 rfl rfl)
theorem dX4_points_109 : decode cX4_points 109 = .ok (.bipush 22, 2) := dn_16 (ob_cX4_points_2 26 rfl rfl) (by decide +kernel)
theorem dX4_points_111 : decode cX4_points 111 = .ok (.iload 6, 2) := dn_21 (ob_cX4_points_2 28 rfl rfl) rfl
theorem dX4_points_113 : decode cX4_points 113 = .ok (.iload 6, 2) := dn_21 (ob_cX4_points_2 30 rfl rfl) rfl
theorem dX4_points_115 : decode cX4_points 115 = .ok (.invokevirtual 34, 3) := dn_182 (ob_cX4_points_2 32 rfl rfl) rfl
theorem dX4_points_118 : decode cX4_points 118 = .ok (.iinc 5 1, 3) := dn_132 (ob_cX4_points_2 35 rfl rfl) rfl (by decide +kernel)
theorem dX4_points_121 : decode cX4_points 121 = .ok (.goto (-26), 3) := dn_167 (ob_cX4_points_2 38 rfl rfl) (by decide +kernel)
theorem dX4_points_124 : decode cX4_points 124 = .ok (.aload_n 0, 1) := dn_42 (ob_cX4_points_3 0 rfl rfl)
theorem dX4_points_125 : decode cX4_points 125 = .ok (.bipush 23, 2) := dn_16 (ob_cX4_points_3 1 rfl rfl) (by decide +kernel)
theorem dX4_points_127 : decode cX4_points 127 = .ok (.bipush 95, 2) := dn_16 (ob_cX4_points_3 3 rfl rfl) (by decide +kernel)
theorem dX4_points_129 : decode cX4_points 129 = .ok (.bipush 95, 2) := dn_16 (ob_cX4_points_3 5 rfl rfl) (by decide +kernel)
theorem dX4_points_131 : decode cX4_points 131 = .ok (.invokevirtual 34, 3) := dn_182 (ob_cX4_points_3 7 rfl rfl) rfl
theorem dX4_points_134 : decode cX4_points 134 = .ok (.bipush 20, 2) := dn_16 (ob_cX4_points_3 10 rfl rfl) (by decide +kernel)
theorem dX4_points_136 : decode cX4_points 136 = .ok (.newarray .int, 2) := by decide +kernel
theorem dX4_points_138 : decode cX4_points 138 = .ok (.dup, 1) := dn_89 (ob_cX4_points_3 14 rfl rfl)
theorem dX4_points_139 : decode cX4_points 139 = .ok (.iconst 0, 1) := dn_3 (ob_cX4_points_3 15 rfl rfl)
theorem dX4_points_140 : decode cX4_points 140 = .ok (.bipush 33, 2) := dn_16 (ob_cX4_points_3 16 rfl rfl) (by decide +kernel)
theorem dX4_points_142 : decode cX4_points 142 = .ok (.iastore, 1) := dn_79 (ob_cX4_points_3 18 rfl rfl)
theorem dX4_points_143 : decode cX4_points 143 = .ok (.dup, 1) := dn_89 (ob_cX4_points_3 19 rfl rfl)
theorem dX4_points_144 : decode cX4_points 144 = .ok (.iconst 1, 1) := dn_4 (ob_cX4_points_3 20 rfl rfl)
theorem dX4_points_145 : decode cX4_points 145 = .ok (.bipush 34, 2) := dn_16 (ob_cX4_points_3 21 rfl rfl) (by decide +kernel)
theorem dX4_points_147 : decode cX4_points 147 = .ok (.iastore, 1) := dn_79 (ob_cX4_points_3 23 rfl rfl)
theorem dX4_points_148 : decode cX4_points 148 = .ok (.dup, 1) := dn_89 (ob_cX4_points_3 24 rfl rfl)
theorem dX4_points_149 : decode cX4_points 149 = .ok (.iconst 2, 1) := dn_5 (ob_cX4_points_3 25 rfl rfl)
theorem dX4_points_150 : decode cX4_points 150 = .ok (.bipush 35, 2) := dn_16 (ob_cX4_points_3 26 rfl rfl) (by decide +kernel)
theorem dX4_points_152 : decode cX4_points 152 = .ok (.iastore, 1) := dn_79 (ob_cX4_points_3 28 rfl rfl)
theorem dX4_points_153 : decode cX4_points 153 = .ok (.dup, 1) := dn_89 (ob_cX4_points_3 29 rfl rfl)
theorem dX4_points_154 : decode cX4_points 154 = .ok (.iconst 3, 1) := dn_6 (ob_cX4_points_3 30 rfl rfl)
theorem dX4_points_155 : decode cX4_points 155 = .ok (.bipush 37, 2) := dn_16 (ob_cX4_points_3 31 rfl rfl) (by decide +kernel)
theorem dX4_points_157 : decode cX4_points 157 = .ok (.iastore, 1) := dn_79 (ob_cX4_points_3 33 rfl rfl)
theorem dX4_points_158 : decode cX4_points 158 = .ok (.dup, 1) := dn_89 (ob_cX4_points_3 34 rfl rfl)
theorem dX4_points_159 : decode cX4_points 159 = .ok (.iconst 4, 1) := dn_7 (ob_cX4_points_3 35 rfl rfl)
theorem dX4_points_160 : decode cX4_points 160 = .ok (.bipush 38, 2) := dn_16 (ob_cX4_points_3 36 rfl rfl) (by decide +kernel)
theorem dX4_points_162 : decode cX4_points 162 = .ok (.iastore, 1) := dn_79 (ob_cX4_points_3 38 rfl rfl)
theorem dX4_points_163 : decode cX4_points 163 = .ok (.dup, 1) := dn_89 (ob_cX4_points_3 39 rfl rfl)
theorem dX4_points_164 : decode cX4_points 164 = .ok (.iconst 5, 1) := dn_8 (ob_cX4_points_4 0 rfl rfl)
theorem dX4_points_165 : decode cX4_points 165 = .ok (.bipush 39, 2) := dn_16 (ob_cX4_points_4 1 rfl rfl) (by decide +kernel)
theorem dX4_points_167 : decode cX4_points 167 = .ok (.iastore, 1) := dn_79 (ob_cX4_points_4 3 rfl rfl)
theorem dX4_points_168 : decode cX4_points 168 = .ok (.dup, 1) := dn_89 (ob_cX4_points_4 4 rfl rfl)
theorem dX4_points_169 : decode cX4_points 169 = .ok (.bipush 6, 2) := dn_16 (ob_cX4_points_4 5 rfl rfl) (by decide +kernel)
theorem dX4_points_171 : decode cX4_points 171 = .ok (.bipush 42, 2) := dn_16 (ob_cX4_points_4 7 rfl rfl) (by decide +kernel)
theorem dX4_points_173 : decode cX4_points 173 = .ok (.iastore, 1) := dn_79 (ob_cX4_points_4 9 rfl rfl)
theorem dX4_points_174 : decode cX4_points 174 = .ok (.dup, 1) := dn_89 (ob_cX4_points_4 10 rfl rfl)
theorem dX4_points_175 : decode cX4_points 175 = .ok (.bipush 7, 2) := dn_16 (ob_cX4_points_4 11 rfl rfl) (by decide +kernel)
theorem dX4_points_177 : decode cX4_points 177 = .ok (.bipush 44, 2) := dn_16 (ob_cX4_points_4 13 rfl rfl) (by decide +kernel)
theorem dX4_points_179 : decode cX4_points 179 = .ok (.iastore, 1) := dn_79 (ob_cX4_points_4 15 rfl rfl)
theorem dX4_points_180 : decode cX4_points 180 = .ok (.dup, 1) := dn_89 (ob_cX4_points_4 16 rfl rfl)
theorem dX4_points_181 : decode cX4_points 181 = .ok (.bipush 8, 2) := dn_16 (ob_cX4_points_4 17 rfl rfl) (by decide +kernel)
theorem dX4_points_183 : decode cX4_points 183 = .ok (.bipush 46, 2) := dn_16 (ob_cX4_points_4 19 rfl rfl) (by decide +kernel)
theorem dX4_points_185 : decode cX4_points 185 = .ok (.iastore, 1) := dn_79 (ob_cX4_points_4 21 rfl rfl)
theorem dX4_points_186 : decode cX4_points 186 = .ok (.dup, 1) := dn_89 (ob_cX4_points_4 22 rfl rfl)
theorem dX4_points_187 : decode cX4_points 187 = .ok (.bipush 9, 2) := dn_16 (ob_cX4_points_4 23 rfl rfl) (by decide +kernel)
theorem dX4_points_189 : decode cX4_points 189 = .ok (.bipush 47, 2) := dn_16 (ob_cX4_points_4 25 rfl rfl) (by decide +kernel)
theorem dX4_points_191 : decode cX4_points 191 = .ok (.iastore, 1) := dn_79 (ob_cX4_points_4 27 rfl rfl)
theorem dX4_points_192 : decode cX4_points 192 = .ok (.dup, 1) := dn_89 (ob_cX4_points_4 28 rfl rfl)
theorem dX4_points_193 : decode cX4_points 193 = .ok (.bipush 10, 2) := dn_16 (ob_cX4_points_4 29 rfl rfl) (by decide +kernel)
theorem dX4_points_195 : decode cX4_points 195 = .ok (.bipush 58, 2) := dn_16 (ob_cX4_points_4 31 rfl rfl) (by decide +kernel)
theorem dX4_points_197 : decode cX4_points 197 = .ok (.iastore, 1) := dn_79 (ob_cX4_points_4 33 rfl rfl)
theorem dX4_points_198 : decode cX4_points 198 = .ok (.dup, 1) := dn_89 (ob_cX4_points_4 34 rfl rfl)
theorem dX4_points_199 : decode cX4_points 199 = .ok (.bipush 11, 2) := dn_16 (ob_cX4_points_4 35 rfl rfl) (by decide +kernel)
theorem dX4_points_201 : decode cX4_points 201 = .ok (.bipush 59, 2) := dn_16 (ob_cX4_points_4 37 rfl rfl) (by decide +kernel)
theorem dX4_points_203 : decode cX4_points 203 = .ok (.iastore, 1) := dn_79 (ob_cX4_points_4 39 rfl rfl)
theorem dX4_points_204 : decode cX4_points 204 = .ok (.dup, 1) := dn_89 (ob_cX4_points_5 0 rfl rfl)
theorem dX4_points_205 : decode cX4_points 205 = .ok (.bipush 12, 2) := dn_16 (ob_cX4_points_5 1 rfl rfl) (by decide +kernel)
theorem dX4_points_207 : decode cX4_points 207 = .ok (.bipush 63, 2) := dn_16 (ob_cX4_points_5 3 rfl rfl) (by decide +kernel)
theorem dX4_points_209 : decode cX4_points 209 = .ok (.iastore, 1) := dn_79 (ob_cX4_points_5 5 rfl rfl)
theorem dX4_points_210 : decode cX4_points 210 = .ok (.dup, 1) := dn_89 (ob_cX4_points_5 6 rfl rfl)
theorem dX4_points_211 : decode cX4_points 211 = .ok (.bipush 13, 2) := dn_16 (ob_cX4_points_5 7 rfl rfl) (by decide +kernel)
theorem dX4_points_213 : decode cX4_points 213 = .ok (.bipush 64, 2) := dn_16 (ob_cX4_points_5 9 rfl rfl) (by decide +kernel)
theorem dX4_points_215 : decode cX4_points 215 = .ok (.iastore, 1) := dn_79 (ob_cX4_points_5 11 rfl rfl)
theorem dX4_points_216 : decode cX4_points 216 = .ok (.dup, 1) := dn_89 (ob_cX4_points_5 12 rfl rfl)
theorem dX4_points_217 : decode cX4_points 217 = .ok (.bipush 14, 2) := dn_16 (ob_cX4_points_5 13 rfl rfl) (by decide +kernel)
theorem dX4_points_219 : decode cX4_points 219 = .ok (.bipush 92, 2) := dn_16 (ob_cX4_points_5 15 rfl rfl) (by decide +kernel)
theorem dX4_points_221 : decode cX4_points 221 = .ok (.iastore, 1) := dn_79 (ob_cX4_points_5 17 rfl rfl)
theorem dX4_points_222 : decode cX4_points 222 = .ok (.dup, 1) := dn_89 (ob_cX4_points_5 18 rfl rfl)
theorem dX4_points_223 : decode cX4_points 223 = .ok (.bipush 15, 2) := dn_16 (ob_cX4_points_5 19 rfl rfl) (by decide +kernel)
theorem dX4_points_225 : decode cX4_points 225 = .ok (.sipush 161, 3) := dn_17 (ob_cX4_points_5 21 rfl rfl) (by decide +kernel)
theorem dX4_points_228 : decode cX4_points 228 = .ok (.iastore, 1) := dn_79 (ob_cX4_points_5 24 rfl rfl)
theorem dX4_points_229 : decode cX4_points 229 = .ok (.dup, 1) := dn_89 (ob_cX4_points_5 25 rfl rfl)
theorem dX4_points_230 : decode cX4_points 230 = .ok (.bipush 16, 2) := dn_16 (ob_cX4_points_5 26 rfl rfl) (by decide +kernel)
theorem dX4_points_232 : decode cX4_points 232 = .ok (.sipush 167, 3) := dn_17 (ob_cX4_points_5 28 rfl rfl) (by decide +kernel)
theorem dX4_points_235 : decode cX4_points 235 = .ok (.iastore, 1) := dn_79 (ob_cX4_points_5 31 rfl rfl)
theorem dX4_points_236 : decode cX4_points 236 = .ok (.dup, 1) := dn_89 (ob_cX4_points_5 32 rfl rfl)
theorem dX4_points_237 : decode cX4_points 237 = .ok (.bipush 17, 2) := dn_16 (ob_cX4_points_5 33 rfl rfl) (by decide +kernel)
theorem dX4_points_239 : decode cX4_points 239 = .ok (.sipush 182, 3) := dn_17 (ob_cX4_points_5 35 rfl rfl) (by decide +kernel)
theorem dX4_points_242 : decode cX4_points 242 = .ok (.iastore, 1) := dn_79 (ob_cX4_points_5 38 rfl rfl)
theorem dX4_points_243 : decode cX4_points 243 = .ok (.dup, 1) := dn_89 (ob_cX4_points_5 39 rfl rfl)
theorem dX4_points_244 : decode cX4_points 244 = .ok (.bipush 18, 2) := dn_16 (ob_cX4_points_6 0 rfl rfl) (by decide +kernel)
theorem dX4_points_246 : decode cX4_points 246 = .ok (.sipush 183, 3) := dn_17 (ob_cX4_points_6 2 rfl rfl) (by decide +kernel)
theorem dX4_points_249 : decode cX4_points 249 = .ok (.iastore, 1) := dn_79 (ob_cX4_points_6 5 rfl rfl)
theorem dX4_points_250 : decode cX4_points 250 = .ok (.dup, 1) := dn_89 (ob_cX4_points_6 6 rfl rfl)
theorem dX4_points_251 : decode cX4_points 251 = .ok (.bipush 19, 2) := dn_16 (ob_cX4_points_6 7 rfl rfl) (by decide +kernel)
theorem dX4_points_253 : decode cX4_points 253 = .ok (.sipush 191, 3) := dn_17 (ob_cX4_points_6 9 rfl rfl) (by decide +kernel)
theorem dX4_points_256 : decode cX4_points 256 = .ok (.iastore, 1) := dn_79 (ob_cX4_points_6 12 rfl rfl)
theorem dX4_points_257 : decode cX4_points 257 = .ok (.astore_n 3, 1) := dn_78 (ob_cX4_points_6 13 rfl rfl)
theorem dX4_points_258 : decode cX4_points 258 = .ok (.aload_n 3, 1) := dn_45 (ob_cX4_points_6 14 rfl rfl)
theorem dX4_points_259 : decode cX4_points 259 = .ok (.astore 4, 2) := dn_58 (ob_cX4_points_6 15 rfl rfl) rfl
theorem dX4_points_261 : decode cX4_points 261 = .ok (.aload 4, 2) := dn_25 (ob_cX4_points_6 17 rfl rfl) rfl
theorem dX4_points_263 : decode cX4_points 263 = .ok (.arraylength, 1) := dn_190 (ob_cX4_points_6 19 rfl rfl)
theorem dX4_points_264 : decode cX4_points 264 = .ok (.istore 5, 2) := dn_54 (ob_cX4_points_6 20 rfl rfl) rfl
theorem dX4_points_266 : decode cX4_points 266 = .ok (.iconst 0, 1) := dn_3 (ob_cX4_points_6 22 rfl rfl)
theorem dX4_points_267 : decode cX4_points 267 = .ok (.istore 6, 2) := dn_54 (ob_cX4_points_6 23 rfl rfl) rfl
theorem dX4_points_269 : decode cX4_points 269 = .ok (.iload 6, 2) := dn_21 (ob_cX4_points_6 25 rfl rfl) rfl
theorem dX4_points_271 : decode cX4_points 271 = .ok (.iload 5, 2) := dn_21 (ob_cX4_points_6 27 rfl rfl) rfl
theorem dX4_points_273 : decode cX4_points 273 = .ok (.if_icmp .ge 26, 3) := dn_162 (ob_cX4_points_6 29 rfl rfl) (by decide +kernel)
theorem dX4_points_276 : decode cX4_points 276 = .ok (.aload 4, 2) := dn_25 (ob_cX4_points_6 32 rfl rfl) rfl
theorem dX4_points_278 : decode cX4_points 278 = .ok (.iload 6, 2) := dn_21 (ob_cX4_points_6 34 rfl rfl) rfl
theorem dX4_points_280 : decode cX4_points 280 = .ok (.iaload, 1) := dn_46 (ob_cX4_points_6 36 rfl rfl)
theorem dX4_points_281 : decode cX4_points 281 = .ok (.istore 7, 2) := dn_54 (ob_cX4_points_6 37 rfl rfl) rfl
theorem dX4_points_283 : decode cX4_points 283 = .ok (.aload_n 0, 1) := dn_42 (ob_cX4_points_6 39 rfl rfl)
theorem dX4_points_284 : decode cX4_points 284 = .ok (.bipush 24, 2) := dn_16 (ob_cX4_points_7 0 rfl rfl) (by decide +kernel)
theorem dX4_points_286 : decode cX4_points 286 = .ok (.iload 7, 2) := dn_21 (ob_cX4_points_7 2 rfl rfl) rfl
theorem dX4_points_288 : decode cX4_points 288 = .ok (.iload 7, 2) := dn_21 (ob_cX4_points_7 4 rfl rfl) rfl
theorem dX4_points_290 : decode cX4_points 290 = .ok (.invokevirtual 34, 3) := dn_182 (ob_cX4_points_7 6 rfl rfl) rfl
theorem dX4_points_293 : decode cX4_points 293 = .ok (.iinc 6 1, 3) := dn_132 (ob_cX4_points_7 9 rfl rfl) rfl (by decide +kernel)
theorem dX4_points_296 : decode cX4_points 296 = .ok (.goto (-27), 3) := dn_167 (ob_cX4_points_7 12 rfl rfl) (by decide +kernel)
theorem dX4_points_299 : decode cX4_points 299 = .ok (.return_, 1) := dn_177 (ob_cX4_points_7 15 rfl rfl)
def kb_cX4_others_0 : List UInt8 := [16, 10, 188, 10, 89, 3, 16, 43, 79, 89, 4, 16, 60, 79, 89, 5, 16, 61, 79, 89, 6, 16, 62, 79, 89, 7, 16, 124, 79, 89, 8, 16, 126, 79, 89, 16, 6, 17, 0, 172]
def kb_cX4_others_1 : List UInt8 := [79, 89, 16, 7, 17, 0, 177, 79, 89, 16, 8, 17, 0, 215, 79, 89, 16, 9, 17, 0, 247, 79, 76, 43, 77, 44, 190, 62, 3, 54, 4, 21, 4, 29, 162, 0, 25, 44, 21, 4]
def kb_cX4_others_2 : List UInt8 := [46, 54, 5, 42, 16, 25, 21, 5, 21, 5, 182, 0, 34, 132, 4, 1, 167, 255, 231, 42, 16, 26, 16, 36, 16, 36, 182, 0, 34, 42, 16, 26, 17, 0, 162, 17, 0, 165, 182, 0, 34]
def kb_cX4_others_3 : List UInt8 := [16, 6, 188, 10, 89, 3, 16, 94, 79, 89, 4, 16, 96, 79, 89, 5, 17, 0, 168, 79, 89, 6, 17, 0, 175, 79, 89, 7, 17, 0, 180, 79, 89, 8, 17, 0, 184, 79, 77, 44]
def kb_cX4_others_4 : List UInt8 := [78, 45, 190, 54, 4, 3, 54, 5, 21, 5, 21, 4, 162, 0, 25, 45, 21, 5, 46, 54, 6, 42, 16, 27, 21, 6, 21, 6, 182, 0, 34, 132, 5, 1, 167, 255, 230, 7, 188, 10]
def kb_cX4_others_5 : List UInt8 := [89, 3, 17, 0, 166, 79, 89, 4, 17, 0, 169, 79, 89, 5, 17, 0, 174, 79, 89, 6, 17, 0, 176, 79, 78, 45, 58, 4, 25, 4, 190, 54, 5, 3, 54, 6, 21, 6, 21, 5]
def kb_cX4_others_6 : List UInt8 := [162, 0, 26, 25, 4, 21, 6, 46, 54, 7, 42, 16, 28, 21, 7, 21, 7, 182, 0, 34, 132, 6, 1, 167, 255, 229, 42, 16, 29, 17, 0, 171, 17, 0, 171, 182, 0, 34, 42, 16, 30]
def kb_cX4_others_7 : List UInt8 := [17, 0, 187, 17, 0, 187, 182, 0, 34, 177]
def tb_cX4_others_8 : List UInt8 := []
def tb_cX4_others_7 : List UInt8 := kb_cX4_others_7 ++ tb_cX4_others_8
def tb_cX4_others_6 : List UInt8 := kb_cX4_others_6 ++ tb_cX4_others_7
def tb_cX4_others_5 : List UInt8 := kb_cX4_others_5 ++ tb_cX4_others_6
def tb_cX4_others_4 : List UInt8 := kb_cX4_others_4 ++ tb_cX4_others_5
def tb_cX4_others_3 : List UInt8 := kb_cX4_others_3 ++ tb_cX4_others_4
def tb_cX4_others_2 : List UInt8 := kb_cX4_others_2 ++ tb_cX4_others_3
def tb_cX4_others_1 : List UInt8 := kb_cX4_others_1 ++ tb_cX4_others_2
def tb_cX4_others_0 : List UInt8 := kb_cX4_others_0 ++ tb_cX4_others_1
set_option maxRecDepth 100000 in
theorem tb_cX4_others : (cX4_others).data.toList = tb_cX4_others_0 := eqL_eq (by decide +kernel)
theorem ow_cX4_others_0 (r : Nat) : (cX4_others).data.toList.drop (0 + r) = tb_cX4_others_0.drop r := by rw [tb_cX4_others, Nat.zero_add]
theorem ow_cX4_others_1 (r : Nat) : (cX4_others).data.toList.drop (40 + r) = tb_cX4_others_1.drop r := by
  have e := ow_cX4_others_0 (40 + r)
  rw [show 0 + (40 + r) = 40 + r by omega] at e
  exact e.trans (dr_len (a := kb_cX4_others_0) (t := tb_cX4_others_1) (by decide +kernel))
theorem ow_cX4_others_2 (r : Nat) : (cX4_others).data.toList.drop (80 + r) = tb_cX4_others_2.drop r := by
  have e := ow_cX4_others_1 (40 + r)
  rw [show 40 + (40 + r) = 80 + r by omega] at e
  exact e.trans (dr_len (a := kb_cX4_others_1) (t := tb_cX4_others_2) (by decide +kernel))
theorem ow_cX4_others_3 (r : Nat) : (cX4_others).data.toList.drop (121 + r) = tb_cX4_others_3.drop r := by
  have e := ow_cX4_others_2 (41 + r)
  rw [show 80 + (41 + r) = 121 + r by omega] at e
  exact e.trans (dr_len (a := kb_cX4_others_2) (t := tb_cX4_others_3) (by decide +kernel))
theorem ow_cX4_others_4 (r : Nat) : (cX4_others).data.toList.drop (161 + r) = tb_cX4_others_4.drop r := by
  have e := ow_cX4_others_3 (40 + r)
  rw [show 121 + (40 + r) = 161 + r by omega] at e
  exact e.trans (dr_len (a := kb_cX4_others_3) (t := tb_cX4_others_4) (by decide +kernel))
theorem ow_cX4_others_5 (r : Nat) : (cX4_others).data.toList.drop (201 + r) = tb_cX4_others_5.drop r := by
  have e := ow_cX4_others_4 (40 + r)
  rw [show 161 + (40 + r) = 201 + r by omega] at e
  exact e.trans (dr_len (a := kb_cX4_others_4) (t := tb_cX4_others_5) (by decide +kernel))
theorem ow_cX4_others_6 (r : Nat) : (cX4_others).data.toList.drop (241 + r) = tb_cX4_others_6.drop r := by
  have e := ow_cX4_others_5 (40 + r)
  rw [show 201 + (40 + r) = 241 + r by omega] at e
  exact e.trans (dr_len (a := kb_cX4_others_5) (t := tb_cX4_others_6) (by decide +kernel))
theorem ow_cX4_others_7 (r : Nat) : (cX4_others).data.toList.drop (282 + r) = tb_cX4_others_7.drop r := by
  have e := ow_cX4_others_6 (41 + r)
  rw [show 241 + (41 + r) = 282 + r by omega] at e
  exact e.trans (dr_len (a := kb_cX4_others_6) (t := tb_cX4_others_7) (by decide +kernel))
theorem ob_cX4_others_0 (r : Nat) {pc : Nat} {l : List UInt8} (hp : 0 + r = pc) (h : tb_cX4_others_0.drop r = l) : (cX4_others).data.toList.drop pc = l := by
  subst hp
  exact (ow_cX4_others_0 r).trans h
theorem ob_cX4_others_1 (r : Nat) {pc : Nat} {l : List UInt8} (hp : 40 + r = pc) (h : tb_cX4_others_1.drop r = l) : (cX4_others).data.toList.drop pc = l := by
  subst hp
  exact (ow_cX4_others_1 r).trans h
theorem ob_cX4_others_2 (r : Nat) {pc : Nat} {l : List UInt8} (hp : 80 + r = pc) (h : tb_cX4_others_2.drop r = l) : (cX4_others).data.toList.drop pc = l := by
  subst hp
  exact (ow_cX4_others_2 r).trans h
theorem ob_cX4_others_3 (r : Nat) {pc : Nat} {l : List UInt8} (hp : 121 + r = pc) (h : tb_cX4_others_3.drop r = l) : (cX4_others).data.toList.drop pc = l := by
  subst hp
  exact (ow_cX4_others_3 r).trans h
theorem ob_cX4_others_4 (r : Nat) {pc : Nat} {l : List UInt8} (hp : 161 + r = pc) (h : tb_cX4_others_4.drop r = l) : (cX4_others).data.toList.drop pc = l := by
  subst hp
  exact (ow_cX4_others_4 r).trans h
theorem ob_cX4_others_5 (r : Nat) {pc : Nat} {l : List UInt8} (hp : 201 + r = pc) (h : tb_cX4_others_5.drop r = l) : (cX4_others).data.toList.drop pc = l := by
  subst hp
  exact (ow_cX4_others_5 r).trans h
theorem ob_cX4_others_6 (r : Nat) {pc : Nat} {l : List UInt8} (hp : 241 + r = pc) (h : tb_cX4_others_6.drop r = l) : (cX4_others).data.toList.drop pc = l := by
  subst hp
  exact (ow_cX4_others_6 r).trans h
theorem ob_cX4_others_7 (r : Nat) {pc : Nat} {l : List UInt8} (hp : 282 + r = pc) (h : tb_cX4_others_7.drop r = l) : (cX4_others).data.toList.drop pc = l := by
  subst hp
  exact (ow_cX4_others_7 r).trans h
theorem dX4_others_0 : decode cX4_others 0 = .ok (.bipush 10, 2) := dn_16 (ob_cX4_others_0 0 rfl rfl) (by decide +kernel)
theorem dX4_others_2 : decode cX4_others 2 = .ok (.newarray .int, 2) := by decide +kernel
theorem dX4_others_4 : decode cX4_others 4 = .ok (.dup, 1) := dn_89 (ob_cX4_others_0 4 rfl rfl)
theorem dX4_others_5 : decode cX4_others 5 = .ok (.iconst 0, 1) := dn_3 (ob_cX4_others_0 5 rfl rfl)
theorem dX4_others_6 : decode cX4_others 6 = .ok (.bipush 43, 2) := dn_16 (ob_cX4_others_0 6 rfl rfl) (by decide +kernel)
theorem dX4_others_8 : decode cX4_others 8 = .ok (.iastore, 1) := dn_79 (ob_cX4_others_0 8 rfl rfl)
theorem dX4_others_9 : decode cX4_others 9 = .ok (.dup, 1) := dn_89 (ob_cX4_others_0 9 rfl rfl)
theorem dX4_others_10 : decode cX4_others 10 = .ok (.iconst 1, 1) := dn_4 (ob_cX4_others_0 10 rfl rfl)
theorem dX4_others_11 : decode cX4_others 11 = .ok (.bipush 60, 2) := dn_16 (ob_cX4_others_0 11 rfl rfl) (by decide +kernel)
theorem dX4_others_13 : decode cX4_others 13 = .ok (.iastore, 1) := dn_79 (ob_cX4_others_0 13 rfl rfl)
theorem dX4_others_14 : decode cX4_others 14 = .ok (.dup, 1) := dn_89 (ob_cX4_others_0 14 rfl rfl)
theorem dX4_others_15 : decode cX4_others 15 = .ok (.iconst 2, 1) := dn_5 (ob_cX4_others_0 15 rfl rfl)
theorem dX4_others_16 : decode cX4_others 16 = .ok (.bipush 61, 2) := dn_16 (ob_cX4_others_0 16 rfl rfl) (by decide +kernel)
theorem dX4_others_18 : decode cX4_others 18 = .ok (.iastore, 1) := dn_79 (ob_cX4_others_0 18 rfl rfl)
theorem dX4_others_19 : decode cX4_others 19 = .ok (.dup, 1) := dn_89 (ob_cX4_others_0 19 rfl rfl)
theorem dX4_others_20 : decode cX4_others 20 = .ok (.iconst 3, 1) := dn_6 (ob_cX4_others_0 20 rfl rfl)
theorem dX4_others_21 : decode cX4_others 21 = .ok (.bipush 62, 2) := dn_16 (ob_cX4_others_0 21 rfl rfl) (by decide +kernel)
theorem dX4_others_23 : decode cX4_others 23 = .ok (.iastore, 1) := dn_79 (ob_cX4_others_0 23 rfl rfl)
theorem dX4_others_24 : decode cX4_others 24 = .ok (.dup, 1) := dn_89 (ob_cX4_others_0 24 rfl rfl)
theorem dX4_others_25 : decode cX4_others 25 = .ok (.iconst 4, 1) := dn_7 (ob_cX4_others_0 25 rfl rfl)
theorem dX4_others_26 : decode cX4_others 26 = .ok (.bipush 124, 2) := dn_16 (ob_cX4_others_0 26 rfl rfl) (by decide +kernel)
theorem dX4_others_28 : decode cX4_others 28 = .ok (.iastore, 1) := dn_79 (ob_cX4_others_0 28 rfl rfl)
theorem dX4_others_29 : decode cX4_others 29 = .ok (.dup, 1) := dn_89 (ob_cX4_others_0 29 rfl rfl)
theorem dX4_others_30 : decode cX4_others 30 = .ok (.iconst 5, 1) := dn_8 (ob_cX4_others_0 30 rfl rfl)
theorem dX4_others_31 : decode cX4_others 31 = .ok (.bipush 126, 2) := dn_16 (ob_cX4_others_0 31 rfl rfl) (by decide +kernel)
theorem dX4_others_33 : decode cX4_others 33 = .ok (.iastore, 1) := dn_79 (ob_cX4_others_0 33 rfl rfl)
theorem dX4_others_34 : decode cX4_others 34 = .ok (.dup, 1) := dn_89 (ob_cX4_others_0 34 rfl rfl)
theorem dX4_others_35 : decode cX4_others 35 = .ok (.bipush 6, 2) := dn_16 (ob_cX4_others_0 35 rfl rfl) (by decide +kernel)
theorem dX4_others_37 : decode cX4_others 37 = .ok (.sipush 172, 3) := dn_17 (ob_cX4_others_0 37 rfl rfl) (by decide +kernel)
theorem dX4_others_40 : decode cX4_others 40 = .ok (.iastore, 1) := dn_79 (ob_cX4_others_1 0 rfl rfl)
theorem dX4_others_41 : decode cX4_others 41 = .ok (.dup, 1) := dn_89 (ob_cX4_others_1 1 rfl rfl)
theorem dX4_others_42 : decode cX4_others 42 = .ok (.bipush 7, 2) := dn_16 (ob_cX4_others_1 2 rfl rfl) (by decide +kernel)
theorem dX4_others_44 : decode cX4_others 44 = .ok (.sipush 177, 3) := dn_17 (ob_cX4_others_1 4 rfl rfl) (by decide +kernel)
theorem dX4_others_47 : decode cX4_others 47 = .ok (.iastore, 1) := dn_79 (ob_cX4_others_1 7 rfl rfl)
theorem dX4_others_48 : decode cX4_others 48 = .ok (.dup, 1) := dn_89 (ob_cX4_others_1 8 rfl rfl)
theorem dX4_others_49 : decode cX4_others 49 = .ok (.bipush 8, 2) := dn_16 (ob_cX4_others_1 9 rfl rfl) (by decide +kernel)
theorem dX4_others_51 : decode cX4_others 51 = .ok (.sipush 215, 3) := dn_17 (ob_cX4_others_1 11 rfl rfl) (by decide +kernel)
theorem dX4_others_54 : decode cX4_others 54 = .ok (.iastore, 1) := dn_79 (ob_cX4_others_1 14 rfl rfl)
theorem dX4_others_55 : decode cX4_others 55 = .ok (.dup, 1) := dn_89 (ob_cX4_others_1 15 rfl rfl)
theorem dX4_others_56 : decode cX4_others 56 = .ok (.bipush 9, 2) := dn_16 (ob_cX4_others_1 16 rfl rfl) (by decide +kernel)
theorem dX4_others_58 : decode cX4_others 58 = .ok (.sipush 247, 3) := dn_17 (ob_cX4_others_1 18 rfl rfl) (by decide +kernel)
theorem dX4_others_61 : decode cX4_others 61 = .ok (.iastore, 1) := dn_79 (ob_cX4_others_1 21 rfl rfl)
theorem dX4_others_62 : decode cX4_others 62 = .ok (.astore_n 1, 1) := dn_76 (ob_cX4_others_1 22 rfl rfl)
theorem dX4_others_63 : decode cX4_others 63 = .ok (.aload_n 1, 1) := dn_43 (ob_cX4_others_1 23 rfl rfl)
theorem dX4_others_64 : decode cX4_others 64 = .ok (.astore_n 2, 1) := dn_77 (ob_cX4_others_1 24 rfl rfl)
theorem dX4_others_65 : decode cX4_others 65 = .ok (.aload_n 2, 1) := dn_44 (ob_cX4_others_1 25 rfl rfl)
theorem dX4_others_66 : decode cX4_others 66 = .ok (.arraylength, 1) := dn_190 (ob_cX4_others_1 26 rfl rfl)
theorem dX4_others_67 : decode cX4_others 67 = .ok (.istore_n 3, 1) := dn_62 (ob_cX4_others_1 27 rfl rfl)
theorem dX4_others_68 : decode cX4_others 68 = .ok (.iconst 0, 1) := dn_3 (ob_cX4_others_1 28 rfl rfl)
theorem dX4_others_69 : decode cX4_others 69 = .ok (.istore 4, 2) := dn_54 (ob_cX4_others_1 29 rfl rfl) rfl
theorem dX4_others_71 : decode cX4_others 71 = .ok (.iload 4, 2) := dn_21 (ob_cX4_others_1 31 rfl rfl) rfl
theorem dX4_others_73 : decode cX4_others 73 = .ok (.iload_n 3, 1) := dn_29 (ob_cX4_others_1 33 rfl rfl)
theorem dX4_others_74 : decode cX4_others 74 = .ok (.if_icmp .ge 25, 3) := dn_162 (ob_cX4_others_1 34 rfl rfl) (by decide +kernel)
theorem dX4_others_77 : decode cX4_others 77 = .ok (.aload_n 2, 1) := dn_44 (ob_cX4_others_1 37 rfl rfl)
theorem dX4_others_78 : decode cX4_others 78 = .ok (.iload 4, 2) := dn_21 (ob_cX4_others_1 38 rfl rfl) rfl
theorem dX4_others_80 : decode cX4_others 80 = .ok (.iaload, 1) := dn_46 (ob_cX4_others_2 0 rfl rfl)
theorem dX4_others_81 : decode cX4_others 81 = .ok (.istore 5, 2) := dn_54 (ob_cX4_others_2 1 rfl rfl) rfl
theorem dX4_others_83 : decode cX4_others 83 = .ok (.aload_n 0, 1) := dn_42 (ob_cX4_others_2 3 rfl rfl)
theorem dX4_others_84 : decode cX4_others 84 = .ok (.bipush 25, 2) := dn_16 (ob_cX4_others_2 4 rfl rfl) (by decide +kernel)
theorem dX4_others_86 : decode cX4_others 86 = .ok (.iload 5, 2) := dn_21 (ob_cX4_others_2 6 rfl rfl) rfl
theorem dX4_others_88 : decode cX4_others 88 = .ok (.iload 5, 2) := dn_21 (ob_cX4_others_2 8 rfl rfl) rfl
theorem dX4_others_90 : decode cX4_others 90 = .ok (.invokevirtual 34, 3) := dn_182 (ob_cX4_others_2 10 rfl rfl) rfl
theorem dX4_others_93 : decode cX4_others 93 = .ok (.iinc 4 1, 3) := dn_132 (ob_cX4_others_2 13 rfl rfl) rfl (by decide +kernel)
theorem dX4_others_96 : decode cX4_others 96 = .ok (.goto (-25), 3) := dn_167 (ob_cX4_others_2 16 rfl rfl) (by decide +kernel)
theorem dX4_others_99 : decode cX4_others 99 = .ok (.aload_n 0, 1) := dn_42 (ob_cX4_others_2 19 rfl rfl)
theorem dX4_others_100 : decode cX4_others 100 = .ok (.bipush 26, 2) := dn_16 (ob_cX4_others_2 20 rfl rfl) (by decide +kernel)
theorem dX4_others_102 : decode cX4_others 102 = .ok (.bipush 36, 2) := dn_16 (ob_cX4_others_2 22 rfl rfl) (by decide +kernel)
theorem dX4_others_104 : decode cX4_others 104 = .ok (.bipush 36, 2) := dn_16 (ob_cX4_others_2 24 rfl rfl) (by decide +kernel)
theorem dX4_others_106 : decode cX4_others 106 = .ok (.invokevirtual 34, 3) := dn_182 (ob_cX4_others_2 26 rfl rfl) rfl
theorem dX4_others_109 : decode cX4_others 109 = .ok (.aload_n 0, 1) := dn_42 (ob_cX4_others_2 29 rfl rfl)
theorem dX4_others_110 : decode cX4_others 110 = .ok (.bipush 26, 2) := dn_16 (ob_cX4_others_2 30 rfl rfl) (by decide +kernel)
theorem dX4_others_112 : decode cX4_others 112 = .ok (.sipush 162, 3) := dn_17 (ob_cX4_others_2 32 rfl rfl) (by decide +kernel)
theorem dX4_others_115 : decode cX4_others 115 = .ok (.sipush 165, 3) := dn_17 (ob_cX4_others_2 35 rfl rfl) (by decide +kernel)
theorem dX4_others_118 : decode cX4_others 118 = .ok (.invokevirtual 34, 3) := dn_182 (ob_cX4_others_2 38 rfl rfl) rfl
theorem dX4_others_121 : decode cX4_others 121 = .ok (.bipush 6, 2) := dn_16 (ob_cX4_others_3 0 rfl rfl) (by decide +kernel)
theorem dX4_others_123 : decode cX4_others 123 = .ok (.newarray .int, 2) := by decide +kernel
theorem dX4_others_125 : decode cX4_others 125 = .ok (.dup, 1) := dn_89 (ob_cX4_others_3 4 rfl rfl)
theorem dX4_others_126 : decode cX4_others 126 = .ok (.iconst 0, 1) := dn_3 (ob_cX4_others_3 5 rfl rfl)
theorem dX4_others_127 : decode cX4_others 127 = .ok (.bipush 94, 2) := dn_16 (ob_cX4_others_3 6 rfl rfl) (by decide +kernel)
theorem dX4_others_129 : decode cX4_others 129 = .ok (.iastore, 1) := dn_79 (ob_cX4_others_3 8 rfl rfl)
theorem dX4_others_130 : decode cX4_others 130 = .ok (.dup, 1) := dn_89 (ob_cX4_others_3 9 rfl rfl)
theorem dX4_others_131 : decode cX4_others 131 = .ok (.iconst 1, 1) := dn_4 (ob_cX4_others_3 10 rfl rfl)
theorem dX4_others_132 : decode cX4_others 132 = .ok (.bipush 96, 2) := dn_16 (ob_cX4_others_3 11 rfl rfl) (by decide +kernel)
theorem dX4_others_134 : decode cX4_others 134 = .ok (.iastore, 1) := dn_79 (ob_cX4_others_3 13 rfl rfl)
theorem dX4_others_135 : decode cX4_others 135 = .ok (.dup, 1) := dn_89 (ob_cX4_others_3 14 rfl rfl)
theorem dX4_others_136 : decode cX4_others 136 = .ok (.iconst 2, 1) := dn_5 (ob_cX4_others_3 15 rfl rfl)
theorem dX4_others_137 : decode cX4_others 137 = .ok (.sipush 168, 3) := dn_17 (ob_cX4_others_3 16 rfl rfl) (by decide +kernel)
theorem dX4_others_140 : decode cX4_others 140 = .ok (.iastore, 1) := dn_79 (ob_cX4_others_3 19 rfl rfl)
theorem dX4_others_141 : decode cX4_others 141 = .ok (.dup, 1) := dn_89 (ob_cX4_others_3 20 rfl rfl)
theorem dX4_others_142 : decode cX4_others 142 = .ok (.iconst 3, 1) := dn_6 (ob_cX4_others_3 21 rfl rfl)
theorem dX4_others_143 : decode cX4_others 143 = .ok (.sipush 175, 3) := dn_17 (ob_cX4_others_3 22 rfl rfl) (by decide +kernel)
theorem dX4_others_146 : decode cX4_others 146 = .ok (.iastore, 1) := dn_79 (ob_cX4_others_3 25 rfl rfl)
theorem dX4_others_147 : decode cX4_others 147 = .ok (.dup, 1) := dn_89 (ob_cX4_others_3 26 rfl rfl)
theorem dX4_others_148 : decode cX4_others 148 = .ok (.iconst 4, 1) := dn_7 (ob_cX4_others_3 27 rfl rfl)
theorem dX4_others_149 : decode cX4_others 149 = .ok (.sipush 180, 3) := dn_17 (ob_cX4_others_3 28 rfl rfl) (by decide +kernel)
theorem dX4_others_152 : decode cX4_others 152 = .ok (.iastore, 1) := dn_79 (ob_cX4_others_3 31 rfl rfl)
theorem dX4_others_153 : decode cX4_others 153 = .ok (.dup, 1) := dn_89 (ob_cX4_others_3 32 rfl rfl)
theorem dX4_others_154 : decode cX4_others 154 = .ok (.iconst 5, 1) := dn_8 (ob_cX4_others_3 33 rfl rfl)
theorem dX4_others_155 : decode cX4_others 155 = .ok (.sipush 184, 3) := dn_17 (ob_cX4_others_3 34 rfl rfl) (by decide +kernel)
theorem dX4_others_158 : decode cX4_others 158 = .ok (.iastore, 1) := dn_79 (ob_cX4_others_3 37 rfl rfl)
theorem dX4_others_159 : decode cX4_others 159 = .ok (.astore_n 2, 1) := dn_77 (ob_cX4_others_3 38 rfl rfl)
theorem dX4_others_160 : decode cX4_others 160 = .ok (.aload_n 2, 1) := dn_44 (ob_cX4_others_3 39 rfl rfl)
theorem dX4_others_161 : decode cX4_others 161 = .ok (.astore_n 3, 1) := dn_78 (ob_cX4_others_4 0 rfl rfl)
theorem dX4_others_162 : decode cX4_others 162 = .ok (.aload_n 3, 1) := dn_45 (ob_cX4_others_4 1 rfl rfl)
theorem dX4_others_163 : decode cX4_others 163 = .ok (.arraylength, 1) := dn_190 (ob_cX4_others_4 2 rfl rfl)
theorem dX4_others_164 : decode cX4_others 164 = .ok (.istore 4, 2) := dn_54 (ob_cX4_others_4 3 rfl rfl) rfl
theorem dX4_others_166 : decode cX4_others 166 = .ok (.iconst 0, 1) := dn_3 (ob_cX4_others_4 5 rfl rfl)
theorem dX4_others_167 : decode cX4_others 167 = .ok (.istore 5, 2) := dn_54 (ob_cX4_others_4 6 rfl rfl) rfl
theorem dX4_others_169 : decode cX4_others 169 = .ok (.iload 5, 2) := dn_21 (ob_cX4_others_4 8 rfl rfl) rfl
theorem dX4_others_171 : decode cX4_others 171 = .ok (.iload 4, 2) := dn_21 (ob_cX4_others_4 10 rfl rfl) rfl
theorem dX4_others_173 : decode cX4_others 173 = .ok (.if_icmp .ge 25, 3) := dn_162 (ob_cX4_others_4 12 rfl rfl) (by decide +kernel)
theorem dX4_others_176 : decode cX4_others 176 = .ok (.aload_n 3, 1) := dn_45 (ob_cX4_others_4 15 rfl rfl)
theorem dX4_others_177 : decode cX4_others 177 = .ok (.iload 5, 2) := dn_21 (ob_cX4_others_4 16 rfl rfl) rfl
theorem dX4_others_179 : decode cX4_others 179 = .ok (.iaload, 1) := dn_46 (ob_cX4_others_4 18 rfl rfl)
theorem dX4_others_180 : decode cX4_others 180 = .ok (.istore 6, 2) := dn_54 (ob_cX4_others_4 19 rfl rfl) rfl
theorem dX4_others_182 : decode cX4_others 182 = .ok (.aload_n 0, 1) := dn_42 (ob_cX4_others_4 21 rfl rfl)
theorem dX4_others_183 : decode cX4_others 183 = .ok (.bipush 27, 2) := dn_16 (ob_cX4_others_4 22 rfl rfl) (by decide +kernel)
theorem dX4_others_185 : decode cX4_others 185 = .ok (.iload 6, 2) := dn_21 (ob_cX4_others_4 24 rfl rfl) rfl
theorem dX4_others_187 : decode cX4_others 187 = .ok (.iload 6, 2) := dn_21 (ob_cX4_others_4 26 rfl rfl) rfl
theorem dX4_others_189 : decode cX4_others 189 = .ok (.invokevirtual 34, 3) := dn_182 (ob_cX4_others_4 28 rfl rfl) rfl
theorem dX4_others_192 : decode cX4_others 192 = .ok (.iinc 5 1, 3) := dn_132 (ob_cX4_others_4 31 rfl rfl) rfl (by decide +kernel)
theorem dX4_others_195 : decode cX4_others 195 = .ok (.goto (-26), 3) := dn_167 (ob_cX4_others_4 34 rfl rfl) (by decide +kernel)
theorem dX4_others_198 : decode cX4_others 198 = .ok (.iconst 4, 1) := dn_7 (ob_cX4_others_4 37 rfl rfl)
theorem dX4_others_199 : decode cX4_others 199 = .ok (.newarray .int, 2) := by decide +kernel
theorem dX4_others_201 : decode cX4_others 201 = .ok (.dup, 1) := dn_89 (ob_cX4_others_5 0 rfl rfl)
theorem dX4_others_202 : decode cX4_others 202 = .ok (.iconst 0, 1) := dn_3 (ob_cX4_others_5 1 rfl rfl)
theorem dX4_others_203 : decode cX4_others 203 = .ok (.sipush 166, 3) := dn_17 (ob_cX4_others_5 2 rfl rfl) (by decide +kernel)
theorem dX4_others_206 : decode cX4_others 206 = .ok (.iastore, 1) := dn_79 (ob_cX4_others_5 5 rfl rfl)
theorem dX4_others_207 : decode cX4_others 207 = .ok (.dup, 1) := dn_89 (ob_cX4_others_5 6 rfl rfl)
theorem dX4_others_208 : decode cX4_others 208 = .ok (.iconst 1, 1) := dn_4 (ob_cX4_others_5 7 rfl rfl)
theorem dX4_others_209 : decode cX4_others 209 = .ok (.sipush 169, 3) := dn_17 (ob_cX4_others_5 8 rfl rfl) (by decide +kernel)
theorem dX4_others_212 : decode cX4_others 212 = .ok (.iastore, 1) := dn_79 (ob_cX4_others_5 11 rfl rfl)
theorem dX4_others_213 : decode cX4_others 213 = .ok (.dup, 1) := dn_89 (ob_cX4_others_5 12 rfl rfl)
theorem dX4_others_214 : decode cX4_others 214 = .ok (.iconst 2, 1) := dn_5 (ob_cX4_others_5 13 rfl rfl)
theorem dX4_others_215 : decode cX4_others 215 = .ok (.sipush 174, 3) := dn_17 (ob_cX4_others_5 14 rfl rfl) (by decide +kernel)
theorem dX4_others_218 : decode cX4_others 218 = .ok (.iastore, 1) := dn_79 (ob_cX4_others_5 17 rfl rfl)
theorem dX4_others_219 : decode cX4_others 219 = .ok (.dup, 1) := dn_89 (ob_cX4_others_5 18 rfl rfl)
theorem dX4_others_220 : decode cX4_others 220 = .ok (.iconst 3, 1) := dn_6 (ob_cX4_others_5 19 rfl rfl)
theorem dX4_others_221 : decode cX4_others 221 = .ok (.sipush 176, 3) := dn_17 (ob_cX4_others_5 20 rfl rfl) (by decide +kernel)
theorem dX4_others_224 : decode cX4_others 224 = .ok (.iastore, 1) := dn_79 (ob_cX4_others_5 23 rfl rfl)
theorem dX4_others_225 : decode cX4_others 225 = .ok (.astore_n 3, 1) := dn_78 (ob_cX4_others_5 24 rfl rfl)
theorem dX4_others_226 : decode cX4_others 226 = .ok (.aload_n 3, 1) := dn_45 (ob_cX4_others_5 25 rfl rfl)
theorem dX4_others_227 : decode cX4_others 227 = .ok (.astore 4, 2) := dn_58 (ob_cX4_others_5 26 rfl rfl) rfl
theorem dX4_others_229 : decode cX4_others 229 = .ok (.aload 4, 2) := dn_25 (ob_cX4_others_5 28 rfl rfl) rfl
theorem dX4_others_231 : decode cX4_others 231 = .ok (.arraylength, 1) := dn_190 (ob_cX4_others_5 30 rfl rfl)
theorem dX4_others_232 : decode cX4_others 232 = .ok (.istore 5, 2) := dn_54 (ob_cX4_others_5 31 rfl rfl) rfl
theorem dX4_others_234 : decode cX4_others 234 = .ok (.iconst 0, 1) := dn_3 (ob_cX4_others_5 33 rfl rfl)
theorem dX4_others_235 : decode cX4_others 235 = .ok (.istore 6, 2) := dn_54 (ob_cX4_others_5 34 rfl rfl) rfl
theorem dX4_others_237 : decode cX4_others 237 = .ok (.iload 6, 2) := dn_21 (ob_cX4_others_5 36 rfl rfl) rfl
theorem dX4_others_239 : decode cX4_others 239 = .ok (.iload 5, 2) := dn_21 (ob_cX4_others_5 38 rfl rfl) rfl
theorem dX4_others_241 : decode cX4_others 241 = .ok (.if_icmp .ge 26, 3) := dn_162 (ob_cX4_others_6 0 rfl rfl) (by decide +kernel)
theorem dX4_others_244 : decode cX4_others 244 = .ok (.aload 4, 2) := dn_25 (ob_cX4_others_6 3 rfl rfl) rfl
theorem dX4_others_246 : decode cX4_others 246 = .ok (.iload 6, 2) := dn_21 (ob_cX4_others_6 5 rfl rfl) rfl
theorem dX4_others_248 : decode cX4_others 248 = .ok (.iaload, 1) := dn_46 (ob_cX4_others_6 7 rfl rfl)
theorem dX4_others_249 : decode cX4_others 249 = .ok (.istore 7, 2) := dn_54 (ob_cX4_others_6 8 rfl rfl) rfl
theorem dX4_others_251 : decode cX4_others 251 = .ok (.aload_n 0, 1) := dn_42 (ob_cX4_others_6 10 rfl rfl)
theorem dX4_others_252 : decode cX4_others 252 = .ok (.bipush 28, 2) := dn_16 (ob_cX4_others_6 11 rfl rfl) (by decide +kernel)
theorem dX4_others_254 : decode cX4_others 254 = .ok (.iload 7, 2) := dn_21 (ob_cX4_others_6 13 rfl rfl) rfl
theorem dX4_others_256 : decode cX4_others 256 = .ok (.iload 7, 2) := dn_21 (ob_cX4_others_6 15 rfl rfl) rfl
theorem dX4_others_258 : decode cX4_others 258 = .ok (.invokevirtual 34, 3) := dn_182 (ob_cX4_others_6 17 rfl rfl) rfl
theorem dX4_others_261 : decode cX4_others 261 = .ok (.iinc 6 1, 3) := dn_132 (ob_cX4_others_6 20 rfl rfl) rfl (by decide +kernel)
theorem dX4_others_264 : decode cX4_others 264 = .ok (.goto (-27), 3) := dn_167 (ob_cX4_others_6 23 rfl rfl) (by decide +kernel)
theorem dX4_others_267 : decode cX4_others 267 = .ok (.aload_n 0, 1) := dn_42 (ob_cX4_others_6 26 rfl rfl)
theorem dX4_others_268 : decode cX4_others 268 = .ok (.bipush 29, 2) := dn_16 (ob_cX4_others_6 27 rfl rfl) (by decide +kernel)
theorem dX4_others_270 : decode cX4_others 270 = .ok (.sipush 171, 3) := dn_17 (ob_cX4_others_6 29 rfl rfl) (by decide +kernel)
theorem dX4_others_273 : decode cX4_others 273 = .ok (.sipush 171, 3) := dn_17 (ob_cX4_others_6 32 rfl rfl) (by decide +kernel)
theorem dX4_others_276 : decode cX4_others 276 = .ok (.invokevirtual 34, 3) := dn_182 (ob_cX4_others_6 35 rfl rfl) rfl
theorem dX4_others_279 : decode cX4_others 279 = .ok (.aload_n 0, 1) := dn_42 (ob_cX4_others_6 38 rfl rfl)
theorem dX4_others_280 : decode cX4_others 280 = .ok (.bipush 30, 2) := dn_16 (ob_cX4_others_6 39 rfl rfl) (by decide +kernel)
theorem dX4_others_282 : decode cX4_others 282 = .ok (.sipush 187, 3) := dn_17 (ob_cX4_others_7 0 rfl rfl) (by decide +kernel)
theorem dX4_others_285 : decode cX4_others 285 = .ok (.sipush 187, 3) := dn_17 (ob_cX4_others_7 3 rfl rfl) (by decide +kernel)
theorem dX4_others_288 : decode cX4_others 288 = .ok (.invokevirtual 34, 3) := dn_182 (ob_cX4_others_7 6 rfl rfl) rfl
theorem dX4_others_291 : decode cX4_others 291 = .ok (.return_, 1) := dn_177 (ob_cX4_others_7 9 rfl rfl)
def kb_cX4_isLetter : List UInt8 := [26, 4, 159, 0, 13, 26, 5, 159, 0, 8, 26, 8, 160, 0, 7, 4, 167, 0, 4, 3, 172]
set_option maxRecDepth 10000 in
theorem ob_cX4_isLetter (r : Nat) {l : List UInt8} (h : kb_cX4_isLetter.drop r = l) : (cX4_isLetter).data.toList.drop r = l := by
  rw [show (cX4_isLetter).data.toList = kb_cX4_isLetter from eqL_eq (by decide +kernel)]
  exact h
theorem dX4_isLetter_0 : decode cX4_isLetter 0 = .ok (.iload_n 0, 1) := dn_26 (ob_cX4_isLetter 0 rfl)
theorem dX4_isLetter_1 : decode cX4_isLetter 1 = .ok (.iconst 1, 1) := dn_4 (ob_cX4_isLetter 1 rfl)
theorem dX4_isLetter_2 : decode cX4_isLetter 2 = .ok (.if_icmp .eq 13, 3) := dn_159 (ob_cX4_isLetter 2 rfl) (by decide +kernel)
theorem dX4_isLetter_5 : decode cX4_isLetter 5 = .ok (.iload_n 0, 1) := dn_26 (ob_cX4_isLetter 5 rfl)
theorem dX4_isLetter_6 : decode cX4_isLetter 6 = .ok (.iconst 2, 1) := dn_5 (ob_cX4_isLetter 6 rfl)
theorem dX4_isLetter_7 : decode cX4_isLetter 7 = .ok (.if_icmp .eq 8, 3) := dn_159 (ob_cX4_isLetter 7 rfl) (by decide +kernel)
theorem dX4_isLetter_10 : decode cX4_isLetter 10 = .ok (.iload_n 0, 1) := dn_26 (ob_cX4_isLetter 10 rfl)
theorem dX4_isLetter_11 : decode cX4_isLetter 11 = .ok (.iconst 5, 1) := dn_8 (ob_cX4_isLetter 11 rfl)
theorem dX4_isLetter_12 : decode cX4_isLetter 12 = .ok (.if_icmp .ne 7, 3) := dn_160 (ob_cX4_isLetter 12 rfl) (by decide +kernel)
theorem dX4_isLetter_15 : decode cX4_isLetter 15 = .ok (.iconst 1, 1) := dn_4 (ob_cX4_isLetter 15 rfl)
theorem dX4_isLetter_16 : decode cX4_isLetter 16 = .ok (.goto 4, 3) := dn_167 (ob_cX4_isLetter 16 rfl) (by decide +kernel)
theorem dX4_isLetter_19 : decode cX4_isLetter 19 = .ok (.iconst 0, 1) := dn_3 (ob_cX4_isLetter 19 rfl)
theorem dX4_isLetter_20 : decode cX4_isLetter 20 = .ok (.ireturn, 1) := dn_172 (ob_cX4_isLetter 20 rfl)
def kb_cX4_isBlank : List UInt8 := [26, 16, 8, 164, 0, 9, 26, 16, 14, 161, 0, 15, 26, 16, 27, 164, 0, 13, 26, 16, 33, 162, 0, 7, 4, 167, 0, 4, 3, 172]
set_option maxRecDepth 10000 in
theorem ob_cX4_isBlank (r : Nat) {l : List UInt8} (h : kb_cX4_isBlank.drop r = l) : (cX4_isBlank).data.toList.drop r = l := by
  rw [show (cX4_isBlank).data.toList = kb_cX4_isBlank from eqL_eq (by decide +kernel)]
  exact h
theorem dX4_isBlank_0 : decode cX4_isBlank 0 = .ok (.iload_n 0, 1) := dn_26 (ob_cX4_isBlank 0 rfl)
theorem dX4_isBlank_1 : decode cX4_isBlank 1 = .ok (.bipush 8, 2) := dn_16 (ob_cX4_isBlank 1 rfl) (by decide +kernel)
theorem dX4_isBlank_3 : decode cX4_isBlank 3 = .ok (.if_icmp .le 9, 3) := dn_164 (ob_cX4_isBlank 3 rfl) (by decide +kernel)
theorem dX4_isBlank_6 : decode cX4_isBlank 6 = .ok (.iload_n 0, 1) := dn_26 (ob_cX4_isBlank 6 rfl)
theorem dX4_isBlank_7 : decode cX4_isBlank 7 = .ok (.bipush 14, 2) := dn_16 (ob_cX4_isBlank 7 rfl) (by decide +kernel)
theorem dX4_isBlank_9 : decode cX4_isBlank 9 = .ok (.if_icmp .lt 15, 3) := dn_161 (ob_cX4_isBlank 9 rfl) (by decide +kernel)
theorem dX4_isBlank_12 : decode cX4_isBlank 12 = .ok (.iload_n 0, 1) := dn_26 (ob_cX4_isBlank 12 rfl)
theorem dX4_isBlank_13 : decode cX4_isBlank 13 = .ok (.bipush 27, 2) := dn_16 (ob_cX4_isBlank 13 rfl) (by decide +kernel)
theorem dX4_isBlank_15 : decode cX4_isBlank 15 = .ok (.if_icmp .le 13, 3) := dn_164 (ob_cX4_isBlank 15 rfl) (by decide +kernel)
theorem dX4_isBlank_18 : decode cX4_isBlank 18 = .ok (.iload_n 0, 1) := dn_26 (ob_cX4_isBlank 18 rfl)
theorem dX4_isBlank_19 : decode cX4_isBlank 19 = .ok (.bipush 33, 2) := dn_16 (ob_cX4_isBlank 19 rfl) (by decide +kernel)
theorem dX4_isBlank_21 : decode cX4_isBlank 21 = .ok (.if_icmp .ge 7, 3) := dn_162 (ob_cX4_isBlank 21 rfl) (by decide +kernel)
theorem dX4_isBlank_24 : decode cX4_isBlank 24 = .ok (.iconst 1, 1) := dn_4 (ob_cX4_isBlank 24 rfl)
theorem dX4_isBlank_25 : decode cX4_isBlank 25 = .ok (.goto 4, 3) := dn_167 (ob_cX4_isBlank 25 rfl) (by decide +kernel)
theorem dX4_isBlank_28 : decode cX4_isBlank 28 = .ok (.iconst 0, 1) := dn_3 (ob_cX4_isBlank 28 rfl)
theorem dX4_isBlank_29 : decode cX4_isBlank 29 = .ok (.ireturn, 1) := dn_172 (ob_cX4_isBlank 29 rfl)
def kb_cX4_isSo_0 : List UInt8 := [42, 180, 0, 7, 27, 46, 62, 28, 170, 0, 0, 0, 0, 0, 1, 7, 0, 0, 0, 0, 0, 0, 0, 12, 0, 0, 0, 68, 0, 0, 0, 70, 0, 0, 0, 75, 0, 0, 0, 87, 0, 0, 0, 106, 0, 0, 0, 117, 0, 0, 0, 133, 0, 0, 0, 135, 0, 0, 0, 140, 0, 0, 0, 152, 0, 0, 0, 164, 0, 0, 0, 206, 0, 0, 0, 231]
def kb_cX4_isSo_1 : List UInt8 := [4, 172, 29, 184, 0, 38, 172, 29, 16, 9, 160, 0, 7, 4, 167, 0, 4, 3, 172, 29, 184, 0, 38, 154, 0, 9, 29, 16, 9, 160, 0, 7, 4, 167, 0, 4, 3, 172, 29, 4]
def kb_cX4_isSo_2 : List UInt8 := [160, 0, 7, 4, 167, 0, 4, 3, 172, 29, 5, 159, 0, 8, 29, 8, 160, 0, 7, 4, 167, 0, 4, 3, 172, 3, 172, 27, 184, 0, 42, 172, 29, 16, 12, 160, 0, 7, 4, 167, 0, 4]
def kb_cX4_isSo_3 : List UInt8 := [3, 172, 29, 16, 15, 160, 0, 7, 4, 167, 0, 4, 3, 172, 29, 16, 21, 159, 0, 33, 29, 16, 22, 159, 0, 27, 29, 16, 29, 159, 0, 21, 29, 16, 30, 159, 0, 15, 27, 16, 60]
def kb_cX4_isSo_4 : List UInt8 := [159, 0, 9, 27, 16, 62, 160, 0, 7, 4, 167, 0, 4, 3, 172, 29, 184, 0, 38, 154, 0, 15, 29, 16, 23, 159, 0, 9, 29, 16, 26, 160, 0, 7, 4, 167, 0, 4, 3, 172]
def kb_cX4_isSo_5 : List UInt8 := [42, 27, 16, 11, 182, 0, 45, 154, 0, 19, 29, 16, 9, 159, 0, 13, 42, 27, 16, 13, 182, 0, 45, 153, 0, 7, 4, 167, 0, 4, 3, 172, 29, 16, 16, 159, 0, 16, 29, 16, 15]
def kb_cX4_isSo_6 : List UInt8 := [160, 0, 14, 27, 184, 0, 42, 154, 0, 7, 4, 167, 0, 4, 3, 172]
def tb_cX4_isSo_7 : List UInt8 := []
def tb_cX4_isSo_6 : List UInt8 := kb_cX4_isSo_6 ++ tb_cX4_isSo_7
def tb_cX4_isSo_5 : List UInt8 := kb_cX4_isSo_5 ++ tb_cX4_isSo_6
def tb_cX4_isSo_4 : List UInt8 := kb_cX4_isSo_4 ++ tb_cX4_isSo_5
def tb_cX4_isSo_3 : List UInt8 := kb_cX4_isSo_3 ++ tb_cX4_isSo_4
def tb_cX4_isSo_2 : List UInt8 := kb_cX4_isSo_2 ++ tb_cX4_isSo_3
def tb_cX4_isSo_1 : List UInt8 := kb_cX4_isSo_1 ++ tb_cX4_isSo_2
def tb_cX4_isSo_0 : List UInt8 := kb_cX4_isSo_0 ++ tb_cX4_isSo_1
set_option maxRecDepth 100000 in
theorem tb_cX4_isSo : (cX4_isSo).data.toList = tb_cX4_isSo_0 := eqL_eq (by decide +kernel)
theorem ow_cX4_isSo_0 (r : Nat) : (cX4_isSo).data.toList.drop (0 + r) = tb_cX4_isSo_0.drop r := by rw [tb_cX4_isSo, Nat.zero_add]
theorem ow_cX4_isSo_1 (r : Nat) : (cX4_isSo).data.toList.drop (76 + r) = tb_cX4_isSo_1.drop r := by
  have e := ow_cX4_isSo_0 (76 + r)
  rw [show 0 + (76 + r) = 76 + r by omega] at e
  exact e.trans (dr_len (a := kb_cX4_isSo_0) (t := tb_cX4_isSo_1) (by decide +kernel))
theorem ow_cX4_isSo_2 (r : Nat) : (cX4_isSo).data.toList.drop (116 + r) = tb_cX4_isSo_2.drop r := by
  have e := ow_cX4_isSo_1 (40 + r)
  rw [show 76 + (40 + r) = 116 + r by omega] at e
  exact e.trans (dr_len (a := kb_cX4_isSo_1) (t := tb_cX4_isSo_2) (by decide +kernel))
theorem ow_cX4_isSo_3 (r : Nat) : (cX4_isSo).data.toList.drop (158 + r) = tb_cX4_isSo_3.drop r := by
  have e := ow_cX4_isSo_2 (42 + r)
  rw [show 116 + (42 + r) = 158 + r by omega] at e
  exact e.trans (dr_len (a := kb_cX4_isSo_2) (t := tb_cX4_isSo_3) (by decide +kernel))
theorem ow_cX4_isSo_4 (r : Nat) : (cX4_isSo).data.toList.drop (199 + r) = tb_cX4_isSo_4.drop r := by
  have e := ow_cX4_isSo_3 (41 + r)
  rw [show 158 + (41 + r) = 199 + r by omega] at e
  exact e.trans (dr_len (a := kb_cX4_isSo_3) (t := tb_cX4_isSo_4) (by decide +kernel))
theorem ow_cX4_isSo_5 (r : Nat) : (cX4_isSo).data.toList.drop (239 + r) = tb_cX4_isSo_5.drop r := by
  have e := ow_cX4_isSo_4 (40 + r)
  rw [show 199 + (40 + r) = 239 + r by omega] at e
  exact e.trans (dr_len (a := kb_cX4_isSo_4) (t := tb_cX4_isSo_5) (by decide +kernel))
theorem ow_cX4_isSo_6 (r : Nat) : (cX4_isSo).data.toList.drop (280 + r) = tb_cX4_isSo_6.drop r := by
  have e := ow_cX4_isSo_5 (41 + r)
  rw [show 239 + (41 + r) = 280 + r by omega] at e
  exact e.trans (dr_len (a := kb_cX4_isSo_5) (t := tb_cX4_isSo_6) (by decide +kernel))
theorem ob_cX4_isSo_0 (r : Nat) {pc : Nat} {l : List UInt8} (hp : 0 + r = pc) (h : tb_cX4_isSo_0.drop r = l) : (cX4_isSo).data.toList.drop pc = l := by
  subst hp
  exact (ow_cX4_isSo_0 r).trans h
theorem ob_cX4_isSo_1 (r : Nat) {pc : Nat} {l : List UInt8} (hp : 76 + r = pc) (h : tb_cX4_isSo_1.drop r = l) : (cX4_isSo).data.toList.drop pc = l := by
  subst hp
  exact (ow_cX4_isSo_1 r).trans h
theorem ob_cX4_isSo_2 (r : Nat) {pc : Nat} {l : List UInt8} (hp : 116 + r = pc) (h : tb_cX4_isSo_2.drop r = l) : (cX4_isSo).data.toList.drop pc = l := by
  subst hp
  exact (ow_cX4_isSo_2 r).trans h
theorem ob_cX4_isSo_3 (r : Nat) {pc : Nat} {l : List UInt8} (hp : 158 + r = pc) (h : tb_cX4_isSo_3.drop r = l) : (cX4_isSo).data.toList.drop pc = l := by
  subst hp
  exact (ow_cX4_isSo_3 r).trans h
theorem ob_cX4_isSo_4 (r : Nat) {pc : Nat} {l : List UInt8} (hp : 199 + r = pc) (h : tb_cX4_isSo_4.drop r = l) : (cX4_isSo).data.toList.drop pc = l := by
  subst hp
  exact (ow_cX4_isSo_4 r).trans h
theorem ob_cX4_isSo_5 (r : Nat) {pc : Nat} {l : List UInt8} (hp : 239 + r = pc) (h : tb_cX4_isSo_5.drop r = l) : (cX4_isSo).data.toList.drop pc = l := by
  subst hp
  exact (ow_cX4_isSo_5 r).trans h
theorem ob_cX4_isSo_6 (r : Nat) {pc : Nat} {l : List UInt8} (hp : 280 + r = pc) (h : tb_cX4_isSo_6.drop r = l) : (cX4_isSo).data.toList.drop pc = l := by
  subst hp
  exact (ow_cX4_isSo_6 r).trans h
theorem dX4_isSo_0 : decode cX4_isSo 0 = .ok (.aload_n 0, 1) := dn_42 (ob_cX4_isSo_0 0 rfl rfl)
theorem dX4_isSo_1 : decode cX4_isSo 1 = .ok (.getfield 7, 3) := dn_180 (ob_cX4_isSo_0 1 rfl rfl) rfl
theorem dX4_isSo_4 : decode cX4_isSo 4 = .ok (.iload_n 1, 1) := dn_27 (ob_cX4_isSo_0 4 rfl rfl)
theorem dX4_isSo_5 : decode cX4_isSo 5 = .ok (.iaload, 1) := dn_46 (ob_cX4_isSo_0 5 rfl rfl)
theorem dX4_isSo_6 : decode cX4_isSo 6 = .ok (.istore_n 3, 1) := dn_62 (ob_cX4_isSo_0 6 rfl rfl)
theorem dX4_isSo_7 : decode cX4_isSo 7 = .ok (.iload_n 2, 1) := dn_28 (ob_cX4_isSo_0 7 rfl rfl)
theorem dX4_isSo_8 : decode cX4_isSo 8 = .ok (.tableswitch 263 0 12 #[68, 70, 75, 87, 106, 117, 133, 135, 140, 152, 164, 206, 231], 68) := by decide +kernel
theorem dX4_isSo_76 : decode cX4_isSo 76 = .ok (.iconst 1, 1) := dn_4 (ob_cX4_isSo_1 0 rfl rfl)
theorem dX4_isSo_77 : decode cX4_isSo 77 = .ok (.ireturn, 1) := dn_172 (ob_cX4_isSo_1 1 rfl rfl)
theorem dX4_isSo_78 : decode cX4_isSo 78 = .ok (.iload_n 3, 1) := dn_29 (ob_cX4_isSo_1 2 rfl rfl)
theorem dX4_isSo_79 : decode cX4_isSo 79 = .ok (.invokestatic 38, 3) := dn_184 (ob_cX4_isSo_1 3 rfl rfl) rfl
theorem dX4_isSo_82 : decode cX4_isSo 82 = .ok (.ireturn, 1) := dn_172 (ob_cX4_isSo_1 6 rfl rfl)
theorem dX4_isSo_83 : decode cX4_isSo 83 = .ok (.iload_n 3, 1) := dn_29 (ob_cX4_isSo_1 7 rfl rfl)
theorem dX4_isSo_84 : decode cX4_isSo 84 = .ok (.bipush 9, 2) := dn_16 (ob_cX4_isSo_1 8 rfl rfl) (by decide +kernel)
theorem dX4_isSo_86 : decode cX4_isSo 86 = .ok (.if_icmp .ne 7, 3) := dn_160 (ob_cX4_isSo_1 10 rfl rfl) (by decide +kernel)
theorem dX4_isSo_89 : decode cX4_isSo 89 = .ok (.iconst 1, 1) := dn_4 (ob_cX4_isSo_1 13 rfl rfl)
theorem dX4_isSo_90 : decode cX4_isSo 90 = .ok (.goto 4, 3) := dn_167 (ob_cX4_isSo_1 14 rfl rfl) (by decide +kernel)
theorem dX4_isSo_93 : decode cX4_isSo 93 = .ok (.iconst 0, 1) := dn_3 (ob_cX4_isSo_1 17 rfl rfl)
theorem dX4_isSo_94 : decode cX4_isSo 94 = .ok (.ireturn, 1) := dn_172 (ob_cX4_isSo_1 18 rfl rfl)
theorem dX4_isSo_95 : decode cX4_isSo 95 = .ok (.iload_n 3, 1) := dn_29 (ob_cX4_isSo_1 19 rfl rfl)
theorem dX4_isSo_96 : decode cX4_isSo 96 = .ok (.invokestatic 38, 3) := dn_184 (ob_cX4_isSo_1 20 rfl rfl) rfl
theorem dX4_isSo_99 : decode cX4_isSo 99 = .ok (.ifCond .ne 9, 3) := dn_154 (ob_cX4_isSo_1 23 rfl rfl) (by decide +kernel)
theorem dX4_isSo_102 : decode cX4_isSo 102 = .ok (.iload_n 3, 1) := dn_29 (ob_cX4_isSo_1 26 rfl rfl)
theorem dX4_isSo_103 : decode cX4_isSo 103 = .ok (.bipush 9, 2) := dn_16 (ob_cX4_isSo_1 27 rfl rfl) (by decide +kernel)
theorem dX4_isSo_105 : decode cX4_isSo 105 = .ok (.if_icmp .ne 7, 3) := dn_160 (ob_cX4_isSo_1 29 rfl rfl) (by decide +kernel)
theorem dX4_isSo_108 : decode cX4_isSo 108 = .ok (.iconst 1, 1) := dn_4 (ob_cX4_isSo_1 32 rfl rfl)
theorem dX4_isSo_109 : decode cX4_isSo 109 = .ok (.goto 4, 3) := dn_167 (ob_cX4_isSo_1 33 rfl rfl) (by decide +kernel)
theorem dX4_isSo_112 : decode cX4_isSo 112 = .ok (.iconst 0, 1) := dn_3 (ob_cX4_isSo_1 36 rfl rfl)
theorem dX4_isSo_113 : decode cX4_isSo 113 = .ok (.ireturn, 1) := dn_172 (ob_cX4_isSo_1 37 rfl rfl)
theorem dX4_isSo_114 : decode cX4_isSo 114 = .ok (.iload_n 3, 1) := dn_29 (ob_cX4_isSo_1 38 rfl rfl)
theorem dX4_isSo_115 : decode cX4_isSo 115 = .ok (.iconst 1, 1) := dn_4 (ob_cX4_isSo_1 39 rfl rfl)
theorem dX4_isSo_116 : decode cX4_isSo 116 = .ok (.if_icmp .ne 7, 3) := dn_160 (ob_cX4_isSo_2 0 rfl rfl) (by decide +kernel)
theorem dX4_isSo_119 : decode cX4_isSo 119 = .ok (.iconst 1, 1) := dn_4 (ob_cX4_isSo_2 3 rfl rfl)
theorem dX4_isSo_120 : decode cX4_isSo 120 = .ok (.goto 4, 3) := dn_167 (ob_cX4_isSo_2 4 rfl rfl) (by decide +kernel)
theorem dX4_isSo_123 : decode cX4_isSo 123 = .ok (.iconst 0, 1) := dn_3 (ob_cX4_isSo_2 7 rfl rfl)
theorem dX4_isSo_124 : decode cX4_isSo 124 = .ok (.ireturn, 1) := dn_172 (ob_cX4_isSo_2 8 rfl rfl)
theorem dX4_isSo_125 : decode cX4_isSo 125 = .ok (.iload_n 3, 1) := dn_29 (ob_cX4_isSo_2 9 rfl rfl)
theorem dX4_isSo_126 : decode cX4_isSo 126 = .ok (.iconst 2, 1) := dn_5 (ob_cX4_isSo_2 10 rfl rfl)
theorem dX4_isSo_127 : decode cX4_isSo 127 = .ok (.if_icmp .eq 8, 3) := dn_159 (ob_cX4_isSo_2 11 rfl rfl) (by decide +kernel)
theorem dX4_isSo_130 : decode cX4_isSo 130 = .ok (.iload_n 3, 1) := dn_29 (ob_cX4_isSo_2 14 rfl rfl)
theorem dX4_isSo_131 : decode cX4_isSo 131 = .ok (.iconst 5, 1) := dn_8 (ob_cX4_isSo_2 15 rfl rfl)
theorem dX4_isSo_132 : decode cX4_isSo 132 = .ok (.if_icmp .ne 7, 3) := dn_160 (ob_cX4_isSo_2 16 rfl rfl) (by decide +kernel)
theorem dX4_isSo_135 : decode cX4_isSo 135 = .ok (.iconst 1, 1) := dn_4 (ob_cX4_isSo_2 19 rfl rfl)
theorem dX4_isSo_136 : decode cX4_isSo 136 = .ok (.goto 4, 3) := dn_167 (ob_cX4_isSo_2 20 rfl rfl) (by decide +kernel)
theorem dX4_isSo_139 : decode cX4_isSo 139 = .ok (.iconst 0, 1) := dn_3 (ob_cX4_isSo_2 23 rfl rfl)
theorem dX4_isSo_140 : decode cX4_isSo 140 = .ok (.ireturn, 1) := dn_172 (ob_cX4_isSo_2 24 rfl rfl)
theorem dX4_isSo_141 : decode cX4_isSo 141 = .ok (.iconst 0, 1) := dn_3 (ob_cX4_isSo_2 25 rfl rfl)
theorem dX4_isSo_142 : decode cX4_isSo 142 = .ok (.ireturn, 1) := dn_172 (ob_cX4_isSo_2 26 rfl rfl)
theorem dX4_isSo_143 : decode cX4_isSo 143 = .ok (.iload_n 1, 1) := dn_27 (ob_cX4_isSo_2 27 rfl rfl)
theorem dX4_isSo_144 : decode cX4_isSo 144 = .ok (.invokestatic 42, 3) := dn_184 (ob_cX4_isSo_2 28 rfl rfl) rfl
theorem dX4_isSo_147 : decode cX4_isSo 147 = .ok (.ireturn, 1) := dn_172 (ob_cX4_isSo_2 31 rfl rfl)
theorem dX4_isSo_148 : decode cX4_isSo 148 = .ok (.iload_n 3, 1) := dn_29 (ob_cX4_isSo_2 32 rfl rfl)
theorem dX4_isSo_149 : decode cX4_isSo 149 = .ok (.bipush 12, 2) := dn_16 (ob_cX4_isSo_2 33 rfl rfl) (by decide +kernel)
theorem dX4_isSo_151 : decode cX4_isSo 151 = .ok (.if_icmp .ne 7, 3) := dn_160 (ob_cX4_isSo_2 35 rfl rfl) (by decide +kernel)
theorem dX4_isSo_154 : decode cX4_isSo 154 = .ok (.iconst 1, 1) := dn_4 (ob_cX4_isSo_2 38 rfl rfl)
theorem dX4_isSo_155 : decode cX4_isSo 155 = .ok (.goto 4, 3) := dn_167 (ob_cX4_isSo_2 39 rfl rfl) (by decide +kernel)
theorem dX4_isSo_158 : decode cX4_isSo 158 = .ok (.iconst 0, 1) := dn_3 (ob_cX4_isSo_3 0 rfl rfl)
theorem dX4_isSo_159 : decode cX4_isSo 159 = .ok (.ireturn, 1) := dn_172 (ob_cX4_isSo_3 1 rfl rfl)
theorem dX4_isSo_160 : decode cX4_isSo 160 = .ok (.iload_n 3, 1) := dn_29 (ob_cX4_isSo_3 2 rfl rfl)
theorem dX4_isSo_161 : decode cX4_isSo 161 = .ok (.bipush 15, 2) := dn_16 (ob_cX4_isSo_3 3 rfl rfl) (by decide +kernel)
theorem dX4_isSo_163 : decode cX4_isSo 163 = .ok (.if_icmp .ne 7, 3) := dn_160 (ob_cX4_isSo_3 5 rfl rfl) (by decide +kernel)
theorem dX4_isSo_166 : decode cX4_isSo 166 = .ok (.iconst 1, 1) := dn_4 (ob_cX4_isSo_3 8 rfl rfl)
theorem dX4_isSo_167 : decode cX4_isSo 167 = .ok (.goto 4, 3) := dn_167 (ob_cX4_isSo_3 9 rfl rfl) (by decide +kernel)
theorem dX4_isSo_170 : decode cX4_isSo 170 = .ok (.iconst 0, 1) := dn_3 (ob_cX4_isSo_3 12 rfl rfl)
theorem dX4_isSo_171 : decode cX4_isSo 171 = .ok (.ireturn, 1) := dn_172 (ob_cX4_isSo_3 13 rfl rfl)
theorem dX4_isSo_172 : decode cX4_isSo 172 = .ok (.iload_n 3, 1) := dn_29 (ob_cX4_isSo_3 14 rfl rfl)
theorem dX4_isSo_173 : decode cX4_isSo 173 = .ok (.bipush 21, 2) := dn_16 (ob_cX4_isSo_3 15 rfl rfl) (by decide +kernel)
theorem dX4_isSo_175 : decode cX4_isSo 175 = .ok (.if_icmp .eq 33, 3) := dn_159 (ob_cX4_isSo_3 17 rfl rfl) (by decide +kernel)
theorem dX4_isSo_178 : decode cX4_isSo 178 = .ok (.iload_n 3, 1) := dn_29 (ob_cX4_isSo_3 20 rfl rfl)
theorem dX4_isSo_179 : decode cX4_isSo 179 = .ok (.bipush 22, 2) := dn_16 (ob_cX4_isSo_3 21 rfl rfl) (by decide +kernel)
theorem dX4_isSo_181 : decode cX4_isSo 181 = .ok (.if_icmp .eq 27, 3) := dn_159 (ob_cX4_isSo_3 23 rfl rfl) (by decide +kernel)
theorem dX4_isSo_184 : decode cX4_isSo 184 = .ok (.iload_n 3, 1) := dn_29 (ob_cX4_isSo_3 26 rfl rfl)
theorem dX4_isSo_185 : decode cX4_isSo 185 = .ok (.bipush 29, 2) := dn_16 (ob_cX4_isSo_3 27 rfl rfl) (by decide +kernel)
theorem dX4_isSo_187 : decode cX4_isSo 187 = .ok (.if_icmp .eq 21, 3) := dn_159 (ob_cX4_isSo_3 29 rfl rfl) (by decide +kernel)
theorem dX4_isSo_190 : decode cX4_isSo 190 = .ok (.iload_n 3, 1) := dn_29 (ob_cX4_isSo_3 32 rfl rfl)
theorem dX4_isSo_191 : decode cX4_isSo 191 = .ok (.bipush 30, 2) := dn_16 (ob_cX4_isSo_3 33 rfl rfl) (by decide +kernel)
theorem dX4_isSo_193 : decode cX4_isSo 193 = .ok (.if_icmp .eq 15, 3) := dn_159 (ob_cX4_isSo_3 35 rfl rfl) (by decide +kernel)
theorem dX4_isSo_196 : decode cX4_isSo 196 = .ok (.iload_n 1, 1) := dn_27 (ob_cX4_isSo_3 38 rfl rfl)
theorem dX4_isSo_197 : decode cX4_isSo 197 = .ok (.bipush 60, 2) := dn_16 (ob_cX4_isSo_3 39 rfl rfl) (by decide +kernel)
theorem dX4_isSo_199 : decode cX4_isSo 199 = .ok (.if_icmp .eq 9, 3) := dn_159 (ob_cX4_isSo_4 0 rfl rfl) (by decide +kernel)
theorem dX4_isSo_202 : decode cX4_isSo 202 = .ok (.iload_n 1, 1) := dn_27 (ob_cX4_isSo_4 3 rfl rfl)
theorem dX4_isSo_203 : decode cX4_isSo 203 = .ok (.bipush 62, 2) := dn_16 (ob_cX4_isSo_4 4 rfl rfl) (by decide +kernel)
theorem dX4_isSo_205 : decode cX4_isSo 205 = .ok (.if_icmp .ne 7, 3) := dn_160 (ob_cX4_isSo_4 6 rfl rfl) (by decide +kernel)
theorem dX4_isSo_208 : decode cX4_isSo 208 = .ok (.iconst 1, 1) := dn_4 (ob_cX4_isSo_4 9 rfl rfl)
theorem dX4_isSo_209 : decode cX4_isSo 209 = .ok (.goto 4, 3) := dn_167 (ob_cX4_isSo_4 10 rfl rfl) (by decide +kernel)
theorem dX4_isSo_212 : decode cX4_isSo 212 = .ok (.iconst 0, 1) := dn_3 (ob_cX4_isSo_4 13 rfl rfl)
theorem dX4_isSo_213 : decode cX4_isSo 213 = .ok (.ireturn, 1) := dn_172 (ob_cX4_isSo_4 14 rfl rfl)
theorem dX4_isSo_214 : decode cX4_isSo 214 = .ok (.iload_n 3, 1) := dn_29 (ob_cX4_isSo_4 15 rfl rfl)
theorem dX4_isSo_215 : decode cX4_isSo 215 = .ok (.invokestatic 38, 3) := dn_184 (ob_cX4_isSo_4 16 rfl rfl) rfl
theorem dX4_isSo_218 : decode cX4_isSo 218 = .ok (.ifCond .ne 15, 3) := dn_154 (ob_cX4_isSo_4 19 rfl rfl) (by decide +kernel)
theorem dX4_isSo_221 : decode cX4_isSo 221 = .ok (.iload_n 3, 1) := dn_29 (ob_cX4_isSo_4 22 rfl rfl)
theorem dX4_isSo_222 : decode cX4_isSo 222 = .ok (.bipush 23, 2) := dn_16 (ob_cX4_isSo_4 23 rfl rfl) (by decide +kernel)
theorem dX4_isSo_224 : decode cX4_isSo 224 = .ok (.if_icmp .eq 9, 3) := dn_159 (ob_cX4_isSo_4 25 rfl rfl) (by decide +kernel)
theorem dX4_isSo_227 : decode cX4_isSo 227 = .ok (.iload_n 3, 1) := dn_29 (ob_cX4_isSo_4 28 rfl rfl)
theorem dX4_isSo_228 : decode cX4_isSo 228 = .ok (.bipush 26, 2) := dn_16 (ob_cX4_isSo_4 29 rfl rfl) (by decide +kernel)
theorem dX4_isSo_230 : decode cX4_isSo 230 = .ok (.if_icmp .ne 7, 3) := dn_160 (ob_cX4_isSo_4 31 rfl rfl) (by decide +kernel)
theorem dX4_isSo_233 : decode cX4_isSo 233 = .ok (.iconst 1, 1) := dn_4 (ob_cX4_isSo_4 34 rfl rfl)
theorem dX4_isSo_234 : decode cX4_isSo 234 = .ok (.goto 4, 3) := dn_167 (ob_cX4_isSo_4 35 rfl rfl) (by decide +kernel)
theorem dX4_isSo_237 : decode cX4_isSo 237 = .ok (.iconst 0, 1) := dn_3 (ob_cX4_isSo_4 38 rfl rfl)
theorem dX4_isSo_238 : decode cX4_isSo 238 = .ok (.ireturn, 1) := dn_172 (ob_cX4_isSo_4 39 rfl rfl)
theorem dX4_isSo_239 : decode cX4_isSo 239 = .ok (.aload_n 0, 1) := dn_42 (ob_cX4_isSo_5 0 rfl rfl)
theorem dX4_isSo_240 : decode cX4_isSo 240 = .ok (.iload_n 1, 1) := dn_27 (ob_cX4_isSo_5 1 rfl rfl)
theorem dX4_isSo_241 : decode cX4_isSo 241 = .ok (.bipush 11, 2) := dn_16 (ob_cX4_isSo_5 2 rfl rfl) (by decide +kernel)
theorem dX4_isSo_243 : decode cX4_isSo 243 = .ok (.invokevirtual 45, 3) := dn_182 (ob_cX4_isSo_5 4 rfl rfl) rfl
theorem dX4_isSo_246 : decode cX4_isSo 246 = .ok (.ifCond .ne 19, 3) := dn_154 (ob_cX4_isSo_5 7 rfl rfl) (by decide +kernel)
theorem dX4_isSo_249 : decode cX4_isSo 249 = .ok (.iload_n 3, 1) := dn_29 (ob_cX4_isSo_5 10 rfl rfl)
theorem dX4_isSo_250 : decode cX4_isSo 250 = .ok (.bipush 9, 2) := dn_16 (ob_cX4_isSo_5 11 rfl rfl) (by decide +kernel)
theorem dX4_isSo_252 : decode cX4_isSo 252 = .ok (.if_icmp .eq 13, 3) := dn_159 (ob_cX4_isSo_5 13 rfl rfl) (by decide +kernel)
theorem dX4_isSo_255 : decode cX4_isSo 255 = .ok (.aload_n 0, 1) := dn_42 (ob_cX4_isSo_5 16 rfl rfl)
theorem dX4_isSo_256 : decode cX4_isSo 256 = .ok (.iload_n 1, 1) := dn_27 (ob_cX4_isSo_5 17 rfl rfl)
theorem dX4_isSo_257 : decode cX4_isSo 257 = .ok (.bipush 13, 2) := dn_16 (ob_cX4_isSo_5 18 rfl rfl) (by decide +kernel)
theorem dX4_isSo_259 : decode cX4_isSo 259 = .ok (.invokevirtual 45, 3) := dn_182 (ob_cX4_isSo_5 20 rfl rfl) rfl
theorem dX4_isSo_262 : decode cX4_isSo 262 = .ok (.ifCond .eq 7, 3) := dn_153 (ob_cX4_isSo_5 23 rfl rfl) (by decide +kernel)
theorem dX4_isSo_265 : decode cX4_isSo 265 = .ok (.iconst 1, 1) := dn_4 (ob_cX4_isSo_5 26 rfl rfl)
theorem dX4_isSo_266 : decode cX4_isSo 266 = .ok (.goto 4, 3) := dn_167 (ob_cX4_isSo_5 27 rfl rfl) (by decide +kernel)
theorem dX4_isSo_269 : decode cX4_isSo 269 = .ok (.iconst 0, 1) := dn_3 (ob_cX4_isSo_5 30 rfl rfl)
theorem dX4_isSo_270 : decode cX4_isSo 270 = .ok (.ireturn, 1) := dn_172 (ob_cX4_isSo_5 31 rfl rfl)
theorem dX4_isSo_271 : decode cX4_isSo 271 = .ok (.iload_n 3, 1) := dn_29 (ob_cX4_isSo_5 32 rfl rfl)
theorem dX4_isSo_272 : decode cX4_isSo 272 = .ok (.bipush 16, 2) := dn_16 (ob_cX4_isSo_5 33 rfl rfl) (by decide +kernel)
theorem dX4_isSo_274 : decode cX4_isSo 274 = .ok (.if_icmp .eq 16, 3) := dn_159 (ob_cX4_isSo_5 35 rfl rfl) (by decide +kernel)
theorem dX4_isSo_277 : decode cX4_isSo 277 = .ok (.iload_n 3, 1) := dn_29 (ob_cX4_isSo_5 38 rfl rfl)
theorem dX4_isSo_278 : decode cX4_isSo 278 = .ok (.bipush 15, 2) := dn_16 (ob_cX4_isSo_5 39 rfl rfl) (by decide +kernel)
theorem dX4_isSo_280 : decode cX4_isSo 280 = .ok (.if_icmp .ne 14, 3) := dn_160 (ob_cX4_isSo_6 0 rfl rfl) (by decide +kernel)
theorem dX4_isSo_283 : decode cX4_isSo 283 = .ok (.iload_n 1, 1) := dn_27 (ob_cX4_isSo_6 3 rfl rfl)
theorem dX4_isSo_284 : decode cX4_isSo 284 = .ok (.invokestatic 42, 3) := dn_184 (ob_cX4_isSo_6 4 rfl rfl) rfl
theorem dX4_isSo_287 : decode cX4_isSo 287 = .ok (.ifCond .ne 7, 3) := dn_154 (ob_cX4_isSo_6 7 rfl rfl) (by decide +kernel)
theorem dX4_isSo_290 : decode cX4_isSo 290 = .ok (.iconst 1, 1) := dn_4 (ob_cX4_isSo_6 10 rfl rfl)
theorem dX4_isSo_291 : decode cX4_isSo 291 = .ok (.goto 4, 3) := dn_167 (ob_cX4_isSo_6 11 rfl rfl) (by decide +kernel)
theorem dX4_isSo_294 : decode cX4_isSo 294 = .ok (.iconst 0, 1) := dn_3 (ob_cX4_isSo_6 14 rfl rfl)
theorem dX4_isSo_295 : decode cX4_isSo 295 = .ok (.ireturn, 1) := dn_172 (ob_cX4_isSo_6 15 rfl rfl)
def kb_cX4_areAll : List UInt8 := [28, 54, 5, 21, 5, 29, 162, 0, 29, 42, 42, 180, 0, 15, 27, 50, 21, 5, 46, 21, 4, 182, 0, 45, 154, 0, 5, 3, 172, 132, 5, 1, 167, 255, 227, 4, 172]
set_option maxRecDepth 10000 in
theorem ob_cX4_areAll (r : Nat) {l : List UInt8} (h : kb_cX4_areAll.drop r = l) : (cX4_areAll).data.toList.drop r = l := by
  rw [show (cX4_areAll).data.toList = kb_cX4_areAll from eqL_eq (by decide +kernel)]
  exact h
theorem dX4_areAll_0 : decode cX4_areAll 0 = .ok (.iload_n 2, 1) := dn_28 (ob_cX4_areAll 0 rfl)
theorem dX4_areAll_1 : decode cX4_areAll 1 = .ok (.istore 5, 2) := dn_54 (ob_cX4_areAll 1 rfl) rfl
theorem dX4_areAll_3 : decode cX4_areAll 3 = .ok (.iload 5, 2) := dn_21 (ob_cX4_areAll 3 rfl) rfl
theorem dX4_areAll_5 : decode cX4_areAll 5 = .ok (.iload_n 3, 1) := dn_29 (ob_cX4_areAll 5 rfl)
theorem dX4_areAll_6 : decode cX4_areAll 6 = .ok (.if_icmp .ge 29, 3) := dn_162 (ob_cX4_areAll 6 rfl) (by decide +kernel)
theorem dX4_areAll_9 : decode cX4_areAll 9 = .ok (.aload_n 0, 1) := dn_42 (ob_cX4_areAll 9 rfl)
theorem dX4_areAll_10 : decode cX4_areAll 10 = .ok (.aload_n 0, 1) := dn_42 (ob_cX4_areAll 10 rfl)
theorem dX4_areAll_11 : decode cX4_areAll 11 = .ok (.getfield 15, 3) := dn_180 (ob_cX4_areAll 11 rfl) rfl
theorem dX4_areAll_14 : decode cX4_areAll 14 = .ok (.iload_n 1, 1) := dn_27 (ob_cX4_areAll 14 rfl)
theorem dX4_areAll_15 : decode cX4_areAll 15 = .ok (.aaload, 1) := dn_50 (ob_cX4_areAll 15 rfl)
theorem dX4_areAll_16 : decode cX4_areAll 16 = .ok (.iload 5, 2) := dn_21 (ob_cX4_areAll 16 rfl) rfl
theorem dX4_areAll_18 : decode cX4_areAll 18 = .ok (.iaload, 1) := dn_46 (ob_cX4_areAll 18 rfl)
theorem dX4_areAll_19 : decode cX4_areAll 19 = .ok (.iload 4, 2) := dn_21 (ob_cX4_areAll 19 rfl) rfl
theorem dX4_areAll_21 : decode cX4_areAll 21 = .ok (.invokevirtual 45, 3) := dn_182 (ob_cX4_areAll 21 rfl) rfl
theorem dX4_areAll_24 : decode cX4_areAll 24 = .ok (.ifCond .ne 5, 3) := dn_154 (ob_cX4_areAll 24 rfl) (by decide +kernel)
theorem dX4_areAll_27 : decode cX4_areAll 27 = .ok (.iconst 0, 1) := dn_3 (ob_cX4_areAll 27 rfl)
theorem dX4_areAll_28 : decode cX4_areAll 28 = .ok (.ireturn, 1) := dn_172 (ob_cX4_areAll 28 rfl)
theorem dX4_areAll_29 : decode cX4_areAll 29 = .ok (.iinc 5 1, 3) := dn_132 (ob_cX4_areAll 29 rfl) rfl (by decide +kernel)
theorem dX4_areAll_32 : decode cX4_areAll 32 = .ok (.goto (-29), 3) := dn_167 (ob_cX4_areAll 32 rfl) (by decide +kernel)
theorem dX4_areAll_35 : decode cX4_areAll 35 = .ok (.iconst 1, 1) := dn_4 (ob_cX4_areAll 35 rfl)
theorem dX4_areAll_36 : decode cX4_areAll 36 = .ok (.ireturn, 1) := dn_172 (ob_cX4_areAll 36 rfl)
def kb_cX4_areSum : List UInt8 := [28, 54, 4, 21, 4, 29, 162, 0, 30, 42, 180, 0, 7, 42, 180, 0, 15, 27, 50, 21, 4, 46, 46, 16, 25, 159, 0, 5, 3, 172, 132, 4, 1, 167, 255, 226, 4, 172]
set_option maxRecDepth 10000 in
theorem ob_cX4_areSum (r : Nat) {l : List UInt8} (h : kb_cX4_areSum.drop r = l) : (cX4_areSum).data.toList.drop r = l := by
  rw [show (cX4_areSum).data.toList = kb_cX4_areSum from eqL_eq (by decide +kernel)]
  exact h
theorem dX4_areSum_0 : decode cX4_areSum 0 = .ok (.iload_n 2, 1) := dn_28 (ob_cX4_areSum 0 rfl)
theorem dX4_areSum_1 : decode cX4_areSum 1 = .ok (.istore 4, 2) := dn_54 (ob_cX4_areSum 1 rfl) rfl
theorem dX4_areSum_3 : decode cX4_areSum 3 = .ok (.iload 4, 2) := dn_21 (ob_cX4_areSum 3 rfl) rfl
theorem dX4_areSum_5 : decode cX4_areSum 5 = .ok (.iload_n 3, 1) := dn_29 (ob_cX4_areSum 5 rfl)
theorem dX4_areSum_6 : decode cX4_areSum 6 = .ok (.if_icmp .ge 30, 3) := dn_162 (ob_cX4_areSum 6 rfl) (by decide +kernel)
theorem dX4_areSum_9 : decode cX4_areSum 9 = .ok (.aload_n 0, 1) := dn_42 (ob_cX4_areSum 9 rfl)
theorem dX4_areSum_10 : decode cX4_areSum 10 = .ok (.getfield 7, 3) := dn_180 (ob_cX4_areSum 10 rfl) rfl
theorem dX4_areSum_13 : decode cX4_areSum 13 = .ok (.aload_n 0, 1) := dn_42 (ob_cX4_areSum 13 rfl)
theorem dX4_areSum_14 : decode cX4_areSum 14 = .ok (.getfield 15, 3) := dn_180 (ob_cX4_areSum 14 rfl) rfl
theorem dX4_areSum_17 : decode cX4_areSum 17 = .ok (.iload_n 1, 1) := dn_27 (ob_cX4_areSum 17 rfl)
theorem dX4_areSum_18 : decode cX4_areSum 18 = .ok (.aaload, 1) := dn_50 (ob_cX4_areSum 18 rfl)
theorem dX4_areSum_19 : decode cX4_areSum 19 = .ok (.iload 4, 2) := dn_21 (ob_cX4_areSum 19 rfl) rfl
theorem dX4_areSum_21 : decode cX4_areSum 21 = .ok (.iaload, 1) := dn_46 (ob_cX4_areSum 21 rfl)
theorem dX4_areSum_22 : decode cX4_areSum 22 = .ok (.iaload, 1) := dn_46 (ob_cX4_areSum 22 rfl)
theorem dX4_areSum_23 : decode cX4_areSum 23 = .ok (.bipush 25, 2) := dn_16 (ob_cX4_areSum 23 rfl) (by decide +kernel)
theorem dX4_areSum_25 : decode cX4_areSum 25 = .ok (.if_icmp .eq 5, 3) := dn_159 (ob_cX4_areSum 25 rfl) (by decide +kernel)
theorem dX4_areSum_28 : decode cX4_areSum 28 = .ok (.iconst 0, 1) := dn_3 (ob_cX4_areSum 28 rfl)
theorem dX4_areSum_29 : decode cX4_areSum 29 = .ok (.ireturn, 1) := dn_172 (ob_cX4_areSum 29 rfl)
theorem dX4_areSum_30 : decode cX4_areSum 30 = .ok (.iinc 4 1, 3) := dn_132 (ob_cX4_areSum 30 rfl) rfl (by decide +kernel)
theorem dX4_areSum_33 : decode cX4_areSum 33 = .ok (.goto (-30), 3) := dn_167 (ob_cX4_areSum 33 rfl) (by decide +kernel)
theorem dX4_areSum_36 : decode cX4_areSum 36 = .ok (.iconst 1, 1) := dn_4 (ob_cX4_areSum 36 rfl)
theorem dX4_areSum_37 : decode cX4_areSum 37 = .ok (.ireturn, 1) := dn_172 (ob_cX4_areSum 37 rfl)
def kb_cX4_sortOf_0 : List UInt8 := [42, 42, 180, 0, 15, 27, 50, 28, 46, 16, 11, 182, 0, 45, 153, 0, 17, 42, 27, 28, 29, 16, 12, 182, 0, 49, 153, 0, 5, 3, 172, 42, 27, 28, 29, 5, 182, 0, 49, 153, 0, 5]
def kb_cX4_sortOf_1 : List UInt8 := [4, 172, 42, 27, 28, 29, 16, 7, 182, 0, 49, 153, 0, 5, 5, 172, 42, 27, 28, 29, 182, 0, 53, 153, 0, 7, 6, 167, 0, 15, 29, 28, 4, 96, 160, 0, 7, 7, 167, 0, 4]
def kb_cX4_sortOf_2 : List UInt8 := [2, 172]
def tb_cX4_sortOf_3 : List UInt8 := []
def tb_cX4_sortOf_2 : List UInt8 := kb_cX4_sortOf_2 ++ tb_cX4_sortOf_3
def tb_cX4_sortOf_1 : List UInt8 := kb_cX4_sortOf_1 ++ tb_cX4_sortOf_2
def tb_cX4_sortOf_0 : List UInt8 := kb_cX4_sortOf_0 ++ tb_cX4_sortOf_1
set_option maxRecDepth 100000 in
theorem tb_cX4_sortOf : (cX4_sortOf).data.toList = tb_cX4_sortOf_0 := eqL_eq (by decide +kernel)
theorem ow_cX4_sortOf_0 (r : Nat) : (cX4_sortOf).data.toList.drop (0 + r) = tb_cX4_sortOf_0.drop r := by rw [tb_cX4_sortOf, Nat.zero_add]
theorem ow_cX4_sortOf_1 (r : Nat) : (cX4_sortOf).data.toList.drop (42 + r) = tb_cX4_sortOf_1.drop r := by
  have e := ow_cX4_sortOf_0 (42 + r)
  rw [show 0 + (42 + r) = 42 + r by omega] at e
  exact e.trans (dr_len (a := kb_cX4_sortOf_0) (t := tb_cX4_sortOf_1) (by decide +kernel))
theorem ow_cX4_sortOf_2 (r : Nat) : (cX4_sortOf).data.toList.drop (83 + r) = tb_cX4_sortOf_2.drop r := by
  have e := ow_cX4_sortOf_1 (41 + r)
  rw [show 42 + (41 + r) = 83 + r by omega] at e
  exact e.trans (dr_len (a := kb_cX4_sortOf_1) (t := tb_cX4_sortOf_2) (by decide +kernel))
theorem ob_cX4_sortOf_0 (r : Nat) {pc : Nat} {l : List UInt8} (hp : 0 + r = pc) (h : tb_cX4_sortOf_0.drop r = l) : (cX4_sortOf).data.toList.drop pc = l := by
  subst hp
  exact (ow_cX4_sortOf_0 r).trans h
theorem ob_cX4_sortOf_1 (r : Nat) {pc : Nat} {l : List UInt8} (hp : 42 + r = pc) (h : tb_cX4_sortOf_1.drop r = l) : (cX4_sortOf).data.toList.drop pc = l := by
  subst hp
  exact (ow_cX4_sortOf_1 r).trans h
theorem ob_cX4_sortOf_2 (r : Nat) {pc : Nat} {l : List UInt8} (hp : 83 + r = pc) (h : tb_cX4_sortOf_2.drop r = l) : (cX4_sortOf).data.toList.drop pc = l := by
  subst hp
  exact (ow_cX4_sortOf_2 r).trans h
theorem dX4_sortOf_0 : decode cX4_sortOf 0 = .ok (.aload_n 0, 1) := dn_42 (ob_cX4_sortOf_0 0 rfl rfl)
theorem dX4_sortOf_1 : decode cX4_sortOf 1 = .ok (.aload_n 0, 1) := dn_42 (ob_cX4_sortOf_0 1 rfl rfl)
theorem dX4_sortOf_2 : decode cX4_sortOf 2 = .ok (.getfield 15, 3) := dn_180 (ob_cX4_sortOf_0 2 rfl rfl) rfl
theorem dX4_sortOf_5 : decode cX4_sortOf 5 = .ok (.iload_n 1, 1) := dn_27 (ob_cX4_sortOf_0 5 rfl rfl)
theorem dX4_sortOf_6 : decode cX4_sortOf 6 = .ok (.aaload, 1) := dn_50 (ob_cX4_sortOf_0 6 rfl rfl)
theorem dX4_sortOf_7 : decode cX4_sortOf 7 = .ok (.iload_n 2, 1) := dn_28 (ob_cX4_sortOf_0 7 rfl rfl)
theorem dX4_sortOf_8 : decode cX4_sortOf 8 = .ok (.iaload, 1) := dn_46 (ob_cX4_sortOf_0 8 rfl rfl)
theorem dX4_sortOf_9 : decode cX4_sortOf 9 = .ok (.bipush 11, 2) := dn_16 (ob_cX4_sortOf_0 9 rfl rfl) (by decide +kernel)
theorem dX4_sortOf_11 : decode cX4_sortOf 11 = .ok (.invokevirtual 45, 3) := dn_182 (ob_cX4_sortOf_0 11 rfl rfl) rfl
theorem dX4_sortOf_14 : decode cX4_sortOf 14 = .ok (.ifCond .eq 17, 3) := dn_153 (ob_cX4_sortOf_0 14 rfl rfl) (by decide +kernel)
theorem dX4_sortOf_17 : decode cX4_sortOf 17 = .ok (.aload_n 0, 1) := dn_42 (ob_cX4_sortOf_0 17 rfl rfl)
theorem dX4_sortOf_18 : decode cX4_sortOf 18 = .ok (.iload_n 1, 1) := dn_27 (ob_cX4_sortOf_0 18 rfl rfl)
theorem dX4_sortOf_19 : decode cX4_sortOf 19 = .ok (.iload_n 2, 1) := dn_28 (ob_cX4_sortOf_0 19 rfl rfl)
theorem dX4_sortOf_20 : decode cX4_sortOf 20 = .ok (.iload_n 3, 1) := dn_29 (ob_cX4_sortOf_0 20 rfl rfl)
theorem dX4_sortOf_21 : decode cX4_sortOf 21 = .ok (.bipush 12, 2) := dn_16 (ob_cX4_sortOf_0 21 rfl rfl) (by decide +kernel)
theorem dX4_sortOf_23 : decode cX4_sortOf 23 = .ok (.invokevirtual 49, 3) := dn_182 (ob_cX4_sortOf_0 23 rfl rfl) rfl
theorem dX4_sortOf_26 : decode cX4_sortOf 26 = .ok (.ifCond .eq 5, 3) := dn_153 (ob_cX4_sortOf_0 26 rfl rfl) (by decide +kernel)
theorem dX4_sortOf_29 : decode cX4_sortOf 29 = .ok (.iconst 0, 1) := dn_3 (ob_cX4_sortOf_0 29 rfl rfl)
theorem dX4_sortOf_30 : decode cX4_sortOf 30 = .ok (.ireturn, 1) := dn_172 (ob_cX4_sortOf_0 30 rfl rfl)
theorem dX4_sortOf_31 : decode cX4_sortOf 31 = .ok (.aload_n 0, 1) := dn_42 (ob_cX4_sortOf_0 31 rfl rfl)
theorem dX4_sortOf_32 : decode cX4_sortOf 32 = .ok (.iload_n 1, 1) := dn_27 (ob_cX4_sortOf_0 32 rfl rfl)
theorem dX4_sortOf_33 : decode cX4_sortOf 33 = .ok (.iload_n 2, 1) := dn_28 (ob_cX4_sortOf_0 33 rfl rfl)
theorem dX4_sortOf_34 : decode cX4_sortOf 34 = .ok (.iload_n 3, 1) := dn_29 (ob_cX4_sortOf_0 34 rfl rfl)
theorem dX4_sortOf_35 : decode cX4_sortOf 35 = .ok (.iconst 2, 1) := dn_5 (ob_cX4_sortOf_0 35 rfl rfl)
theorem dX4_sortOf_36 : decode cX4_sortOf 36 = .ok (.invokevirtual 49, 3) := dn_182 (ob_cX4_sortOf_0 36 rfl rfl) rfl
theorem dX4_sortOf_39 : decode cX4_sortOf 39 = .ok (.ifCond .eq 5, 3) := dn_153 (ob_cX4_sortOf_0 39 rfl rfl) (by decide +kernel)
theorem dX4_sortOf_42 : decode cX4_sortOf 42 = .ok (.iconst 1, 1) := dn_4 (ob_cX4_sortOf_1 0 rfl rfl)
theorem dX4_sortOf_43 : decode cX4_sortOf 43 = .ok (.ireturn, 1) := dn_172 (ob_cX4_sortOf_1 1 rfl rfl)
theorem dX4_sortOf_44 : decode cX4_sortOf 44 = .ok (.aload_n 0, 1) := dn_42 (ob_cX4_sortOf_1 2 rfl rfl)
theorem dX4_sortOf_45 : decode cX4_sortOf 45 = .ok (.iload_n 1, 1) := dn_27 (ob_cX4_sortOf_1 3 rfl rfl)
theorem dX4_sortOf_46 : decode cX4_sortOf 46 = .ok (.iload_n 2, 1) := dn_28 (ob_cX4_sortOf_1 4 rfl rfl)
theorem dX4_sortOf_47 : decode cX4_sortOf 47 = .ok (.iload_n 3, 1) := dn_29 (ob_cX4_sortOf_1 5 rfl rfl)
theorem dX4_sortOf_48 : decode cX4_sortOf 48 = .ok (.bipush 7, 2) := dn_16 (ob_cX4_sortOf_1 6 rfl rfl) (by decide +kernel)
theorem dX4_sortOf_50 : decode cX4_sortOf 50 = .ok (.invokevirtual 49, 3) := dn_182 (ob_cX4_sortOf_1 8 rfl rfl) rfl
theorem dX4_sortOf_53 : decode cX4_sortOf 53 = .ok (.ifCond .eq 5, 3) := dn_153 (ob_cX4_sortOf_1 11 rfl rfl) (by decide +kernel)
theorem dX4_sortOf_56 : decode cX4_sortOf 56 = .ok (.iconst 2, 1) := dn_5 (ob_cX4_sortOf_1 14 rfl rfl)
theorem dX4_sortOf_57 : decode cX4_sortOf 57 = .ok (.ireturn, 1) := dn_172 (ob_cX4_sortOf_1 15 rfl rfl)
theorem dX4_sortOf_58 : decode cX4_sortOf 58 = .ok (.aload_n 0, 1) := dn_42 (ob_cX4_sortOf_1 16 rfl rfl)
theorem dX4_sortOf_59 : decode cX4_sortOf 59 = .ok (.iload_n 1, 1) := dn_27 (ob_cX4_sortOf_1 17 rfl rfl)
theorem dX4_sortOf_60 : decode cX4_sortOf 60 = .ok (.iload_n 2, 1) := dn_28 (ob_cX4_sortOf_1 18 rfl rfl)
theorem dX4_sortOf_61 : decode cX4_sortOf 61 = .ok (.iload_n 3, 1) := dn_29 (ob_cX4_sortOf_1 19 rfl rfl)
theorem dX4_sortOf_62 : decode cX4_sortOf 62 = .ok (.invokevirtual 53, 3) := dn_182 (ob_cX4_sortOf_1 20 rfl rfl) rfl
theorem dX4_sortOf_65 : decode cX4_sortOf 65 = .ok (.ifCond .eq 7, 3) := dn_153 (ob_cX4_sortOf_1 23 rfl rfl) (by decide +kernel)
theorem dX4_sortOf_68 : decode cX4_sortOf 68 = .ok (.iconst 3, 1) := dn_6 (ob_cX4_sortOf_1 26 rfl rfl)
theorem dX4_sortOf_69 : decode cX4_sortOf 69 = .ok (.goto 15, 3) := dn_167 (ob_cX4_sortOf_1 27 rfl rfl) (by decide +kernel)
theorem dX4_sortOf_72 : decode cX4_sortOf 72 = .ok (.iload_n 3, 1) := dn_29 (ob_cX4_sortOf_1 30 rfl rfl)
theorem dX4_sortOf_73 : decode cX4_sortOf 73 = .ok (.iload_n 2, 1) := dn_28 (ob_cX4_sortOf_1 31 rfl rfl)
theorem dX4_sortOf_74 : decode cX4_sortOf 74 = .ok (.iconst 1, 1) := dn_4 (ob_cX4_sortOf_1 32 rfl rfl)
theorem dX4_sortOf_75 : decode cX4_sortOf 75 = .ok (.iadd, 1) := dn_96 (ob_cX4_sortOf_1 33 rfl rfl)
theorem dX4_sortOf_76 : decode cX4_sortOf 76 = .ok (.if_icmp .ne 7, 3) := dn_160 (ob_cX4_sortOf_1 34 rfl rfl) (by decide +kernel)
theorem dX4_sortOf_79 : decode cX4_sortOf 79 = .ok (.iconst 4, 1) := dn_7 (ob_cX4_sortOf_1 37 rfl rfl)
theorem dX4_sortOf_80 : decode cX4_sortOf 80 = .ok (.goto 4, 3) := dn_167 (ob_cX4_sortOf_1 38 rfl rfl) (by decide +kernel)
theorem dX4_sortOf_83 : decode cX4_sortOf 83 = .ok (.iconst (-1), 1) := dn_2 (ob_cX4_sortOf_2 0 rfl rfl)
theorem dX4_sortOf_84 : decode cX4_sortOf 84 = .ok (.ireturn, 1) := dn_172 (ob_cX4_sortOf_2 1 rfl rfl)
def kb_cX4_longestOf : List UInt8 := [42, 180, 0, 18, 27, 46, 62, 42, 27, 28, 29, 182, 0, 57, 156, 0, 9, 132, 3, 255, 167, 255, 243, 29, 28, 100, 172]
set_option maxRecDepth 10000 in
theorem ob_cX4_longestOf (r : Nat) {l : List UInt8} (h : kb_cX4_longestOf.drop r = l) : (cX4_longestOf).data.toList.drop r = l := by
  rw [show (cX4_longestOf).data.toList = kb_cX4_longestOf from eqL_eq (by decide +kernel)]
  exact h
theorem dX4_longestOf_0 : decode cX4_longestOf 0 = .ok (.aload_n 0, 1) := dn_42 (ob_cX4_longestOf 0 rfl)
theorem dX4_longestOf_1 : decode cX4_longestOf 1 = .ok (.getfield 18, 3) := dn_180 (ob_cX4_longestOf 1 rfl) rfl
theorem dX4_longestOf_4 : decode cX4_longestOf 4 = .ok (.iload_n 1, 1) := dn_27 (ob_cX4_longestOf 4 rfl)
theorem dX4_longestOf_5 : decode cX4_longestOf 5 = .ok (.iaload, 1) := dn_46 (ob_cX4_longestOf 5 rfl)
theorem dX4_longestOf_6 : decode cX4_longestOf 6 = .ok (.istore_n 3, 1) := dn_62 (ob_cX4_longestOf 6 rfl)
theorem dX4_longestOf_7 : decode cX4_longestOf 7 = .ok (.aload_n 0, 1) := dn_42 (ob_cX4_longestOf 7 rfl)
theorem dX4_longestOf_8 : decode cX4_longestOf 8 = .ok (.iload_n 1, 1) := dn_27 (ob_cX4_longestOf 8 rfl)
theorem dX4_longestOf_9 : decode cX4_longestOf 9 = .ok (.iload_n 2, 1) := dn_28 (ob_cX4_longestOf 9 rfl)
theorem dX4_longestOf_10 : decode cX4_longestOf 10 = .ok (.iload_n 3, 1) := dn_29 (ob_cX4_longestOf 10 rfl)
theorem dX4_longestOf_11 : decode cX4_longestOf 11 = .ok (.invokevirtual 57, 3) := dn_182 (ob_cX4_longestOf 11 rfl) rfl
theorem dX4_longestOf_14 : decode cX4_longestOf 14 = .ok (.ifCond .ge 9, 3) := dn_156 (ob_cX4_longestOf 14 rfl) (by decide +kernel)
theorem dX4_longestOf_17 : decode cX4_longestOf 17 = .ok (.iinc 3 (-1), 3) := dn_132 (ob_cX4_longestOf 17 rfl) rfl (by decide +kernel)
theorem dX4_longestOf_20 : decode cX4_longestOf 20 = .ok (.goto (-13), 3) := dn_167 (ob_cX4_longestOf 20 rfl) (by decide +kernel)
theorem dX4_longestOf_23 : decode cX4_longestOf 23 = .ok (.iload_n 3, 1) := dn_29 (ob_cX4_longestOf 23 rfl)
theorem dX4_longestOf_24 : decode cX4_longestOf 24 = .ok (.iload_n 2, 1) := dn_28 (ob_cX4_longestOf 24 rfl)
theorem dX4_longestOf_25 : decode cX4_longestOf 25 = .ok (.isub, 1) := dn_100 (ob_cX4_longestOf 25 rfl)
theorem dX4_longestOf_26 : decode cX4_longestOf 26 = .ok (.ireturn, 1) := dn_172 (ob_cX4_longestOf 26 rfl)
def kb_cX4_begin_0 : List UInt8 := [3, 62, 3, 54, 4, 21, 4, 28, 162, 0, 28, 29, 42, 180, 0, 18, 27, 46, 162, 0, 18, 29, 42, 27, 29, 182, 0, 61, 96, 62, 132, 4, 1, 167, 255, 228, 29, 42, 180, 0, 18]
def kb_cX4_begin_1 : List UInt8 := [27, 46, 162, 0, 7, 29, 167, 0, 4, 2, 172]
def tb_cX4_begin_2 : List UInt8 := []
def tb_cX4_begin_1 : List UInt8 := kb_cX4_begin_1 ++ tb_cX4_begin_2
def tb_cX4_begin_0 : List UInt8 := kb_cX4_begin_0 ++ tb_cX4_begin_1
set_option maxRecDepth 100000 in
theorem tb_cX4_begin : (cX4_begin).data.toList = tb_cX4_begin_0 := eqL_eq (by decide +kernel)
theorem ow_cX4_begin_0 (r : Nat) : (cX4_begin).data.toList.drop (0 + r) = tb_cX4_begin_0.drop r := by rw [tb_cX4_begin, Nat.zero_add]
theorem ow_cX4_begin_1 (r : Nat) : (cX4_begin).data.toList.drop (41 + r) = tb_cX4_begin_1.drop r := by
  have e := ow_cX4_begin_0 (41 + r)
  rw [show 0 + (41 + r) = 41 + r by omega] at e
  exact e.trans (dr_len (a := kb_cX4_begin_0) (t := tb_cX4_begin_1) (by decide +kernel))
theorem ob_cX4_begin_0 (r : Nat) {pc : Nat} {l : List UInt8} (hp : 0 + r = pc) (h : tb_cX4_begin_0.drop r = l) : (cX4_begin).data.toList.drop pc = l := by
  subst hp
  exact (ow_cX4_begin_0 r).trans h
theorem ob_cX4_begin_1 (r : Nat) {pc : Nat} {l : List UInt8} (hp : 41 + r = pc) (h : tb_cX4_begin_1.drop r = l) : (cX4_begin).data.toList.drop pc = l := by
  subst hp
  exact (ow_cX4_begin_1 r).trans h
theorem dX4_begin_0 : decode cX4_begin 0 = .ok (.iconst 0, 1) := dn_3 (ob_cX4_begin_0 0 rfl rfl)
theorem dX4_begin_1 : decode cX4_begin 1 = .ok (.istore_n 3, 1) := dn_62 (ob_cX4_begin_0 1 rfl rfl)
theorem dX4_begin_2 : decode cX4_begin 2 = .ok (.iconst 0, 1) := dn_3 (ob_cX4_begin_0 2 rfl rfl)
theorem dX4_begin_3 : decode cX4_begin 3 = .ok (.istore 4, 2) := dn_54 (ob_cX4_begin_0 3 rfl rfl) rfl
theorem dX4_begin_5 : decode cX4_begin 5 = .ok (.iload 4, 2) := dn_21 (ob_cX4_begin_0 5 rfl rfl) rfl
theorem dX4_begin_7 : decode cX4_begin 7 = .ok (.iload_n 2, 1) := dn_28 (ob_cX4_begin_0 7 rfl rfl)
theorem dX4_begin_8 : decode cX4_begin 8 = .ok (.if_icmp .ge 28, 3) := dn_162 (ob_cX4_begin_0 8 rfl rfl) (by decide +kernel)
theorem dX4_begin_11 : decode cX4_begin 11 = .ok (.iload_n 3, 1) := dn_29 (ob_cX4_begin_0 11 rfl rfl)
theorem dX4_begin_12 : decode cX4_begin 12 = .ok (.aload_n 0, 1) := dn_42 (ob_cX4_begin_0 12 rfl rfl)
theorem dX4_begin_13 : decode cX4_begin 13 = .ok (.getfield 18, 3) := dn_180 (ob_cX4_begin_0 13 rfl rfl) rfl
theorem dX4_begin_16 : decode cX4_begin 16 = .ok (.iload_n 1, 1) := dn_27 (ob_cX4_begin_0 16 rfl rfl)
theorem dX4_begin_17 : decode cX4_begin 17 = .ok (.iaload, 1) := dn_46 (ob_cX4_begin_0 17 rfl rfl)
theorem dX4_begin_18 : decode cX4_begin 18 = .ok (.if_icmp .ge 18, 3) := dn_162 (ob_cX4_begin_0 18 rfl rfl) (by decide +kernel)
theorem dX4_begin_21 : decode cX4_begin 21 = .ok (.iload_n 3, 1) := dn_29 (ob_cX4_begin_0 21 rfl rfl)
theorem dX4_begin_22 : decode cX4_begin 22 = .ok (.aload_n 0, 1) := dn_42 (ob_cX4_begin_0 22 rfl rfl)
theorem dX4_begin_23 : decode cX4_begin 23 = .ok (.iload_n 1, 1) := dn_27 (ob_cX4_begin_0 23 rfl rfl)
theorem dX4_begin_24 : decode cX4_begin 24 = .ok (.iload_n 3, 1) := dn_29 (ob_cX4_begin_0 24 rfl rfl)
theorem dX4_begin_25 : decode cX4_begin 25 = .ok (.invokevirtual 61, 3) := dn_182 (ob_cX4_begin_0 25 rfl rfl) rfl
theorem dX4_begin_28 : decode cX4_begin 28 = .ok (.iadd, 1) := dn_96 (ob_cX4_begin_0 28 rfl rfl)
theorem dX4_begin_29 : decode cX4_begin 29 = .ok (.istore_n 3, 1) := dn_62 (ob_cX4_begin_0 29 rfl rfl)
theorem dX4_begin_30 : decode cX4_begin 30 = .ok (.iinc 4 1, 3) := dn_132 (ob_cX4_begin_0 30 rfl rfl) rfl (by decide +kernel)
theorem dX4_begin_33 : decode cX4_begin 33 = .ok (.goto (-28), 3) := dn_167 (ob_cX4_begin_0 33 rfl rfl) (by decide +kernel)
theorem dX4_begin_36 : decode cX4_begin 36 = .ok (.iload_n 3, 1) := dn_29 (ob_cX4_begin_0 36 rfl rfl)
theorem dX4_begin_37 : decode cX4_begin 37 = .ok (.aload_n 0, 1) := dn_42 (ob_cX4_begin_0 37 rfl rfl)
theorem dX4_begin_38 : decode cX4_begin 38 = .ok (.getfield 18, 3) := dn_180 (ob_cX4_begin_0 38 rfl rfl) rfl
theorem dX4_begin_41 : decode cX4_begin 41 = .ok (.iload_n 1, 1) := dn_27 (ob_cX4_begin_1 0 rfl rfl)
theorem dX4_begin_42 : decode cX4_begin 42 = .ok (.iaload, 1) := dn_46 (ob_cX4_begin_1 1 rfl rfl)
theorem dX4_begin_43 : decode cX4_begin 43 = .ok (.if_icmp .ge 7, 3) := dn_162 (ob_cX4_begin_1 2 rfl rfl) (by decide +kernel)
theorem dX4_begin_46 : decode cX4_begin 46 = .ok (.iload_n 3, 1) := dn_29 (ob_cX4_begin_1 5 rfl rfl)
theorem dX4_begin_47 : decode cX4_begin 47 = .ok (.goto 4, 3) := dn_167 (ob_cX4_begin_1 6 rfl rfl) (by decide +kernel)
theorem dX4_begin_50 : decode cX4_begin 50 = .ok (.iconst (-1), 1) := dn_2 (ob_cX4_begin_1 9 rfl rfl)
theorem dX4_begin_51 : decode cX4_begin 51 = .ok (.ireturn, 1) := dn_172 (ob_cX4_begin_1 10 rfl rfl)
def kb_cX4_piecesOf : List UInt8 := [3, 61, 3, 62, 29, 42, 180, 0, 18, 27, 46, 162, 0, 18, 132, 2, 1, 29, 42, 27, 29, 182, 0, 61, 96, 62, 167, 255, 234, 28, 172]
set_option maxRecDepth 10000 in
theorem ob_cX4_piecesOf (r : Nat) {l : List UInt8} (h : kb_cX4_piecesOf.drop r = l) : (cX4_piecesOf).data.toList.drop r = l := by
  rw [show (cX4_piecesOf).data.toList = kb_cX4_piecesOf from eqL_eq (by decide +kernel)]
  exact h
theorem dX4_piecesOf_0 : decode cX4_piecesOf 0 = .ok (.iconst 0, 1) := dn_3 (ob_cX4_piecesOf 0 rfl)
theorem dX4_piecesOf_1 : decode cX4_piecesOf 1 = .ok (.istore_n 2, 1) := dn_61 (ob_cX4_piecesOf 1 rfl)
theorem dX4_piecesOf_2 : decode cX4_piecesOf 2 = .ok (.iconst 0, 1) := dn_3 (ob_cX4_piecesOf 2 rfl)
theorem dX4_piecesOf_3 : decode cX4_piecesOf 3 = .ok (.istore_n 3, 1) := dn_62 (ob_cX4_piecesOf 3 rfl)
theorem dX4_piecesOf_4 : decode cX4_piecesOf 4 = .ok (.iload_n 3, 1) := dn_29 (ob_cX4_piecesOf 4 rfl)
theorem dX4_piecesOf_5 : decode cX4_piecesOf 5 = .ok (.aload_n 0, 1) := dn_42 (ob_cX4_piecesOf 5 rfl)
theorem dX4_piecesOf_6 : decode cX4_piecesOf 6 = .ok (.getfield 18, 3) := dn_180 (ob_cX4_piecesOf 6 rfl) rfl
theorem dX4_piecesOf_9 : decode cX4_piecesOf 9 = .ok (.iload_n 1, 1) := dn_27 (ob_cX4_piecesOf 9 rfl)
theorem dX4_piecesOf_10 : decode cX4_piecesOf 10 = .ok (.iaload, 1) := dn_46 (ob_cX4_piecesOf 10 rfl)
theorem dX4_piecesOf_11 : decode cX4_piecesOf 11 = .ok (.if_icmp .ge 18, 3) := dn_162 (ob_cX4_piecesOf 11 rfl) (by decide +kernel)
theorem dX4_piecesOf_14 : decode cX4_piecesOf 14 = .ok (.iinc 2 1, 3) := dn_132 (ob_cX4_piecesOf 14 rfl) rfl (by decide +kernel)
theorem dX4_piecesOf_17 : decode cX4_piecesOf 17 = .ok (.iload_n 3, 1) := dn_29 (ob_cX4_piecesOf 17 rfl)
theorem dX4_piecesOf_18 : decode cX4_piecesOf 18 = .ok (.aload_n 0, 1) := dn_42 (ob_cX4_piecesOf 18 rfl)
theorem dX4_piecesOf_19 : decode cX4_piecesOf 19 = .ok (.iload_n 1, 1) := dn_27 (ob_cX4_piecesOf 19 rfl)
theorem dX4_piecesOf_20 : decode cX4_piecesOf 20 = .ok (.iload_n 3, 1) := dn_29 (ob_cX4_piecesOf 20 rfl)
theorem dX4_piecesOf_21 : decode cX4_piecesOf 21 = .ok (.invokevirtual 61, 3) := dn_182 (ob_cX4_piecesOf 21 rfl) rfl
theorem dX4_piecesOf_24 : decode cX4_piecesOf 24 = .ok (.iadd, 1) := dn_96 (ob_cX4_piecesOf 24 rfl)
theorem dX4_piecesOf_25 : decode cX4_piecesOf 25 = .ok (.istore_n 3, 1) := dn_62 (ob_cX4_piecesOf 25 rfl)
theorem dX4_piecesOf_26 : decode cX4_piecesOf 26 = .ok (.goto (-22), 3) := dn_167 (ob_cX4_piecesOf 26 rfl) (by decide +kernel)
theorem dX4_piecesOf_29 : decode cX4_piecesOf 29 = .ok (.iload_n 2, 1) := dn_28 (ob_cX4_piecesOf 29 rfl)
theorem dX4_piecesOf_30 : decode cX4_piecesOf 30 = .ok (.ireturn, 1) := dn_172 (ob_cX4_piecesOf 30 rfl)
def kb_cX4_cutsOf_0 : List UInt8 := [3, 61, 3, 62, 29, 42, 180, 0, 18, 27, 46, 162, 0, 29, 28, 29, 154, 0, 7, 3, 167, 0, 6, 4, 29, 120, 128, 61, 29, 42, 27, 29, 182, 0, 61, 96, 62, 167, 255, 223]
def kb_cX4_cutsOf_1 : List UInt8 := [28, 172]
def tb_cX4_cutsOf_2 : List UInt8 := []
def tb_cX4_cutsOf_1 : List UInt8 := kb_cX4_cutsOf_1 ++ tb_cX4_cutsOf_2
def tb_cX4_cutsOf_0 : List UInt8 := kb_cX4_cutsOf_0 ++ tb_cX4_cutsOf_1
set_option maxRecDepth 100000 in
theorem tb_cX4_cutsOf : (cX4_cutsOf).data.toList = tb_cX4_cutsOf_0 := eqL_eq (by decide +kernel)
theorem ow_cX4_cutsOf_0 (r : Nat) : (cX4_cutsOf).data.toList.drop (0 + r) = tb_cX4_cutsOf_0.drop r := by rw [tb_cX4_cutsOf, Nat.zero_add]
theorem ow_cX4_cutsOf_1 (r : Nat) : (cX4_cutsOf).data.toList.drop (40 + r) = tb_cX4_cutsOf_1.drop r := by
  have e := ow_cX4_cutsOf_0 (40 + r)
  rw [show 0 + (40 + r) = 40 + r by omega] at e
  exact e.trans (dr_len (a := kb_cX4_cutsOf_0) (t := tb_cX4_cutsOf_1) (by decide +kernel))
theorem ob_cX4_cutsOf_0 (r : Nat) {pc : Nat} {l : List UInt8} (hp : 0 + r = pc) (h : tb_cX4_cutsOf_0.drop r = l) : (cX4_cutsOf).data.toList.drop pc = l := by
  subst hp
  exact (ow_cX4_cutsOf_0 r).trans h
theorem ob_cX4_cutsOf_1 (r : Nat) {pc : Nat} {l : List UInt8} (hp : 40 + r = pc) (h : tb_cX4_cutsOf_1.drop r = l) : (cX4_cutsOf).data.toList.drop pc = l := by
  subst hp
  exact (ow_cX4_cutsOf_1 r).trans h
theorem dX4_cutsOf_0 : decode cX4_cutsOf 0 = .ok (.iconst 0, 1) := dn_3 (ob_cX4_cutsOf_0 0 rfl rfl)
theorem dX4_cutsOf_1 : decode cX4_cutsOf 1 = .ok (.istore_n 2, 1) := dn_61 (ob_cX4_cutsOf_0 1 rfl rfl)
theorem dX4_cutsOf_2 : decode cX4_cutsOf 2 = .ok (.iconst 0, 1) := dn_3 (ob_cX4_cutsOf_0 2 rfl rfl)
theorem dX4_cutsOf_3 : decode cX4_cutsOf 3 = .ok (.istore_n 3, 1) := dn_62 (ob_cX4_cutsOf_0 3 rfl rfl)
theorem dX4_cutsOf_4 : decode cX4_cutsOf 4 = .ok (.iload_n 3, 1) := dn_29 (ob_cX4_cutsOf_0 4 rfl rfl)
theorem dX4_cutsOf_5 : decode cX4_cutsOf 5 = .ok (.aload_n 0, 1) := dn_42 (ob_cX4_cutsOf_0 5 rfl rfl)
theorem dX4_cutsOf_6 : decode cX4_cutsOf 6 = .ok (.getfield 18, 3) := dn_180 (ob_cX4_cutsOf_0 6 rfl rfl) rfl
theorem dX4_cutsOf_9 : decode cX4_cutsOf 9 = .ok (.iload_n 1, 1) := dn_27 (ob_cX4_cutsOf_0 9 rfl rfl)
theorem dX4_cutsOf_10 : decode cX4_cutsOf 10 = .ok (.iaload, 1) := dn_46 (ob_cX4_cutsOf_0 10 rfl rfl)
theorem dX4_cutsOf_11 : decode cX4_cutsOf 11 = .ok (.if_icmp .ge 29, 3) := dn_162 (ob_cX4_cutsOf_0 11 rfl rfl) (by decide +kernel)
theorem dX4_cutsOf_14 : decode cX4_cutsOf 14 = .ok (.iload_n 2, 1) := dn_28 (ob_cX4_cutsOf_0 14 rfl rfl)
theorem dX4_cutsOf_15 : decode cX4_cutsOf 15 = .ok (.iload_n 3, 1) := dn_29 (ob_cX4_cutsOf_0 15 rfl rfl)
theorem dX4_cutsOf_16 : decode cX4_cutsOf 16 = .ok (.ifCond .ne 7, 3) := dn_154 (ob_cX4_cutsOf_0 16 rfl rfl) (by decide +kernel)
theorem dX4_cutsOf_19 : decode cX4_cutsOf 19 = .ok (.iconst 0, 1) := dn_3 (ob_cX4_cutsOf_0 19 rfl rfl)
theorem dX4_cutsOf_20 : decode cX4_cutsOf 20 = .ok (.goto 6, 3) := dn_167 (ob_cX4_cutsOf_0 20 rfl rfl) (by decide +kernel)
theorem dX4_cutsOf_23 : decode cX4_cutsOf 23 = .ok (.iconst 1, 1) := dn_4 (ob_cX4_cutsOf_0 23 rfl rfl)
theorem dX4_cutsOf_24 : decode cX4_cutsOf 24 = .ok (.iload_n 3, 1) := dn_29 (ob_cX4_cutsOf_0 24 rfl rfl)
theorem dX4_cutsOf_25 : decode cX4_cutsOf 25 = .ok (.ishl, 1) := dn_120 (ob_cX4_cutsOf_0 25 rfl rfl)
theorem dX4_cutsOf_26 : decode cX4_cutsOf 26 = .ok (.ior, 1) := dn_128 (ob_cX4_cutsOf_0 26 rfl rfl)
theorem dX4_cutsOf_27 : decode cX4_cutsOf 27 = .ok (.istore_n 2, 1) := dn_61 (ob_cX4_cutsOf_0 27 rfl rfl)
theorem dX4_cutsOf_28 : decode cX4_cutsOf 28 = .ok (.iload_n 3, 1) := dn_29 (ob_cX4_cutsOf_0 28 rfl rfl)
theorem dX4_cutsOf_29 : decode cX4_cutsOf 29 = .ok (.aload_n 0, 1) := dn_42 (ob_cX4_cutsOf_0 29 rfl rfl)
theorem dX4_cutsOf_30 : decode cX4_cutsOf 30 = .ok (.iload_n 1, 1) := dn_27 (ob_cX4_cutsOf_0 30 rfl rfl)
theorem dX4_cutsOf_31 : decode cX4_cutsOf 31 = .ok (.iload_n 3, 1) := dn_29 (ob_cX4_cutsOf_0 31 rfl rfl)
theorem dX4_cutsOf_32 : decode cX4_cutsOf 32 = .ok (.invokevirtual 61, 3) := dn_182 (ob_cX4_cutsOf_0 32 rfl rfl) rfl
theorem dX4_cutsOf_35 : decode cX4_cutsOf 35 = .ok (.iadd, 1) := dn_96 (ob_cX4_cutsOf_0 35 rfl rfl)
theorem dX4_cutsOf_36 : decode cX4_cutsOf 36 = .ok (.istore_n 3, 1) := dn_62 (ob_cX4_cutsOf_0 36 rfl rfl)
theorem dX4_cutsOf_37 : decode cX4_cutsOf 37 = .ok (.goto (-33), 3) := dn_167 (ob_cX4_cutsOf_0 37 rfl rfl) (by decide +kernel)
theorem dX4_cutsOf_40 : decode cX4_cutsOf 40 = .ok (.iload_n 2, 1) := dn_28 (ob_cX4_cutsOf_1 0 rfl rfl)
theorem dX4_cutsOf_41 : decode cX4_cutsOf 41 = .ok (.ireturn, 1) := dn_172 (ob_cX4_cutsOf_1 1 rfl rfl)
def kb_cX4_backOf_0 : List UInt8 := [3, 61, 42, 180, 0, 18, 27, 46, 62, 29, 158, 0, 45, 3, 54, 4, 42, 27, 21, 4, 29, 182, 0, 57, 156, 0, 9, 132, 4, 1, 167, 255, 242, 28, 21, 4, 154, 0, 7, 3]
def kb_cX4_backOf_1 : List UInt8 := [167, 0, 7, 4, 21, 4, 120, 128, 61, 21, 4, 62, 167, 255, 213, 28, 172]
def tb_cX4_backOf_2 : List UInt8 := []
def tb_cX4_backOf_1 : List UInt8 := kb_cX4_backOf_1 ++ tb_cX4_backOf_2
def tb_cX4_backOf_0 : List UInt8 := kb_cX4_backOf_0 ++ tb_cX4_backOf_1
set_option maxRecDepth 100000 in
theorem tb_cX4_backOf : (cX4_backOf).data.toList = tb_cX4_backOf_0 := eqL_eq (by decide +kernel)
theorem ow_cX4_backOf_0 (r : Nat) : (cX4_backOf).data.toList.drop (0 + r) = tb_cX4_backOf_0.drop r := by rw [tb_cX4_backOf, Nat.zero_add]
theorem ow_cX4_backOf_1 (r : Nat) : (cX4_backOf).data.toList.drop (40 + r) = tb_cX4_backOf_1.drop r := by
  have e := ow_cX4_backOf_0 (40 + r)
  rw [show 0 + (40 + r) = 40 + r by omega] at e
  exact e.trans (dr_len (a := kb_cX4_backOf_0) (t := tb_cX4_backOf_1) (by decide +kernel))
theorem ob_cX4_backOf_0 (r : Nat) {pc : Nat} {l : List UInt8} (hp : 0 + r = pc) (h : tb_cX4_backOf_0.drop r = l) : (cX4_backOf).data.toList.drop pc = l := by
  subst hp
  exact (ow_cX4_backOf_0 r).trans h
theorem ob_cX4_backOf_1 (r : Nat) {pc : Nat} {l : List UInt8} (hp : 40 + r = pc) (h : tb_cX4_backOf_1.drop r = l) : (cX4_backOf).data.toList.drop pc = l := by
  subst hp
  exact (ow_cX4_backOf_1 r).trans h
theorem dX4_backOf_0 : decode cX4_backOf 0 = .ok (.iconst 0, 1) := dn_3 (ob_cX4_backOf_0 0 rfl rfl)
theorem dX4_backOf_1 : decode cX4_backOf 1 = .ok (.istore_n 2, 1) := dn_61 (ob_cX4_backOf_0 1 rfl rfl)
theorem dX4_backOf_2 : decode cX4_backOf 2 = .ok (.aload_n 0, 1) := dn_42 (ob_cX4_backOf_0 2 rfl rfl)
theorem dX4_backOf_3 : decode cX4_backOf 3 = .ok (.getfield 18, 3) := dn_180 (ob_cX4_backOf_0 3 rfl rfl) rfl
theorem dX4_backOf_6 : decode cX4_backOf 6 = .ok (.iload_n 1, 1) := dn_27 (ob_cX4_backOf_0 6 rfl rfl)
theorem dX4_backOf_7 : decode cX4_backOf 7 = .ok (.iaload, 1) := dn_46 (ob_cX4_backOf_0 7 rfl rfl)
theorem dX4_backOf_8 : decode cX4_backOf 8 = .ok (.istore_n 3, 1) := dn_62 (ob_cX4_backOf_0 8 rfl rfl)
theorem dX4_backOf_9 : decode cX4_backOf 9 = .ok (.iload_n 3, 1) := dn_29 (ob_cX4_backOf_0 9 rfl rfl)
theorem dX4_backOf_10 : decode cX4_backOf 10 = .ok (.ifCond .le 45, 3) := dn_158 (ob_cX4_backOf_0 10 rfl rfl) (by decide +kernel)
theorem dX4_backOf_13 : decode cX4_backOf 13 = .ok (.iconst 0, 1) := dn_3 (ob_cX4_backOf_0 13 rfl rfl)
theorem dX4_backOf_14 : decode cX4_backOf 14 = .ok (.istore 4, 2) := dn_54 (ob_cX4_backOf_0 14 rfl rfl) rfl
theorem dX4_backOf_16 : decode cX4_backOf 16 = .ok (.aload_n 0, 1) := dn_42 (ob_cX4_backOf_0 16 rfl rfl)
theorem dX4_backOf_17 : decode cX4_backOf 17 = .ok (.iload_n 1, 1) := dn_27 (ob_cX4_backOf_0 17 rfl rfl)
theorem dX4_backOf_18 : decode cX4_backOf 18 = .ok (.iload 4, 2) := dn_21 (ob_cX4_backOf_0 18 rfl rfl) rfl
theorem dX4_backOf_20 : decode cX4_backOf 20 = .ok (.iload_n 3, 1) := dn_29 (ob_cX4_backOf_0 20 rfl rfl)
theorem dX4_backOf_21 : decode cX4_backOf 21 = .ok (.invokevirtual 57, 3) := dn_182 (ob_cX4_backOf_0 21 rfl rfl) rfl
theorem dX4_backOf_24 : decode cX4_backOf 24 = .ok (.ifCond .ge 9, 3) := dn_156 (ob_cX4_backOf_0 24 rfl rfl) (by decide +kernel)
theorem dX4_backOf_27 : decode cX4_backOf 27 = .ok (.iinc 4 1, 3) := dn_132 (ob_cX4_backOf_0 27 rfl rfl) rfl (by decide +kernel)
theorem dX4_backOf_30 : decode cX4_backOf 30 = .ok (.goto (-14), 3) := dn_167 (ob_cX4_backOf_0 30 rfl rfl) (by decide +kernel)
theorem dX4_backOf_33 : decode cX4_backOf 33 = .ok (.iload_n 2, 1) := dn_28 (ob_cX4_backOf_0 33 rfl rfl)
theorem dX4_backOf_34 : decode cX4_backOf 34 = .ok (.iload 4, 2) := dn_21 (ob_cX4_backOf_0 34 rfl rfl) rfl
theorem dX4_backOf_36 : decode cX4_backOf 36 = .ok (.ifCond .ne 7, 3) := dn_154 (ob_cX4_backOf_0 36 rfl rfl) (by decide +kernel)
theorem dX4_backOf_39 : decode cX4_backOf 39 = .ok (.iconst 0, 1) := dn_3 (ob_cX4_backOf_0 39 rfl rfl)
theorem dX4_backOf_40 : decode cX4_backOf 40 = .ok (.goto 7, 3) := dn_167 (ob_cX4_backOf_1 0 rfl rfl) (by decide +kernel)
theorem dX4_backOf_43 : decode cX4_backOf 43 = .ok (.iconst 1, 1) := dn_4 (ob_cX4_backOf_1 3 rfl rfl)
theorem dX4_backOf_44 : decode cX4_backOf 44 = .ok (.iload 4, 2) := dn_21 (ob_cX4_backOf_1 4 rfl rfl) rfl
theorem dX4_backOf_46 : decode cX4_backOf 46 = .ok (.ishl, 1) := dn_120 (ob_cX4_backOf_1 6 rfl rfl)
theorem dX4_backOf_47 : decode cX4_backOf 47 = .ok (.ior, 1) := dn_128 (ob_cX4_backOf_1 7 rfl rfl)
theorem dX4_backOf_48 : decode cX4_backOf 48 = .ok (.istore_n 2, 1) := dn_61 (ob_cX4_backOf_1 8 rfl rfl)
theorem dX4_backOf_49 : decode cX4_backOf 49 = .ok (.iload 4, 2) := dn_21 (ob_cX4_backOf_1 9 rfl rfl) rfl
theorem dX4_backOf_51 : decode cX4_backOf 51 = .ok (.istore_n 3, 1) := dn_62 (ob_cX4_backOf_1 11 rfl rfl)
theorem dX4_backOf_52 : decode cX4_backOf 52 = .ok (.goto (-43), 3) := dn_167 (ob_cX4_backOf_1 12 rfl rfl) (by decide +kernel)
theorem dX4_backOf_55 : decode cX4_backOf 55 = .ok (.iload_n 2, 1) := dn_28 (ob_cX4_backOf_1 15 rfl rfl)
theorem dX4_backOf_56 : decode cX4_backOf 56 = .ok (.ireturn, 1) := dn_172 (ob_cX4_backOf_1 16 rfl rfl)
def kb_cX4_fewestOf_0 : List UInt8 := [42, 180, 0, 18, 27, 46, 4, 96, 188, 10, 77, 4, 62, 29, 44, 190, 162, 0, 55, 44, 29, 16, 31, 79, 3, 54, 4, 21, 4, 29, 162, 0, 35, 42, 27, 21, 4, 29, 182, 0, 57]
def kb_cX4_fewestOf_1 : List UInt8 := [155, 0, 18, 44, 29, 44, 29, 46, 44, 21, 4, 46, 4, 96, 184, 0, 65, 79, 132, 4, 1, 167, 255, 221, 132, 3, 1, 167, 255, 201, 44, 42, 180, 0, 18, 27, 46, 46, 172]
def tb_cX4_fewestOf_2 : List UInt8 := []
def tb_cX4_fewestOf_1 : List UInt8 := kb_cX4_fewestOf_1 ++ tb_cX4_fewestOf_2
def tb_cX4_fewestOf_0 : List UInt8 := kb_cX4_fewestOf_0 ++ tb_cX4_fewestOf_1
set_option maxRecDepth 100000 in
theorem tb_cX4_fewestOf : (cX4_fewestOf).data.toList = tb_cX4_fewestOf_0 := eqL_eq (by decide +kernel)
theorem ow_cX4_fewestOf_0 (r : Nat) : (cX4_fewestOf).data.toList.drop (0 + r) = tb_cX4_fewestOf_0.drop r := by rw [tb_cX4_fewestOf, Nat.zero_add]
theorem ow_cX4_fewestOf_1 (r : Nat) : (cX4_fewestOf).data.toList.drop (41 + r) = tb_cX4_fewestOf_1.drop r := by
  have e := ow_cX4_fewestOf_0 (41 + r)
  rw [show 0 + (41 + r) = 41 + r by omega] at e
  exact e.trans (dr_len (a := kb_cX4_fewestOf_0) (t := tb_cX4_fewestOf_1) (by decide +kernel))
theorem ob_cX4_fewestOf_0 (r : Nat) {pc : Nat} {l : List UInt8} (hp : 0 + r = pc) (h : tb_cX4_fewestOf_0.drop r = l) : (cX4_fewestOf).data.toList.drop pc = l := by
  subst hp
  exact (ow_cX4_fewestOf_0 r).trans h
theorem ob_cX4_fewestOf_1 (r : Nat) {pc : Nat} {l : List UInt8} (hp : 41 + r = pc) (h : tb_cX4_fewestOf_1.drop r = l) : (cX4_fewestOf).data.toList.drop pc = l := by
  subst hp
  exact (ow_cX4_fewestOf_1 r).trans h
theorem dX4_fewestOf_0 : decode cX4_fewestOf 0 = .ok (.aload_n 0, 1) := dn_42 (ob_cX4_fewestOf_0 0 rfl rfl)
theorem dX4_fewestOf_1 : decode cX4_fewestOf 1 = .ok (.getfield 18, 3) := dn_180 (ob_cX4_fewestOf_0 1 rfl rfl) rfl
theorem dX4_fewestOf_4 : decode cX4_fewestOf 4 = .ok (.iload_n 1, 1) := dn_27 (ob_cX4_fewestOf_0 4 rfl rfl)
theorem dX4_fewestOf_5 : decode cX4_fewestOf 5 = .ok (.iaload, 1) := dn_46 (ob_cX4_fewestOf_0 5 rfl rfl)
theorem dX4_fewestOf_6 : decode cX4_fewestOf 6 = .ok (.iconst 1, 1) := dn_4 (ob_cX4_fewestOf_0 6 rfl rfl)
theorem dX4_fewestOf_7 : decode cX4_fewestOf 7 = .ok (.iadd, 1) := dn_96 (ob_cX4_fewestOf_0 7 rfl rfl)
theorem dX4_fewestOf_8 : decode cX4_fewestOf 8 = .ok (.newarray .int, 2) := by decide +kernel
theorem dX4_fewestOf_10 : decode cX4_fewestOf 10 = .ok (.astore_n 2, 1) := dn_77 (ob_cX4_fewestOf_0 10 rfl rfl)
theorem dX4_fewestOf_11 : decode cX4_fewestOf 11 = .ok (.iconst 1, 1) := dn_4 (ob_cX4_fewestOf_0 11 rfl rfl)
theorem dX4_fewestOf_12 : decode cX4_fewestOf 12 = .ok (.istore_n 3, 1) := dn_62 (ob_cX4_fewestOf_0 12 rfl rfl)
theorem dX4_fewestOf_13 : decode cX4_fewestOf 13 = .ok (.iload_n 3, 1) := dn_29 (ob_cX4_fewestOf_0 13 rfl rfl)
theorem dX4_fewestOf_14 : decode cX4_fewestOf 14 = .ok (.aload_n 2, 1) := dn_44 (ob_cX4_fewestOf_0 14 rfl rfl)
theorem dX4_fewestOf_15 : decode cX4_fewestOf 15 = .ok (.arraylength, 1) := dn_190 (ob_cX4_fewestOf_0 15 rfl rfl)
theorem dX4_fewestOf_16 : decode cX4_fewestOf 16 = .ok (.if_icmp .ge 55, 3) := dn_162 (ob_cX4_fewestOf_0 16 rfl rfl) (by decide +kernel)
theorem dX4_fewestOf_19 : decode cX4_fewestOf 19 = .ok (.aload_n 2, 1) := dn_44 (ob_cX4_fewestOf_0 19 rfl rfl)
theorem dX4_fewestOf_20 : decode cX4_fewestOf 20 = .ok (.iload_n 3, 1) := dn_29 (ob_cX4_fewestOf_0 20 rfl rfl)
theorem dX4_fewestOf_21 : decode cX4_fewestOf 21 = .ok (.bipush 31, 2) := dn_16 (ob_cX4_fewestOf_0 21 rfl rfl) (by decide +kernel)
theorem dX4_fewestOf_23 : decode cX4_fewestOf 23 = .ok (.iastore, 1) := dn_79 (ob_cX4_fewestOf_0 23 rfl rfl)
theorem dX4_fewestOf_24 : decode cX4_fewestOf 24 = .ok (.iconst 0, 1) := dn_3 (ob_cX4_fewestOf_0 24 rfl rfl)
theorem dX4_fewestOf_25 : decode cX4_fewestOf 25 = .ok (.istore 4, 2) := dn_54 (ob_cX4_fewestOf_0 25 rfl rfl) rfl
theorem dX4_fewestOf_27 : decode cX4_fewestOf 27 = .ok (.iload 4, 2) := dn_21 (ob_cX4_fewestOf_0 27 rfl rfl) rfl
theorem dX4_fewestOf_29 : decode cX4_fewestOf 29 = .ok (.iload_n 3, 1) := dn_29 (ob_cX4_fewestOf_0 29 rfl rfl)
theorem dX4_fewestOf_30 : decode cX4_fewestOf 30 = .ok (.if_icmp .ge 35, 3) := dn_162 (ob_cX4_fewestOf_0 30 rfl rfl) (by decide +kernel)
theorem dX4_fewestOf_33 : decode cX4_fewestOf 33 = .ok (.aload_n 0, 1) := dn_42 (ob_cX4_fewestOf_0 33 rfl rfl)
theorem dX4_fewestOf_34 : decode cX4_fewestOf 34 = .ok (.iload_n 1, 1) := dn_27 (ob_cX4_fewestOf_0 34 rfl rfl)
theorem dX4_fewestOf_35 : decode cX4_fewestOf 35 = .ok (.iload 4, 2) := dn_21 (ob_cX4_fewestOf_0 35 rfl rfl) rfl
theorem dX4_fewestOf_37 : decode cX4_fewestOf 37 = .ok (.iload_n 3, 1) := dn_29 (ob_cX4_fewestOf_0 37 rfl rfl)
theorem dX4_fewestOf_38 : decode cX4_fewestOf 38 = .ok (.invokevirtual 57, 3) := dn_182 (ob_cX4_fewestOf_0 38 rfl rfl) rfl
theorem dX4_fewestOf_41 : decode cX4_fewestOf 41 = .ok (.ifCond .lt 18, 3) := dn_155 (ob_cX4_fewestOf_1 0 rfl rfl) (by decide +kernel)
theorem dX4_fewestOf_44 : decode cX4_fewestOf 44 = .ok (.aload_n 2, 1) := dn_44 (ob_cX4_fewestOf_1 3 rfl rfl)
theorem dX4_fewestOf_45 : decode cX4_fewestOf 45 = .ok (.iload_n 3, 1) := dn_29 (ob_cX4_fewestOf_1 4 rfl rfl)
theorem dX4_fewestOf_46 : decode cX4_fewestOf 46 = .ok (.aload_n 2, 1) := dn_44 (ob_cX4_fewestOf_1 5 rfl rfl)
theorem dX4_fewestOf_47 : decode cX4_fewestOf 47 = .ok (.iload_n 3, 1) := dn_29 (ob_cX4_fewestOf_1 6 rfl rfl)
theorem dX4_fewestOf_48 : decode cX4_fewestOf 48 = .ok (.iaload, 1) := dn_46 (ob_cX4_fewestOf_1 7 rfl rfl)
theorem dX4_fewestOf_49 : decode cX4_fewestOf 49 = .ok (.aload_n 2, 1) := dn_44 (ob_cX4_fewestOf_1 8 rfl rfl)
theorem dX4_fewestOf_50 : decode cX4_fewestOf 50 = .ok (.iload 4, 2) := dn_21 (ob_cX4_fewestOf_1 9 rfl rfl) rfl
theorem dX4_fewestOf_52 : decode cX4_fewestOf 52 = .ok (.iaload, 1) := dn_46 (ob_cX4_fewestOf_1 11 rfl rfl)
theorem dX4_fewestOf_53 : decode cX4_fewestOf 53 = .ok (.iconst 1, 1) := dn_4 (ob_cX4_fewestOf_1 12 rfl rfl)
theorem dX4_fewestOf_54 : decode cX4_fewestOf 54 = .ok (.iadd, 1) := dn_96 (ob_cX4_fewestOf_1 13 rfl rfl)
theorem dX4_fewestOf_55 : decode cX4_fewestOf 55 = .ok (.invokestatic 65, 3) := dn_184 (ob_cX4_fewestOf_1 14 rfl rfl) rfl
theorem dX4_fewestOf_58 : decode cX4_fewestOf 58 = .ok (.iastore, 1) := dn_79 (ob_cX4_fewestOf_1 17 rfl rfl)
theorem dX4_fewestOf_59 : decode cX4_fewestOf 59 = .ok (.iinc 4 1, 3) := dn_132 (ob_cX4_fewestOf_1 18 rfl rfl) rfl (by decide +kernel)
theorem dX4_fewestOf_62 : decode cX4_fewestOf 62 = .ok (.goto (-35), 3) := dn_167 (ob_cX4_fewestOf_1 21 rfl rfl) (by decide +kernel)
theorem dX4_fewestOf_65 : decode cX4_fewestOf 65 = .ok (.iinc 3 1, 3) := dn_132 (ob_cX4_fewestOf_1 24 rfl rfl) rfl (by decide +kernel)
theorem dX4_fewestOf_68 : decode cX4_fewestOf 68 = .ok (.goto (-55), 3) := dn_167 (ob_cX4_fewestOf_1 27 rfl rfl) (by decide +kernel)
theorem dX4_fewestOf_71 : decode cX4_fewestOf 71 = .ok (.aload_n 2, 1) := dn_44 (ob_cX4_fewestOf_1 30 rfl rfl)
theorem dX4_fewestOf_72 : decode cX4_fewestOf 72 = .ok (.aload_n 0, 1) := dn_42 (ob_cX4_fewestOf_1 31 rfl rfl)
theorem dX4_fewestOf_73 : decode cX4_fewestOf 73 = .ok (.getfield 18, 3) := dn_180 (ob_cX4_fewestOf_1 32 rfl rfl) rfl
theorem dX4_fewestOf_76 : decode cX4_fewestOf 76 = .ok (.iload_n 1, 1) := dn_27 (ob_cX4_fewestOf_1 35 rfl rfl)
theorem dX4_fewestOf_77 : decode cX4_fewestOf 77 = .ok (.iaload, 1) := dn_46 (ob_cX4_fewestOf_1 36 rfl rfl)
theorem dX4_fewestOf_78 : decode cX4_fewestOf 78 = .ok (.iaload, 1) := dn_46 (ob_cX4_fewestOf_1 37 rfl rfl)
theorem dX4_fewestOf_79 : decode cX4_fewestOf 79 = .ok (.ireturn, 1) := dn_172 (ob_cX4_fewestOf_1 38 rfl rfl)
def kb_cX4_partedOf_0 : List UInt8 := [3, 62, 3, 54, 4, 4, 54, 5, 21, 5, 42, 180, 0, 18, 27, 46, 163, 0, 53, 21, 5, 42, 180, 0, 18, 27, 46, 162, 0, 15, 28, 21, 5, 122, 4, 126, 154, 0, 6, 167, 0, 24]
def kb_cX4_partedOf_1 : List UInt8 := [42, 27, 21, 4, 21, 5, 182, 0, 57, 156, 0, 5, 2, 172, 132, 3, 1, 21, 5, 54, 4, 132, 5, 1, 167, 255, 198, 29, 172]
def tb_cX4_partedOf_2 : List UInt8 := []
def tb_cX4_partedOf_1 : List UInt8 := kb_cX4_partedOf_1 ++ tb_cX4_partedOf_2
def tb_cX4_partedOf_0 : List UInt8 := kb_cX4_partedOf_0 ++ tb_cX4_partedOf_1
set_option maxRecDepth 100000 in
theorem tb_cX4_partedOf : (cX4_partedOf).data.toList = tb_cX4_partedOf_0 := eqL_eq (by decide +kernel)
theorem ow_cX4_partedOf_0 (r : Nat) : (cX4_partedOf).data.toList.drop (0 + r) = tb_cX4_partedOf_0.drop r := by rw [tb_cX4_partedOf, Nat.zero_add]
theorem ow_cX4_partedOf_1 (r : Nat) : (cX4_partedOf).data.toList.drop (42 + r) = tb_cX4_partedOf_1.drop r := by
  have e := ow_cX4_partedOf_0 (42 + r)
  rw [show 0 + (42 + r) = 42 + r by omega] at e
  exact e.trans (dr_len (a := kb_cX4_partedOf_0) (t := tb_cX4_partedOf_1) (by decide +kernel))
theorem ob_cX4_partedOf_0 (r : Nat) {pc : Nat} {l : List UInt8} (hp : 0 + r = pc) (h : tb_cX4_partedOf_0.drop r = l) : (cX4_partedOf).data.toList.drop pc = l := by
  subst hp
  exact (ow_cX4_partedOf_0 r).trans h
theorem ob_cX4_partedOf_1 (r : Nat) {pc : Nat} {l : List UInt8} (hp : 42 + r = pc) (h : tb_cX4_partedOf_1.drop r = l) : (cX4_partedOf).data.toList.drop pc = l := by
  subst hp
  exact (ow_cX4_partedOf_1 r).trans h
theorem dX4_partedOf_0 : decode cX4_partedOf 0 = .ok (.iconst 0, 1) := dn_3 (ob_cX4_partedOf_0 0 rfl rfl)
theorem dX4_partedOf_1 : decode cX4_partedOf 1 = .ok (.istore_n 3, 1) := dn_62 (ob_cX4_partedOf_0 1 rfl rfl)
theorem dX4_partedOf_2 : decode cX4_partedOf 2 = .ok (.iconst 0, 1) := dn_3 (ob_cX4_partedOf_0 2 rfl rfl)
theorem dX4_partedOf_3 : decode cX4_partedOf 3 = .ok (.istore 4, 2) := dn_54 (ob_cX4_partedOf_0 3 rfl rfl) rfl
theorem dX4_partedOf_5 : decode cX4_partedOf 5 = .ok (.iconst 1, 1) := dn_4 (ob_cX4_partedOf_0 5 rfl rfl)
theorem dX4_partedOf_6 : decode cX4_partedOf 6 = .ok (.istore 5, 2) := dn_54 (ob_cX4_partedOf_0 6 rfl rfl) rfl
theorem dX4_partedOf_8 : decode cX4_partedOf 8 = .ok (.iload 5, 2) := dn_21 (ob_cX4_partedOf_0 8 rfl rfl) rfl
theorem dX4_partedOf_10 : decode cX4_partedOf 10 = .ok (.aload_n 0, 1) := dn_42 (ob_cX4_partedOf_0 10 rfl rfl)
theorem dX4_partedOf_11 : decode cX4_partedOf 11 = .ok (.getfield 18, 3) := dn_180 (ob_cX4_partedOf_0 11 rfl rfl) rfl
theorem dX4_partedOf_14 : decode cX4_partedOf 14 = .ok (.iload_n 1, 1) := dn_27 (ob_cX4_partedOf_0 14 rfl rfl)
theorem dX4_partedOf_15 : decode cX4_partedOf 15 = .ok (.iaload, 1) := dn_46 (ob_cX4_partedOf_0 15 rfl rfl)
theorem dX4_partedOf_16 : decode cX4_partedOf 16 = .ok (.if_icmp .gt 53, 3) := dn_163 (ob_cX4_partedOf_0 16 rfl rfl) (by decide +kernel)
theorem dX4_partedOf_19 : decode cX4_partedOf 19 = .ok (.iload 5, 2) := dn_21 (ob_cX4_partedOf_0 19 rfl rfl) rfl
theorem dX4_partedOf_21 : decode cX4_partedOf 21 = .ok (.aload_n 0, 1) := dn_42 (ob_cX4_partedOf_0 21 rfl rfl)
theorem dX4_partedOf_22 : decode cX4_partedOf 22 = .ok (.getfield 18, 3) := dn_180 (ob_cX4_partedOf_0 22 rfl rfl) rfl
theorem dX4_partedOf_25 : decode cX4_partedOf 25 = .ok (.iload_n 1, 1) := dn_27 (ob_cX4_partedOf_0 25 rfl rfl)
theorem dX4_partedOf_26 : decode cX4_partedOf 26 = .ok (.iaload, 1) := dn_46 (ob_cX4_partedOf_0 26 rfl rfl)
theorem dX4_partedOf_27 : decode cX4_partedOf 27 = .ok (.if_icmp .ge 15, 3) := dn_162 (ob_cX4_partedOf_0 27 rfl rfl) (by decide +kernel)
theorem dX4_partedOf_30 : decode cX4_partedOf 30 = .ok (.iload_n 2, 1) := dn_28 (ob_cX4_partedOf_0 30 rfl rfl)
theorem dX4_partedOf_31 : decode cX4_partedOf 31 = .ok (.iload 5, 2) := dn_21 (ob_cX4_partedOf_0 31 rfl rfl) rfl
theorem dX4_partedOf_33 : decode cX4_partedOf 33 = .ok (.ishr, 1) := dn_122 (ob_cX4_partedOf_0 33 rfl rfl)
theorem dX4_partedOf_34 : decode cX4_partedOf 34 = .ok (.iconst 1, 1) := dn_4 (ob_cX4_partedOf_0 34 rfl rfl)
theorem dX4_partedOf_35 : decode cX4_partedOf 35 = .ok (.iand, 1) := dn_126 (ob_cX4_partedOf_0 35 rfl rfl)
theorem dX4_partedOf_36 : decode cX4_partedOf 36 = .ok (.ifCond .ne 6, 3) := dn_154 (ob_cX4_partedOf_0 36 rfl rfl) (by decide +kernel)
theorem dX4_partedOf_39 : decode cX4_partedOf 39 = .ok (.goto 24, 3) := dn_167 (ob_cX4_partedOf_0 39 rfl rfl) (by decide +kernel)
theorem dX4_partedOf_42 : decode cX4_partedOf 42 = .ok (.aload_n 0, 1) := dn_42 (ob_cX4_partedOf_1 0 rfl rfl)
theorem dX4_partedOf_43 : decode cX4_partedOf 43 = .ok (.iload_n 1, 1) := dn_27 (ob_cX4_partedOf_1 1 rfl rfl)
theorem dX4_partedOf_44 : decode cX4_partedOf 44 = .ok (.iload 4, 2) := dn_21 (ob_cX4_partedOf_1 2 rfl rfl) rfl
theorem dX4_partedOf_46 : decode cX4_partedOf 46 = .ok (.iload 5, 2) := dn_21 (ob_cX4_partedOf_1 4 rfl rfl) rfl
theorem dX4_partedOf_48 : decode cX4_partedOf 48 = .ok (.invokevirtual 57, 3) := dn_182 (ob_cX4_partedOf_1 6 rfl rfl) rfl
theorem dX4_partedOf_51 : decode cX4_partedOf 51 = .ok (.ifCond .ge 5, 3) := dn_156 (ob_cX4_partedOf_1 9 rfl rfl) (by decide +kernel)
theorem dX4_partedOf_54 : decode cX4_partedOf 54 = .ok (.iconst (-1), 1) := dn_2 (ob_cX4_partedOf_1 12 rfl rfl)
theorem dX4_partedOf_55 : decode cX4_partedOf 55 = .ok (.ireturn, 1) := dn_172 (ob_cX4_partedOf_1 13 rfl rfl)
theorem dX4_partedOf_56 : decode cX4_partedOf 56 = .ok (.iinc 3 1, 3) := dn_132 (ob_cX4_partedOf_1 14 rfl rfl) rfl (by decide +kernel)
theorem dX4_partedOf_59 : decode cX4_partedOf 59 = .ok (.iload 5, 2) := dn_21 (ob_cX4_partedOf_1 17 rfl rfl) rfl
theorem dX4_partedOf_61 : decode cX4_partedOf 61 = .ok (.istore 4, 2) := dn_54 (ob_cX4_partedOf_1 19 rfl rfl) rfl
theorem dX4_partedOf_63 : decode cX4_partedOf 63 = .ok (.iinc 5 1, 3) := dn_132 (ob_cX4_partedOf_1 21 rfl rfl) rfl (by decide +kernel)
theorem dX4_partedOf_66 : decode cX4_partedOf 66 = .ok (.goto (-58), 3) := dn_167 (ob_cX4_partedOf_1 24 rfl rfl) (by decide +kernel)
theorem dX4_partedOf_69 : decode cX4_partedOf 69 = .ok (.iload_n 3, 1) := dn_29 (ob_cX4_partedOf_1 27 rfl rfl)
theorem dX4_partedOf_70 : decode cX4_partedOf 70 = .ok (.ireturn, 1) := dn_172 (ob_cX4_partedOf_1 28 rfl rfl)
def kb_cX4_faultOf_0 : List UInt8 := [3, 61, 28, 42, 180, 0, 18, 27, 46, 162, 0, 37, 42, 42, 180, 0, 15, 27, 50, 28, 46, 28, 154, 0, 8, 16, 11, 167, 0, 5, 16, 12, 182, 0, 45, 154, 0, 5, 28, 172]
def kb_cX4_faultOf_1 : List UInt8 := [132, 2, 1, 167, 255, 215, 42, 180, 0, 18, 27, 46, 154, 0, 7, 3, 167, 0, 4, 2, 172]
def tb_cX4_faultOf_2 : List UInt8 := []
def tb_cX4_faultOf_1 : List UInt8 := kb_cX4_faultOf_1 ++ tb_cX4_faultOf_2
def tb_cX4_faultOf_0 : List UInt8 := kb_cX4_faultOf_0 ++ tb_cX4_faultOf_1
set_option maxRecDepth 100000 in
theorem tb_cX4_faultOf : (cX4_faultOf).data.toList = tb_cX4_faultOf_0 := eqL_eq (by decide +kernel)
theorem ow_cX4_faultOf_0 (r : Nat) : (cX4_faultOf).data.toList.drop (0 + r) = tb_cX4_faultOf_0.drop r := by rw [tb_cX4_faultOf, Nat.zero_add]
theorem ow_cX4_faultOf_1 (r : Nat) : (cX4_faultOf).data.toList.drop (40 + r) = tb_cX4_faultOf_1.drop r := by
  have e := ow_cX4_faultOf_0 (40 + r)
  rw [show 0 + (40 + r) = 40 + r by omega] at e
  exact e.trans (dr_len (a := kb_cX4_faultOf_0) (t := tb_cX4_faultOf_1) (by decide +kernel))
theorem ob_cX4_faultOf_0 (r : Nat) {pc : Nat} {l : List UInt8} (hp : 0 + r = pc) (h : tb_cX4_faultOf_0.drop r = l) : (cX4_faultOf).data.toList.drop pc = l := by
  subst hp
  exact (ow_cX4_faultOf_0 r).trans h
theorem ob_cX4_faultOf_1 (r : Nat) {pc : Nat} {l : List UInt8} (hp : 40 + r = pc) (h : tb_cX4_faultOf_1.drop r = l) : (cX4_faultOf).data.toList.drop pc = l := by
  subst hp
  exact (ow_cX4_faultOf_1 r).trans h
theorem dX4_faultOf_0 : decode cX4_faultOf 0 = .ok (.iconst 0, 1) := dn_3 (ob_cX4_faultOf_0 0 rfl rfl)
theorem dX4_faultOf_1 : decode cX4_faultOf 1 = .ok (.istore_n 2, 1) := dn_61 (ob_cX4_faultOf_0 1 rfl rfl)
theorem dX4_faultOf_2 : decode cX4_faultOf 2 = .ok (.iload_n 2, 1) := dn_28 (ob_cX4_faultOf_0 2 rfl rfl)
theorem dX4_faultOf_3 : decode cX4_faultOf 3 = .ok (.aload_n 0, 1) := dn_42 (ob_cX4_faultOf_0 3 rfl rfl)
theorem dX4_faultOf_4 : decode cX4_faultOf 4 = .ok (.getfield 18, 3) := dn_180 (ob_cX4_faultOf_0 4 rfl rfl) rfl
theorem dX4_faultOf_7 : decode cX4_faultOf 7 = .ok (.iload_n 1, 1) := dn_27 (ob_cX4_faultOf_0 7 rfl rfl)
theorem dX4_faultOf_8 : decode cX4_faultOf 8 = .ok (.iaload, 1) := dn_46 (ob_cX4_faultOf_0 8 rfl rfl)
theorem dX4_faultOf_9 : decode cX4_faultOf 9 = .ok (.if_icmp .ge 37, 3) := dn_162 (ob_cX4_faultOf_0 9 rfl rfl) (by decide +kernel)
theorem dX4_faultOf_12 : decode cX4_faultOf 12 = .ok (.aload_n 0, 1) := dn_42 (ob_cX4_faultOf_0 12 rfl rfl)
theorem dX4_faultOf_13 : decode cX4_faultOf 13 = .ok (.aload_n 0, 1) := dn_42 (ob_cX4_faultOf_0 13 rfl rfl)
theorem dX4_faultOf_14 : decode cX4_faultOf 14 = .ok (.getfield 15, 3) := dn_180 (ob_cX4_faultOf_0 14 rfl rfl) rfl
theorem dX4_faultOf_17 : decode cX4_faultOf 17 = .ok (.iload_n 1, 1) := dn_27 (ob_cX4_faultOf_0 17 rfl rfl)
theorem dX4_faultOf_18 : decode cX4_faultOf 18 = .ok (.aaload, 1) := dn_50 (ob_cX4_faultOf_0 18 rfl rfl)
theorem dX4_faultOf_19 : decode cX4_faultOf 19 = .ok (.iload_n 2, 1) := dn_28 (ob_cX4_faultOf_0 19 rfl rfl)
theorem dX4_faultOf_20 : decode cX4_faultOf 20 = .ok (.iaload, 1) := dn_46 (ob_cX4_faultOf_0 20 rfl rfl)
theorem dX4_faultOf_21 : decode cX4_faultOf 21 = .ok (.iload_n 2, 1) := dn_28 (ob_cX4_faultOf_0 21 rfl rfl)
theorem dX4_faultOf_22 : decode cX4_faultOf 22 = .ok (.ifCond .ne 8, 3) := dn_154 (ob_cX4_faultOf_0 22 rfl rfl) (by decide +kernel)
theorem dX4_faultOf_25 : decode cX4_faultOf 25 = .ok (.bipush 11, 2) := dn_16 (ob_cX4_faultOf_0 25 rfl rfl) (by decide +kernel)
theorem dX4_faultOf_27 : decode cX4_faultOf 27 = .ok (.goto 5, 3) := dn_167 (ob_cX4_faultOf_0 27 rfl rfl) (by decide +kernel)
theorem dX4_faultOf_30 : decode cX4_faultOf 30 = .ok (.bipush 12, 2) := dn_16 (ob_cX4_faultOf_0 30 rfl rfl) (by decide +kernel)
theorem dX4_faultOf_32 : decode cX4_faultOf 32 = .ok (.invokevirtual 45, 3) := dn_182 (ob_cX4_faultOf_0 32 rfl rfl) rfl
theorem dX4_faultOf_35 : decode cX4_faultOf 35 = .ok (.ifCond .ne 5, 3) := dn_154 (ob_cX4_faultOf_0 35 rfl rfl) (by decide +kernel)
theorem dX4_faultOf_38 : decode cX4_faultOf 38 = .ok (.iload_n 2, 1) := dn_28 (ob_cX4_faultOf_0 38 rfl rfl)
theorem dX4_faultOf_39 : decode cX4_faultOf 39 = .ok (.ireturn, 1) := dn_172 (ob_cX4_faultOf_0 39 rfl rfl)
theorem dX4_faultOf_40 : decode cX4_faultOf 40 = .ok (.iinc 2 1, 3) := dn_132 (ob_cX4_faultOf_1 0 rfl rfl) rfl (by decide +kernel)
theorem dX4_faultOf_43 : decode cX4_faultOf 43 = .ok (.goto (-41), 3) := dn_167 (ob_cX4_faultOf_1 3 rfl rfl) (by decide +kernel)
theorem dX4_faultOf_46 : decode cX4_faultOf 46 = .ok (.aload_n 0, 1) := dn_42 (ob_cX4_faultOf_1 6 rfl rfl)
theorem dX4_faultOf_47 : decode cX4_faultOf 47 = .ok (.getfield 18, 3) := dn_180 (ob_cX4_faultOf_1 7 rfl rfl) rfl
theorem dX4_faultOf_50 : decode cX4_faultOf 50 = .ok (.iload_n 1, 1) := dn_27 (ob_cX4_faultOf_1 10 rfl rfl)
theorem dX4_faultOf_51 : decode cX4_faultOf 51 = .ok (.iaload, 1) := dn_46 (ob_cX4_faultOf_1 11 rfl rfl)
theorem dX4_faultOf_52 : decode cX4_faultOf 52 = .ok (.ifCond .ne 7, 3) := dn_154 (ob_cX4_faultOf_1 12 rfl rfl) (by decide +kernel)
theorem dX4_faultOf_55 : decode cX4_faultOf 55 = .ok (.iconst 0, 1) := dn_3 (ob_cX4_faultOf_1 15 rfl rfl)
theorem dX4_faultOf_56 : decode cX4_faultOf 56 = .ok (.goto 4, 3) := dn_167 (ob_cX4_faultOf_1 16 rfl rfl) (by decide +kernel)
theorem dX4_faultOf_59 : decode cX4_faultOf 59 = .ok (.iconst (-1), 1) := dn_2 (ob_cX4_faultOf_1 19 rfl rfl)
theorem dX4_faultOf_60 : decode cX4_faultOf 60 = .ok (.ireturn, 1) := dn_172 (ob_cX4_faultOf_1 20 rfl rfl)
def kb_cX4_is : List UInt8 := [26, 155, 0, 12, 26, 6, 162, 0, 7, 4, 167, 0, 4, 3, 172]
set_option maxRecDepth 10000 in
theorem ob_cX4_is (r : Nat) {l : List UInt8} (h : kb_cX4_is.drop r = l) : (cX4_is).data.toList.drop r = l := by
  rw [show (cX4_is).data.toList = kb_cX4_is from eqL_eq (by decide +kernel)]
  exact h
theorem dX4_is_0 : decode cX4_is 0 = .ok (.iload_n 0, 1) := dn_26 (ob_cX4_is 0 rfl)
theorem dX4_is_1 : decode cX4_is 1 = .ok (.ifCond .lt 12, 3) := dn_155 (ob_cX4_is 1 rfl) (by decide +kernel)
theorem dX4_is_4 : decode cX4_is 4 = .ok (.iload_n 0, 1) := dn_26 (ob_cX4_is 4 rfl)
theorem dX4_is_5 : decode cX4_is 5 = .ok (.iconst 3, 1) := dn_6 (ob_cX4_is 5 rfl)
theorem dX4_is_6 : decode cX4_is 6 = .ok (.if_icmp .ge 7, 3) := dn_162 (ob_cX4_is 6 rfl) (by decide +kernel)
theorem dX4_is_9 : decode cX4_is 9 = .ok (.iconst 1, 1) := dn_4 (ob_cX4_is 9 rfl)
theorem dX4_is_10 : decode cX4_is 10 = .ok (.goto 4, 3) := dn_167 (ob_cX4_is 10 rfl) (by decide +kernel)
theorem dX4_is_13 : decode cX4_is 13 = .ok (.iconst 0, 1) := dn_3 (ob_cX4_is 13 rfl)
theorem dX4_is_14 : decode cX4_is 14 = .ok (.ireturn, 1) := dn_172 (ob_cX4_is 14 rfl)
def kb_cX4_isSign : List UInt8 := [26, 155, 0, 14, 26, 17, 1, 0, 162, 0, 7, 4, 167, 0, 4, 3, 172]
set_option maxRecDepth 10000 in
theorem ob_cX4_isSign (r : Nat) {l : List UInt8} (h : kb_cX4_isSign.drop r = l) : (cX4_isSign).data.toList.drop r = l := by
  rw [show (cX4_isSign).data.toList = kb_cX4_isSign from eqL_eq (by decide +kernel)]
  exact h
theorem dX4_isSign_0 : decode cX4_isSign 0 = .ok (.iload_n 0, 1) := dn_26 (ob_cX4_isSign 0 rfl)
theorem dX4_isSign_1 : decode cX4_isSign 1 = .ok (.ifCond .lt 14, 3) := dn_155 (ob_cX4_isSign 1 rfl) (by decide +kernel)
theorem dX4_isSign_4 : decode cX4_isSign 4 = .ok (.iload_n 0, 1) := dn_26 (ob_cX4_isSign 4 rfl)
theorem dX4_isSign_5 : decode cX4_isSign 5 = .ok (.sipush 256, 3) := dn_17 (ob_cX4_isSign 5 rfl) (by decide +kernel)
theorem dX4_isSign_8 : decode cX4_isSign 8 = .ok (.if_icmp .ge 7, 3) := dn_162 (ob_cX4_isSign 8 rfl) (by decide +kernel)
theorem dX4_isSign_11 : decode cX4_isSign 11 = .ok (.iconst 1, 1) := dn_4 (ob_cX4_isSign 11 rfl)
theorem dX4_isSign_12 : decode cX4_isSign 12 = .ok (.goto 4, 3) := dn_167 (ob_cX4_isSign 12 rfl) (by decide +kernel)
theorem dX4_isSign_15 : decode cX4_isSign 15 = .ok (.iconst 0, 1) := dn_3 (ob_cX4_isSign 15 rfl)
theorem dX4_isSign_16 : decode cX4_isSign 16 = .ok (.ireturn, 1) := dn_172 (ob_cX4_isSign 16 rfl)
def kb_cX4_isQuestion : List UInt8 := [26, 155, 0, 13, 26, 16, 14, 162, 0, 7, 4, 167, 0, 4, 3, 172]
set_option maxRecDepth 10000 in
theorem ob_cX4_isQuestion (r : Nat) {l : List UInt8} (h : kb_cX4_isQuestion.drop r = l) : (cX4_isQuestion).data.toList.drop r = l := by
  rw [show (cX4_isQuestion).data.toList = kb_cX4_isQuestion from eqL_eq (by decide +kernel)]
  exact h
theorem dX4_isQuestion_0 : decode cX4_isQuestion 0 = .ok (.iload_n 0, 1) := dn_26 (ob_cX4_isQuestion 0 rfl)
theorem dX4_isQuestion_1 : decode cX4_isQuestion 1 = .ok (.ifCond .lt 13, 3) := dn_155 (ob_cX4_isQuestion 1 rfl) (by decide +kernel)
theorem dX4_isQuestion_4 : decode cX4_isQuestion 4 = .ok (.iload_n 0, 1) := dn_26 (ob_cX4_isQuestion 4 rfl)
theorem dX4_isQuestion_5 : decode cX4_isQuestion 5 = .ok (.bipush 14, 2) := dn_16 (ob_cX4_isQuestion 5 rfl) (by decide +kernel)
theorem dX4_isQuestion_7 : decode cX4_isQuestion 7 = .ok (.if_icmp .ge 7, 3) := dn_162 (ob_cX4_isQuestion 7 rfl) (by decide +kernel)
theorem dX4_isQuestion_10 : decode cX4_isQuestion 10 = .ok (.iconst 1, 1) := dn_4 (ob_cX4_isQuestion 10 rfl)
theorem dX4_isQuestion_11 : decode cX4_isQuestion 11 = .ok (.goto 4, 3) := dn_167 (ob_cX4_isQuestion 11 rfl) (by decide +kernel)
theorem dX4_isQuestion_14 : decode cX4_isQuestion 14 = .ok (.iconst 0, 1) := dn_3 (ob_cX4_isQuestion 14 rfl)
theorem dX4_isQuestion_15 : decode cX4_isQuestion 15 = .ok (.ireturn, 1) := dn_172 (ob_cX4_isQuestion 15 rfl)
def kb_cX4_isKind : List UInt8 := [26, 155, 0, 13, 26, 16, 31, 162, 0, 7, 4, 167, 0, 4, 3, 172]
set_option maxRecDepth 10000 in
theorem ob_cX4_isKind (r : Nat) {l : List UInt8} (h : kb_cX4_isKind.drop r = l) : (cX4_isKind).data.toList.drop r = l := by
  rw [show (cX4_isKind).data.toList = kb_cX4_isKind from eqL_eq (by decide +kernel)]
  exact h
theorem dX4_isKind_0 : decode cX4_isKind 0 = .ok (.iload_n 0, 1) := dn_26 (ob_cX4_isKind 0 rfl)
theorem dX4_isKind_1 : decode cX4_isKind 1 = .ok (.ifCond .lt 13, 3) := dn_155 (ob_cX4_isKind 1 rfl) (by decide +kernel)
theorem dX4_isKind_4 : decode cX4_isKind 4 = .ok (.iload_n 0, 1) := dn_26 (ob_cX4_isKind 4 rfl)
theorem dX4_isKind_5 : decode cX4_isKind 5 = .ok (.bipush 31, 2) := dn_16 (ob_cX4_isKind 5 rfl) (by decide +kernel)
theorem dX4_isKind_7 : decode cX4_isKind 7 = .ok (.if_icmp .ge 7, 3) := dn_162 (ob_cX4_isKind 7 rfl) (by decide +kernel)
theorem dX4_isKind_10 : decode cX4_isKind 10 = .ok (.iconst 1, 1) := dn_4 (ob_cX4_isKind 10 rfl)
theorem dX4_isKind_11 : decode cX4_isKind 11 = .ok (.goto 4, 3) := dn_167 (ob_cX4_isKind 11 rfl) (by decide +kernel)
theorem dX4_isKind_14 : decode cX4_isKind 14 = .ok (.iconst 0, 1) := dn_3 (ob_cX4_isKind 14 rfl)
theorem dX4_isKind_15 : decode cX4_isKind 15 = .ok (.ireturn, 1) := dn_172 (ob_cX4_isKind 15 rfl)
def kb_cX4_isPlace : List UInt8 := [27, 184, 0, 70, 153, 0, 21, 28, 155, 0, 17, 28, 42, 180, 0, 18, 27, 46, 162, 0, 7, 4, 167, 0, 4, 3, 172]
set_option maxRecDepth 10000 in
theorem ob_cX4_isPlace (r : Nat) {l : List UInt8} (h : kb_cX4_isPlace.drop r = l) : (cX4_isPlace).data.toList.drop r = l := by
  rw [show (cX4_isPlace).data.toList = kb_cX4_isPlace from eqL_eq (by decide +kernel)]
  exact h
theorem dX4_isPlace_0 : decode cX4_isPlace 0 = .ok (.iload_n 1, 1) := dn_27 (ob_cX4_isPlace 0 rfl)
theorem dX4_isPlace_1 : decode cX4_isPlace 1 = .ok (.invokestatic 70, 3) := dn_184 (ob_cX4_isPlace 1 rfl) rfl
theorem dX4_isPlace_4 : decode cX4_isPlace 4 = .ok (.ifCond .eq 21, 3) := dn_153 (ob_cX4_isPlace 4 rfl) (by decide +kernel)
theorem dX4_isPlace_7 : decode cX4_isPlace 7 = .ok (.iload_n 2, 1) := dn_28 (ob_cX4_isPlace 7 rfl)
theorem dX4_isPlace_8 : decode cX4_isPlace 8 = .ok (.ifCond .lt 17, 3) := dn_155 (ob_cX4_isPlace 8 rfl) (by decide +kernel)
theorem dX4_isPlace_11 : decode cX4_isPlace 11 = .ok (.iload_n 2, 1) := dn_28 (ob_cX4_isPlace 11 rfl)
theorem dX4_isPlace_12 : decode cX4_isPlace 12 = .ok (.aload_n 0, 1) := dn_42 (ob_cX4_isPlace 12 rfl)
theorem dX4_isPlace_13 : decode cX4_isPlace 13 = .ok (.getfield 18, 3) := dn_180 (ob_cX4_isPlace 13 rfl) rfl
theorem dX4_isPlace_16 : decode cX4_isPlace 16 = .ok (.iload_n 1, 1) := dn_27 (ob_cX4_isPlace 16 rfl)
theorem dX4_isPlace_17 : decode cX4_isPlace 17 = .ok (.iaload, 1) := dn_46 (ob_cX4_isPlace 17 rfl)
theorem dX4_isPlace_18 : decode cX4_isPlace 18 = .ok (.if_icmp .ge 7, 3) := dn_162 (ob_cX4_isPlace 18 rfl) (by decide +kernel)
theorem dX4_isPlace_21 : decode cX4_isPlace 21 = .ok (.iconst 1, 1) := dn_4 (ob_cX4_isPlace 21 rfl)
theorem dX4_isPlace_22 : decode cX4_isPlace 22 = .ok (.goto 4, 3) := dn_167 (ob_cX4_isPlace 22 rfl) (by decide +kernel)
theorem dX4_isPlace_25 : decode cX4_isPlace 25 = .ok (.iconst 0, 1) := dn_3 (ob_cX4_isPlace 25 rfl)
theorem dX4_isPlace_26 : decode cX4_isPlace 26 = .ok (.ireturn, 1) := dn_172 (ob_cX4_isPlace 26 rfl)
def kb_cX4_isThrown : List UInt8 := [42, 27, 153, 0, 7, 4, 167, 0, 12, 28, 153, 0, 7, 5, 167, 0, 4, 3, 181, 0, 30, 42, 180, 0, 30, 158, 0, 7, 4, 167, 0, 4, 3, 172]
set_option maxRecDepth 10000 in
theorem ob_cX4_isThrown (r : Nat) {l : List UInt8} (h : kb_cX4_isThrown.drop r = l) : (cX4_isThrown).data.toList.drop r = l := by
  rw [show (cX4_isThrown).data.toList = kb_cX4_isThrown from eqL_eq (by decide +kernel)]
  exact h
theorem dX4_isThrown_0 : decode cX4_isThrown 0 = .ok (.aload_n 0, 1) := dn_42 (ob_cX4_isThrown 0 rfl)
theorem dX4_isThrown_1 : decode cX4_isThrown 1 = .ok (.iload_n 1, 1) := dn_27 (ob_cX4_isThrown 1 rfl)
theorem dX4_isThrown_2 : decode cX4_isThrown 2 = .ok (.ifCond .eq 7, 3) := dn_153 (ob_cX4_isThrown 2 rfl) (by decide +kernel)
theorem dX4_isThrown_5 : decode cX4_isThrown 5 = .ok (.iconst 1, 1) := dn_4 (ob_cX4_isThrown 5 rfl)
theorem dX4_isThrown_6 : decode cX4_isThrown 6 = .ok (.goto 12, 3) := dn_167 (ob_cX4_isThrown 6 rfl) (by decide +kernel)
theorem dX4_isThrown_9 : decode cX4_isThrown 9 = .ok (.iload_n 2, 1) := dn_28 (ob_cX4_isThrown 9 rfl)
theorem dX4_isThrown_10 : decode cX4_isThrown 10 = .ok (.ifCond .eq 7, 3) := dn_153 (ob_cX4_isThrown 10 rfl) (by decide +kernel)
theorem dX4_isThrown_13 : decode cX4_isThrown 13 = .ok (.iconst 2, 1) := dn_5 (ob_cX4_isThrown 13 rfl)
theorem dX4_isThrown_14 : decode cX4_isThrown 14 = .ok (.goto 4, 3) := dn_167 (ob_cX4_isThrown 14 rfl) (by decide +kernel)
theorem dX4_isThrown_17 : decode cX4_isThrown 17 = .ok (.iconst 0, 1) := dn_3 (ob_cX4_isThrown 17 rfl)
theorem dX4_isThrown_18 : decode cX4_isThrown 18 = .ok (.putfield 30, 3) := dn_181 (ob_cX4_isThrown 18 rfl) rfl
theorem dX4_isThrown_21 : decode cX4_isThrown 21 = .ok (.aload_n 0, 1) := dn_42 (ob_cX4_isThrown 21 rfl)
theorem dX4_isThrown_22 : decode cX4_isThrown 22 = .ok (.getfield 30, 3) := dn_180 (ob_cX4_isThrown 22 rfl) rfl
theorem dX4_isThrown_25 : decode cX4_isThrown 25 = .ok (.ifCond .le 7, 3) := dn_158 (ob_cX4_isThrown 25 rfl) (by decide +kernel)
theorem dX4_isThrown_28 : decode cX4_isThrown 28 = .ok (.iconst 1, 1) := dn_4 (ob_cX4_isThrown 28 rfl)
theorem dX4_isThrown_29 : decode cX4_isThrown 29 = .ok (.goto 4, 3) := dn_167 (ob_cX4_isThrown 29 rfl) (by decide +kernel)
theorem dX4_isThrown_32 : decode cX4_isThrown 32 = .ok (.iconst 0, 1) := dn_3 (ob_cX4_isThrown 32 rfl)
theorem dX4_isThrown_33 : decode cX4_isThrown 33 = .ok (.ireturn, 1) := dn_172 (ob_cX4_isThrown 33 rfl)
def kb_cX4_isThrown_ : List UInt8 := [42, 27, 3, 182, 0, 73, 172]
set_option maxRecDepth 10000 in
theorem ob_cX4_isThrown_ (r : Nat) {l : List UInt8} (h : kb_cX4_isThrown_.drop r = l) : (cX4_isThrown_).data.toList.drop r = l := by
  rw [show (cX4_isThrown_).data.toList = kb_cX4_isThrown_ from eqL_eq (by decide +kernel)]
  exact h
theorem dX4_isThrown__0 : decode cX4_isThrown_ 0 = .ok (.aload_n 0, 1) := dn_42 (ob_cX4_isThrown_ 0 rfl)
theorem dX4_isThrown__1 : decode cX4_isThrown_ 1 = .ok (.iload_n 1, 1) := dn_27 (ob_cX4_isThrown_ 1 rfl)
theorem dX4_isThrown__2 : decode cX4_isThrown_ 2 = .ok (.iconst 0, 1) := dn_3 (ob_cX4_isThrown_ 2 rfl)
theorem dX4_isThrown__3 : decode cX4_isThrown_ 3 = .ok (.invokevirtual 73, 3) := dn_182 (ob_cX4_isThrown_ 3 rfl) rfl
theorem dX4_isThrown__6 : decode cX4_isThrown_ 6 = .ok (.ireturn, 1) := dn_172 (ob_cX4_isThrown_ 6 rfl)
def kb_cX4_done : List UInt8 := [42, 89, 180, 0, 77, 4, 96, 181, 0, 77, 27, 172]
set_option maxRecDepth 10000 in
theorem ob_cX4_done (r : Nat) {l : List UInt8} (h : kb_cX4_done.drop r = l) : (cX4_done).data.toList.drop r = l := by
  rw [show (cX4_done).data.toList = kb_cX4_done from eqL_eq (by decide +kernel)]
  exact h
theorem dX4_done_0 : decode cX4_done 0 = .ok (.aload_n 0, 1) := dn_42 (ob_cX4_done 0 rfl)
theorem dX4_done_1 : decode cX4_done 1 = .ok (.dup, 1) := dn_89 (ob_cX4_done 1 rfl)
theorem dX4_done_2 : decode cX4_done 2 = .ok (.getfield 77, 3) := dn_180 (ob_cX4_done 2 rfl) rfl
theorem dX4_done_5 : decode cX4_done 5 = .ok (.iconst 1, 1) := dn_4 (ob_cX4_done 5 rfl)
theorem dX4_done_6 : decode cX4_done 6 = .ok (.iadd, 1) := dn_96 (ob_cX4_done 6 rfl)
theorem dX4_done_7 : decode cX4_done 7 = .ok (.putfield 77, 3) := dn_181 (ob_cX4_done 7 rfl) rfl
theorem dX4_done_10 : decode cX4_done 10 = .ok (.iload_n 1, 1) := dn_27 (ob_cX4_done 10 rfl)
theorem dX4_done_11 : decode cX4_done 11 = .ok (.ireturn, 1) := dn_172 (ob_cX4_done 11 rfl)
def kb_cX4_no : List UInt8 := [42, 89, 180, 0, 80, 4, 96, 181, 0, 80, 16, 247, 172]
set_option maxRecDepth 10000 in
theorem ob_cX4_no (r : Nat) {l : List UInt8} (h : kb_cX4_no.drop r = l) : (cX4_no).data.toList.drop r = l := by
  rw [show (cX4_no).data.toList = kb_cX4_no from eqL_eq (by decide +kernel)]
  exact h
theorem dX4_no_0 : decode cX4_no 0 = .ok (.aload_n 0, 1) := dn_42 (ob_cX4_no 0 rfl)
theorem dX4_no_1 : decode cX4_no 1 = .ok (.dup, 1) := dn_89 (ob_cX4_no 1 rfl)
theorem dX4_no_2 : decode cX4_no 2 = .ok (.getfield 80, 3) := dn_180 (ob_cX4_no 2 rfl) rfl
theorem dX4_no_5 : decode cX4_no 5 = .ok (.iconst 1, 1) := dn_4 (ob_cX4_no 5 rfl)
theorem dX4_no_6 : decode cX4_no 6 = .ok (.iadd, 1) := dn_96 (ob_cX4_no 6 rfl)
theorem dX4_no_7 : decode cX4_no 7 = .ok (.putfield 80, 3) := dn_181 (ob_cX4_no 7 rfl) rfl
theorem dX4_no_10 : decode cX4_no 10 = .ok (.bipush (-9), 2) := dn_16 (ob_cX4_no 10 rfl) (by decide +kernel)
theorem dX4_no_12 : decode cX4_no 12 = .ok (.ireturn, 1) := dn_172 (ob_cX4_no 12 rfl)
def kb_cX4_become_0 : List UInt8 := [16, 30, 188, 10, 58, 4, 3, 54, 5, 21, 5, 29, 162, 0, 18, 25, 4, 21, 5, 44, 21, 5, 46, 79, 132, 5, 1, 167, 255, 238, 42, 180, 0, 15, 27, 25, 4, 83, 42, 180, 0, 18]
def kb_cX4_become_1 : List UInt8 := [27, 29, 79, 177]
def tb_cX4_become_2 : List UInt8 := []
def tb_cX4_become_1 : List UInt8 := kb_cX4_become_1 ++ tb_cX4_become_2
def tb_cX4_become_0 : List UInt8 := kb_cX4_become_0 ++ tb_cX4_become_1
set_option maxRecDepth 100000 in
theorem tb_cX4_become : (cX4_become).data.toList = tb_cX4_become_0 := eqL_eq (by decide +kernel)
theorem ow_cX4_become_0 (r : Nat) : (cX4_become).data.toList.drop (0 + r) = tb_cX4_become_0.drop r := by rw [tb_cX4_become, Nat.zero_add]
theorem ow_cX4_become_1 (r : Nat) : (cX4_become).data.toList.drop (42 + r) = tb_cX4_become_1.drop r := by
  have e := ow_cX4_become_0 (42 + r)
  rw [show 0 + (42 + r) = 42 + r by omega] at e
  exact e.trans (dr_len (a := kb_cX4_become_0) (t := tb_cX4_become_1) (by decide +kernel))
theorem ob_cX4_become_0 (r : Nat) {pc : Nat} {l : List UInt8} (hp : 0 + r = pc) (h : tb_cX4_become_0.drop r = l) : (cX4_become).data.toList.drop pc = l := by
  subst hp
  exact (ow_cX4_become_0 r).trans h
theorem ob_cX4_become_1 (r : Nat) {pc : Nat} {l : List UInt8} (hp : 42 + r = pc) (h : tb_cX4_become_1.drop r = l) : (cX4_become).data.toList.drop pc = l := by
  subst hp
  exact (ow_cX4_become_1 r).trans h
theorem dX4_become_0 : decode cX4_become 0 = .ok (.bipush 30, 2) := dn_16 (ob_cX4_become_0 0 rfl rfl) (by decide +kernel)
theorem dX4_become_2 : decode cX4_become 2 = .ok (.newarray .int, 2) := by decide +kernel
theorem dX4_become_4 : decode cX4_become 4 = .ok (.astore 4, 2) := dn_58 (ob_cX4_become_0 4 rfl rfl) rfl
theorem dX4_become_6 : decode cX4_become 6 = .ok (.iconst 0, 1) := dn_3 (ob_cX4_become_0 6 rfl rfl)
theorem dX4_become_7 : decode cX4_become 7 = .ok (.istore 5, 2) := dn_54 (ob_cX4_become_0 7 rfl rfl) rfl
theorem dX4_become_9 : decode cX4_become 9 = .ok (.iload 5, 2) := dn_21 (ob_cX4_become_0 9 rfl rfl) rfl
theorem dX4_become_11 : decode cX4_become 11 = .ok (.iload_n 3, 1) := dn_29 (ob_cX4_become_0 11 rfl rfl)
theorem dX4_become_12 : decode cX4_become 12 = .ok (.if_icmp .ge 18, 3) := dn_162 (ob_cX4_become_0 12 rfl rfl) (by decide +kernel)
theorem dX4_become_15 : decode cX4_become 15 = .ok (.aload 4, 2) := dn_25 (ob_cX4_become_0 15 rfl rfl) rfl
theorem dX4_become_17 : decode cX4_become 17 = .ok (.iload 5, 2) := dn_21 (ob_cX4_become_0 17 rfl rfl) rfl
theorem dX4_become_19 : decode cX4_become 19 = .ok (.aload_n 2, 1) := dn_44 (ob_cX4_become_0 19 rfl rfl)
theorem dX4_become_20 : decode cX4_become 20 = .ok (.iload 5, 2) := dn_21 (ob_cX4_become_0 20 rfl rfl) rfl
theorem dX4_become_22 : decode cX4_become 22 = .ok (.iaload, 1) := dn_46 (ob_cX4_become_0 22 rfl rfl)
theorem dX4_become_23 : decode cX4_become 23 = .ok (.iastore, 1) := dn_79 (ob_cX4_become_0 23 rfl rfl)
theorem dX4_become_24 : decode cX4_become 24 = .ok (.iinc 5 1, 3) := dn_132 (ob_cX4_become_0 24 rfl rfl) rfl (by decide +kernel)
theorem dX4_become_27 : decode cX4_become 27 = .ok (.goto (-18), 3) := dn_167 (ob_cX4_become_0 27 rfl rfl) (by decide +kernel)
theorem dX4_become_30 : decode cX4_become 30 = .ok (.aload_n 0, 1) := dn_42 (ob_cX4_become_0 30 rfl rfl)
theorem dX4_become_31 : decode cX4_become 31 = .ok (.getfield 15, 3) := dn_180 (ob_cX4_become_0 31 rfl rfl) rfl
theorem dX4_become_34 : decode cX4_become 34 = .ok (.iload_n 1, 1) := dn_27 (ob_cX4_become_0 34 rfl rfl)
theorem dX4_become_35 : decode cX4_become 35 = .ok (.aload 4, 2) := dn_25 (ob_cX4_become_0 35 rfl rfl) rfl
theorem dX4_become_37 : decode cX4_become 37 = .ok (.aastore, 1) := dn_83 (ob_cX4_become_0 37 rfl rfl)
theorem dX4_become_38 : decode cX4_become 38 = .ok (.aload_n 0, 1) := dn_42 (ob_cX4_become_0 38 rfl rfl)
theorem dX4_become_39 : decode cX4_become 39 = .ok (.getfield 18, 3) := dn_180 (ob_cX4_become_0 39 rfl rfl) rfl
theorem dX4_become_42 : decode cX4_become 42 = .ok (.iload_n 1, 1) := dn_27 (ob_cX4_become_1 0 rfl rfl)
theorem dX4_become_43 : decode cX4_become 43 = .ok (.iload_n 3, 1) := dn_29 (ob_cX4_become_1 1 rfl rfl)
theorem dX4_become_44 : decode cX4_become 44 = .ok (.iastore, 1) := dn_79 (ob_cX4_become_1 2 rfl rfl)
theorem dX4_become_45 : decode cX4_become 45 = .ok (.return_, 1) := dn_177 (ob_cX4_become_1 3 rfl rfl)
def kb_cX4_add_0 : List UInt8 := [42, 27, 184, 0, 70, 154, 0, 7, 4, 167, 0, 4, 3, 28, 184, 0, 83, 154, 0, 7, 4, 167, 0, 4, 3, 182, 0, 73, 153, 0, 5, 3, 172, 42, 27, 42, 180, 0, 18, 27]
def kb_cX4_add_1 : List UInt8 := [46, 28, 182, 0, 86, 172]
def tb_cX4_add_2 : List UInt8 := []
def tb_cX4_add_1 : List UInt8 := kb_cX4_add_1 ++ tb_cX4_add_2
def tb_cX4_add_0 : List UInt8 := kb_cX4_add_0 ++ tb_cX4_add_1
set_option maxRecDepth 100000 in
theorem tb_cX4_add : (cX4_add).data.toList = tb_cX4_add_0 := eqL_eq (by decide +kernel)
theorem ow_cX4_add_0 (r : Nat) : (cX4_add).data.toList.drop (0 + r) = tb_cX4_add_0.drop r := by rw [tb_cX4_add, Nat.zero_add]
theorem ow_cX4_add_1 (r : Nat) : (cX4_add).data.toList.drop (40 + r) = tb_cX4_add_1.drop r := by
  have e := ow_cX4_add_0 (40 + r)
  rw [show 0 + (40 + r) = 40 + r by omega] at e
  exact e.trans (dr_len (a := kb_cX4_add_0) (t := tb_cX4_add_1) (by decide +kernel))
theorem ob_cX4_add_0 (r : Nat) {pc : Nat} {l : List UInt8} (hp : 0 + r = pc) (h : tb_cX4_add_0.drop r = l) : (cX4_add).data.toList.drop pc = l := by
  subst hp
  exact (ow_cX4_add_0 r).trans h
theorem ob_cX4_add_1 (r : Nat) {pc : Nat} {l : List UInt8} (hp : 40 + r = pc) (h : tb_cX4_add_1.drop r = l) : (cX4_add).data.toList.drop pc = l := by
  subst hp
  exact (ow_cX4_add_1 r).trans h
theorem dX4_add_0 : decode cX4_add 0 = .ok (.aload_n 0, 1) := dn_42 (ob_cX4_add_0 0 rfl rfl)
theorem dX4_add_1 : decode cX4_add 1 = .ok (.iload_n 1, 1) := dn_27 (ob_cX4_add_0 1 rfl rfl)
theorem dX4_add_2 : decode cX4_add 2 = .ok (.invokestatic 70, 3) := dn_184 (ob_cX4_add_0 2 rfl rfl) rfl
theorem dX4_add_5 : decode cX4_add 5 = .ok (.ifCond .ne 7, 3) := dn_154 (ob_cX4_add_0 5 rfl rfl) (by decide +kernel)
theorem dX4_add_8 : decode cX4_add 8 = .ok (.iconst 1, 1) := dn_4 (ob_cX4_add_0 8 rfl rfl)
theorem dX4_add_9 : decode cX4_add 9 = .ok (.goto 4, 3) := dn_167 (ob_cX4_add_0 9 rfl rfl) (by decide +kernel)
theorem dX4_add_12 : decode cX4_add 12 = .ok (.iconst 0, 1) := dn_3 (ob_cX4_add_0 12 rfl rfl)
theorem dX4_add_13 : decode cX4_add 13 = .ok (.iload_n 2, 1) := dn_28 (ob_cX4_add_0 13 rfl rfl)
theorem dX4_add_14 : decode cX4_add 14 = .ok (.invokestatic 83, 3) := dn_184 (ob_cX4_add_0 14 rfl rfl) rfl
theorem dX4_add_17 : decode cX4_add 17 = .ok (.ifCond .ne 7, 3) := dn_154 (ob_cX4_add_0 17 rfl rfl) (by decide +kernel)
theorem dX4_add_20 : decode cX4_add 20 = .ok (.iconst 1, 1) := dn_4 (ob_cX4_add_0 20 rfl rfl)
theorem dX4_add_21 : decode cX4_add 21 = .ok (.goto 4, 3) := dn_167 (ob_cX4_add_0 21 rfl rfl) (by decide +kernel)
theorem dX4_add_24 : decode cX4_add 24 = .ok (.iconst 0, 1) := dn_3 (ob_cX4_add_0 24 rfl rfl)
theorem dX4_add_25 : decode cX4_add 25 = .ok (.invokevirtual 73, 3) := dn_182 (ob_cX4_add_0 25 rfl rfl) rfl
theorem dX4_add_28 : decode cX4_add 28 = .ok (.ifCond .eq 5, 3) := dn_153 (ob_cX4_add_0 28 rfl rfl) (by decide +kernel)
theorem dX4_add_31 : decode cX4_add 31 = .ok (.iconst 0, 1) := dn_3 (ob_cX4_add_0 31 rfl rfl)
theorem dX4_add_32 : decode cX4_add 32 = .ok (.ireturn, 1) := dn_172 (ob_cX4_add_0 32 rfl rfl)
theorem dX4_add_33 : decode cX4_add 33 = .ok (.aload_n 0, 1) := dn_42 (ob_cX4_add_0 33 rfl rfl)
theorem dX4_add_34 : decode cX4_add 34 = .ok (.iload_n 1, 1) := dn_27 (ob_cX4_add_0 34 rfl rfl)
theorem dX4_add_35 : decode cX4_add 35 = .ok (.aload_n 0, 1) := dn_42 (ob_cX4_add_0 35 rfl rfl)
theorem dX4_add_36 : decode cX4_add 36 = .ok (.getfield 18, 3) := dn_180 (ob_cX4_add_0 36 rfl rfl) rfl
theorem dX4_add_39 : decode cX4_add 39 = .ok (.iload_n 1, 1) := dn_27 (ob_cX4_add_0 39 rfl rfl)
theorem dX4_add_40 : decode cX4_add 40 = .ok (.iaload, 1) := dn_46 (ob_cX4_add_1 0 rfl rfl)
theorem dX4_add_41 : decode cX4_add 41 = .ok (.iload_n 2, 1) := dn_28 (ob_cX4_add_1 1 rfl rfl)
theorem dX4_add_42 : decode cX4_add 42 = .ok (.invokevirtual 86, 3) := dn_182 (ob_cX4_add_1 2 rfl rfl) rfl
theorem dX4_add_45 : decode cX4_add 45 = .ok (.ireturn, 1) := dn_172 (ob_cX4_add_1 5 rfl rfl)
def kb_cX4_put_0 : List UInt8 := [42, 42, 27, 28, 182, 0, 89, 154, 0, 7, 4, 167, 0, 4, 3, 29, 184, 0, 83, 154, 0, 7, 4, 167, 0, 4, 3, 182, 0, 73, 153, 0, 5, 3, 172, 42, 180, 0, 15, 27]
def kb_cX4_put_1 : List UInt8 := [50, 28, 46, 54, 4, 42, 180, 0, 15, 27, 50, 28, 29, 79, 42, 21, 4, 182, 0, 92, 172]
def tb_cX4_put_2 : List UInt8 := []
def tb_cX4_put_1 : List UInt8 := kb_cX4_put_1 ++ tb_cX4_put_2
def tb_cX4_put_0 : List UInt8 := kb_cX4_put_0 ++ tb_cX4_put_1
set_option maxRecDepth 100000 in
theorem tb_cX4_put : (cX4_put).data.toList = tb_cX4_put_0 := eqL_eq (by decide +kernel)
theorem ow_cX4_put_0 (r : Nat) : (cX4_put).data.toList.drop (0 + r) = tb_cX4_put_0.drop r := by rw [tb_cX4_put, Nat.zero_add]
theorem ow_cX4_put_1 (r : Nat) : (cX4_put).data.toList.drop (40 + r) = tb_cX4_put_1.drop r := by
  have e := ow_cX4_put_0 (40 + r)
  rw [show 0 + (40 + r) = 40 + r by omega] at e
  exact e.trans (dr_len (a := kb_cX4_put_0) (t := tb_cX4_put_1) (by decide +kernel))
theorem ob_cX4_put_0 (r : Nat) {pc : Nat} {l : List UInt8} (hp : 0 + r = pc) (h : tb_cX4_put_0.drop r = l) : (cX4_put).data.toList.drop pc = l := by
  subst hp
  exact (ow_cX4_put_0 r).trans h
theorem ob_cX4_put_1 (r : Nat) {pc : Nat} {l : List UInt8} (hp : 40 + r = pc) (h : tb_cX4_put_1.drop r = l) : (cX4_put).data.toList.drop pc = l := by
  subst hp
  exact (ow_cX4_put_1 r).trans h
theorem dX4_put_0 : decode cX4_put 0 = .ok (.aload_n 0, 1) := dn_42 (ob_cX4_put_0 0 rfl rfl)
theorem dX4_put_1 : decode cX4_put 1 = .ok (.aload_n 0, 1) := dn_42 (ob_cX4_put_0 1 rfl rfl)
theorem dX4_put_2 : decode cX4_put 2 = .ok (.iload_n 1, 1) := dn_27 (ob_cX4_put_0 2 rfl rfl)
theorem dX4_put_3 : decode cX4_put 3 = .ok (.iload_n 2, 1) := dn_28 (ob_cX4_put_0 3 rfl rfl)
theorem dX4_put_4 : decode cX4_put 4 = .ok (.invokevirtual 89, 3) := dn_182 (ob_cX4_put_0 4 rfl rfl) rfl
theorem dX4_put_7 : decode cX4_put 7 = .ok (.ifCond .ne 7, 3) := dn_154 (ob_cX4_put_0 7 rfl rfl) (by decide +kernel)
theorem dX4_put_10 : decode cX4_put 10 = .ok (.iconst 1, 1) := dn_4 (ob_cX4_put_0 10 rfl rfl)
theorem dX4_put_11 : decode cX4_put 11 = .ok (.goto 4, 3) := dn_167 (ob_cX4_put_0 11 rfl rfl) (by decide +kernel)
theorem dX4_put_14 : decode cX4_put 14 = .ok (.iconst 0, 1) := dn_3 (ob_cX4_put_0 14 rfl rfl)
theorem dX4_put_15 : decode cX4_put 15 = .ok (.iload_n 3, 1) := dn_29 (ob_cX4_put_0 15 rfl rfl)
theorem dX4_put_16 : decode cX4_put 16 = .ok (.invokestatic 83, 3) := dn_184 (ob_cX4_put_0 16 rfl rfl) rfl
theorem dX4_put_19 : decode cX4_put 19 = .ok (.ifCond .ne 7, 3) := dn_154 (ob_cX4_put_0 19 rfl rfl) (by decide +kernel)
theorem dX4_put_22 : decode cX4_put 22 = .ok (.iconst 1, 1) := dn_4 (ob_cX4_put_0 22 rfl rfl)
theorem dX4_put_23 : decode cX4_put 23 = .ok (.goto 4, 3) := dn_167 (ob_cX4_put_0 23 rfl rfl) (by decide +kernel)
theorem dX4_put_26 : decode cX4_put 26 = .ok (.iconst 0, 1) := dn_3 (ob_cX4_put_0 26 rfl rfl)
theorem dX4_put_27 : decode cX4_put 27 = .ok (.invokevirtual 73, 3) := dn_182 (ob_cX4_put_0 27 rfl rfl) rfl
theorem dX4_put_30 : decode cX4_put 30 = .ok (.ifCond .eq 5, 3) := dn_153 (ob_cX4_put_0 30 rfl rfl) (by decide +kernel)
theorem dX4_put_33 : decode cX4_put 33 = .ok (.iconst 0, 1) := dn_3 (ob_cX4_put_0 33 rfl rfl)
theorem dX4_put_34 : decode cX4_put 34 = .ok (.ireturn, 1) := dn_172 (ob_cX4_put_0 34 rfl rfl)
theorem dX4_put_35 : decode cX4_put 35 = .ok (.aload_n 0, 1) := dn_42 (ob_cX4_put_0 35 rfl rfl)
theorem dX4_put_36 : decode cX4_put 36 = .ok (.getfield 15, 3) := dn_180 (ob_cX4_put_0 36 rfl rfl) rfl
theorem dX4_put_39 : decode cX4_put 39 = .ok (.iload_n 1, 1) := dn_27 (ob_cX4_put_0 39 rfl rfl)
theorem dX4_put_40 : decode cX4_put 40 = .ok (.aaload, 1) := dn_50 (ob_cX4_put_1 0 rfl rfl)
theorem dX4_put_41 : decode cX4_put 41 = .ok (.iload_n 2, 1) := dn_28 (ob_cX4_put_1 1 rfl rfl)
theorem dX4_put_42 : decode cX4_put 42 = .ok (.iaload, 1) := dn_46 (ob_cX4_put_1 2 rfl rfl)
theorem dX4_put_43 : decode cX4_put 43 = .ok (.istore 4, 2) := dn_54 (ob_cX4_put_1 3 rfl rfl) rfl
theorem dX4_put_45 : decode cX4_put 45 = .ok (.aload_n 0, 1) := dn_42 (ob_cX4_put_1 5 rfl rfl)
theorem dX4_put_46 : decode cX4_put 46 = .ok (.getfield 15, 3) := dn_180 (ob_cX4_put_1 6 rfl rfl) rfl
theorem dX4_put_49 : decode cX4_put 49 = .ok (.iload_n 1, 1) := dn_27 (ob_cX4_put_1 9 rfl rfl)
theorem dX4_put_50 : decode cX4_put 50 = .ok (.aaload, 1) := dn_50 (ob_cX4_put_1 10 rfl rfl)
theorem dX4_put_51 : decode cX4_put 51 = .ok (.iload_n 2, 1) := dn_28 (ob_cX4_put_1 11 rfl rfl)
theorem dX4_put_52 : decode cX4_put 52 = .ok (.iload_n 3, 1) := dn_29 (ob_cX4_put_1 12 rfl rfl)
theorem dX4_put_53 : decode cX4_put 53 = .ok (.iastore, 1) := dn_79 (ob_cX4_put_1 13 rfl rfl)
theorem dX4_put_54 : decode cX4_put 54 = .ok (.aload_n 0, 1) := dn_42 (ob_cX4_put_1 14 rfl rfl)
theorem dX4_put_55 : decode cX4_put 55 = .ok (.iload 4, 2) := dn_21 (ob_cX4_put_1 15 rfl rfl) rfl
theorem dX4_put_57 : decode cX4_put 57 = .ok (.invokevirtual 92, 3) := dn_182 (ob_cX4_put_1 17 rfl rfl) rfl
theorem dX4_put_60 : decode cX4_put 60 = .ok (.ireturn, 1) := dn_172 (ob_cX4_put_1 20 rfl rfl)
def kb_cX4_insert_0 : List UInt8 := [42, 27, 184, 0, 70, 153, 0, 17, 28, 155, 0, 13, 28, 42, 180, 0, 18, 27, 46, 164, 0, 7, 4, 167, 0, 4, 3, 29, 184, 0, 83, 154, 0, 7, 4, 167, 0, 4, 3, 182, 0, 73]
def kb_cX4_insert_1 : List UInt8 := [153, 0, 5, 3, 172, 42, 180, 0, 18, 27, 46, 16, 30, 160, 0, 8, 42, 182, 0, 96, 172, 42, 180, 0, 18, 27, 46, 54, 4, 21, 4, 28, 164, 0, 29, 42, 180, 0, 15, 27]
def kb_cX4_insert_2 : List UInt8 := [50, 21, 4, 42, 180, 0, 15, 27, 50, 21, 4, 4, 100, 46, 79, 132, 4, 255, 167, 255, 227, 42, 180, 0, 15, 27, 50, 28, 29, 79, 42, 180, 0, 18, 27, 92, 46, 4, 96, 79]
def kb_cX4_insert_3 : List UInt8 := [42, 42, 180, 0, 18, 27, 46, 182, 0, 92, 172]
def tb_cX4_insert_4 : List UInt8 := []
def tb_cX4_insert_3 : List UInt8 := kb_cX4_insert_3 ++ tb_cX4_insert_4
def tb_cX4_insert_2 : List UInt8 := kb_cX4_insert_2 ++ tb_cX4_insert_3
def tb_cX4_insert_1 : List UInt8 := kb_cX4_insert_1 ++ tb_cX4_insert_2
def tb_cX4_insert_0 : List UInt8 := kb_cX4_insert_0 ++ tb_cX4_insert_1
set_option maxRecDepth 100000 in
theorem tb_cX4_insert : (cX4_insert).data.toList = tb_cX4_insert_0 := eqL_eq (by decide +kernel)
theorem ow_cX4_insert_0 (r : Nat) : (cX4_insert).data.toList.drop (0 + r) = tb_cX4_insert_0.drop r := by rw [tb_cX4_insert, Nat.zero_add]
theorem ow_cX4_insert_1 (r : Nat) : (cX4_insert).data.toList.drop (42 + r) = tb_cX4_insert_1.drop r := by
  have e := ow_cX4_insert_0 (42 + r)
  rw [show 0 + (42 + r) = 42 + r by omega] at e
  exact e.trans (dr_len (a := kb_cX4_insert_0) (t := tb_cX4_insert_1) (by decide +kernel))
theorem ow_cX4_insert_2 (r : Nat) : (cX4_insert).data.toList.drop (82 + r) = tb_cX4_insert_2.drop r := by
  have e := ow_cX4_insert_1 (40 + r)
  rw [show 42 + (40 + r) = 82 + r by omega] at e
  exact e.trans (dr_len (a := kb_cX4_insert_1) (t := tb_cX4_insert_2) (by decide +kernel))
theorem ow_cX4_insert_3 (r : Nat) : (cX4_insert).data.toList.drop (122 + r) = tb_cX4_insert_3.drop r := by
  have e := ow_cX4_insert_2 (40 + r)
  rw [show 82 + (40 + r) = 122 + r by omega] at e
  exact e.trans (dr_len (a := kb_cX4_insert_2) (t := tb_cX4_insert_3) (by decide +kernel))
theorem ob_cX4_insert_0 (r : Nat) {pc : Nat} {l : List UInt8} (hp : 0 + r = pc) (h : tb_cX4_insert_0.drop r = l) : (cX4_insert).data.toList.drop pc = l := by
  subst hp
  exact (ow_cX4_insert_0 r).trans h
theorem ob_cX4_insert_1 (r : Nat) {pc : Nat} {l : List UInt8} (hp : 42 + r = pc) (h : tb_cX4_insert_1.drop r = l) : (cX4_insert).data.toList.drop pc = l := by
  subst hp
  exact (ow_cX4_insert_1 r).trans h
theorem ob_cX4_insert_2 (r : Nat) {pc : Nat} {l : List UInt8} (hp : 82 + r = pc) (h : tb_cX4_insert_2.drop r = l) : (cX4_insert).data.toList.drop pc = l := by
  subst hp
  exact (ow_cX4_insert_2 r).trans h
theorem ob_cX4_insert_3 (r : Nat) {pc : Nat} {l : List UInt8} (hp : 122 + r = pc) (h : tb_cX4_insert_3.drop r = l) : (cX4_insert).data.toList.drop pc = l := by
  subst hp
  exact (ow_cX4_insert_3 r).trans h
theorem dX4_insert_0 : decode cX4_insert 0 = .ok (.aload_n 0, 1) := dn_42 (ob_cX4_insert_0 0 rfl rfl)
theorem dX4_insert_1 : decode cX4_insert 1 = .ok (.iload_n 1, 1) := dn_27 (ob_cX4_insert_0 1 rfl rfl)
theorem dX4_insert_2 : decode cX4_insert 2 = .ok (.invokestatic 70, 3) := dn_184 (ob_cX4_insert_0 2 rfl rfl) rfl
theorem dX4_insert_5 : decode cX4_insert 5 = .ok (.ifCond .eq 17, 3) := dn_153 (ob_cX4_insert_0 5 rfl rfl) (by decide +kernel)
theorem dX4_insert_8 : decode cX4_insert 8 = .ok (.iload_n 2, 1) := dn_28 (ob_cX4_insert_0 8 rfl rfl)
theorem dX4_insert_9 : decode cX4_insert 9 = .ok (.ifCond .lt 13, 3) := dn_155 (ob_cX4_insert_0 9 rfl rfl) (by decide +kernel)
theorem dX4_insert_12 : decode cX4_insert 12 = .ok (.iload_n 2, 1) := dn_28 (ob_cX4_insert_0 12 rfl rfl)
theorem dX4_insert_13 : decode cX4_insert 13 = .ok (.aload_n 0, 1) := dn_42 (ob_cX4_insert_0 13 rfl rfl)
theorem dX4_insert_14 : decode cX4_insert 14 = .ok (.getfield 18, 3) := dn_180 (ob_cX4_insert_0 14 rfl rfl) rfl
theorem dX4_insert_17 : decode cX4_insert 17 = .ok (.iload_n 1, 1) := dn_27 (ob_cX4_insert_0 17 rfl rfl)
theorem dX4_insert_18 : decode cX4_insert 18 = .ok (.iaload, 1) := dn_46 (ob_cX4_insert_0 18 rfl rfl)
theorem dX4_insert_19 : decode cX4_insert 19 = .ok (.if_icmp .le 7, 3) := dn_164 (ob_cX4_insert_0 19 rfl rfl) (by decide +kernel)
theorem dX4_insert_22 : decode cX4_insert 22 = .ok (.iconst 1, 1) := dn_4 (ob_cX4_insert_0 22 rfl rfl)
theorem dX4_insert_23 : decode cX4_insert 23 = .ok (.goto 4, 3) := dn_167 (ob_cX4_insert_0 23 rfl rfl) (by decide +kernel)
theorem dX4_insert_26 : decode cX4_insert 26 = .ok (.iconst 0, 1) := dn_3 (ob_cX4_insert_0 26 rfl rfl)
theorem dX4_insert_27 : decode cX4_insert 27 = .ok (.iload_n 3, 1) := dn_29 (ob_cX4_insert_0 27 rfl rfl)
theorem dX4_insert_28 : decode cX4_insert 28 = .ok (.invokestatic 83, 3) := dn_184 (ob_cX4_insert_0 28 rfl rfl) rfl
theorem dX4_insert_31 : decode cX4_insert 31 = .ok (.ifCond .ne 7, 3) := dn_154 (ob_cX4_insert_0 31 rfl rfl) (by decide +kernel)
theorem dX4_insert_34 : decode cX4_insert 34 = .ok (.iconst 1, 1) := dn_4 (ob_cX4_insert_0 34 rfl rfl)
theorem dX4_insert_35 : decode cX4_insert 35 = .ok (.goto 4, 3) := dn_167 (ob_cX4_insert_0 35 rfl rfl) (by decide +kernel)
theorem dX4_insert_38 : decode cX4_insert 38 = .ok (.iconst 0, 1) := dn_3 (ob_cX4_insert_0 38 rfl rfl)
theorem dX4_insert_39 : decode cX4_insert 39 = .ok (.invokevirtual 73, 3) := dn_182 (ob_cX4_insert_0 39 rfl rfl) rfl
theorem dX4_insert_42 : decode cX4_insert 42 = .ok (.ifCond .eq 5, 3) := dn_153 (ob_cX4_insert_1 0 rfl rfl) (by decide +kernel)
theorem dX4_insert_45 : decode cX4_insert 45 = .ok (.iconst 0, 1) := dn_3 (ob_cX4_insert_1 3 rfl rfl)
theorem dX4_insert_46 : decode cX4_insert 46 = .ok (.ireturn, 1) := dn_172 (ob_cX4_insert_1 4 rfl rfl)
theorem dX4_insert_47 : decode cX4_insert 47 = .ok (.aload_n 0, 1) := dn_42 (ob_cX4_insert_1 5 rfl rfl)
theorem dX4_insert_48 : decode cX4_insert 48 = .ok (.getfield 18, 3) := dn_180 (ob_cX4_insert_1 6 rfl rfl) rfl
theorem dX4_insert_51 : decode cX4_insert 51 = .ok (.iload_n 1, 1) := dn_27 (ob_cX4_insert_1 9 rfl rfl)
theorem dX4_insert_52 : decode cX4_insert 52 = .ok (.iaload, 1) := dn_46 (ob_cX4_insert_1 10 rfl rfl)
theorem dX4_insert_53 : decode cX4_insert 53 = .ok (.bipush 30, 2) := dn_16 (ob_cX4_insert_1 11 rfl rfl) (by decide +kernel)
theorem dX4_insert_55 : decode cX4_insert 55 = .ok (.if_icmp .ne 8, 3) := dn_160 (ob_cX4_insert_1 13 rfl rfl) (by decide +kernel)
theorem dX4_insert_58 : decode cX4_insert 58 = .ok (.aload_n 0, 1) := dn_42 (ob_cX4_insert_1 16 rfl rfl)
theorem dX4_insert_59 : decode cX4_insert 59 = .ok (.invokevirtual 96, 3) := dn_182 (ob_cX4_insert_1 17 rfl rfl) rfl
theorem dX4_insert_62 : decode cX4_insert 62 = .ok (.ireturn, 1) := dn_172 (ob_cX4_insert_1 20 rfl rfl)
theorem dX4_insert_63 : decode cX4_insert 63 = .ok (.aload_n 0, 1) := dn_42 (ob_cX4_insert_1 21 rfl rfl)
theorem dX4_insert_64 : decode cX4_insert 64 = .ok (.getfield 18, 3) := dn_180 (ob_cX4_insert_1 22 rfl rfl) rfl
theorem dX4_insert_67 : decode cX4_insert 67 = .ok (.iload_n 1, 1) := dn_27 (ob_cX4_insert_1 25 rfl rfl)
theorem dX4_insert_68 : decode cX4_insert 68 = .ok (.iaload, 1) := dn_46 (ob_cX4_insert_1 26 rfl rfl)
theorem dX4_insert_69 : decode cX4_insert 69 = .ok (.istore 4, 2) := dn_54 (ob_cX4_insert_1 27 rfl rfl) rfl
theorem dX4_insert_71 : decode cX4_insert 71 = .ok (.iload 4, 2) := dn_21 (ob_cX4_insert_1 29 rfl rfl) rfl
theorem dX4_insert_73 : decode cX4_insert 73 = .ok (.iload_n 2, 1) := dn_28 (ob_cX4_insert_1 31 rfl rfl)
theorem dX4_insert_74 : decode cX4_insert 74 = .ok (.if_icmp .le 29, 3) := dn_164 (ob_cX4_insert_1 32 rfl rfl) (by decide +kernel)
theorem dX4_insert_77 : decode cX4_insert 77 = .ok (.aload_n 0, 1) := dn_42 (ob_cX4_insert_1 35 rfl rfl)
theorem dX4_insert_78 : decode cX4_insert 78 = .ok (.getfield 15, 3) := dn_180 (ob_cX4_insert_1 36 rfl rfl) rfl
theorem dX4_insert_81 : decode cX4_insert 81 = .ok (.iload_n 1, 1) := dn_27 (ob_cX4_insert_1 39 rfl rfl)
theorem dX4_insert_82 : decode cX4_insert 82 = .ok (.aaload, 1) := dn_50 (ob_cX4_insert_2 0 rfl rfl)
theorem dX4_insert_83 : decode cX4_insert 83 = .ok (.iload 4, 2) := dn_21 (ob_cX4_insert_2 1 rfl rfl) rfl
theorem dX4_insert_85 : decode cX4_insert 85 = .ok (.aload_n 0, 1) := dn_42 (ob_cX4_insert_2 3 rfl rfl)
theorem dX4_insert_86 : decode cX4_insert 86 = .ok (.getfield 15, 3) := dn_180 (ob_cX4_insert_2 4 rfl rfl) rfl
theorem dX4_insert_89 : decode cX4_insert 89 = .ok (.iload_n 1, 1) := dn_27 (ob_cX4_insert_2 7 rfl rfl)
theorem dX4_insert_90 : decode cX4_insert 90 = .ok (.aaload, 1) := dn_50 (ob_cX4_insert_2 8 rfl rfl)
theorem dX4_insert_91 : decode cX4_insert 91 = .ok (.iload 4, 2) := dn_21 (ob_cX4_insert_2 9 rfl rfl) rfl
theorem dX4_insert_93 : decode cX4_insert 93 = .ok (.iconst 1, 1) := dn_4 (ob_cX4_insert_2 11 rfl rfl)
theorem dX4_insert_94 : decode cX4_insert 94 = .ok (.isub, 1) := dn_100 (ob_cX4_insert_2 12 rfl rfl)
theorem dX4_insert_95 : decode cX4_insert 95 = .ok (.iaload, 1) := dn_46 (ob_cX4_insert_2 13 rfl rfl)
theorem dX4_insert_96 : decode cX4_insert 96 = .ok (.iastore, 1) := dn_79 (ob_cX4_insert_2 14 rfl rfl)
theorem dX4_insert_97 : decode cX4_insert 97 = .ok (.iinc 4 (-1), 3) := dn_132 (ob_cX4_insert_2 15 rfl rfl) rfl (by decide +kernel)
theorem dX4_insert_100 : decode cX4_insert 100 = .ok (.goto (-29), 3) := dn_167 (ob_cX4_insert_2 18 rfl rfl) (by decide +kernel)
theorem dX4_insert_103 : decode cX4_insert 103 = .ok (.aload_n 0, 1) := dn_42 (ob_cX4_insert_2 21 rfl rfl)
theorem dX4_insert_104 : decode cX4_insert 104 = .ok (.getfield 15, 3) := dn_180 (ob_cX4_insert_2 22 rfl rfl) rfl
theorem dX4_insert_107 : decode cX4_insert 107 = .ok (.iload_n 1, 1) := dn_27 (ob_cX4_insert_2 25 rfl rfl)
theorem dX4_insert_108 : decode cX4_insert 108 = .ok (.aaload, 1) := dn_50 (ob_cX4_insert_2 26 rfl rfl)
theorem dX4_insert_109 : decode cX4_insert 109 = .ok (.iload_n 2, 1) := dn_28 (ob_cX4_insert_2 27 rfl rfl)
theorem dX4_insert_110 : decode cX4_insert 110 = .ok (.iload_n 3, 1) := dn_29 (ob_cX4_insert_2 28 rfl rfl)
theorem dX4_insert_111 : decode cX4_insert 111 = .ok (.iastore, 1) := dn_79 (ob_cX4_insert_2 29 rfl rfl)
theorem dX4_insert_112 : decode cX4_insert 112 = .ok (.aload_n 0, 1) := dn_42 (ob_cX4_insert_2 30 rfl rfl)
theorem dX4_insert_113 : decode cX4_insert 113 = .ok (.getfield 18, 3) := dn_180 (ob_cX4_insert_2 31 rfl rfl) rfl
theorem dX4_insert_116 : decode cX4_insert 116 = .ok (.iload_n 1, 1) := dn_27 (ob_cX4_insert_2 34 rfl rfl)
theorem dX4_insert_117 : decode cX4_insert 117 = .ok (.dup2, 1) := dn_92 (ob_cX4_insert_2 35 rfl rfl)
theorem dX4_insert_118 : decode cX4_insert 118 = .ok (.iaload, 1) := dn_46 (ob_cX4_insert_2 36 rfl rfl)
theorem dX4_insert_119 : decode cX4_insert 119 = .ok (.iconst 1, 1) := dn_4 (ob_cX4_insert_2 37 rfl rfl)
theorem dX4_insert_120 : decode cX4_insert 120 = .ok (.iadd, 1) := dn_96 (ob_cX4_insert_2 38 rfl rfl)
theorem dX4_insert_121 : decode cX4_insert 121 = .ok (.iastore, 1) := dn_79 (ob_cX4_insert_2 39 rfl rfl)
theorem dX4_insert_122 : decode cX4_insert 122 = .ok (.aload_n 0, 1) := dn_42 (ob_cX4_insert_3 0 rfl rfl)
theorem dX4_insert_123 : decode cX4_insert 123 = .ok (.aload_n 0, 1) := dn_42 (ob_cX4_insert_3 1 rfl rfl)
theorem dX4_insert_124 : decode cX4_insert 124 = .ok (.getfield 18, 3) := dn_180 (ob_cX4_insert_3 2 rfl rfl) rfl
theorem dX4_insert_127 : decode cX4_insert 127 = .ok (.iload_n 1, 1) := dn_27 (ob_cX4_insert_3 5 rfl rfl)
theorem dX4_insert_128 : decode cX4_insert 128 = .ok (.iaload, 1) := dn_46 (ob_cX4_insert_3 6 rfl rfl)
theorem dX4_insert_129 : decode cX4_insert 129 = .ok (.invokevirtual 92, 3) := dn_182 (ob_cX4_insert_3 7 rfl rfl) rfl
theorem dX4_insert_132 : decode cX4_insert 132 = .ok (.ireturn, 1) := dn_172 (ob_cX4_insert_3 10 rfl rfl)
def kb_cX4_drop_0 : List UInt8 := [42, 42, 27, 28, 182, 0, 89, 154, 0, 7, 4, 167, 0, 4, 3, 182, 0, 100, 153, 0, 5, 3, 172, 42, 180, 0, 15, 27, 50, 28, 46, 62, 42, 180, 0, 18, 27, 92, 46, 4]
def kb_cX4_drop_1 : List UInt8 := [100, 79, 28, 54, 4, 21, 4, 42, 180, 0, 18, 27, 46, 162, 0, 29, 42, 180, 0, 15, 27, 50, 21, 4, 42, 180, 0, 15, 27, 50, 21, 4, 4, 96, 46, 79, 132, 4, 1, 167, 255, 222]
def kb_cX4_drop_2 : List UInt8 := [42, 29, 182, 0, 92, 172]
def tb_cX4_drop_3 : List UInt8 := []
def tb_cX4_drop_2 : List UInt8 := kb_cX4_drop_2 ++ tb_cX4_drop_3
def tb_cX4_drop_1 : List UInt8 := kb_cX4_drop_1 ++ tb_cX4_drop_2
def tb_cX4_drop_0 : List UInt8 := kb_cX4_drop_0 ++ tb_cX4_drop_1
set_option maxRecDepth 100000 in
theorem tb_cX4_drop : (cX4_drop).data.toList = tb_cX4_drop_0 := eqL_eq (by decide +kernel)
theorem ow_cX4_drop_0 (r : Nat) : (cX4_drop).data.toList.drop (0 + r) = tb_cX4_drop_0.drop r := by rw [tb_cX4_drop, Nat.zero_add]
theorem ow_cX4_drop_1 (r : Nat) : (cX4_drop).data.toList.drop (40 + r) = tb_cX4_drop_1.drop r := by
  have e := ow_cX4_drop_0 (40 + r)
  rw [show 0 + (40 + r) = 40 + r by omega] at e
  exact e.trans (dr_len (a := kb_cX4_drop_0) (t := tb_cX4_drop_1) (by decide +kernel))
theorem ow_cX4_drop_2 (r : Nat) : (cX4_drop).data.toList.drop (82 + r) = tb_cX4_drop_2.drop r := by
  have e := ow_cX4_drop_1 (42 + r)
  rw [show 40 + (42 + r) = 82 + r by omega] at e
  exact e.trans (dr_len (a := kb_cX4_drop_1) (t := tb_cX4_drop_2) (by decide +kernel))
theorem ob_cX4_drop_0 (r : Nat) {pc : Nat} {l : List UInt8} (hp : 0 + r = pc) (h : tb_cX4_drop_0.drop r = l) : (cX4_drop).data.toList.drop pc = l := by
  subst hp
  exact (ow_cX4_drop_0 r).trans h
theorem ob_cX4_drop_1 (r : Nat) {pc : Nat} {l : List UInt8} (hp : 40 + r = pc) (h : tb_cX4_drop_1.drop r = l) : (cX4_drop).data.toList.drop pc = l := by
  subst hp
  exact (ow_cX4_drop_1 r).trans h
theorem ob_cX4_drop_2 (r : Nat) {pc : Nat} {l : List UInt8} (hp : 82 + r = pc) (h : tb_cX4_drop_2.drop r = l) : (cX4_drop).data.toList.drop pc = l := by
  subst hp
  exact (ow_cX4_drop_2 r).trans h
theorem dX4_drop_0 : decode cX4_drop 0 = .ok (.aload_n 0, 1) := dn_42 (ob_cX4_drop_0 0 rfl rfl)
theorem dX4_drop_1 : decode cX4_drop 1 = .ok (.aload_n 0, 1) := dn_42 (ob_cX4_drop_0 1 rfl rfl)
theorem dX4_drop_2 : decode cX4_drop 2 = .ok (.iload_n 1, 1) := dn_27 (ob_cX4_drop_0 2 rfl rfl)
theorem dX4_drop_3 : decode cX4_drop 3 = .ok (.iload_n 2, 1) := dn_28 (ob_cX4_drop_0 3 rfl rfl)
theorem dX4_drop_4 : decode cX4_drop 4 = .ok (.invokevirtual 89, 3) := dn_182 (ob_cX4_drop_0 4 rfl rfl) rfl
theorem dX4_drop_7 : decode cX4_drop 7 = .ok (.ifCond .ne 7, 3) := dn_154 (ob_cX4_drop_0 7 rfl rfl) (by decide +kernel)
theorem dX4_drop_10 : decode cX4_drop 10 = .ok (.iconst 1, 1) := dn_4 (ob_cX4_drop_0 10 rfl rfl)
theorem dX4_drop_11 : decode cX4_drop 11 = .ok (.goto 4, 3) := dn_167 (ob_cX4_drop_0 11 rfl rfl) (by decide +kernel)
theorem dX4_drop_14 : decode cX4_drop 14 = .ok (.iconst 0, 1) := dn_3 (ob_cX4_drop_0 14 rfl rfl)
theorem dX4_drop_15 : decode cX4_drop 15 = .ok (.invokevirtual 100, 3) := dn_182 (ob_cX4_drop_0 15 rfl rfl) rfl
theorem dX4_drop_18 : decode cX4_drop 18 = .ok (.ifCond .eq 5, 3) := dn_153 (ob_cX4_drop_0 18 rfl rfl) (by decide +kernel)
theorem dX4_drop_21 : decode cX4_drop 21 = .ok (.iconst 0, 1) := dn_3 (ob_cX4_drop_0 21 rfl rfl)
theorem dX4_drop_22 : decode cX4_drop 22 = .ok (.ireturn, 1) := dn_172 (ob_cX4_drop_0 22 rfl rfl)
theorem dX4_drop_23 : decode cX4_drop 23 = .ok (.aload_n 0, 1) := dn_42 (ob_cX4_drop_0 23 rfl rfl)
theorem dX4_drop_24 : decode cX4_drop 24 = .ok (.getfield 15, 3) := dn_180 (ob_cX4_drop_0 24 rfl rfl) rfl
theorem dX4_drop_27 : decode cX4_drop 27 = .ok (.iload_n 1, 1) := dn_27 (ob_cX4_drop_0 27 rfl rfl)
theorem dX4_drop_28 : decode cX4_drop 28 = .ok (.aaload, 1) := dn_50 (ob_cX4_drop_0 28 rfl rfl)
theorem dX4_drop_29 : decode cX4_drop 29 = .ok (.iload_n 2, 1) := dn_28 (ob_cX4_drop_0 29 rfl rfl)
theorem dX4_drop_30 : decode cX4_drop 30 = .ok (.iaload, 1) := dn_46 (ob_cX4_drop_0 30 rfl rfl)
theorem dX4_drop_31 : decode cX4_drop 31 = .ok (.istore_n 3, 1) := dn_62 (ob_cX4_drop_0 31 rfl rfl)
theorem dX4_drop_32 : decode cX4_drop 32 = .ok (.aload_n 0, 1) := dn_42 (ob_cX4_drop_0 32 rfl rfl)
theorem dX4_drop_33 : decode cX4_drop 33 = .ok (.getfield 18, 3) := dn_180 (ob_cX4_drop_0 33 rfl rfl) rfl
theorem dX4_drop_36 : decode cX4_drop 36 = .ok (.iload_n 1, 1) := dn_27 (ob_cX4_drop_0 36 rfl rfl)
theorem dX4_drop_37 : decode cX4_drop 37 = .ok (.dup2, 1) := dn_92 (ob_cX4_drop_0 37 rfl rfl)
theorem dX4_drop_38 : decode cX4_drop 38 = .ok (.iaload, 1) := dn_46 (ob_cX4_drop_0 38 rfl rfl)
theorem dX4_drop_39 : decode cX4_drop 39 = .ok (.iconst 1, 1) := dn_4 (ob_cX4_drop_0 39 rfl rfl)
theorem dX4_drop_40 : decode cX4_drop 40 = .ok (.isub, 1) := dn_100 (ob_cX4_drop_1 0 rfl rfl)
theorem dX4_drop_41 : decode cX4_drop 41 = .ok (.iastore, 1) := dn_79 (ob_cX4_drop_1 1 rfl rfl)
theorem dX4_drop_42 : decode cX4_drop 42 = .ok (.iload_n 2, 1) := dn_28 (ob_cX4_drop_1 2 rfl rfl)
theorem dX4_drop_43 : decode cX4_drop 43 = .ok (.istore 4, 2) := dn_54 (ob_cX4_drop_1 3 rfl rfl) rfl
theorem dX4_drop_45 : decode cX4_drop 45 = .ok (.iload 4, 2) := dn_21 (ob_cX4_drop_1 5 rfl rfl) rfl
theorem dX4_drop_47 : decode cX4_drop 47 = .ok (.aload_n 0, 1) := dn_42 (ob_cX4_drop_1 7 rfl rfl)
theorem dX4_drop_48 : decode cX4_drop 48 = .ok (.getfield 18, 3) := dn_180 (ob_cX4_drop_1 8 rfl rfl) rfl
theorem dX4_drop_51 : decode cX4_drop 51 = .ok (.iload_n 1, 1) := dn_27 (ob_cX4_drop_1 11 rfl rfl)
theorem dX4_drop_52 : decode cX4_drop 52 = .ok (.iaload, 1) := dn_46 (ob_cX4_drop_1 12 rfl rfl)
theorem dX4_drop_53 : decode cX4_drop 53 = .ok (.if_icmp .ge 29, 3) := dn_162 (ob_cX4_drop_1 13 rfl rfl) (by decide +kernel)
theorem dX4_drop_56 : decode cX4_drop 56 = .ok (.aload_n 0, 1) := dn_42 (ob_cX4_drop_1 16 rfl rfl)
theorem dX4_drop_57 : decode cX4_drop 57 = .ok (.getfield 15, 3) := dn_180 (ob_cX4_drop_1 17 rfl rfl) rfl
theorem dX4_drop_60 : decode cX4_drop 60 = .ok (.iload_n 1, 1) := dn_27 (ob_cX4_drop_1 20 rfl rfl)
theorem dX4_drop_61 : decode cX4_drop 61 = .ok (.aaload, 1) := dn_50 (ob_cX4_drop_1 21 rfl rfl)
theorem dX4_drop_62 : decode cX4_drop 62 = .ok (.iload 4, 2) := dn_21 (ob_cX4_drop_1 22 rfl rfl) rfl
theorem dX4_drop_64 : decode cX4_drop 64 = .ok (.aload_n 0, 1) := dn_42 (ob_cX4_drop_1 24 rfl rfl)
theorem dX4_drop_65 : decode cX4_drop 65 = .ok (.getfield 15, 3) := dn_180 (ob_cX4_drop_1 25 rfl rfl) rfl
theorem dX4_drop_68 : decode cX4_drop 68 = .ok (.iload_n 1, 1) := dn_27 (ob_cX4_drop_1 28 rfl rfl)
theorem dX4_drop_69 : decode cX4_drop 69 = .ok (.aaload, 1) := dn_50 (ob_cX4_drop_1 29 rfl rfl)
theorem dX4_drop_70 : decode cX4_drop 70 = .ok (.iload 4, 2) := dn_21 (ob_cX4_drop_1 30 rfl rfl) rfl
theorem dX4_drop_72 : decode cX4_drop 72 = .ok (.iconst 1, 1) := dn_4 (ob_cX4_drop_1 32 rfl rfl)
theorem dX4_drop_73 : decode cX4_drop 73 = .ok (.iadd, 1) := dn_96 (ob_cX4_drop_1 33 rfl rfl)
theorem dX4_drop_74 : decode cX4_drop 74 = .ok (.iaload, 1) := dn_46 (ob_cX4_drop_1 34 rfl rfl)
theorem dX4_drop_75 : decode cX4_drop 75 = .ok (.iastore, 1) := dn_79 (ob_cX4_drop_1 35 rfl rfl)
theorem dX4_drop_76 : decode cX4_drop 76 = .ok (.iinc 4 1, 3) := dn_132 (ob_cX4_drop_1 36 rfl rfl) rfl (by decide +kernel)
theorem dX4_drop_79 : decode cX4_drop 79 = .ok (.goto (-34), 3) := dn_167 (ob_cX4_drop_1 39 rfl rfl) (by decide +kernel)
theorem dX4_drop_82 : decode cX4_drop 82 = .ok (.aload_n 0, 1) := dn_42 (ob_cX4_drop_2 0 rfl rfl)
theorem dX4_drop_83 : decode cX4_drop 83 = .ok (.iload_n 3, 1) := dn_29 (ob_cX4_drop_2 1 rfl rfl)
theorem dX4_drop_84 : decode cX4_drop 84 = .ok (.invokevirtual 92, 3) := dn_182 (ob_cX4_drop_2 2 rfl rfl) rfl
theorem dX4_drop_87 : decode cX4_drop 87 = .ok (.ireturn, 1) := dn_172 (ob_cX4_drop_2 5 rfl rfl)
def kb_cX4_clear_0 : List UInt8 := [42, 27, 184, 0, 70, 154, 0, 7, 4, 167, 0, 4, 3, 182, 0, 100, 153, 0, 5, 3, 172, 42, 180, 0, 18, 27, 46, 61, 42, 180, 0, 18, 27, 3, 79, 42, 28, 182, 0, 92]
def kb_cX4_clear_1 : List UInt8 := [172]
def tb_cX4_clear_2 : List UInt8 := []
def tb_cX4_clear_1 : List UInt8 := kb_cX4_clear_1 ++ tb_cX4_clear_2
def tb_cX4_clear_0 : List UInt8 := kb_cX4_clear_0 ++ tb_cX4_clear_1
set_option maxRecDepth 100000 in
theorem tb_cX4_clear : (cX4_clear).data.toList = tb_cX4_clear_0 := eqL_eq (by decide +kernel)
theorem ow_cX4_clear_0 (r : Nat) : (cX4_clear).data.toList.drop (0 + r) = tb_cX4_clear_0.drop r := by rw [tb_cX4_clear, Nat.zero_add]
theorem ow_cX4_clear_1 (r : Nat) : (cX4_clear).data.toList.drop (40 + r) = tb_cX4_clear_1.drop r := by
  have e := ow_cX4_clear_0 (40 + r)
  rw [show 0 + (40 + r) = 40 + r by omega] at e
  exact e.trans (dr_len (a := kb_cX4_clear_0) (t := tb_cX4_clear_1) (by decide +kernel))
theorem ob_cX4_clear_0 (r : Nat) {pc : Nat} {l : List UInt8} (hp : 0 + r = pc) (h : tb_cX4_clear_0.drop r = l) : (cX4_clear).data.toList.drop pc = l := by
  subst hp
  exact (ow_cX4_clear_0 r).trans h
theorem ob_cX4_clear_1 (r : Nat) {pc : Nat} {l : List UInt8} (hp : 40 + r = pc) (h : tb_cX4_clear_1.drop r = l) : (cX4_clear).data.toList.drop pc = l := by
  subst hp
  exact (ow_cX4_clear_1 r).trans h
theorem dX4_clear_0 : decode cX4_clear 0 = .ok (.aload_n 0, 1) := dn_42 (ob_cX4_clear_0 0 rfl rfl)
theorem dX4_clear_1 : decode cX4_clear 1 = .ok (.iload_n 1, 1) := dn_27 (ob_cX4_clear_0 1 rfl rfl)
theorem dX4_clear_2 : decode cX4_clear 2 = .ok (.invokestatic 70, 3) := dn_184 (ob_cX4_clear_0 2 rfl rfl) rfl
theorem dX4_clear_5 : decode cX4_clear 5 = .ok (.ifCond .ne 7, 3) := dn_154 (ob_cX4_clear_0 5 rfl rfl) (by decide +kernel)
theorem dX4_clear_8 : decode cX4_clear 8 = .ok (.iconst 1, 1) := dn_4 (ob_cX4_clear_0 8 rfl rfl)
theorem dX4_clear_9 : decode cX4_clear 9 = .ok (.goto 4, 3) := dn_167 (ob_cX4_clear_0 9 rfl rfl) (by decide +kernel)
theorem dX4_clear_12 : decode cX4_clear 12 = .ok (.iconst 0, 1) := dn_3 (ob_cX4_clear_0 12 rfl rfl)
theorem dX4_clear_13 : decode cX4_clear 13 = .ok (.invokevirtual 100, 3) := dn_182 (ob_cX4_clear_0 13 rfl rfl) rfl
theorem dX4_clear_16 : decode cX4_clear 16 = .ok (.ifCond .eq 5, 3) := dn_153 (ob_cX4_clear_0 16 rfl rfl) (by decide +kernel)
theorem dX4_clear_19 : decode cX4_clear 19 = .ok (.iconst 0, 1) := dn_3 (ob_cX4_clear_0 19 rfl rfl)
theorem dX4_clear_20 : decode cX4_clear 20 = .ok (.ireturn, 1) := dn_172 (ob_cX4_clear_0 20 rfl rfl)
theorem dX4_clear_21 : decode cX4_clear 21 = .ok (.aload_n 0, 1) := dn_42 (ob_cX4_clear_0 21 rfl rfl)
theorem dX4_clear_22 : decode cX4_clear 22 = .ok (.getfield 18, 3) := dn_180 (ob_cX4_clear_0 22 rfl rfl) rfl
theorem dX4_clear_25 : decode cX4_clear 25 = .ok (.iload_n 1, 1) := dn_27 (ob_cX4_clear_0 25 rfl rfl)
theorem dX4_clear_26 : decode cX4_clear 26 = .ok (.iaload, 1) := dn_46 (ob_cX4_clear_0 26 rfl rfl)
theorem dX4_clear_27 : decode cX4_clear 27 = .ok (.istore_n 2, 1) := dn_61 (ob_cX4_clear_0 27 rfl rfl)
theorem dX4_clear_28 : decode cX4_clear 28 = .ok (.aload_n 0, 1) := dn_42 (ob_cX4_clear_0 28 rfl rfl)
theorem dX4_clear_29 : decode cX4_clear 29 = .ok (.getfield 18, 3) := dn_180 (ob_cX4_clear_0 29 rfl rfl) rfl
theorem dX4_clear_32 : decode cX4_clear 32 = .ok (.iload_n 1, 1) := dn_27 (ob_cX4_clear_0 32 rfl rfl)
theorem dX4_clear_33 : decode cX4_clear 33 = .ok (.iconst 0, 1) := dn_3 (ob_cX4_clear_0 33 rfl rfl)
theorem dX4_clear_34 : decode cX4_clear 34 = .ok (.iastore, 1) := dn_79 (ob_cX4_clear_0 34 rfl rfl)
theorem dX4_clear_35 : decode cX4_clear 35 = .ok (.aload_n 0, 1) := dn_42 (ob_cX4_clear_0 35 rfl rfl)
theorem dX4_clear_36 : decode cX4_clear 36 = .ok (.iload_n 2, 1) := dn_28 (ob_cX4_clear_0 36 rfl rfl)
theorem dX4_clear_37 : decode cX4_clear 37 = .ok (.invokevirtual 92, 3) := dn_182 (ob_cX4_clear_0 37 rfl rfl) rfl
theorem dX4_clear_40 : decode cX4_clear 40 = .ok (.ireturn, 1) := dn_172 (ob_cX4_clear_1 0 rfl rfl)
def kb_cX4_copy_0 : List UInt8 := [42, 27, 184, 0, 70, 153, 0, 10, 28, 184, 0, 70, 154, 0, 7, 4, 167, 0, 4, 3, 182, 0, 100, 153, 0, 5, 3, 172, 42, 28, 42, 180, 0, 15, 27, 50, 42, 180, 0, 18]
def kb_cX4_copy_1 : List UInt8 := [27, 46, 182, 0, 103, 42, 42, 180, 0, 18, 28, 46, 182, 0, 92, 172]
def tb_cX4_copy_2 : List UInt8 := []
def tb_cX4_copy_1 : List UInt8 := kb_cX4_copy_1 ++ tb_cX4_copy_2
def tb_cX4_copy_0 : List UInt8 := kb_cX4_copy_0 ++ tb_cX4_copy_1
set_option maxRecDepth 100000 in
theorem tb_cX4_copy : (cX4_copy).data.toList = tb_cX4_copy_0 := eqL_eq (by decide +kernel)
theorem ow_cX4_copy_0 (r : Nat) : (cX4_copy).data.toList.drop (0 + r) = tb_cX4_copy_0.drop r := by rw [tb_cX4_copy, Nat.zero_add]
theorem ow_cX4_copy_1 (r : Nat) : (cX4_copy).data.toList.drop (40 + r) = tb_cX4_copy_1.drop r := by
  have e := ow_cX4_copy_0 (40 + r)
  rw [show 0 + (40 + r) = 40 + r by omega] at e
  exact e.trans (dr_len (a := kb_cX4_copy_0) (t := tb_cX4_copy_1) (by decide +kernel))
theorem ob_cX4_copy_0 (r : Nat) {pc : Nat} {l : List UInt8} (hp : 0 + r = pc) (h : tb_cX4_copy_0.drop r = l) : (cX4_copy).data.toList.drop pc = l := by
  subst hp
  exact (ow_cX4_copy_0 r).trans h
theorem ob_cX4_copy_1 (r : Nat) {pc : Nat} {l : List UInt8} (hp : 40 + r = pc) (h : tb_cX4_copy_1.drop r = l) : (cX4_copy).data.toList.drop pc = l := by
  subst hp
  exact (ow_cX4_copy_1 r).trans h
theorem dX4_copy_0 : decode cX4_copy 0 = .ok (.aload_n 0, 1) := dn_42 (ob_cX4_copy_0 0 rfl rfl)
theorem dX4_copy_1 : decode cX4_copy 1 = .ok (.iload_n 1, 1) := dn_27 (ob_cX4_copy_0 1 rfl rfl)
theorem dX4_copy_2 : decode cX4_copy 2 = .ok (.invokestatic 70, 3) := dn_184 (ob_cX4_copy_0 2 rfl rfl) rfl
theorem dX4_copy_5 : decode cX4_copy 5 = .ok (.ifCond .eq 10, 3) := dn_153 (ob_cX4_copy_0 5 rfl rfl) (by decide +kernel)
theorem dX4_copy_8 : decode cX4_copy 8 = .ok (.iload_n 2, 1) := dn_28 (ob_cX4_copy_0 8 rfl rfl)
theorem dX4_copy_9 : decode cX4_copy 9 = .ok (.invokestatic 70, 3) := dn_184 (ob_cX4_copy_0 9 rfl rfl) rfl
theorem dX4_copy_12 : decode cX4_copy 12 = .ok (.ifCond .ne 7, 3) := dn_154 (ob_cX4_copy_0 12 rfl rfl) (by decide +kernel)
theorem dX4_copy_15 : decode cX4_copy 15 = .ok (.iconst 1, 1) := dn_4 (ob_cX4_copy_0 15 rfl rfl)
theorem dX4_copy_16 : decode cX4_copy 16 = .ok (.goto 4, 3) := dn_167 (ob_cX4_copy_0 16 rfl rfl) (by decide +kernel)
theorem dX4_copy_19 : decode cX4_copy 19 = .ok (.iconst 0, 1) := dn_3 (ob_cX4_copy_0 19 rfl rfl)
theorem dX4_copy_20 : decode cX4_copy 20 = .ok (.invokevirtual 100, 3) := dn_182 (ob_cX4_copy_0 20 rfl rfl) rfl
theorem dX4_copy_23 : decode cX4_copy 23 = .ok (.ifCond .eq 5, 3) := dn_153 (ob_cX4_copy_0 23 rfl rfl) (by decide +kernel)
theorem dX4_copy_26 : decode cX4_copy 26 = .ok (.iconst 0, 1) := dn_3 (ob_cX4_copy_0 26 rfl rfl)
theorem dX4_copy_27 : decode cX4_copy 27 = .ok (.ireturn, 1) := dn_172 (ob_cX4_copy_0 27 rfl rfl)
theorem dX4_copy_28 : decode cX4_copy 28 = .ok (.aload_n 0, 1) := dn_42 (ob_cX4_copy_0 28 rfl rfl)
theorem dX4_copy_29 : decode cX4_copy 29 = .ok (.iload_n 2, 1) := dn_28 (ob_cX4_copy_0 29 rfl rfl)
theorem dX4_copy_30 : decode cX4_copy 30 = .ok (.aload_n 0, 1) := dn_42 (ob_cX4_copy_0 30 rfl rfl)
theorem dX4_copy_31 : decode cX4_copy 31 = .ok (.getfield 15, 3) := dn_180 (ob_cX4_copy_0 31 rfl rfl) rfl
theorem dX4_copy_34 : decode cX4_copy 34 = .ok (.iload_n 1, 1) := dn_27 (ob_cX4_copy_0 34 rfl rfl)
theorem dX4_copy_35 : decode cX4_copy 35 = .ok (.aaload, 1) := dn_50 (ob_cX4_copy_0 35 rfl rfl)
theorem dX4_copy_36 : decode cX4_copy 36 = .ok (.aload_n 0, 1) := dn_42 (ob_cX4_copy_0 36 rfl rfl)
theorem dX4_copy_37 : decode cX4_copy 37 = .ok (.getfield 18, 3) := dn_180 (ob_cX4_copy_0 37 rfl rfl) rfl
theorem dX4_copy_40 : decode cX4_copy 40 = .ok (.iload_n 1, 1) := dn_27 (ob_cX4_copy_1 0 rfl rfl)
theorem dX4_copy_41 : decode cX4_copy 41 = .ok (.iaload, 1) := dn_46 (ob_cX4_copy_1 1 rfl rfl)
theorem dX4_copy_42 : decode cX4_copy 42 = .ok (.invokevirtual 103, 3) := dn_182 (ob_cX4_copy_1 2 rfl rfl) rfl
theorem dX4_copy_45 : decode cX4_copy 45 = .ok (.aload_n 0, 1) := dn_42 (ob_cX4_copy_1 5 rfl rfl)
theorem dX4_copy_46 : decode cX4_copy 46 = .ok (.aload_n 0, 1) := dn_42 (ob_cX4_copy_1 6 rfl rfl)
theorem dX4_copy_47 : decode cX4_copy 47 = .ok (.getfield 18, 3) := dn_180 (ob_cX4_copy_1 7 rfl rfl) rfl
theorem dX4_copy_50 : decode cX4_copy 50 = .ok (.iload_n 2, 1) := dn_28 (ob_cX4_copy_1 10 rfl rfl)
theorem dX4_copy_51 : decode cX4_copy 51 = .ok (.iaload, 1) := dn_46 (ob_cX4_copy_1 11 rfl rfl)
theorem dX4_copy_52 : decode cX4_copy 52 = .ok (.invokevirtual 92, 3) := dn_182 (ob_cX4_copy_1 12 rfl rfl) rfl
theorem dX4_copy_55 : decode cX4_copy 55 = .ok (.ireturn, 1) := dn_172 (ob_cX4_copy_1 15 rfl rfl)
def kb_cX4_join_0 : List UInt8 := [42, 27, 184, 0, 70, 153, 0, 10, 28, 184, 0, 70, 154, 0, 7, 4, 167, 0, 4, 3, 182, 0, 100, 153, 0, 5, 3, 172, 42, 180, 0, 18, 28, 46, 62, 42, 180, 0, 18, 27]
def kb_cX4_join_1 : List UInt8 := [46, 29, 96, 16, 30, 164, 0, 8, 42, 182, 0, 96, 172, 3, 54, 4, 21, 4, 29, 162, 0, 34, 42, 180, 0, 15, 27, 50, 42, 180, 0, 18, 27, 46, 21, 4, 96, 42, 180, 0, 15]
def kb_cX4_join_2 : List UInt8 := [28, 50, 21, 4, 46, 79, 132, 4, 1, 167, 255, 222, 42, 180, 0, 18, 27, 92, 46, 29, 96, 79, 42, 42, 180, 0, 18, 27, 46, 182, 0, 92, 172]
def tb_cX4_join_3 : List UInt8 := []
def tb_cX4_join_2 : List UInt8 := kb_cX4_join_2 ++ tb_cX4_join_3
def tb_cX4_join_1 : List UInt8 := kb_cX4_join_1 ++ tb_cX4_join_2
def tb_cX4_join_0 : List UInt8 := kb_cX4_join_0 ++ tb_cX4_join_1
set_option maxRecDepth 100000 in
theorem tb_cX4_join : (cX4_join).data.toList = tb_cX4_join_0 := eqL_eq (by decide +kernel)
theorem ow_cX4_join_0 (r : Nat) : (cX4_join).data.toList.drop (0 + r) = tb_cX4_join_0.drop r := by rw [tb_cX4_join, Nat.zero_add]
theorem ow_cX4_join_1 (r : Nat) : (cX4_join).data.toList.drop (40 + r) = tb_cX4_join_1.drop r := by
  have e := ow_cX4_join_0 (40 + r)
  rw [show 0 + (40 + r) = 40 + r by omega] at e
  exact e.trans (dr_len (a := kb_cX4_join_0) (t := tb_cX4_join_1) (by decide +kernel))
theorem ow_cX4_join_2 (r : Nat) : (cX4_join).data.toList.drop (81 + r) = tb_cX4_join_2.drop r := by
  have e := ow_cX4_join_1 (41 + r)
  rw [show 40 + (41 + r) = 81 + r by omega] at e
  exact e.trans (dr_len (a := kb_cX4_join_1) (t := tb_cX4_join_2) (by decide +kernel))
theorem ob_cX4_join_0 (r : Nat) {pc : Nat} {l : List UInt8} (hp : 0 + r = pc) (h : tb_cX4_join_0.drop r = l) : (cX4_join).data.toList.drop pc = l := by
  subst hp
  exact (ow_cX4_join_0 r).trans h
theorem ob_cX4_join_1 (r : Nat) {pc : Nat} {l : List UInt8} (hp : 40 + r = pc) (h : tb_cX4_join_1.drop r = l) : (cX4_join).data.toList.drop pc = l := by
  subst hp
  exact (ow_cX4_join_1 r).trans h
theorem ob_cX4_join_2 (r : Nat) {pc : Nat} {l : List UInt8} (hp : 81 + r = pc) (h : tb_cX4_join_2.drop r = l) : (cX4_join).data.toList.drop pc = l := by
  subst hp
  exact (ow_cX4_join_2 r).trans h
theorem dX4_join_0 : decode cX4_join 0 = .ok (.aload_n 0, 1) := dn_42 (ob_cX4_join_0 0 rfl rfl)
theorem dX4_join_1 : decode cX4_join 1 = .ok (.iload_n 1, 1) := dn_27 (ob_cX4_join_0 1 rfl rfl)
theorem dX4_join_2 : decode cX4_join 2 = .ok (.invokestatic 70, 3) := dn_184 (ob_cX4_join_0 2 rfl rfl) rfl
theorem dX4_join_5 : decode cX4_join 5 = .ok (.ifCond .eq 10, 3) := dn_153 (ob_cX4_join_0 5 rfl rfl) (by decide +kernel)
theorem dX4_join_8 : decode cX4_join 8 = .ok (.iload_n 2, 1) := dn_28 (ob_cX4_join_0 8 rfl rfl)
theorem dX4_join_9 : decode cX4_join 9 = .ok (.invokestatic 70, 3) := dn_184 (ob_cX4_join_0 9 rfl rfl) rfl
theorem dX4_join_12 : decode cX4_join 12 = .ok (.ifCond .ne 7, 3) := dn_154 (ob_cX4_join_0 12 rfl rfl) (by decide +kernel)
theorem dX4_join_15 : decode cX4_join 15 = .ok (.iconst 1, 1) := dn_4 (ob_cX4_join_0 15 rfl rfl)
theorem dX4_join_16 : decode cX4_join 16 = .ok (.goto 4, 3) := dn_167 (ob_cX4_join_0 16 rfl rfl) (by decide +kernel)
theorem dX4_join_19 : decode cX4_join 19 = .ok (.iconst 0, 1) := dn_3 (ob_cX4_join_0 19 rfl rfl)
theorem dX4_join_20 : decode cX4_join 20 = .ok (.invokevirtual 100, 3) := dn_182 (ob_cX4_join_0 20 rfl rfl) rfl
theorem dX4_join_23 : decode cX4_join 23 = .ok (.ifCond .eq 5, 3) := dn_153 (ob_cX4_join_0 23 rfl rfl) (by decide +kernel)
theorem dX4_join_26 : decode cX4_join 26 = .ok (.iconst 0, 1) := dn_3 (ob_cX4_join_0 26 rfl rfl)
theorem dX4_join_27 : decode cX4_join 27 = .ok (.ireturn, 1) := dn_172 (ob_cX4_join_0 27 rfl rfl)
theorem dX4_join_28 : decode cX4_join 28 = .ok (.aload_n 0, 1) := dn_42 (ob_cX4_join_0 28 rfl rfl)
theorem dX4_join_29 : decode cX4_join 29 = .ok (.getfield 18, 3) := dn_180 (ob_cX4_join_0 29 rfl rfl) rfl
theorem dX4_join_32 : decode cX4_join 32 = .ok (.iload_n 2, 1) := dn_28 (ob_cX4_join_0 32 rfl rfl)
theorem dX4_join_33 : decode cX4_join 33 = .ok (.iaload, 1) := dn_46 (ob_cX4_join_0 33 rfl rfl)
theorem dX4_join_34 : decode cX4_join 34 = .ok (.istore_n 3, 1) := dn_62 (ob_cX4_join_0 34 rfl rfl)
theorem dX4_join_35 : decode cX4_join 35 = .ok (.aload_n 0, 1) := dn_42 (ob_cX4_join_0 35 rfl rfl)
theorem dX4_join_36 : decode cX4_join 36 = .ok (.getfield 18, 3) := dn_180 (ob_cX4_join_0 36 rfl rfl) rfl
theorem dX4_join_39 : decode cX4_join 39 = .ok (.iload_n 1, 1) := dn_27 (ob_cX4_join_0 39 rfl rfl)
theorem dX4_join_40 : decode cX4_join 40 = .ok (.iaload, 1) := dn_46 (ob_cX4_join_1 0 rfl rfl)
theorem dX4_join_41 : decode cX4_join 41 = .ok (.iload_n 3, 1) := dn_29 (ob_cX4_join_1 1 rfl rfl)
theorem dX4_join_42 : decode cX4_join 42 = .ok (.iadd, 1) := dn_96 (ob_cX4_join_1 2 rfl rfl)
theorem dX4_join_43 : decode cX4_join 43 = .ok (.bipush 30, 2) := dn_16 (ob_cX4_join_1 3 rfl rfl) (by decide +kernel)
theorem dX4_join_45 : decode cX4_join 45 = .ok (.if_icmp .le 8, 3) := dn_164 (ob_cX4_join_1 5 rfl rfl) (by decide +kernel)
theorem dX4_join_48 : decode cX4_join 48 = .ok (.aload_n 0, 1) := dn_42 (ob_cX4_join_1 8 rfl rfl)
theorem dX4_join_49 : decode cX4_join 49 = .ok (.invokevirtual 96, 3) := dn_182 (ob_cX4_join_1 9 rfl rfl) rfl
theorem dX4_join_52 : decode cX4_join 52 = .ok (.ireturn, 1) := dn_172 (ob_cX4_join_1 12 rfl rfl)
theorem dX4_join_53 : decode cX4_join 53 = .ok (.iconst 0, 1) := dn_3 (ob_cX4_join_1 13 rfl rfl)
theorem dX4_join_54 : decode cX4_join 54 = .ok (.istore 4, 2) := dn_54 (ob_cX4_join_1 14 rfl rfl) rfl
theorem dX4_join_56 : decode cX4_join 56 = .ok (.iload 4, 2) := dn_21 (ob_cX4_join_1 16 rfl rfl) rfl
theorem dX4_join_58 : decode cX4_join 58 = .ok (.iload_n 3, 1) := dn_29 (ob_cX4_join_1 18 rfl rfl)
theorem dX4_join_59 : decode cX4_join 59 = .ok (.if_icmp .ge 34, 3) := dn_162 (ob_cX4_join_1 19 rfl rfl) (by decide +kernel)
theorem dX4_join_62 : decode cX4_join 62 = .ok (.aload_n 0, 1) := dn_42 (ob_cX4_join_1 22 rfl rfl)
theorem dX4_join_63 : decode cX4_join 63 = .ok (.getfield 15, 3) := dn_180 (ob_cX4_join_1 23 rfl rfl) rfl
theorem dX4_join_66 : decode cX4_join 66 = .ok (.iload_n 1, 1) := dn_27 (ob_cX4_join_1 26 rfl rfl)
theorem dX4_join_67 : decode cX4_join 67 = .ok (.aaload, 1) := dn_50 (ob_cX4_join_1 27 rfl rfl)
theorem dX4_join_68 : decode cX4_join 68 = .ok (.aload_n 0, 1) := dn_42 (ob_cX4_join_1 28 rfl rfl)
theorem dX4_join_69 : decode cX4_join 69 = .ok (.getfield 18, 3) := dn_180 (ob_cX4_join_1 29 rfl rfl) rfl
theorem dX4_join_72 : decode cX4_join 72 = .ok (.iload_n 1, 1) := dn_27 (ob_cX4_join_1 32 rfl rfl)
theorem dX4_join_73 : decode cX4_join 73 = .ok (.iaload, 1) := dn_46 (ob_cX4_join_1 33 rfl rfl)
theorem dX4_join_74 : decode cX4_join 74 = .ok (.iload 4, 2) := dn_21 (ob_cX4_join_1 34 rfl rfl) rfl
theorem dX4_join_76 : decode cX4_join 76 = .ok (.iadd, 1) := dn_96 (ob_cX4_join_1 36 rfl rfl)
theorem dX4_join_77 : decode cX4_join 77 = .ok (.aload_n 0, 1) := dn_42 (ob_cX4_join_1 37 rfl rfl)
theorem dX4_join_78 : decode cX4_join 78 = .ok (.getfield 15, 3) := dn_180 (ob_cX4_join_1 38 rfl rfl) rfl
theorem dX4_join_81 : decode cX4_join 81 = .ok (.iload_n 2, 1) := dn_28 (ob_cX4_join_2 0 rfl rfl)
theorem dX4_join_82 : decode cX4_join 82 = .ok (.aaload, 1) := dn_50 (ob_cX4_join_2 1 rfl rfl)
theorem dX4_join_83 : decode cX4_join 83 = .ok (.iload 4, 2) := dn_21 (ob_cX4_join_2 2 rfl rfl) rfl
theorem dX4_join_85 : decode cX4_join 85 = .ok (.iaload, 1) := dn_46 (ob_cX4_join_2 4 rfl rfl)
theorem dX4_join_86 : decode cX4_join 86 = .ok (.iastore, 1) := dn_79 (ob_cX4_join_2 5 rfl rfl)
theorem dX4_join_87 : decode cX4_join 87 = .ok (.iinc 4 1, 3) := dn_132 (ob_cX4_join_2 6 rfl rfl) rfl (by decide +kernel)
theorem dX4_join_90 : decode cX4_join 90 = .ok (.goto (-34), 3) := dn_167 (ob_cX4_join_2 9 rfl rfl) (by decide +kernel)
theorem dX4_join_93 : decode cX4_join 93 = .ok (.aload_n 0, 1) := dn_42 (ob_cX4_join_2 12 rfl rfl)
theorem dX4_join_94 : decode cX4_join 94 = .ok (.getfield 18, 3) := dn_180 (ob_cX4_join_2 13 rfl rfl) rfl
theorem dX4_join_97 : decode cX4_join 97 = .ok (.iload_n 1, 1) := dn_27 (ob_cX4_join_2 16 rfl rfl)
theorem dX4_join_98 : decode cX4_join 98 = .ok (.dup2, 1) := dn_92 (ob_cX4_join_2 17 rfl rfl)
theorem dX4_join_99 : decode cX4_join 99 = .ok (.iaload, 1) := dn_46 (ob_cX4_join_2 18 rfl rfl)
theorem dX4_join_100 : decode cX4_join 100 = .ok (.iload_n 3, 1) := dn_29 (ob_cX4_join_2 19 rfl rfl)
theorem dX4_join_101 : decode cX4_join 101 = .ok (.iadd, 1) := dn_96 (ob_cX4_join_2 20 rfl rfl)
theorem dX4_join_102 : decode cX4_join 102 = .ok (.iastore, 1) := dn_79 (ob_cX4_join_2 21 rfl rfl)
theorem dX4_join_103 : decode cX4_join 103 = .ok (.aload_n 0, 1) := dn_42 (ob_cX4_join_2 22 rfl rfl)
theorem dX4_join_104 : decode cX4_join 104 = .ok (.aload_n 0, 1) := dn_42 (ob_cX4_join_2 23 rfl rfl)
theorem dX4_join_105 : decode cX4_join 105 = .ok (.getfield 18, 3) := dn_180 (ob_cX4_join_2 24 rfl rfl) rfl
theorem dX4_join_108 : decode cX4_join 108 = .ok (.iload_n 1, 1) := dn_27 (ob_cX4_join_2 27 rfl rfl)
theorem dX4_join_109 : decode cX4_join 109 = .ok (.iaload, 1) := dn_46 (ob_cX4_join_2 28 rfl rfl)
theorem dX4_join_110 : decode cX4_join 110 = .ok (.invokevirtual 92, 3) := dn_182 (ob_cX4_join_2 29 rfl rfl) rfl
theorem dX4_join_113 : decode cX4_join 113 = .ok (.ireturn, 1) := dn_172 (ob_cX4_join_2 32 rfl rfl)
def kb_cX4_turn_0 : List UInt8 := [42, 27, 184, 0, 70, 154, 0, 7, 4, 167, 0, 4, 3, 182, 0, 100, 153, 0, 5, 3, 172, 16, 30, 188, 10, 77, 3, 62, 3, 54, 4, 21, 4, 42, 180, 0, 18, 27, 46, 162, 0, 49]
def kb_cX4_turn_1 : List UInt8 := [44, 21, 4, 42, 180, 0, 15, 27, 50, 42, 180, 0, 18, 27, 46, 4, 100, 21, 4, 100, 46, 79, 44, 21, 4, 46, 42, 180, 0, 15, 27, 50, 21, 4, 46, 159, 0, 5, 4, 62]
def kb_cX4_turn_2 : List UInt8 := [132, 4, 1, 167, 255, 202, 42, 180, 0, 15, 27, 44, 83, 42, 29, 182, 0, 92, 172]
def tb_cX4_turn_3 : List UInt8 := []
def tb_cX4_turn_2 : List UInt8 := kb_cX4_turn_2 ++ tb_cX4_turn_3
def tb_cX4_turn_1 : List UInt8 := kb_cX4_turn_1 ++ tb_cX4_turn_2
def tb_cX4_turn_0 : List UInt8 := kb_cX4_turn_0 ++ tb_cX4_turn_1
set_option maxRecDepth 100000 in
theorem tb_cX4_turn : (cX4_turn).data.toList = tb_cX4_turn_0 := eqL_eq (by decide +kernel)
theorem ow_cX4_turn_0 (r : Nat) : (cX4_turn).data.toList.drop (0 + r) = tb_cX4_turn_0.drop r := by rw [tb_cX4_turn, Nat.zero_add]
theorem ow_cX4_turn_1 (r : Nat) : (cX4_turn).data.toList.drop (42 + r) = tb_cX4_turn_1.drop r := by
  have e := ow_cX4_turn_0 (42 + r)
  rw [show 0 + (42 + r) = 42 + r by omega] at e
  exact e.trans (dr_len (a := kb_cX4_turn_0) (t := tb_cX4_turn_1) (by decide +kernel))
theorem ow_cX4_turn_2 (r : Nat) : (cX4_turn).data.toList.drop (82 + r) = tb_cX4_turn_2.drop r := by
  have e := ow_cX4_turn_1 (40 + r)
  rw [show 42 + (40 + r) = 82 + r by omega] at e
  exact e.trans (dr_len (a := kb_cX4_turn_1) (t := tb_cX4_turn_2) (by decide +kernel))
theorem ob_cX4_turn_0 (r : Nat) {pc : Nat} {l : List UInt8} (hp : 0 + r = pc) (h : tb_cX4_turn_0.drop r = l) : (cX4_turn).data.toList.drop pc = l := by
  subst hp
  exact (ow_cX4_turn_0 r).trans h
theorem ob_cX4_turn_1 (r : Nat) {pc : Nat} {l : List UInt8} (hp : 42 + r = pc) (h : tb_cX4_turn_1.drop r = l) : (cX4_turn).data.toList.drop pc = l := by
  subst hp
  exact (ow_cX4_turn_1 r).trans h
theorem ob_cX4_turn_2 (r : Nat) {pc : Nat} {l : List UInt8} (hp : 82 + r = pc) (h : tb_cX4_turn_2.drop r = l) : (cX4_turn).data.toList.drop pc = l := by
  subst hp
  exact (ow_cX4_turn_2 r).trans h
theorem dX4_turn_0 : decode cX4_turn 0 = .ok (.aload_n 0, 1) := dn_42 (ob_cX4_turn_0 0 rfl rfl)
theorem dX4_turn_1 : decode cX4_turn 1 = .ok (.iload_n 1, 1) := dn_27 (ob_cX4_turn_0 1 rfl rfl)
theorem dX4_turn_2 : decode cX4_turn 2 = .ok (.invokestatic 70, 3) := dn_184 (ob_cX4_turn_0 2 rfl rfl) rfl
theorem dX4_turn_5 : decode cX4_turn 5 = .ok (.ifCond .ne 7, 3) := dn_154 (ob_cX4_turn_0 5 rfl rfl) (by decide +kernel)
theorem dX4_turn_8 : decode cX4_turn 8 = .ok (.iconst 1, 1) := dn_4 (ob_cX4_turn_0 8 rfl rfl)
theorem dX4_turn_9 : decode cX4_turn 9 = .ok (.goto 4, 3) := dn_167 (ob_cX4_turn_0 9 rfl rfl) (by decide +kernel)
theorem dX4_turn_12 : decode cX4_turn 12 = .ok (.iconst 0, 1) := dn_3 (ob_cX4_turn_0 12 rfl rfl)
theorem dX4_turn_13 : decode cX4_turn 13 = .ok (.invokevirtual 100, 3) := dn_182 (ob_cX4_turn_0 13 rfl rfl) rfl
theorem dX4_turn_16 : decode cX4_turn 16 = .ok (.ifCond .eq 5, 3) := dn_153 (ob_cX4_turn_0 16 rfl rfl) (by decide +kernel)
theorem dX4_turn_19 : decode cX4_turn 19 = .ok (.iconst 0, 1) := dn_3 (ob_cX4_turn_0 19 rfl rfl)
theorem dX4_turn_20 : decode cX4_turn 20 = .ok (.ireturn, 1) := dn_172 (ob_cX4_turn_0 20 rfl rfl)
theorem dX4_turn_21 : decode cX4_turn 21 = .ok (.bipush 30, 2) := dn_16 (ob_cX4_turn_0 21 rfl rfl) (by decide +kernel)
theorem dX4_turn_23 : decode cX4_turn 23 = .ok (.newarray .int, 2) := by decide +kernel
theorem dX4_turn_25 : decode cX4_turn 25 = .ok (.astore_n 2, 1) := dn_77 (ob_cX4_turn_0 25 rfl rfl)
theorem dX4_turn_26 : decode cX4_turn 26 = .ok (.iconst 0, 1) := dn_3 (ob_cX4_turn_0 26 rfl rfl)
theorem dX4_turn_27 : decode cX4_turn 27 = .ok (.istore_n 3, 1) := dn_62 (ob_cX4_turn_0 27 rfl rfl)
theorem dX4_turn_28 : decode cX4_turn 28 = .ok (.iconst 0, 1) := dn_3 (ob_cX4_turn_0 28 rfl rfl)
theorem dX4_turn_29 : decode cX4_turn 29 = .ok (.istore 4, 2) := dn_54 (ob_cX4_turn_0 29 rfl rfl) rfl
theorem dX4_turn_31 : decode cX4_turn 31 = .ok (.iload 4, 2) := dn_21 (ob_cX4_turn_0 31 rfl rfl) rfl
theorem dX4_turn_33 : decode cX4_turn 33 = .ok (.aload_n 0, 1) := dn_42 (ob_cX4_turn_0 33 rfl rfl)
theorem dX4_turn_34 : decode cX4_turn 34 = .ok (.getfield 18, 3) := dn_180 (ob_cX4_turn_0 34 rfl rfl) rfl
theorem dX4_turn_37 : decode cX4_turn 37 = .ok (.iload_n 1, 1) := dn_27 (ob_cX4_turn_0 37 rfl rfl)
theorem dX4_turn_38 : decode cX4_turn 38 = .ok (.iaload, 1) := dn_46 (ob_cX4_turn_0 38 rfl rfl)
theorem dX4_turn_39 : decode cX4_turn 39 = .ok (.if_icmp .ge 49, 3) := dn_162 (ob_cX4_turn_0 39 rfl rfl) (by decide +kernel)
theorem dX4_turn_42 : decode cX4_turn 42 = .ok (.aload_n 2, 1) := dn_44 (ob_cX4_turn_1 0 rfl rfl)
theorem dX4_turn_43 : decode cX4_turn 43 = .ok (.iload 4, 2) := dn_21 (ob_cX4_turn_1 1 rfl rfl) rfl
theorem dX4_turn_45 : decode cX4_turn 45 = .ok (.aload_n 0, 1) := dn_42 (ob_cX4_turn_1 3 rfl rfl)
theorem dX4_turn_46 : decode cX4_turn 46 = .ok (.getfield 15, 3) := dn_180 (ob_cX4_turn_1 4 rfl rfl) rfl
theorem dX4_turn_49 : decode cX4_turn 49 = .ok (.iload_n 1, 1) := dn_27 (ob_cX4_turn_1 7 rfl rfl)
theorem dX4_turn_50 : decode cX4_turn 50 = .ok (.aaload, 1) := dn_50 (ob_cX4_turn_1 8 rfl rfl)
theorem dX4_turn_51 : decode cX4_turn 51 = .ok (.aload_n 0, 1) := dn_42 (ob_cX4_turn_1 9 rfl rfl)
theorem dX4_turn_52 : decode cX4_turn 52 = .ok (.getfield 18, 3) := dn_180 (ob_cX4_turn_1 10 rfl rfl) rfl
theorem dX4_turn_55 : decode cX4_turn 55 = .ok (.iload_n 1, 1) := dn_27 (ob_cX4_turn_1 13 rfl rfl)
theorem dX4_turn_56 : decode cX4_turn 56 = .ok (.iaload, 1) := dn_46 (ob_cX4_turn_1 14 rfl rfl)
theorem dX4_turn_57 : decode cX4_turn 57 = .ok (.iconst 1, 1) := dn_4 (ob_cX4_turn_1 15 rfl rfl)
theorem dX4_turn_58 : decode cX4_turn 58 = .ok (.isub, 1) := dn_100 (ob_cX4_turn_1 16 rfl rfl)
theorem dX4_turn_59 : decode cX4_turn 59 = .ok (.iload 4, 2) := dn_21 (ob_cX4_turn_1 17 rfl rfl) rfl
theorem dX4_turn_61 : decode cX4_turn 61 = .ok (.isub, 1) := dn_100 (ob_cX4_turn_1 19 rfl rfl)
theorem dX4_turn_62 : decode cX4_turn 62 = .ok (.iaload, 1) := dn_46 (ob_cX4_turn_1 20 rfl rfl)
theorem dX4_turn_63 : decode cX4_turn 63 = .ok (.iastore, 1) := dn_79 (ob_cX4_turn_1 21 rfl rfl)
theorem dX4_turn_64 : decode cX4_turn 64 = .ok (.aload_n 2, 1) := dn_44 (ob_cX4_turn_1 22 rfl rfl)
theorem dX4_turn_65 : decode cX4_turn 65 = .ok (.iload 4, 2) := dn_21 (ob_cX4_turn_1 23 rfl rfl) rfl
theorem dX4_turn_67 : decode cX4_turn 67 = .ok (.iaload, 1) := dn_46 (ob_cX4_turn_1 25 rfl rfl)
theorem dX4_turn_68 : decode cX4_turn 68 = .ok (.aload_n 0, 1) := dn_42 (ob_cX4_turn_1 26 rfl rfl)
theorem dX4_turn_69 : decode cX4_turn 69 = .ok (.getfield 15, 3) := dn_180 (ob_cX4_turn_1 27 rfl rfl) rfl
theorem dX4_turn_72 : decode cX4_turn 72 = .ok (.iload_n 1, 1) := dn_27 (ob_cX4_turn_1 30 rfl rfl)
theorem dX4_turn_73 : decode cX4_turn 73 = .ok (.aaload, 1) := dn_50 (ob_cX4_turn_1 31 rfl rfl)
theorem dX4_turn_74 : decode cX4_turn 74 = .ok (.iload 4, 2) := dn_21 (ob_cX4_turn_1 32 rfl rfl) rfl
theorem dX4_turn_76 : decode cX4_turn 76 = .ok (.iaload, 1) := dn_46 (ob_cX4_turn_1 34 rfl rfl)
theorem dX4_turn_77 : decode cX4_turn 77 = .ok (.if_icmp .eq 5, 3) := dn_159 (ob_cX4_turn_1 35 rfl rfl) (by decide +kernel)
theorem dX4_turn_80 : decode cX4_turn 80 = .ok (.iconst 1, 1) := dn_4 (ob_cX4_turn_1 38 rfl rfl)
theorem dX4_turn_81 : decode cX4_turn 81 = .ok (.istore_n 3, 1) := dn_62 (ob_cX4_turn_1 39 rfl rfl)
theorem dX4_turn_82 : decode cX4_turn 82 = .ok (.iinc 4 1, 3) := dn_132 (ob_cX4_turn_2 0 rfl rfl) rfl (by decide +kernel)
theorem dX4_turn_85 : decode cX4_turn 85 = .ok (.goto (-54), 3) := dn_167 (ob_cX4_turn_2 3 rfl rfl) (by decide +kernel)
theorem dX4_turn_88 : decode cX4_turn 88 = .ok (.aload_n 0, 1) := dn_42 (ob_cX4_turn_2 6 rfl rfl)
theorem dX4_turn_89 : decode cX4_turn 89 = .ok (.getfield 15, 3) := dn_180 (ob_cX4_turn_2 7 rfl rfl) rfl
theorem dX4_turn_92 : decode cX4_turn 92 = .ok (.iload_n 1, 1) := dn_27 (ob_cX4_turn_2 10 rfl rfl)
theorem dX4_turn_93 : decode cX4_turn 93 = .ok (.aload_n 2, 1) := dn_44 (ob_cX4_turn_2 11 rfl rfl)
theorem dX4_turn_94 : decode cX4_turn 94 = .ok (.aastore, 1) := dn_83 (ob_cX4_turn_2 12 rfl rfl)
theorem dX4_turn_95 : decode cX4_turn 95 = .ok (.aload_n 0, 1) := dn_42 (ob_cX4_turn_2 13 rfl rfl)
theorem dX4_turn_96 : decode cX4_turn 96 = .ok (.iload_n 3, 1) := dn_29 (ob_cX4_turn_2 14 rfl rfl)
theorem dX4_turn_97 : decode cX4_turn 97 = .ok (.invokevirtual 92, 3) := dn_182 (ob_cX4_turn_2 15 rfl rfl) rfl
theorem dX4_turn_100 : decode cX4_turn 100 = .ok (.ireturn, 1) := dn_172 (ob_cX4_turn_2 18 rfl rfl)
def kb_cX4_fill_0 : List UInt8 := [42, 27, 184, 0, 70, 154, 0, 7, 4, 167, 0, 4, 3, 28, 184, 0, 83, 153, 0, 22, 29, 155, 0, 18, 29, 16, 30, 163, 0, 12, 28, 29, 96, 17, 1, 0, 164, 0, 7, 4]
def kb_cX4_fill_1 : List UInt8 := [167, 0, 4, 3, 182, 0, 73, 153, 0, 5, 3, 172, 42, 180, 0, 18, 27, 46, 54, 4, 3, 54, 5, 21, 5, 29, 162, 0, 22, 42, 180, 0, 15, 27, 50, 21, 5, 28, 21, 5]
def kb_cX4_fill_2 : List UInt8 := [96, 79, 132, 5, 1, 167, 255, 234, 42, 180, 0, 18, 27, 29, 79, 42, 21, 4, 182, 0, 92, 172]
def tb_cX4_fill_3 : List UInt8 := []
def tb_cX4_fill_2 : List UInt8 := kb_cX4_fill_2 ++ tb_cX4_fill_3
def tb_cX4_fill_1 : List UInt8 := kb_cX4_fill_1 ++ tb_cX4_fill_2
def tb_cX4_fill_0 : List UInt8 := kb_cX4_fill_0 ++ tb_cX4_fill_1
set_option maxRecDepth 100000 in
theorem tb_cX4_fill : (cX4_fill).data.toList = tb_cX4_fill_0 := eqL_eq (by decide +kernel)
theorem ow_cX4_fill_0 (r : Nat) : (cX4_fill).data.toList.drop (0 + r) = tb_cX4_fill_0.drop r := by rw [tb_cX4_fill, Nat.zero_add]
theorem ow_cX4_fill_1 (r : Nat) : (cX4_fill).data.toList.drop (40 + r) = tb_cX4_fill_1.drop r := by
  have e := ow_cX4_fill_0 (40 + r)
  rw [show 0 + (40 + r) = 40 + r by omega] at e
  exact e.trans (dr_len (a := kb_cX4_fill_0) (t := tb_cX4_fill_1) (by decide +kernel))
theorem ow_cX4_fill_2 (r : Nat) : (cX4_fill).data.toList.drop (80 + r) = tb_cX4_fill_2.drop r := by
  have e := ow_cX4_fill_1 (40 + r)
  rw [show 40 + (40 + r) = 80 + r by omega] at e
  exact e.trans (dr_len (a := kb_cX4_fill_1) (t := tb_cX4_fill_2) (by decide +kernel))
theorem ob_cX4_fill_0 (r : Nat) {pc : Nat} {l : List UInt8} (hp : 0 + r = pc) (h : tb_cX4_fill_0.drop r = l) : (cX4_fill).data.toList.drop pc = l := by
  subst hp
  exact (ow_cX4_fill_0 r).trans h
theorem ob_cX4_fill_1 (r : Nat) {pc : Nat} {l : List UInt8} (hp : 40 + r = pc) (h : tb_cX4_fill_1.drop r = l) : (cX4_fill).data.toList.drop pc = l := by
  subst hp
  exact (ow_cX4_fill_1 r).trans h
theorem ob_cX4_fill_2 (r : Nat) {pc : Nat} {l : List UInt8} (hp : 80 + r = pc) (h : tb_cX4_fill_2.drop r = l) : (cX4_fill).data.toList.drop pc = l := by
  subst hp
  exact (ow_cX4_fill_2 r).trans h
theorem dX4_fill_0 : decode cX4_fill 0 = .ok (.aload_n 0, 1) := dn_42 (ob_cX4_fill_0 0 rfl rfl)
theorem dX4_fill_1 : decode cX4_fill 1 = .ok (.iload_n 1, 1) := dn_27 (ob_cX4_fill_0 1 rfl rfl)
theorem dX4_fill_2 : decode cX4_fill 2 = .ok (.invokestatic 70, 3) := dn_184 (ob_cX4_fill_0 2 rfl rfl) rfl
theorem dX4_fill_5 : decode cX4_fill 5 = .ok (.ifCond .ne 7, 3) := dn_154 (ob_cX4_fill_0 5 rfl rfl) (by decide +kernel)
theorem dX4_fill_8 : decode cX4_fill 8 = .ok (.iconst 1, 1) := dn_4 (ob_cX4_fill_0 8 rfl rfl)
theorem dX4_fill_9 : decode cX4_fill 9 = .ok (.goto 4, 3) := dn_167 (ob_cX4_fill_0 9 rfl rfl) (by decide +kernel)
theorem dX4_fill_12 : decode cX4_fill 12 = .ok (.iconst 0, 1) := dn_3 (ob_cX4_fill_0 12 rfl rfl)
theorem dX4_fill_13 : decode cX4_fill 13 = .ok (.iload_n 2, 1) := dn_28 (ob_cX4_fill_0 13 rfl rfl)
theorem dX4_fill_14 : decode cX4_fill 14 = .ok (.invokestatic 83, 3) := dn_184 (ob_cX4_fill_0 14 rfl rfl) rfl
theorem dX4_fill_17 : decode cX4_fill 17 = .ok (.ifCond .eq 22, 3) := dn_153 (ob_cX4_fill_0 17 rfl rfl) (by decide +kernel)
theorem dX4_fill_20 : decode cX4_fill 20 = .ok (.iload_n 3, 1) := dn_29 (ob_cX4_fill_0 20 rfl rfl)
theorem dX4_fill_21 : decode cX4_fill 21 = .ok (.ifCond .lt 18, 3) := dn_155 (ob_cX4_fill_0 21 rfl rfl) (by decide +kernel)
theorem dX4_fill_24 : decode cX4_fill 24 = .ok (.iload_n 3, 1) := dn_29 (ob_cX4_fill_0 24 rfl rfl)
theorem dX4_fill_25 : decode cX4_fill 25 = .ok (.bipush 30, 2) := dn_16 (ob_cX4_fill_0 25 rfl rfl) (by decide +kernel)
theorem dX4_fill_27 : decode cX4_fill 27 = .ok (.if_icmp .gt 12, 3) := dn_163 (ob_cX4_fill_0 27 rfl rfl) (by decide +kernel)
theorem dX4_fill_30 : decode cX4_fill 30 = .ok (.iload_n 2, 1) := dn_28 (ob_cX4_fill_0 30 rfl rfl)
theorem dX4_fill_31 : decode cX4_fill 31 = .ok (.iload_n 3, 1) := dn_29 (ob_cX4_fill_0 31 rfl rfl)
theorem dX4_fill_32 : decode cX4_fill 32 = .ok (.iadd, 1) := dn_96 (ob_cX4_fill_0 32 rfl rfl)
theorem dX4_fill_33 : decode cX4_fill 33 = .ok (.sipush 256, 3) := dn_17 (ob_cX4_fill_0 33 rfl rfl) (by decide +kernel)
theorem dX4_fill_36 : decode cX4_fill 36 = .ok (.if_icmp .le 7, 3) := dn_164 (ob_cX4_fill_0 36 rfl rfl) (by decide +kernel)
theorem dX4_fill_39 : decode cX4_fill 39 = .ok (.iconst 1, 1) := dn_4 (ob_cX4_fill_0 39 rfl rfl)
theorem dX4_fill_40 : decode cX4_fill 40 = .ok (.goto 4, 3) := dn_167 (ob_cX4_fill_1 0 rfl rfl) (by decide +kernel)
theorem dX4_fill_43 : decode cX4_fill 43 = .ok (.iconst 0, 1) := dn_3 (ob_cX4_fill_1 3 rfl rfl)
theorem dX4_fill_44 : decode cX4_fill 44 = .ok (.invokevirtual 73, 3) := dn_182 (ob_cX4_fill_1 4 rfl rfl) rfl
theorem dX4_fill_47 : decode cX4_fill 47 = .ok (.ifCond .eq 5, 3) := dn_153 (ob_cX4_fill_1 7 rfl rfl) (by decide +kernel)
theorem dX4_fill_50 : decode cX4_fill 50 = .ok (.iconst 0, 1) := dn_3 (ob_cX4_fill_1 10 rfl rfl)
theorem dX4_fill_51 : decode cX4_fill 51 = .ok (.ireturn, 1) := dn_172 (ob_cX4_fill_1 11 rfl rfl)
theorem dX4_fill_52 : decode cX4_fill 52 = .ok (.aload_n 0, 1) := dn_42 (ob_cX4_fill_1 12 rfl rfl)
theorem dX4_fill_53 : decode cX4_fill 53 = .ok (.getfield 18, 3) := dn_180 (ob_cX4_fill_1 13 rfl rfl) rfl
theorem dX4_fill_56 : decode cX4_fill 56 = .ok (.iload_n 1, 1) := dn_27 (ob_cX4_fill_1 16 rfl rfl)
theorem dX4_fill_57 : decode cX4_fill 57 = .ok (.iaload, 1) := dn_46 (ob_cX4_fill_1 17 rfl rfl)
theorem dX4_fill_58 : decode cX4_fill 58 = .ok (.istore 4, 2) := dn_54 (ob_cX4_fill_1 18 rfl rfl) rfl
theorem dX4_fill_60 : decode cX4_fill 60 = .ok (.iconst 0, 1) := dn_3 (ob_cX4_fill_1 20 rfl rfl)
theorem dX4_fill_61 : decode cX4_fill 61 = .ok (.istore 5, 2) := dn_54 (ob_cX4_fill_1 21 rfl rfl) rfl
theorem dX4_fill_63 : decode cX4_fill 63 = .ok (.iload 5, 2) := dn_21 (ob_cX4_fill_1 23 rfl rfl) rfl
theorem dX4_fill_65 : decode cX4_fill 65 = .ok (.iload_n 3, 1) := dn_29 (ob_cX4_fill_1 25 rfl rfl)
theorem dX4_fill_66 : decode cX4_fill 66 = .ok (.if_icmp .ge 22, 3) := dn_162 (ob_cX4_fill_1 26 rfl rfl) (by decide +kernel)
theorem dX4_fill_69 : decode cX4_fill 69 = .ok (.aload_n 0, 1) := dn_42 (ob_cX4_fill_1 29 rfl rfl)
theorem dX4_fill_70 : decode cX4_fill 70 = .ok (.getfield 15, 3) := dn_180 (ob_cX4_fill_1 30 rfl rfl) rfl
theorem dX4_fill_73 : decode cX4_fill 73 = .ok (.iload_n 1, 1) := dn_27 (ob_cX4_fill_1 33 rfl rfl)
theorem dX4_fill_74 : decode cX4_fill 74 = .ok (.aaload, 1) := dn_50 (ob_cX4_fill_1 34 rfl rfl)
theorem dX4_fill_75 : decode cX4_fill 75 = .ok (.iload 5, 2) := dn_21 (ob_cX4_fill_1 35 rfl rfl) rfl
theorem dX4_fill_77 : decode cX4_fill 77 = .ok (.iload_n 2, 1) := dn_28 (ob_cX4_fill_1 37 rfl rfl)
theorem dX4_fill_78 : decode cX4_fill 78 = .ok (.iload 5, 2) := dn_21 (ob_cX4_fill_1 38 rfl rfl) rfl
theorem dX4_fill_80 : decode cX4_fill 80 = .ok (.iadd, 1) := dn_96 (ob_cX4_fill_2 0 rfl rfl)
theorem dX4_fill_81 : decode cX4_fill 81 = .ok (.iastore, 1) := dn_79 (ob_cX4_fill_2 1 rfl rfl)
theorem dX4_fill_82 : decode cX4_fill 82 = .ok (.iinc 5 1, 3) := dn_132 (ob_cX4_fill_2 2 rfl rfl) rfl (by decide +kernel)
theorem dX4_fill_85 : decode cX4_fill 85 = .ok (.goto (-22), 3) := dn_167 (ob_cX4_fill_2 5 rfl rfl) (by decide +kernel)
theorem dX4_fill_88 : decode cX4_fill 88 = .ok (.aload_n 0, 1) := dn_42 (ob_cX4_fill_2 8 rfl rfl)
theorem dX4_fill_89 : decode cX4_fill 89 = .ok (.getfield 18, 3) := dn_180 (ob_cX4_fill_2 9 rfl rfl) rfl
theorem dX4_fill_92 : decode cX4_fill 92 = .ok (.iload_n 1, 1) := dn_27 (ob_cX4_fill_2 12 rfl rfl)
theorem dX4_fill_93 : decode cX4_fill 93 = .ok (.iload_n 3, 1) := dn_29 (ob_cX4_fill_2 13 rfl rfl)
theorem dX4_fill_94 : decode cX4_fill 94 = .ok (.iastore, 1) := dn_79 (ob_cX4_fill_2 14 rfl rfl)
theorem dX4_fill_95 : decode cX4_fill 95 = .ok (.aload_n 0, 1) := dn_42 (ob_cX4_fill_2 15 rfl rfl)
theorem dX4_fill_96 : decode cX4_fill 96 = .ok (.iload 4, 2) := dn_21 (ob_cX4_fill_2 16 rfl rfl) rfl
theorem dX4_fill_98 : decode cX4_fill 98 = .ok (.invokevirtual 92, 3) := dn_182 (ob_cX4_fill_2 18 rfl rfl) rfl
theorem dX4_fill_101 : decode cX4_fill 101 = .ok (.ireturn, 1) := dn_172 (ob_cX4_fill_2 21 rfl rfl)
def kb_cX4_cut_0 : List UInt8 := [42, 27, 184, 0, 70, 153, 0, 22, 28, 155, 0, 18, 28, 29, 163, 0, 13, 29, 42, 180, 0, 18, 27, 46, 164, 0, 7, 4, 167, 0, 4, 3, 182, 0, 100, 153, 0, 5, 3, 172]
def kb_cX4_cut_1 : List UInt8 := [28, 54, 4, 21, 4, 29, 162, 0, 29, 42, 180, 0, 15, 27, 50, 21, 4, 28, 100, 42, 180, 0, 15, 27, 50, 21, 4, 46, 79, 132, 4, 1, 167, 255, 227, 42, 180, 0, 18, 27]
def kb_cX4_cut_2 : List UInt8 := [29, 28, 100, 79, 42, 42, 180, 0, 18, 27, 46, 182, 0, 92, 172]
def tb_cX4_cut_3 : List UInt8 := []
def tb_cX4_cut_2 : List UInt8 := kb_cX4_cut_2 ++ tb_cX4_cut_3
def tb_cX4_cut_1 : List UInt8 := kb_cX4_cut_1 ++ tb_cX4_cut_2
def tb_cX4_cut_0 : List UInt8 := kb_cX4_cut_0 ++ tb_cX4_cut_1
set_option maxRecDepth 100000 in
theorem tb_cX4_cut : (cX4_cut).data.toList = tb_cX4_cut_0 := eqL_eq (by decide +kernel)
theorem ow_cX4_cut_0 (r : Nat) : (cX4_cut).data.toList.drop (0 + r) = tb_cX4_cut_0.drop r := by rw [tb_cX4_cut, Nat.zero_add]
theorem ow_cX4_cut_1 (r : Nat) : (cX4_cut).data.toList.drop (40 + r) = tb_cX4_cut_1.drop r := by
  have e := ow_cX4_cut_0 (40 + r)
  rw [show 0 + (40 + r) = 40 + r by omega] at e
  exact e.trans (dr_len (a := kb_cX4_cut_0) (t := tb_cX4_cut_1) (by decide +kernel))
theorem ow_cX4_cut_2 (r : Nat) : (cX4_cut).data.toList.drop (80 + r) = tb_cX4_cut_2.drop r := by
  have e := ow_cX4_cut_1 (40 + r)
  rw [show 40 + (40 + r) = 80 + r by omega] at e
  exact e.trans (dr_len (a := kb_cX4_cut_1) (t := tb_cX4_cut_2) (by decide +kernel))
theorem ob_cX4_cut_0 (r : Nat) {pc : Nat} {l : List UInt8} (hp : 0 + r = pc) (h : tb_cX4_cut_0.drop r = l) : (cX4_cut).data.toList.drop pc = l := by
  subst hp
  exact (ow_cX4_cut_0 r).trans h
theorem ob_cX4_cut_1 (r : Nat) {pc : Nat} {l : List UInt8} (hp : 40 + r = pc) (h : tb_cX4_cut_1.drop r = l) : (cX4_cut).data.toList.drop pc = l := by
  subst hp
  exact (ow_cX4_cut_1 r).trans h
theorem ob_cX4_cut_2 (r : Nat) {pc : Nat} {l : List UInt8} (hp : 80 + r = pc) (h : tb_cX4_cut_2.drop r = l) : (cX4_cut).data.toList.drop pc = l := by
  subst hp
  exact (ow_cX4_cut_2 r).trans h
theorem dX4_cut_0 : decode cX4_cut 0 = .ok (.aload_n 0, 1) := dn_42 (ob_cX4_cut_0 0 rfl rfl)
theorem dX4_cut_1 : decode cX4_cut 1 = .ok (.iload_n 1, 1) := dn_27 (ob_cX4_cut_0 1 rfl rfl)
theorem dX4_cut_2 : decode cX4_cut 2 = .ok (.invokestatic 70, 3) := dn_184 (ob_cX4_cut_0 2 rfl rfl) rfl
theorem dX4_cut_5 : decode cX4_cut 5 = .ok (.ifCond .eq 22, 3) := dn_153 (ob_cX4_cut_0 5 rfl rfl) (by decide +kernel)
theorem dX4_cut_8 : decode cX4_cut 8 = .ok (.iload_n 2, 1) := dn_28 (ob_cX4_cut_0 8 rfl rfl)
theorem dX4_cut_9 : decode cX4_cut 9 = .ok (.ifCond .lt 18, 3) := dn_155 (ob_cX4_cut_0 9 rfl rfl) (by decide +kernel)
theorem dX4_cut_12 : decode cX4_cut 12 = .ok (.iload_n 2, 1) := dn_28 (ob_cX4_cut_0 12 rfl rfl)
theorem dX4_cut_13 : decode cX4_cut 13 = .ok (.iload_n 3, 1) := dn_29 (ob_cX4_cut_0 13 rfl rfl)
theorem dX4_cut_14 : decode cX4_cut 14 = .ok (.if_icmp .gt 13, 3) := dn_163 (ob_cX4_cut_0 14 rfl rfl) (by decide +kernel)
theorem dX4_cut_17 : decode cX4_cut 17 = .ok (.iload_n 3, 1) := dn_29 (ob_cX4_cut_0 17 rfl rfl)
theorem dX4_cut_18 : decode cX4_cut 18 = .ok (.aload_n 0, 1) := dn_42 (ob_cX4_cut_0 18 rfl rfl)
theorem dX4_cut_19 : decode cX4_cut 19 = .ok (.getfield 18, 3) := dn_180 (ob_cX4_cut_0 19 rfl rfl) rfl
theorem dX4_cut_22 : decode cX4_cut 22 = .ok (.iload_n 1, 1) := dn_27 (ob_cX4_cut_0 22 rfl rfl)
theorem dX4_cut_23 : decode cX4_cut 23 = .ok (.iaload, 1) := dn_46 (ob_cX4_cut_0 23 rfl rfl)
theorem dX4_cut_24 : decode cX4_cut 24 = .ok (.if_icmp .le 7, 3) := dn_164 (ob_cX4_cut_0 24 rfl rfl) (by decide +kernel)
theorem dX4_cut_27 : decode cX4_cut 27 = .ok (.iconst 1, 1) := dn_4 (ob_cX4_cut_0 27 rfl rfl)
theorem dX4_cut_28 : decode cX4_cut 28 = .ok (.goto 4, 3) := dn_167 (ob_cX4_cut_0 28 rfl rfl) (by decide +kernel)
theorem dX4_cut_31 : decode cX4_cut 31 = .ok (.iconst 0, 1) := dn_3 (ob_cX4_cut_0 31 rfl rfl)
theorem dX4_cut_32 : decode cX4_cut 32 = .ok (.invokevirtual 100, 3) := dn_182 (ob_cX4_cut_0 32 rfl rfl) rfl
theorem dX4_cut_35 : decode cX4_cut 35 = .ok (.ifCond .eq 5, 3) := dn_153 (ob_cX4_cut_0 35 rfl rfl) (by decide +kernel)
theorem dX4_cut_38 : decode cX4_cut 38 = .ok (.iconst 0, 1) := dn_3 (ob_cX4_cut_0 38 rfl rfl)
theorem dX4_cut_39 : decode cX4_cut 39 = .ok (.ireturn, 1) := dn_172 (ob_cX4_cut_0 39 rfl rfl)
theorem dX4_cut_40 : decode cX4_cut 40 = .ok (.iload_n 2, 1) := dn_28 (ob_cX4_cut_1 0 rfl rfl)
theorem dX4_cut_41 : decode cX4_cut 41 = .ok (.istore 4, 2) := dn_54 (ob_cX4_cut_1 1 rfl rfl) rfl
theorem dX4_cut_43 : decode cX4_cut 43 = .ok (.iload 4, 2) := dn_21 (ob_cX4_cut_1 3 rfl rfl) rfl
theorem dX4_cut_45 : decode cX4_cut 45 = .ok (.iload_n 3, 1) := dn_29 (ob_cX4_cut_1 5 rfl rfl)
theorem dX4_cut_46 : decode cX4_cut 46 = .ok (.if_icmp .ge 29, 3) := dn_162 (ob_cX4_cut_1 6 rfl rfl) (by decide +kernel)
theorem dX4_cut_49 : decode cX4_cut 49 = .ok (.aload_n 0, 1) := dn_42 (ob_cX4_cut_1 9 rfl rfl)
theorem dX4_cut_50 : decode cX4_cut 50 = .ok (.getfield 15, 3) := dn_180 (ob_cX4_cut_1 10 rfl rfl) rfl
theorem dX4_cut_53 : decode cX4_cut 53 = .ok (.iload_n 1, 1) := dn_27 (ob_cX4_cut_1 13 rfl rfl)
theorem dX4_cut_54 : decode cX4_cut 54 = .ok (.aaload, 1) := dn_50 (ob_cX4_cut_1 14 rfl rfl)
theorem dX4_cut_55 : decode cX4_cut 55 = .ok (.iload 4, 2) := dn_21 (ob_cX4_cut_1 15 rfl rfl) rfl
theorem dX4_cut_57 : decode cX4_cut 57 = .ok (.iload_n 2, 1) := dn_28 (ob_cX4_cut_1 17 rfl rfl)
theorem dX4_cut_58 : decode cX4_cut 58 = .ok (.isub, 1) := dn_100 (ob_cX4_cut_1 18 rfl rfl)
theorem dX4_cut_59 : decode cX4_cut 59 = .ok (.aload_n 0, 1) := dn_42 (ob_cX4_cut_1 19 rfl rfl)
theorem dX4_cut_60 : decode cX4_cut 60 = .ok (.getfield 15, 3) := dn_180 (ob_cX4_cut_1 20 rfl rfl) rfl
theorem dX4_cut_63 : decode cX4_cut 63 = .ok (.iload_n 1, 1) := dn_27 (ob_cX4_cut_1 23 rfl rfl)
theorem dX4_cut_64 : decode cX4_cut 64 = .ok (.aaload, 1) := dn_50 (ob_cX4_cut_1 24 rfl rfl)
theorem dX4_cut_65 : decode cX4_cut 65 = .ok (.iload 4, 2) := dn_21 (ob_cX4_cut_1 25 rfl rfl) rfl
theorem dX4_cut_67 : decode cX4_cut 67 = .ok (.iaload, 1) := dn_46 (ob_cX4_cut_1 27 rfl rfl)
theorem dX4_cut_68 : decode cX4_cut 68 = .ok (.iastore, 1) := dn_79 (ob_cX4_cut_1 28 rfl rfl)
theorem dX4_cut_69 : decode cX4_cut 69 = .ok (.iinc 4 1, 3) := dn_132 (ob_cX4_cut_1 29 rfl rfl) rfl (by decide +kernel)
theorem dX4_cut_72 : decode cX4_cut 72 = .ok (.goto (-29), 3) := dn_167 (ob_cX4_cut_1 32 rfl rfl) (by decide +kernel)
theorem dX4_cut_75 : decode cX4_cut 75 = .ok (.aload_n 0, 1) := dn_42 (ob_cX4_cut_1 35 rfl rfl)
theorem dX4_cut_76 : decode cX4_cut 76 = .ok (.getfield 18, 3) := dn_180 (ob_cX4_cut_1 36 rfl rfl) rfl
theorem dX4_cut_79 : decode cX4_cut 79 = .ok (.iload_n 1, 1) := dn_27 (ob_cX4_cut_1 39 rfl rfl)
theorem dX4_cut_80 : decode cX4_cut 80 = .ok (.iload_n 3, 1) := dn_29 (ob_cX4_cut_2 0 rfl rfl)
theorem dX4_cut_81 : decode cX4_cut 81 = .ok (.iload_n 2, 1) := dn_28 (ob_cX4_cut_2 1 rfl rfl)
theorem dX4_cut_82 : decode cX4_cut 82 = .ok (.isub, 1) := dn_100 (ob_cX4_cut_2 2 rfl rfl)
theorem dX4_cut_83 : decode cX4_cut 83 = .ok (.iastore, 1) := dn_79 (ob_cX4_cut_2 3 rfl rfl)
theorem dX4_cut_84 : decode cX4_cut 84 = .ok (.aload_n 0, 1) := dn_42 (ob_cX4_cut_2 4 rfl rfl)
theorem dX4_cut_85 : decode cX4_cut 85 = .ok (.aload_n 0, 1) := dn_42 (ob_cX4_cut_2 5 rfl rfl)
theorem dX4_cut_86 : decode cX4_cut 86 = .ok (.getfield 18, 3) := dn_180 (ob_cX4_cut_2 6 rfl rfl) rfl
theorem dX4_cut_89 : decode cX4_cut 89 = .ok (.iload_n 1, 1) := dn_27 (ob_cX4_cut_2 9 rfl rfl)
theorem dX4_cut_90 : decode cX4_cut 90 = .ok (.iaload, 1) := dn_46 (ob_cX4_cut_2 10 rfl rfl)
theorem dX4_cut_91 : decode cX4_cut 91 = .ok (.invokevirtual 92, 3) := dn_182 (ob_cX4_cut_2 11 rfl rfl) rfl
theorem dX4_cut_94 : decode cX4_cut 94 = .ok (.ireturn, 1) := dn_172 (ob_cX4_cut_2 14 rfl rfl)
def kb_cX4_sifted_0 : List UInt8 := [3, 62, 3, 54, 4, 21, 4, 42, 180, 0, 18, 27, 46, 162, 0, 36, 44, 21, 4, 51, 153, 0, 23, 42, 180, 0, 15, 27, 50, 29, 132, 3, 1, 42, 180, 0, 15, 27, 50, 21, 4]
def kb_cX4_sifted_1 : List UInt8 := [46, 79, 132, 4, 1, 167, 255, 215, 42, 180, 0, 18, 27, 46, 29, 100, 54, 4, 42, 180, 0, 18, 27, 29, 79, 42, 21, 4, 182, 0, 92, 172]
def tb_cX4_sifted_2 : List UInt8 := []
def tb_cX4_sifted_1 : List UInt8 := kb_cX4_sifted_1 ++ tb_cX4_sifted_2
def tb_cX4_sifted_0 : List UInt8 := kb_cX4_sifted_0 ++ tb_cX4_sifted_1
set_option maxRecDepth 100000 in
theorem tb_cX4_sifted : (cX4_sifted).data.toList = tb_cX4_sifted_0 := eqL_eq (by decide +kernel)
theorem ow_cX4_sifted_0 (r : Nat) : (cX4_sifted).data.toList.drop (0 + r) = tb_cX4_sifted_0.drop r := by rw [tb_cX4_sifted, Nat.zero_add]
theorem ow_cX4_sifted_1 (r : Nat) : (cX4_sifted).data.toList.drop (41 + r) = tb_cX4_sifted_1.drop r := by
  have e := ow_cX4_sifted_0 (41 + r)
  rw [show 0 + (41 + r) = 41 + r by omega] at e
  exact e.trans (dr_len (a := kb_cX4_sifted_0) (t := tb_cX4_sifted_1) (by decide +kernel))
theorem ob_cX4_sifted_0 (r : Nat) {pc : Nat} {l : List UInt8} (hp : 0 + r = pc) (h : tb_cX4_sifted_0.drop r = l) : (cX4_sifted).data.toList.drop pc = l := by
  subst hp
  exact (ow_cX4_sifted_0 r).trans h
theorem ob_cX4_sifted_1 (r : Nat) {pc : Nat} {l : List UInt8} (hp : 41 + r = pc) (h : tb_cX4_sifted_1.drop r = l) : (cX4_sifted).data.toList.drop pc = l := by
  subst hp
  exact (ow_cX4_sifted_1 r).trans h
theorem dX4_sifted_0 : decode cX4_sifted 0 = .ok (.iconst 0, 1) := dn_3 (ob_cX4_sifted_0 0 rfl rfl)
theorem dX4_sifted_1 : decode cX4_sifted 1 = .ok (.istore_n 3, 1) := dn_62 (ob_cX4_sifted_0 1 rfl rfl)
theorem dX4_sifted_2 : decode cX4_sifted 2 = .ok (.iconst 0, 1) := dn_3 (ob_cX4_sifted_0 2 rfl rfl)
theorem dX4_sifted_3 : decode cX4_sifted 3 = .ok (.istore 4, 2) := dn_54 (ob_cX4_sifted_0 3 rfl rfl) rfl
theorem dX4_sifted_5 : decode cX4_sifted 5 = .ok (.iload 4, 2) := dn_21 (ob_cX4_sifted_0 5 rfl rfl) rfl
theorem dX4_sifted_7 : decode cX4_sifted 7 = .ok (.aload_n 0, 1) := dn_42 (ob_cX4_sifted_0 7 rfl rfl)
theorem dX4_sifted_8 : decode cX4_sifted 8 = .ok (.getfield 18, 3) := dn_180 (ob_cX4_sifted_0 8 rfl rfl) rfl
theorem dX4_sifted_11 : decode cX4_sifted 11 = .ok (.iload_n 1, 1) := dn_27 (ob_cX4_sifted_0 11 rfl rfl)
theorem dX4_sifted_12 : decode cX4_sifted 12 = .ok (.iaload, 1) := dn_46 (ob_cX4_sifted_0 12 rfl rfl)
theorem dX4_sifted_13 : decode cX4_sifted 13 = .ok (.if_icmp .ge 36, 3) := dn_162 (ob_cX4_sifted_0 13 rfl rfl) (by decide +kernel)
theorem dX4_sifted_16 : decode cX4_sifted 16 = .ok (.aload_n 2, 1) := dn_44 (ob_cX4_sifted_0 16 rfl rfl)
theorem dX4_sifted_17 : decode cX4_sifted 17 = .ok (.iload 4, 2) := dn_21 (ob_cX4_sifted_0 17 rfl rfl) rfl
theorem dX4_sifted_19 : decode cX4_sifted 19 = .ok (.baload, 1) := dn_51 (ob_cX4_sifted_0 19 rfl rfl)
theorem dX4_sifted_20 : decode cX4_sifted 20 = .ok (.ifCond .eq 23, 3) := dn_153 (ob_cX4_sifted_0 20 rfl rfl) (by decide +kernel)
theorem dX4_sifted_23 : decode cX4_sifted 23 = .ok (.aload_n 0, 1) := dn_42 (ob_cX4_sifted_0 23 rfl rfl)
theorem dX4_sifted_24 : decode cX4_sifted 24 = .ok (.getfield 15, 3) := dn_180 (ob_cX4_sifted_0 24 rfl rfl) rfl
theorem dX4_sifted_27 : decode cX4_sifted 27 = .ok (.iload_n 1, 1) := dn_27 (ob_cX4_sifted_0 27 rfl rfl)
theorem dX4_sifted_28 : decode cX4_sifted 28 = .ok (.aaload, 1) := dn_50 (ob_cX4_sifted_0 28 rfl rfl)
theorem dX4_sifted_29 : decode cX4_sifted 29 = .ok (.iload_n 3, 1) := dn_29 (ob_cX4_sifted_0 29 rfl rfl)
theorem dX4_sifted_30 : decode cX4_sifted 30 = .ok (.iinc 3 1, 3) := dn_132 (ob_cX4_sifted_0 30 rfl rfl) rfl (by decide +kernel)
theorem dX4_sifted_33 : decode cX4_sifted 33 = .ok (.aload_n 0, 1) := dn_42 (ob_cX4_sifted_0 33 rfl rfl)
theorem dX4_sifted_34 : decode cX4_sifted 34 = .ok (.getfield 15, 3) := dn_180 (ob_cX4_sifted_0 34 rfl rfl) rfl
theorem dX4_sifted_37 : decode cX4_sifted 37 = .ok (.iload_n 1, 1) := dn_27 (ob_cX4_sifted_0 37 rfl rfl)
theorem dX4_sifted_38 : decode cX4_sifted 38 = .ok (.aaload, 1) := dn_50 (ob_cX4_sifted_0 38 rfl rfl)
theorem dX4_sifted_39 : decode cX4_sifted 39 = .ok (.iload 4, 2) := dn_21 (ob_cX4_sifted_0 39 rfl rfl) rfl
theorem dX4_sifted_41 : decode cX4_sifted 41 = .ok (.iaload, 1) := dn_46 (ob_cX4_sifted_1 0 rfl rfl)
theorem dX4_sifted_42 : decode cX4_sifted 42 = .ok (.iastore, 1) := dn_79 (ob_cX4_sifted_1 1 rfl rfl)
theorem dX4_sifted_43 : decode cX4_sifted 43 = .ok (.iinc 4 1, 3) := dn_132 (ob_cX4_sifted_1 2 rfl rfl) rfl (by decide +kernel)
theorem dX4_sifted_46 : decode cX4_sifted 46 = .ok (.goto (-41), 3) := dn_167 (ob_cX4_sifted_1 5 rfl rfl) (by decide +kernel)
theorem dX4_sifted_49 : decode cX4_sifted 49 = .ok (.aload_n 0, 1) := dn_42 (ob_cX4_sifted_1 8 rfl rfl)
theorem dX4_sifted_50 : decode cX4_sifted 50 = .ok (.getfield 18, 3) := dn_180 (ob_cX4_sifted_1 9 rfl rfl) rfl
theorem dX4_sifted_53 : decode cX4_sifted 53 = .ok (.iload_n 1, 1) := dn_27 (ob_cX4_sifted_1 12 rfl rfl)
theorem dX4_sifted_54 : decode cX4_sifted 54 = .ok (.iaload, 1) := dn_46 (ob_cX4_sifted_1 13 rfl rfl)
theorem dX4_sifted_55 : decode cX4_sifted 55 = .ok (.iload_n 3, 1) := dn_29 (ob_cX4_sifted_1 14 rfl rfl)
theorem dX4_sifted_56 : decode cX4_sifted 56 = .ok (.isub, 1) := dn_100 (ob_cX4_sifted_1 15 rfl rfl)
theorem dX4_sifted_57 : decode cX4_sifted 57 = .ok (.istore 4, 2) := dn_54 (ob_cX4_sifted_1 16 rfl rfl) rfl
theorem dX4_sifted_59 : decode cX4_sifted 59 = .ok (.aload_n 0, 1) := dn_42 (ob_cX4_sifted_1 18 rfl rfl)
theorem dX4_sifted_60 : decode cX4_sifted 60 = .ok (.getfield 18, 3) := dn_180 (ob_cX4_sifted_1 19 rfl rfl) rfl
theorem dX4_sifted_63 : decode cX4_sifted 63 = .ok (.iload_n 1, 1) := dn_27 (ob_cX4_sifted_1 22 rfl rfl)
theorem dX4_sifted_64 : decode cX4_sifted 64 = .ok (.iload_n 3, 1) := dn_29 (ob_cX4_sifted_1 23 rfl rfl)
theorem dX4_sifted_65 : decode cX4_sifted 65 = .ok (.iastore, 1) := dn_79 (ob_cX4_sifted_1 24 rfl rfl)
theorem dX4_sifted_66 : decode cX4_sifted 66 = .ok (.aload_n 0, 1) := dn_42 (ob_cX4_sifted_1 25 rfl rfl)
theorem dX4_sifted_67 : decode cX4_sifted 67 = .ok (.iload 4, 2) := dn_21 (ob_cX4_sifted_1 26 rfl rfl) rfl
theorem dX4_sifted_69 : decode cX4_sifted 69 = .ok (.invokevirtual 92, 3) := dn_182 (ob_cX4_sifted_1 28 rfl rfl) rfl
theorem dX4_sifted_72 : decode cX4_sifted 72 = .ok (.ireturn, 1) := dn_172 (ob_cX4_sifted_1 31 rfl rfl)
def kb_cX4_keep_0 : List UInt8 := [42, 27, 184, 0, 70, 154, 0, 7, 4, 167, 0, 4, 3, 28, 184, 0, 107, 154, 0, 7, 4, 167, 0, 4, 3, 182, 0, 73, 153, 0, 5, 3, 172, 16, 30, 188, 4, 58, 4, 3]
def kb_cX4_keep_1 : List UInt8 := [54, 5, 21, 5, 42, 180, 0, 18, 27, 46, 162, 0, 37, 25, 4, 21, 5, 42, 42, 180, 0, 15, 27, 50, 21, 5, 46, 28, 182, 0, 45, 29, 160, 0, 7, 4, 167, 0, 4, 3]
def kb_cX4_keep_2 : List UInt8 := [84, 132, 5, 1, 167, 255, 214, 42, 27, 25, 4, 182, 0, 110, 172]
def tb_cX4_keep_3 : List UInt8 := []
def tb_cX4_keep_2 : List UInt8 := kb_cX4_keep_2 ++ tb_cX4_keep_3
def tb_cX4_keep_1 : List UInt8 := kb_cX4_keep_1 ++ tb_cX4_keep_2
def tb_cX4_keep_0 : List UInt8 := kb_cX4_keep_0 ++ tb_cX4_keep_1
set_option maxRecDepth 100000 in
theorem tb_cX4_keep : (cX4_keep).data.toList = tb_cX4_keep_0 := eqL_eq (by decide +kernel)
theorem ow_cX4_keep_0 (r : Nat) : (cX4_keep).data.toList.drop (0 + r) = tb_cX4_keep_0.drop r := by rw [tb_cX4_keep, Nat.zero_add]
theorem ow_cX4_keep_1 (r : Nat) : (cX4_keep).data.toList.drop (40 + r) = tb_cX4_keep_1.drop r := by
  have e := ow_cX4_keep_0 (40 + r)
  rw [show 0 + (40 + r) = 40 + r by omega] at e
  exact e.trans (dr_len (a := kb_cX4_keep_0) (t := tb_cX4_keep_1) (by decide +kernel))
theorem ow_cX4_keep_2 (r : Nat) : (cX4_keep).data.toList.drop (80 + r) = tb_cX4_keep_2.drop r := by
  have e := ow_cX4_keep_1 (40 + r)
  rw [show 40 + (40 + r) = 80 + r by omega] at e
  exact e.trans (dr_len (a := kb_cX4_keep_1) (t := tb_cX4_keep_2) (by decide +kernel))
theorem ob_cX4_keep_0 (r : Nat) {pc : Nat} {l : List UInt8} (hp : 0 + r = pc) (h : tb_cX4_keep_0.drop r = l) : (cX4_keep).data.toList.drop pc = l := by
  subst hp
  exact (ow_cX4_keep_0 r).trans h
theorem ob_cX4_keep_1 (r : Nat) {pc : Nat} {l : List UInt8} (hp : 40 + r = pc) (h : tb_cX4_keep_1.drop r = l) : (cX4_keep).data.toList.drop pc = l := by
  subst hp
  exact (ow_cX4_keep_1 r).trans h
theorem ob_cX4_keep_2 (r : Nat) {pc : Nat} {l : List UInt8} (hp : 80 + r = pc) (h : tb_cX4_keep_2.drop r = l) : (cX4_keep).data.toList.drop pc = l := by
  subst hp
  exact (ow_cX4_keep_2 r).trans h
theorem dX4_keep_0 : decode cX4_keep 0 = .ok (.aload_n 0, 1) := dn_42 (ob_cX4_keep_0 0 rfl rfl)
theorem dX4_keep_1 : decode cX4_keep 1 = .ok (.iload_n 1, 1) := dn_27 (ob_cX4_keep_0 1 rfl rfl)
theorem dX4_keep_2 : decode cX4_keep 2 = .ok (.invokestatic 70, 3) := dn_184 (ob_cX4_keep_0 2 rfl rfl) rfl
theorem dX4_keep_5 : decode cX4_keep 5 = .ok (.ifCond .ne 7, 3) := dn_154 (ob_cX4_keep_0 5 rfl rfl) (by decide +kernel)
theorem dX4_keep_8 : decode cX4_keep 8 = .ok (.iconst 1, 1) := dn_4 (ob_cX4_keep_0 8 rfl rfl)
theorem dX4_keep_9 : decode cX4_keep 9 = .ok (.goto 4, 3) := dn_167 (ob_cX4_keep_0 9 rfl rfl) (by decide +kernel)
theorem dX4_keep_12 : decode cX4_keep 12 = .ok (.iconst 0, 1) := dn_3 (ob_cX4_keep_0 12 rfl rfl)
theorem dX4_keep_13 : decode cX4_keep 13 = .ok (.iload_n 2, 1) := dn_28 (ob_cX4_keep_0 13 rfl rfl)
theorem dX4_keep_14 : decode cX4_keep 14 = .ok (.invokestatic 107, 3) := dn_184 (ob_cX4_keep_0 14 rfl rfl) rfl
theorem dX4_keep_17 : decode cX4_keep 17 = .ok (.ifCond .ne 7, 3) := dn_154 (ob_cX4_keep_0 17 rfl rfl) (by decide +kernel)
theorem dX4_keep_20 : decode cX4_keep 20 = .ok (.iconst 1, 1) := dn_4 (ob_cX4_keep_0 20 rfl rfl)
theorem dX4_keep_21 : decode cX4_keep 21 = .ok (.goto 4, 3) := dn_167 (ob_cX4_keep_0 21 rfl rfl) (by decide +kernel)
theorem dX4_keep_24 : decode cX4_keep 24 = .ok (.iconst 0, 1) := dn_3 (ob_cX4_keep_0 24 rfl rfl)
theorem dX4_keep_25 : decode cX4_keep 25 = .ok (.invokevirtual 73, 3) := dn_182 (ob_cX4_keep_0 25 rfl rfl) rfl
theorem dX4_keep_28 : decode cX4_keep 28 = .ok (.ifCond .eq 5, 3) := dn_153 (ob_cX4_keep_0 28 rfl rfl) (by decide +kernel)
theorem dX4_keep_31 : decode cX4_keep 31 = .ok (.iconst 0, 1) := dn_3 (ob_cX4_keep_0 31 rfl rfl)
theorem dX4_keep_32 : decode cX4_keep 32 = .ok (.ireturn, 1) := dn_172 (ob_cX4_keep_0 32 rfl rfl)
theorem dX4_keep_33 : decode cX4_keep 33 = .ok (.bipush 30, 2) := dn_16 (ob_cX4_keep_0 33 rfl rfl) (by decide +kernel)
theorem dX4_keep_35 : decode cX4_keep 35 = .ok (.newarray .boolean, 2) := by decide +kernel
theorem dX4_keep_37 : decode cX4_keep 37 = .ok (.astore 4, 2) := dn_58 (ob_cX4_keep_0 37 rfl rfl) rfl
theorem dX4_keep_39 : decode cX4_keep 39 = .ok (.iconst 0, 1) := dn_3 (ob_cX4_keep_0 39 rfl rfl)
theorem dX4_keep_40 : decode cX4_keep 40 = .ok (.istore 5, 2) := dn_54 (ob_cX4_keep_1 0 rfl rfl) rfl
theorem dX4_keep_42 : decode cX4_keep 42 = .ok (.iload 5, 2) := dn_21 (ob_cX4_keep_1 2 rfl rfl) rfl
theorem dX4_keep_44 : decode cX4_keep 44 = .ok (.aload_n 0, 1) := dn_42 (ob_cX4_keep_1 4 rfl rfl)
theorem dX4_keep_45 : decode cX4_keep 45 = .ok (.getfield 18, 3) := dn_180 (ob_cX4_keep_1 5 rfl rfl) rfl
theorem dX4_keep_48 : decode cX4_keep 48 = .ok (.iload_n 1, 1) := dn_27 (ob_cX4_keep_1 8 rfl rfl)
theorem dX4_keep_49 : decode cX4_keep 49 = .ok (.iaload, 1) := dn_46 (ob_cX4_keep_1 9 rfl rfl)
theorem dX4_keep_50 : decode cX4_keep 50 = .ok (.if_icmp .ge 37, 3) := dn_162 (ob_cX4_keep_1 10 rfl rfl) (by decide +kernel)
theorem dX4_keep_53 : decode cX4_keep 53 = .ok (.aload 4, 2) := dn_25 (ob_cX4_keep_1 13 rfl rfl) rfl
theorem dX4_keep_55 : decode cX4_keep 55 = .ok (.iload 5, 2) := dn_21 (ob_cX4_keep_1 15 rfl rfl) rfl
theorem dX4_keep_57 : decode cX4_keep 57 = .ok (.aload_n 0, 1) := dn_42 (ob_cX4_keep_1 17 rfl rfl)
theorem dX4_keep_58 : decode cX4_keep 58 = .ok (.aload_n 0, 1) := dn_42 (ob_cX4_keep_1 18 rfl rfl)
theorem dX4_keep_59 : decode cX4_keep 59 = .ok (.getfield 15, 3) := dn_180 (ob_cX4_keep_1 19 rfl rfl) rfl
theorem dX4_keep_62 : decode cX4_keep 62 = .ok (.iload_n 1, 1) := dn_27 (ob_cX4_keep_1 22 rfl rfl)
theorem dX4_keep_63 : decode cX4_keep 63 = .ok (.aaload, 1) := dn_50 (ob_cX4_keep_1 23 rfl rfl)
theorem dX4_keep_64 : decode cX4_keep 64 = .ok (.iload 5, 2) := dn_21 (ob_cX4_keep_1 24 rfl rfl) rfl
theorem dX4_keep_66 : decode cX4_keep 66 = .ok (.iaload, 1) := dn_46 (ob_cX4_keep_1 26 rfl rfl)
theorem dX4_keep_67 : decode cX4_keep 67 = .ok (.iload_n 2, 1) := dn_28 (ob_cX4_keep_1 27 rfl rfl)
theorem dX4_keep_68 : decode cX4_keep 68 = .ok (.invokevirtual 45, 3) := dn_182 (ob_cX4_keep_1 28 rfl rfl) rfl
theorem dX4_keep_71 : decode cX4_keep 71 = .ok (.iload_n 3, 1) := dn_29 (ob_cX4_keep_1 31 rfl rfl)
theorem dX4_keep_72 : decode cX4_keep 72 = .ok (.if_icmp .ne 7, 3) := dn_160 (ob_cX4_keep_1 32 rfl rfl) (by decide +kernel)
theorem dX4_keep_75 : decode cX4_keep 75 = .ok (.iconst 1, 1) := dn_4 (ob_cX4_keep_1 35 rfl rfl)
theorem dX4_keep_76 : decode cX4_keep 76 = .ok (.goto 4, 3) := dn_167 (ob_cX4_keep_1 36 rfl rfl) (by decide +kernel)
theorem dX4_keep_79 : decode cX4_keep 79 = .ok (.iconst 0, 1) := dn_3 (ob_cX4_keep_1 39 rfl rfl)
theorem dX4_keep_80 : decode cX4_keep 80 = .ok (.bastore, 1) := dn_84 (ob_cX4_keep_2 0 rfl rfl)
theorem dX4_keep_81 : decode cX4_keep 81 = .ok (.iinc 5 1, 3) := dn_132 (ob_cX4_keep_2 1 rfl rfl) rfl (by decide +kernel)
theorem dX4_keep_84 : decode cX4_keep 84 = .ok (.goto (-42), 3) := dn_167 (ob_cX4_keep_2 4 rfl rfl) (by decide +kernel)
theorem dX4_keep_87 : decode cX4_keep 87 = .ok (.aload_n 0, 1) := dn_42 (ob_cX4_keep_2 7 rfl rfl)
theorem dX4_keep_88 : decode cX4_keep 88 = .ok (.iload_n 1, 1) := dn_27 (ob_cX4_keep_2 8 rfl rfl)
theorem dX4_keep_89 : decode cX4_keep 89 = .ok (.aload 4, 2) := dn_25 (ob_cX4_keep_2 9 rfl rfl) rfl
theorem dX4_keep_91 : decode cX4_keep 91 = .ok (.invokevirtual 110, 3) := dn_182 (ob_cX4_keep_2 11 rfl rfl) rfl
theorem dX4_keep_94 : decode cX4_keep 94 = .ok (.ireturn, 1) := dn_172 (ob_cX4_keep_2 14 rfl rfl)
def kb_cX4_keepKind_0 : List UInt8 := [42, 27, 184, 0, 70, 154, 0, 7, 4, 167, 0, 4, 3, 28, 184, 0, 114, 154, 0, 7, 4, 167, 0, 4, 3, 182, 0, 73, 153, 0, 5, 3, 172, 16, 30, 188, 4, 58, 4, 3]
def kb_cX4_keepKind_1 : List UInt8 := [54, 5, 21, 5, 42, 180, 0, 18, 27, 46, 162, 0, 46, 25, 4, 21, 5, 42, 180, 0, 7, 42, 180, 0, 15, 27, 50, 21, 5, 46, 46, 28, 160, 0, 7, 4, 167, 0, 4, 3]
def kb_cX4_keepKind_2 : List UInt8 := [29, 160, 0, 7, 4, 167, 0, 4, 3, 84, 132, 5, 1, 167, 255, 205, 42, 27, 25, 4, 182, 0, 110, 172]
def tb_cX4_keepKind_3 : List UInt8 := []
def tb_cX4_keepKind_2 : List UInt8 := kb_cX4_keepKind_2 ++ tb_cX4_keepKind_3
def tb_cX4_keepKind_1 : List UInt8 := kb_cX4_keepKind_1 ++ tb_cX4_keepKind_2
def tb_cX4_keepKind_0 : List UInt8 := kb_cX4_keepKind_0 ++ tb_cX4_keepKind_1
set_option maxRecDepth 100000 in
theorem tb_cX4_keepKind : (cX4_keepKind).data.toList = tb_cX4_keepKind_0 := eqL_eq (by decide +kernel)
theorem ow_cX4_keepKind_0 (r : Nat) : (cX4_keepKind).data.toList.drop (0 + r) = tb_cX4_keepKind_0.drop r := by rw [tb_cX4_keepKind, Nat.zero_add]
theorem ow_cX4_keepKind_1 (r : Nat) : (cX4_keepKind).data.toList.drop (40 + r) = tb_cX4_keepKind_1.drop r := by
  have e := ow_cX4_keepKind_0 (40 + r)
  rw [show 0 + (40 + r) = 40 + r by omega] at e
  exact e.trans (dr_len (a := kb_cX4_keepKind_0) (t := tb_cX4_keepKind_1) (by decide +kernel))
theorem ow_cX4_keepKind_2 (r : Nat) : (cX4_keepKind).data.toList.drop (80 + r) = tb_cX4_keepKind_2.drop r := by
  have e := ow_cX4_keepKind_1 (40 + r)
  rw [show 40 + (40 + r) = 80 + r by omega] at e
  exact e.trans (dr_len (a := kb_cX4_keepKind_1) (t := tb_cX4_keepKind_2) (by decide +kernel))
theorem ob_cX4_keepKind_0 (r : Nat) {pc : Nat} {l : List UInt8} (hp : 0 + r = pc) (h : tb_cX4_keepKind_0.drop r = l) : (cX4_keepKind).data.toList.drop pc = l := by
  subst hp
  exact (ow_cX4_keepKind_0 r).trans h
theorem ob_cX4_keepKind_1 (r : Nat) {pc : Nat} {l : List UInt8} (hp : 40 + r = pc) (h : tb_cX4_keepKind_1.drop r = l) : (cX4_keepKind).data.toList.drop pc = l := by
  subst hp
  exact (ow_cX4_keepKind_1 r).trans h
theorem ob_cX4_keepKind_2 (r : Nat) {pc : Nat} {l : List UInt8} (hp : 80 + r = pc) (h : tb_cX4_keepKind_2.drop r = l) : (cX4_keepKind).data.toList.drop pc = l := by
  subst hp
  exact (ow_cX4_keepKind_2 r).trans h
theorem dX4_keepKind_0 : decode cX4_keepKind 0 = .ok (.aload_n 0, 1) := dn_42 (ob_cX4_keepKind_0 0 rfl rfl)
theorem dX4_keepKind_1 : decode cX4_keepKind 1 = .ok (.iload_n 1, 1) := dn_27 (ob_cX4_keepKind_0 1 rfl rfl)
theorem dX4_keepKind_2 : decode cX4_keepKind 2 = .ok (.invokestatic 70, 3) := dn_184 (ob_cX4_keepKind_0 2 rfl rfl) rfl
theorem dX4_keepKind_5 : decode cX4_keepKind 5 = .ok (.ifCond .ne 7, 3) := dn_154 (ob_cX4_keepKind_0 5 rfl rfl) (by decide +kernel)
theorem dX4_keepKind_8 : decode cX4_keepKind 8 = .ok (.iconst 1, 1) := dn_4 (ob_cX4_keepKind_0 8 rfl rfl)
theorem dX4_keepKind_9 : decode cX4_keepKind 9 = .ok (.goto 4, 3) := dn_167 (ob_cX4_keepKind_0 9 rfl rfl) (by decide +kernel)
theorem dX4_keepKind_12 : decode cX4_keepKind 12 = .ok (.iconst 0, 1) := dn_3 (ob_cX4_keepKind_0 12 rfl rfl)
theorem dX4_keepKind_13 : decode cX4_keepKind 13 = .ok (.iload_n 2, 1) := dn_28 (ob_cX4_keepKind_0 13 rfl rfl)
theorem dX4_keepKind_14 : decode cX4_keepKind 14 = .ok (.invokestatic 114, 3) := dn_184 (ob_cX4_keepKind_0 14 rfl rfl) rfl
theorem dX4_keepKind_17 : decode cX4_keepKind 17 = .ok (.ifCond .ne 7, 3) := dn_154 (ob_cX4_keepKind_0 17 rfl rfl) (by decide +kernel)
theorem dX4_keepKind_20 : decode cX4_keepKind 20 = .ok (.iconst 1, 1) := dn_4 (ob_cX4_keepKind_0 20 rfl rfl)
theorem dX4_keepKind_21 : decode cX4_keepKind 21 = .ok (.goto 4, 3) := dn_167 (ob_cX4_keepKind_0 21 rfl rfl) (by decide +kernel)
theorem dX4_keepKind_24 : decode cX4_keepKind 24 = .ok (.iconst 0, 1) := dn_3 (ob_cX4_keepKind_0 24 rfl rfl)
theorem dX4_keepKind_25 : decode cX4_keepKind 25 = .ok (.invokevirtual 73, 3) := dn_182 (ob_cX4_keepKind_0 25 rfl rfl) rfl
theorem dX4_keepKind_28 : decode cX4_keepKind 28 = .ok (.ifCond .eq 5, 3) := dn_153 (ob_cX4_keepKind_0 28 rfl rfl) (by decide +kernel)
theorem dX4_keepKind_31 : decode cX4_keepKind 31 = .ok (.iconst 0, 1) := dn_3 (ob_cX4_keepKind_0 31 rfl rfl)
theorem dX4_keepKind_32 : decode cX4_keepKind 32 = .ok (.ireturn, 1) := dn_172 (ob_cX4_keepKind_0 32 rfl rfl)
theorem dX4_keepKind_33 : decode cX4_keepKind 33 = .ok (.bipush 30, 2) := dn_16 (ob_cX4_keepKind_0 33 rfl rfl) (by decide +kernel)
theorem dX4_keepKind_35 : decode cX4_keepKind 35 = .ok (.newarray .boolean, 2) := by decide +kernel
theorem dX4_keepKind_37 : decode cX4_keepKind 37 = .ok (.astore 4, 2) := dn_58 (ob_cX4_keepKind_0 37 rfl rfl) rfl
theorem dX4_keepKind_39 : decode cX4_keepKind 39 = .ok (.iconst 0, 1) := dn_3 (ob_cX4_keepKind_0 39 rfl rfl)
theorem dX4_keepKind_40 : decode cX4_keepKind 40 = .ok (.istore 5, 2) := dn_54 (ob_cX4_keepKind_1 0 rfl rfl) rfl
theorem dX4_keepKind_42 : decode cX4_keepKind 42 = .ok (.iload 5, 2) := dn_21 (ob_cX4_keepKind_1 2 rfl rfl) rfl
theorem dX4_keepKind_44 : decode cX4_keepKind 44 = .ok (.aload_n 0, 1) := dn_42 (ob_cX4_keepKind_1 4 rfl rfl)
theorem dX4_keepKind_45 : decode cX4_keepKind 45 = .ok (.getfield 18, 3) := dn_180 (ob_cX4_keepKind_1 5 rfl rfl) rfl
theorem dX4_keepKind_48 : decode cX4_keepKind 48 = .ok (.iload_n 1, 1) := dn_27 (ob_cX4_keepKind_1 8 rfl rfl)
theorem dX4_keepKind_49 : decode cX4_keepKind 49 = .ok (.iaload, 1) := dn_46 (ob_cX4_keepKind_1 9 rfl rfl)
theorem dX4_keepKind_50 : decode cX4_keepKind 50 = .ok (.if_icmp .ge 46, 3) := dn_162 (ob_cX4_keepKind_1 10 rfl rfl) (by decide +kernel)
theorem dX4_keepKind_53 : decode cX4_keepKind 53 = .ok (.aload 4, 2) := dn_25 (ob_cX4_keepKind_1 13 rfl rfl) rfl
theorem dX4_keepKind_55 : decode cX4_keepKind 55 = .ok (.iload 5, 2) := dn_21 (ob_cX4_keepKind_1 15 rfl rfl) rfl
theorem dX4_keepKind_57 : decode cX4_keepKind 57 = .ok (.aload_n 0, 1) := dn_42 (ob_cX4_keepKind_1 17 rfl rfl)
theorem dX4_keepKind_58 : decode cX4_keepKind 58 = .ok (.getfield 7, 3) := dn_180 (ob_cX4_keepKind_1 18 rfl rfl) rfl
theorem dX4_keepKind_61 : decode cX4_keepKind 61 = .ok (.aload_n 0, 1) := dn_42 (ob_cX4_keepKind_1 21 rfl rfl)
theorem dX4_keepKind_62 : decode cX4_keepKind 62 = .ok (.getfield 15, 3) := dn_180 (ob_cX4_keepKind_1 22 rfl rfl) rfl
theorem dX4_keepKind_65 : decode cX4_keepKind 65 = .ok (.iload_n 1, 1) := dn_27 (ob_cX4_keepKind_1 25 rfl rfl)
theorem dX4_keepKind_66 : decode cX4_keepKind 66 = .ok (.aaload, 1) := dn_50 (ob_cX4_keepKind_1 26 rfl rfl)
theorem dX4_keepKind_67 : decode cX4_keepKind 67 = .ok (.iload 5, 2) := dn_21 (ob_cX4_keepKind_1 27 rfl rfl) rfl
theorem dX4_keepKind_69 : decode cX4_keepKind 69 = .ok (.iaload, 1) := dn_46 (ob_cX4_keepKind_1 29 rfl rfl)
theorem dX4_keepKind_70 : decode cX4_keepKind 70 = .ok (.iaload, 1) := dn_46 (ob_cX4_keepKind_1 30 rfl rfl)
theorem dX4_keepKind_71 : decode cX4_keepKind 71 = .ok (.iload_n 2, 1) := dn_28 (ob_cX4_keepKind_1 31 rfl rfl)
theorem dX4_keepKind_72 : decode cX4_keepKind 72 = .ok (.if_icmp .ne 7, 3) := dn_160 (ob_cX4_keepKind_1 32 rfl rfl) (by decide +kernel)
theorem dX4_keepKind_75 : decode cX4_keepKind 75 = .ok (.iconst 1, 1) := dn_4 (ob_cX4_keepKind_1 35 rfl rfl)
theorem dX4_keepKind_76 : decode cX4_keepKind 76 = .ok (.goto 4, 3) := dn_167 (ob_cX4_keepKind_1 36 rfl rfl) (by decide +kernel)
theorem dX4_keepKind_79 : decode cX4_keepKind 79 = .ok (.iconst 0, 1) := dn_3 (ob_cX4_keepKind_1 39 rfl rfl)
theorem dX4_keepKind_80 : decode cX4_keepKind 80 = .ok (.iload_n 3, 1) := dn_29 (ob_cX4_keepKind_2 0 rfl rfl)
theorem dX4_keepKind_81 : decode cX4_keepKind 81 = .ok (.if_icmp .ne 7, 3) := dn_160 (ob_cX4_keepKind_2 1 rfl rfl) (by decide +kernel)
theorem dX4_keepKind_84 : decode cX4_keepKind 84 = .ok (.iconst 1, 1) := dn_4 (ob_cX4_keepKind_2 4 rfl rfl)
theorem dX4_keepKind_85 : decode cX4_keepKind 85 = .ok (.goto 4, 3) := dn_167 (ob_cX4_keepKind_2 5 rfl rfl) (by decide +kernel)
theorem dX4_keepKind_88 : decode cX4_keepKind 88 = .ok (.iconst 0, 1) := dn_3 (ob_cX4_keepKind_2 8 rfl rfl)
theorem dX4_keepKind_89 : decode cX4_keepKind 89 = .ok (.bastore, 1) := dn_84 (ob_cX4_keepKind_2 9 rfl rfl)
theorem dX4_keepKind_90 : decode cX4_keepKind 90 = .ok (.iinc 5 1, 3) := dn_132 (ob_cX4_keepKind_2 10 rfl rfl) rfl (by decide +kernel)
theorem dX4_keepKind_93 : decode cX4_keepKind 93 = .ok (.goto (-51), 3) := dn_167 (ob_cX4_keepKind_2 13 rfl rfl) (by decide +kernel)
theorem dX4_keepKind_96 : decode cX4_keepKind 96 = .ok (.aload_n 0, 1) := dn_42 (ob_cX4_keepKind_2 16 rfl rfl)
theorem dX4_keepKind_97 : decode cX4_keepKind 97 = .ok (.iload_n 1, 1) := dn_27 (ob_cX4_keepKind_2 17 rfl rfl)
theorem dX4_keepKind_98 : decode cX4_keepKind 98 = .ok (.aload 4, 2) := dn_25 (ob_cX4_keepKind_2 18 rfl rfl) rfl
theorem dX4_keepKind_100 : decode cX4_keepKind 100 = .ok (.invokevirtual 110, 3) := dn_182 (ob_cX4_keepKind_2 20 rfl rfl) rfl
theorem dX4_keepKind_103 : decode cX4_keepKind 103 = .ok (.ireturn, 1) := dn_172 (ob_cX4_keepKind_2 23 rfl rfl)
def kb_cX4_take_0 : List UInt8 := [42, 27, 184, 0, 70, 153, 0, 23, 29, 184, 0, 70, 153, 0, 16, 28, 155, 0, 12, 42, 27, 28, 182, 0, 117, 156, 0, 7, 4, 167, 0, 4, 3, 182, 0, 100, 153, 0, 5, 3]
def kb_cX4_take_1 : List UInt8 := [172, 42, 27, 28, 182, 0, 117, 54, 4, 42, 27, 21, 4, 182, 0, 61, 54, 5, 16, 30, 188, 10, 58, 6, 3, 54, 7, 21, 7, 21, 5, 162, 0, 26, 25, 6, 21, 7, 42, 180, 0, 15]
def kb_cX4_take_2 : List UInt8 := [27, 50, 21, 4, 21, 7, 96, 46, 79, 132, 7, 1, 167, 255, 229, 42, 29, 25, 6, 21, 5, 182, 0, 103, 42, 21, 5, 182, 0, 92, 172]
def tb_cX4_take_3 : List UInt8 := []
def tb_cX4_take_2 : List UInt8 := kb_cX4_take_2 ++ tb_cX4_take_3
def tb_cX4_take_1 : List UInt8 := kb_cX4_take_1 ++ tb_cX4_take_2
def tb_cX4_take_0 : List UInt8 := kb_cX4_take_0 ++ tb_cX4_take_1
set_option maxRecDepth 100000 in
theorem tb_cX4_take : (cX4_take).data.toList = tb_cX4_take_0 := eqL_eq (by decide +kernel)
theorem ow_cX4_take_0 (r : Nat) : (cX4_take).data.toList.drop (0 + r) = tb_cX4_take_0.drop r := by rw [tb_cX4_take, Nat.zero_add]
theorem ow_cX4_take_1 (r : Nat) : (cX4_take).data.toList.drop (40 + r) = tb_cX4_take_1.drop r := by
  have e := ow_cX4_take_0 (40 + r)
  rw [show 0 + (40 + r) = 40 + r by omega] at e
  exact e.trans (dr_len (a := kb_cX4_take_0) (t := tb_cX4_take_1) (by decide +kernel))
theorem ow_cX4_take_2 (r : Nat) : (cX4_take).data.toList.drop (82 + r) = tb_cX4_take_2.drop r := by
  have e := ow_cX4_take_1 (42 + r)
  rw [show 40 + (42 + r) = 82 + r by omega] at e
  exact e.trans (dr_len (a := kb_cX4_take_1) (t := tb_cX4_take_2) (by decide +kernel))
theorem ob_cX4_take_0 (r : Nat) {pc : Nat} {l : List UInt8} (hp : 0 + r = pc) (h : tb_cX4_take_0.drop r = l) : (cX4_take).data.toList.drop pc = l := by
  subst hp
  exact (ow_cX4_take_0 r).trans h
theorem ob_cX4_take_1 (r : Nat) {pc : Nat} {l : List UInt8} (hp : 40 + r = pc) (h : tb_cX4_take_1.drop r = l) : (cX4_take).data.toList.drop pc = l := by
  subst hp
  exact (ow_cX4_take_1 r).trans h
theorem ob_cX4_take_2 (r : Nat) {pc : Nat} {l : List UInt8} (hp : 82 + r = pc) (h : tb_cX4_take_2.drop r = l) : (cX4_take).data.toList.drop pc = l := by
  subst hp
  exact (ow_cX4_take_2 r).trans h
theorem dX4_take_0 : decode cX4_take 0 = .ok (.aload_n 0, 1) := dn_42 (ob_cX4_take_0 0 rfl rfl)
theorem dX4_take_1 : decode cX4_take 1 = .ok (.iload_n 1, 1) := dn_27 (ob_cX4_take_0 1 rfl rfl)
theorem dX4_take_2 : decode cX4_take 2 = .ok (.invokestatic 70, 3) := dn_184 (ob_cX4_take_0 2 rfl rfl) rfl
theorem dX4_take_5 : decode cX4_take 5 = .ok (.ifCond .eq 23, 3) := dn_153 (ob_cX4_take_0 5 rfl rfl) (by decide +kernel)
theorem dX4_take_8 : decode cX4_take 8 = .ok (.iload_n 3, 1) := dn_29 (ob_cX4_take_0 8 rfl rfl)
theorem dX4_take_9 : decode cX4_take 9 = .ok (.invokestatic 70, 3) := dn_184 (ob_cX4_take_0 9 rfl rfl) rfl
theorem dX4_take_12 : decode cX4_take 12 = .ok (.ifCond .eq 16, 3) := dn_153 (ob_cX4_take_0 12 rfl rfl) (by decide +kernel)
theorem dX4_take_15 : decode cX4_take 15 = .ok (.iload_n 2, 1) := dn_28 (ob_cX4_take_0 15 rfl rfl)
theorem dX4_take_16 : decode cX4_take 16 = .ok (.ifCond .lt 12, 3) := dn_155 (ob_cX4_take_0 16 rfl rfl) (by decide +kernel)
theorem dX4_take_19 : decode cX4_take 19 = .ok (.aload_n 0, 1) := dn_42 (ob_cX4_take_0 19 rfl rfl)
theorem dX4_take_20 : decode cX4_take 20 = .ok (.iload_n 1, 1) := dn_27 (ob_cX4_take_0 20 rfl rfl)
theorem dX4_take_21 : decode cX4_take 21 = .ok (.iload_n 2, 1) := dn_28 (ob_cX4_take_0 21 rfl rfl)
theorem dX4_take_22 : decode cX4_take 22 = .ok (.invokevirtual 117, 3) := dn_182 (ob_cX4_take_0 22 rfl rfl) rfl
theorem dX4_take_25 : decode cX4_take 25 = .ok (.ifCond .ge 7, 3) := dn_156 (ob_cX4_take_0 25 rfl rfl) (by decide +kernel)
theorem dX4_take_28 : decode cX4_take 28 = .ok (.iconst 1, 1) := dn_4 (ob_cX4_take_0 28 rfl rfl)
theorem dX4_take_29 : decode cX4_take 29 = .ok (.goto 4, 3) := dn_167 (ob_cX4_take_0 29 rfl rfl) (by decide +kernel)
theorem dX4_take_32 : decode cX4_take 32 = .ok (.iconst 0, 1) := dn_3 (ob_cX4_take_0 32 rfl rfl)
theorem dX4_take_33 : decode cX4_take 33 = .ok (.invokevirtual 100, 3) := dn_182 (ob_cX4_take_0 33 rfl rfl) rfl
theorem dX4_take_36 : decode cX4_take 36 = .ok (.ifCond .eq 5, 3) := dn_153 (ob_cX4_take_0 36 rfl rfl) (by decide +kernel)
theorem dX4_take_39 : decode cX4_take 39 = .ok (.iconst 0, 1) := dn_3 (ob_cX4_take_0 39 rfl rfl)
theorem dX4_take_40 : decode cX4_take 40 = .ok (.ireturn, 1) := dn_172 (ob_cX4_take_1 0 rfl rfl)
theorem dX4_take_41 : decode cX4_take 41 = .ok (.aload_n 0, 1) := dn_42 (ob_cX4_take_1 1 rfl rfl)
theorem dX4_take_42 : decode cX4_take 42 = .ok (.iload_n 1, 1) := dn_27 (ob_cX4_take_1 2 rfl rfl)
theorem dX4_take_43 : decode cX4_take 43 = .ok (.iload_n 2, 1) := dn_28 (ob_cX4_take_1 3 rfl rfl)
theorem dX4_take_44 : decode cX4_take 44 = .ok (.invokevirtual 117, 3) := dn_182 (ob_cX4_take_1 4 rfl rfl) rfl
theorem dX4_take_47 : decode cX4_take 47 = .ok (.istore 4, 2) := dn_54 (ob_cX4_take_1 7 rfl rfl) rfl
theorem dX4_take_49 : decode cX4_take 49 = .ok (.aload_n 0, 1) := dn_42 (ob_cX4_take_1 9 rfl rfl)
theorem dX4_take_50 : decode cX4_take 50 = .ok (.iload_n 1, 1) := dn_27 (ob_cX4_take_1 10 rfl rfl)
theorem dX4_take_51 : decode cX4_take 51 = .ok (.iload 4, 2) := dn_21 (ob_cX4_take_1 11 rfl rfl) rfl
theorem dX4_take_53 : decode cX4_take 53 = .ok (.invokevirtual 61, 3) := dn_182 (ob_cX4_take_1 13 rfl rfl) rfl
theorem dX4_take_56 : decode cX4_take 56 = .ok (.istore 5, 2) := dn_54 (ob_cX4_take_1 16 rfl rfl) rfl
theorem dX4_take_58 : decode cX4_take 58 = .ok (.bipush 30, 2) := dn_16 (ob_cX4_take_1 18 rfl rfl) (by decide +kernel)
theorem dX4_take_60 : decode cX4_take 60 = .ok (.newarray .int, 2) := by decide +kernel
theorem dX4_take_62 : decode cX4_take 62 = .ok (.astore 6, 2) := dn_58 (ob_cX4_take_1 22 rfl rfl) rfl
theorem dX4_take_64 : decode cX4_take 64 = .ok (.iconst 0, 1) := dn_3 (ob_cX4_take_1 24 rfl rfl)
theorem dX4_take_65 : decode cX4_take 65 = .ok (.istore 7, 2) := dn_54 (ob_cX4_take_1 25 rfl rfl) rfl
theorem dX4_take_67 : decode cX4_take 67 = .ok (.iload 7, 2) := dn_21 (ob_cX4_take_1 27 rfl rfl) rfl
theorem dX4_take_69 : decode cX4_take 69 = .ok (.iload 5, 2) := dn_21 (ob_cX4_take_1 29 rfl rfl) rfl
theorem dX4_take_71 : decode cX4_take 71 = .ok (.if_icmp .ge 26, 3) := dn_162 (ob_cX4_take_1 31 rfl rfl) (by decide +kernel)
theorem dX4_take_74 : decode cX4_take 74 = .ok (.aload 6, 2) := dn_25 (ob_cX4_take_1 34 rfl rfl) rfl
theorem dX4_take_76 : decode cX4_take 76 = .ok (.iload 7, 2) := dn_21 (ob_cX4_take_1 36 rfl rfl) rfl
theorem dX4_take_78 : decode cX4_take 78 = .ok (.aload_n 0, 1) := dn_42 (ob_cX4_take_1 38 rfl rfl)
theorem dX4_take_79 : decode cX4_take 79 = .ok (.getfield 15, 3) := dn_180 (ob_cX4_take_1 39 rfl rfl) rfl
theorem dX4_take_82 : decode cX4_take 82 = .ok (.iload_n 1, 1) := dn_27 (ob_cX4_take_2 0 rfl rfl)
theorem dX4_take_83 : decode cX4_take 83 = .ok (.aaload, 1) := dn_50 (ob_cX4_take_2 1 rfl rfl)
theorem dX4_take_84 : decode cX4_take 84 = .ok (.iload 4, 2) := dn_21 (ob_cX4_take_2 2 rfl rfl) rfl
theorem dX4_take_86 : decode cX4_take 86 = .ok (.iload 7, 2) := dn_21 (ob_cX4_take_2 4 rfl rfl) rfl
theorem dX4_take_88 : decode cX4_take 88 = .ok (.iadd, 1) := dn_96 (ob_cX4_take_2 6 rfl rfl)
theorem dX4_take_89 : decode cX4_take 89 = .ok (.iaload, 1) := dn_46 (ob_cX4_take_2 7 rfl rfl)
theorem dX4_take_90 : decode cX4_take 90 = .ok (.iastore, 1) := dn_79 (ob_cX4_take_2 8 rfl rfl)
theorem dX4_take_91 : decode cX4_take 91 = .ok (.iinc 7 1, 3) := dn_132 (ob_cX4_take_2 9 rfl rfl) rfl (by decide +kernel)
theorem dX4_take_94 : decode cX4_take 94 = .ok (.goto (-27), 3) := dn_167 (ob_cX4_take_2 12 rfl rfl) (by decide +kernel)
theorem dX4_take_97 : decode cX4_take 97 = .ok (.aload_n 0, 1) := dn_42 (ob_cX4_take_2 15 rfl rfl)
theorem dX4_take_98 : decode cX4_take 98 = .ok (.iload_n 3, 1) := dn_29 (ob_cX4_take_2 16 rfl rfl)
theorem dX4_take_99 : decode cX4_take 99 = .ok (.aload 6, 2) := dn_25 (ob_cX4_take_2 17 rfl rfl) rfl
theorem dX4_take_101 : decode cX4_take 101 = .ok (.iload 5, 2) := dn_21 (ob_cX4_take_2 19 rfl rfl) rfl
theorem dX4_take_103 : decode cX4_take 103 = .ok (.invokevirtual 103, 3) := dn_182 (ob_cX4_take_2 21 rfl rfl) rfl
theorem dX4_take_106 : decode cX4_take 106 = .ok (.aload_n 0, 1) := dn_42 (ob_cX4_take_2 24 rfl rfl)
theorem dX4_take_107 : decode cX4_take 107 = .ok (.iload 5, 2) := dn_21 (ob_cX4_take_2 25 rfl rfl) rfl
theorem dX4_take_109 : decode cX4_take 109 = .ok (.invokevirtual 92, 3) := dn_182 (ob_cX4_take_2 27 rfl rfl) rfl
theorem dX4_take_112 : decode cX4_take 112 = .ok (.ireturn, 1) := dn_172 (ob_cX4_take_2 30 rfl rfl)
def kb_cX4_mend_0 : List UInt8 := [42, 27, 184, 0, 70, 154, 0, 7, 4, 167, 0, 4, 3, 182, 0, 100, 153, 0, 5, 3, 172, 16, 30, 188, 4, 77, 16, 11, 62, 3, 54, 4, 21, 4, 42, 180, 0, 18, 27, 46]
def kb_cX4_mend_1 : List UInt8 := [162, 0, 37, 44, 21, 4, 42, 42, 180, 0, 15, 27, 50, 21, 4, 46, 29, 182, 0, 45, 84, 44, 21, 4, 51, 153, 0, 6, 16, 12, 62, 132, 4, 1, 167, 255, 214, 42, 27, 44]
def kb_cX4_mend_2 : List UInt8 := [182, 0, 110, 172]
def tb_cX4_mend_3 : List UInt8 := []
def tb_cX4_mend_2 : List UInt8 := kb_cX4_mend_2 ++ tb_cX4_mend_3
def tb_cX4_mend_1 : List UInt8 := kb_cX4_mend_1 ++ tb_cX4_mend_2
def tb_cX4_mend_0 : List UInt8 := kb_cX4_mend_0 ++ tb_cX4_mend_1
set_option maxRecDepth 100000 in
theorem tb_cX4_mend : (cX4_mend).data.toList = tb_cX4_mend_0 := eqL_eq (by decide +kernel)
theorem ow_cX4_mend_0 (r : Nat) : (cX4_mend).data.toList.drop (0 + r) = tb_cX4_mend_0.drop r := by rw [tb_cX4_mend, Nat.zero_add]
theorem ow_cX4_mend_1 (r : Nat) : (cX4_mend).data.toList.drop (40 + r) = tb_cX4_mend_1.drop r := by
  have e := ow_cX4_mend_0 (40 + r)
  rw [show 0 + (40 + r) = 40 + r by omega] at e
  exact e.trans (dr_len (a := kb_cX4_mend_0) (t := tb_cX4_mend_1) (by decide +kernel))
theorem ow_cX4_mend_2 (r : Nat) : (cX4_mend).data.toList.drop (80 + r) = tb_cX4_mend_2.drop r := by
  have e := ow_cX4_mend_1 (40 + r)
  rw [show 40 + (40 + r) = 80 + r by omega] at e
  exact e.trans (dr_len (a := kb_cX4_mend_1) (t := tb_cX4_mend_2) (by decide +kernel))
theorem ob_cX4_mend_0 (r : Nat) {pc : Nat} {l : List UInt8} (hp : 0 + r = pc) (h : tb_cX4_mend_0.drop r = l) : (cX4_mend).data.toList.drop pc = l := by
  subst hp
  exact (ow_cX4_mend_0 r).trans h
theorem ob_cX4_mend_1 (r : Nat) {pc : Nat} {l : List UInt8} (hp : 40 + r = pc) (h : tb_cX4_mend_1.drop r = l) : (cX4_mend).data.toList.drop pc = l := by
  subst hp
  exact (ow_cX4_mend_1 r).trans h
theorem ob_cX4_mend_2 (r : Nat) {pc : Nat} {l : List UInt8} (hp : 80 + r = pc) (h : tb_cX4_mend_2.drop r = l) : (cX4_mend).data.toList.drop pc = l := by
  subst hp
  exact (ow_cX4_mend_2 r).trans h
theorem dX4_mend_0 : decode cX4_mend 0 = .ok (.aload_n 0, 1) := dn_42 (ob_cX4_mend_0 0 rfl rfl)
theorem dX4_mend_1 : decode cX4_mend 1 = .ok (.iload_n 1, 1) := dn_27 (ob_cX4_mend_0 1 rfl rfl)
theorem dX4_mend_2 : decode cX4_mend 2 = .ok (.invokestatic 70, 3) := dn_184 (ob_cX4_mend_0 2 rfl rfl) rfl
theorem dX4_mend_5 : decode cX4_mend 5 = .ok (.ifCond .ne 7, 3) := dn_154 (ob_cX4_mend_0 5 rfl rfl) (by decide +kernel)
theorem dX4_mend_8 : decode cX4_mend 8 = .ok (.iconst 1, 1) := dn_4 (ob_cX4_mend_0 8 rfl rfl)
theorem dX4_mend_9 : decode cX4_mend 9 = .ok (.goto 4, 3) := dn_167 (ob_cX4_mend_0 9 rfl rfl) (by decide +kernel)
theorem dX4_mend_12 : decode cX4_mend 12 = .ok (.iconst 0, 1) := dn_3 (ob_cX4_mend_0 12 rfl rfl)
theorem dX4_mend_13 : decode cX4_mend 13 = .ok (.invokevirtual 100, 3) := dn_182 (ob_cX4_mend_0 13 rfl rfl) rfl
theorem dX4_mend_16 : decode cX4_mend 16 = .ok (.ifCond .eq 5, 3) := dn_153 (ob_cX4_mend_0 16 rfl rfl) (by decide +kernel)
theorem dX4_mend_19 : decode cX4_mend 19 = .ok (.iconst 0, 1) := dn_3 (ob_cX4_mend_0 19 rfl rfl)
theorem dX4_mend_20 : decode cX4_mend 20 = .ok (.ireturn, 1) := dn_172 (ob_cX4_mend_0 20 rfl rfl)
theorem dX4_mend_21 : decode cX4_mend 21 = .ok (.bipush 30, 2) := dn_16 (ob_cX4_mend_0 21 rfl rfl) (by decide +kernel)
theorem dX4_mend_23 : decode cX4_mend 23 = .ok (.newarray .boolean, 2) := by decide +kernel
theorem dX4_mend_25 : decode cX4_mend 25 = .ok (.astore_n 2, 1) := dn_77 (ob_cX4_mend_0 25 rfl rfl)
theorem dX4_mend_26 : decode cX4_mend 26 = .ok (.bipush 11, 2) := dn_16 (ob_cX4_mend_0 26 rfl rfl) (by decide +kernel)
theorem dX4_mend_28 : decode cX4_mend 28 = .ok (.istore_n 3, 1) := dn_62 (ob_cX4_mend_0 28 rfl rfl)
theorem dX4_mend_29 : decode cX4_mend 29 = .ok (.iconst 0, 1) := dn_3 (ob_cX4_mend_0 29 rfl rfl)
theorem dX4_mend_30 : decode cX4_mend 30 = .ok (.istore 4, 2) := dn_54 (ob_cX4_mend_0 30 rfl rfl) rfl
theorem dX4_mend_32 : decode cX4_mend 32 = .ok (.iload 4, 2) := dn_21 (ob_cX4_mend_0 32 rfl rfl) rfl
theorem dX4_mend_34 : decode cX4_mend 34 = .ok (.aload_n 0, 1) := dn_42 (ob_cX4_mend_0 34 rfl rfl)
theorem dX4_mend_35 : decode cX4_mend 35 = .ok (.getfield 18, 3) := dn_180 (ob_cX4_mend_0 35 rfl rfl) rfl
theorem dX4_mend_38 : decode cX4_mend 38 = .ok (.iload_n 1, 1) := dn_27 (ob_cX4_mend_0 38 rfl rfl)
theorem dX4_mend_39 : decode cX4_mend 39 = .ok (.iaload, 1) := dn_46 (ob_cX4_mend_0 39 rfl rfl)
theorem dX4_mend_40 : decode cX4_mend 40 = .ok (.if_icmp .ge 37, 3) := dn_162 (ob_cX4_mend_1 0 rfl rfl) (by decide +kernel)
theorem dX4_mend_43 : decode cX4_mend 43 = .ok (.aload_n 2, 1) := dn_44 (ob_cX4_mend_1 3 rfl rfl)
theorem dX4_mend_44 : decode cX4_mend 44 = .ok (.iload 4, 2) := dn_21 (ob_cX4_mend_1 4 rfl rfl) rfl
theorem dX4_mend_46 : decode cX4_mend 46 = .ok (.aload_n 0, 1) := dn_42 (ob_cX4_mend_1 6 rfl rfl)
theorem dX4_mend_47 : decode cX4_mend 47 = .ok (.aload_n 0, 1) := dn_42 (ob_cX4_mend_1 7 rfl rfl)
theorem dX4_mend_48 : decode cX4_mend 48 = .ok (.getfield 15, 3) := dn_180 (ob_cX4_mend_1 8 rfl rfl) rfl
theorem dX4_mend_51 : decode cX4_mend 51 = .ok (.iload_n 1, 1) := dn_27 (ob_cX4_mend_1 11 rfl rfl)
theorem dX4_mend_52 : decode cX4_mend 52 = .ok (.aaload, 1) := dn_50 (ob_cX4_mend_1 12 rfl rfl)
theorem dX4_mend_53 : decode cX4_mend 53 = .ok (.iload 4, 2) := dn_21 (ob_cX4_mend_1 13 rfl rfl) rfl
theorem dX4_mend_55 : decode cX4_mend 55 = .ok (.iaload, 1) := dn_46 (ob_cX4_mend_1 15 rfl rfl)
theorem dX4_mend_56 : decode cX4_mend 56 = .ok (.iload_n 3, 1) := dn_29 (ob_cX4_mend_1 16 rfl rfl)
theorem dX4_mend_57 : decode cX4_mend 57 = .ok (.invokevirtual 45, 3) := dn_182 (ob_cX4_mend_1 17 rfl rfl) rfl
theorem dX4_mend_60 : decode cX4_mend 60 = .ok (.bastore, 1) := dn_84 (ob_cX4_mend_1 20 rfl rfl)
theorem dX4_mend_61 : decode cX4_mend 61 = .ok (.aload_n 2, 1) := dn_44 (ob_cX4_mend_1 21 rfl rfl)
theorem dX4_mend_62 : decode cX4_mend 62 = .ok (.iload 4, 2) := dn_21 (ob_cX4_mend_1 22 rfl rfl) rfl
theorem dX4_mend_64 : decode cX4_mend 64 = .ok (.baload, 1) := dn_51 (ob_cX4_mend_1 24 rfl rfl)
theorem dX4_mend_65 : decode cX4_mend 65 = .ok (.ifCond .eq 6, 3) := dn_153 (ob_cX4_mend_1 25 rfl rfl) (by decide +kernel)
theorem dX4_mend_68 : decode cX4_mend 68 = .ok (.bipush 12, 2) := dn_16 (ob_cX4_mend_1 28 rfl rfl) (by decide +kernel)
theorem dX4_mend_70 : decode cX4_mend 70 = .ok (.istore_n 3, 1) := dn_62 (ob_cX4_mend_1 30 rfl rfl)
theorem dX4_mend_71 : decode cX4_mend 71 = .ok (.iinc 4 1, 3) := dn_132 (ob_cX4_mend_1 31 rfl rfl) rfl (by decide +kernel)
theorem dX4_mend_74 : decode cX4_mend 74 = .ok (.goto (-42), 3) := dn_167 (ob_cX4_mend_1 34 rfl rfl) (by decide +kernel)
theorem dX4_mend_77 : decode cX4_mend 77 = .ok (.aload_n 0, 1) := dn_42 (ob_cX4_mend_1 37 rfl rfl)
theorem dX4_mend_78 : decode cX4_mend 78 = .ok (.iload_n 1, 1) := dn_27 (ob_cX4_mend_1 38 rfl rfl)
theorem dX4_mend_79 : decode cX4_mend 79 = .ok (.aload_n 2, 1) := dn_44 (ob_cX4_mend_1 39 rfl rfl)
theorem dX4_mend_80 : decode cX4_mend 80 = .ok (.invokevirtual 110, 3) := dn_182 (ob_cX4_mend_2 0 rfl rfl) rfl
theorem dX4_mend_83 : decode cX4_mend 83 = .ok (.ireturn, 1) := dn_172 (ob_cX4_mend_2 3 rfl rfl)
def kb_cX4_kind : List UInt8 := [42, 27, 184, 0, 83, 154, 0, 7, 4, 167, 0, 4, 3, 182, 0, 100, 153, 0, 7, 3, 167, 0, 9, 42, 180, 0, 7, 27, 46, 172]
set_option maxRecDepth 10000 in
theorem ob_cX4_kind (r : Nat) {l : List UInt8} (h : kb_cX4_kind.drop r = l) : (cX4_kind).data.toList.drop r = l := by
  rw [show (cX4_kind).data.toList = kb_cX4_kind from eqL_eq (by decide +kernel)]
  exact h
theorem dX4_kind_0 : decode cX4_kind 0 = .ok (.aload_n 0, 1) := dn_42 (ob_cX4_kind 0 rfl)
theorem dX4_kind_1 : decode cX4_kind 1 = .ok (.iload_n 1, 1) := dn_27 (ob_cX4_kind 1 rfl)
theorem dX4_kind_2 : decode cX4_kind 2 = .ok (.invokestatic 83, 3) := dn_184 (ob_cX4_kind 2 rfl) rfl
theorem dX4_kind_5 : decode cX4_kind 5 = .ok (.ifCond .ne 7, 3) := dn_154 (ob_cX4_kind 5 rfl) (by decide +kernel)
theorem dX4_kind_8 : decode cX4_kind 8 = .ok (.iconst 1, 1) := dn_4 (ob_cX4_kind 8 rfl)
theorem dX4_kind_9 : decode cX4_kind 9 = .ok (.goto 4, 3) := dn_167 (ob_cX4_kind 9 rfl) (by decide +kernel)
theorem dX4_kind_12 : decode cX4_kind 12 = .ok (.iconst 0, 1) := dn_3 (ob_cX4_kind 12 rfl)
theorem dX4_kind_13 : decode cX4_kind 13 = .ok (.invokevirtual 100, 3) := dn_182 (ob_cX4_kind 13 rfl) rfl
theorem dX4_kind_16 : decode cX4_kind 16 = .ok (.ifCond .eq 7, 3) := dn_153 (ob_cX4_kind 16 rfl) (by decide +kernel)
theorem dX4_kind_19 : decode cX4_kind 19 = .ok (.iconst 0, 1) := dn_3 (ob_cX4_kind 19 rfl)
theorem dX4_kind_20 : decode cX4_kind 20 = .ok (.goto 9, 3) := dn_167 (ob_cX4_kind 20 rfl) (by decide +kernel)
theorem dX4_kind_23 : decode cX4_kind 23 = .ok (.aload_n 0, 1) := dn_42 (ob_cX4_kind 23 rfl)
theorem dX4_kind_24 : decode cX4_kind 24 = .ok (.getfield 7, 3) := dn_180 (ob_cX4_kind 24 rfl) rfl
theorem dX4_kind_27 : decode cX4_kind 27 = .ok (.iload_n 1, 1) := dn_27 (ob_cX4_kind 27 rfl)
theorem dX4_kind_28 : decode cX4_kind 28 = .ok (.iaload, 1) := dn_46 (ob_cX4_kind 28 rfl)
theorem dX4_kind_29 : decode cX4_kind 29 = .ok (.ireturn, 1) := dn_172 (ob_cX4_kind 29 rfl)
def kb_cX4_ask_0 : List UInt8 := [42, 27, 184, 0, 83, 153, 0, 10, 28, 184, 0, 107, 154, 0, 7, 4, 167, 0, 4, 3, 182, 0, 100, 154, 0, 16, 42, 27, 28, 182, 0, 45, 153, 0, 7, 4, 167, 0, 4, 3]
def kb_cX4_ask_1 : List UInt8 := [172]
def tb_cX4_ask_2 : List UInt8 := []
def tb_cX4_ask_1 : List UInt8 := kb_cX4_ask_1 ++ tb_cX4_ask_2
def tb_cX4_ask_0 : List UInt8 := kb_cX4_ask_0 ++ tb_cX4_ask_1
set_option maxRecDepth 100000 in
theorem tb_cX4_ask : (cX4_ask).data.toList = tb_cX4_ask_0 := eqL_eq (by decide +kernel)
theorem ow_cX4_ask_0 (r : Nat) : (cX4_ask).data.toList.drop (0 + r) = tb_cX4_ask_0.drop r := by rw [tb_cX4_ask, Nat.zero_add]
theorem ow_cX4_ask_1 (r : Nat) : (cX4_ask).data.toList.drop (40 + r) = tb_cX4_ask_1.drop r := by
  have e := ow_cX4_ask_0 (40 + r)
  rw [show 0 + (40 + r) = 40 + r by omega] at e
  exact e.trans (dr_len (a := kb_cX4_ask_0) (t := tb_cX4_ask_1) (by decide +kernel))
theorem ob_cX4_ask_0 (r : Nat) {pc : Nat} {l : List UInt8} (hp : 0 + r = pc) (h : tb_cX4_ask_0.drop r = l) : (cX4_ask).data.toList.drop pc = l := by
  subst hp
  exact (ow_cX4_ask_0 r).trans h
theorem ob_cX4_ask_1 (r : Nat) {pc : Nat} {l : List UInt8} (hp : 40 + r = pc) (h : tb_cX4_ask_1.drop r = l) : (cX4_ask).data.toList.drop pc = l := by
  subst hp
  exact (ow_cX4_ask_1 r).trans h
theorem dX4_ask_0 : decode cX4_ask 0 = .ok (.aload_n 0, 1) := dn_42 (ob_cX4_ask_0 0 rfl rfl)
theorem dX4_ask_1 : decode cX4_ask 1 = .ok (.iload_n 1, 1) := dn_27 (ob_cX4_ask_0 1 rfl rfl)
theorem dX4_ask_2 : decode cX4_ask 2 = .ok (.invokestatic 83, 3) := dn_184 (ob_cX4_ask_0 2 rfl rfl) rfl
theorem dX4_ask_5 : decode cX4_ask 5 = .ok (.ifCond .eq 10, 3) := dn_153 (ob_cX4_ask_0 5 rfl rfl) (by decide +kernel)
theorem dX4_ask_8 : decode cX4_ask 8 = .ok (.iload_n 2, 1) := dn_28 (ob_cX4_ask_0 8 rfl rfl)
theorem dX4_ask_9 : decode cX4_ask 9 = .ok (.invokestatic 107, 3) := dn_184 (ob_cX4_ask_0 9 rfl rfl) rfl
theorem dX4_ask_12 : decode cX4_ask 12 = .ok (.ifCond .ne 7, 3) := dn_154 (ob_cX4_ask_0 12 rfl rfl) (by decide +kernel)
theorem dX4_ask_15 : decode cX4_ask 15 = .ok (.iconst 1, 1) := dn_4 (ob_cX4_ask_0 15 rfl rfl)
theorem dX4_ask_16 : decode cX4_ask 16 = .ok (.goto 4, 3) := dn_167 (ob_cX4_ask_0 16 rfl rfl) (by decide +kernel)
theorem dX4_ask_19 : decode cX4_ask 19 = .ok (.iconst 0, 1) := dn_3 (ob_cX4_ask_0 19 rfl rfl)
theorem dX4_ask_20 : decode cX4_ask 20 = .ok (.invokevirtual 100, 3) := dn_182 (ob_cX4_ask_0 20 rfl rfl) rfl
theorem dX4_ask_23 : decode cX4_ask 23 = .ok (.ifCond .ne 16, 3) := dn_154 (ob_cX4_ask_0 23 rfl rfl) (by decide +kernel)
theorem dX4_ask_26 : decode cX4_ask 26 = .ok (.aload_n 0, 1) := dn_42 (ob_cX4_ask_0 26 rfl rfl)
theorem dX4_ask_27 : decode cX4_ask 27 = .ok (.iload_n 1, 1) := dn_27 (ob_cX4_ask_0 27 rfl rfl)
theorem dX4_ask_28 : decode cX4_ask 28 = .ok (.iload_n 2, 1) := dn_28 (ob_cX4_ask_0 28 rfl rfl)
theorem dX4_ask_29 : decode cX4_ask 29 = .ok (.invokevirtual 45, 3) := dn_182 (ob_cX4_ask_0 29 rfl rfl) rfl
theorem dX4_ask_32 : decode cX4_ask 32 = .ok (.ifCond .eq 7, 3) := dn_153 (ob_cX4_ask_0 32 rfl rfl) (by decide +kernel)
theorem dX4_ask_35 : decode cX4_ask 35 = .ok (.iconst 1, 1) := dn_4 (ob_cX4_ask_0 35 rfl rfl)
theorem dX4_ask_36 : decode cX4_ask 36 = .ok (.goto 4, 3) := dn_167 (ob_cX4_ask_0 36 rfl rfl) (by decide +kernel)
theorem dX4_ask_39 : decode cX4_ask 39 = .ok (.iconst 0, 1) := dn_3 (ob_cX4_ask_0 39 rfl rfl)
theorem dX4_ask_40 : decode cX4_ask 40 = .ok (.ireturn, 1) := dn_172 (ob_cX4_ask_1 0 rfl rfl)
def kb_cX4_all_0 : List UInt8 := [42, 27, 184, 0, 83, 154, 0, 7, 4, 167, 0, 4, 3, 182, 0, 100, 153, 0, 5, 3, 172, 3, 61, 3, 62, 29, 16, 14, 162, 0, 28, 28, 42, 27, 29, 182, 0, 45, 153, 0, 9]
def kb_cX4_all_1 : List UInt8 := [4, 29, 120, 167, 0, 4, 3, 128, 61, 132, 3, 1, 167, 255, 228, 28, 172]
def tb_cX4_all_2 : List UInt8 := []
def tb_cX4_all_1 : List UInt8 := kb_cX4_all_1 ++ tb_cX4_all_2
def tb_cX4_all_0 : List UInt8 := kb_cX4_all_0 ++ tb_cX4_all_1
set_option maxRecDepth 100000 in
theorem tb_cX4_all : (cX4_all).data.toList = tb_cX4_all_0 := eqL_eq (by decide +kernel)
theorem ow_cX4_all_0 (r : Nat) : (cX4_all).data.toList.drop (0 + r) = tb_cX4_all_0.drop r := by rw [tb_cX4_all, Nat.zero_add]
theorem ow_cX4_all_1 (r : Nat) : (cX4_all).data.toList.drop (41 + r) = tb_cX4_all_1.drop r := by
  have e := ow_cX4_all_0 (41 + r)
  rw [show 0 + (41 + r) = 41 + r by omega] at e
  exact e.trans (dr_len (a := kb_cX4_all_0) (t := tb_cX4_all_1) (by decide +kernel))
theorem ob_cX4_all_0 (r : Nat) {pc : Nat} {l : List UInt8} (hp : 0 + r = pc) (h : tb_cX4_all_0.drop r = l) : (cX4_all).data.toList.drop pc = l := by
  subst hp
  exact (ow_cX4_all_0 r).trans h
theorem ob_cX4_all_1 (r : Nat) {pc : Nat} {l : List UInt8} (hp : 41 + r = pc) (h : tb_cX4_all_1.drop r = l) : (cX4_all).data.toList.drop pc = l := by
  subst hp
  exact (ow_cX4_all_1 r).trans h
theorem dX4_all_0 : decode cX4_all 0 = .ok (.aload_n 0, 1) := dn_42 (ob_cX4_all_0 0 rfl rfl)
theorem dX4_all_1 : decode cX4_all 1 = .ok (.iload_n 1, 1) := dn_27 (ob_cX4_all_0 1 rfl rfl)
theorem dX4_all_2 : decode cX4_all 2 = .ok (.invokestatic 83, 3) := dn_184 (ob_cX4_all_0 2 rfl rfl) rfl
theorem dX4_all_5 : decode cX4_all 5 = .ok (.ifCond .ne 7, 3) := dn_154 (ob_cX4_all_0 5 rfl rfl) (by decide +kernel)
theorem dX4_all_8 : decode cX4_all 8 = .ok (.iconst 1, 1) := dn_4 (ob_cX4_all_0 8 rfl rfl)
theorem dX4_all_9 : decode cX4_all 9 = .ok (.goto 4, 3) := dn_167 (ob_cX4_all_0 9 rfl rfl) (by decide +kernel)
theorem dX4_all_12 : decode cX4_all 12 = .ok (.iconst 0, 1) := dn_3 (ob_cX4_all_0 12 rfl rfl)
theorem dX4_all_13 : decode cX4_all 13 = .ok (.invokevirtual 100, 3) := dn_182 (ob_cX4_all_0 13 rfl rfl) rfl
theorem dX4_all_16 : decode cX4_all 16 = .ok (.ifCond .eq 5, 3) := dn_153 (ob_cX4_all_0 16 rfl rfl) (by decide +kernel)
theorem dX4_all_19 : decode cX4_all 19 = .ok (.iconst 0, 1) := dn_3 (ob_cX4_all_0 19 rfl rfl)
theorem dX4_all_20 : decode cX4_all 20 = .ok (.ireturn, 1) := dn_172 (ob_cX4_all_0 20 rfl rfl)
theorem dX4_all_21 : decode cX4_all 21 = .ok (.iconst 0, 1) := dn_3 (ob_cX4_all_0 21 rfl rfl)
theorem dX4_all_22 : decode cX4_all 22 = .ok (.istore_n 2, 1) := dn_61 (ob_cX4_all_0 22 rfl rfl)
theorem dX4_all_23 : decode cX4_all 23 = .ok (.iconst 0, 1) := dn_3 (ob_cX4_all_0 23 rfl rfl)
theorem dX4_all_24 : decode cX4_all 24 = .ok (.istore_n 3, 1) := dn_62 (ob_cX4_all_0 24 rfl rfl)
theorem dX4_all_25 : decode cX4_all 25 = .ok (.iload_n 3, 1) := dn_29 (ob_cX4_all_0 25 rfl rfl)
theorem dX4_all_26 : decode cX4_all 26 = .ok (.bipush 14, 2) := dn_16 (ob_cX4_all_0 26 rfl rfl) (by decide +kernel)
theorem dX4_all_28 : decode cX4_all 28 = .ok (.if_icmp .ge 28, 3) := dn_162 (ob_cX4_all_0 28 rfl rfl) (by decide +kernel)
theorem dX4_all_31 : decode cX4_all 31 = .ok (.iload_n 2, 1) := dn_28 (ob_cX4_all_0 31 rfl rfl)
theorem dX4_all_32 : decode cX4_all 32 = .ok (.aload_n 0, 1) := dn_42 (ob_cX4_all_0 32 rfl rfl)
theorem dX4_all_33 : decode cX4_all 33 = .ok (.iload_n 1, 1) := dn_27 (ob_cX4_all_0 33 rfl rfl)
theorem dX4_all_34 : decode cX4_all 34 = .ok (.iload_n 3, 1) := dn_29 (ob_cX4_all_0 34 rfl rfl)
theorem dX4_all_35 : decode cX4_all 35 = .ok (.invokevirtual 45, 3) := dn_182 (ob_cX4_all_0 35 rfl rfl) rfl
theorem dX4_all_38 : decode cX4_all 38 = .ok (.ifCond .eq 9, 3) := dn_153 (ob_cX4_all_0 38 rfl rfl) (by decide +kernel)
theorem dX4_all_41 : decode cX4_all 41 = .ok (.iconst 1, 1) := dn_4 (ob_cX4_all_1 0 rfl rfl)
theorem dX4_all_42 : decode cX4_all 42 = .ok (.iload_n 3, 1) := dn_29 (ob_cX4_all_1 1 rfl rfl)
theorem dX4_all_43 : decode cX4_all 43 = .ok (.ishl, 1) := dn_120 (ob_cX4_all_1 2 rfl rfl)
theorem dX4_all_44 : decode cX4_all 44 = .ok (.goto 4, 3) := dn_167 (ob_cX4_all_1 3 rfl rfl) (by decide +kernel)
theorem dX4_all_47 : decode cX4_all 47 = .ok (.iconst 0, 1) := dn_3 (ob_cX4_all_1 6 rfl rfl)
theorem dX4_all_48 : decode cX4_all 48 = .ok (.ior, 1) := dn_128 (ob_cX4_all_1 7 rfl rfl)
theorem dX4_all_49 : decode cX4_all 49 = .ok (.istore_n 2, 1) := dn_61 (ob_cX4_all_1 8 rfl rfl)
theorem dX4_all_50 : decode cX4_all 50 = .ok (.iinc 3 1, 3) := dn_132 (ob_cX4_all_1 9 rfl rfl) rfl (by decide +kernel)
theorem dX4_all_53 : decode cX4_all 53 = .ok (.goto (-28), 3) := dn_167 (ob_cX4_all_1 12 rfl rfl) (by decide +kernel)
theorem dX4_all_56 : decode cX4_all 56 = .ok (.iload_n 2, 1) := dn_28 (ob_cX4_all_1 15 rfl rfl)
theorem dX4_all_57 : decode cX4_all 57 = .ok (.ireturn, 1) := dn_172 (ob_cX4_all_1 16 rfl rfl)
def kb_cX4_nth_0 : List UInt8 := [42, 27, 184, 0, 114, 153, 0, 14, 28, 155, 0, 10, 28, 17, 0, 255, 164, 0, 7, 4, 167, 0, 4, 3, 182, 0, 100, 153, 0, 5, 3, 172, 28, 62, 3, 54, 4, 21, 4, 17, 1, 0]
def kb_cX4_nth_1 : List UInt8 := [162, 0, 33, 42, 180, 0, 7, 21, 4, 46, 27, 159, 0, 6, 167, 0, 13, 29, 154, 0, 6, 21, 4, 172, 132, 3, 255, 132, 4, 1, 167, 255, 221, 2, 172]
def tb_cX4_nth_2 : List UInt8 := []
def tb_cX4_nth_1 : List UInt8 := kb_cX4_nth_1 ++ tb_cX4_nth_2
def tb_cX4_nth_0 : List UInt8 := kb_cX4_nth_0 ++ tb_cX4_nth_1
set_option maxRecDepth 100000 in
theorem tb_cX4_nth : (cX4_nth).data.toList = tb_cX4_nth_0 := eqL_eq (by decide +kernel)
theorem ow_cX4_nth_0 (r : Nat) : (cX4_nth).data.toList.drop (0 + r) = tb_cX4_nth_0.drop r := by rw [tb_cX4_nth, Nat.zero_add]
theorem ow_cX4_nth_1 (r : Nat) : (cX4_nth).data.toList.drop (42 + r) = tb_cX4_nth_1.drop r := by
  have e := ow_cX4_nth_0 (42 + r)
  rw [show 0 + (42 + r) = 42 + r by omega] at e
  exact e.trans (dr_len (a := kb_cX4_nth_0) (t := tb_cX4_nth_1) (by decide +kernel))
theorem ob_cX4_nth_0 (r : Nat) {pc : Nat} {l : List UInt8} (hp : 0 + r = pc) (h : tb_cX4_nth_0.drop r = l) : (cX4_nth).data.toList.drop pc = l := by
  subst hp
  exact (ow_cX4_nth_0 r).trans h
theorem ob_cX4_nth_1 (r : Nat) {pc : Nat} {l : List UInt8} (hp : 42 + r = pc) (h : tb_cX4_nth_1.drop r = l) : (cX4_nth).data.toList.drop pc = l := by
  subst hp
  exact (ow_cX4_nth_1 r).trans h
theorem dX4_nth_0 : decode cX4_nth 0 = .ok (.aload_n 0, 1) := dn_42 (ob_cX4_nth_0 0 rfl rfl)
theorem dX4_nth_1 : decode cX4_nth 1 = .ok (.iload_n 1, 1) := dn_27 (ob_cX4_nth_0 1 rfl rfl)
theorem dX4_nth_2 : decode cX4_nth 2 = .ok (.invokestatic 114, 3) := dn_184 (ob_cX4_nth_0 2 rfl rfl) rfl
theorem dX4_nth_5 : decode cX4_nth 5 = .ok (.ifCond .eq 14, 3) := dn_153 (ob_cX4_nth_0 5 rfl rfl) (by decide +kernel)
theorem dX4_nth_8 : decode cX4_nth 8 = .ok (.iload_n 2, 1) := dn_28 (ob_cX4_nth_0 8 rfl rfl)
theorem dX4_nth_9 : decode cX4_nth 9 = .ok (.ifCond .lt 10, 3) := dn_155 (ob_cX4_nth_0 9 rfl rfl) (by decide +kernel)
theorem dX4_nth_12 : decode cX4_nth 12 = .ok (.iload_n 2, 1) := dn_28 (ob_cX4_nth_0 12 rfl rfl)
theorem dX4_nth_13 : decode cX4_nth 13 = .ok (.sipush 255, 3) := dn_17 (ob_cX4_nth_0 13 rfl rfl) (by decide +kernel)
theorem dX4_nth_16 : decode cX4_nth 16 = .ok (.if_icmp .le 7, 3) := dn_164 (ob_cX4_nth_0 16 rfl rfl) (by decide +kernel)
theorem dX4_nth_19 : decode cX4_nth 19 = .ok (.iconst 1, 1) := dn_4 (ob_cX4_nth_0 19 rfl rfl)
theorem dX4_nth_20 : decode cX4_nth 20 = .ok (.goto 4, 3) := dn_167 (ob_cX4_nth_0 20 rfl rfl) (by decide +kernel)
theorem dX4_nth_23 : decode cX4_nth 23 = .ok (.iconst 0, 1) := dn_3 (ob_cX4_nth_0 23 rfl rfl)
theorem dX4_nth_24 : decode cX4_nth 24 = .ok (.invokevirtual 100, 3) := dn_182 (ob_cX4_nth_0 24 rfl rfl) rfl
theorem dX4_nth_27 : decode cX4_nth 27 = .ok (.ifCond .eq 5, 3) := dn_153 (ob_cX4_nth_0 27 rfl rfl) (by decide +kernel)
theorem dX4_nth_30 : decode cX4_nth 30 = .ok (.iconst 0, 1) := dn_3 (ob_cX4_nth_0 30 rfl rfl)
theorem dX4_nth_31 : decode cX4_nth 31 = .ok (.ireturn, 1) := dn_172 (ob_cX4_nth_0 31 rfl rfl)
theorem dX4_nth_32 : decode cX4_nth 32 = .ok (.iload_n 2, 1) := dn_28 (ob_cX4_nth_0 32 rfl rfl)
theorem dX4_nth_33 : decode cX4_nth 33 = .ok (.istore_n 3, 1) := dn_62 (ob_cX4_nth_0 33 rfl rfl)
theorem dX4_nth_34 : decode cX4_nth 34 = .ok (.iconst 0, 1) := dn_3 (ob_cX4_nth_0 34 rfl rfl)
theorem dX4_nth_35 : decode cX4_nth 35 = .ok (.istore 4, 2) := dn_54 (ob_cX4_nth_0 35 rfl rfl) rfl
theorem dX4_nth_37 : decode cX4_nth 37 = .ok (.iload 4, 2) := dn_21 (ob_cX4_nth_0 37 rfl rfl) rfl
theorem dX4_nth_39 : decode cX4_nth 39 = .ok (.sipush 256, 3) := dn_17 (ob_cX4_nth_0 39 rfl rfl) (by decide +kernel)
theorem dX4_nth_42 : decode cX4_nth 42 = .ok (.if_icmp .ge 33, 3) := dn_162 (ob_cX4_nth_1 0 rfl rfl) (by decide +kernel)
theorem dX4_nth_45 : decode cX4_nth 45 = .ok (.aload_n 0, 1) := dn_42 (ob_cX4_nth_1 3 rfl rfl)
theorem dX4_nth_46 : decode cX4_nth 46 = .ok (.getfield 7, 3) := dn_180 (ob_cX4_nth_1 4 rfl rfl) rfl
theorem dX4_nth_49 : decode cX4_nth 49 = .ok (.iload 4, 2) := dn_21 (ob_cX4_nth_1 7 rfl rfl) rfl
theorem dX4_nth_51 : decode cX4_nth 51 = .ok (.iaload, 1) := dn_46 (ob_cX4_nth_1 9 rfl rfl)
theorem dX4_nth_52 : decode cX4_nth 52 = .ok (.iload_n 1, 1) := dn_27 (ob_cX4_nth_1 10 rfl rfl)
theorem dX4_nth_53 : decode cX4_nth 53 = .ok (.if_icmp .eq 6, 3) := dn_159 (ob_cX4_nth_1 11 rfl rfl) (by decide +kernel)
theorem dX4_nth_56 : decode cX4_nth 56 = .ok (.goto 13, 3) := dn_167 (ob_cX4_nth_1 14 rfl rfl) (by decide +kernel)
theorem dX4_nth_59 : decode cX4_nth 59 = .ok (.iload_n 3, 1) := dn_29 (ob_cX4_nth_1 17 rfl rfl)
theorem dX4_nth_60 : decode cX4_nth 60 = .ok (.ifCond .ne 6, 3) := dn_154 (ob_cX4_nth_1 18 rfl rfl) (by decide +kernel)
theorem dX4_nth_63 : decode cX4_nth 63 = .ok (.iload 4, 2) := dn_21 (ob_cX4_nth_1 21 rfl rfl) rfl
theorem dX4_nth_65 : decode cX4_nth 65 = .ok (.ireturn, 1) := dn_172 (ob_cX4_nth_1 23 rfl rfl)
theorem dX4_nth_66 : decode cX4_nth 66 = .ok (.iinc 3 (-1), 3) := dn_132 (ob_cX4_nth_1 24 rfl rfl) rfl (by decide +kernel)
theorem dX4_nth_69 : decode cX4_nth 69 = .ok (.iinc 4 1, 3) := dn_132 (ob_cX4_nth_1 27 rfl rfl) rfl (by decide +kernel)
theorem dX4_nth_72 : decode cX4_nth 72 = .ok (.goto (-35), 3) := dn_167 (ob_cX4_nth_1 30 rfl rfl) (by decide +kernel)
theorem dX4_nth_75 : decode cX4_nth 75 = .ok (.iconst (-1), 1) := dn_2 (ob_cX4_nth_1 33 rfl rfl)
theorem dX4_nth_76 : decode cX4_nth 76 = .ok (.ireturn, 1) := dn_172 (ob_cX4_nth_1 34 rfl rfl)
def kb_cX4_next_0 : List UInt8 := [42, 27, 184, 0, 107, 153, 0, 10, 28, 184, 0, 83, 154, 0, 7, 4, 167, 0, 4, 3, 182, 0, 100, 153, 0, 5, 3, 172, 28, 54, 4, 21, 4, 17, 1, 0, 162, 0, 23, 42]
def kb_cX4_next_1 : List UInt8 := [21, 4, 27, 182, 0, 45, 29, 160, 0, 6, 21, 4, 172, 132, 4, 1, 167, 255, 231, 2, 172]
def tb_cX4_next_2 : List UInt8 := []
def tb_cX4_next_1 : List UInt8 := kb_cX4_next_1 ++ tb_cX4_next_2
def tb_cX4_next_0 : List UInt8 := kb_cX4_next_0 ++ tb_cX4_next_1
set_option maxRecDepth 100000 in
theorem tb_cX4_next : (cX4_next).data.toList = tb_cX4_next_0 := eqL_eq (by decide +kernel)
theorem ow_cX4_next_0 (r : Nat) : (cX4_next).data.toList.drop (0 + r) = tb_cX4_next_0.drop r := by rw [tb_cX4_next, Nat.zero_add]
theorem ow_cX4_next_1 (r : Nat) : (cX4_next).data.toList.drop (40 + r) = tb_cX4_next_1.drop r := by
  have e := ow_cX4_next_0 (40 + r)
  rw [show 0 + (40 + r) = 40 + r by omega] at e
  exact e.trans (dr_len (a := kb_cX4_next_0) (t := tb_cX4_next_1) (by decide +kernel))
theorem ob_cX4_next_0 (r : Nat) {pc : Nat} {l : List UInt8} (hp : 0 + r = pc) (h : tb_cX4_next_0.drop r = l) : (cX4_next).data.toList.drop pc = l := by
  subst hp
  exact (ow_cX4_next_0 r).trans h
theorem ob_cX4_next_1 (r : Nat) {pc : Nat} {l : List UInt8} (hp : 40 + r = pc) (h : tb_cX4_next_1.drop r = l) : (cX4_next).data.toList.drop pc = l := by
  subst hp
  exact (ow_cX4_next_1 r).trans h
theorem dX4_next_0 : decode cX4_next 0 = .ok (.aload_n 0, 1) := dn_42 (ob_cX4_next_0 0 rfl rfl)
theorem dX4_next_1 : decode cX4_next 1 = .ok (.iload_n 1, 1) := dn_27 (ob_cX4_next_0 1 rfl rfl)
theorem dX4_next_2 : decode cX4_next 2 = .ok (.invokestatic 107, 3) := dn_184 (ob_cX4_next_0 2 rfl rfl) rfl
theorem dX4_next_5 : decode cX4_next 5 = .ok (.ifCond .eq 10, 3) := dn_153 (ob_cX4_next_0 5 rfl rfl) (by decide +kernel)
theorem dX4_next_8 : decode cX4_next 8 = .ok (.iload_n 2, 1) := dn_28 (ob_cX4_next_0 8 rfl rfl)
theorem dX4_next_9 : decode cX4_next 9 = .ok (.invokestatic 83, 3) := dn_184 (ob_cX4_next_0 9 rfl rfl) rfl
theorem dX4_next_12 : decode cX4_next 12 = .ok (.ifCond .ne 7, 3) := dn_154 (ob_cX4_next_0 12 rfl rfl) (by decide +kernel)
theorem dX4_next_15 : decode cX4_next 15 = .ok (.iconst 1, 1) := dn_4 (ob_cX4_next_0 15 rfl rfl)
theorem dX4_next_16 : decode cX4_next 16 = .ok (.goto 4, 3) := dn_167 (ob_cX4_next_0 16 rfl rfl) (by decide +kernel)
theorem dX4_next_19 : decode cX4_next 19 = .ok (.iconst 0, 1) := dn_3 (ob_cX4_next_0 19 rfl rfl)
theorem dX4_next_20 : decode cX4_next 20 = .ok (.invokevirtual 100, 3) := dn_182 (ob_cX4_next_0 20 rfl rfl) rfl
theorem dX4_next_23 : decode cX4_next 23 = .ok (.ifCond .eq 5, 3) := dn_153 (ob_cX4_next_0 23 rfl rfl) (by decide +kernel)
theorem dX4_next_26 : decode cX4_next 26 = .ok (.iconst 0, 1) := dn_3 (ob_cX4_next_0 26 rfl rfl)
theorem dX4_next_27 : decode cX4_next 27 = .ok (.ireturn, 1) := dn_172 (ob_cX4_next_0 27 rfl rfl)
theorem dX4_next_28 : decode cX4_next 28 = .ok (.iload_n 2, 1) := dn_28 (ob_cX4_next_0 28 rfl rfl)
theorem dX4_next_29 : decode cX4_next 29 = .ok (.istore 4, 2) := dn_54 (ob_cX4_next_0 29 rfl rfl) rfl
theorem dX4_next_31 : decode cX4_next 31 = .ok (.iload 4, 2) := dn_21 (ob_cX4_next_0 31 rfl rfl) rfl
theorem dX4_next_33 : decode cX4_next 33 = .ok (.sipush 256, 3) := dn_17 (ob_cX4_next_0 33 rfl rfl) (by decide +kernel)
theorem dX4_next_36 : decode cX4_next 36 = .ok (.if_icmp .ge 23, 3) := dn_162 (ob_cX4_next_0 36 rfl rfl) (by decide +kernel)
theorem dX4_next_39 : decode cX4_next 39 = .ok (.aload_n 0, 1) := dn_42 (ob_cX4_next_0 39 rfl rfl)
theorem dX4_next_40 : decode cX4_next 40 = .ok (.iload 4, 2) := dn_21 (ob_cX4_next_1 0 rfl rfl) rfl
theorem dX4_next_42 : decode cX4_next 42 = .ok (.iload_n 1, 1) := dn_27 (ob_cX4_next_1 2 rfl rfl)
theorem dX4_next_43 : decode cX4_next 43 = .ok (.invokevirtual 45, 3) := dn_182 (ob_cX4_next_1 3 rfl rfl) rfl
theorem dX4_next_46 : decode cX4_next 46 = .ok (.iload_n 3, 1) := dn_29 (ob_cX4_next_1 6 rfl rfl)
theorem dX4_next_47 : decode cX4_next 47 = .ok (.if_icmp .ne 6, 3) := dn_160 (ob_cX4_next_1 7 rfl rfl) (by decide +kernel)
theorem dX4_next_50 : decode cX4_next 50 = .ok (.iload 4, 2) := dn_21 (ob_cX4_next_1 10 rfl rfl) rfl
theorem dX4_next_52 : decode cX4_next 52 = .ok (.ireturn, 1) := dn_172 (ob_cX4_next_1 12 rfl rfl)
theorem dX4_next_53 : decode cX4_next 53 = .ok (.iinc 4 1, 3) := dn_132 (ob_cX4_next_1 13 rfl rfl) rfl (by decide +kernel)
theorem dX4_next_56 : decode cX4_next 56 = .ok (.goto (-25), 3) := dn_167 (ob_cX4_next_1 16 rfl rfl) (by decide +kernel)
theorem dX4_next_59 : decode cX4_next 59 = .ok (.iconst (-1), 1) := dn_2 (ob_cX4_next_1 19 rfl rfl)
theorem dX4_next_60 : decode cX4_next 60 = .ok (.ireturn, 1) := dn_172 (ob_cX4_next_1 20 rfl rfl)
def kb_cX4_run_0 : List UInt8 := [42, 27, 184, 0, 107, 153, 0, 10, 28, 184, 0, 83, 154, 0, 7, 4, 167, 0, 4, 3, 182, 0, 100, 153, 0, 5, 3, 172, 28, 62, 29, 17, 1, 0, 162, 0, 24, 42, 29, 27]
def kb_cX4_run_1 : List UInt8 := [182, 0, 45, 42, 28, 27, 182, 0, 45, 160, 0, 9, 132, 3, 1, 167, 255, 231, 29, 28, 100, 172]
def tb_cX4_run_2 : List UInt8 := []
def tb_cX4_run_1 : List UInt8 := kb_cX4_run_1 ++ tb_cX4_run_2
def tb_cX4_run_0 : List UInt8 := kb_cX4_run_0 ++ tb_cX4_run_1
set_option maxRecDepth 100000 in
theorem tb_cX4_run : (cX4_run).data.toList = tb_cX4_run_0 := eqL_eq (by decide +kernel)
theorem ow_cX4_run_0 (r : Nat) : (cX4_run).data.toList.drop (0 + r) = tb_cX4_run_0.drop r := by rw [tb_cX4_run, Nat.zero_add]
theorem ow_cX4_run_1 (r : Nat) : (cX4_run).data.toList.drop (40 + r) = tb_cX4_run_1.drop r := by
  have e := ow_cX4_run_0 (40 + r)
  rw [show 0 + (40 + r) = 40 + r by omega] at e
  exact e.trans (dr_len (a := kb_cX4_run_0) (t := tb_cX4_run_1) (by decide +kernel))
theorem ob_cX4_run_0 (r : Nat) {pc : Nat} {l : List UInt8} (hp : 0 + r = pc) (h : tb_cX4_run_0.drop r = l) : (cX4_run).data.toList.drop pc = l := by
  subst hp
  exact (ow_cX4_run_0 r).trans h
theorem ob_cX4_run_1 (r : Nat) {pc : Nat} {l : List UInt8} (hp : 40 + r = pc) (h : tb_cX4_run_1.drop r = l) : (cX4_run).data.toList.drop pc = l := by
  subst hp
  exact (ow_cX4_run_1 r).trans h
theorem dX4_run_0 : decode cX4_run 0 = .ok (.aload_n 0, 1) := dn_42 (ob_cX4_run_0 0 rfl rfl)
theorem dX4_run_1 : decode cX4_run 1 = .ok (.iload_n 1, 1) := dn_27 (ob_cX4_run_0 1 rfl rfl)
theorem dX4_run_2 : decode cX4_run 2 = .ok (.invokestatic 107, 3) := dn_184 (ob_cX4_run_0 2 rfl rfl) rfl
theorem dX4_run_5 : decode cX4_run 5 = .ok (.ifCond .eq 10, 3) := dn_153 (ob_cX4_run_0 5 rfl rfl) (by decide +kernel)
theorem dX4_run_8 : decode cX4_run 8 = .ok (.iload_n 2, 1) := dn_28 (ob_cX4_run_0 8 rfl rfl)
theorem dX4_run_9 : decode cX4_run 9 = .ok (.invokestatic 83, 3) := dn_184 (ob_cX4_run_0 9 rfl rfl) rfl
theorem dX4_run_12 : decode cX4_run 12 = .ok (.ifCond .ne 7, 3) := dn_154 (ob_cX4_run_0 12 rfl rfl) (by decide +kernel)
theorem dX4_run_15 : decode cX4_run 15 = .ok (.iconst 1, 1) := dn_4 (ob_cX4_run_0 15 rfl rfl)
theorem dX4_run_16 : decode cX4_run 16 = .ok (.goto 4, 3) := dn_167 (ob_cX4_run_0 16 rfl rfl) (by decide +kernel)
theorem dX4_run_19 : decode cX4_run 19 = .ok (.iconst 0, 1) := dn_3 (ob_cX4_run_0 19 rfl rfl)
theorem dX4_run_20 : decode cX4_run 20 = .ok (.invokevirtual 100, 3) := dn_182 (ob_cX4_run_0 20 rfl rfl) rfl
theorem dX4_run_23 : decode cX4_run 23 = .ok (.ifCond .eq 5, 3) := dn_153 (ob_cX4_run_0 23 rfl rfl) (by decide +kernel)
theorem dX4_run_26 : decode cX4_run 26 = .ok (.iconst 0, 1) := dn_3 (ob_cX4_run_0 26 rfl rfl)
theorem dX4_run_27 : decode cX4_run 27 = .ok (.ireturn, 1) := dn_172 (ob_cX4_run_0 27 rfl rfl)
theorem dX4_run_28 : decode cX4_run 28 = .ok (.iload_n 2, 1) := dn_28 (ob_cX4_run_0 28 rfl rfl)
theorem dX4_run_29 : decode cX4_run 29 = .ok (.istore_n 3, 1) := dn_62 (ob_cX4_run_0 29 rfl rfl)
theorem dX4_run_30 : decode cX4_run 30 = .ok (.iload_n 3, 1) := dn_29 (ob_cX4_run_0 30 rfl rfl)
theorem dX4_run_31 : decode cX4_run 31 = .ok (.sipush 256, 3) := dn_17 (ob_cX4_run_0 31 rfl rfl) (by decide +kernel)
theorem dX4_run_34 : decode cX4_run 34 = .ok (.if_icmp .ge 24, 3) := dn_162 (ob_cX4_run_0 34 rfl rfl) (by decide +kernel)
theorem dX4_run_37 : decode cX4_run 37 = .ok (.aload_n 0, 1) := dn_42 (ob_cX4_run_0 37 rfl rfl)
theorem dX4_run_38 : decode cX4_run 38 = .ok (.iload_n 3, 1) := dn_29 (ob_cX4_run_0 38 rfl rfl)
theorem dX4_run_39 : decode cX4_run 39 = .ok (.iload_n 1, 1) := dn_27 (ob_cX4_run_0 39 rfl rfl)
theorem dX4_run_40 : decode cX4_run 40 = .ok (.invokevirtual 45, 3) := dn_182 (ob_cX4_run_1 0 rfl rfl) rfl
theorem dX4_run_43 : decode cX4_run 43 = .ok (.aload_n 0, 1) := dn_42 (ob_cX4_run_1 3 rfl rfl)
theorem dX4_run_44 : decode cX4_run 44 = .ok (.iload_n 2, 1) := dn_28 (ob_cX4_run_1 4 rfl rfl)
theorem dX4_run_45 : decode cX4_run 45 = .ok (.iload_n 1, 1) := dn_27 (ob_cX4_run_1 5 rfl rfl)
theorem dX4_run_46 : decode cX4_run 46 = .ok (.invokevirtual 45, 3) := dn_182 (ob_cX4_run_1 6 rfl rfl) rfl
theorem dX4_run_49 : decode cX4_run 49 = .ok (.if_icmp .ne 9, 3) := dn_160 (ob_cX4_run_1 9 rfl rfl) (by decide +kernel)
theorem dX4_run_52 : decode cX4_run 52 = .ok (.iinc 3 1, 3) := dn_132 (ob_cX4_run_1 12 rfl rfl) rfl (by decide +kernel)
theorem dX4_run_55 : decode cX4_run 55 = .ok (.goto (-25), 3) := dn_167 (ob_cX4_run_1 15 rfl rfl) (by decide +kernel)
theorem dX4_run_58 : decode cX4_run 58 = .ok (.iload_n 3, 1) := dn_29 (ob_cX4_run_1 18 rfl rfl)
theorem dX4_run_59 : decode cX4_run 59 = .ok (.iload_n 2, 1) := dn_28 (ob_cX4_run_1 19 rfl rfl)
theorem dX4_run_60 : decode cX4_run 60 = .ok (.isub, 1) := dn_100 (ob_cX4_run_1 20 rfl rfl)
theorem dX4_run_61 : decode cX4_run 61 = .ok (.ireturn, 1) := dn_172 (ob_cX4_run_1 21 rfl rfl)
def kb_cX4_isSpan : List UInt8 := [26, 184, 0, 83, 153, 0, 19, 27, 184, 0, 83, 153, 0, 12, 26, 27, 163, 0, 7, 4, 167, 0, 4, 3, 172]
set_option maxRecDepth 10000 in
theorem ob_cX4_isSpan (r : Nat) {l : List UInt8} (h : kb_cX4_isSpan.drop r = l) : (cX4_isSpan).data.toList.drop r = l := by
  rw [show (cX4_isSpan).data.toList = kb_cX4_isSpan from eqL_eq (by decide +kernel)]
  exact h
theorem dX4_isSpan_0 : decode cX4_isSpan 0 = .ok (.iload_n 0, 1) := dn_26 (ob_cX4_isSpan 0 rfl)
theorem dX4_isSpan_1 : decode cX4_isSpan 1 = .ok (.invokestatic 83, 3) := dn_184 (ob_cX4_isSpan 1 rfl) rfl
theorem dX4_isSpan_4 : decode cX4_isSpan 4 = .ok (.ifCond .eq 19, 3) := dn_153 (ob_cX4_isSpan 4 rfl) (by decide +kernel)
theorem dX4_isSpan_7 : decode cX4_isSpan 7 = .ok (.iload_n 1, 1) := dn_27 (ob_cX4_isSpan 7 rfl)
theorem dX4_isSpan_8 : decode cX4_isSpan 8 = .ok (.invokestatic 83, 3) := dn_184 (ob_cX4_isSpan 8 rfl) rfl
theorem dX4_isSpan_11 : decode cX4_isSpan 11 = .ok (.ifCond .eq 12, 3) := dn_153 (ob_cX4_isSpan 11 rfl) (by decide +kernel)
theorem dX4_isSpan_14 : decode cX4_isSpan 14 = .ok (.iload_n 0, 1) := dn_26 (ob_cX4_isSpan 14 rfl)
theorem dX4_isSpan_15 : decode cX4_isSpan 15 = .ok (.iload_n 1, 1) := dn_27 (ob_cX4_isSpan 15 rfl)
theorem dX4_isSpan_16 : decode cX4_isSpan 16 = .ok (.if_icmp .gt 7, 3) := dn_163 (ob_cX4_isSpan 16 rfl) (by decide +kernel)
theorem dX4_isSpan_19 : decode cX4_isSpan 19 = .ok (.iconst 1, 1) := dn_4 (ob_cX4_isSpan 19 rfl)
theorem dX4_isSpan_20 : decode cX4_isSpan 20 = .ok (.goto 4, 3) := dn_167 (ob_cX4_isSpan 20 rfl) (by decide +kernel)
theorem dX4_isSpan_23 : decode cX4_isSpan 23 = .ok (.iconst 0, 1) := dn_3 (ob_cX4_isSpan 23 rfl)
theorem dX4_isSpan_24 : decode cX4_isSpan 24 = .ok (.ireturn, 1) := dn_172 (ob_cX4_isSpan 24 rfl)
def kb_cX4_ofKind_0 : List UInt8 := [42, 27, 184, 0, 114, 153, 0, 11, 28, 29, 184, 0, 120, 154, 0, 7, 4, 167, 0, 4, 3, 182, 0, 100, 153, 0, 5, 3, 172, 3, 54, 4, 28, 54, 5, 21, 5, 29, 163, 0, 30]
def kb_cX4_ofKind_1 : List UInt8 := [21, 4, 42, 180, 0, 7, 21, 5, 46, 27, 160, 0, 7, 4, 167, 0, 4, 3, 96, 54, 4, 132, 5, 1, 167, 255, 226, 21, 4, 172]
def tb_cX4_ofKind_2 : List UInt8 := []
def tb_cX4_ofKind_1 : List UInt8 := kb_cX4_ofKind_1 ++ tb_cX4_ofKind_2
def tb_cX4_ofKind_0 : List UInt8 := kb_cX4_ofKind_0 ++ tb_cX4_ofKind_1
set_option maxRecDepth 100000 in
theorem tb_cX4_ofKind : (cX4_ofKind).data.toList = tb_cX4_ofKind_0 := eqL_eq (by decide +kernel)
theorem ow_cX4_ofKind_0 (r : Nat) : (cX4_ofKind).data.toList.drop (0 + r) = tb_cX4_ofKind_0.drop r := by rw [tb_cX4_ofKind, Nat.zero_add]
theorem ow_cX4_ofKind_1 (r : Nat) : (cX4_ofKind).data.toList.drop (41 + r) = tb_cX4_ofKind_1.drop r := by
  have e := ow_cX4_ofKind_0 (41 + r)
  rw [show 0 + (41 + r) = 41 + r by omega] at e
  exact e.trans (dr_len (a := kb_cX4_ofKind_0) (t := tb_cX4_ofKind_1) (by decide +kernel))
theorem ob_cX4_ofKind_0 (r : Nat) {pc : Nat} {l : List UInt8} (hp : 0 + r = pc) (h : tb_cX4_ofKind_0.drop r = l) : (cX4_ofKind).data.toList.drop pc = l := by
  subst hp
  exact (ow_cX4_ofKind_0 r).trans h
theorem ob_cX4_ofKind_1 (r : Nat) {pc : Nat} {l : List UInt8} (hp : 41 + r = pc) (h : tb_cX4_ofKind_1.drop r = l) : (cX4_ofKind).data.toList.drop pc = l := by
  subst hp
  exact (ow_cX4_ofKind_1 r).trans h
theorem dX4_ofKind_0 : decode cX4_ofKind 0 = .ok (.aload_n 0, 1) := dn_42 (ob_cX4_ofKind_0 0 rfl rfl)
theorem dX4_ofKind_1 : decode cX4_ofKind 1 = .ok (.iload_n 1, 1) := dn_27 (ob_cX4_ofKind_0 1 rfl rfl)
theorem dX4_ofKind_2 : decode cX4_ofKind 2 = .ok (.invokestatic 114, 3) := dn_184 (ob_cX4_ofKind_0 2 rfl rfl) rfl
theorem dX4_ofKind_5 : decode cX4_ofKind 5 = .ok (.ifCond .eq 11, 3) := dn_153 (ob_cX4_ofKind_0 5 rfl rfl) (by decide +kernel)
theorem dX4_ofKind_8 : decode cX4_ofKind 8 = .ok (.iload_n 2, 1) := dn_28 (ob_cX4_ofKind_0 8 rfl rfl)
theorem dX4_ofKind_9 : decode cX4_ofKind 9 = .ok (.iload_n 3, 1) := dn_29 (ob_cX4_ofKind_0 9 rfl rfl)
theorem dX4_ofKind_10 : decode cX4_ofKind 10 = .ok (.invokestatic 120, 3) := dn_184 (ob_cX4_ofKind_0 10 rfl rfl) rfl
theorem dX4_ofKind_13 : decode cX4_ofKind 13 = .ok (.ifCond .ne 7, 3) := dn_154 (ob_cX4_ofKind_0 13 rfl rfl) (by decide +kernel)
theorem dX4_ofKind_16 : decode cX4_ofKind 16 = .ok (.iconst 1, 1) := dn_4 (ob_cX4_ofKind_0 16 rfl rfl)
theorem dX4_ofKind_17 : decode cX4_ofKind 17 = .ok (.goto 4, 3) := dn_167 (ob_cX4_ofKind_0 17 rfl rfl) (by decide +kernel)
theorem dX4_ofKind_20 : decode cX4_ofKind 20 = .ok (.iconst 0, 1) := dn_3 (ob_cX4_ofKind_0 20 rfl rfl)
theorem dX4_ofKind_21 : decode cX4_ofKind 21 = .ok (.invokevirtual 100, 3) := dn_182 (ob_cX4_ofKind_0 21 rfl rfl) rfl
theorem dX4_ofKind_24 : decode cX4_ofKind 24 = .ok (.ifCond .eq 5, 3) := dn_153 (ob_cX4_ofKind_0 24 rfl rfl) (by decide +kernel)
theorem dX4_ofKind_27 : decode cX4_ofKind 27 = .ok (.iconst 0, 1) := dn_3 (ob_cX4_ofKind_0 27 rfl rfl)
theorem dX4_ofKind_28 : decode cX4_ofKind 28 = .ok (.ireturn, 1) := dn_172 (ob_cX4_ofKind_0 28 rfl rfl)
theorem dX4_ofKind_29 : decode cX4_ofKind 29 = .ok (.iconst 0, 1) := dn_3 (ob_cX4_ofKind_0 29 rfl rfl)
theorem dX4_ofKind_30 : decode cX4_ofKind 30 = .ok (.istore 4, 2) := dn_54 (ob_cX4_ofKind_0 30 rfl rfl) rfl
theorem dX4_ofKind_32 : decode cX4_ofKind 32 = .ok (.iload_n 2, 1) := dn_28 (ob_cX4_ofKind_0 32 rfl rfl)
theorem dX4_ofKind_33 : decode cX4_ofKind 33 = .ok (.istore 5, 2) := dn_54 (ob_cX4_ofKind_0 33 rfl rfl) rfl
theorem dX4_ofKind_35 : decode cX4_ofKind 35 = .ok (.iload 5, 2) := dn_21 (ob_cX4_ofKind_0 35 rfl rfl) rfl
theorem dX4_ofKind_37 : decode cX4_ofKind 37 = .ok (.iload_n 3, 1) := dn_29 (ob_cX4_ofKind_0 37 rfl rfl)
theorem dX4_ofKind_38 : decode cX4_ofKind 38 = .ok (.if_icmp .gt 30, 3) := dn_163 (ob_cX4_ofKind_0 38 rfl rfl) (by decide +kernel)
theorem dX4_ofKind_41 : decode cX4_ofKind 41 = .ok (.iload 4, 2) := dn_21 (ob_cX4_ofKind_1 0 rfl rfl) rfl
theorem dX4_ofKind_43 : decode cX4_ofKind 43 = .ok (.aload_n 0, 1) := dn_42 (ob_cX4_ofKind_1 2 rfl rfl)
theorem dX4_ofKind_44 : decode cX4_ofKind 44 = .ok (.getfield 7, 3) := dn_180 (ob_cX4_ofKind_1 3 rfl rfl) rfl
theorem dX4_ofKind_47 : decode cX4_ofKind 47 = .ok (.iload 5, 2) := dn_21 (ob_cX4_ofKind_1 6 rfl rfl) rfl
theorem dX4_ofKind_49 : decode cX4_ofKind 49 = .ok (.iaload, 1) := dn_46 (ob_cX4_ofKind_1 8 rfl rfl)
theorem dX4_ofKind_50 : decode cX4_ofKind 50 = .ok (.iload_n 1, 1) := dn_27 (ob_cX4_ofKind_1 9 rfl rfl)
theorem dX4_ofKind_51 : decode cX4_ofKind 51 = .ok (.if_icmp .ne 7, 3) := dn_160 (ob_cX4_ofKind_1 10 rfl rfl) (by decide +kernel)
theorem dX4_ofKind_54 : decode cX4_ofKind 54 = .ok (.iconst 1, 1) := dn_4 (ob_cX4_ofKind_1 13 rfl rfl)
theorem dX4_ofKind_55 : decode cX4_ofKind 55 = .ok (.goto 4, 3) := dn_167 (ob_cX4_ofKind_1 14 rfl rfl) (by decide +kernel)
theorem dX4_ofKind_58 : decode cX4_ofKind 58 = .ok (.iconst 0, 1) := dn_3 (ob_cX4_ofKind_1 17 rfl rfl)
theorem dX4_ofKind_59 : decode cX4_ofKind 59 = .ok (.iadd, 1) := dn_96 (ob_cX4_ofKind_1 18 rfl rfl)
theorem dX4_ofKind_60 : decode cX4_ofKind 60 = .ok (.istore 4, 2) := dn_54 (ob_cX4_ofKind_1 19 rfl rfl) rfl
theorem dX4_ofKind_62 : decode cX4_ofKind 62 = .ok (.iinc 5 1, 3) := dn_132 (ob_cX4_ofKind_1 21 rfl rfl) rfl (by decide +kernel)
theorem dX4_ofKind_65 : decode cX4_ofKind 65 = .ok (.goto (-30), 3) := dn_167 (ob_cX4_ofKind_1 24 rfl rfl) (by decide +kernel)
theorem dX4_ofKind_68 : decode cX4_ofKind 68 = .ok (.iload 4, 2) := dn_21 (ob_cX4_ofKind_1 27 rfl rfl) rfl
theorem dX4_ofKind_70 : decode cX4_ofKind 70 = .ok (.ireturn, 1) := dn_172 (ob_cX4_ofKind_1 29 rfl rfl)
def kb_cX4_ofQuestion_0 : List UInt8 := [42, 27, 184, 0, 107, 153, 0, 11, 28, 29, 184, 0, 120, 154, 0, 7, 4, 167, 0, 4, 3, 182, 0, 100, 153, 0, 5, 3, 172, 3, 54, 4, 28, 54, 5, 21, 5, 29, 163, 0, 29]
def kb_cX4_ofQuestion_1 : List UInt8 := [21, 4, 42, 21, 5, 27, 182, 0, 45, 153, 0, 7, 4, 167, 0, 4, 3, 96, 54, 4, 132, 5, 1, 167, 255, 227, 21, 4, 172]
def tb_cX4_ofQuestion_2 : List UInt8 := []
def tb_cX4_ofQuestion_1 : List UInt8 := kb_cX4_ofQuestion_1 ++ tb_cX4_ofQuestion_2
def tb_cX4_ofQuestion_0 : List UInt8 := kb_cX4_ofQuestion_0 ++ tb_cX4_ofQuestion_1
set_option maxRecDepth 100000 in
theorem tb_cX4_ofQuestion : (cX4_ofQuestion).data.toList = tb_cX4_ofQuestion_0 := eqL_eq (by decide +kernel)
theorem ow_cX4_ofQuestion_0 (r : Nat) : (cX4_ofQuestion).data.toList.drop (0 + r) = tb_cX4_ofQuestion_0.drop r := by rw [tb_cX4_ofQuestion, Nat.zero_add]
theorem ow_cX4_ofQuestion_1 (r : Nat) : (cX4_ofQuestion).data.toList.drop (41 + r) = tb_cX4_ofQuestion_1.drop r := by
  have e := ow_cX4_ofQuestion_0 (41 + r)
  rw [show 0 + (41 + r) = 41 + r by omega] at e
  exact e.trans (dr_len (a := kb_cX4_ofQuestion_0) (t := tb_cX4_ofQuestion_1) (by decide +kernel))
theorem ob_cX4_ofQuestion_0 (r : Nat) {pc : Nat} {l : List UInt8} (hp : 0 + r = pc) (h : tb_cX4_ofQuestion_0.drop r = l) : (cX4_ofQuestion).data.toList.drop pc = l := by
  subst hp
  exact (ow_cX4_ofQuestion_0 r).trans h
theorem ob_cX4_ofQuestion_1 (r : Nat) {pc : Nat} {l : List UInt8} (hp : 41 + r = pc) (h : tb_cX4_ofQuestion_1.drop r = l) : (cX4_ofQuestion).data.toList.drop pc = l := by
  subst hp
  exact (ow_cX4_ofQuestion_1 r).trans h
theorem dX4_ofQuestion_0 : decode cX4_ofQuestion 0 = .ok (.aload_n 0, 1) := dn_42 (ob_cX4_ofQuestion_0 0 rfl rfl)
theorem dX4_ofQuestion_1 : decode cX4_ofQuestion 1 = .ok (.iload_n 1, 1) := dn_27 (ob_cX4_ofQuestion_0 1 rfl rfl)
theorem dX4_ofQuestion_2 : decode cX4_ofQuestion 2 = .ok (.invokestatic 107, 3) := dn_184 (ob_cX4_ofQuestion_0 2 rfl rfl) rfl
theorem dX4_ofQuestion_5 : decode cX4_ofQuestion 5 = .ok (.ifCond .eq 11, 3) := dn_153 (ob_cX4_ofQuestion_0 5 rfl rfl) (by decide +kernel)
theorem dX4_ofQuestion_8 : decode cX4_ofQuestion 8 = .ok (.iload_n 2, 1) := dn_28 (ob_cX4_ofQuestion_0 8 rfl rfl)
theorem dX4_ofQuestion_9 : decode cX4_ofQuestion 9 = .ok (.iload_n 3, 1) := dn_29 (ob_cX4_ofQuestion_0 9 rfl rfl)
theorem dX4_ofQuestion_10 : decode cX4_ofQuestion 10 = .ok (.invokestatic 120, 3) := dn_184 (ob_cX4_ofQuestion_0 10 rfl rfl) rfl
theorem dX4_ofQuestion_13 : decode cX4_ofQuestion 13 = .ok (.ifCond .ne 7, 3) := dn_154 (ob_cX4_ofQuestion_0 13 rfl rfl) (by decide +kernel)
theorem dX4_ofQuestion_16 : decode cX4_ofQuestion 16 = .ok (.iconst 1, 1) := dn_4 (ob_cX4_ofQuestion_0 16 rfl rfl)
theorem dX4_ofQuestion_17 : decode cX4_ofQuestion 17 = .ok (.goto 4, 3) := dn_167 (ob_cX4_ofQuestion_0 17 rfl rfl) (by decide +kernel)
theorem dX4_ofQuestion_20 : decode cX4_ofQuestion 20 = .ok (.iconst 0, 1) := dn_3 (ob_cX4_ofQuestion_0 20 rfl rfl)
theorem dX4_ofQuestion_21 : decode cX4_ofQuestion 21 = .ok (.invokevirtual 100, 3) := dn_182 (ob_cX4_ofQuestion_0 21 rfl rfl) rfl
theorem dX4_ofQuestion_24 : decode cX4_ofQuestion 24 = .ok (.ifCond .eq 5, 3) := dn_153 (ob_cX4_ofQuestion_0 24 rfl rfl) (by decide +kernel)
theorem dX4_ofQuestion_27 : decode cX4_ofQuestion 27 = .ok (.iconst 0, 1) := dn_3 (ob_cX4_ofQuestion_0 27 rfl rfl)
theorem dX4_ofQuestion_28 : decode cX4_ofQuestion 28 = .ok (.ireturn, 1) := dn_172 (ob_cX4_ofQuestion_0 28 rfl rfl)
theorem dX4_ofQuestion_29 : decode cX4_ofQuestion 29 = .ok (.iconst 0, 1) := dn_3 (ob_cX4_ofQuestion_0 29 rfl rfl)
theorem dX4_ofQuestion_30 : decode cX4_ofQuestion 30 = .ok (.istore 4, 2) := dn_54 (ob_cX4_ofQuestion_0 30 rfl rfl) rfl
theorem dX4_ofQuestion_32 : decode cX4_ofQuestion 32 = .ok (.iload_n 2, 1) := dn_28 (ob_cX4_ofQuestion_0 32 rfl rfl)
theorem dX4_ofQuestion_33 : decode cX4_ofQuestion 33 = .ok (.istore 5, 2) := dn_54 (ob_cX4_ofQuestion_0 33 rfl rfl) rfl
theorem dX4_ofQuestion_35 : decode cX4_ofQuestion 35 = .ok (.iload 5, 2) := dn_21 (ob_cX4_ofQuestion_0 35 rfl rfl) rfl
theorem dX4_ofQuestion_37 : decode cX4_ofQuestion 37 = .ok (.iload_n 3, 1) := dn_29 (ob_cX4_ofQuestion_0 37 rfl rfl)
theorem dX4_ofQuestion_38 : decode cX4_ofQuestion 38 = .ok (.if_icmp .gt 29, 3) := dn_163 (ob_cX4_ofQuestion_0 38 rfl rfl) (by decide +kernel)
theorem dX4_ofQuestion_41 : decode cX4_ofQuestion 41 = .ok (.iload 4, 2) := dn_21 (ob_cX4_ofQuestion_1 0 rfl rfl) rfl
theorem dX4_ofQuestion_43 : decode cX4_ofQuestion 43 = .ok (.aload_n 0, 1) := dn_42 (ob_cX4_ofQuestion_1 2 rfl rfl)
theorem dX4_ofQuestion_44 : decode cX4_ofQuestion 44 = .ok (.iload 5, 2) := dn_21 (ob_cX4_ofQuestion_1 3 rfl rfl) rfl
theorem dX4_ofQuestion_46 : decode cX4_ofQuestion 46 = .ok (.iload_n 1, 1) := dn_27 (ob_cX4_ofQuestion_1 5 rfl rfl)
theorem dX4_ofQuestion_47 : decode cX4_ofQuestion 47 = .ok (.invokevirtual 45, 3) := dn_182 (ob_cX4_ofQuestion_1 6 rfl rfl) rfl
theorem dX4_ofQuestion_50 : decode cX4_ofQuestion 50 = .ok (.ifCond .eq 7, 3) := dn_153 (ob_cX4_ofQuestion_1 9 rfl rfl) (by decide +kernel)
theorem dX4_ofQuestion_53 : decode cX4_ofQuestion 53 = .ok (.iconst 1, 1) := dn_4 (ob_cX4_ofQuestion_1 12 rfl rfl)
theorem dX4_ofQuestion_54 : decode cX4_ofQuestion 54 = .ok (.goto 4, 3) := dn_167 (ob_cX4_ofQuestion_1 13 rfl rfl) (by decide +kernel)
theorem dX4_ofQuestion_57 : decode cX4_ofQuestion 57 = .ok (.iconst 0, 1) := dn_3 (ob_cX4_ofQuestion_1 16 rfl rfl)
theorem dX4_ofQuestion_58 : decode cX4_ofQuestion 58 = .ok (.iadd, 1) := dn_96 (ob_cX4_ofQuestion_1 17 rfl rfl)
theorem dX4_ofQuestion_59 : decode cX4_ofQuestion 59 = .ok (.istore 4, 2) := dn_54 (ob_cX4_ofQuestion_1 18 rfl rfl) rfl
theorem dX4_ofQuestion_61 : decode cX4_ofQuestion 61 = .ok (.iinc 5 1, 3) := dn_132 (ob_cX4_ofQuestion_1 20 rfl rfl) rfl (by decide +kernel)
theorem dX4_ofQuestion_64 : decode cX4_ofQuestion 64 = .ok (.goto (-29), 3) := dn_167 (ob_cX4_ofQuestion_1 23 rfl rfl) (by decide +kernel)
theorem dX4_ofQuestion_67 : decode cX4_ofQuestion 67 = .ok (.iload 4, 2) := dn_21 (ob_cX4_ofQuestion_1 26 rfl rfl) rfl
theorem dX4_ofQuestion_69 : decode cX4_ofQuestion 69 = .ok (.ireturn, 1) := dn_172 (ob_cX4_ofQuestion_1 28 rfl rfl)
def kb_cX4_kinds_0 : List UInt8 := [42, 27, 28, 184, 0, 120, 154, 0, 7, 4, 167, 0, 4, 3, 182, 0, 100, 153, 0, 5, 3, 172, 3, 62, 27, 54, 4, 21, 4, 28, 163, 0, 21, 29, 4, 42, 180, 0, 7, 21, 4]
def kb_cX4_kinds_1 : List UInt8 := [46, 120, 128, 62, 132, 4, 1, 167, 255, 235, 29, 172]
def tb_cX4_kinds_2 : List UInt8 := []
def tb_cX4_kinds_1 : List UInt8 := kb_cX4_kinds_1 ++ tb_cX4_kinds_2
def tb_cX4_kinds_0 : List UInt8 := kb_cX4_kinds_0 ++ tb_cX4_kinds_1
set_option maxRecDepth 100000 in
theorem tb_cX4_kinds : (cX4_kinds).data.toList = tb_cX4_kinds_0 := eqL_eq (by decide +kernel)
theorem ow_cX4_kinds_0 (r : Nat) : (cX4_kinds).data.toList.drop (0 + r) = tb_cX4_kinds_0.drop r := by rw [tb_cX4_kinds, Nat.zero_add]
theorem ow_cX4_kinds_1 (r : Nat) : (cX4_kinds).data.toList.drop (41 + r) = tb_cX4_kinds_1.drop r := by
  have e := ow_cX4_kinds_0 (41 + r)
  rw [show 0 + (41 + r) = 41 + r by omega] at e
  exact e.trans (dr_len (a := kb_cX4_kinds_0) (t := tb_cX4_kinds_1) (by decide +kernel))
theorem ob_cX4_kinds_0 (r : Nat) {pc : Nat} {l : List UInt8} (hp : 0 + r = pc) (h : tb_cX4_kinds_0.drop r = l) : (cX4_kinds).data.toList.drop pc = l := by
  subst hp
  exact (ow_cX4_kinds_0 r).trans h
theorem ob_cX4_kinds_1 (r : Nat) {pc : Nat} {l : List UInt8} (hp : 41 + r = pc) (h : tb_cX4_kinds_1.drop r = l) : (cX4_kinds).data.toList.drop pc = l := by
  subst hp
  exact (ow_cX4_kinds_1 r).trans h
theorem dX4_kinds_0 : decode cX4_kinds 0 = .ok (.aload_n 0, 1) := dn_42 (ob_cX4_kinds_0 0 rfl rfl)
theorem dX4_kinds_1 : decode cX4_kinds 1 = .ok (.iload_n 1, 1) := dn_27 (ob_cX4_kinds_0 1 rfl rfl)
theorem dX4_kinds_2 : decode cX4_kinds 2 = .ok (.iload_n 2, 1) := dn_28 (ob_cX4_kinds_0 2 rfl rfl)
theorem dX4_kinds_3 : decode cX4_kinds 3 = .ok (.invokestatic 120, 3) := dn_184 (ob_cX4_kinds_0 3 rfl rfl) rfl
theorem dX4_kinds_6 : decode cX4_kinds 6 = .ok (.ifCond .ne 7, 3) := dn_154 (ob_cX4_kinds_0 6 rfl rfl) (by decide +kernel)
theorem dX4_kinds_9 : decode cX4_kinds 9 = .ok (.iconst 1, 1) := dn_4 (ob_cX4_kinds_0 9 rfl rfl)
theorem dX4_kinds_10 : decode cX4_kinds 10 = .ok (.goto 4, 3) := dn_167 (ob_cX4_kinds_0 10 rfl rfl) (by decide +kernel)
theorem dX4_kinds_13 : decode cX4_kinds 13 = .ok (.iconst 0, 1) := dn_3 (ob_cX4_kinds_0 13 rfl rfl)
theorem dX4_kinds_14 : decode cX4_kinds 14 = .ok (.invokevirtual 100, 3) := dn_182 (ob_cX4_kinds_0 14 rfl rfl) rfl
theorem dX4_kinds_17 : decode cX4_kinds 17 = .ok (.ifCond .eq 5, 3) := dn_153 (ob_cX4_kinds_0 17 rfl rfl) (by decide +kernel)
theorem dX4_kinds_20 : decode cX4_kinds 20 = .ok (.iconst 0, 1) := dn_3 (ob_cX4_kinds_0 20 rfl rfl)
theorem dX4_kinds_21 : decode cX4_kinds 21 = .ok (.ireturn, 1) := dn_172 (ob_cX4_kinds_0 21 rfl rfl)
theorem dX4_kinds_22 : decode cX4_kinds 22 = .ok (.iconst 0, 1) := dn_3 (ob_cX4_kinds_0 22 rfl rfl)
theorem dX4_kinds_23 : decode cX4_kinds 23 = .ok (.istore_n 3, 1) := dn_62 (ob_cX4_kinds_0 23 rfl rfl)
theorem dX4_kinds_24 : decode cX4_kinds 24 = .ok (.iload_n 1, 1) := dn_27 (ob_cX4_kinds_0 24 rfl rfl)
theorem dX4_kinds_25 : decode cX4_kinds 25 = .ok (.istore 4, 2) := dn_54 (ob_cX4_kinds_0 25 rfl rfl) rfl
theorem dX4_kinds_27 : decode cX4_kinds 27 = .ok (.iload 4, 2) := dn_21 (ob_cX4_kinds_0 27 rfl rfl) rfl
theorem dX4_kinds_29 : decode cX4_kinds 29 = .ok (.iload_n 2, 1) := dn_28 (ob_cX4_kinds_0 29 rfl rfl)
theorem dX4_kinds_30 : decode cX4_kinds 30 = .ok (.if_icmp .gt 21, 3) := dn_163 (ob_cX4_kinds_0 30 rfl rfl) (by decide +kernel)
theorem dX4_kinds_33 : decode cX4_kinds 33 = .ok (.iload_n 3, 1) := dn_29 (ob_cX4_kinds_0 33 rfl rfl)
theorem dX4_kinds_34 : decode cX4_kinds 34 = .ok (.iconst 1, 1) := dn_4 (ob_cX4_kinds_0 34 rfl rfl)
theorem dX4_kinds_35 : decode cX4_kinds 35 = .ok (.aload_n 0, 1) := dn_42 (ob_cX4_kinds_0 35 rfl rfl)
theorem dX4_kinds_36 : decode cX4_kinds 36 = .ok (.getfield 7, 3) := dn_180 (ob_cX4_kinds_0 36 rfl rfl) rfl
theorem dX4_kinds_39 : decode cX4_kinds 39 = .ok (.iload 4, 2) := dn_21 (ob_cX4_kinds_0 39 rfl rfl) rfl
theorem dX4_kinds_41 : decode cX4_kinds 41 = .ok (.iaload, 1) := dn_46 (ob_cX4_kinds_1 0 rfl rfl)
theorem dX4_kinds_42 : decode cX4_kinds 42 = .ok (.ishl, 1) := dn_120 (ob_cX4_kinds_1 1 rfl rfl)
theorem dX4_kinds_43 : decode cX4_kinds 43 = .ok (.ior, 1) := dn_128 (ob_cX4_kinds_1 2 rfl rfl)
theorem dX4_kinds_44 : decode cX4_kinds 44 = .ok (.istore_n 3, 1) := dn_62 (ob_cX4_kinds_1 3 rfl rfl)
theorem dX4_kinds_45 : decode cX4_kinds 45 = .ok (.iinc 4 1, 3) := dn_132 (ob_cX4_kinds_1 4 rfl rfl) rfl (by decide +kernel)
theorem dX4_kinds_48 : decode cX4_kinds 48 = .ok (.goto (-21), 3) := dn_167 (ob_cX4_kinds_1 7 rfl rfl) (by decide +kernel)
theorem dX4_kinds_51 : decode cX4_kinds 51 = .ok (.iload_n 3, 1) := dn_29 (ob_cX4_kinds_1 10 rfl rfl)
theorem dX4_kinds_52 : decode cX4_kinds 52 = .ok (.ireturn, 1) := dn_172 (ob_cX4_kinds_1 11 rfl rfl)
def kb_cX4_both_0 : List UInt8 := [42, 27, 184, 0, 114, 153, 0, 10, 28, 184, 0, 107, 154, 0, 7, 4, 167, 0, 4, 3, 182, 0, 100, 153, 0, 5, 3, 172, 3, 62, 3, 54, 4, 21, 4, 17, 1, 0, 162, 0, 38]
def kb_cX4_both_1 : List UInt8 := [29, 42, 180, 0, 7, 21, 4, 46, 27, 160, 0, 17, 42, 21, 4, 28, 182, 0, 45, 153, 0, 7, 4, 167, 0, 4, 3, 96, 62, 132, 4, 1, 167, 255, 216, 29, 172]
def tb_cX4_both_2 : List UInt8 := []
def tb_cX4_both_1 : List UInt8 := kb_cX4_both_1 ++ tb_cX4_both_2
def tb_cX4_both_0 : List UInt8 := kb_cX4_both_0 ++ tb_cX4_both_1
set_option maxRecDepth 100000 in
theorem tb_cX4_both : (cX4_both).data.toList = tb_cX4_both_0 := eqL_eq (by decide +kernel)
theorem ow_cX4_both_0 (r : Nat) : (cX4_both).data.toList.drop (0 + r) = tb_cX4_both_0.drop r := by rw [tb_cX4_both, Nat.zero_add]
theorem ow_cX4_both_1 (r : Nat) : (cX4_both).data.toList.drop (41 + r) = tb_cX4_both_1.drop r := by
  have e := ow_cX4_both_0 (41 + r)
  rw [show 0 + (41 + r) = 41 + r by omega] at e
  exact e.trans (dr_len (a := kb_cX4_both_0) (t := tb_cX4_both_1) (by decide +kernel))
theorem ob_cX4_both_0 (r : Nat) {pc : Nat} {l : List UInt8} (hp : 0 + r = pc) (h : tb_cX4_both_0.drop r = l) : (cX4_both).data.toList.drop pc = l := by
  subst hp
  exact (ow_cX4_both_0 r).trans h
theorem ob_cX4_both_1 (r : Nat) {pc : Nat} {l : List UInt8} (hp : 41 + r = pc) (h : tb_cX4_both_1.drop r = l) : (cX4_both).data.toList.drop pc = l := by
  subst hp
  exact (ow_cX4_both_1 r).trans h
theorem dX4_both_0 : decode cX4_both 0 = .ok (.aload_n 0, 1) := dn_42 (ob_cX4_both_0 0 rfl rfl)
theorem dX4_both_1 : decode cX4_both 1 = .ok (.iload_n 1, 1) := dn_27 (ob_cX4_both_0 1 rfl rfl)
theorem dX4_both_2 : decode cX4_both 2 = .ok (.invokestatic 114, 3) := dn_184 (ob_cX4_both_0 2 rfl rfl) rfl
theorem dX4_both_5 : decode cX4_both 5 = .ok (.ifCond .eq 10, 3) := dn_153 (ob_cX4_both_0 5 rfl rfl) (by decide +kernel)
theorem dX4_both_8 : decode cX4_both 8 = .ok (.iload_n 2, 1) := dn_28 (ob_cX4_both_0 8 rfl rfl)
theorem dX4_both_9 : decode cX4_both 9 = .ok (.invokestatic 107, 3) := dn_184 (ob_cX4_both_0 9 rfl rfl) rfl
theorem dX4_both_12 : decode cX4_both 12 = .ok (.ifCond .ne 7, 3) := dn_154 (ob_cX4_both_0 12 rfl rfl) (by decide +kernel)
theorem dX4_both_15 : decode cX4_both 15 = .ok (.iconst 1, 1) := dn_4 (ob_cX4_both_0 15 rfl rfl)
theorem dX4_both_16 : decode cX4_both 16 = .ok (.goto 4, 3) := dn_167 (ob_cX4_both_0 16 rfl rfl) (by decide +kernel)
theorem dX4_both_19 : decode cX4_both 19 = .ok (.iconst 0, 1) := dn_3 (ob_cX4_both_0 19 rfl rfl)
theorem dX4_both_20 : decode cX4_both 20 = .ok (.invokevirtual 100, 3) := dn_182 (ob_cX4_both_0 20 rfl rfl) rfl
theorem dX4_both_23 : decode cX4_both 23 = .ok (.ifCond .eq 5, 3) := dn_153 (ob_cX4_both_0 23 rfl rfl) (by decide +kernel)
theorem dX4_both_26 : decode cX4_both 26 = .ok (.iconst 0, 1) := dn_3 (ob_cX4_both_0 26 rfl rfl)
theorem dX4_both_27 : decode cX4_both 27 = .ok (.ireturn, 1) := dn_172 (ob_cX4_both_0 27 rfl rfl)
theorem dX4_both_28 : decode cX4_both 28 = .ok (.iconst 0, 1) := dn_3 (ob_cX4_both_0 28 rfl rfl)
theorem dX4_both_29 : decode cX4_both 29 = .ok (.istore_n 3, 1) := dn_62 (ob_cX4_both_0 29 rfl rfl)
theorem dX4_both_30 : decode cX4_both 30 = .ok (.iconst 0, 1) := dn_3 (ob_cX4_both_0 30 rfl rfl)
theorem dX4_both_31 : decode cX4_both 31 = .ok (.istore 4, 2) := dn_54 (ob_cX4_both_0 31 rfl rfl) rfl
theorem dX4_both_33 : decode cX4_both 33 = .ok (.iload 4, 2) := dn_21 (ob_cX4_both_0 33 rfl rfl) rfl
theorem dX4_both_35 : decode cX4_both 35 = .ok (.sipush 256, 3) := dn_17 (ob_cX4_both_0 35 rfl rfl) (by decide +kernel)
theorem dX4_both_38 : decode cX4_both 38 = .ok (.if_icmp .ge 38, 3) := dn_162 (ob_cX4_both_0 38 rfl rfl) (by decide +kernel)
theorem dX4_both_41 : decode cX4_both 41 = .ok (.iload_n 3, 1) := dn_29 (ob_cX4_both_1 0 rfl rfl)
theorem dX4_both_42 : decode cX4_both 42 = .ok (.aload_n 0, 1) := dn_42 (ob_cX4_both_1 1 rfl rfl)
theorem dX4_both_43 : decode cX4_both 43 = .ok (.getfield 7, 3) := dn_180 (ob_cX4_both_1 2 rfl rfl) rfl
theorem dX4_both_46 : decode cX4_both 46 = .ok (.iload 4, 2) := dn_21 (ob_cX4_both_1 5 rfl rfl) rfl
theorem dX4_both_48 : decode cX4_both 48 = .ok (.iaload, 1) := dn_46 (ob_cX4_both_1 7 rfl rfl)
theorem dX4_both_49 : decode cX4_both 49 = .ok (.iload_n 1, 1) := dn_27 (ob_cX4_both_1 8 rfl rfl)
theorem dX4_both_50 : decode cX4_both 50 = .ok (.if_icmp .ne 17, 3) := dn_160 (ob_cX4_both_1 9 rfl rfl) (by decide +kernel)
theorem dX4_both_53 : decode cX4_both 53 = .ok (.aload_n 0, 1) := dn_42 (ob_cX4_both_1 12 rfl rfl)
theorem dX4_both_54 : decode cX4_both 54 = .ok (.iload 4, 2) := dn_21 (ob_cX4_both_1 13 rfl rfl) rfl
theorem dX4_both_56 : decode cX4_both 56 = .ok (.iload_n 2, 1) := dn_28 (ob_cX4_both_1 15 rfl rfl)
theorem dX4_both_57 : decode cX4_both 57 = .ok (.invokevirtual 45, 3) := dn_182 (ob_cX4_both_1 16 rfl rfl) rfl
theorem dX4_both_60 : decode cX4_both 60 = .ok (.ifCond .eq 7, 3) := dn_153 (ob_cX4_both_1 19 rfl rfl) (by decide +kernel)
theorem dX4_both_63 : decode cX4_both 63 = .ok (.iconst 1, 1) := dn_4 (ob_cX4_both_1 22 rfl rfl)
theorem dX4_both_64 : decode cX4_both 64 = .ok (.goto 4, 3) := dn_167 (ob_cX4_both_1 23 rfl rfl) (by decide +kernel)
theorem dX4_both_67 : decode cX4_both 67 = .ok (.iconst 0, 1) := dn_3 (ob_cX4_both_1 26 rfl rfl)
theorem dX4_both_68 : decode cX4_both 68 = .ok (.iadd, 1) := dn_96 (ob_cX4_both_1 27 rfl rfl)
theorem dX4_both_69 : decode cX4_both 69 = .ok (.istore_n 3, 1) := dn_62 (ob_cX4_both_1 28 rfl rfl)
theorem dX4_both_70 : decode cX4_both 70 = .ok (.iinc 4 1, 3) := dn_132 (ob_cX4_both_1 29 rfl rfl) rfl (by decide +kernel)
theorem dX4_both_73 : decode cX4_both 73 = .ok (.goto (-40), 3) := dn_167 (ob_cX4_both_1 32 rfl rfl) (by decide +kernel)
theorem dX4_both_76 : decode cX4_both 76 = .ok (.iload_n 3, 1) := dn_29 (ob_cX4_both_1 35 rfl rfl)
theorem dX4_both_77 : decode cX4_both 77 = .ok (.ireturn, 1) := dn_172 (ob_cX4_both_1 36 rfl rfl)
def kb_cX4_within_0 : List UInt8 := [42, 27, 184, 0, 107, 153, 0, 10, 28, 184, 0, 107, 154, 0, 7, 4, 167, 0, 4, 3, 182, 0, 100, 153, 0, 5, 3, 172, 3, 62, 29, 17, 1, 0, 162, 0, 29, 42, 29, 27]
def kb_cX4_within_1 : List UInt8 := [182, 0, 45, 153, 0, 14, 42, 29, 28, 182, 0, 45, 154, 0, 5, 3, 172, 132, 3, 1, 167, 255, 226, 4, 172]
def tb_cX4_within_2 : List UInt8 := []
def tb_cX4_within_1 : List UInt8 := kb_cX4_within_1 ++ tb_cX4_within_2
def tb_cX4_within_0 : List UInt8 := kb_cX4_within_0 ++ tb_cX4_within_1
set_option maxRecDepth 100000 in
theorem tb_cX4_within : (cX4_within).data.toList = tb_cX4_within_0 := eqL_eq (by decide +kernel)
theorem ow_cX4_within_0 (r : Nat) : (cX4_within).data.toList.drop (0 + r) = tb_cX4_within_0.drop r := by rw [tb_cX4_within, Nat.zero_add]
theorem ow_cX4_within_1 (r : Nat) : (cX4_within).data.toList.drop (40 + r) = tb_cX4_within_1.drop r := by
  have e := ow_cX4_within_0 (40 + r)
  rw [show 0 + (40 + r) = 40 + r by omega] at e
  exact e.trans (dr_len (a := kb_cX4_within_0) (t := tb_cX4_within_1) (by decide +kernel))
theorem ob_cX4_within_0 (r : Nat) {pc : Nat} {l : List UInt8} (hp : 0 + r = pc) (h : tb_cX4_within_0.drop r = l) : (cX4_within).data.toList.drop pc = l := by
  subst hp
  exact (ow_cX4_within_0 r).trans h
theorem ob_cX4_within_1 (r : Nat) {pc : Nat} {l : List UInt8} (hp : 40 + r = pc) (h : tb_cX4_within_1.drop r = l) : (cX4_within).data.toList.drop pc = l := by
  subst hp
  exact (ow_cX4_within_1 r).trans h
theorem dX4_within_0 : decode cX4_within 0 = .ok (.aload_n 0, 1) := dn_42 (ob_cX4_within_0 0 rfl rfl)
theorem dX4_within_1 : decode cX4_within 1 = .ok (.iload_n 1, 1) := dn_27 (ob_cX4_within_0 1 rfl rfl)
theorem dX4_within_2 : decode cX4_within 2 = .ok (.invokestatic 107, 3) := dn_184 (ob_cX4_within_0 2 rfl rfl) rfl
theorem dX4_within_5 : decode cX4_within 5 = .ok (.ifCond .eq 10, 3) := dn_153 (ob_cX4_within_0 5 rfl rfl) (by decide +kernel)
theorem dX4_within_8 : decode cX4_within 8 = .ok (.iload_n 2, 1) := dn_28 (ob_cX4_within_0 8 rfl rfl)
theorem dX4_within_9 : decode cX4_within 9 = .ok (.invokestatic 107, 3) := dn_184 (ob_cX4_within_0 9 rfl rfl) rfl
theorem dX4_within_12 : decode cX4_within 12 = .ok (.ifCond .ne 7, 3) := dn_154 (ob_cX4_within_0 12 rfl rfl) (by decide +kernel)
theorem dX4_within_15 : decode cX4_within 15 = .ok (.iconst 1, 1) := dn_4 (ob_cX4_within_0 15 rfl rfl)
theorem dX4_within_16 : decode cX4_within 16 = .ok (.goto 4, 3) := dn_167 (ob_cX4_within_0 16 rfl rfl) (by decide +kernel)
theorem dX4_within_19 : decode cX4_within 19 = .ok (.iconst 0, 1) := dn_3 (ob_cX4_within_0 19 rfl rfl)
theorem dX4_within_20 : decode cX4_within 20 = .ok (.invokevirtual 100, 3) := dn_182 (ob_cX4_within_0 20 rfl rfl) rfl
theorem dX4_within_23 : decode cX4_within 23 = .ok (.ifCond .eq 5, 3) := dn_153 (ob_cX4_within_0 23 rfl rfl) (by decide +kernel)
theorem dX4_within_26 : decode cX4_within 26 = .ok (.iconst 0, 1) := dn_3 (ob_cX4_within_0 26 rfl rfl)
theorem dX4_within_27 : decode cX4_within 27 = .ok (.ireturn, 1) := dn_172 (ob_cX4_within_0 27 rfl rfl)
theorem dX4_within_28 : decode cX4_within 28 = .ok (.iconst 0, 1) := dn_3 (ob_cX4_within_0 28 rfl rfl)
theorem dX4_within_29 : decode cX4_within 29 = .ok (.istore_n 3, 1) := dn_62 (ob_cX4_within_0 29 rfl rfl)
theorem dX4_within_30 : decode cX4_within 30 = .ok (.iload_n 3, 1) := dn_29 (ob_cX4_within_0 30 rfl rfl)
theorem dX4_within_31 : decode cX4_within 31 = .ok (.sipush 256, 3) := dn_17 (ob_cX4_within_0 31 rfl rfl) (by decide +kernel)
theorem dX4_within_34 : decode cX4_within 34 = .ok (.if_icmp .ge 29, 3) := dn_162 (ob_cX4_within_0 34 rfl rfl) (by decide +kernel)
theorem dX4_within_37 : decode cX4_within 37 = .ok (.aload_n 0, 1) := dn_42 (ob_cX4_within_0 37 rfl rfl)
theorem dX4_within_38 : decode cX4_within 38 = .ok (.iload_n 3, 1) := dn_29 (ob_cX4_within_0 38 rfl rfl)
theorem dX4_within_39 : decode cX4_within 39 = .ok (.iload_n 1, 1) := dn_27 (ob_cX4_within_0 39 rfl rfl)
theorem dX4_within_40 : decode cX4_within 40 = .ok (.invokevirtual 45, 3) := dn_182 (ob_cX4_within_1 0 rfl rfl) rfl
theorem dX4_within_43 : decode cX4_within 43 = .ok (.ifCond .eq 14, 3) := dn_153 (ob_cX4_within_1 3 rfl rfl) (by decide +kernel)
theorem dX4_within_46 : decode cX4_within 46 = .ok (.aload_n 0, 1) := dn_42 (ob_cX4_within_1 6 rfl rfl)
theorem dX4_within_47 : decode cX4_within 47 = .ok (.iload_n 3, 1) := dn_29 (ob_cX4_within_1 7 rfl rfl)
theorem dX4_within_48 : decode cX4_within 48 = .ok (.iload_n 2, 1) := dn_28 (ob_cX4_within_1 8 rfl rfl)
theorem dX4_within_49 : decode cX4_within 49 = .ok (.invokevirtual 45, 3) := dn_182 (ob_cX4_within_1 9 rfl rfl) rfl
theorem dX4_within_52 : decode cX4_within 52 = .ok (.ifCond .ne 5, 3) := dn_154 (ob_cX4_within_1 12 rfl rfl) (by decide +kernel)
theorem dX4_within_55 : decode cX4_within 55 = .ok (.iconst 0, 1) := dn_3 (ob_cX4_within_1 15 rfl rfl)
theorem dX4_within_56 : decode cX4_within 56 = .ok (.ireturn, 1) := dn_172 (ob_cX4_within_1 16 rfl rfl)
theorem dX4_within_57 : decode cX4_within 57 = .ok (.iinc 3 1, 3) := dn_132 (ob_cX4_within_1 17 rfl rfl) rfl (by decide +kernel)
theorem dX4_within_60 : decode cX4_within 60 = .ok (.goto (-30), 3) := dn_167 (ob_cX4_within_1 20 rfl rfl) (by decide +kernel)
theorem dX4_within_63 : decode cX4_within 63 = .ok (.iconst 1, 1) := dn_4 (ob_cX4_within_1 23 rfl rfl)
theorem dX4_within_64 : decode cX4_within 64 = .ok (.ireturn, 1) := dn_172 (ob_cX4_within_1 24 rfl rfl)
def kb_cX4_differ_0 : List UInt8 := [42, 27, 184, 0, 107, 153, 0, 17, 28, 184, 0, 107, 153, 0, 10, 29, 184, 0, 83, 154, 0, 7, 4, 167, 0, 4, 3, 182, 0, 100, 153, 0, 5, 3, 172, 29, 54, 4, 21, 4]
def kb_cX4_differ_1 : List UInt8 := [17, 1, 0, 162, 0, 29, 42, 21, 4, 27, 182, 0, 45, 42, 21, 4, 28, 182, 0, 45, 159, 0, 6, 21, 4, 172, 132, 4, 1, 167, 255, 225, 2, 172]
def tb_cX4_differ_2 : List UInt8 := []
def tb_cX4_differ_1 : List UInt8 := kb_cX4_differ_1 ++ tb_cX4_differ_2
def tb_cX4_differ_0 : List UInt8 := kb_cX4_differ_0 ++ tb_cX4_differ_1
set_option maxRecDepth 100000 in
theorem tb_cX4_differ : (cX4_differ).data.toList = tb_cX4_differ_0 := eqL_eq (by decide +kernel)
theorem ow_cX4_differ_0 (r : Nat) : (cX4_differ).data.toList.drop (0 + r) = tb_cX4_differ_0.drop r := by rw [tb_cX4_differ, Nat.zero_add]
theorem ow_cX4_differ_1 (r : Nat) : (cX4_differ).data.toList.drop (40 + r) = tb_cX4_differ_1.drop r := by
  have e := ow_cX4_differ_0 (40 + r)
  rw [show 0 + (40 + r) = 40 + r by omega] at e
  exact e.trans (dr_len (a := kb_cX4_differ_0) (t := tb_cX4_differ_1) (by decide +kernel))
theorem ob_cX4_differ_0 (r : Nat) {pc : Nat} {l : List UInt8} (hp : 0 + r = pc) (h : tb_cX4_differ_0.drop r = l) : (cX4_differ).data.toList.drop pc = l := by
  subst hp
  exact (ow_cX4_differ_0 r).trans h
theorem ob_cX4_differ_1 (r : Nat) {pc : Nat} {l : List UInt8} (hp : 40 + r = pc) (h : tb_cX4_differ_1.drop r = l) : (cX4_differ).data.toList.drop pc = l := by
  subst hp
  exact (ow_cX4_differ_1 r).trans h
theorem dX4_differ_0 : decode cX4_differ 0 = .ok (.aload_n 0, 1) := dn_42 (ob_cX4_differ_0 0 rfl rfl)
theorem dX4_differ_1 : decode cX4_differ 1 = .ok (.iload_n 1, 1) := dn_27 (ob_cX4_differ_0 1 rfl rfl)
theorem dX4_differ_2 : decode cX4_differ 2 = .ok (.invokestatic 107, 3) := dn_184 (ob_cX4_differ_0 2 rfl rfl) rfl
theorem dX4_differ_5 : decode cX4_differ 5 = .ok (.ifCond .eq 17, 3) := dn_153 (ob_cX4_differ_0 5 rfl rfl) (by decide +kernel)
theorem dX4_differ_8 : decode cX4_differ 8 = .ok (.iload_n 2, 1) := dn_28 (ob_cX4_differ_0 8 rfl rfl)
theorem dX4_differ_9 : decode cX4_differ 9 = .ok (.invokestatic 107, 3) := dn_184 (ob_cX4_differ_0 9 rfl rfl) rfl
theorem dX4_differ_12 : decode cX4_differ 12 = .ok (.ifCond .eq 10, 3) := dn_153 (ob_cX4_differ_0 12 rfl rfl) (by decide +kernel)
theorem dX4_differ_15 : decode cX4_differ 15 = .ok (.iload_n 3, 1) := dn_29 (ob_cX4_differ_0 15 rfl rfl)
theorem dX4_differ_16 : decode cX4_differ 16 = .ok (.invokestatic 83, 3) := dn_184 (ob_cX4_differ_0 16 rfl rfl) rfl
theorem dX4_differ_19 : decode cX4_differ 19 = .ok (.ifCond .ne 7, 3) := dn_154 (ob_cX4_differ_0 19 rfl rfl) (by decide +kernel)
theorem dX4_differ_22 : decode cX4_differ 22 = .ok (.iconst 1, 1) := dn_4 (ob_cX4_differ_0 22 rfl rfl)
theorem dX4_differ_23 : decode cX4_differ 23 = .ok (.goto 4, 3) := dn_167 (ob_cX4_differ_0 23 rfl rfl) (by decide +kernel)
theorem dX4_differ_26 : decode cX4_differ 26 = .ok (.iconst 0, 1) := dn_3 (ob_cX4_differ_0 26 rfl rfl)
theorem dX4_differ_27 : decode cX4_differ 27 = .ok (.invokevirtual 100, 3) := dn_182 (ob_cX4_differ_0 27 rfl rfl) rfl
theorem dX4_differ_30 : decode cX4_differ 30 = .ok (.ifCond .eq 5, 3) := dn_153 (ob_cX4_differ_0 30 rfl rfl) (by decide +kernel)
theorem dX4_differ_33 : decode cX4_differ 33 = .ok (.iconst 0, 1) := dn_3 (ob_cX4_differ_0 33 rfl rfl)
theorem dX4_differ_34 : decode cX4_differ 34 = .ok (.ireturn, 1) := dn_172 (ob_cX4_differ_0 34 rfl rfl)
theorem dX4_differ_35 : decode cX4_differ 35 = .ok (.iload_n 3, 1) := dn_29 (ob_cX4_differ_0 35 rfl rfl)
theorem dX4_differ_36 : decode cX4_differ 36 = .ok (.istore 4, 2) := dn_54 (ob_cX4_differ_0 36 rfl rfl) rfl
theorem dX4_differ_38 : decode cX4_differ 38 = .ok (.iload 4, 2) := dn_21 (ob_cX4_differ_0 38 rfl rfl) rfl
theorem dX4_differ_40 : decode cX4_differ 40 = .ok (.sipush 256, 3) := dn_17 (ob_cX4_differ_1 0 rfl rfl) (by decide +kernel)
theorem dX4_differ_43 : decode cX4_differ 43 = .ok (.if_icmp .ge 29, 3) := dn_162 (ob_cX4_differ_1 3 rfl rfl) (by decide +kernel)
theorem dX4_differ_46 : decode cX4_differ 46 = .ok (.aload_n 0, 1) := dn_42 (ob_cX4_differ_1 6 rfl rfl)
theorem dX4_differ_47 : decode cX4_differ 47 = .ok (.iload 4, 2) := dn_21 (ob_cX4_differ_1 7 rfl rfl) rfl
theorem dX4_differ_49 : decode cX4_differ 49 = .ok (.iload_n 1, 1) := dn_27 (ob_cX4_differ_1 9 rfl rfl)
theorem dX4_differ_50 : decode cX4_differ 50 = .ok (.invokevirtual 45, 3) := dn_182 (ob_cX4_differ_1 10 rfl rfl) rfl
theorem dX4_differ_53 : decode cX4_differ 53 = .ok (.aload_n 0, 1) := dn_42 (ob_cX4_differ_1 13 rfl rfl)
theorem dX4_differ_54 : decode cX4_differ 54 = .ok (.iload 4, 2) := dn_21 (ob_cX4_differ_1 14 rfl rfl) rfl
theorem dX4_differ_56 : decode cX4_differ 56 = .ok (.iload_n 2, 1) := dn_28 (ob_cX4_differ_1 16 rfl rfl)
theorem dX4_differ_57 : decode cX4_differ 57 = .ok (.invokevirtual 45, 3) := dn_182 (ob_cX4_differ_1 17 rfl rfl) rfl
theorem dX4_differ_60 : decode cX4_differ 60 = .ok (.if_icmp .eq 6, 3) := dn_159 (ob_cX4_differ_1 20 rfl rfl) (by decide +kernel)
theorem dX4_differ_63 : decode cX4_differ 63 = .ok (.iload 4, 2) := dn_21 (ob_cX4_differ_1 23 rfl rfl) rfl
theorem dX4_differ_65 : decode cX4_differ 65 = .ok (.ireturn, 1) := dn_172 (ob_cX4_differ_1 25 rfl rfl)
theorem dX4_differ_66 : decode cX4_differ 66 = .ok (.iinc 4 1, 3) := dn_132 (ob_cX4_differ_1 26 rfl rfl) rfl (by decide +kernel)
theorem dX4_differ_69 : decode cX4_differ 69 = .ok (.goto (-31), 3) := dn_167 (ob_cX4_differ_1 29 rfl rfl) (by decide +kernel)
theorem dX4_differ_72 : decode cX4_differ 72 = .ok (.iconst (-1), 1) := dn_2 (ob_cX4_differ_1 32 rfl rfl)
theorem dX4_differ_73 : decode cX4_differ 73 = .ok (.ireturn, 1) := dn_172 (ob_cX4_differ_1 33 rfl rfl)
def kb_cX4_length : List UInt8 := [42, 27, 184, 0, 70, 154, 0, 7, 4, 167, 0, 4, 3, 182, 0, 100, 153, 0, 7, 3, 167, 0, 9, 42, 180, 0, 18, 27, 46, 172]
set_option maxRecDepth 10000 in
theorem ob_cX4_length (r : Nat) {l : List UInt8} (h : kb_cX4_length.drop r = l) : (cX4_length).data.toList.drop r = l := by
  rw [show (cX4_length).data.toList = kb_cX4_length from eqL_eq (by decide +kernel)]
  exact h
theorem dX4_length_0 : decode cX4_length 0 = .ok (.aload_n 0, 1) := dn_42 (ob_cX4_length 0 rfl)
theorem dX4_length_1 : decode cX4_length 1 = .ok (.iload_n 1, 1) := dn_27 (ob_cX4_length 1 rfl)
theorem dX4_length_2 : decode cX4_length 2 = .ok (.invokestatic 70, 3) := dn_184 (ob_cX4_length 2 rfl) rfl
theorem dX4_length_5 : decode cX4_length 5 = .ok (.ifCond .ne 7, 3) := dn_154 (ob_cX4_length 5 rfl) (by decide +kernel)
theorem dX4_length_8 : decode cX4_length 8 = .ok (.iconst 1, 1) := dn_4 (ob_cX4_length 8 rfl)
theorem dX4_length_9 : decode cX4_length 9 = .ok (.goto 4, 3) := dn_167 (ob_cX4_length 9 rfl) (by decide +kernel)
theorem dX4_length_12 : decode cX4_length 12 = .ok (.iconst 0, 1) := dn_3 (ob_cX4_length 12 rfl)
theorem dX4_length_13 : decode cX4_length 13 = .ok (.invokevirtual 100, 3) := dn_182 (ob_cX4_length 13 rfl) rfl
theorem dX4_length_16 : decode cX4_length 16 = .ok (.ifCond .eq 7, 3) := dn_153 (ob_cX4_length 16 rfl) (by decide +kernel)
theorem dX4_length_19 : decode cX4_length 19 = .ok (.iconst 0, 1) := dn_3 (ob_cX4_length 19 rfl)
theorem dX4_length_20 : decode cX4_length 20 = .ok (.goto 9, 3) := dn_167 (ob_cX4_length 20 rfl) (by decide +kernel)
theorem dX4_length_23 : decode cX4_length 23 = .ok (.aload_n 0, 1) := dn_42 (ob_cX4_length 23 rfl)
theorem dX4_length_24 : decode cX4_length 24 = .ok (.getfield 18, 3) := dn_180 (ob_cX4_length 24 rfl) rfl
theorem dX4_length_27 : decode cX4_length 27 = .ok (.iload_n 1, 1) := dn_27 (ob_cX4_length 27 rfl)
theorem dX4_length_28 : decode cX4_length 28 = .ok (.iaload, 1) := dn_46 (ob_cX4_length 28 rfl)
theorem dX4_length_29 : decode cX4_length 29 = .ok (.ireturn, 1) := dn_172 (ob_cX4_length 29 rfl)
def kb_cX4_sign : List UInt8 := [42, 42, 27, 28, 182, 0, 89, 154, 0, 7, 4, 167, 0, 4, 3, 182, 0, 100, 153, 0, 7, 3, 167, 0, 11, 42, 180, 0, 15, 27, 50, 28, 46, 172]
set_option maxRecDepth 10000 in
theorem ob_cX4_sign (r : Nat) {l : List UInt8} (h : kb_cX4_sign.drop r = l) : (cX4_sign).data.toList.drop r = l := by
  rw [show (cX4_sign).data.toList = kb_cX4_sign from eqL_eq (by decide +kernel)]
  exact h
theorem dX4_sign_0 : decode cX4_sign 0 = .ok (.aload_n 0, 1) := dn_42 (ob_cX4_sign 0 rfl)
theorem dX4_sign_1 : decode cX4_sign 1 = .ok (.aload_n 0, 1) := dn_42 (ob_cX4_sign 1 rfl)
theorem dX4_sign_2 : decode cX4_sign 2 = .ok (.iload_n 1, 1) := dn_27 (ob_cX4_sign 2 rfl)
theorem dX4_sign_3 : decode cX4_sign 3 = .ok (.iload_n 2, 1) := dn_28 (ob_cX4_sign 3 rfl)
theorem dX4_sign_4 : decode cX4_sign 4 = .ok (.invokevirtual 89, 3) := dn_182 (ob_cX4_sign 4 rfl) rfl
theorem dX4_sign_7 : decode cX4_sign 7 = .ok (.ifCond .ne 7, 3) := dn_154 (ob_cX4_sign 7 rfl) (by decide +kernel)
theorem dX4_sign_10 : decode cX4_sign 10 = .ok (.iconst 1, 1) := dn_4 (ob_cX4_sign 10 rfl)
theorem dX4_sign_11 : decode cX4_sign 11 = .ok (.goto 4, 3) := dn_167 (ob_cX4_sign 11 rfl) (by decide +kernel)
theorem dX4_sign_14 : decode cX4_sign 14 = .ok (.iconst 0, 1) := dn_3 (ob_cX4_sign 14 rfl)
theorem dX4_sign_15 : decode cX4_sign 15 = .ok (.invokevirtual 100, 3) := dn_182 (ob_cX4_sign 15 rfl) rfl
theorem dX4_sign_18 : decode cX4_sign 18 = .ok (.ifCond .eq 7, 3) := dn_153 (ob_cX4_sign 18 rfl) (by decide +kernel)
theorem dX4_sign_21 : decode cX4_sign 21 = .ok (.iconst 0, 1) := dn_3 (ob_cX4_sign 21 rfl)
theorem dX4_sign_22 : decode cX4_sign 22 = .ok (.goto 11, 3) := dn_167 (ob_cX4_sign 22 rfl) (by decide +kernel)
theorem dX4_sign_25 : decode cX4_sign 25 = .ok (.aload_n 0, 1) := dn_42 (ob_cX4_sign 25 rfl)
theorem dX4_sign_26 : decode cX4_sign 26 = .ok (.getfield 15, 3) := dn_180 (ob_cX4_sign 26 rfl) rfl
theorem dX4_sign_29 : decode cX4_sign 29 = .ok (.iload_n 1, 1) := dn_27 (ob_cX4_sign 29 rfl)
theorem dX4_sign_30 : decode cX4_sign 30 = .ok (.aaload, 1) := dn_50 (ob_cX4_sign 30 rfl)
theorem dX4_sign_31 : decode cX4_sign 31 = .ok (.iload_n 2, 1) := dn_28 (ob_cX4_sign 31 rfl)
theorem dX4_sign_32 : decode cX4_sign 32 = .ok (.iaload, 1) := dn_46 (ob_cX4_sign 32 rfl)
theorem dX4_sign_33 : decode cX4_sign 33 = .ok (.ireturn, 1) := dn_172 (ob_cX4_sign 33 rfl)
def kb_cX4_joined_0 : List UInt8 := [187, 0, 123, 89, 183, 0, 125, 78, 3, 54, 4, 21, 4, 42, 180, 0, 18, 27, 46, 162, 0, 59, 45, 21, 4, 154, 0, 8, 18, 126, 167, 0, 5, 18, 128, 182, 0, 130, 28, 153, 0, 20]
def kb_cX4_joined_1 : List UInt8 := [42, 180, 0, 7, 42, 180, 0, 15, 27, 50, 21, 4, 46, 46, 167, 0, 12, 42, 180, 0, 15, 27, 50, 21, 4, 46, 182, 0, 134, 87, 132, 4, 1, 167, 255, 192, 45, 182, 0, 137]
def kb_cX4_joined_2 : List UInt8 := [176]
def tb_cX4_joined_3 : List UInt8 := []
def tb_cX4_joined_2 : List UInt8 := kb_cX4_joined_2 ++ tb_cX4_joined_3
def tb_cX4_joined_1 : List UInt8 := kb_cX4_joined_1 ++ tb_cX4_joined_2
def tb_cX4_joined_0 : List UInt8 := kb_cX4_joined_0 ++ tb_cX4_joined_1
set_option maxRecDepth 100000 in
theorem tb_cX4_joined : (cX4_joined).data.toList = tb_cX4_joined_0 := eqL_eq (by decide +kernel)
theorem ow_cX4_joined_0 (r : Nat) : (cX4_joined).data.toList.drop (0 + r) = tb_cX4_joined_0.drop r := by rw [tb_cX4_joined, Nat.zero_add]
theorem ow_cX4_joined_1 (r : Nat) : (cX4_joined).data.toList.drop (42 + r) = tb_cX4_joined_1.drop r := by
  have e := ow_cX4_joined_0 (42 + r)
  rw [show 0 + (42 + r) = 42 + r by omega] at e
  exact e.trans (dr_len (a := kb_cX4_joined_0) (t := tb_cX4_joined_1) (by decide +kernel))
theorem ow_cX4_joined_2 (r : Nat) : (cX4_joined).data.toList.drop (82 + r) = tb_cX4_joined_2.drop r := by
  have e := ow_cX4_joined_1 (40 + r)
  rw [show 42 + (40 + r) = 82 + r by omega] at e
  exact e.trans (dr_len (a := kb_cX4_joined_1) (t := tb_cX4_joined_2) (by decide +kernel))
theorem ob_cX4_joined_0 (r : Nat) {pc : Nat} {l : List UInt8} (hp : 0 + r = pc) (h : tb_cX4_joined_0.drop r = l) : (cX4_joined).data.toList.drop pc = l := by
  subst hp
  exact (ow_cX4_joined_0 r).trans h
theorem ob_cX4_joined_1 (r : Nat) {pc : Nat} {l : List UInt8} (hp : 42 + r = pc) (h : tb_cX4_joined_1.drop r = l) : (cX4_joined).data.toList.drop pc = l := by
  subst hp
  exact (ow_cX4_joined_1 r).trans h
theorem ob_cX4_joined_2 (r : Nat) {pc : Nat} {l : List UInt8} (hp : 82 + r = pc) (h : tb_cX4_joined_2.drop r = l) : (cX4_joined).data.toList.drop pc = l := by
  subst hp
  exact (ow_cX4_joined_2 r).trans h
theorem dX4_joined_0 : decode cX4_joined 0 = .ok (.new 123, 3) := dn_187 (ob_cX4_joined_0 0 rfl rfl) rfl
theorem dX4_joined_3 : decode cX4_joined 3 = .ok (.dup, 1) := dn_89 (ob_cX4_joined_0 3 rfl rfl)
theorem dX4_joined_4 : decode cX4_joined 4 = .ok (.invokespecial 125, 3) := dn_183 (ob_cX4_joined_0 4 rfl rfl) rfl
theorem dX4_joined_7 : decode cX4_joined 7 = .ok (.astore_n 3, 1) := dn_78 (ob_cX4_joined_0 7 rfl rfl)
theorem dX4_joined_8 : decode cX4_joined 8 = .ok (.iconst 0, 1) := dn_3 (ob_cX4_joined_0 8 rfl rfl)
theorem dX4_joined_9 : decode cX4_joined 9 = .ok (.istore 4, 2) := dn_54 (ob_cX4_joined_0 9 rfl rfl) rfl
theorem dX4_joined_11 : decode cX4_joined 11 = .ok (.iload 4, 2) := dn_21 (ob_cX4_joined_0 11 rfl rfl) rfl
theorem dX4_joined_13 : decode cX4_joined 13 = .ok (.aload_n 0, 1) := dn_42 (ob_cX4_joined_0 13 rfl rfl)
theorem dX4_joined_14 : decode cX4_joined 14 = .ok (.getfield 18, 3) := dn_180 (ob_cX4_joined_0 14 rfl rfl) rfl
theorem dX4_joined_17 : decode cX4_joined 17 = .ok (.iload_n 1, 1) := dn_27 (ob_cX4_joined_0 17 rfl rfl)
theorem dX4_joined_18 : decode cX4_joined 18 = .ok (.iaload, 1) := dn_46 (ob_cX4_joined_0 18 rfl rfl)
theorem dX4_joined_19 : decode cX4_joined 19 = .ok (.if_icmp .ge 59, 3) := dn_162 (ob_cX4_joined_0 19 rfl rfl) (by decide +kernel)
theorem dX4_joined_22 : decode cX4_joined 22 = .ok (.aload_n 3, 1) := dn_45 (ob_cX4_joined_0 22 rfl rfl)
theorem dX4_joined_23 : decode cX4_joined 23 = .ok (.iload 4, 2) := dn_21 (ob_cX4_joined_0 23 rfl rfl) rfl
theorem dX4_joined_25 : decode cX4_joined 25 = .ok (.ifCond .ne 8, 3) := dn_154 (ob_cX4_joined_0 25 rfl rfl) (by decide +kernel)
theorem dX4_joined_28 : decode cX4_joined 28 = .ok (.ldc 126, 2) := dn_18 (ob_cX4_joined_0 28 rfl rfl) rfl
theorem dX4_joined_30 : decode cX4_joined 30 = .ok (.goto 5, 3) := dn_167 (ob_cX4_joined_0 30 rfl rfl) (by decide +kernel)
theorem dX4_joined_33 : decode cX4_joined 33 = .ok (.ldc 128, 2) := dn_18 (ob_cX4_joined_0 33 rfl rfl) rfl
theorem dX4_joined_35 : decode cX4_joined 35 = .ok (.invokevirtual 130, 3) := dn_182 (ob_cX4_joined_0 35 rfl rfl) rfl
theorem dX4_joined_38 : decode cX4_joined 38 = .ok (.iload_n 2, 1) := dn_28 (ob_cX4_joined_0 38 rfl rfl)
theorem dX4_joined_39 : decode cX4_joined 39 = .ok (.ifCond .eq 20, 3) := dn_153 (ob_cX4_joined_0 39 rfl rfl) (by decide +kernel)
theorem dX4_joined_42 : decode cX4_joined 42 = .ok (.aload_n 0, 1) := dn_42 (ob_cX4_joined_1 0 rfl rfl)
theorem dX4_joined_43 : decode cX4_joined 43 = .ok (.getfield 7, 3) := dn_180 (ob_cX4_joined_1 1 rfl rfl) rfl
theorem dX4_joined_46 : decode cX4_joined 46 = .ok (.aload_n 0, 1) := dn_42 (ob_cX4_joined_1 4 rfl rfl)
theorem dX4_joined_47 : decode cX4_joined 47 = .ok (.getfield 15, 3) := dn_180 (ob_cX4_joined_1 5 rfl rfl) rfl
theorem dX4_joined_50 : decode cX4_joined 50 = .ok (.iload_n 1, 1) := dn_27 (ob_cX4_joined_1 8 rfl rfl)
theorem dX4_joined_51 : decode cX4_joined 51 = .ok (.aaload, 1) := dn_50 (ob_cX4_joined_1 9 rfl rfl)
theorem dX4_joined_52 : decode cX4_joined 52 = .ok (.iload 4, 2) := dn_21 (ob_cX4_joined_1 10 rfl rfl) rfl
theorem dX4_joined_54 : decode cX4_joined 54 = .ok (.iaload, 1) := dn_46 (ob_cX4_joined_1 12 rfl rfl)
theorem dX4_joined_55 : decode cX4_joined 55 = .ok (.iaload, 1) := dn_46 (ob_cX4_joined_1 13 rfl rfl)
theorem dX4_joined_56 : decode cX4_joined 56 = .ok (.goto 12, 3) := dn_167 (ob_cX4_joined_1 14 rfl rfl) (by decide +kernel)
theorem dX4_joined_59 : decode cX4_joined 59 = .ok (.aload_n 0, 1) := dn_42 (ob_cX4_joined_1 17 rfl rfl)
theorem dX4_joined_60 : decode cX4_joined 60 = .ok (.getfield 15, 3) := dn_180 (ob_cX4_joined_1 18 rfl rfl) rfl
theorem dX4_joined_63 : decode cX4_joined 63 = .ok (.iload_n 1, 1) := dn_27 (ob_cX4_joined_1 21 rfl rfl)
theorem dX4_joined_64 : decode cX4_joined 64 = .ok (.aaload, 1) := dn_50 (ob_cX4_joined_1 22 rfl rfl)
theorem dX4_joined_65 : decode cX4_joined 65 = .ok (.iload 4, 2) := dn_21 (ob_cX4_joined_1 23 rfl rfl) rfl
theorem dX4_joined_67 : decode cX4_joined 67 = .ok (.iaload, 1) := dn_46 (ob_cX4_joined_1 25 rfl rfl)
theorem dX4_joined_68 : decode cX4_joined 68 = .ok (.invokevirtual 134, 3) := dn_182 (ob_cX4_joined_1 26 rfl rfl) rfl
theorem dX4_joined_71 : decode cX4_joined 71 = .ok (.pop, 1) := dn_87 (ob_cX4_joined_1 29 rfl rfl)
theorem dX4_joined_72 : decode cX4_joined 72 = .ok (.iinc 4 1, 3) := dn_132 (ob_cX4_joined_1 30 rfl rfl) rfl (by decide +kernel)
theorem dX4_joined_75 : decode cX4_joined 75 = .ok (.goto (-64), 3) := dn_167 (ob_cX4_joined_1 33 rfl rfl) (by decide +kernel)
theorem dX4_joined_78 : decode cX4_joined 78 = .ok (.aload_n 3, 1) := dn_45 (ob_cX4_joined_1 36 rfl rfl)
theorem dX4_joined_79 : decode cX4_joined 79 = .ok (.invokevirtual 137, 3) := dn_182 (ob_cX4_joined_1 37 rfl rfl) rfl
theorem dX4_joined_82 : decode cX4_joined 82 = .ok (.areturn, 1) := dn_176 (ob_cX4_joined_2 0 rfl rfl)
def kb_cX4_signs : List UInt8 := [42, 27, 184, 0, 70, 154, 0, 7, 4, 167, 0, 4, 3, 182, 0, 100, 153, 0, 8, 18, 126, 167, 0, 9, 42, 27, 3, 182, 0, 141, 176]
set_option maxRecDepth 10000 in
theorem ob_cX4_signs (r : Nat) {l : List UInt8} (h : kb_cX4_signs.drop r = l) : (cX4_signs).data.toList.drop r = l := by
  rw [show (cX4_signs).data.toList = kb_cX4_signs from eqL_eq (by decide +kernel)]
  exact h
theorem dX4_signs_0 : decode cX4_signs 0 = .ok (.aload_n 0, 1) := dn_42 (ob_cX4_signs 0 rfl)
theorem dX4_signs_1 : decode cX4_signs 1 = .ok (.iload_n 1, 1) := dn_27 (ob_cX4_signs 1 rfl)
theorem dX4_signs_2 : decode cX4_signs 2 = .ok (.invokestatic 70, 3) := dn_184 (ob_cX4_signs 2 rfl) rfl
theorem dX4_signs_5 : decode cX4_signs 5 = .ok (.ifCond .ne 7, 3) := dn_154 (ob_cX4_signs 5 rfl) (by decide +kernel)
theorem dX4_signs_8 : decode cX4_signs 8 = .ok (.iconst 1, 1) := dn_4 (ob_cX4_signs 8 rfl)
theorem dX4_signs_9 : decode cX4_signs 9 = .ok (.goto 4, 3) := dn_167 (ob_cX4_signs 9 rfl) (by decide +kernel)
theorem dX4_signs_12 : decode cX4_signs 12 = .ok (.iconst 0, 1) := dn_3 (ob_cX4_signs 12 rfl)
theorem dX4_signs_13 : decode cX4_signs 13 = .ok (.invokevirtual 100, 3) := dn_182 (ob_cX4_signs 13 rfl) rfl
theorem dX4_signs_16 : decode cX4_signs 16 = .ok (.ifCond .eq 8, 3) := dn_153 (ob_cX4_signs 16 rfl) (by decide +kernel)
theorem dX4_signs_19 : decode cX4_signs 19 = .ok (.ldc 126, 2) := dn_18 (ob_cX4_signs 19 rfl) rfl
theorem dX4_signs_21 : decode cX4_signs 21 = .ok (.goto 9, 3) := dn_167 (ob_cX4_signs 21 rfl) (by decide +kernel)
theorem dX4_signs_24 : decode cX4_signs 24 = .ok (.aload_n 0, 1) := dn_42 (ob_cX4_signs 24 rfl)
theorem dX4_signs_25 : decode cX4_signs 25 = .ok (.iload_n 1, 1) := dn_27 (ob_cX4_signs 25 rfl)
theorem dX4_signs_26 : decode cX4_signs 26 = .ok (.iconst 0, 1) := dn_3 (ob_cX4_signs 26 rfl)
theorem dX4_signs_27 : decode cX4_signs 27 = .ok (.invokevirtual 141, 3) := dn_182 (ob_cX4_signs 27 rfl) rfl
theorem dX4_signs_30 : decode cX4_signs 30 = .ok (.areturn, 1) := dn_176 (ob_cX4_signs 30 rfl)
def kb_cX4_kindsOf : List UInt8 := [42, 27, 184, 0, 70, 154, 0, 7, 4, 167, 0, 4, 3, 182, 0, 100, 153, 0, 8, 18, 126, 167, 0, 9, 42, 27, 4, 182, 0, 141, 176]
set_option maxRecDepth 10000 in
theorem ob_cX4_kindsOf (r : Nat) {l : List UInt8} (h : kb_cX4_kindsOf.drop r = l) : (cX4_kindsOf).data.toList.drop r = l := by
  rw [show (cX4_kindsOf).data.toList = kb_cX4_kindsOf from eqL_eq (by decide +kernel)]
  exact h
theorem dX4_kindsOf_0 : decode cX4_kindsOf 0 = .ok (.aload_n 0, 1) := dn_42 (ob_cX4_kindsOf 0 rfl)
theorem dX4_kindsOf_1 : decode cX4_kindsOf 1 = .ok (.iload_n 1, 1) := dn_27 (ob_cX4_kindsOf 1 rfl)
theorem dX4_kindsOf_2 : decode cX4_kindsOf 2 = .ok (.invokestatic 70, 3) := dn_184 (ob_cX4_kindsOf 2 rfl) rfl
theorem dX4_kindsOf_5 : decode cX4_kindsOf 5 = .ok (.ifCond .ne 7, 3) := dn_154 (ob_cX4_kindsOf 5 rfl) (by decide +kernel)
theorem dX4_kindsOf_8 : decode cX4_kindsOf 8 = .ok (.iconst 1, 1) := dn_4 (ob_cX4_kindsOf 8 rfl)
theorem dX4_kindsOf_9 : decode cX4_kindsOf 9 = .ok (.goto 4, 3) := dn_167 (ob_cX4_kindsOf 9 rfl) (by decide +kernel)
theorem dX4_kindsOf_12 : decode cX4_kindsOf 12 = .ok (.iconst 0, 1) := dn_3 (ob_cX4_kindsOf 12 rfl)
theorem dX4_kindsOf_13 : decode cX4_kindsOf 13 = .ok (.invokevirtual 100, 3) := dn_182 (ob_cX4_kindsOf 13 rfl) rfl
theorem dX4_kindsOf_16 : decode cX4_kindsOf 16 = .ok (.ifCond .eq 8, 3) := dn_153 (ob_cX4_kindsOf 16 rfl) (by decide +kernel)
theorem dX4_kindsOf_19 : decode cX4_kindsOf 19 = .ok (.ldc 126, 2) := dn_18 (ob_cX4_kindsOf 19 rfl) rfl
theorem dX4_kindsOf_21 : decode cX4_kindsOf 21 = .ok (.goto 9, 3) := dn_167 (ob_cX4_kindsOf 21 rfl) (by decide +kernel)
theorem dX4_kindsOf_24 : decode cX4_kindsOf 24 = .ok (.aload_n 0, 1) := dn_42 (ob_cX4_kindsOf 24 rfl)
theorem dX4_kindsOf_25 : decode cX4_kindsOf 25 = .ok (.iload_n 1, 1) := dn_27 (ob_cX4_kindsOf 25 rfl)
theorem dX4_kindsOf_26 : decode cX4_kindsOf 26 = .ok (.iconst 1, 1) := dn_4 (ob_cX4_kindsOf 26 rfl)
theorem dX4_kindsOf_27 : decode cX4_kindsOf 27 = .ok (.invokevirtual 141, 3) := dn_182 (ob_cX4_kindsOf 27 rfl) rfl
theorem dX4_kindsOf_30 : decode cX4_kindsOf 30 = .ok (.areturn, 1) := dn_176 (ob_cX4_kindsOf 30 rfl)
def kb_cX4_countOf_0 : List UInt8 := [3, 62, 3, 54, 4, 21, 4, 42, 180, 0, 18, 27, 46, 162, 0, 34, 29, 42, 42, 180, 0, 15, 27, 50, 21, 4, 46, 28, 182, 0, 45, 153, 0, 7, 4, 167, 0, 4, 3, 96]
def kb_cX4_countOf_1 : List UInt8 := [62, 132, 4, 1, 167, 255, 217, 29, 172]
def tb_cX4_countOf_2 : List UInt8 := []
def tb_cX4_countOf_1 : List UInt8 := kb_cX4_countOf_1 ++ tb_cX4_countOf_2
def tb_cX4_countOf_0 : List UInt8 := kb_cX4_countOf_0 ++ tb_cX4_countOf_1
set_option maxRecDepth 100000 in
theorem tb_cX4_countOf : (cX4_countOf).data.toList = tb_cX4_countOf_0 := eqL_eq (by decide +kernel)
theorem ow_cX4_countOf_0 (r : Nat) : (cX4_countOf).data.toList.drop (0 + r) = tb_cX4_countOf_0.drop r := by rw [tb_cX4_countOf, Nat.zero_add]
theorem ow_cX4_countOf_1 (r : Nat) : (cX4_countOf).data.toList.drop (40 + r) = tb_cX4_countOf_1.drop r := by
  have e := ow_cX4_countOf_0 (40 + r)
  rw [show 0 + (40 + r) = 40 + r by omega] at e
  exact e.trans (dr_len (a := kb_cX4_countOf_0) (t := tb_cX4_countOf_1) (by decide +kernel))
theorem ob_cX4_countOf_0 (r : Nat) {pc : Nat} {l : List UInt8} (hp : 0 + r = pc) (h : tb_cX4_countOf_0.drop r = l) : (cX4_countOf).data.toList.drop pc = l := by
  subst hp
  exact (ow_cX4_countOf_0 r).trans h
theorem ob_cX4_countOf_1 (r : Nat) {pc : Nat} {l : List UInt8} (hp : 40 + r = pc) (h : tb_cX4_countOf_1.drop r = l) : (cX4_countOf).data.toList.drop pc = l := by
  subst hp
  exact (ow_cX4_countOf_1 r).trans h
theorem dX4_countOf_0 : decode cX4_countOf 0 = .ok (.iconst 0, 1) := dn_3 (ob_cX4_countOf_0 0 rfl rfl)
theorem dX4_countOf_1 : decode cX4_countOf 1 = .ok (.istore_n 3, 1) := dn_62 (ob_cX4_countOf_0 1 rfl rfl)
theorem dX4_countOf_2 : decode cX4_countOf 2 = .ok (.iconst 0, 1) := dn_3 (ob_cX4_countOf_0 2 rfl rfl)
theorem dX4_countOf_3 : decode cX4_countOf 3 = .ok (.istore 4, 2) := dn_54 (ob_cX4_countOf_0 3 rfl rfl) rfl
theorem dX4_countOf_5 : decode cX4_countOf 5 = .ok (.iload 4, 2) := dn_21 (ob_cX4_countOf_0 5 rfl rfl) rfl
theorem dX4_countOf_7 : decode cX4_countOf 7 = .ok (.aload_n 0, 1) := dn_42 (ob_cX4_countOf_0 7 rfl rfl)
theorem dX4_countOf_8 : decode cX4_countOf 8 = .ok (.getfield 18, 3) := dn_180 (ob_cX4_countOf_0 8 rfl rfl) rfl
theorem dX4_countOf_11 : decode cX4_countOf 11 = .ok (.iload_n 1, 1) := dn_27 (ob_cX4_countOf_0 11 rfl rfl)
theorem dX4_countOf_12 : decode cX4_countOf 12 = .ok (.iaload, 1) := dn_46 (ob_cX4_countOf_0 12 rfl rfl)
theorem dX4_countOf_13 : decode cX4_countOf 13 = .ok (.if_icmp .ge 34, 3) := dn_162 (ob_cX4_countOf_0 13 rfl rfl) (by decide +kernel)
theorem dX4_countOf_16 : decode cX4_countOf 16 = .ok (.iload_n 3, 1) := dn_29 (ob_cX4_countOf_0 16 rfl rfl)
theorem dX4_countOf_17 : decode cX4_countOf 17 = .ok (.aload_n 0, 1) := dn_42 (ob_cX4_countOf_0 17 rfl rfl)
theorem dX4_countOf_18 : decode cX4_countOf 18 = .ok (.aload_n 0, 1) := dn_42 (ob_cX4_countOf_0 18 rfl rfl)
theorem dX4_countOf_19 : decode cX4_countOf 19 = .ok (.getfield 15, 3) := dn_180 (ob_cX4_countOf_0 19 rfl rfl) rfl
theorem dX4_countOf_22 : decode cX4_countOf 22 = .ok (.iload_n 1, 1) := dn_27 (ob_cX4_countOf_0 22 rfl rfl)
theorem dX4_countOf_23 : decode cX4_countOf 23 = .ok (.aaload, 1) := dn_50 (ob_cX4_countOf_0 23 rfl rfl)
theorem dX4_countOf_24 : decode cX4_countOf 24 = .ok (.iload 4, 2) := dn_21 (ob_cX4_countOf_0 24 rfl rfl) rfl
theorem dX4_countOf_26 : decode cX4_countOf 26 = .ok (.iaload, 1) := dn_46 (ob_cX4_countOf_0 26 rfl rfl)
theorem dX4_countOf_27 : decode cX4_countOf 27 = .ok (.iload_n 2, 1) := dn_28 (ob_cX4_countOf_0 27 rfl rfl)
theorem dX4_countOf_28 : decode cX4_countOf 28 = .ok (.invokevirtual 45, 3) := dn_182 (ob_cX4_countOf_0 28 rfl rfl) rfl
theorem dX4_countOf_31 : decode cX4_countOf 31 = .ok (.ifCond .eq 7, 3) := dn_153 (ob_cX4_countOf_0 31 rfl rfl) (by decide +kernel)
theorem dX4_countOf_34 : decode cX4_countOf 34 = .ok (.iconst 1, 1) := dn_4 (ob_cX4_countOf_0 34 rfl rfl)
theorem dX4_countOf_35 : decode cX4_countOf 35 = .ok (.goto 4, 3) := dn_167 (ob_cX4_countOf_0 35 rfl rfl) (by decide +kernel)
theorem dX4_countOf_38 : decode cX4_countOf 38 = .ok (.iconst 0, 1) := dn_3 (ob_cX4_countOf_0 38 rfl rfl)
theorem dX4_countOf_39 : decode cX4_countOf 39 = .ok (.iadd, 1) := dn_96 (ob_cX4_countOf_0 39 rfl rfl)
theorem dX4_countOf_40 : decode cX4_countOf 40 = .ok (.istore_n 3, 1) := dn_62 (ob_cX4_countOf_1 0 rfl rfl)
theorem dX4_countOf_41 : decode cX4_countOf 41 = .ok (.iinc 4 1, 3) := dn_132 (ob_cX4_countOf_1 1 rfl rfl) rfl (by decide +kernel)
theorem dX4_countOf_44 : decode cX4_countOf 44 = .ok (.goto (-39), 3) := dn_167 (ob_cX4_countOf_1 4 rfl rfl) (by decide +kernel)
theorem dX4_countOf_47 : decode cX4_countOf 47 = .ok (.iload_n 3, 1) := dn_29 (ob_cX4_countOf_1 7 rfl rfl)
theorem dX4_countOf_48 : decode cX4_countOf 48 = .ok (.ireturn, 1) := dn_172 (ob_cX4_countOf_1 8 rfl rfl)
def kb_cX4_count_0 : List UInt8 := [42, 27, 184, 0, 70, 154, 0, 7, 4, 167, 0, 4, 3, 28, 184, 0, 107, 154, 0, 7, 4, 167, 0, 4, 3, 182, 0, 73, 153, 0, 7, 3, 167, 0, 9, 42, 27, 28, 182, 0, 145]
def kb_cX4_count_1 : List UInt8 := [172]
def tb_cX4_count_2 : List UInt8 := []
def tb_cX4_count_1 : List UInt8 := kb_cX4_count_1 ++ tb_cX4_count_2
def tb_cX4_count_0 : List UInt8 := kb_cX4_count_0 ++ tb_cX4_count_1
set_option maxRecDepth 100000 in
theorem tb_cX4_count : (cX4_count).data.toList = tb_cX4_count_0 := eqL_eq (by decide +kernel)
theorem ow_cX4_count_0 (r : Nat) : (cX4_count).data.toList.drop (0 + r) = tb_cX4_count_0.drop r := by rw [tb_cX4_count, Nat.zero_add]
theorem ow_cX4_count_1 (r : Nat) : (cX4_count).data.toList.drop (41 + r) = tb_cX4_count_1.drop r := by
  have e := ow_cX4_count_0 (41 + r)
  rw [show 0 + (41 + r) = 41 + r by omega] at e
  exact e.trans (dr_len (a := kb_cX4_count_0) (t := tb_cX4_count_1) (by decide +kernel))
theorem ob_cX4_count_0 (r : Nat) {pc : Nat} {l : List UInt8} (hp : 0 + r = pc) (h : tb_cX4_count_0.drop r = l) : (cX4_count).data.toList.drop pc = l := by
  subst hp
  exact (ow_cX4_count_0 r).trans h
theorem ob_cX4_count_1 (r : Nat) {pc : Nat} {l : List UInt8} (hp : 41 + r = pc) (h : tb_cX4_count_1.drop r = l) : (cX4_count).data.toList.drop pc = l := by
  subst hp
  exact (ow_cX4_count_1 r).trans h
theorem dX4_count_0 : decode cX4_count 0 = .ok (.aload_n 0, 1) := dn_42 (ob_cX4_count_0 0 rfl rfl)
theorem dX4_count_1 : decode cX4_count 1 = .ok (.iload_n 1, 1) := dn_27 (ob_cX4_count_0 1 rfl rfl)
theorem dX4_count_2 : decode cX4_count 2 = .ok (.invokestatic 70, 3) := dn_184 (ob_cX4_count_0 2 rfl rfl) rfl
theorem dX4_count_5 : decode cX4_count 5 = .ok (.ifCond .ne 7, 3) := dn_154 (ob_cX4_count_0 5 rfl rfl) (by decide +kernel)
theorem dX4_count_8 : decode cX4_count 8 = .ok (.iconst 1, 1) := dn_4 (ob_cX4_count_0 8 rfl rfl)
theorem dX4_count_9 : decode cX4_count 9 = .ok (.goto 4, 3) := dn_167 (ob_cX4_count_0 9 rfl rfl) (by decide +kernel)
theorem dX4_count_12 : decode cX4_count 12 = .ok (.iconst 0, 1) := dn_3 (ob_cX4_count_0 12 rfl rfl)
theorem dX4_count_13 : decode cX4_count 13 = .ok (.iload_n 2, 1) := dn_28 (ob_cX4_count_0 13 rfl rfl)
theorem dX4_count_14 : decode cX4_count 14 = .ok (.invokestatic 107, 3) := dn_184 (ob_cX4_count_0 14 rfl rfl) rfl
theorem dX4_count_17 : decode cX4_count 17 = .ok (.ifCond .ne 7, 3) := dn_154 (ob_cX4_count_0 17 rfl rfl) (by decide +kernel)
theorem dX4_count_20 : decode cX4_count 20 = .ok (.iconst 1, 1) := dn_4 (ob_cX4_count_0 20 rfl rfl)
theorem dX4_count_21 : decode cX4_count 21 = .ok (.goto 4, 3) := dn_167 (ob_cX4_count_0 21 rfl rfl) (by decide +kernel)
theorem dX4_count_24 : decode cX4_count 24 = .ok (.iconst 0, 1) := dn_3 (ob_cX4_count_0 24 rfl rfl)
theorem dX4_count_25 : decode cX4_count 25 = .ok (.invokevirtual 73, 3) := dn_182 (ob_cX4_count_0 25 rfl rfl) rfl
theorem dX4_count_28 : decode cX4_count 28 = .ok (.ifCond .eq 7, 3) := dn_153 (ob_cX4_count_0 28 rfl rfl) (by decide +kernel)
theorem dX4_count_31 : decode cX4_count 31 = .ok (.iconst 0, 1) := dn_3 (ob_cX4_count_0 31 rfl rfl)
theorem dX4_count_32 : decode cX4_count 32 = .ok (.goto 9, 3) := dn_167 (ob_cX4_count_0 32 rfl rfl) (by decide +kernel)
theorem dX4_count_35 : decode cX4_count 35 = .ok (.aload_n 0, 1) := dn_42 (ob_cX4_count_0 35 rfl rfl)
theorem dX4_count_36 : decode cX4_count 36 = .ok (.iload_n 1, 1) := dn_27 (ob_cX4_count_0 36 rfl rfl)
theorem dX4_count_37 : decode cX4_count 37 = .ok (.iload_n 2, 1) := dn_28 (ob_cX4_count_0 37 rfl rfl)
theorem dX4_count_38 : decode cX4_count 38 = .ok (.invokevirtual 145, 3) := dn_182 (ob_cX4_count_0 38 rfl rfl) rfl
theorem dX4_count_41 : decode cX4_count 41 = .ok (.ireturn, 1) := dn_172 (ob_cX4_count_1 0 rfl rfl)
def kb_cX4_countKind_0 : List UInt8 := [42, 27, 184, 0, 70, 154, 0, 7, 4, 167, 0, 4, 3, 28, 184, 0, 114, 154, 0, 7, 4, 167, 0, 4, 3, 182, 0, 73, 153, 0, 5, 3, 172, 3, 62, 3, 54, 4, 21, 4]
def kb_cX4_countKind_1 : List UInt8 := [42, 180, 0, 18, 27, 46, 162, 0, 35, 29, 42, 180, 0, 7, 42, 180, 0, 15, 27, 50, 21, 4, 46, 46, 28, 160, 0, 7, 4, 167, 0, 4, 3, 96, 62, 132, 4, 1, 167, 255, 216]
def kb_cX4_countKind_2 : List UInt8 := [29, 172]
def tb_cX4_countKind_3 : List UInt8 := []
def tb_cX4_countKind_2 : List UInt8 := kb_cX4_countKind_2 ++ tb_cX4_countKind_3
def tb_cX4_countKind_1 : List UInt8 := kb_cX4_countKind_1 ++ tb_cX4_countKind_2
def tb_cX4_countKind_0 : List UInt8 := kb_cX4_countKind_0 ++ tb_cX4_countKind_1
set_option maxRecDepth 100000 in
theorem tb_cX4_countKind : (cX4_countKind).data.toList = tb_cX4_countKind_0 := eqL_eq (by decide +kernel)
theorem ow_cX4_countKind_0 (r : Nat) : (cX4_countKind).data.toList.drop (0 + r) = tb_cX4_countKind_0.drop r := by rw [tb_cX4_countKind, Nat.zero_add]
theorem ow_cX4_countKind_1 (r : Nat) : (cX4_countKind).data.toList.drop (40 + r) = tb_cX4_countKind_1.drop r := by
  have e := ow_cX4_countKind_0 (40 + r)
  rw [show 0 + (40 + r) = 40 + r by omega] at e
  exact e.trans (dr_len (a := kb_cX4_countKind_0) (t := tb_cX4_countKind_1) (by decide +kernel))
theorem ow_cX4_countKind_2 (r : Nat) : (cX4_countKind).data.toList.drop (81 + r) = tb_cX4_countKind_2.drop r := by
  have e := ow_cX4_countKind_1 (41 + r)
  rw [show 40 + (41 + r) = 81 + r by omega] at e
  exact e.trans (dr_len (a := kb_cX4_countKind_1) (t := tb_cX4_countKind_2) (by decide +kernel))
theorem ob_cX4_countKind_0 (r : Nat) {pc : Nat} {l : List UInt8} (hp : 0 + r = pc) (h : tb_cX4_countKind_0.drop r = l) : (cX4_countKind).data.toList.drop pc = l := by
  subst hp
  exact (ow_cX4_countKind_0 r).trans h
theorem ob_cX4_countKind_1 (r : Nat) {pc : Nat} {l : List UInt8} (hp : 40 + r = pc) (h : tb_cX4_countKind_1.drop r = l) : (cX4_countKind).data.toList.drop pc = l := by
  subst hp
  exact (ow_cX4_countKind_1 r).trans h
theorem ob_cX4_countKind_2 (r : Nat) {pc : Nat} {l : List UInt8} (hp : 81 + r = pc) (h : tb_cX4_countKind_2.drop r = l) : (cX4_countKind).data.toList.drop pc = l := by
  subst hp
  exact (ow_cX4_countKind_2 r).trans h
theorem dX4_countKind_0 : decode cX4_countKind 0 = .ok (.aload_n 0, 1) := dn_42 (ob_cX4_countKind_0 0 rfl rfl)
theorem dX4_countKind_1 : decode cX4_countKind 1 = .ok (.iload_n 1, 1) := dn_27 (ob_cX4_countKind_0 1 rfl rfl)
theorem dX4_countKind_2 : decode cX4_countKind 2 = .ok (.invokestatic 70, 3) := dn_184 (ob_cX4_countKind_0 2 rfl rfl) rfl
theorem dX4_countKind_5 : decode cX4_countKind 5 = .ok (.ifCond .ne 7, 3) := dn_154 (ob_cX4_countKind_0 5 rfl rfl) (by decide +kernel)
theorem dX4_countKind_8 : decode cX4_countKind 8 = .ok (.iconst 1, 1) := dn_4 (ob_cX4_countKind_0 8 rfl rfl)
theorem dX4_countKind_9 : decode cX4_countKind 9 = .ok (.goto 4, 3) := dn_167 (ob_cX4_countKind_0 9 rfl rfl) (by decide +kernel)
theorem dX4_countKind_12 : decode cX4_countKind 12 = .ok (.iconst 0, 1) := dn_3 (ob_cX4_countKind_0 12 rfl rfl)
theorem dX4_countKind_13 : decode cX4_countKind 13 = .ok (.iload_n 2, 1) := dn_28 (ob_cX4_countKind_0 13 rfl rfl)
theorem dX4_countKind_14 : decode cX4_countKind 14 = .ok (.invokestatic 114, 3) := dn_184 (ob_cX4_countKind_0 14 rfl rfl) rfl
theorem dX4_countKind_17 : decode cX4_countKind 17 = .ok (.ifCond .ne 7, 3) := dn_154 (ob_cX4_countKind_0 17 rfl rfl) (by decide +kernel)
theorem dX4_countKind_20 : decode cX4_countKind 20 = .ok (.iconst 1, 1) := dn_4 (ob_cX4_countKind_0 20 rfl rfl)
theorem dX4_countKind_21 : decode cX4_countKind 21 = .ok (.goto 4, 3) := dn_167 (ob_cX4_countKind_0 21 rfl rfl) (by decide +kernel)
theorem dX4_countKind_24 : decode cX4_countKind 24 = .ok (.iconst 0, 1) := dn_3 (ob_cX4_countKind_0 24 rfl rfl)
theorem dX4_countKind_25 : decode cX4_countKind 25 = .ok (.invokevirtual 73, 3) := dn_182 (ob_cX4_countKind_0 25 rfl rfl) rfl
theorem dX4_countKind_28 : decode cX4_countKind 28 = .ok (.ifCond .eq 5, 3) := dn_153 (ob_cX4_countKind_0 28 rfl rfl) (by decide +kernel)
theorem dX4_countKind_31 : decode cX4_countKind 31 = .ok (.iconst 0, 1) := dn_3 (ob_cX4_countKind_0 31 rfl rfl)
theorem dX4_countKind_32 : decode cX4_countKind 32 = .ok (.ireturn, 1) := dn_172 (ob_cX4_countKind_0 32 rfl rfl)
theorem dX4_countKind_33 : decode cX4_countKind 33 = .ok (.iconst 0, 1) := dn_3 (ob_cX4_countKind_0 33 rfl rfl)
theorem dX4_countKind_34 : decode cX4_countKind 34 = .ok (.istore_n 3, 1) := dn_62 (ob_cX4_countKind_0 34 rfl rfl)
theorem dX4_countKind_35 : decode cX4_countKind 35 = .ok (.iconst 0, 1) := dn_3 (ob_cX4_countKind_0 35 rfl rfl)
theorem dX4_countKind_36 : decode cX4_countKind 36 = .ok (.istore 4, 2) := dn_54 (ob_cX4_countKind_0 36 rfl rfl) rfl
theorem dX4_countKind_38 : decode cX4_countKind 38 = .ok (.iload 4, 2) := dn_21 (ob_cX4_countKind_0 38 rfl rfl) rfl
theorem dX4_countKind_40 : decode cX4_countKind 40 = .ok (.aload_n 0, 1) := dn_42 (ob_cX4_countKind_1 0 rfl rfl)
theorem dX4_countKind_41 : decode cX4_countKind 41 = .ok (.getfield 18, 3) := dn_180 (ob_cX4_countKind_1 1 rfl rfl) rfl
theorem dX4_countKind_44 : decode cX4_countKind 44 = .ok (.iload_n 1, 1) := dn_27 (ob_cX4_countKind_1 4 rfl rfl)
theorem dX4_countKind_45 : decode cX4_countKind 45 = .ok (.iaload, 1) := dn_46 (ob_cX4_countKind_1 5 rfl rfl)
theorem dX4_countKind_46 : decode cX4_countKind 46 = .ok (.if_icmp .ge 35, 3) := dn_162 (ob_cX4_countKind_1 6 rfl rfl) (by decide +kernel)
theorem dX4_countKind_49 : decode cX4_countKind 49 = .ok (.iload_n 3, 1) := dn_29 (ob_cX4_countKind_1 9 rfl rfl)
theorem dX4_countKind_50 : decode cX4_countKind 50 = .ok (.aload_n 0, 1) := dn_42 (ob_cX4_countKind_1 10 rfl rfl)
theorem dX4_countKind_51 : decode cX4_countKind 51 = .ok (.getfield 7, 3) := dn_180 (ob_cX4_countKind_1 11 rfl rfl) rfl
theorem dX4_countKind_54 : decode cX4_countKind 54 = .ok (.aload_n 0, 1) := dn_42 (ob_cX4_countKind_1 14 rfl rfl)
theorem dX4_countKind_55 : decode cX4_countKind 55 = .ok (.getfield 15, 3) := dn_180 (ob_cX4_countKind_1 15 rfl rfl) rfl
theorem dX4_countKind_58 : decode cX4_countKind 58 = .ok (.iload_n 1, 1) := dn_27 (ob_cX4_countKind_1 18 rfl rfl)
theorem dX4_countKind_59 : decode cX4_countKind 59 = .ok (.aaload, 1) := dn_50 (ob_cX4_countKind_1 19 rfl rfl)
theorem dX4_countKind_60 : decode cX4_countKind 60 = .ok (.iload 4, 2) := dn_21 (ob_cX4_countKind_1 20 rfl rfl) rfl
theorem dX4_countKind_62 : decode cX4_countKind 62 = .ok (.iaload, 1) := dn_46 (ob_cX4_countKind_1 22 rfl rfl)
theorem dX4_countKind_63 : decode cX4_countKind 63 = .ok (.iaload, 1) := dn_46 (ob_cX4_countKind_1 23 rfl rfl)
theorem dX4_countKind_64 : decode cX4_countKind 64 = .ok (.iload_n 2, 1) := dn_28 (ob_cX4_countKind_1 24 rfl rfl)
theorem dX4_countKind_65 : decode cX4_countKind 65 = .ok (.if_icmp .ne 7, 3) := dn_160 (ob_cX4_countKind_1 25 rfl rfl) (by decide +kernel)
theorem dX4_countKind_68 : decode cX4_countKind 68 = .ok (.iconst 1, 1) := dn_4 (ob_cX4_countKind_1 28 rfl rfl)
theorem dX4_countKind_69 : decode cX4_countKind 69 = .ok (.goto 4, 3) := dn_167 (ob_cX4_countKind_1 29 rfl rfl) (by decide +kernel)
theorem dX4_countKind_72 : decode cX4_countKind 72 = .ok (.iconst 0, 1) := dn_3 (ob_cX4_countKind_1 32 rfl rfl)
theorem dX4_countKind_73 : decode cX4_countKind 73 = .ok (.iadd, 1) := dn_96 (ob_cX4_countKind_1 33 rfl rfl)
theorem dX4_countKind_74 : decode cX4_countKind 74 = .ok (.istore_n 3, 1) := dn_62 (ob_cX4_countKind_1 34 rfl rfl)
theorem dX4_countKind_75 : decode cX4_countKind 75 = .ok (.iinc 4 1, 3) := dn_132 (ob_cX4_countKind_1 35 rfl rfl) rfl (by decide +kernel)
theorem dX4_countKind_78 : decode cX4_countKind 78 = .ok (.goto (-40), 3) := dn_167 (ob_cX4_countKind_1 38 rfl rfl) (by decide +kernel)
theorem dX4_countKind_81 : decode cX4_countKind 81 = .ok (.iload_n 3, 1) := dn_29 (ob_cX4_countKind_2 0 rfl rfl)
theorem dX4_countKind_82 : decode cX4_countKind 82 = .ok (.ireturn, 1) := dn_172 (ob_cX4_countKind_2 1 rfl rfl)
def kb_cX4_isAll_0 : List UInt8 := [42, 27, 184, 0, 70, 154, 0, 7, 4, 167, 0, 4, 3, 28, 184, 0, 107, 154, 0, 7, 4, 167, 0, 4, 3, 182, 0, 73, 154, 0, 23, 42, 27, 3, 42, 180, 0, 18, 27, 46]
def kb_cX4_isAll_1 : List UInt8 := [28, 182, 0, 49, 153, 0, 7, 4, 167, 0, 4, 3, 172]
def tb_cX4_isAll_2 : List UInt8 := []
def tb_cX4_isAll_1 : List UInt8 := kb_cX4_isAll_1 ++ tb_cX4_isAll_2
def tb_cX4_isAll_0 : List UInt8 := kb_cX4_isAll_0 ++ tb_cX4_isAll_1
set_option maxRecDepth 100000 in
theorem tb_cX4_isAll : (cX4_isAll).data.toList = tb_cX4_isAll_0 := eqL_eq (by decide +kernel)
theorem ow_cX4_isAll_0 (r : Nat) : (cX4_isAll).data.toList.drop (0 + r) = tb_cX4_isAll_0.drop r := by rw [tb_cX4_isAll, Nat.zero_add]
theorem ow_cX4_isAll_1 (r : Nat) : (cX4_isAll).data.toList.drop (40 + r) = tb_cX4_isAll_1.drop r := by
  have e := ow_cX4_isAll_0 (40 + r)
  rw [show 0 + (40 + r) = 40 + r by omega] at e
  exact e.trans (dr_len (a := kb_cX4_isAll_0) (t := tb_cX4_isAll_1) (by decide +kernel))
theorem ob_cX4_isAll_0 (r : Nat) {pc : Nat} {l : List UInt8} (hp : 0 + r = pc) (h : tb_cX4_isAll_0.drop r = l) : (cX4_isAll).data.toList.drop pc = l := by
  subst hp
  exact (ow_cX4_isAll_0 r).trans h
theorem ob_cX4_isAll_1 (r : Nat) {pc : Nat} {l : List UInt8} (hp : 40 + r = pc) (h : tb_cX4_isAll_1.drop r = l) : (cX4_isAll).data.toList.drop pc = l := by
  subst hp
  exact (ow_cX4_isAll_1 r).trans h
theorem dX4_isAll_0 : decode cX4_isAll 0 = .ok (.aload_n 0, 1) := dn_42 (ob_cX4_isAll_0 0 rfl rfl)
theorem dX4_isAll_1 : decode cX4_isAll 1 = .ok (.iload_n 1, 1) := dn_27 (ob_cX4_isAll_0 1 rfl rfl)
theorem dX4_isAll_2 : decode cX4_isAll 2 = .ok (.invokestatic 70, 3) := dn_184 (ob_cX4_isAll_0 2 rfl rfl) rfl
theorem dX4_isAll_5 : decode cX4_isAll 5 = .ok (.ifCond .ne 7, 3) := dn_154 (ob_cX4_isAll_0 5 rfl rfl) (by decide +kernel)
theorem dX4_isAll_8 : decode cX4_isAll 8 = .ok (.iconst 1, 1) := dn_4 (ob_cX4_isAll_0 8 rfl rfl)
theorem dX4_isAll_9 : decode cX4_isAll 9 = .ok (.goto 4, 3) := dn_167 (ob_cX4_isAll_0 9 rfl rfl) (by decide +kernel)
theorem dX4_isAll_12 : decode cX4_isAll 12 = .ok (.iconst 0, 1) := dn_3 (ob_cX4_isAll_0 12 rfl rfl)
theorem dX4_isAll_13 : decode cX4_isAll 13 = .ok (.iload_n 2, 1) := dn_28 (ob_cX4_isAll_0 13 rfl rfl)
theorem dX4_isAll_14 : decode cX4_isAll 14 = .ok (.invokestatic 107, 3) := dn_184 (ob_cX4_isAll_0 14 rfl rfl) rfl
theorem dX4_isAll_17 : decode cX4_isAll 17 = .ok (.ifCond .ne 7, 3) := dn_154 (ob_cX4_isAll_0 17 rfl rfl) (by decide +kernel)
theorem dX4_isAll_20 : decode cX4_isAll 20 = .ok (.iconst 1, 1) := dn_4 (ob_cX4_isAll_0 20 rfl rfl)
theorem dX4_isAll_21 : decode cX4_isAll 21 = .ok (.goto 4, 3) := dn_167 (ob_cX4_isAll_0 21 rfl rfl) (by decide +kernel)
theorem dX4_isAll_24 : decode cX4_isAll 24 = .ok (.iconst 0, 1) := dn_3 (ob_cX4_isAll_0 24 rfl rfl)
theorem dX4_isAll_25 : decode cX4_isAll 25 = .ok (.invokevirtual 73, 3) := dn_182 (ob_cX4_isAll_0 25 rfl rfl) rfl
theorem dX4_isAll_28 : decode cX4_isAll 28 = .ok (.ifCond .ne 23, 3) := dn_154 (ob_cX4_isAll_0 28 rfl rfl) (by decide +kernel)
theorem dX4_isAll_31 : decode cX4_isAll 31 = .ok (.aload_n 0, 1) := dn_42 (ob_cX4_isAll_0 31 rfl rfl)
theorem dX4_isAll_32 : decode cX4_isAll 32 = .ok (.iload_n 1, 1) := dn_27 (ob_cX4_isAll_0 32 rfl rfl)
theorem dX4_isAll_33 : decode cX4_isAll 33 = .ok (.iconst 0, 1) := dn_3 (ob_cX4_isAll_0 33 rfl rfl)
theorem dX4_isAll_34 : decode cX4_isAll 34 = .ok (.aload_n 0, 1) := dn_42 (ob_cX4_isAll_0 34 rfl rfl)
theorem dX4_isAll_35 : decode cX4_isAll 35 = .ok (.getfield 18, 3) := dn_180 (ob_cX4_isAll_0 35 rfl rfl) rfl
theorem dX4_isAll_38 : decode cX4_isAll 38 = .ok (.iload_n 1, 1) := dn_27 (ob_cX4_isAll_0 38 rfl rfl)
theorem dX4_isAll_39 : decode cX4_isAll 39 = .ok (.iaload, 1) := dn_46 (ob_cX4_isAll_0 39 rfl rfl)
theorem dX4_isAll_40 : decode cX4_isAll 40 = .ok (.iload_n 2, 1) := dn_28 (ob_cX4_isAll_1 0 rfl rfl)
theorem dX4_isAll_41 : decode cX4_isAll 41 = .ok (.invokevirtual 49, 3) := dn_182 (ob_cX4_isAll_1 1 rfl rfl) rfl
theorem dX4_isAll_44 : decode cX4_isAll 44 = .ok (.ifCond .eq 7, 3) := dn_153 (ob_cX4_isAll_1 4 rfl rfl) (by decide +kernel)
theorem dX4_isAll_47 : decode cX4_isAll 47 = .ok (.iconst 1, 1) := dn_4 (ob_cX4_isAll_1 7 rfl rfl)
theorem dX4_isAll_48 : decode cX4_isAll 48 = .ok (.goto 4, 3) := dn_167 (ob_cX4_isAll_1 8 rfl rfl) (by decide +kernel)
theorem dX4_isAll_51 : decode cX4_isAll 51 = .ok (.iconst 0, 1) := dn_3 (ob_cX4_isAll_1 11 rfl rfl)
theorem dX4_isAll_52 : decode cX4_isAll 52 = .ok (.ireturn, 1) := dn_172 (ob_cX4_isAll_1 12 rfl rfl)
def kb_cX4_first_0 : List UInt8 := [42, 27, 184, 0, 70, 154, 0, 7, 4, 167, 0, 4, 3, 28, 184, 0, 107, 154, 0, 7, 4, 167, 0, 4, 3, 182, 0, 73, 153, 0, 5, 3, 172, 2, 54, 4, 3, 54, 5, 21, 5]
def kb_cX4_first_1 : List UInt8 := [42, 180, 0, 18, 27, 46, 162, 0, 39, 42, 42, 180, 0, 15, 27, 50, 21, 5, 46, 28, 182, 0, 45, 153, 0, 16, 29, 154, 0, 8, 21, 4, 156, 0, 7, 21, 5, 54, 4, 132, 5, 1]
def kb_cX4_first_2 : List UInt8 := [167, 255, 212, 21, 4, 172]
def tb_cX4_first_3 : List UInt8 := []
def tb_cX4_first_2 : List UInt8 := kb_cX4_first_2 ++ tb_cX4_first_3
def tb_cX4_first_1 : List UInt8 := kb_cX4_first_1 ++ tb_cX4_first_2
def tb_cX4_first_0 : List UInt8 := kb_cX4_first_0 ++ tb_cX4_first_1
set_option maxRecDepth 100000 in
theorem tb_cX4_first : (cX4_first).data.toList = tb_cX4_first_0 := eqL_eq (by decide +kernel)
theorem ow_cX4_first_0 (r : Nat) : (cX4_first).data.toList.drop (0 + r) = tb_cX4_first_0.drop r := by rw [tb_cX4_first, Nat.zero_add]
theorem ow_cX4_first_1 (r : Nat) : (cX4_first).data.toList.drop (41 + r) = tb_cX4_first_1.drop r := by
  have e := ow_cX4_first_0 (41 + r)
  rw [show 0 + (41 + r) = 41 + r by omega] at e
  exact e.trans (dr_len (a := kb_cX4_first_0) (t := tb_cX4_first_1) (by decide +kernel))
theorem ow_cX4_first_2 (r : Nat) : (cX4_first).data.toList.drop (83 + r) = tb_cX4_first_2.drop r := by
  have e := ow_cX4_first_1 (42 + r)
  rw [show 41 + (42 + r) = 83 + r by omega] at e
  exact e.trans (dr_len (a := kb_cX4_first_1) (t := tb_cX4_first_2) (by decide +kernel))
theorem ob_cX4_first_0 (r : Nat) {pc : Nat} {l : List UInt8} (hp : 0 + r = pc) (h : tb_cX4_first_0.drop r = l) : (cX4_first).data.toList.drop pc = l := by
  subst hp
  exact (ow_cX4_first_0 r).trans h
theorem ob_cX4_first_1 (r : Nat) {pc : Nat} {l : List UInt8} (hp : 41 + r = pc) (h : tb_cX4_first_1.drop r = l) : (cX4_first).data.toList.drop pc = l := by
  subst hp
  exact (ow_cX4_first_1 r).trans h
theorem ob_cX4_first_2 (r : Nat) {pc : Nat} {l : List UInt8} (hp : 83 + r = pc) (h : tb_cX4_first_2.drop r = l) : (cX4_first).data.toList.drop pc = l := by
  subst hp
  exact (ow_cX4_first_2 r).trans h
theorem dX4_first_0 : decode cX4_first 0 = .ok (.aload_n 0, 1) := dn_42 (ob_cX4_first_0 0 rfl rfl)
theorem dX4_first_1 : decode cX4_first 1 = .ok (.iload_n 1, 1) := dn_27 (ob_cX4_first_0 1 rfl rfl)
theorem dX4_first_2 : decode cX4_first 2 = .ok (.invokestatic 70, 3) := dn_184 (ob_cX4_first_0 2 rfl rfl) rfl
theorem dX4_first_5 : decode cX4_first 5 = .ok (.ifCond .ne 7, 3) := dn_154 (ob_cX4_first_0 5 rfl rfl) (by decide +kernel)
theorem dX4_first_8 : decode cX4_first 8 = .ok (.iconst 1, 1) := dn_4 (ob_cX4_first_0 8 rfl rfl)
theorem dX4_first_9 : decode cX4_first 9 = .ok (.goto 4, 3) := dn_167 (ob_cX4_first_0 9 rfl rfl) (by decide +kernel)
theorem dX4_first_12 : decode cX4_first 12 = .ok (.iconst 0, 1) := dn_3 (ob_cX4_first_0 12 rfl rfl)
theorem dX4_first_13 : decode cX4_first 13 = .ok (.iload_n 2, 1) := dn_28 (ob_cX4_first_0 13 rfl rfl)
theorem dX4_first_14 : decode cX4_first 14 = .ok (.invokestatic 107, 3) := dn_184 (ob_cX4_first_0 14 rfl rfl) rfl
theorem dX4_first_17 : decode cX4_first 17 = .ok (.ifCond .ne 7, 3) := dn_154 (ob_cX4_first_0 17 rfl rfl) (by decide +kernel)
theorem dX4_first_20 : decode cX4_first 20 = .ok (.iconst 1, 1) := dn_4 (ob_cX4_first_0 20 rfl rfl)
theorem dX4_first_21 : decode cX4_first 21 = .ok (.goto 4, 3) := dn_167 (ob_cX4_first_0 21 rfl rfl) (by decide +kernel)
theorem dX4_first_24 : decode cX4_first 24 = .ok (.iconst 0, 1) := dn_3 (ob_cX4_first_0 24 rfl rfl)
theorem dX4_first_25 : decode cX4_first 25 = .ok (.invokevirtual 73, 3) := dn_182 (ob_cX4_first_0 25 rfl rfl) rfl
theorem dX4_first_28 : decode cX4_first 28 = .ok (.ifCond .eq 5, 3) := dn_153 (ob_cX4_first_0 28 rfl rfl) (by decide +kernel)
theorem dX4_first_31 : decode cX4_first 31 = .ok (.iconst 0, 1) := dn_3 (ob_cX4_first_0 31 rfl rfl)
theorem dX4_first_32 : decode cX4_first 32 = .ok (.ireturn, 1) := dn_172 (ob_cX4_first_0 32 rfl rfl)
theorem dX4_first_33 : decode cX4_first 33 = .ok (.iconst (-1), 1) := dn_2 (ob_cX4_first_0 33 rfl rfl)
theorem dX4_first_34 : decode cX4_first 34 = .ok (.istore 4, 2) := dn_54 (ob_cX4_first_0 34 rfl rfl) rfl
theorem dX4_first_36 : decode cX4_first 36 = .ok (.iconst 0, 1) := dn_3 (ob_cX4_first_0 36 rfl rfl)
theorem dX4_first_37 : decode cX4_first 37 = .ok (.istore 5, 2) := dn_54 (ob_cX4_first_0 37 rfl rfl) rfl
theorem dX4_first_39 : decode cX4_first 39 = .ok (.iload 5, 2) := dn_21 (ob_cX4_first_0 39 rfl rfl) rfl
theorem dX4_first_41 : decode cX4_first 41 = .ok (.aload_n 0, 1) := dn_42 (ob_cX4_first_1 0 rfl rfl)
theorem dX4_first_42 : decode cX4_first 42 = .ok (.getfield 18, 3) := dn_180 (ob_cX4_first_1 1 rfl rfl) rfl
theorem dX4_first_45 : decode cX4_first 45 = .ok (.iload_n 1, 1) := dn_27 (ob_cX4_first_1 4 rfl rfl)
theorem dX4_first_46 : decode cX4_first 46 = .ok (.iaload, 1) := dn_46 (ob_cX4_first_1 5 rfl rfl)
theorem dX4_first_47 : decode cX4_first 47 = .ok (.if_icmp .ge 39, 3) := dn_162 (ob_cX4_first_1 6 rfl rfl) (by decide +kernel)
theorem dX4_first_50 : decode cX4_first 50 = .ok (.aload_n 0, 1) := dn_42 (ob_cX4_first_1 9 rfl rfl)
theorem dX4_first_51 : decode cX4_first 51 = .ok (.aload_n 0, 1) := dn_42 (ob_cX4_first_1 10 rfl rfl)
theorem dX4_first_52 : decode cX4_first 52 = .ok (.getfield 15, 3) := dn_180 (ob_cX4_first_1 11 rfl rfl) rfl
theorem dX4_first_55 : decode cX4_first 55 = .ok (.iload_n 1, 1) := dn_27 (ob_cX4_first_1 14 rfl rfl)
theorem dX4_first_56 : decode cX4_first 56 = .ok (.aaload, 1) := dn_50 (ob_cX4_first_1 15 rfl rfl)
theorem dX4_first_57 : decode cX4_first 57 = .ok (.iload 5, 2) := dn_21 (ob_cX4_first_1 16 rfl rfl) rfl
theorem dX4_first_59 : decode cX4_first 59 = .ok (.iaload, 1) := dn_46 (ob_cX4_first_1 18 rfl rfl)
theorem dX4_first_60 : decode cX4_first 60 = .ok (.iload_n 2, 1) := dn_28 (ob_cX4_first_1 19 rfl rfl)
theorem dX4_first_61 : decode cX4_first 61 = .ok (.invokevirtual 45, 3) := dn_182 (ob_cX4_first_1 20 rfl rfl) rfl
theorem dX4_first_64 : decode cX4_first 64 = .ok (.ifCond .eq 16, 3) := dn_153 (ob_cX4_first_1 23 rfl rfl) (by decide +kernel)
theorem dX4_first_67 : decode cX4_first 67 = .ok (.iload_n 3, 1) := dn_29 (ob_cX4_first_1 26 rfl rfl)
theorem dX4_first_68 : decode cX4_first 68 = .ok (.ifCond .ne 8, 3) := dn_154 (ob_cX4_first_1 27 rfl rfl) (by decide +kernel)
theorem dX4_first_71 : decode cX4_first 71 = .ok (.iload 4, 2) := dn_21 (ob_cX4_first_1 30 rfl rfl) rfl
theorem dX4_first_73 : decode cX4_first 73 = .ok (.ifCond .ge 7, 3) := dn_156 (ob_cX4_first_1 32 rfl rfl) (by decide +kernel)
theorem dX4_first_76 : decode cX4_first 76 = .ok (.iload 5, 2) := dn_21 (ob_cX4_first_1 35 rfl rfl) rfl
theorem dX4_first_78 : decode cX4_first 78 = .ok (.istore 4, 2) := dn_54 (ob_cX4_first_1 37 rfl rfl) rfl
theorem dX4_first_80 : decode cX4_first 80 = .ok (.iinc 5 1, 3) := dn_132 (ob_cX4_first_1 39 rfl rfl) rfl (by decide +kernel)
theorem dX4_first_83 : decode cX4_first 83 = .ok (.goto (-44), 3) := dn_167 (ob_cX4_first_2 0 rfl rfl) (by decide +kernel)
theorem dX4_first_86 : decode cX4_first 86 = .ok (.iload 4, 2) := dn_21 (ob_cX4_first_2 3 rfl rfl) rfl
theorem dX4_first_88 : decode cX4_first 88 = .ok (.ireturn, 1) := dn_172 (ob_cX4_first_2 5 rfl rfl)
def kb_cX4_alike_0 : List UInt8 := [42, 27, 184, 0, 70, 153, 0, 10, 28, 184, 0, 70, 154, 0, 7, 4, 167, 0, 4, 3, 182, 0, 100, 154, 0, 18, 42, 180, 0, 18, 27, 46, 42, 180, 0, 18, 28, 46, 159, 0, 5]
def kb_cX4_alike_1 : List UInt8 := [3, 172, 3, 62, 29, 42, 180, 0, 18, 27, 46, 162, 0, 40, 42, 180, 0, 7, 42, 180, 0, 15, 27, 50, 29, 46, 46, 42, 180, 0, 7, 42, 180, 0, 15, 28, 50, 29, 46, 46]
def kb_cX4_alike_2 : List UInt8 := [159, 0, 5, 3, 172, 132, 3, 1, 167, 255, 212, 4, 172]
def tb_cX4_alike_3 : List UInt8 := []
def tb_cX4_alike_2 : List UInt8 := kb_cX4_alike_2 ++ tb_cX4_alike_3
def tb_cX4_alike_1 : List UInt8 := kb_cX4_alike_1 ++ tb_cX4_alike_2
def tb_cX4_alike_0 : List UInt8 := kb_cX4_alike_0 ++ tb_cX4_alike_1
set_option maxRecDepth 100000 in
theorem tb_cX4_alike : (cX4_alike).data.toList = tb_cX4_alike_0 := eqL_eq (by decide +kernel)
theorem ow_cX4_alike_0 (r : Nat) : (cX4_alike).data.toList.drop (0 + r) = tb_cX4_alike_0.drop r := by rw [tb_cX4_alike, Nat.zero_add]
theorem ow_cX4_alike_1 (r : Nat) : (cX4_alike).data.toList.drop (41 + r) = tb_cX4_alike_1.drop r := by
  have e := ow_cX4_alike_0 (41 + r)
  rw [show 0 + (41 + r) = 41 + r by omega] at e
  exact e.trans (dr_len (a := kb_cX4_alike_0) (t := tb_cX4_alike_1) (by decide +kernel))
theorem ow_cX4_alike_2 (r : Nat) : (cX4_alike).data.toList.drop (81 + r) = tb_cX4_alike_2.drop r := by
  have e := ow_cX4_alike_1 (40 + r)
  rw [show 41 + (40 + r) = 81 + r by omega] at e
  exact e.trans (dr_len (a := kb_cX4_alike_1) (t := tb_cX4_alike_2) (by decide +kernel))
theorem ob_cX4_alike_0 (r : Nat) {pc : Nat} {l : List UInt8} (hp : 0 + r = pc) (h : tb_cX4_alike_0.drop r = l) : (cX4_alike).data.toList.drop pc = l := by
  subst hp
  exact (ow_cX4_alike_0 r).trans h
theorem ob_cX4_alike_1 (r : Nat) {pc : Nat} {l : List UInt8} (hp : 41 + r = pc) (h : tb_cX4_alike_1.drop r = l) : (cX4_alike).data.toList.drop pc = l := by
  subst hp
  exact (ow_cX4_alike_1 r).trans h
theorem ob_cX4_alike_2 (r : Nat) {pc : Nat} {l : List UInt8} (hp : 81 + r = pc) (h : tb_cX4_alike_2.drop r = l) : (cX4_alike).data.toList.drop pc = l := by
  subst hp
  exact (ow_cX4_alike_2 r).trans h
theorem dX4_alike_0 : decode cX4_alike 0 = .ok (.aload_n 0, 1) := dn_42 (ob_cX4_alike_0 0 rfl rfl)
theorem dX4_alike_1 : decode cX4_alike 1 = .ok (.iload_n 1, 1) := dn_27 (ob_cX4_alike_0 1 rfl rfl)
theorem dX4_alike_2 : decode cX4_alike 2 = .ok (.invokestatic 70, 3) := dn_184 (ob_cX4_alike_0 2 rfl rfl) rfl
theorem dX4_alike_5 : decode cX4_alike 5 = .ok (.ifCond .eq 10, 3) := dn_153 (ob_cX4_alike_0 5 rfl rfl) (by decide +kernel)
theorem dX4_alike_8 : decode cX4_alike 8 = .ok (.iload_n 2, 1) := dn_28 (ob_cX4_alike_0 8 rfl rfl)
theorem dX4_alike_9 : decode cX4_alike 9 = .ok (.invokestatic 70, 3) := dn_184 (ob_cX4_alike_0 9 rfl rfl) rfl
theorem dX4_alike_12 : decode cX4_alike 12 = .ok (.ifCond .ne 7, 3) := dn_154 (ob_cX4_alike_0 12 rfl rfl) (by decide +kernel)
theorem dX4_alike_15 : decode cX4_alike 15 = .ok (.iconst 1, 1) := dn_4 (ob_cX4_alike_0 15 rfl rfl)
theorem dX4_alike_16 : decode cX4_alike 16 = .ok (.goto 4, 3) := dn_167 (ob_cX4_alike_0 16 rfl rfl) (by decide +kernel)
theorem dX4_alike_19 : decode cX4_alike 19 = .ok (.iconst 0, 1) := dn_3 (ob_cX4_alike_0 19 rfl rfl)
theorem dX4_alike_20 : decode cX4_alike 20 = .ok (.invokevirtual 100, 3) := dn_182 (ob_cX4_alike_0 20 rfl rfl) rfl
theorem dX4_alike_23 : decode cX4_alike 23 = .ok (.ifCond .ne 18, 3) := dn_154 (ob_cX4_alike_0 23 rfl rfl) (by decide +kernel)
theorem dX4_alike_26 : decode cX4_alike 26 = .ok (.aload_n 0, 1) := dn_42 (ob_cX4_alike_0 26 rfl rfl)
theorem dX4_alike_27 : decode cX4_alike 27 = .ok (.getfield 18, 3) := dn_180 (ob_cX4_alike_0 27 rfl rfl) rfl
theorem dX4_alike_30 : decode cX4_alike 30 = .ok (.iload_n 1, 1) := dn_27 (ob_cX4_alike_0 30 rfl rfl)
theorem dX4_alike_31 : decode cX4_alike 31 = .ok (.iaload, 1) := dn_46 (ob_cX4_alike_0 31 rfl rfl)
theorem dX4_alike_32 : decode cX4_alike 32 = .ok (.aload_n 0, 1) := dn_42 (ob_cX4_alike_0 32 rfl rfl)
theorem dX4_alike_33 : decode cX4_alike 33 = .ok (.getfield 18, 3) := dn_180 (ob_cX4_alike_0 33 rfl rfl) rfl
theorem dX4_alike_36 : decode cX4_alike 36 = .ok (.iload_n 2, 1) := dn_28 (ob_cX4_alike_0 36 rfl rfl)
theorem dX4_alike_37 : decode cX4_alike 37 = .ok (.iaload, 1) := dn_46 (ob_cX4_alike_0 37 rfl rfl)
theorem dX4_alike_38 : decode cX4_alike 38 = .ok (.if_icmp .eq 5, 3) := dn_159 (ob_cX4_alike_0 38 rfl rfl) (by decide +kernel)
theorem dX4_alike_41 : decode cX4_alike 41 = .ok (.iconst 0, 1) := dn_3 (ob_cX4_alike_1 0 rfl rfl)
theorem dX4_alike_42 : decode cX4_alike 42 = .ok (.ireturn, 1) := dn_172 (ob_cX4_alike_1 1 rfl rfl)
theorem dX4_alike_43 : decode cX4_alike 43 = .ok (.iconst 0, 1) := dn_3 (ob_cX4_alike_1 2 rfl rfl)
theorem dX4_alike_44 : decode cX4_alike 44 = .ok (.istore_n 3, 1) := dn_62 (ob_cX4_alike_1 3 rfl rfl)
theorem dX4_alike_45 : decode cX4_alike 45 = .ok (.iload_n 3, 1) := dn_29 (ob_cX4_alike_1 4 rfl rfl)
theorem dX4_alike_46 : decode cX4_alike 46 = .ok (.aload_n 0, 1) := dn_42 (ob_cX4_alike_1 5 rfl rfl)
theorem dX4_alike_47 : decode cX4_alike 47 = .ok (.getfield 18, 3) := dn_180 (ob_cX4_alike_1 6 rfl rfl) rfl
theorem dX4_alike_50 : decode cX4_alike 50 = .ok (.iload_n 1, 1) := dn_27 (ob_cX4_alike_1 9 rfl rfl)
theorem dX4_alike_51 : decode cX4_alike 51 = .ok (.iaload, 1) := dn_46 (ob_cX4_alike_1 10 rfl rfl)
theorem dX4_alike_52 : decode cX4_alike 52 = .ok (.if_icmp .ge 40, 3) := dn_162 (ob_cX4_alike_1 11 rfl rfl) (by decide +kernel)
theorem dX4_alike_55 : decode cX4_alike 55 = .ok (.aload_n 0, 1) := dn_42 (ob_cX4_alike_1 14 rfl rfl)
theorem dX4_alike_56 : decode cX4_alike 56 = .ok (.getfield 7, 3) := dn_180 (ob_cX4_alike_1 15 rfl rfl) rfl
theorem dX4_alike_59 : decode cX4_alike 59 = .ok (.aload_n 0, 1) := dn_42 (ob_cX4_alike_1 18 rfl rfl)
theorem dX4_alike_60 : decode cX4_alike 60 = .ok (.getfield 15, 3) := dn_180 (ob_cX4_alike_1 19 rfl rfl) rfl
theorem dX4_alike_63 : decode cX4_alike 63 = .ok (.iload_n 1, 1) := dn_27 (ob_cX4_alike_1 22 rfl rfl)
theorem dX4_alike_64 : decode cX4_alike 64 = .ok (.aaload, 1) := dn_50 (ob_cX4_alike_1 23 rfl rfl)
theorem dX4_alike_65 : decode cX4_alike 65 = .ok (.iload_n 3, 1) := dn_29 (ob_cX4_alike_1 24 rfl rfl)
theorem dX4_alike_66 : decode cX4_alike 66 = .ok (.iaload, 1) := dn_46 (ob_cX4_alike_1 25 rfl rfl)
theorem dX4_alike_67 : decode cX4_alike 67 = .ok (.iaload, 1) := dn_46 (ob_cX4_alike_1 26 rfl rfl)
theorem dX4_alike_68 : decode cX4_alike 68 = .ok (.aload_n 0, 1) := dn_42 (ob_cX4_alike_1 27 rfl rfl)
theorem dX4_alike_69 : decode cX4_alike 69 = .ok (.getfield 7, 3) := dn_180 (ob_cX4_alike_1 28 rfl rfl) rfl
theorem dX4_alike_72 : decode cX4_alike 72 = .ok (.aload_n 0, 1) := dn_42 (ob_cX4_alike_1 31 rfl rfl)
theorem dX4_alike_73 : decode cX4_alike 73 = .ok (.getfield 15, 3) := dn_180 (ob_cX4_alike_1 32 rfl rfl) rfl
theorem dX4_alike_76 : decode cX4_alike 76 = .ok (.iload_n 2, 1) := dn_28 (ob_cX4_alike_1 35 rfl rfl)
theorem dX4_alike_77 : decode cX4_alike 77 = .ok (.aaload, 1) := dn_50 (ob_cX4_alike_1 36 rfl rfl)
theorem dX4_alike_78 : decode cX4_alike 78 = .ok (.iload_n 3, 1) := dn_29 (ob_cX4_alike_1 37 rfl rfl)
theorem dX4_alike_79 : decode cX4_alike 79 = .ok (.iaload, 1) := dn_46 (ob_cX4_alike_1 38 rfl rfl)
theorem dX4_alike_80 : decode cX4_alike 80 = .ok (.iaload, 1) := dn_46 (ob_cX4_alike_1 39 rfl rfl)
theorem dX4_alike_81 : decode cX4_alike 81 = .ok (.if_icmp .eq 5, 3) := dn_159 (ob_cX4_alike_2 0 rfl rfl) (by decide +kernel)
theorem dX4_alike_84 : decode cX4_alike 84 = .ok (.iconst 0, 1) := dn_3 (ob_cX4_alike_2 3 rfl rfl)
theorem dX4_alike_85 : decode cX4_alike 85 = .ok (.ireturn, 1) := dn_172 (ob_cX4_alike_2 4 rfl rfl)
theorem dX4_alike_86 : decode cX4_alike 86 = .ok (.iinc 3 1, 3) := dn_132 (ob_cX4_alike_2 5 rfl rfl) rfl (by decide +kernel)
theorem dX4_alike_89 : decode cX4_alike 89 = .ok (.goto (-44), 3) := dn_167 (ob_cX4_alike_2 8 rfl rfl) (by decide +kernel)
theorem dX4_alike_92 : decode cX4_alike 92 = .ok (.iconst 1, 1) := dn_4 (ob_cX4_alike_2 11 rfl rfl)
theorem dX4_alike_93 : decode cX4_alike 93 = .ok (.ireturn, 1) := dn_172 (ob_cX4_alike_2 12 rfl rfl)
def kb_cX4_isNameNow : List UInt8 := [42, 180, 0, 18, 27, 46, 158, 0, 22, 42, 27, 3, 42, 180, 0, 18, 27, 46, 182, 0, 57, 154, 0, 7, 4, 167, 0, 4, 3, 172]
set_option maxRecDepth 10000 in
theorem ob_cX4_isNameNow (r : Nat) {l : List UInt8} (h : kb_cX4_isNameNow.drop r = l) : (cX4_isNameNow).data.toList.drop r = l := by
  rw [show (cX4_isNameNow).data.toList = kb_cX4_isNameNow from eqL_eq (by decide +kernel)]
  exact h
theorem dX4_isNameNow_0 : decode cX4_isNameNow 0 = .ok (.aload_n 0, 1) := dn_42 (ob_cX4_isNameNow 0 rfl)
theorem dX4_isNameNow_1 : decode cX4_isNameNow 1 = .ok (.getfield 18, 3) := dn_180 (ob_cX4_isNameNow 1 rfl) rfl
theorem dX4_isNameNow_4 : decode cX4_isNameNow 4 = .ok (.iload_n 1, 1) := dn_27 (ob_cX4_isNameNow 4 rfl)
theorem dX4_isNameNow_5 : decode cX4_isNameNow 5 = .ok (.iaload, 1) := dn_46 (ob_cX4_isNameNow 5 rfl)
theorem dX4_isNameNow_6 : decode cX4_isNameNow 6 = .ok (.ifCond .le 22, 3) := dn_158 (ob_cX4_isNameNow 6 rfl) (by decide +kernel)
theorem dX4_isNameNow_9 : decode cX4_isNameNow 9 = .ok (.aload_n 0, 1) := dn_42 (ob_cX4_isNameNow 9 rfl)
theorem dX4_isNameNow_10 : decode cX4_isNameNow 10 = .ok (.iload_n 1, 1) := dn_27 (ob_cX4_isNameNow 10 rfl)
theorem dX4_isNameNow_11 : decode cX4_isNameNow 11 = .ok (.iconst 0, 1) := dn_3 (ob_cX4_isNameNow 11 rfl)
theorem dX4_isNameNow_12 : decode cX4_isNameNow 12 = .ok (.aload_n 0, 1) := dn_42 (ob_cX4_isNameNow 12 rfl)
theorem dX4_isNameNow_13 : decode cX4_isNameNow 13 = .ok (.getfield 18, 3) := dn_180 (ob_cX4_isNameNow 13 rfl) rfl
theorem dX4_isNameNow_16 : decode cX4_isNameNow 16 = .ok (.iload_n 1, 1) := dn_27 (ob_cX4_isNameNow 16 rfl)
theorem dX4_isNameNow_17 : decode cX4_isNameNow 17 = .ok (.iaload, 1) := dn_46 (ob_cX4_isNameNow 17 rfl)
theorem dX4_isNameNow_18 : decode cX4_isNameNow 18 = .ok (.invokevirtual 57, 3) := dn_182 (ob_cX4_isNameNow 18 rfl) rfl
theorem dX4_isNameNow_21 : decode cX4_isNameNow 21 = .ok (.ifCond .ne 7, 3) := dn_154 (ob_cX4_isNameNow 21 rfl) (by decide +kernel)
theorem dX4_isNameNow_24 : decode cX4_isNameNow 24 = .ok (.iconst 1, 1) := dn_4 (ob_cX4_isNameNow 24 rfl)
theorem dX4_isNameNow_25 : decode cX4_isNameNow 25 = .ok (.goto 4, 3) := dn_167 (ob_cX4_isNameNow 25 rfl) (by decide +kernel)
theorem dX4_isNameNow_28 : decode cX4_isNameNow 28 = .ok (.iconst 0, 1) := dn_3 (ob_cX4_isNameNow 28 rfl)
theorem dX4_isNameNow_29 : decode cX4_isNameNow 29 = .ok (.ireturn, 1) := dn_172 (ob_cX4_isNameNow 29 rfl)
def kb_cX4_isName : List UInt8 := [42, 27, 184, 0, 70, 154, 0, 7, 4, 167, 0, 4, 3, 182, 0, 100, 154, 0, 15, 42, 27, 182, 0, 148, 153, 0, 7, 4, 167, 0, 4, 3, 172]
set_option maxRecDepth 10000 in
theorem ob_cX4_isName (r : Nat) {l : List UInt8} (h : kb_cX4_isName.drop r = l) : (cX4_isName).data.toList.drop r = l := by
  rw [show (cX4_isName).data.toList = kb_cX4_isName from eqL_eq (by decide +kernel)]
  exact h
theorem dX4_isName_0 : decode cX4_isName 0 = .ok (.aload_n 0, 1) := dn_42 (ob_cX4_isName 0 rfl)
theorem dX4_isName_1 : decode cX4_isName 1 = .ok (.iload_n 1, 1) := dn_27 (ob_cX4_isName 1 rfl)
theorem dX4_isName_2 : decode cX4_isName 2 = .ok (.invokestatic 70, 3) := dn_184 (ob_cX4_isName 2 rfl) rfl
theorem dX4_isName_5 : decode cX4_isName 5 = .ok (.ifCond .ne 7, 3) := dn_154 (ob_cX4_isName 5 rfl) (by decide +kernel)
theorem dX4_isName_8 : decode cX4_isName 8 = .ok (.iconst 1, 1) := dn_4 (ob_cX4_isName 8 rfl)
theorem dX4_isName_9 : decode cX4_isName 9 = .ok (.goto 4, 3) := dn_167 (ob_cX4_isName 9 rfl) (by decide +kernel)
theorem dX4_isName_12 : decode cX4_isName 12 = .ok (.iconst 0, 1) := dn_3 (ob_cX4_isName 12 rfl)
theorem dX4_isName_13 : decode cX4_isName 13 = .ok (.invokevirtual 100, 3) := dn_182 (ob_cX4_isName 13 rfl) rfl
theorem dX4_isName_16 : decode cX4_isName 16 = .ok (.ifCond .ne 15, 3) := dn_154 (ob_cX4_isName 16 rfl) (by decide +kernel)
theorem dX4_isName_19 : decode cX4_isName 19 = .ok (.aload_n 0, 1) := dn_42 (ob_cX4_isName 19 rfl)
theorem dX4_isName_20 : decode cX4_isName 20 = .ok (.iload_n 1, 1) := dn_27 (ob_cX4_isName 20 rfl)
theorem dX4_isName_21 : decode cX4_isName 21 = .ok (.invokevirtual 148, 3) := dn_182 (ob_cX4_isName 21 rfl) rfl
theorem dX4_isName_24 : decode cX4_isName 24 = .ok (.ifCond .eq 7, 3) := dn_153 (ob_cX4_isName 24 rfl) (by decide +kernel)
theorem dX4_isName_27 : decode cX4_isName 27 = .ok (.iconst 1, 1) := dn_4 (ob_cX4_isName 27 rfl)
theorem dX4_isName_28 : decode cX4_isName 28 = .ok (.goto 4, 3) := dn_167 (ob_cX4_isName 28 rfl) (by decide +kernel)
theorem dX4_isName_31 : decode cX4_isName 31 = .ok (.iconst 0, 1) := dn_3 (ob_cX4_isName 31 rfl)
theorem dX4_isName_32 : decode cX4_isName 32 = .ok (.ireturn, 1) := dn_172 (ob_cX4_isName 32 rfl)
def kb_cX4_fault : List UInt8 := [42, 27, 184, 0, 70, 154, 0, 7, 4, 167, 0, 4, 3, 182, 0, 100, 153, 0, 7, 3, 167, 0, 8, 42, 27, 182, 0, 151, 172]
set_option maxRecDepth 10000 in
theorem ob_cX4_fault (r : Nat) {l : List UInt8} (h : kb_cX4_fault.drop r = l) : (cX4_fault).data.toList.drop r = l := by
  rw [show (cX4_fault).data.toList = kb_cX4_fault from eqL_eq (by decide +kernel)]
  exact h
theorem dX4_fault_0 : decode cX4_fault 0 = .ok (.aload_n 0, 1) := dn_42 (ob_cX4_fault 0 rfl)
theorem dX4_fault_1 : decode cX4_fault 1 = .ok (.iload_n 1, 1) := dn_27 (ob_cX4_fault 1 rfl)
theorem dX4_fault_2 : decode cX4_fault 2 = .ok (.invokestatic 70, 3) := dn_184 (ob_cX4_fault 2 rfl) rfl
theorem dX4_fault_5 : decode cX4_fault 5 = .ok (.ifCond .ne 7, 3) := dn_154 (ob_cX4_fault 5 rfl) (by decide +kernel)
theorem dX4_fault_8 : decode cX4_fault 8 = .ok (.iconst 1, 1) := dn_4 (ob_cX4_fault 8 rfl)
theorem dX4_fault_9 : decode cX4_fault 9 = .ok (.goto 4, 3) := dn_167 (ob_cX4_fault 9 rfl) (by decide +kernel)
theorem dX4_fault_12 : decode cX4_fault 12 = .ok (.iconst 0, 1) := dn_3 (ob_cX4_fault 12 rfl)
theorem dX4_fault_13 : decode cX4_fault 13 = .ok (.invokevirtual 100, 3) := dn_182 (ob_cX4_fault 13 rfl) rfl
theorem dX4_fault_16 : decode cX4_fault 16 = .ok (.ifCond .eq 7, 3) := dn_153 (ob_cX4_fault 16 rfl) (by decide +kernel)
theorem dX4_fault_19 : decode cX4_fault 19 = .ok (.iconst 0, 1) := dn_3 (ob_cX4_fault 19 rfl)
theorem dX4_fault_20 : decode cX4_fault 20 = .ok (.goto 8, 3) := dn_167 (ob_cX4_fault 20 rfl) (by decide +kernel)
theorem dX4_fault_23 : decode cX4_fault 23 = .ok (.aload_n 0, 1) := dn_42 (ob_cX4_fault 23 rfl)
theorem dX4_fault_24 : decode cX4_fault 24 = .ok (.iload_n 1, 1) := dn_27 (ob_cX4_fault 24 rfl)
theorem dX4_fault_25 : decode cX4_fault 25 = .ok (.invokevirtual 151, 3) := dn_182 (ob_cX4_fault 25 rfl) rfl
theorem dX4_fault_28 : decode cX4_fault 28 = .ok (.ireturn, 1) := dn_172 (ob_cX4_fault 28 rfl)
def kb_cX4_sort_0 : List UInt8 := [42, 27, 184, 0, 70, 153, 0, 22, 28, 155, 0, 18, 28, 29, 162, 0, 13, 29, 42, 180, 0, 18, 27, 46, 164, 0, 7, 4, 167, 0, 4, 3, 182, 0, 100, 153, 0, 7, 3, 167, 0, 10]
def kb_cX4_sort_1 : List UInt8 := [42, 27, 28, 29, 182, 0, 57, 172]
def tb_cX4_sort_2 : List UInt8 := []
def tb_cX4_sort_1 : List UInt8 := kb_cX4_sort_1 ++ tb_cX4_sort_2
def tb_cX4_sort_0 : List UInt8 := kb_cX4_sort_0 ++ tb_cX4_sort_1
set_option maxRecDepth 100000 in
theorem tb_cX4_sort : (cX4_sort).data.toList = tb_cX4_sort_0 := eqL_eq (by decide +kernel)
theorem ow_cX4_sort_0 (r : Nat) : (cX4_sort).data.toList.drop (0 + r) = tb_cX4_sort_0.drop r := by rw [tb_cX4_sort, Nat.zero_add]
theorem ow_cX4_sort_1 (r : Nat) : (cX4_sort).data.toList.drop (42 + r) = tb_cX4_sort_1.drop r := by
  have e := ow_cX4_sort_0 (42 + r)
  rw [show 0 + (42 + r) = 42 + r by omega] at e
  exact e.trans (dr_len (a := kb_cX4_sort_0) (t := tb_cX4_sort_1) (by decide +kernel))
theorem ob_cX4_sort_0 (r : Nat) {pc : Nat} {l : List UInt8} (hp : 0 + r = pc) (h : tb_cX4_sort_0.drop r = l) : (cX4_sort).data.toList.drop pc = l := by
  subst hp
  exact (ow_cX4_sort_0 r).trans h
theorem ob_cX4_sort_1 (r : Nat) {pc : Nat} {l : List UInt8} (hp : 42 + r = pc) (h : tb_cX4_sort_1.drop r = l) : (cX4_sort).data.toList.drop pc = l := by
  subst hp
  exact (ow_cX4_sort_1 r).trans h
theorem dX4_sort_0 : decode cX4_sort 0 = .ok (.aload_n 0, 1) := dn_42 (ob_cX4_sort_0 0 rfl rfl)
theorem dX4_sort_1 : decode cX4_sort 1 = .ok (.iload_n 1, 1) := dn_27 (ob_cX4_sort_0 1 rfl rfl)
theorem dX4_sort_2 : decode cX4_sort 2 = .ok (.invokestatic 70, 3) := dn_184 (ob_cX4_sort_0 2 rfl rfl) rfl
theorem dX4_sort_5 : decode cX4_sort 5 = .ok (.ifCond .eq 22, 3) := dn_153 (ob_cX4_sort_0 5 rfl rfl) (by decide +kernel)
theorem dX4_sort_8 : decode cX4_sort 8 = .ok (.iload_n 2, 1) := dn_28 (ob_cX4_sort_0 8 rfl rfl)
theorem dX4_sort_9 : decode cX4_sort 9 = .ok (.ifCond .lt 18, 3) := dn_155 (ob_cX4_sort_0 9 rfl rfl) (by decide +kernel)
theorem dX4_sort_12 : decode cX4_sort 12 = .ok (.iload_n 2, 1) := dn_28 (ob_cX4_sort_0 12 rfl rfl)
theorem dX4_sort_13 : decode cX4_sort 13 = .ok (.iload_n 3, 1) := dn_29 (ob_cX4_sort_0 13 rfl rfl)
theorem dX4_sort_14 : decode cX4_sort 14 = .ok (.if_icmp .ge 13, 3) := dn_162 (ob_cX4_sort_0 14 rfl rfl) (by decide +kernel)
theorem dX4_sort_17 : decode cX4_sort 17 = .ok (.iload_n 3, 1) := dn_29 (ob_cX4_sort_0 17 rfl rfl)
theorem dX4_sort_18 : decode cX4_sort 18 = .ok (.aload_n 0, 1) := dn_42 (ob_cX4_sort_0 18 rfl rfl)
theorem dX4_sort_19 : decode cX4_sort 19 = .ok (.getfield 18, 3) := dn_180 (ob_cX4_sort_0 19 rfl rfl) rfl
theorem dX4_sort_22 : decode cX4_sort 22 = .ok (.iload_n 1, 1) := dn_27 (ob_cX4_sort_0 22 rfl rfl)
theorem dX4_sort_23 : decode cX4_sort 23 = .ok (.iaload, 1) := dn_46 (ob_cX4_sort_0 23 rfl rfl)
theorem dX4_sort_24 : decode cX4_sort 24 = .ok (.if_icmp .le 7, 3) := dn_164 (ob_cX4_sort_0 24 rfl rfl) (by decide +kernel)
theorem dX4_sort_27 : decode cX4_sort 27 = .ok (.iconst 1, 1) := dn_4 (ob_cX4_sort_0 27 rfl rfl)
theorem dX4_sort_28 : decode cX4_sort 28 = .ok (.goto 4, 3) := dn_167 (ob_cX4_sort_0 28 rfl rfl) (by decide +kernel)
theorem dX4_sort_31 : decode cX4_sort 31 = .ok (.iconst 0, 1) := dn_3 (ob_cX4_sort_0 31 rfl rfl)
theorem dX4_sort_32 : decode cX4_sort 32 = .ok (.invokevirtual 100, 3) := dn_182 (ob_cX4_sort_0 32 rfl rfl) rfl
theorem dX4_sort_35 : decode cX4_sort 35 = .ok (.ifCond .eq 7, 3) := dn_153 (ob_cX4_sort_0 35 rfl rfl) (by decide +kernel)
theorem dX4_sort_38 : decode cX4_sort 38 = .ok (.iconst 0, 1) := dn_3 (ob_cX4_sort_0 38 rfl rfl)
theorem dX4_sort_39 : decode cX4_sort 39 = .ok (.goto 10, 3) := dn_167 (ob_cX4_sort_0 39 rfl rfl) (by decide +kernel)
theorem dX4_sort_42 : decode cX4_sort 42 = .ok (.aload_n 0, 1) := dn_42 (ob_cX4_sort_1 0 rfl rfl)
theorem dX4_sort_43 : decode cX4_sort 43 = .ok (.iload_n 1, 1) := dn_27 (ob_cX4_sort_1 1 rfl rfl)
theorem dX4_sort_44 : decode cX4_sort 44 = .ok (.iload_n 2, 1) := dn_28 (ob_cX4_sort_1 2 rfl rfl)
theorem dX4_sort_45 : decode cX4_sort 45 = .ok (.iload_n 3, 1) := dn_29 (ob_cX4_sort_1 3 rfl rfl)
theorem dX4_sort_46 : decode cX4_sort 46 = .ok (.invokevirtual 57, 3) := dn_182 (ob_cX4_sort_1 4 rfl rfl) rfl
theorem dX4_sort_49 : decode cX4_sort 49 = .ok (.ireturn, 1) := dn_172 (ob_cX4_sort_1 7 rfl rfl)
def kb_cX4_longest : List UInt8 := [42, 42, 27, 28, 182, 0, 89, 154, 0, 7, 4, 167, 0, 4, 3, 182, 0, 100, 153, 0, 7, 3, 167, 0, 9, 42, 27, 28, 182, 0, 61, 172]
set_option maxRecDepth 10000 in
theorem ob_cX4_longest (r : Nat) {l : List UInt8} (h : kb_cX4_longest.drop r = l) : (cX4_longest).data.toList.drop r = l := by
  rw [show (cX4_longest).data.toList = kb_cX4_longest from eqL_eq (by decide +kernel)]
  exact h
theorem dX4_longest_0 : decode cX4_longest 0 = .ok (.aload_n 0, 1) := dn_42 (ob_cX4_longest 0 rfl)
theorem dX4_longest_1 : decode cX4_longest 1 = .ok (.aload_n 0, 1) := dn_42 (ob_cX4_longest 1 rfl)
theorem dX4_longest_2 : decode cX4_longest 2 = .ok (.iload_n 1, 1) := dn_27 (ob_cX4_longest 2 rfl)
theorem dX4_longest_3 : decode cX4_longest 3 = .ok (.iload_n 2, 1) := dn_28 (ob_cX4_longest 3 rfl)
theorem dX4_longest_4 : decode cX4_longest 4 = .ok (.invokevirtual 89, 3) := dn_182 (ob_cX4_longest 4 rfl) rfl
theorem dX4_longest_7 : decode cX4_longest 7 = .ok (.ifCond .ne 7, 3) := dn_154 (ob_cX4_longest 7 rfl) (by decide +kernel)
theorem dX4_longest_10 : decode cX4_longest 10 = .ok (.iconst 1, 1) := dn_4 (ob_cX4_longest 10 rfl)
theorem dX4_longest_11 : decode cX4_longest 11 = .ok (.goto 4, 3) := dn_167 (ob_cX4_longest 11 rfl) (by decide +kernel)
theorem dX4_longest_14 : decode cX4_longest 14 = .ok (.iconst 0, 1) := dn_3 (ob_cX4_longest 14 rfl)
theorem dX4_longest_15 : decode cX4_longest 15 = .ok (.invokevirtual 100, 3) := dn_182 (ob_cX4_longest 15 rfl) rfl
theorem dX4_longest_18 : decode cX4_longest 18 = .ok (.ifCond .eq 7, 3) := dn_153 (ob_cX4_longest 18 rfl) (by decide +kernel)
theorem dX4_longest_21 : decode cX4_longest 21 = .ok (.iconst 0, 1) := dn_3 (ob_cX4_longest 21 rfl)
theorem dX4_longest_22 : decode cX4_longest 22 = .ok (.goto 9, 3) := dn_167 (ob_cX4_longest 22 rfl) (by decide +kernel)
theorem dX4_longest_25 : decode cX4_longest 25 = .ok (.aload_n 0, 1) := dn_42 (ob_cX4_longest 25 rfl)
theorem dX4_longest_26 : decode cX4_longest 26 = .ok (.iload_n 1, 1) := dn_27 (ob_cX4_longest 26 rfl)
theorem dX4_longest_27 : decode cX4_longest 27 = .ok (.iload_n 2, 1) := dn_28 (ob_cX4_longest 27 rfl)
theorem dX4_longest_28 : decode cX4_longest 28 = .ok (.invokevirtual 61, 3) := dn_182 (ob_cX4_longest 28 rfl) rfl
theorem dX4_longest_31 : decode cX4_longest 31 = .ok (.ireturn, 1) := dn_172 (ob_cX4_longest 31 rfl)
def kb_cX4_pieces : List UInt8 := [42, 27, 184, 0, 70, 154, 0, 7, 4, 167, 0, 4, 3, 182, 0, 100, 153, 0, 7, 3, 167, 0, 8, 42, 27, 182, 0, 154, 172]
set_option maxRecDepth 10000 in
theorem ob_cX4_pieces (r : Nat) {l : List UInt8} (h : kb_cX4_pieces.drop r = l) : (cX4_pieces).data.toList.drop r = l := by
  rw [show (cX4_pieces).data.toList = kb_cX4_pieces from eqL_eq (by decide +kernel)]
  exact h
theorem dX4_pieces_0 : decode cX4_pieces 0 = .ok (.aload_n 0, 1) := dn_42 (ob_cX4_pieces 0 rfl)
theorem dX4_pieces_1 : decode cX4_pieces 1 = .ok (.iload_n 1, 1) := dn_27 (ob_cX4_pieces 1 rfl)
theorem dX4_pieces_2 : decode cX4_pieces 2 = .ok (.invokestatic 70, 3) := dn_184 (ob_cX4_pieces 2 rfl) rfl
theorem dX4_pieces_5 : decode cX4_pieces 5 = .ok (.ifCond .ne 7, 3) := dn_154 (ob_cX4_pieces 5 rfl) (by decide +kernel)
theorem dX4_pieces_8 : decode cX4_pieces 8 = .ok (.iconst 1, 1) := dn_4 (ob_cX4_pieces 8 rfl)
theorem dX4_pieces_9 : decode cX4_pieces 9 = .ok (.goto 4, 3) := dn_167 (ob_cX4_pieces 9 rfl) (by decide +kernel)
theorem dX4_pieces_12 : decode cX4_pieces 12 = .ok (.iconst 0, 1) := dn_3 (ob_cX4_pieces 12 rfl)
theorem dX4_pieces_13 : decode cX4_pieces 13 = .ok (.invokevirtual 100, 3) := dn_182 (ob_cX4_pieces 13 rfl) rfl
theorem dX4_pieces_16 : decode cX4_pieces 16 = .ok (.ifCond .eq 7, 3) := dn_153 (ob_cX4_pieces 16 rfl) (by decide +kernel)
theorem dX4_pieces_19 : decode cX4_pieces 19 = .ok (.iconst 0, 1) := dn_3 (ob_cX4_pieces 19 rfl)
theorem dX4_pieces_20 : decode cX4_pieces 20 = .ok (.goto 8, 3) := dn_167 (ob_cX4_pieces 20 rfl) (by decide +kernel)
theorem dX4_pieces_23 : decode cX4_pieces 23 = .ok (.aload_n 0, 1) := dn_42 (ob_cX4_pieces 23 rfl)
theorem dX4_pieces_24 : decode cX4_pieces 24 = .ok (.iload_n 1, 1) := dn_27 (ob_cX4_pieces 24 rfl)
theorem dX4_pieces_25 : decode cX4_pieces 25 = .ok (.invokevirtual 154, 3) := dn_182 (ob_cX4_pieces 25 rfl) rfl
theorem dX4_pieces_28 : decode cX4_pieces 28 = .ok (.ireturn, 1) := dn_172 (ob_cX4_pieces 28 rfl)
def kb_cX4_piece_0 : List UInt8 := [42, 27, 184, 0, 70, 153, 0, 16, 28, 155, 0, 12, 42, 27, 28, 182, 0, 117, 156, 0, 7, 4, 167, 0, 4, 3, 29, 155, 0, 8, 29, 5, 164, 0, 7, 4, 167, 0, 4, 3]
def kb_cX4_piece_1 : List UInt8 := [182, 0, 73, 153, 0, 5, 3, 172, 42, 27, 28, 182, 0, 117, 54, 4, 42, 27, 21, 4, 182, 0, 61, 54, 5, 29, 154, 0, 8, 21, 4, 167, 0, 25, 29, 4, 160, 0, 8, 21, 5]
def kb_cX4_piece_2 : List UInt8 := [167, 0, 15, 42, 27, 21, 4, 21, 4, 21, 5, 96, 182, 0, 57, 172]
def tb_cX4_piece_3 : List UInt8 := []
def tb_cX4_piece_2 : List UInt8 := kb_cX4_piece_2 ++ tb_cX4_piece_3
def tb_cX4_piece_1 : List UInt8 := kb_cX4_piece_1 ++ tb_cX4_piece_2
def tb_cX4_piece_0 : List UInt8 := kb_cX4_piece_0 ++ tb_cX4_piece_1
set_option maxRecDepth 100000 in
theorem tb_cX4_piece : (cX4_piece).data.toList = tb_cX4_piece_0 := eqL_eq (by decide +kernel)
theorem ow_cX4_piece_0 (r : Nat) : (cX4_piece).data.toList.drop (0 + r) = tb_cX4_piece_0.drop r := by rw [tb_cX4_piece, Nat.zero_add]
theorem ow_cX4_piece_1 (r : Nat) : (cX4_piece).data.toList.drop (40 + r) = tb_cX4_piece_1.drop r := by
  have e := ow_cX4_piece_0 (40 + r)
  rw [show 0 + (40 + r) = 40 + r by omega] at e
  exact e.trans (dr_len (a := kb_cX4_piece_0) (t := tb_cX4_piece_1) (by decide +kernel))
theorem ow_cX4_piece_2 (r : Nat) : (cX4_piece).data.toList.drop (81 + r) = tb_cX4_piece_2.drop r := by
  have e := ow_cX4_piece_1 (41 + r)
  rw [show 40 + (41 + r) = 81 + r by omega] at e
  exact e.trans (dr_len (a := kb_cX4_piece_1) (t := tb_cX4_piece_2) (by decide +kernel))
theorem ob_cX4_piece_0 (r : Nat) {pc : Nat} {l : List UInt8} (hp : 0 + r = pc) (h : tb_cX4_piece_0.drop r = l) : (cX4_piece).data.toList.drop pc = l := by
  subst hp
  exact (ow_cX4_piece_0 r).trans h
theorem ob_cX4_piece_1 (r : Nat) {pc : Nat} {l : List UInt8} (hp : 40 + r = pc) (h : tb_cX4_piece_1.drop r = l) : (cX4_piece).data.toList.drop pc = l := by
  subst hp
  exact (ow_cX4_piece_1 r).trans h
theorem ob_cX4_piece_2 (r : Nat) {pc : Nat} {l : List UInt8} (hp : 81 + r = pc) (h : tb_cX4_piece_2.drop r = l) : (cX4_piece).data.toList.drop pc = l := by
  subst hp
  exact (ow_cX4_piece_2 r).trans h
theorem dX4_piece_0 : decode cX4_piece 0 = .ok (.aload_n 0, 1) := dn_42 (ob_cX4_piece_0 0 rfl rfl)
theorem dX4_piece_1 : decode cX4_piece 1 = .ok (.iload_n 1, 1) := dn_27 (ob_cX4_piece_0 1 rfl rfl)
theorem dX4_piece_2 : decode cX4_piece 2 = .ok (.invokestatic 70, 3) := dn_184 (ob_cX4_piece_0 2 rfl rfl) rfl
theorem dX4_piece_5 : decode cX4_piece 5 = .ok (.ifCond .eq 16, 3) := dn_153 (ob_cX4_piece_0 5 rfl rfl) (by decide +kernel)
theorem dX4_piece_8 : decode cX4_piece 8 = .ok (.iload_n 2, 1) := dn_28 (ob_cX4_piece_0 8 rfl rfl)
theorem dX4_piece_9 : decode cX4_piece 9 = .ok (.ifCond .lt 12, 3) := dn_155 (ob_cX4_piece_0 9 rfl rfl) (by decide +kernel)
theorem dX4_piece_12 : decode cX4_piece 12 = .ok (.aload_n 0, 1) := dn_42 (ob_cX4_piece_0 12 rfl rfl)
theorem dX4_piece_13 : decode cX4_piece 13 = .ok (.iload_n 1, 1) := dn_27 (ob_cX4_piece_0 13 rfl rfl)
theorem dX4_piece_14 : decode cX4_piece 14 = .ok (.iload_n 2, 1) := dn_28 (ob_cX4_piece_0 14 rfl rfl)
theorem dX4_piece_15 : decode cX4_piece 15 = .ok (.invokevirtual 117, 3) := dn_182 (ob_cX4_piece_0 15 rfl rfl) rfl
theorem dX4_piece_18 : decode cX4_piece 18 = .ok (.ifCond .ge 7, 3) := dn_156 (ob_cX4_piece_0 18 rfl rfl) (by decide +kernel)
theorem dX4_piece_21 : decode cX4_piece 21 = .ok (.iconst 1, 1) := dn_4 (ob_cX4_piece_0 21 rfl rfl)
theorem dX4_piece_22 : decode cX4_piece 22 = .ok (.goto 4, 3) := dn_167 (ob_cX4_piece_0 22 rfl rfl) (by decide +kernel)
theorem dX4_piece_25 : decode cX4_piece 25 = .ok (.iconst 0, 1) := dn_3 (ob_cX4_piece_0 25 rfl rfl)
theorem dX4_piece_26 : decode cX4_piece 26 = .ok (.iload_n 3, 1) := dn_29 (ob_cX4_piece_0 26 rfl rfl)
theorem dX4_piece_27 : decode cX4_piece 27 = .ok (.ifCond .lt 8, 3) := dn_155 (ob_cX4_piece_0 27 rfl rfl) (by decide +kernel)
theorem dX4_piece_30 : decode cX4_piece 30 = .ok (.iload_n 3, 1) := dn_29 (ob_cX4_piece_0 30 rfl rfl)
theorem dX4_piece_31 : decode cX4_piece 31 = .ok (.iconst 2, 1) := dn_5 (ob_cX4_piece_0 31 rfl rfl)
theorem dX4_piece_32 : decode cX4_piece 32 = .ok (.if_icmp .le 7, 3) := dn_164 (ob_cX4_piece_0 32 rfl rfl) (by decide +kernel)
theorem dX4_piece_35 : decode cX4_piece 35 = .ok (.iconst 1, 1) := dn_4 (ob_cX4_piece_0 35 rfl rfl)
theorem dX4_piece_36 : decode cX4_piece 36 = .ok (.goto 4, 3) := dn_167 (ob_cX4_piece_0 36 rfl rfl) (by decide +kernel)
theorem dX4_piece_39 : decode cX4_piece 39 = .ok (.iconst 0, 1) := dn_3 (ob_cX4_piece_0 39 rfl rfl)
theorem dX4_piece_40 : decode cX4_piece 40 = .ok (.invokevirtual 73, 3) := dn_182 (ob_cX4_piece_1 0 rfl rfl) rfl
theorem dX4_piece_43 : decode cX4_piece 43 = .ok (.ifCond .eq 5, 3) := dn_153 (ob_cX4_piece_1 3 rfl rfl) (by decide +kernel)
theorem dX4_piece_46 : decode cX4_piece 46 = .ok (.iconst 0, 1) := dn_3 (ob_cX4_piece_1 6 rfl rfl)
theorem dX4_piece_47 : decode cX4_piece 47 = .ok (.ireturn, 1) := dn_172 (ob_cX4_piece_1 7 rfl rfl)
theorem dX4_piece_48 : decode cX4_piece 48 = .ok (.aload_n 0, 1) := dn_42 (ob_cX4_piece_1 8 rfl rfl)
theorem dX4_piece_49 : decode cX4_piece 49 = .ok (.iload_n 1, 1) := dn_27 (ob_cX4_piece_1 9 rfl rfl)
theorem dX4_piece_50 : decode cX4_piece 50 = .ok (.iload_n 2, 1) := dn_28 (ob_cX4_piece_1 10 rfl rfl)
theorem dX4_piece_51 : decode cX4_piece 51 = .ok (.invokevirtual 117, 3) := dn_182 (ob_cX4_piece_1 11 rfl rfl) rfl
theorem dX4_piece_54 : decode cX4_piece 54 = .ok (.istore 4, 2) := dn_54 (ob_cX4_piece_1 14 rfl rfl) rfl
theorem dX4_piece_56 : decode cX4_piece 56 = .ok (.aload_n 0, 1) := dn_42 (ob_cX4_piece_1 16 rfl rfl)
theorem dX4_piece_57 : decode cX4_piece 57 = .ok (.iload_n 1, 1) := dn_27 (ob_cX4_piece_1 17 rfl rfl)
theorem dX4_piece_58 : decode cX4_piece 58 = .ok (.iload 4, 2) := dn_21 (ob_cX4_piece_1 18 rfl rfl) rfl
theorem dX4_piece_60 : decode cX4_piece 60 = .ok (.invokevirtual 61, 3) := dn_182 (ob_cX4_piece_1 20 rfl rfl) rfl
theorem dX4_piece_63 : decode cX4_piece 63 = .ok (.istore 5, 2) := dn_54 (ob_cX4_piece_1 23 rfl rfl) rfl
theorem dX4_piece_65 : decode cX4_piece 65 = .ok (.iload_n 3, 1) := dn_29 (ob_cX4_piece_1 25 rfl rfl)
theorem dX4_piece_66 : decode cX4_piece 66 = .ok (.ifCond .ne 8, 3) := dn_154 (ob_cX4_piece_1 26 rfl rfl) (by decide +kernel)
theorem dX4_piece_69 : decode cX4_piece 69 = .ok (.iload 4, 2) := dn_21 (ob_cX4_piece_1 29 rfl rfl) rfl
theorem dX4_piece_71 : decode cX4_piece 71 = .ok (.goto 25, 3) := dn_167 (ob_cX4_piece_1 31 rfl rfl) (by decide +kernel)
theorem dX4_piece_74 : decode cX4_piece 74 = .ok (.iload_n 3, 1) := dn_29 (ob_cX4_piece_1 34 rfl rfl)
theorem dX4_piece_75 : decode cX4_piece 75 = .ok (.iconst 1, 1) := dn_4 (ob_cX4_piece_1 35 rfl rfl)
theorem dX4_piece_76 : decode cX4_piece 76 = .ok (.if_icmp .ne 8, 3) := dn_160 (ob_cX4_piece_1 36 rfl rfl) (by decide +kernel)
theorem dX4_piece_79 : decode cX4_piece 79 = .ok (.iload 5, 2) := dn_21 (ob_cX4_piece_1 39 rfl rfl) rfl
theorem dX4_piece_81 : decode cX4_piece 81 = .ok (.goto 15, 3) := dn_167 (ob_cX4_piece_2 0 rfl rfl) (by decide +kernel)
theorem dX4_piece_84 : decode cX4_piece 84 = .ok (.aload_n 0, 1) := dn_42 (ob_cX4_piece_2 3 rfl rfl)
theorem dX4_piece_85 : decode cX4_piece 85 = .ok (.iload_n 1, 1) := dn_27 (ob_cX4_piece_2 4 rfl rfl)
theorem dX4_piece_86 : decode cX4_piece 86 = .ok (.iload 4, 2) := dn_21 (ob_cX4_piece_2 5 rfl rfl) rfl
theorem dX4_piece_88 : decode cX4_piece 88 = .ok (.iload 4, 2) := dn_21 (ob_cX4_piece_2 7 rfl rfl) rfl
theorem dX4_piece_90 : decode cX4_piece 90 = .ok (.iload 5, 2) := dn_21 (ob_cX4_piece_2 9 rfl rfl) rfl
theorem dX4_piece_92 : decode cX4_piece 92 = .ok (.iadd, 1) := dn_96 (ob_cX4_piece_2 11 rfl rfl)
theorem dX4_piece_93 : decode cX4_piece 93 = .ok (.invokevirtual 57, 3) := dn_182 (ob_cX4_piece_2 12 rfl rfl) rfl
theorem dX4_piece_96 : decode cX4_piece 96 = .ok (.ireturn, 1) := dn_172 (ob_cX4_piece_2 15 rfl rfl)
def kb_cX4_sorts_0 : List UInt8 := [42, 27, 184, 0, 70, 154, 0, 7, 4, 167, 0, 4, 3, 182, 0, 100, 153, 0, 6, 18, 126, 176, 187, 0, 123, 89, 183, 0, 125, 77, 3, 62, 29, 42, 180, 0, 18, 27, 46, 162, 0, 48]
def kb_cX4_sorts_1 : List UInt8 := [44, 29, 154, 0, 8, 18, 126, 167, 0, 5, 18, 128, 182, 0, 130, 42, 27, 29, 29, 42, 27, 29, 182, 0, 61, 96, 182, 0, 57, 182, 0, 134, 87, 29, 42, 27, 29, 182, 0, 61]
def kb_cX4_sorts_2 : List UInt8 := [96, 62, 167, 255, 204, 44, 182, 0, 137, 176]
def tb_cX4_sorts_3 : List UInt8 := []
def tb_cX4_sorts_2 : List UInt8 := kb_cX4_sorts_2 ++ tb_cX4_sorts_3
def tb_cX4_sorts_1 : List UInt8 := kb_cX4_sorts_1 ++ tb_cX4_sorts_2
def tb_cX4_sorts_0 : List UInt8 := kb_cX4_sorts_0 ++ tb_cX4_sorts_1
set_option maxRecDepth 100000 in
theorem tb_cX4_sorts : (cX4_sorts).data.toList = tb_cX4_sorts_0 := eqL_eq (by decide +kernel)
theorem ow_cX4_sorts_0 (r : Nat) : (cX4_sorts).data.toList.drop (0 + r) = tb_cX4_sorts_0.drop r := by rw [tb_cX4_sorts, Nat.zero_add]
theorem ow_cX4_sorts_1 (r : Nat) : (cX4_sorts).data.toList.drop (42 + r) = tb_cX4_sorts_1.drop r := by
  have e := ow_cX4_sorts_0 (42 + r)
  rw [show 0 + (42 + r) = 42 + r by omega] at e
  exact e.trans (dr_len (a := kb_cX4_sorts_0) (t := tb_cX4_sorts_1) (by decide +kernel))
theorem ow_cX4_sorts_2 (r : Nat) : (cX4_sorts).data.toList.drop (82 + r) = tb_cX4_sorts_2.drop r := by
  have e := ow_cX4_sorts_1 (40 + r)
  rw [show 42 + (40 + r) = 82 + r by omega] at e
  exact e.trans (dr_len (a := kb_cX4_sorts_1) (t := tb_cX4_sorts_2) (by decide +kernel))
theorem ob_cX4_sorts_0 (r : Nat) {pc : Nat} {l : List UInt8} (hp : 0 + r = pc) (h : tb_cX4_sorts_0.drop r = l) : (cX4_sorts).data.toList.drop pc = l := by
  subst hp
  exact (ow_cX4_sorts_0 r).trans h
theorem ob_cX4_sorts_1 (r : Nat) {pc : Nat} {l : List UInt8} (hp : 42 + r = pc) (h : tb_cX4_sorts_1.drop r = l) : (cX4_sorts).data.toList.drop pc = l := by
  subst hp
  exact (ow_cX4_sorts_1 r).trans h
theorem ob_cX4_sorts_2 (r : Nat) {pc : Nat} {l : List UInt8} (hp : 82 + r = pc) (h : tb_cX4_sorts_2.drop r = l) : (cX4_sorts).data.toList.drop pc = l := by
  subst hp
  exact (ow_cX4_sorts_2 r).trans h
theorem dX4_sorts_0 : decode cX4_sorts 0 = .ok (.aload_n 0, 1) := dn_42 (ob_cX4_sorts_0 0 rfl rfl)
theorem dX4_sorts_1 : decode cX4_sorts 1 = .ok (.iload_n 1, 1) := dn_27 (ob_cX4_sorts_0 1 rfl rfl)
theorem dX4_sorts_2 : decode cX4_sorts 2 = .ok (.invokestatic 70, 3) := dn_184 (ob_cX4_sorts_0 2 rfl rfl) rfl
theorem dX4_sorts_5 : decode cX4_sorts 5 = .ok (.ifCond .ne 7, 3) := dn_154 (ob_cX4_sorts_0 5 rfl rfl) (by decide +kernel)
theorem dX4_sorts_8 : decode cX4_sorts 8 = .ok (.iconst 1, 1) := dn_4 (ob_cX4_sorts_0 8 rfl rfl)
theorem dX4_sorts_9 : decode cX4_sorts 9 = .ok (.goto 4, 3) := dn_167 (ob_cX4_sorts_0 9 rfl rfl) (by decide +kernel)
theorem dX4_sorts_12 : decode cX4_sorts 12 = .ok (.iconst 0, 1) := dn_3 (ob_cX4_sorts_0 12 rfl rfl)
theorem dX4_sorts_13 : decode cX4_sorts 13 = .ok (.invokevirtual 100, 3) := dn_182 (ob_cX4_sorts_0 13 rfl rfl) rfl
theorem dX4_sorts_16 : decode cX4_sorts 16 = .ok (.ifCond .eq 6, 3) := dn_153 (ob_cX4_sorts_0 16 rfl rfl) (by decide +kernel)
theorem dX4_sorts_19 : decode cX4_sorts 19 = .ok (.ldc 126, 2) := dn_18 (ob_cX4_sorts_0 19 rfl rfl) rfl
theorem dX4_sorts_21 : decode cX4_sorts 21 = .ok (.areturn, 1) := dn_176 (ob_cX4_sorts_0 21 rfl rfl)
theorem dX4_sorts_22 : decode cX4_sorts 22 = .ok (.new 123, 3) := dn_187 (ob_cX4_sorts_0 22 rfl rfl) rfl
theorem dX4_sorts_25 : decode cX4_sorts 25 = .ok (.dup, 1) := dn_89 (ob_cX4_sorts_0 25 rfl rfl)
theorem dX4_sorts_26 : decode cX4_sorts 26 = .ok (.invokespecial 125, 3) := dn_183 (ob_cX4_sorts_0 26 rfl rfl) rfl
theorem dX4_sorts_29 : decode cX4_sorts 29 = .ok (.astore_n 2, 1) := dn_77 (ob_cX4_sorts_0 29 rfl rfl)
theorem dX4_sorts_30 : decode cX4_sorts 30 = .ok (.iconst 0, 1) := dn_3 (ob_cX4_sorts_0 30 rfl rfl)
theorem dX4_sorts_31 : decode cX4_sorts 31 = .ok (.istore_n 3, 1) := dn_62 (ob_cX4_sorts_0 31 rfl rfl)
theorem dX4_sorts_32 : decode cX4_sorts 32 = .ok (.iload_n 3, 1) := dn_29 (ob_cX4_sorts_0 32 rfl rfl)
theorem dX4_sorts_33 : decode cX4_sorts 33 = .ok (.aload_n 0, 1) := dn_42 (ob_cX4_sorts_0 33 rfl rfl)
theorem dX4_sorts_34 : decode cX4_sorts 34 = .ok (.getfield 18, 3) := dn_180 (ob_cX4_sorts_0 34 rfl rfl) rfl
theorem dX4_sorts_37 : decode cX4_sorts 37 = .ok (.iload_n 1, 1) := dn_27 (ob_cX4_sorts_0 37 rfl rfl)
theorem dX4_sorts_38 : decode cX4_sorts 38 = .ok (.iaload, 1) := dn_46 (ob_cX4_sorts_0 38 rfl rfl)
theorem dX4_sorts_39 : decode cX4_sorts 39 = .ok (.if_icmp .ge 48, 3) := dn_162 (ob_cX4_sorts_0 39 rfl rfl) (by decide +kernel)
theorem dX4_sorts_42 : decode cX4_sorts 42 = .ok (.aload_n 2, 1) := dn_44 (ob_cX4_sorts_1 0 rfl rfl)
theorem dX4_sorts_43 : decode cX4_sorts 43 = .ok (.iload_n 3, 1) := dn_29 (ob_cX4_sorts_1 1 rfl rfl)
theorem dX4_sorts_44 : decode cX4_sorts 44 = .ok (.ifCond .ne 8, 3) := dn_154 (ob_cX4_sorts_1 2 rfl rfl) (by decide +kernel)
theorem dX4_sorts_47 : decode cX4_sorts 47 = .ok (.ldc 126, 2) := dn_18 (ob_cX4_sorts_1 5 rfl rfl) rfl
theorem dX4_sorts_49 : decode cX4_sorts 49 = .ok (.goto 5, 3) := dn_167 (ob_cX4_sorts_1 7 rfl rfl) (by decide +kernel)
theorem dX4_sorts_52 : decode cX4_sorts 52 = .ok (.ldc 128, 2) := dn_18 (ob_cX4_sorts_1 10 rfl rfl) rfl
theorem dX4_sorts_54 : decode cX4_sorts 54 = .ok (.invokevirtual 130, 3) := dn_182 (ob_cX4_sorts_1 12 rfl rfl) rfl
theorem dX4_sorts_57 : decode cX4_sorts 57 = .ok (.aload_n 0, 1) := dn_42 (ob_cX4_sorts_1 15 rfl rfl)
theorem dX4_sorts_58 : decode cX4_sorts 58 = .ok (.iload_n 1, 1) := dn_27 (ob_cX4_sorts_1 16 rfl rfl)
theorem dX4_sorts_59 : decode cX4_sorts 59 = .ok (.iload_n 3, 1) := dn_29 (ob_cX4_sorts_1 17 rfl rfl)
theorem dX4_sorts_60 : decode cX4_sorts 60 = .ok (.iload_n 3, 1) := dn_29 (ob_cX4_sorts_1 18 rfl rfl)
theorem dX4_sorts_61 : decode cX4_sorts 61 = .ok (.aload_n 0, 1) := dn_42 (ob_cX4_sorts_1 19 rfl rfl)
theorem dX4_sorts_62 : decode cX4_sorts 62 = .ok (.iload_n 1, 1) := dn_27 (ob_cX4_sorts_1 20 rfl rfl)
theorem dX4_sorts_63 : decode cX4_sorts 63 = .ok (.iload_n 3, 1) := dn_29 (ob_cX4_sorts_1 21 rfl rfl)
theorem dX4_sorts_64 : decode cX4_sorts 64 = .ok (.invokevirtual 61, 3) := dn_182 (ob_cX4_sorts_1 22 rfl rfl) rfl
theorem dX4_sorts_67 : decode cX4_sorts 67 = .ok (.iadd, 1) := dn_96 (ob_cX4_sorts_1 25 rfl rfl)
theorem dX4_sorts_68 : decode cX4_sorts 68 = .ok (.invokevirtual 57, 3) := dn_182 (ob_cX4_sorts_1 26 rfl rfl) rfl
theorem dX4_sorts_71 : decode cX4_sorts 71 = .ok (.invokevirtual 134, 3) := dn_182 (ob_cX4_sorts_1 29 rfl rfl) rfl
theorem dX4_sorts_74 : decode cX4_sorts 74 = .ok (.pop, 1) := dn_87 (ob_cX4_sorts_1 32 rfl rfl)
theorem dX4_sorts_75 : decode cX4_sorts 75 = .ok (.iload_n 3, 1) := dn_29 (ob_cX4_sorts_1 33 rfl rfl)
theorem dX4_sorts_76 : decode cX4_sorts 76 = .ok (.aload_n 0, 1) := dn_42 (ob_cX4_sorts_1 34 rfl rfl)
theorem dX4_sorts_77 : decode cX4_sorts 77 = .ok (.iload_n 1, 1) := dn_27 (ob_cX4_sorts_1 35 rfl rfl)
theorem dX4_sorts_78 : decode cX4_sorts 78 = .ok (.iload_n 3, 1) := dn_29 (ob_cX4_sorts_1 36 rfl rfl)
theorem dX4_sorts_79 : decode cX4_sorts 79 = .ok (.invokevirtual 61, 3) := dn_182 (ob_cX4_sorts_1 37 rfl rfl) rfl
theorem dX4_sorts_82 : decode cX4_sorts 82 = .ok (.iadd, 1) := dn_96 (ob_cX4_sorts_2 0 rfl rfl)
theorem dX4_sorts_83 : decode cX4_sorts 83 = .ok (.istore_n 3, 1) := dn_62 (ob_cX4_sorts_2 1 rfl rfl)
theorem dX4_sorts_84 : decode cX4_sorts 84 = .ok (.goto (-52), 3) := dn_167 (ob_cX4_sorts_2 2 rfl rfl) (by decide +kernel)
theorem dX4_sorts_87 : decode cX4_sorts 87 = .ok (.aload_n 2, 1) := dn_44 (ob_cX4_sorts_2 5 rfl rfl)
theorem dX4_sorts_88 : decode cX4_sorts 88 = .ok (.invokevirtual 137, 3) := dn_182 (ob_cX4_sorts_2 6 rfl rfl) rfl
theorem dX4_sorts_91 : decode cX4_sorts 91 = .ok (.areturn, 1) := dn_176 (ob_cX4_sorts_2 9 rfl rfl)
def kb_cX4_cuts : List UInt8 := [42, 27, 184, 0, 70, 154, 0, 7, 4, 167, 0, 4, 3, 182, 0, 100, 153, 0, 7, 3, 167, 0, 8, 42, 27, 182, 0, 157, 172]
set_option maxRecDepth 10000 in
theorem ob_cX4_cuts (r : Nat) {l : List UInt8} (h : kb_cX4_cuts.drop r = l) : (cX4_cuts).data.toList.drop r = l := by
  rw [show (cX4_cuts).data.toList = kb_cX4_cuts from eqL_eq (by decide +kernel)]
  exact h
theorem dX4_cuts_0 : decode cX4_cuts 0 = .ok (.aload_n 0, 1) := dn_42 (ob_cX4_cuts 0 rfl)
theorem dX4_cuts_1 : decode cX4_cuts 1 = .ok (.iload_n 1, 1) := dn_27 (ob_cX4_cuts 1 rfl)
theorem dX4_cuts_2 : decode cX4_cuts 2 = .ok (.invokestatic 70, 3) := dn_184 (ob_cX4_cuts 2 rfl) rfl
theorem dX4_cuts_5 : decode cX4_cuts 5 = .ok (.ifCond .ne 7, 3) := dn_154 (ob_cX4_cuts 5 rfl) (by decide +kernel)
theorem dX4_cuts_8 : decode cX4_cuts 8 = .ok (.iconst 1, 1) := dn_4 (ob_cX4_cuts 8 rfl)
theorem dX4_cuts_9 : decode cX4_cuts 9 = .ok (.goto 4, 3) := dn_167 (ob_cX4_cuts 9 rfl) (by decide +kernel)
theorem dX4_cuts_12 : decode cX4_cuts 12 = .ok (.iconst 0, 1) := dn_3 (ob_cX4_cuts 12 rfl)
theorem dX4_cuts_13 : decode cX4_cuts 13 = .ok (.invokevirtual 100, 3) := dn_182 (ob_cX4_cuts 13 rfl) rfl
theorem dX4_cuts_16 : decode cX4_cuts 16 = .ok (.ifCond .eq 7, 3) := dn_153 (ob_cX4_cuts 16 rfl) (by decide +kernel)
theorem dX4_cuts_19 : decode cX4_cuts 19 = .ok (.iconst 0, 1) := dn_3 (ob_cX4_cuts 19 rfl)
theorem dX4_cuts_20 : decode cX4_cuts 20 = .ok (.goto 8, 3) := dn_167 (ob_cX4_cuts 20 rfl) (by decide +kernel)
theorem dX4_cuts_23 : decode cX4_cuts 23 = .ok (.aload_n 0, 1) := dn_42 (ob_cX4_cuts 23 rfl)
theorem dX4_cuts_24 : decode cX4_cuts 24 = .ok (.iload_n 1, 1) := dn_27 (ob_cX4_cuts 24 rfl)
theorem dX4_cuts_25 : decode cX4_cuts 25 = .ok (.invokevirtual 157, 3) := dn_182 (ob_cX4_cuts 25 rfl) rfl
theorem dX4_cuts_28 : decode cX4_cuts 28 = .ok (.ireturn, 1) := dn_172 (ob_cX4_cuts 28 rfl)
def kb_cX4_back : List UInt8 := [42, 27, 184, 0, 70, 154, 0, 7, 4, 167, 0, 4, 3, 182, 0, 100, 153, 0, 7, 3, 167, 0, 8, 42, 27, 182, 0, 160, 172]
set_option maxRecDepth 10000 in
theorem ob_cX4_back (r : Nat) {l : List UInt8} (h : kb_cX4_back.drop r = l) : (cX4_back).data.toList.drop r = l := by
  rw [show (cX4_back).data.toList = kb_cX4_back from eqL_eq (by decide +kernel)]
  exact h
theorem dX4_back_0 : decode cX4_back 0 = .ok (.aload_n 0, 1) := dn_42 (ob_cX4_back 0 rfl)
theorem dX4_back_1 : decode cX4_back 1 = .ok (.iload_n 1, 1) := dn_27 (ob_cX4_back 1 rfl)
theorem dX4_back_2 : decode cX4_back 2 = .ok (.invokestatic 70, 3) := dn_184 (ob_cX4_back 2 rfl) rfl
theorem dX4_back_5 : decode cX4_back 5 = .ok (.ifCond .ne 7, 3) := dn_154 (ob_cX4_back 5 rfl) (by decide +kernel)
theorem dX4_back_8 : decode cX4_back 8 = .ok (.iconst 1, 1) := dn_4 (ob_cX4_back 8 rfl)
theorem dX4_back_9 : decode cX4_back 9 = .ok (.goto 4, 3) := dn_167 (ob_cX4_back 9 rfl) (by decide +kernel)
theorem dX4_back_12 : decode cX4_back 12 = .ok (.iconst 0, 1) := dn_3 (ob_cX4_back 12 rfl)
theorem dX4_back_13 : decode cX4_back 13 = .ok (.invokevirtual 100, 3) := dn_182 (ob_cX4_back 13 rfl) rfl
theorem dX4_back_16 : decode cX4_back 16 = .ok (.ifCond .eq 7, 3) := dn_153 (ob_cX4_back 16 rfl) (by decide +kernel)
theorem dX4_back_19 : decode cX4_back 19 = .ok (.iconst 0, 1) := dn_3 (ob_cX4_back 19 rfl)
theorem dX4_back_20 : decode cX4_back 20 = .ok (.goto 8, 3) := dn_167 (ob_cX4_back 20 rfl) (by decide +kernel)
theorem dX4_back_23 : decode cX4_back 23 = .ok (.aload_n 0, 1) := dn_42 (ob_cX4_back 23 rfl)
theorem dX4_back_24 : decode cX4_back 24 = .ok (.iload_n 1, 1) := dn_27 (ob_cX4_back 24 rfl)
theorem dX4_back_25 : decode cX4_back 25 = .ok (.invokevirtual 160, 3) := dn_182 (ob_cX4_back 25 rfl) rfl
theorem dX4_back_28 : decode cX4_back 28 = .ok (.ireturn, 1) := dn_172 (ob_cX4_back 28 rfl)
def kb_cX4_fewest : List UInt8 := [42, 27, 184, 0, 70, 154, 0, 7, 4, 167, 0, 4, 3, 182, 0, 100, 153, 0, 7, 3, 167, 0, 8, 42, 27, 182, 0, 163, 172]
set_option maxRecDepth 10000 in
theorem ob_cX4_fewest (r : Nat) {l : List UInt8} (h : kb_cX4_fewest.drop r = l) : (cX4_fewest).data.toList.drop r = l := by
  rw [show (cX4_fewest).data.toList = kb_cX4_fewest from eqL_eq (by decide +kernel)]
  exact h
theorem dX4_fewest_0 : decode cX4_fewest 0 = .ok (.aload_n 0, 1) := dn_42 (ob_cX4_fewest 0 rfl)
theorem dX4_fewest_1 : decode cX4_fewest 1 = .ok (.iload_n 1, 1) := dn_27 (ob_cX4_fewest 1 rfl)
theorem dX4_fewest_2 : decode cX4_fewest 2 = .ok (.invokestatic 70, 3) := dn_184 (ob_cX4_fewest 2 rfl) rfl
theorem dX4_fewest_5 : decode cX4_fewest 5 = .ok (.ifCond .ne 7, 3) := dn_154 (ob_cX4_fewest 5 rfl) (by decide +kernel)
theorem dX4_fewest_8 : decode cX4_fewest 8 = .ok (.iconst 1, 1) := dn_4 (ob_cX4_fewest 8 rfl)
theorem dX4_fewest_9 : decode cX4_fewest 9 = .ok (.goto 4, 3) := dn_167 (ob_cX4_fewest 9 rfl) (by decide +kernel)
theorem dX4_fewest_12 : decode cX4_fewest 12 = .ok (.iconst 0, 1) := dn_3 (ob_cX4_fewest 12 rfl)
theorem dX4_fewest_13 : decode cX4_fewest 13 = .ok (.invokevirtual 100, 3) := dn_182 (ob_cX4_fewest 13 rfl) rfl
theorem dX4_fewest_16 : decode cX4_fewest 16 = .ok (.ifCond .eq 7, 3) := dn_153 (ob_cX4_fewest 16 rfl) (by decide +kernel)
theorem dX4_fewest_19 : decode cX4_fewest 19 = .ok (.iconst 0, 1) := dn_3 (ob_cX4_fewest 19 rfl)
theorem dX4_fewest_20 : decode cX4_fewest 20 = .ok (.goto 8, 3) := dn_167 (ob_cX4_fewest 20 rfl) (by decide +kernel)
theorem dX4_fewest_23 : decode cX4_fewest 23 = .ok (.aload_n 0, 1) := dn_42 (ob_cX4_fewest 23 rfl)
theorem dX4_fewest_24 : decode cX4_fewest 24 = .ok (.iload_n 1, 1) := dn_27 (ob_cX4_fewest 24 rfl)
theorem dX4_fewest_25 : decode cX4_fewest 25 = .ok (.invokevirtual 163, 3) := dn_182 (ob_cX4_fewest 25 rfl) rfl
theorem dX4_fewest_28 : decode cX4_fewest 28 = .ok (.ireturn, 1) := dn_172 (ob_cX4_fewest 28 rfl)
def kb_cX4_parted_0 : List UInt8 := [28, 155, 0, 10, 28, 4, 126, 4, 160, 0, 7, 4, 167, 0, 4, 3, 62, 4, 54, 4, 21, 4, 16, 31, 162, 0, 45, 27, 184, 0, 70, 153, 0, 38, 29, 28, 21, 4, 122, 4]
def kb_cX4_parted_1 : List UInt8 := [126, 4, 160, 0, 18, 21, 4, 42, 180, 0, 18, 27, 46, 161, 0, 7, 4, 167, 0, 4, 3, 128, 62, 132, 4, 1, 167, 255, 210, 42, 27, 184, 0, 70, 154, 0, 7, 4, 167, 0, 4]
def kb_cX4_parted_2 : List UInt8 := [3, 29, 182, 0, 73, 153, 0, 7, 3, 167, 0, 9, 42, 27, 28, 182, 0, 166, 172]
def tb_cX4_parted_3 : List UInt8 := []
def tb_cX4_parted_2 : List UInt8 := kb_cX4_parted_2 ++ tb_cX4_parted_3
def tb_cX4_parted_1 : List UInt8 := kb_cX4_parted_1 ++ tb_cX4_parted_2
def tb_cX4_parted_0 : List UInt8 := kb_cX4_parted_0 ++ tb_cX4_parted_1
set_option maxRecDepth 100000 in
theorem tb_cX4_parted : (cX4_parted).data.toList = tb_cX4_parted_0 := eqL_eq (by decide +kernel)
theorem ow_cX4_parted_0 (r : Nat) : (cX4_parted).data.toList.drop (0 + r) = tb_cX4_parted_0.drop r := by rw [tb_cX4_parted, Nat.zero_add]
theorem ow_cX4_parted_1 (r : Nat) : (cX4_parted).data.toList.drop (40 + r) = tb_cX4_parted_1.drop r := by
  have e := ow_cX4_parted_0 (40 + r)
  rw [show 0 + (40 + r) = 40 + r by omega] at e
  exact e.trans (dr_len (a := kb_cX4_parted_0) (t := tb_cX4_parted_1) (by decide +kernel))
theorem ow_cX4_parted_2 (r : Nat) : (cX4_parted).data.toList.drop (81 + r) = tb_cX4_parted_2.drop r := by
  have e := ow_cX4_parted_1 (41 + r)
  rw [show 40 + (41 + r) = 81 + r by omega] at e
  exact e.trans (dr_len (a := kb_cX4_parted_1) (t := tb_cX4_parted_2) (by decide +kernel))
theorem ob_cX4_parted_0 (r : Nat) {pc : Nat} {l : List UInt8} (hp : 0 + r = pc) (h : tb_cX4_parted_0.drop r = l) : (cX4_parted).data.toList.drop pc = l := by
  subst hp
  exact (ow_cX4_parted_0 r).trans h
theorem ob_cX4_parted_1 (r : Nat) {pc : Nat} {l : List UInt8} (hp : 40 + r = pc) (h : tb_cX4_parted_1.drop r = l) : (cX4_parted).data.toList.drop pc = l := by
  subst hp
  exact (ow_cX4_parted_1 r).trans h
theorem ob_cX4_parted_2 (r : Nat) {pc : Nat} {l : List UInt8} (hp : 81 + r = pc) (h : tb_cX4_parted_2.drop r = l) : (cX4_parted).data.toList.drop pc = l := by
  subst hp
  exact (ow_cX4_parted_2 r).trans h
theorem dX4_parted_0 : decode cX4_parted 0 = .ok (.iload_n 2, 1) := dn_28 (ob_cX4_parted_0 0 rfl rfl)
theorem dX4_parted_1 : decode cX4_parted 1 = .ok (.ifCond .lt 10, 3) := dn_155 (ob_cX4_parted_0 1 rfl rfl) (by decide +kernel)
theorem dX4_parted_4 : decode cX4_parted 4 = .ok (.iload_n 2, 1) := dn_28 (ob_cX4_parted_0 4 rfl rfl)
theorem dX4_parted_5 : decode cX4_parted 5 = .ok (.iconst 1, 1) := dn_4 (ob_cX4_parted_0 5 rfl rfl)
theorem dX4_parted_6 : decode cX4_parted 6 = .ok (.iand, 1) := dn_126 (ob_cX4_parted_0 6 rfl rfl)
theorem dX4_parted_7 : decode cX4_parted 7 = .ok (.iconst 1, 1) := dn_4 (ob_cX4_parted_0 7 rfl rfl)
theorem dX4_parted_8 : decode cX4_parted 8 = .ok (.if_icmp .ne 7, 3) := dn_160 (ob_cX4_parted_0 8 rfl rfl) (by decide +kernel)
theorem dX4_parted_11 : decode cX4_parted 11 = .ok (.iconst 1, 1) := dn_4 (ob_cX4_parted_0 11 rfl rfl)
theorem dX4_parted_12 : decode cX4_parted 12 = .ok (.goto 4, 3) := dn_167 (ob_cX4_parted_0 12 rfl rfl) (by decide +kernel)
theorem dX4_parted_15 : decode cX4_parted 15 = .ok (.iconst 0, 1) := dn_3 (ob_cX4_parted_0 15 rfl rfl)
theorem dX4_parted_16 : decode cX4_parted 16 = .ok (.istore_n 3, 1) := dn_62 (ob_cX4_parted_0 16 rfl rfl)
theorem dX4_parted_17 : decode cX4_parted 17 = .ok (.iconst 1, 1) := dn_4 (ob_cX4_parted_0 17 rfl rfl)
theorem dX4_parted_18 : decode cX4_parted 18 = .ok (.istore 4, 2) := dn_54 (ob_cX4_parted_0 18 rfl rfl) rfl
theorem dX4_parted_20 : decode cX4_parted 20 = .ok (.iload 4, 2) := dn_21 (ob_cX4_parted_0 20 rfl rfl) rfl
theorem dX4_parted_22 : decode cX4_parted 22 = .ok (.bipush 31, 2) := dn_16 (ob_cX4_parted_0 22 rfl rfl) (by decide +kernel)
theorem dX4_parted_24 : decode cX4_parted 24 = .ok (.if_icmp .ge 45, 3) := dn_162 (ob_cX4_parted_0 24 rfl rfl) (by decide +kernel)
theorem dX4_parted_27 : decode cX4_parted 27 = .ok (.iload_n 1, 1) := dn_27 (ob_cX4_parted_0 27 rfl rfl)
theorem dX4_parted_28 : decode cX4_parted 28 = .ok (.invokestatic 70, 3) := dn_184 (ob_cX4_parted_0 28 rfl rfl) rfl
theorem dX4_parted_31 : decode cX4_parted 31 = .ok (.ifCond .eq 38, 3) := dn_153 (ob_cX4_parted_0 31 rfl rfl) (by decide +kernel)
theorem dX4_parted_34 : decode cX4_parted 34 = .ok (.iload_n 3, 1) := dn_29 (ob_cX4_parted_0 34 rfl rfl)
theorem dX4_parted_35 : decode cX4_parted 35 = .ok (.iload_n 2, 1) := dn_28 (ob_cX4_parted_0 35 rfl rfl)
theorem dX4_parted_36 : decode cX4_parted 36 = .ok (.iload 4, 2) := dn_21 (ob_cX4_parted_0 36 rfl rfl) rfl
theorem dX4_parted_38 : decode cX4_parted 38 = .ok (.ishr, 1) := dn_122 (ob_cX4_parted_0 38 rfl rfl)
theorem dX4_parted_39 : decode cX4_parted 39 = .ok (.iconst 1, 1) := dn_4 (ob_cX4_parted_0 39 rfl rfl)
theorem dX4_parted_40 : decode cX4_parted 40 = .ok (.iand, 1) := dn_126 (ob_cX4_parted_1 0 rfl rfl)
theorem dX4_parted_41 : decode cX4_parted 41 = .ok (.iconst 1, 1) := dn_4 (ob_cX4_parted_1 1 rfl rfl)
theorem dX4_parted_42 : decode cX4_parted 42 = .ok (.if_icmp .ne 18, 3) := dn_160 (ob_cX4_parted_1 2 rfl rfl) (by decide +kernel)
theorem dX4_parted_45 : decode cX4_parted 45 = .ok (.iload 4, 2) := dn_21 (ob_cX4_parted_1 5 rfl rfl) rfl
theorem dX4_parted_47 : decode cX4_parted 47 = .ok (.aload_n 0, 1) := dn_42 (ob_cX4_parted_1 7 rfl rfl)
theorem dX4_parted_48 : decode cX4_parted 48 = .ok (.getfield 18, 3) := dn_180 (ob_cX4_parted_1 8 rfl rfl) rfl
theorem dX4_parted_51 : decode cX4_parted 51 = .ok (.iload_n 1, 1) := dn_27 (ob_cX4_parted_1 11 rfl rfl)
theorem dX4_parted_52 : decode cX4_parted 52 = .ok (.iaload, 1) := dn_46 (ob_cX4_parted_1 12 rfl rfl)
theorem dX4_parted_53 : decode cX4_parted 53 = .ok (.if_icmp .lt 7, 3) := dn_161 (ob_cX4_parted_1 13 rfl rfl) (by decide +kernel)
theorem dX4_parted_56 : decode cX4_parted 56 = .ok (.iconst 1, 1) := dn_4 (ob_cX4_parted_1 16 rfl rfl)
theorem dX4_parted_57 : decode cX4_parted 57 = .ok (.goto 4, 3) := dn_167 (ob_cX4_parted_1 17 rfl rfl) (by decide +kernel)
theorem dX4_parted_60 : decode cX4_parted 60 = .ok (.iconst 0, 1) := dn_3 (ob_cX4_parted_1 20 rfl rfl)
theorem dX4_parted_61 : decode cX4_parted 61 = .ok (.ior, 1) := dn_128 (ob_cX4_parted_1 21 rfl rfl)
theorem dX4_parted_62 : decode cX4_parted 62 = .ok (.istore_n 3, 1) := dn_62 (ob_cX4_parted_1 22 rfl rfl)
theorem dX4_parted_63 : decode cX4_parted 63 = .ok (.iinc 4 1, 3) := dn_132 (ob_cX4_parted_1 23 rfl rfl) rfl (by decide +kernel)
theorem dX4_parted_66 : decode cX4_parted 66 = .ok (.goto (-46), 3) := dn_167 (ob_cX4_parted_1 26 rfl rfl) (by decide +kernel)
theorem dX4_parted_69 : decode cX4_parted 69 = .ok (.aload_n 0, 1) := dn_42 (ob_cX4_parted_1 29 rfl rfl)
theorem dX4_parted_70 : decode cX4_parted 70 = .ok (.iload_n 1, 1) := dn_27 (ob_cX4_parted_1 30 rfl rfl)
theorem dX4_parted_71 : decode cX4_parted 71 = .ok (.invokestatic 70, 3) := dn_184 (ob_cX4_parted_1 31 rfl rfl) rfl
theorem dX4_parted_74 : decode cX4_parted 74 = .ok (.ifCond .ne 7, 3) := dn_154 (ob_cX4_parted_1 34 rfl rfl) (by decide +kernel)
theorem dX4_parted_77 : decode cX4_parted 77 = .ok (.iconst 1, 1) := dn_4 (ob_cX4_parted_1 37 rfl rfl)
theorem dX4_parted_78 : decode cX4_parted 78 = .ok (.goto 4, 3) := dn_167 (ob_cX4_parted_1 38 rfl rfl) (by decide +kernel)
theorem dX4_parted_81 : decode cX4_parted 81 = .ok (.iconst 0, 1) := dn_3 (ob_cX4_parted_2 0 rfl rfl)
theorem dX4_parted_82 : decode cX4_parted 82 = .ok (.iload_n 3, 1) := dn_29 (ob_cX4_parted_2 1 rfl rfl)
theorem dX4_parted_83 : decode cX4_parted 83 = .ok (.invokevirtual 73, 3) := dn_182 (ob_cX4_parted_2 2 rfl rfl) rfl
theorem dX4_parted_86 : decode cX4_parted 86 = .ok (.ifCond .eq 7, 3) := dn_153 (ob_cX4_parted_2 5 rfl rfl) (by decide +kernel)
theorem dX4_parted_89 : decode cX4_parted 89 = .ok (.iconst 0, 1) := dn_3 (ob_cX4_parted_2 8 rfl rfl)
theorem dX4_parted_90 : decode cX4_parted 90 = .ok (.goto 9, 3) := dn_167 (ob_cX4_parted_2 9 rfl rfl) (by decide +kernel)
theorem dX4_parted_93 : decode cX4_parted 93 = .ok (.aload_n 0, 1) := dn_42 (ob_cX4_parted_2 12 rfl rfl)
theorem dX4_parted_94 : decode cX4_parted 94 = .ok (.iload_n 1, 1) := dn_27 (ob_cX4_parted_2 13 rfl rfl)
theorem dX4_parted_95 : decode cX4_parted 95 = .ok (.iload_n 2, 1) := dn_28 (ob_cX4_parted_2 14 rfl rfl)
theorem dX4_parted_96 : decode cX4_parted 96 = .ok (.invokevirtual 166, 3) := dn_182 (ob_cX4_parted_2 15 rfl rfl) rfl
theorem dX4_parted_99 : decode cX4_parted 99 = .ok (.ireturn, 1) := dn_172 (ob_cX4_parted_2 18 rfl rfl)
def kb_cX4_houseNow_0 : List UInt8 := [27, 158, 0, 37, 27, 7, 162, 0, 32, 27, 4, 160, 0, 10, 42, 180, 0, 77, 167, 0, 19, 27, 5, 160, 0, 10, 42, 180, 0, 80, 167, 0, 7, 42, 180, 0, 169, 172, 3, 61]
def kb_cX4_houseNow_1 : List UInt8 := [3, 62, 29, 6, 162, 0, 38, 28, 27, 154, 0, 12, 42, 180, 0, 18, 29, 46, 167, 0, 16, 42, 29, 182, 0, 148, 153, 0, 7, 4, 167, 0, 4, 3, 96, 61, 132, 3, 1, 167, 255, 219]
def kb_cX4_houseNow_2 : List UInt8 := [28, 172]
def tb_cX4_houseNow_3 : List UInt8 := []
def tb_cX4_houseNow_2 : List UInt8 := kb_cX4_houseNow_2 ++ tb_cX4_houseNow_3
def tb_cX4_houseNow_1 : List UInt8 := kb_cX4_houseNow_1 ++ tb_cX4_houseNow_2
def tb_cX4_houseNow_0 : List UInt8 := kb_cX4_houseNow_0 ++ tb_cX4_houseNow_1
set_option maxRecDepth 100000 in
theorem tb_cX4_houseNow : (cX4_houseNow).data.toList = tb_cX4_houseNow_0 := eqL_eq (by decide +kernel)
theorem ow_cX4_houseNow_0 (r : Nat) : (cX4_houseNow).data.toList.drop (0 + r) = tb_cX4_houseNow_0.drop r := by rw [tb_cX4_houseNow, Nat.zero_add]
theorem ow_cX4_houseNow_1 (r : Nat) : (cX4_houseNow).data.toList.drop (40 + r) = tb_cX4_houseNow_1.drop r := by
  have e := ow_cX4_houseNow_0 (40 + r)
  rw [show 0 + (40 + r) = 40 + r by omega] at e
  exact e.trans (dr_len (a := kb_cX4_houseNow_0) (t := tb_cX4_houseNow_1) (by decide +kernel))
theorem ow_cX4_houseNow_2 (r : Nat) : (cX4_houseNow).data.toList.drop (82 + r) = tb_cX4_houseNow_2.drop r := by
  have e := ow_cX4_houseNow_1 (42 + r)
  rw [show 40 + (42 + r) = 82 + r by omega] at e
  exact e.trans (dr_len (a := kb_cX4_houseNow_1) (t := tb_cX4_houseNow_2) (by decide +kernel))
theorem ob_cX4_houseNow_0 (r : Nat) {pc : Nat} {l : List UInt8} (hp : 0 + r = pc) (h : tb_cX4_houseNow_0.drop r = l) : (cX4_houseNow).data.toList.drop pc = l := by
  subst hp
  exact (ow_cX4_houseNow_0 r).trans h
theorem ob_cX4_houseNow_1 (r : Nat) {pc : Nat} {l : List UInt8} (hp : 40 + r = pc) (h : tb_cX4_houseNow_1.drop r = l) : (cX4_houseNow).data.toList.drop pc = l := by
  subst hp
  exact (ow_cX4_houseNow_1 r).trans h
theorem ob_cX4_houseNow_2 (r : Nat) {pc : Nat} {l : List UInt8} (hp : 82 + r = pc) (h : tb_cX4_houseNow_2.drop r = l) : (cX4_houseNow).data.toList.drop pc = l := by
  subst hp
  exact (ow_cX4_houseNow_2 r).trans h
theorem dX4_houseNow_0 : decode cX4_houseNow 0 = .ok (.iload_n 1, 1) := dn_27 (ob_cX4_houseNow_0 0 rfl rfl)
theorem dX4_houseNow_1 : decode cX4_houseNow 1 = .ok (.ifCond .le 37, 3) := dn_158 (ob_cX4_houseNow_0 1 rfl rfl) (by decide +kernel)
theorem dX4_houseNow_4 : decode cX4_houseNow 4 = .ok (.iload_n 1, 1) := dn_27 (ob_cX4_houseNow_0 4 rfl rfl)
theorem dX4_houseNow_5 : decode cX4_houseNow 5 = .ok (.iconst 4, 1) := dn_7 (ob_cX4_houseNow_0 5 rfl rfl)
theorem dX4_houseNow_6 : decode cX4_houseNow 6 = .ok (.if_icmp .ge 32, 3) := dn_162 (ob_cX4_houseNow_0 6 rfl rfl) (by decide +kernel)
theorem dX4_houseNow_9 : decode cX4_houseNow 9 = .ok (.iload_n 1, 1) := dn_27 (ob_cX4_houseNow_0 9 rfl rfl)
theorem dX4_houseNow_10 : decode cX4_houseNow 10 = .ok (.iconst 1, 1) := dn_4 (ob_cX4_houseNow_0 10 rfl rfl)
theorem dX4_houseNow_11 : decode cX4_houseNow 11 = .ok (.if_icmp .ne 10, 3) := dn_160 (ob_cX4_houseNow_0 11 rfl rfl) (by decide +kernel)
theorem dX4_houseNow_14 : decode cX4_houseNow 14 = .ok (.aload_n 0, 1) := dn_42 (ob_cX4_houseNow_0 14 rfl rfl)
theorem dX4_houseNow_15 : decode cX4_houseNow 15 = .ok (.getfield 77, 3) := dn_180 (ob_cX4_houseNow_0 15 rfl rfl) rfl
theorem dX4_houseNow_18 : decode cX4_houseNow 18 = .ok (.goto 19, 3) := dn_167 (ob_cX4_houseNow_0 18 rfl rfl) (by decide +kernel)
theorem dX4_houseNow_21 : decode cX4_houseNow 21 = .ok (.iload_n 1, 1) := dn_27 (ob_cX4_houseNow_0 21 rfl rfl)
theorem dX4_houseNow_22 : decode cX4_houseNow 22 = .ok (.iconst 2, 1) := dn_5 (ob_cX4_houseNow_0 22 rfl rfl)
theorem dX4_houseNow_23 : decode cX4_houseNow 23 = .ok (.if_icmp .ne 10, 3) := dn_160 (ob_cX4_houseNow_0 23 rfl rfl) (by decide +kernel)
theorem dX4_houseNow_26 : decode cX4_houseNow 26 = .ok (.aload_n 0, 1) := dn_42 (ob_cX4_houseNow_0 26 rfl rfl)
theorem dX4_houseNow_27 : decode cX4_houseNow 27 = .ok (.getfield 80, 3) := dn_180 (ob_cX4_houseNow_0 27 rfl rfl) rfl
theorem dX4_houseNow_30 : decode cX4_houseNow 30 = .ok (.goto 7, 3) := dn_167 (ob_cX4_houseNow_0 30 rfl rfl) (by decide +kernel)
theorem dX4_houseNow_33 : decode cX4_houseNow 33 = .ok (.aload_n 0, 1) := dn_42 (ob_cX4_houseNow_0 33 rfl rfl)
theorem dX4_houseNow_34 : decode cX4_houseNow 34 = .ok (.getfield 169, 3) := dn_180 (ob_cX4_houseNow_0 34 rfl rfl) rfl
theorem dX4_houseNow_37 : decode cX4_houseNow 37 = .ok (.ireturn, 1) := dn_172 (ob_cX4_houseNow_0 37 rfl rfl)
theorem dX4_houseNow_38 : decode cX4_houseNow 38 = .ok (.iconst 0, 1) := dn_3 (ob_cX4_houseNow_0 38 rfl rfl)
theorem dX4_houseNow_39 : decode cX4_houseNow 39 = .ok (.istore_n 2, 1) := dn_61 (ob_cX4_houseNow_0 39 rfl rfl)
theorem dX4_houseNow_40 : decode cX4_houseNow 40 = .ok (.iconst 0, 1) := dn_3 (ob_cX4_houseNow_1 0 rfl rfl)
theorem dX4_houseNow_41 : decode cX4_houseNow 41 = .ok (.istore_n 3, 1) := dn_62 (ob_cX4_houseNow_1 1 rfl rfl)
theorem dX4_houseNow_42 : decode cX4_houseNow 42 = .ok (.iload_n 3, 1) := dn_29 (ob_cX4_houseNow_1 2 rfl rfl)
theorem dX4_houseNow_43 : decode cX4_houseNow 43 = .ok (.iconst 3, 1) := dn_6 (ob_cX4_houseNow_1 3 rfl rfl)
theorem dX4_houseNow_44 : decode cX4_houseNow 44 = .ok (.if_icmp .ge 38, 3) := dn_162 (ob_cX4_houseNow_1 4 rfl rfl) (by decide +kernel)
theorem dX4_houseNow_47 : decode cX4_houseNow 47 = .ok (.iload_n 2, 1) := dn_28 (ob_cX4_houseNow_1 7 rfl rfl)
theorem dX4_houseNow_48 : decode cX4_houseNow 48 = .ok (.iload_n 1, 1) := dn_27 (ob_cX4_houseNow_1 8 rfl rfl)
theorem dX4_houseNow_49 : decode cX4_houseNow 49 = .ok (.ifCond .ne 12, 3) := dn_154 (ob_cX4_houseNow_1 9 rfl rfl) (by decide +kernel)
theorem dX4_houseNow_52 : decode cX4_houseNow 52 = .ok (.aload_n 0, 1) := dn_42 (ob_cX4_houseNow_1 12 rfl rfl)
theorem dX4_houseNow_53 : decode cX4_houseNow 53 = .ok (.getfield 18, 3) := dn_180 (ob_cX4_houseNow_1 13 rfl rfl) rfl
theorem dX4_houseNow_56 : decode cX4_houseNow 56 = .ok (.iload_n 3, 1) := dn_29 (ob_cX4_houseNow_1 16 rfl rfl)
theorem dX4_houseNow_57 : decode cX4_houseNow 57 = .ok (.iaload, 1) := dn_46 (ob_cX4_houseNow_1 17 rfl rfl)
theorem dX4_houseNow_58 : decode cX4_houseNow 58 = .ok (.goto 16, 3) := dn_167 (ob_cX4_houseNow_1 18 rfl rfl) (by decide +kernel)
theorem dX4_houseNow_61 : decode cX4_houseNow 61 = .ok (.aload_n 0, 1) := dn_42 (ob_cX4_houseNow_1 21 rfl rfl)
theorem dX4_houseNow_62 : decode cX4_houseNow 62 = .ok (.iload_n 3, 1) := dn_29 (ob_cX4_houseNow_1 22 rfl rfl)
theorem dX4_houseNow_63 : decode cX4_houseNow 63 = .ok (.invokevirtual 148, 3) := dn_182 (ob_cX4_houseNow_1 23 rfl rfl) rfl
theorem dX4_houseNow_66 : decode cX4_houseNow 66 = .ok (.ifCond .eq 7, 3) := dn_153 (ob_cX4_houseNow_1 26 rfl rfl) (by decide +kernel)
theorem dX4_houseNow_69 : decode cX4_houseNow 69 = .ok (.iconst 1, 1) := dn_4 (ob_cX4_houseNow_1 29 rfl rfl)
theorem dX4_houseNow_70 : decode cX4_houseNow 70 = .ok (.goto 4, 3) := dn_167 (ob_cX4_houseNow_1 30 rfl rfl) (by decide +kernel)
theorem dX4_houseNow_73 : decode cX4_houseNow 73 = .ok (.iconst 0, 1) := dn_3 (ob_cX4_houseNow_1 33 rfl rfl)
theorem dX4_houseNow_74 : decode cX4_houseNow 74 = .ok (.iadd, 1) := dn_96 (ob_cX4_houseNow_1 34 rfl rfl)
theorem dX4_houseNow_75 : decode cX4_houseNow 75 = .ok (.istore_n 2, 1) := dn_61 (ob_cX4_houseNow_1 35 rfl rfl)
theorem dX4_houseNow_76 : decode cX4_houseNow 76 = .ok (.iinc 3 1, 3) := dn_132 (ob_cX4_houseNow_1 36 rfl rfl) rfl (by decide +kernel)
theorem dX4_houseNow_79 : decode cX4_houseNow 79 = .ok (.goto (-37), 3) := dn_167 (ob_cX4_houseNow_1 39 rfl rfl) (by decide +kernel)
theorem dX4_houseNow_82 : decode cX4_houseNow 82 = .ok (.iload_n 2, 1) := dn_28 (ob_cX4_houseNow_2 0 rfl rfl)
theorem dX4_houseNow_83 : decode cX4_houseNow 83 = .ok (.ireturn, 1) := dn_172 (ob_cX4_houseNow_2 1 rfl rfl)
def kb_cX4_house : List UInt8 := [42, 27, 155, 0, 8, 27, 7, 164, 0, 7, 4, 167, 0, 4, 3, 182, 0, 100, 153, 0, 7, 3, 167, 0, 8, 42, 27, 182, 0, 172, 172]
set_option maxRecDepth 10000 in
theorem ob_cX4_house (r : Nat) {l : List UInt8} (h : kb_cX4_house.drop r = l) : (cX4_house).data.toList.drop r = l := by
  rw [show (cX4_house).data.toList = kb_cX4_house from eqL_eq (by decide +kernel)]
  exact h
theorem dX4_house_0 : decode cX4_house 0 = .ok (.aload_n 0, 1) := dn_42 (ob_cX4_house 0 rfl)
theorem dX4_house_1 : decode cX4_house 1 = .ok (.iload_n 1, 1) := dn_27 (ob_cX4_house 1 rfl)
theorem dX4_house_2 : decode cX4_house 2 = .ok (.ifCond .lt 8, 3) := dn_155 (ob_cX4_house 2 rfl) (by decide +kernel)
theorem dX4_house_5 : decode cX4_house 5 = .ok (.iload_n 1, 1) := dn_27 (ob_cX4_house 5 rfl)
theorem dX4_house_6 : decode cX4_house 6 = .ok (.iconst 4, 1) := dn_7 (ob_cX4_house 6 rfl)
theorem dX4_house_7 : decode cX4_house 7 = .ok (.if_icmp .le 7, 3) := dn_164 (ob_cX4_house 7 rfl) (by decide +kernel)
theorem dX4_house_10 : decode cX4_house 10 = .ok (.iconst 1, 1) := dn_4 (ob_cX4_house 10 rfl)
theorem dX4_house_11 : decode cX4_house 11 = .ok (.goto 4, 3) := dn_167 (ob_cX4_house 11 rfl) (by decide +kernel)
theorem dX4_house_14 : decode cX4_house 14 = .ok (.iconst 0, 1) := dn_3 (ob_cX4_house 14 rfl)
theorem dX4_house_15 : decode cX4_house 15 = .ok (.invokevirtual 100, 3) := dn_182 (ob_cX4_house 15 rfl) rfl
theorem dX4_house_18 : decode cX4_house 18 = .ok (.ifCond .eq 7, 3) := dn_153 (ob_cX4_house 18 rfl) (by decide +kernel)
theorem dX4_house_21 : decode cX4_house 21 = .ok (.iconst 0, 1) := dn_3 (ob_cX4_house 21 rfl)
theorem dX4_house_22 : decode cX4_house 22 = .ok (.goto 8, 3) := dn_167 (ob_cX4_house 22 rfl) (by decide +kernel)
theorem dX4_house_25 : decode cX4_house 25 = .ok (.aload_n 0, 1) := dn_42 (ob_cX4_house 25 rfl)
theorem dX4_house_26 : decode cX4_house 26 = .ok (.iload_n 1, 1) := dn_27 (ob_cX4_house 26 rfl)
theorem dX4_house_27 : decode cX4_house 27 = .ok (.invokevirtual 172, 3) := dn_182 (ob_cX4_house 27 rfl) rfl
theorem dX4_house_30 : decode cX4_house 30 = .ok (.ireturn, 1) := dn_172 (ob_cX4_house 30 rfl)
def kb_cX4_knock : List UInt8 := [42, 3, 181, 0, 30, 42, 89, 180, 0, 169, 4, 96, 181, 0, 169, 42, 180, 0, 169, 172]
set_option maxRecDepth 10000 in
theorem ob_cX4_knock (r : Nat) {l : List UInt8} (h : kb_cX4_knock.drop r = l) : (cX4_knock).data.toList.drop r = l := by
  rw [show (cX4_knock).data.toList = kb_cX4_knock from eqL_eq (by decide +kernel)]
  exact h
theorem dX4_knock_0 : decode cX4_knock 0 = .ok (.aload_n 0, 1) := dn_42 (ob_cX4_knock 0 rfl)
theorem dX4_knock_1 : decode cX4_knock 1 = .ok (.iconst 0, 1) := dn_3 (ob_cX4_knock 1 rfl)
theorem dX4_knock_2 : decode cX4_knock 2 = .ok (.putfield 30, 3) := dn_181 (ob_cX4_knock 2 rfl) rfl
theorem dX4_knock_5 : decode cX4_knock 5 = .ok (.aload_n 0, 1) := dn_42 (ob_cX4_knock 5 rfl)
theorem dX4_knock_6 : decode cX4_knock 6 = .ok (.dup, 1) := dn_89 (ob_cX4_knock 6 rfl)
theorem dX4_knock_7 : decode cX4_knock 7 = .ok (.getfield 169, 3) := dn_180 (ob_cX4_knock 7 rfl) rfl
theorem dX4_knock_10 : decode cX4_knock 10 = .ok (.iconst 1, 1) := dn_4 (ob_cX4_knock 10 rfl)
theorem dX4_knock_11 : decode cX4_knock 11 = .ok (.iadd, 1) := dn_96 (ob_cX4_knock 11 rfl)
theorem dX4_knock_12 : decode cX4_knock 12 = .ok (.putfield 169, 3) := dn_181 (ob_cX4_knock 12 rfl) rfl
theorem dX4_knock_15 : decode cX4_knock 15 = .ok (.aload_n 0, 1) := dn_42 (ob_cX4_knock 15 rfl)
theorem dX4_knock_16 : decode cX4_knock 16 = .ok (.getfield 169, 3) := dn_180 (ob_cX4_knock 16 rfl) rfl
theorem dX4_knock_19 : decode cX4_knock 19 = .ok (.ireturn, 1) := dn_172 (ob_cX4_knock 19 rfl)
def kb_cX4_isSoundNow_0 : List UInt8 := [3, 60, 3, 61, 28, 16, 31, 162, 0, 21, 27, 42, 28, 3, 17, 0, 255, 182, 0, 175, 96, 60, 132, 2, 1, 167, 255, 235, 27, 17, 1, 0, 160, 0, 7, 4, 167, 0, 4, 3]
def kb_cX4_isSoundNow_1 : List UInt8 := [61, 3, 62, 29, 6, 162, 0, 96, 42, 29, 182, 0, 157, 54, 4, 42, 29, 182, 0, 154, 54, 5, 28, 21, 4, 42, 29, 182, 0, 160, 160, 0, 62, 21, 5, 42, 29, 182, 0, 163]
def kb_cX4_isSoundNow_2 : List UInt8 := [160, 0, 52, 42, 29, 21, 4, 182, 0, 166, 21, 5, 160, 0, 40, 42, 29, 182, 0, 148, 42, 29, 182, 0, 151, 2, 160, 0, 7, 4, 167, 0, 4, 3, 160, 0, 18, 42, 180, 0, 18]
def kb_cX4_isSoundNow_3 : List UInt8 := [29, 46, 16, 30, 163, 0, 7, 4, 167, 0, 4, 3, 126, 61, 132, 3, 1, 167, 255, 161, 28, 172]
def tb_cX4_isSoundNow_4 : List UInt8 := []
def tb_cX4_isSoundNow_3 : List UInt8 := kb_cX4_isSoundNow_3 ++ tb_cX4_isSoundNow_4
def tb_cX4_isSoundNow_2 : List UInt8 := kb_cX4_isSoundNow_2 ++ tb_cX4_isSoundNow_3
def tb_cX4_isSoundNow_1 : List UInt8 := kb_cX4_isSoundNow_1 ++ tb_cX4_isSoundNow_2
def tb_cX4_isSoundNow_0 : List UInt8 := kb_cX4_isSoundNow_0 ++ tb_cX4_isSoundNow_1
set_option maxRecDepth 100000 in
theorem tb_cX4_isSoundNow : (cX4_isSoundNow).data.toList = tb_cX4_isSoundNow_0 := eqL_eq (by decide +kernel)
theorem ow_cX4_isSoundNow_0 (r : Nat) : (cX4_isSoundNow).data.toList.drop (0 + r) = tb_cX4_isSoundNow_0.drop r := by rw [tb_cX4_isSoundNow, Nat.zero_add]
theorem ow_cX4_isSoundNow_1 (r : Nat) : (cX4_isSoundNow).data.toList.drop (40 + r) = tb_cX4_isSoundNow_1.drop r := by
  have e := ow_cX4_isSoundNow_0 (40 + r)
  rw [show 0 + (40 + r) = 40 + r by omega] at e
  exact e.trans (dr_len (a := kb_cX4_isSoundNow_0) (t := tb_cX4_isSoundNow_1) (by decide +kernel))
theorem ow_cX4_isSoundNow_2 (r : Nat) : (cX4_isSoundNow).data.toList.drop (80 + r) = tb_cX4_isSoundNow_2.drop r := by
  have e := ow_cX4_isSoundNow_1 (40 + r)
  rw [show 40 + (40 + r) = 80 + r by omega] at e
  exact e.trans (dr_len (a := kb_cX4_isSoundNow_1) (t := tb_cX4_isSoundNow_2) (by decide +kernel))
theorem ow_cX4_isSoundNow_3 (r : Nat) : (cX4_isSoundNow).data.toList.drop (121 + r) = tb_cX4_isSoundNow_3.drop r := by
  have e := ow_cX4_isSoundNow_2 (41 + r)
  rw [show 80 + (41 + r) = 121 + r by omega] at e
  exact e.trans (dr_len (a := kb_cX4_isSoundNow_2) (t := tb_cX4_isSoundNow_3) (by decide +kernel))
theorem ob_cX4_isSoundNow_0 (r : Nat) {pc : Nat} {l : List UInt8} (hp : 0 + r = pc) (h : tb_cX4_isSoundNow_0.drop r = l) : (cX4_isSoundNow).data.toList.drop pc = l := by
  subst hp
  exact (ow_cX4_isSoundNow_0 r).trans h
theorem ob_cX4_isSoundNow_1 (r : Nat) {pc : Nat} {l : List UInt8} (hp : 40 + r = pc) (h : tb_cX4_isSoundNow_1.drop r = l) : (cX4_isSoundNow).data.toList.drop pc = l := by
  subst hp
  exact (ow_cX4_isSoundNow_1 r).trans h
theorem ob_cX4_isSoundNow_2 (r : Nat) {pc : Nat} {l : List UInt8} (hp : 80 + r = pc) (h : tb_cX4_isSoundNow_2.drop r = l) : (cX4_isSoundNow).data.toList.drop pc = l := by
  subst hp
  exact (ow_cX4_isSoundNow_2 r).trans h
theorem ob_cX4_isSoundNow_3 (r : Nat) {pc : Nat} {l : List UInt8} (hp : 121 + r = pc) (h : tb_cX4_isSoundNow_3.drop r = l) : (cX4_isSoundNow).data.toList.drop pc = l := by
  subst hp
  exact (ow_cX4_isSoundNow_3 r).trans h
theorem dX4_isSoundNow_0 : decode cX4_isSoundNow 0 = .ok (.iconst 0, 1) := dn_3 (ob_cX4_isSoundNow_0 0 rfl rfl)
theorem dX4_isSoundNow_1 : decode cX4_isSoundNow 1 = .ok (.istore_n 1, 1) := dn_60 (ob_cX4_isSoundNow_0 1 rfl rfl)
theorem dX4_isSoundNow_2 : decode cX4_isSoundNow 2 = .ok (.iconst 0, 1) := dn_3 (ob_cX4_isSoundNow_0 2 rfl rfl)
theorem dX4_isSoundNow_3 : decode cX4_isSoundNow 3 = .ok (.istore_n 2, 1) := dn_61 (ob_cX4_isSoundNow_0 3 rfl rfl)
theorem dX4_isSoundNow_4 : decode cX4_isSoundNow 4 = .ok (.iload_n 2, 1) := dn_28 (ob_cX4_isSoundNow_0 4 rfl rfl)
theorem dX4_isSoundNow_5 : decode cX4_isSoundNow 5 = .ok (.bipush 31, 2) := dn_16 (ob_cX4_isSoundNow_0 5 rfl rfl) (by decide +kernel)
theorem dX4_isSoundNow_7 : decode cX4_isSoundNow 7 = .ok (.if_icmp .ge 21, 3) := dn_162 (ob_cX4_isSoundNow_0 7 rfl rfl) (by decide +kernel)
theorem dX4_isSoundNow_10 : decode cX4_isSoundNow 10 = .ok (.iload_n 1, 1) := dn_27 (ob_cX4_isSoundNow_0 10 rfl rfl)
theorem dX4_isSoundNow_11 : decode cX4_isSoundNow 11 = .ok (.aload_n 0, 1) := dn_42 (ob_cX4_isSoundNow_0 11 rfl rfl)
theorem dX4_isSoundNow_12 : decode cX4_isSoundNow 12 = .ok (.iload_n 2, 1) := dn_28 (ob_cX4_isSoundNow_0 12 rfl rfl)
theorem dX4_isSoundNow_13 : decode cX4_isSoundNow 13 = .ok (.iconst 0, 1) := dn_3 (ob_cX4_isSoundNow_0 13 rfl rfl)
theorem dX4_isSoundNow_14 : decode cX4_isSoundNow 14 = .ok (.sipush 255, 3) := dn_17 (ob_cX4_isSoundNow_0 14 rfl rfl) (by decide +kernel)
theorem dX4_isSoundNow_17 : decode cX4_isSoundNow 17 = .ok (.invokevirtual 175, 3) := dn_182 (ob_cX4_isSoundNow_0 17 rfl rfl) rfl
theorem dX4_isSoundNow_20 : decode cX4_isSoundNow 20 = .ok (.iadd, 1) := dn_96 (ob_cX4_isSoundNow_0 20 rfl rfl)
theorem dX4_isSoundNow_21 : decode cX4_isSoundNow 21 = .ok (.istore_n 1, 1) := dn_60 (ob_cX4_isSoundNow_0 21 rfl rfl)
theorem dX4_isSoundNow_22 : decode cX4_isSoundNow 22 = .ok (.iinc 2 1, 3) := dn_132 (ob_cX4_isSoundNow_0 22 rfl rfl) rfl (by decide +kernel)
theorem dX4_isSoundNow_25 : decode cX4_isSoundNow 25 = .ok (.goto (-21), 3) := dn_167 (ob_cX4_isSoundNow_0 25 rfl rfl) (by decide +kernel)
theorem dX4_isSoundNow_28 : decode cX4_isSoundNow 28 = .ok (.iload_n 1, 1) := dn_27 (ob_cX4_isSoundNow_0 28 rfl rfl)
theorem dX4_isSoundNow_29 : decode cX4_isSoundNow 29 = .ok (.sipush 256, 3) := dn_17 (ob_cX4_isSoundNow_0 29 rfl rfl) (by decide +kernel)
theorem dX4_isSoundNow_32 : decode cX4_isSoundNow 32 = .ok (.if_icmp .ne 7, 3) := dn_160 (ob_cX4_isSoundNow_0 32 rfl rfl) (by decide +kernel)
theorem dX4_isSoundNow_35 : decode cX4_isSoundNow 35 = .ok (.iconst 1, 1) := dn_4 (ob_cX4_isSoundNow_0 35 rfl rfl)
theorem dX4_isSoundNow_36 : decode cX4_isSoundNow 36 = .ok (.goto 4, 3) := dn_167 (ob_cX4_isSoundNow_0 36 rfl rfl) (by decide +kernel)
theorem dX4_isSoundNow_39 : decode cX4_isSoundNow 39 = .ok (.iconst 0, 1) := dn_3 (ob_cX4_isSoundNow_0 39 rfl rfl)
theorem dX4_isSoundNow_40 : decode cX4_isSoundNow 40 = .ok (.istore_n 2, 1) := dn_61 (ob_cX4_isSoundNow_1 0 rfl rfl)
theorem dX4_isSoundNow_41 : decode cX4_isSoundNow 41 = .ok (.iconst 0, 1) := dn_3 (ob_cX4_isSoundNow_1 1 rfl rfl)
theorem dX4_isSoundNow_42 : decode cX4_isSoundNow 42 = .ok (.istore_n 3, 1) := dn_62 (ob_cX4_isSoundNow_1 2 rfl rfl)
theorem dX4_isSoundNow_43 : decode cX4_isSoundNow 43 = .ok (.iload_n 3, 1) := dn_29 (ob_cX4_isSoundNow_1 3 rfl rfl)
theorem dX4_isSoundNow_44 : decode cX4_isSoundNow 44 = .ok (.iconst 3, 1) := dn_6 (ob_cX4_isSoundNow_1 4 rfl rfl)
theorem dX4_isSoundNow_45 : decode cX4_isSoundNow 45 = .ok (.if_icmp .ge 96, 3) := dn_162 (ob_cX4_isSoundNow_1 5 rfl rfl) (by decide +kernel)
theorem dX4_isSoundNow_48 : decode cX4_isSoundNow 48 = .ok (.aload_n 0, 1) := dn_42 (ob_cX4_isSoundNow_1 8 rfl rfl)
theorem dX4_isSoundNow_49 : decode cX4_isSoundNow 49 = .ok (.iload_n 3, 1) := dn_29 (ob_cX4_isSoundNow_1 9 rfl rfl)
theorem dX4_isSoundNow_50 : decode cX4_isSoundNow 50 = .ok (.invokevirtual 157, 3) := dn_182 (ob_cX4_isSoundNow_1 10 rfl rfl) rfl
theorem dX4_isSoundNow_53 : decode cX4_isSoundNow 53 = .ok (.istore 4, 2) := dn_54 (ob_cX4_isSoundNow_1 13 rfl rfl) rfl
theorem dX4_isSoundNow_55 : decode cX4_isSoundNow 55 = .ok (.aload_n 0, 1) := dn_42 (ob_cX4_isSoundNow_1 15 rfl rfl)
theorem dX4_isSoundNow_56 : decode cX4_isSoundNow 56 = .ok (.iload_n 3, 1) := dn_29 (ob_cX4_isSoundNow_1 16 rfl rfl)
theorem dX4_isSoundNow_57 : decode cX4_isSoundNow 57 = .ok (.invokevirtual 154, 3) := dn_182 (ob_cX4_isSoundNow_1 17 rfl rfl) rfl
theorem dX4_isSoundNow_60 : decode cX4_isSoundNow 60 = .ok (.istore 5, 2) := dn_54 (ob_cX4_isSoundNow_1 20 rfl rfl) rfl
theorem dX4_isSoundNow_62 : decode cX4_isSoundNow 62 = .ok (.iload_n 2, 1) := dn_28 (ob_cX4_isSoundNow_1 22 rfl rfl)
theorem dX4_isSoundNow_63 : decode cX4_isSoundNow 63 = .ok (.iload 4, 2) := dn_21 (ob_cX4_isSoundNow_1 23 rfl rfl) rfl
theorem dX4_isSoundNow_65 : decode cX4_isSoundNow 65 = .ok (.aload_n 0, 1) := dn_42 (ob_cX4_isSoundNow_1 25 rfl rfl)
theorem dX4_isSoundNow_66 : decode cX4_isSoundNow 66 = .ok (.iload_n 3, 1) := dn_29 (ob_cX4_isSoundNow_1 26 rfl rfl)
theorem dX4_isSoundNow_67 : decode cX4_isSoundNow 67 = .ok (.invokevirtual 160, 3) := dn_182 (ob_cX4_isSoundNow_1 27 rfl rfl) rfl
theorem dX4_isSoundNow_70 : decode cX4_isSoundNow 70 = .ok (.if_icmp .ne 62, 3) := dn_160 (ob_cX4_isSoundNow_1 30 rfl rfl) (by decide +kernel)
theorem dX4_isSoundNow_73 : decode cX4_isSoundNow 73 = .ok (.iload 5, 2) := dn_21 (ob_cX4_isSoundNow_1 33 rfl rfl) rfl
theorem dX4_isSoundNow_75 : decode cX4_isSoundNow 75 = .ok (.aload_n 0, 1) := dn_42 (ob_cX4_isSoundNow_1 35 rfl rfl)
theorem dX4_isSoundNow_76 : decode cX4_isSoundNow 76 = .ok (.iload_n 3, 1) := dn_29 (ob_cX4_isSoundNow_1 36 rfl rfl)
theorem dX4_isSoundNow_77 : decode cX4_isSoundNow 77 = .ok (.invokevirtual 163, 3) := dn_182 (ob_cX4_isSoundNow_1 37 rfl rfl) rfl
theorem dX4_isSoundNow_80 : decode cX4_isSoundNow 80 = .ok (.if_icmp .ne 52, 3) := dn_160 (ob_cX4_isSoundNow_2 0 rfl rfl) (by decide +kernel)
theorem dX4_isSoundNow_83 : decode cX4_isSoundNow 83 = .ok (.aload_n 0, 1) := dn_42 (ob_cX4_isSoundNow_2 3 rfl rfl)
theorem dX4_isSoundNow_84 : decode cX4_isSoundNow 84 = .ok (.iload_n 3, 1) := dn_29 (ob_cX4_isSoundNow_2 4 rfl rfl)
theorem dX4_isSoundNow_85 : decode cX4_isSoundNow 85 = .ok (.iload 4, 2) := dn_21 (ob_cX4_isSoundNow_2 5 rfl rfl) rfl
theorem dX4_isSoundNow_87 : decode cX4_isSoundNow 87 = .ok (.invokevirtual 166, 3) := dn_182 (ob_cX4_isSoundNow_2 7 rfl rfl) rfl
theorem dX4_isSoundNow_90 : decode cX4_isSoundNow 90 = .ok (.iload 5, 2) := dn_21 (ob_cX4_isSoundNow_2 10 rfl rfl) rfl
theorem dX4_isSoundNow_92 : decode cX4_isSoundNow 92 = .ok (.if_icmp .ne 40, 3) := dn_160 (ob_cX4_isSoundNow_2 12 rfl rfl) (by decide +kernel)
theorem dX4_isSoundNow_95 : decode cX4_isSoundNow 95 = .ok (.aload_n 0, 1) := dn_42 (ob_cX4_isSoundNow_2 15 rfl rfl)
theorem dX4_isSoundNow_96 : decode cX4_isSoundNow 96 = .ok (.iload_n 3, 1) := dn_29 (ob_cX4_isSoundNow_2 16 rfl rfl)
theorem dX4_isSoundNow_97 : decode cX4_isSoundNow 97 = .ok (.invokevirtual 148, 3) := dn_182 (ob_cX4_isSoundNow_2 17 rfl rfl) rfl
theorem dX4_isSoundNow_100 : decode cX4_isSoundNow 100 = .ok (.aload_n 0, 1) := dn_42 (ob_cX4_isSoundNow_2 20 rfl rfl)
theorem dX4_isSoundNow_101 : decode cX4_isSoundNow 101 = .ok (.iload_n 3, 1) := dn_29 (ob_cX4_isSoundNow_2 21 rfl rfl)
theorem dX4_isSoundNow_102 : decode cX4_isSoundNow 102 = .ok (.invokevirtual 151, 3) := dn_182 (ob_cX4_isSoundNow_2 22 rfl rfl) rfl
theorem dX4_isSoundNow_105 : decode cX4_isSoundNow 105 = .ok (.iconst (-1), 1) := dn_2 (ob_cX4_isSoundNow_2 25 rfl rfl)
theorem dX4_isSoundNow_106 : decode cX4_isSoundNow 106 = .ok (.if_icmp .ne 7, 3) := dn_160 (ob_cX4_isSoundNow_2 26 rfl rfl) (by decide +kernel)
theorem dX4_isSoundNow_109 : decode cX4_isSoundNow 109 = .ok (.iconst 1, 1) := dn_4 (ob_cX4_isSoundNow_2 29 rfl rfl)
theorem dX4_isSoundNow_110 : decode cX4_isSoundNow 110 = .ok (.goto 4, 3) := dn_167 (ob_cX4_isSoundNow_2 30 rfl rfl) (by decide +kernel)
theorem dX4_isSoundNow_113 : decode cX4_isSoundNow 113 = .ok (.iconst 0, 1) := dn_3 (ob_cX4_isSoundNow_2 33 rfl rfl)
theorem dX4_isSoundNow_114 : decode cX4_isSoundNow 114 = .ok (.if_icmp .ne 18, 3) := dn_160 (ob_cX4_isSoundNow_2 34 rfl rfl) (by decide +kernel)
theorem dX4_isSoundNow_117 : decode cX4_isSoundNow 117 = .ok (.aload_n 0, 1) := dn_42 (ob_cX4_isSoundNow_2 37 rfl rfl)
theorem dX4_isSoundNow_118 : decode cX4_isSoundNow 118 = .ok (.getfield 18, 3) := dn_180 (ob_cX4_isSoundNow_2 38 rfl rfl) rfl
theorem dX4_isSoundNow_121 : decode cX4_isSoundNow 121 = .ok (.iload_n 3, 1) := dn_29 (ob_cX4_isSoundNow_3 0 rfl rfl)
theorem dX4_isSoundNow_122 : decode cX4_isSoundNow 122 = .ok (.iaload, 1) := dn_46 (ob_cX4_isSoundNow_3 1 rfl rfl)
theorem dX4_isSoundNow_123 : decode cX4_isSoundNow 123 = .ok (.bipush 30, 2) := dn_16 (ob_cX4_isSoundNow_3 2 rfl rfl) (by decide +kernel)
theorem dX4_isSoundNow_125 : decode cX4_isSoundNow 125 = .ok (.if_icmp .gt 7, 3) := dn_163 (ob_cX4_isSoundNow_3 4 rfl rfl) (by decide +kernel)
theorem dX4_isSoundNow_128 : decode cX4_isSoundNow 128 = .ok (.iconst 1, 1) := dn_4 (ob_cX4_isSoundNow_3 7 rfl rfl)
theorem dX4_isSoundNow_129 : decode cX4_isSoundNow 129 = .ok (.goto 4, 3) := dn_167 (ob_cX4_isSoundNow_3 8 rfl rfl) (by decide +kernel)
theorem dX4_isSoundNow_132 : decode cX4_isSoundNow 132 = .ok (.iconst 0, 1) := dn_3 (ob_cX4_isSoundNow_3 11 rfl rfl)
theorem dX4_isSoundNow_133 : decode cX4_isSoundNow 133 = .ok (.iand, 1) := dn_126 (ob_cX4_isSoundNow_3 12 rfl rfl)
theorem dX4_isSoundNow_134 : decode cX4_isSoundNow 134 = .ok (.istore_n 2, 1) := dn_61 (ob_cX4_isSoundNow_3 13 rfl rfl)
theorem dX4_isSoundNow_135 : decode cX4_isSoundNow 135 = .ok (.iinc 3 1, 3) := dn_132 (ob_cX4_isSoundNow_3 14 rfl rfl) rfl (by decide +kernel)
theorem dX4_isSoundNow_138 : decode cX4_isSoundNow 138 = .ok (.goto (-95), 3) := dn_167 (ob_cX4_isSoundNow_3 17 rfl rfl) (by decide +kernel)
theorem dX4_isSoundNow_141 : decode cX4_isSoundNow 141 = .ok (.iload_n 2, 1) := dn_28 (ob_cX4_isSoundNow_3 20 rfl rfl)
theorem dX4_isSoundNow_142 : decode cX4_isSoundNow 142 = .ok (.ireturn, 1) := dn_172 (ob_cX4_isSoundNow_3 21 rfl rfl)
def kb_cX4_isSound : List UInt8 := [42, 182, 0, 178, 60, 42, 3, 181, 0, 30, 27, 172]
set_option maxRecDepth 10000 in
theorem ob_cX4_isSound (r : Nat) {l : List UInt8} (h : kb_cX4_isSound.drop r = l) : (cX4_isSound).data.toList.drop r = l := by
  rw [show (cX4_isSound).data.toList = kb_cX4_isSound from eqL_eq (by decide +kernel)]
  exact h
theorem dX4_isSound_0 : decode cX4_isSound 0 = .ok (.aload_n 0, 1) := dn_42 (ob_cX4_isSound 0 rfl)
theorem dX4_isSound_1 : decode cX4_isSound 1 = .ok (.invokevirtual 178, 3) := dn_182 (ob_cX4_isSound 1 rfl) rfl
theorem dX4_isSound_4 : decode cX4_isSound 4 = .ok (.istore_n 1, 1) := dn_60 (ob_cX4_isSound 4 rfl)
theorem dX4_isSound_5 : decode cX4_isSound 5 = .ok (.aload_n 0, 1) := dn_42 (ob_cX4_isSound 5 rfl)
theorem dX4_isSound_6 : decode cX4_isSound 6 = .ok (.iconst 0, 1) := dn_3 (ob_cX4_isSound 6 rfl)
theorem dX4_isSound_7 : decode cX4_isSound 7 = .ok (.putfield 30, 3) := dn_181 (ob_cX4_isSound 7 rfl) rfl
theorem dX4_isSound_10 : decode cX4_isSound 10 = .ok (.iload_n 1, 1) := dn_27 (ob_cX4_isSound 10 rfl)
theorem dX4_isSound_11 : decode cX4_isSound 11 = .ok (.ireturn, 1) := dn_172 (ob_cX4_isSound 11 rfl)
def kb_cX4_digest_0 : List UInt8 := [20, 0, 182, 64, 3, 62, 29, 6, 162, 0, 159, 31, 20, 0, 184, 105, 42, 180, 0, 18, 29, 46, 133, 97, 64, 3, 54, 4, 21, 4, 42, 180, 0, 18, 29, 46, 162, 0, 46, 31]
def kb_cX4_digest_1 : List UInt8 := [20, 0, 184, 105, 42, 180, 0, 15, 29, 50, 21, 4, 46, 133, 97, 20, 0, 184, 105, 42, 180, 0, 7, 42, 180, 0, 15, 29, 50, 21, 4, 46, 46, 133, 97, 64, 132, 4, 1, 167, 255, 205]
def kb_cX4_digest_2 : List UInt8 := [3, 54, 4, 21, 4, 16, 14, 162, 0, 24, 31, 20, 0, 184, 105, 42, 29, 21, 4, 182, 0, 145, 133, 97, 64, 132, 4, 1, 167, 255, 231, 31, 20, 0, 184, 105, 42, 29, 182, 0, 151]
def kb_cX4_digest_3 : List UInt8 := [133, 97, 20, 0, 184, 105, 42, 29, 182, 0, 154, 133, 97, 64, 31, 20, 0, 184, 105, 42, 29, 182, 0, 157, 133, 97, 20, 0, 184, 105, 42, 29, 182, 0, 163, 133, 97, 64, 132, 3, 1]
def kb_cX4_digest_4 : List UInt8 := [167, 255, 98, 3, 62, 29, 8, 162, 0, 22, 31, 20, 0, 184, 105, 42, 29, 182, 0, 172, 133, 97, 64, 132, 3, 1, 167, 255, 235, 31, 20, 0, 184, 105, 42, 182, 0, 178, 153, 0, 7]
def kb_cX4_digest_5 : List UInt8 := [4, 167, 0, 4, 3, 133, 97, 64, 42, 3, 181, 0, 30, 31, 173]
def tb_cX4_digest_6 : List UInt8 := []
def tb_cX4_digest_5 : List UInt8 := kb_cX4_digest_5 ++ tb_cX4_digest_6
def tb_cX4_digest_4 : List UInt8 := kb_cX4_digest_4 ++ tb_cX4_digest_5
def tb_cX4_digest_3 : List UInt8 := kb_cX4_digest_3 ++ tb_cX4_digest_4
def tb_cX4_digest_2 : List UInt8 := kb_cX4_digest_2 ++ tb_cX4_digest_3
def tb_cX4_digest_1 : List UInt8 := kb_cX4_digest_1 ++ tb_cX4_digest_2
def tb_cX4_digest_0 : List UInt8 := kb_cX4_digest_0 ++ tb_cX4_digest_1
set_option maxRecDepth 100000 in
theorem tb_cX4_digest : (cX4_digest).data.toList = tb_cX4_digest_0 := eqL_eq (by decide +kernel)
theorem ow_cX4_digest_0 (r : Nat) : (cX4_digest).data.toList.drop (0 + r) = tb_cX4_digest_0.drop r := by rw [tb_cX4_digest, Nat.zero_add]
theorem ow_cX4_digest_1 (r : Nat) : (cX4_digest).data.toList.drop (40 + r) = tb_cX4_digest_1.drop r := by
  have e := ow_cX4_digest_0 (40 + r)
  rw [show 0 + (40 + r) = 40 + r by omega] at e
  exact e.trans (dr_len (a := kb_cX4_digest_0) (t := tb_cX4_digest_1) (by decide +kernel))
theorem ow_cX4_digest_2 (r : Nat) : (cX4_digest).data.toList.drop (82 + r) = tb_cX4_digest_2.drop r := by
  have e := ow_cX4_digest_1 (42 + r)
  rw [show 40 + (42 + r) = 82 + r by omega] at e
  exact e.trans (dr_len (a := kb_cX4_digest_1) (t := tb_cX4_digest_2) (by decide +kernel))
theorem ow_cX4_digest_3 (r : Nat) : (cX4_digest).data.toList.drop (123 + r) = tb_cX4_digest_3.drop r := by
  have e := ow_cX4_digest_2 (41 + r)
  rw [show 82 + (41 + r) = 123 + r by omega] at e
  exact e.trans (dr_len (a := kb_cX4_digest_2) (t := tb_cX4_digest_3) (by decide +kernel))
theorem ow_cX4_digest_4 (r : Nat) : (cX4_digest).data.toList.drop (164 + r) = tb_cX4_digest_4.drop r := by
  have e := ow_cX4_digest_3 (41 + r)
  rw [show 123 + (41 + r) = 164 + r by omega] at e
  exact e.trans (dr_len (a := kb_cX4_digest_3) (t := tb_cX4_digest_4) (by decide +kernel))
theorem ow_cX4_digest_5 (r : Nat) : (cX4_digest).data.toList.drop (205 + r) = tb_cX4_digest_5.drop r := by
  have e := ow_cX4_digest_4 (41 + r)
  rw [show 164 + (41 + r) = 205 + r by omega] at e
  exact e.trans (dr_len (a := kb_cX4_digest_4) (t := tb_cX4_digest_5) (by decide +kernel))
theorem ob_cX4_digest_0 (r : Nat) {pc : Nat} {l : List UInt8} (hp : 0 + r = pc) (h : tb_cX4_digest_0.drop r = l) : (cX4_digest).data.toList.drop pc = l := by
  subst hp
  exact (ow_cX4_digest_0 r).trans h
theorem ob_cX4_digest_1 (r : Nat) {pc : Nat} {l : List UInt8} (hp : 40 + r = pc) (h : tb_cX4_digest_1.drop r = l) : (cX4_digest).data.toList.drop pc = l := by
  subst hp
  exact (ow_cX4_digest_1 r).trans h
theorem ob_cX4_digest_2 (r : Nat) {pc : Nat} {l : List UInt8} (hp : 82 + r = pc) (h : tb_cX4_digest_2.drop r = l) : (cX4_digest).data.toList.drop pc = l := by
  subst hp
  exact (ow_cX4_digest_2 r).trans h
theorem ob_cX4_digest_3 (r : Nat) {pc : Nat} {l : List UInt8} (hp : 123 + r = pc) (h : tb_cX4_digest_3.drop r = l) : (cX4_digest).data.toList.drop pc = l := by
  subst hp
  exact (ow_cX4_digest_3 r).trans h
theorem ob_cX4_digest_4 (r : Nat) {pc : Nat} {l : List UInt8} (hp : 164 + r = pc) (h : tb_cX4_digest_4.drop r = l) : (cX4_digest).data.toList.drop pc = l := by
  subst hp
  exact (ow_cX4_digest_4 r).trans h
theorem ob_cX4_digest_5 (r : Nat) {pc : Nat} {l : List UInt8} (hp : 205 + r = pc) (h : tb_cX4_digest_5.drop r = l) : (cX4_digest).data.toList.drop pc = l := by
  subst hp
  exact (ow_cX4_digest_5 r).trans h
theorem dX4_digest_0 : decode cX4_digest 0 = .ok (.ldc2_w 182, 3) := dn_20 (ob_cX4_digest_0 0 rfl rfl) rfl
theorem dX4_digest_3 : decode cX4_digest 3 = .ok (.lstore_n 1, 1) := dn_64 (ob_cX4_digest_0 3 rfl rfl)
theorem dX4_digest_4 : decode cX4_digest 4 = .ok (.iconst 0, 1) := dn_3 (ob_cX4_digest_0 4 rfl rfl)
theorem dX4_digest_5 : decode cX4_digest 5 = .ok (.istore_n 3, 1) := dn_62 (ob_cX4_digest_0 5 rfl rfl)
theorem dX4_digest_6 : decode cX4_digest 6 = .ok (.iload_n 3, 1) := dn_29 (ob_cX4_digest_0 6 rfl rfl)
theorem dX4_digest_7 : decode cX4_digest 7 = .ok (.iconst 3, 1) := dn_6 (ob_cX4_digest_0 7 rfl rfl)
theorem dX4_digest_8 : decode cX4_digest 8 = .ok (.if_icmp .ge 159, 3) := dn_162 (ob_cX4_digest_0 8 rfl rfl) (by decide +kernel)
theorem dX4_digest_11 : decode cX4_digest 11 = .ok (.lload_n 1, 1) := dn_31 (ob_cX4_digest_0 11 rfl rfl)
theorem dX4_digest_12 : decode cX4_digest 12 = .ok (.ldc2_w 184, 3) := dn_20 (ob_cX4_digest_0 12 rfl rfl) rfl
theorem dX4_digest_15 : decode cX4_digest 15 = .ok (.lmul, 1) := dn_105 (ob_cX4_digest_0 15 rfl rfl)
theorem dX4_digest_16 : decode cX4_digest 16 = .ok (.aload_n 0, 1) := dn_42 (ob_cX4_digest_0 16 rfl rfl)
theorem dX4_digest_17 : decode cX4_digest 17 = .ok (.getfield 18, 3) := dn_180 (ob_cX4_digest_0 17 rfl rfl) rfl
theorem dX4_digest_20 : decode cX4_digest 20 = .ok (.iload_n 3, 1) := dn_29 (ob_cX4_digest_0 20 rfl rfl)
theorem dX4_digest_21 : decode cX4_digest 21 = .ok (.iaload, 1) := dn_46 (ob_cX4_digest_0 21 rfl rfl)
theorem dX4_digest_22 : decode cX4_digest 22 = .ok (.i2l, 1) := dn_133 (ob_cX4_digest_0 22 rfl rfl)
theorem dX4_digest_23 : decode cX4_digest 23 = .ok (.ladd, 1) := dn_97 (ob_cX4_digest_0 23 rfl rfl)
theorem dX4_digest_24 : decode cX4_digest 24 = .ok (.lstore_n 1, 1) := dn_64 (ob_cX4_digest_0 24 rfl rfl)
theorem dX4_digest_25 : decode cX4_digest 25 = .ok (.iconst 0, 1) := dn_3 (ob_cX4_digest_0 25 rfl rfl)
theorem dX4_digest_26 : decode cX4_digest 26 = .ok (.istore 4, 2) := dn_54 (ob_cX4_digest_0 26 rfl rfl) rfl
theorem dX4_digest_28 : decode cX4_digest 28 = .ok (.iload 4, 2) := dn_21 (ob_cX4_digest_0 28 rfl rfl) rfl
theorem dX4_digest_30 : decode cX4_digest 30 = .ok (.aload_n 0, 1) := dn_42 (ob_cX4_digest_0 30 rfl rfl)
theorem dX4_digest_31 : decode cX4_digest 31 = .ok (.getfield 18, 3) := dn_180 (ob_cX4_digest_0 31 rfl rfl) rfl
theorem dX4_digest_34 : decode cX4_digest 34 = .ok (.iload_n 3, 1) := dn_29 (ob_cX4_digest_0 34 rfl rfl)
theorem dX4_digest_35 : decode cX4_digest 35 = .ok (.iaload, 1) := dn_46 (ob_cX4_digest_0 35 rfl rfl)
theorem dX4_digest_36 : decode cX4_digest 36 = .ok (.if_icmp .ge 46, 3) := dn_162 (ob_cX4_digest_0 36 rfl rfl) (by decide +kernel)
theorem dX4_digest_39 : decode cX4_digest 39 = .ok (.lload_n 1, 1) := dn_31 (ob_cX4_digest_0 39 rfl rfl)
theorem dX4_digest_40 : decode cX4_digest 40 = .ok (.ldc2_w 184, 3) := dn_20 (ob_cX4_digest_1 0 rfl rfl) rfl
theorem dX4_digest_43 : decode cX4_digest 43 = .ok (.lmul, 1) := dn_105 (ob_cX4_digest_1 3 rfl rfl)
theorem dX4_digest_44 : decode cX4_digest 44 = .ok (.aload_n 0, 1) := dn_42 (ob_cX4_digest_1 4 rfl rfl)
theorem dX4_digest_45 : decode cX4_digest 45 = .ok (.getfield 15, 3) := dn_180 (ob_cX4_digest_1 5 rfl rfl) rfl
theorem dX4_digest_48 : decode cX4_digest 48 = .ok (.iload_n 3, 1) := dn_29 (ob_cX4_digest_1 8 rfl rfl)
theorem dX4_digest_49 : decode cX4_digest 49 = .ok (.aaload, 1) := dn_50 (ob_cX4_digest_1 9 rfl rfl)
theorem dX4_digest_50 : decode cX4_digest 50 = .ok (.iload 4, 2) := dn_21 (ob_cX4_digest_1 10 rfl rfl) rfl
theorem dX4_digest_52 : decode cX4_digest 52 = .ok (.iaload, 1) := dn_46 (ob_cX4_digest_1 12 rfl rfl)
theorem dX4_digest_53 : decode cX4_digest 53 = .ok (.i2l, 1) := dn_133 (ob_cX4_digest_1 13 rfl rfl)
theorem dX4_digest_54 : decode cX4_digest 54 = .ok (.ladd, 1) := dn_97 (ob_cX4_digest_1 14 rfl rfl)
theorem dX4_digest_55 : decode cX4_digest 55 = .ok (.ldc2_w 184, 3) := dn_20 (ob_cX4_digest_1 15 rfl rfl) rfl
theorem dX4_digest_58 : decode cX4_digest 58 = .ok (.lmul, 1) := dn_105 (ob_cX4_digest_1 18 rfl rfl)
theorem dX4_digest_59 : decode cX4_digest 59 = .ok (.aload_n 0, 1) := dn_42 (ob_cX4_digest_1 19 rfl rfl)
theorem dX4_digest_60 : decode cX4_digest 60 = .ok (.getfield 7, 3) := dn_180 (ob_cX4_digest_1 20 rfl rfl) rfl
theorem dX4_digest_63 : decode cX4_digest 63 = .ok (.aload_n 0, 1) := dn_42 (ob_cX4_digest_1 23 rfl rfl)
theorem dX4_digest_64 : decode cX4_digest 64 = .ok (.getfield 15, 3) := dn_180 (ob_cX4_digest_1 24 rfl rfl) rfl
theorem dX4_digest_67 : decode cX4_digest 67 = .ok (.iload_n 3, 1) := dn_29 (ob_cX4_digest_1 27 rfl rfl)
theorem dX4_digest_68 : decode cX4_digest 68 = .ok (.aaload, 1) := dn_50 (ob_cX4_digest_1 28 rfl rfl)
theorem dX4_digest_69 : decode cX4_digest 69 = .ok (.iload 4, 2) := dn_21 (ob_cX4_digest_1 29 rfl rfl) rfl
theorem dX4_digest_71 : decode cX4_digest 71 = .ok (.iaload, 1) := dn_46 (ob_cX4_digest_1 31 rfl rfl)
theorem dX4_digest_72 : decode cX4_digest 72 = .ok (.iaload, 1) := dn_46 (ob_cX4_digest_1 32 rfl rfl)
theorem dX4_digest_73 : decode cX4_digest 73 = .ok (.i2l, 1) := dn_133 (ob_cX4_digest_1 33 rfl rfl)
theorem dX4_digest_74 : decode cX4_digest 74 = .ok (.ladd, 1) := dn_97 (ob_cX4_digest_1 34 rfl rfl)
theorem dX4_digest_75 : decode cX4_digest 75 = .ok (.lstore_n 1, 1) := dn_64 (ob_cX4_digest_1 35 rfl rfl)
theorem dX4_digest_76 : decode cX4_digest 76 = .ok (.iinc 4 1, 3) := dn_132 (ob_cX4_digest_1 36 rfl rfl) rfl (by decide +kernel)
theorem dX4_digest_79 : decode cX4_digest 79 = .ok (.goto (-51), 3) := dn_167 (ob_cX4_digest_1 39 rfl rfl) (by decide +kernel)
theorem dX4_digest_82 : decode cX4_digest 82 = .ok (.iconst 0, 1) := dn_3 (ob_cX4_digest_2 0 rfl rfl)
theorem dX4_digest_83 : decode cX4_digest 83 = .ok (.istore 4, 2) := dn_54 (ob_cX4_digest_2 1 rfl rfl) rfl
theorem dX4_digest_85 : decode cX4_digest 85 = .ok (.iload 4, 2) := dn_21 (ob_cX4_digest_2 3 rfl rfl) rfl
theorem dX4_digest_87 : decode cX4_digest 87 = .ok (.bipush 14, 2) := dn_16 (ob_cX4_digest_2 5 rfl rfl) (by decide +kernel)
theorem dX4_digest_89 : decode cX4_digest 89 = .ok (.if_icmp .ge 24, 3) := dn_162 (ob_cX4_digest_2 7 rfl rfl) (by decide +kernel)
theorem dX4_digest_92 : decode cX4_digest 92 = .ok (.lload_n 1, 1) := dn_31 (ob_cX4_digest_2 10 rfl rfl)
theorem dX4_digest_93 : decode cX4_digest 93 = .ok (.ldc2_w 184, 3) := dn_20 (ob_cX4_digest_2 11 rfl rfl) rfl
theorem dX4_digest_96 : decode cX4_digest 96 = .ok (.lmul, 1) := dn_105 (ob_cX4_digest_2 14 rfl rfl)
theorem dX4_digest_97 : decode cX4_digest 97 = .ok (.aload_n 0, 1) := dn_42 (ob_cX4_digest_2 15 rfl rfl)
theorem dX4_digest_98 : decode cX4_digest 98 = .ok (.iload_n 3, 1) := dn_29 (ob_cX4_digest_2 16 rfl rfl)
theorem dX4_digest_99 : decode cX4_digest 99 = .ok (.iload 4, 2) := dn_21 (ob_cX4_digest_2 17 rfl rfl) rfl
theorem dX4_digest_101 : decode cX4_digest 101 = .ok (.invokevirtual 145, 3) := dn_182 (ob_cX4_digest_2 19 rfl rfl) rfl
theorem dX4_digest_104 : decode cX4_digest 104 = .ok (.i2l, 1) := dn_133 (ob_cX4_digest_2 22 rfl rfl)
theorem dX4_digest_105 : decode cX4_digest 105 = .ok (.ladd, 1) := dn_97 (ob_cX4_digest_2 23 rfl rfl)
theorem dX4_digest_106 : decode cX4_digest 106 = .ok (.lstore_n 1, 1) := dn_64 (ob_cX4_digest_2 24 rfl rfl)
theorem dX4_digest_107 : decode cX4_digest 107 = .ok (.iinc 4 1, 3) := dn_132 (ob_cX4_digest_2 25 rfl rfl) rfl (by decide +kernel)
theorem dX4_digest_110 : decode cX4_digest 110 = .ok (.goto (-25), 3) := dn_167 (ob_cX4_digest_2 28 rfl rfl) (by decide +kernel)
theorem dX4_digest_113 : decode cX4_digest 113 = .ok (.lload_n 1, 1) := dn_31 (ob_cX4_digest_2 31 rfl rfl)
theorem dX4_digest_114 : decode cX4_digest 114 = .ok (.ldc2_w 184, 3) := dn_20 (ob_cX4_digest_2 32 rfl rfl) rfl
theorem dX4_digest_117 : decode cX4_digest 117 = .ok (.lmul, 1) := dn_105 (ob_cX4_digest_2 35 rfl rfl)
theorem dX4_digest_118 : decode cX4_digest 118 = .ok (.aload_n 0, 1) := dn_42 (ob_cX4_digest_2 36 rfl rfl)
theorem dX4_digest_119 : decode cX4_digest 119 = .ok (.iload_n 3, 1) := dn_29 (ob_cX4_digest_2 37 rfl rfl)
theorem dX4_digest_120 : decode cX4_digest 120 = .ok (.invokevirtual 151, 3) := dn_182 (ob_cX4_digest_2 38 rfl rfl) rfl
theorem dX4_digest_123 : decode cX4_digest 123 = .ok (.i2l, 1) := dn_133 (ob_cX4_digest_3 0 rfl rfl)
theorem dX4_digest_124 : decode cX4_digest 124 = .ok (.ladd, 1) := dn_97 (ob_cX4_digest_3 1 rfl rfl)
theorem dX4_digest_125 : decode cX4_digest 125 = .ok (.ldc2_w 184, 3) := dn_20 (ob_cX4_digest_3 2 rfl rfl) rfl
theorem dX4_digest_128 : decode cX4_digest 128 = .ok (.lmul, 1) := dn_105 (ob_cX4_digest_3 5 rfl rfl)
theorem dX4_digest_129 : decode cX4_digest 129 = .ok (.aload_n 0, 1) := dn_42 (ob_cX4_digest_3 6 rfl rfl)
theorem dX4_digest_130 : decode cX4_digest 130 = .ok (.iload_n 3, 1) := dn_29 (ob_cX4_digest_3 7 rfl rfl)
theorem dX4_digest_131 : decode cX4_digest 131 = .ok (.invokevirtual 154, 3) := dn_182 (ob_cX4_digest_3 8 rfl rfl) rfl
theorem dX4_digest_134 : decode cX4_digest 134 = .ok (.i2l, 1) := dn_133 (ob_cX4_digest_3 11 rfl rfl)
theorem dX4_digest_135 : decode cX4_digest 135 = .ok (.ladd, 1) := dn_97 (ob_cX4_digest_3 12 rfl rfl)
theorem dX4_digest_136 : decode cX4_digest 136 = .ok (.lstore_n 1, 1) := dn_64 (ob_cX4_digest_3 13 rfl rfl)
theorem dX4_digest_137 : decode cX4_digest 137 = .ok (.lload_n 1, 1) := dn_31 (ob_cX4_digest_3 14 rfl rfl)
theorem dX4_digest_138 : decode cX4_digest 138 = .ok (.ldc2_w 184, 3) := dn_20 (ob_cX4_digest_3 15 rfl rfl) rfl
theorem dX4_digest_141 : decode cX4_digest 141 = .ok (.lmul, 1) := dn_105 (ob_cX4_digest_3 18 rfl rfl)
theorem dX4_digest_142 : decode cX4_digest 142 = .ok (.aload_n 0, 1) := dn_42 (ob_cX4_digest_3 19 rfl rfl)
theorem dX4_digest_143 : decode cX4_digest 143 = .ok (.iload_n 3, 1) := dn_29 (ob_cX4_digest_3 20 rfl rfl)
theorem dX4_digest_144 : decode cX4_digest 144 = .ok (.invokevirtual 157, 3) := dn_182 (ob_cX4_digest_3 21 rfl rfl) rfl
theorem dX4_digest_147 : decode cX4_digest 147 = .ok (.i2l, 1) := dn_133 (ob_cX4_digest_3 24 rfl rfl)
theorem dX4_digest_148 : decode cX4_digest 148 = .ok (.ladd, 1) := dn_97 (ob_cX4_digest_3 25 rfl rfl)
theorem dX4_digest_149 : decode cX4_digest 149 = .ok (.ldc2_w 184, 3) := dn_20 (ob_cX4_digest_3 26 rfl rfl) rfl
theorem dX4_digest_152 : decode cX4_digest 152 = .ok (.lmul, 1) := dn_105 (ob_cX4_digest_3 29 rfl rfl)
theorem dX4_digest_153 : decode cX4_digest 153 = .ok (.aload_n 0, 1) := dn_42 (ob_cX4_digest_3 30 rfl rfl)
theorem dX4_digest_154 : decode cX4_digest 154 = .ok (.iload_n 3, 1) := dn_29 (ob_cX4_digest_3 31 rfl rfl)
theorem dX4_digest_155 : decode cX4_digest 155 = .ok (.invokevirtual 163, 3) := dn_182 (ob_cX4_digest_3 32 rfl rfl) rfl
theorem dX4_digest_158 : decode cX4_digest 158 = .ok (.i2l, 1) := dn_133 (ob_cX4_digest_3 35 rfl rfl)
theorem dX4_digest_159 : decode cX4_digest 159 = .ok (.ladd, 1) := dn_97 (ob_cX4_digest_3 36 rfl rfl)
theorem dX4_digest_160 : decode cX4_digest 160 = .ok (.lstore_n 1, 1) := dn_64 (ob_cX4_digest_3 37 rfl rfl)
theorem dX4_digest_161 : decode cX4_digest 161 = .ok (.iinc 3 1, 3) := dn_132 (ob_cX4_digest_3 38 rfl rfl) rfl (by decide +kernel)
theorem dX4_digest_164 : decode cX4_digest 164 = .ok (.goto (-158), 3) := dn_167 (ob_cX4_digest_4 0 rfl rfl) (by decide +kernel)
theorem dX4_digest_167 : decode cX4_digest 167 = .ok (.iconst 0, 1) := dn_3 (ob_cX4_digest_4 3 rfl rfl)
theorem dX4_digest_168 : decode cX4_digest 168 = .ok (.istore_n 3, 1) := dn_62 (ob_cX4_digest_4 4 rfl rfl)
theorem dX4_digest_169 : decode cX4_digest 169 = .ok (.iload_n 3, 1) := dn_29 (ob_cX4_digest_4 5 rfl rfl)
theorem dX4_digest_170 : decode cX4_digest 170 = .ok (.iconst 5, 1) := dn_8 (ob_cX4_digest_4 6 rfl rfl)
theorem dX4_digest_171 : decode cX4_digest 171 = .ok (.if_icmp .ge 22, 3) := dn_162 (ob_cX4_digest_4 7 rfl rfl) (by decide +kernel)
theorem dX4_digest_174 : decode cX4_digest 174 = .ok (.lload_n 1, 1) := dn_31 (ob_cX4_digest_4 10 rfl rfl)
theorem dX4_digest_175 : decode cX4_digest 175 = .ok (.ldc2_w 184, 3) := dn_20 (ob_cX4_digest_4 11 rfl rfl) rfl
theorem dX4_digest_178 : decode cX4_digest 178 = .ok (.lmul, 1) := dn_105 (ob_cX4_digest_4 14 rfl rfl)
theorem dX4_digest_179 : decode cX4_digest 179 = .ok (.aload_n 0, 1) := dn_42 (ob_cX4_digest_4 15 rfl rfl)
theorem dX4_digest_180 : decode cX4_digest 180 = .ok (.iload_n 3, 1) := dn_29 (ob_cX4_digest_4 16 rfl rfl)
theorem dX4_digest_181 : decode cX4_digest 181 = .ok (.invokevirtual 172, 3) := dn_182 (ob_cX4_digest_4 17 rfl rfl) rfl
theorem dX4_digest_184 : decode cX4_digest 184 = .ok (.i2l, 1) := dn_133 (ob_cX4_digest_4 20 rfl rfl)
theorem dX4_digest_185 : decode cX4_digest 185 = .ok (.ladd, 1) := dn_97 (ob_cX4_digest_4 21 rfl rfl)
theorem dX4_digest_186 : decode cX4_digest 186 = .ok (.lstore_n 1, 1) := dn_64 (ob_cX4_digest_4 22 rfl rfl)
theorem dX4_digest_187 : decode cX4_digest 187 = .ok (.iinc 3 1, 3) := dn_132 (ob_cX4_digest_4 23 rfl rfl) rfl (by decide +kernel)
theorem dX4_digest_190 : decode cX4_digest 190 = .ok (.goto (-21), 3) := dn_167 (ob_cX4_digest_4 26 rfl rfl) (by decide +kernel)
theorem dX4_digest_193 : decode cX4_digest 193 = .ok (.lload_n 1, 1) := dn_31 (ob_cX4_digest_4 29 rfl rfl)
theorem dX4_digest_194 : decode cX4_digest 194 = .ok (.ldc2_w 184, 3) := dn_20 (ob_cX4_digest_4 30 rfl rfl) rfl
theorem dX4_digest_197 : decode cX4_digest 197 = .ok (.lmul, 1) := dn_105 (ob_cX4_digest_4 33 rfl rfl)
theorem dX4_digest_198 : decode cX4_digest 198 = .ok (.aload_n 0, 1) := dn_42 (ob_cX4_digest_4 34 rfl rfl)
theorem dX4_digest_199 : decode cX4_digest 199 = .ok (.invokevirtual 178, 3) := dn_182 (ob_cX4_digest_4 35 rfl rfl) rfl
theorem dX4_digest_202 : decode cX4_digest 202 = .ok (.ifCond .eq 7, 3) := dn_153 (ob_cX4_digest_4 38 rfl rfl) (by decide +kernel)
theorem dX4_digest_205 : decode cX4_digest 205 = .ok (.iconst 1, 1) := dn_4 (ob_cX4_digest_5 0 rfl rfl)
theorem dX4_digest_206 : decode cX4_digest 206 = .ok (.goto 4, 3) := dn_167 (ob_cX4_digest_5 1 rfl rfl) (by decide +kernel)
theorem dX4_digest_209 : decode cX4_digest 209 = .ok (.iconst 0, 1) := dn_3 (ob_cX4_digest_5 4 rfl rfl)
theorem dX4_digest_210 : decode cX4_digest 210 = .ok (.i2l, 1) := dn_133 (ob_cX4_digest_5 5 rfl rfl)
theorem dX4_digest_211 : decode cX4_digest 211 = .ok (.ladd, 1) := dn_97 (ob_cX4_digest_5 6 rfl rfl)
theorem dX4_digest_212 : decode cX4_digest 212 = .ok (.lstore_n 1, 1) := dn_64 (ob_cX4_digest_5 7 rfl rfl)
theorem dX4_digest_213 : decode cX4_digest 213 = .ok (.aload_n 0, 1) := dn_42 (ob_cX4_digest_5 8 rfl rfl)
theorem dX4_digest_214 : decode cX4_digest 214 = .ok (.iconst 0, 1) := dn_3 (ob_cX4_digest_5 9 rfl rfl)
theorem dX4_digest_215 : decode cX4_digest 215 = .ok (.putfield 30, 3) := dn_181 (ob_cX4_digest_5 10 rfl rfl) rfl
theorem dX4_digest_218 : decode cX4_digest 218 = .ok (.lload_n 1, 1) := dn_31 (ob_cX4_digest_5 13 rfl rfl)
theorem dX4_digest_219 : decode cX4_digest 219 = .ok (.lreturn, 1) := dn_173 (ob_cX4_digest_5 14 rfl rfl)
