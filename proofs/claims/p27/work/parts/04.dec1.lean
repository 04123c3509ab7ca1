/-! decode rows -/
def kb_cX0_kindNumber : List UInt8 := [178, 0, 11, 26, 51, 172]
set_option maxRecDepth 10000 in
theorem ob_cX0_kindNumber (r : Nat) {l : List UInt8} (h : kb_cX0_kindNumber.drop r = l) : (cX0_kindNumber).data.toList.drop r = l := by
  rw [show (cX0_kindNumber).data.toList = kb_cX0_kindNumber from eqL_eq (by decide +kernel)]
  exact h
theorem dX0_kindNumber_0 : decode cX0_kindNumber 0 = .ok (.getstatic 11, 3) := dn_178 (ob_cX0_kindNumber 0 rfl) rfl
theorem dX0_kindNumber_3 : decode cX0_kindNumber 3 = .ok (.iload_n 0, 1) := dn_26 (ob_cX0_kindNumber 3 rfl)
theorem dX0_kindNumber_4 : decode cX0_kindNumber 4 = .ok (.baload, 1) := dn_51 (ob_cX0_kindNumber 4 rfl)
theorem dX0_kindNumber_5 : decode cX0_kindNumber 5 = .ok (.ireturn, 1) := dn_172 (ob_cX0_kindNumber 5 rfl)
def kb_cX0_isSo_0 : List UInt8 := [178, 0, 15, 27, 46, 178, 0, 11, 26, 51, 184, 0, 19, 61, 27, 170, 0, 0, 0, 85, 0, 0, 0, 7, 0, 0, 0, 13, 0, 0, 0, 41, 0, 0, 0, 85, 0, 0, 0, 85, 0, 0, 0, 46, 0, 0, 0, 85, 0, 0, 0, 68, 0, 0, 0, 68]
def kb_cX0_isSo_1 : List UInt8 := [26, 184, 0, 23, 172, 28, 154, 0, 15, 26, 16, 60, 159, 0, 9, 26, 16, 62, 160, 0, 7, 4, 167, 0, 4, 3, 172, 28, 153, 0, 14, 26, 184, 0, 23, 154, 0, 7, 4, 167, 0, 4]
def kb_cX0_isSo_2 : List UInt8 := [3, 172, 28, 172]
def tb_cX0_isSo_3 : List UInt8 := []
def tb_cX0_isSo_2 : List UInt8 := kb_cX0_isSo_2 ++ tb_cX0_isSo_3
def tb_cX0_isSo_1 : List UInt8 := kb_cX0_isSo_1 ++ tb_cX0_isSo_2
def tb_cX0_isSo_0 : List UInt8 := kb_cX0_isSo_0 ++ tb_cX0_isSo_1
set_option maxRecDepth 100000 in
theorem tb_cX0_isSo : (cX0_isSo).data.toList = tb_cX0_isSo_0 := eqL_eq (by decide +kernel)
theorem ow_cX0_isSo_0 (r : Nat) : (cX0_isSo).data.toList.drop (0 + r) = tb_cX0_isSo_0.drop r := by rw [tb_cX0_isSo, Nat.zero_add]
theorem ow_cX0_isSo_1 (r : Nat) : (cX0_isSo).data.toList.drop (56 + r) = tb_cX0_isSo_1.drop r := by
  have e := ow_cX0_isSo_0 (56 + r)
  rw [show 0 + (56 + r) = 56 + r by omega] at e
  exact e.trans (dr_len (a := kb_cX0_isSo_0) (t := tb_cX0_isSo_1) (by decide +kernel))
theorem ow_cX0_isSo_2 (r : Nat) : (cX0_isSo).data.toList.drop (98 + r) = tb_cX0_isSo_2.drop r := by
  have e := ow_cX0_isSo_1 (42 + r)
  rw [show 56 + (42 + r) = 98 + r by omega] at e
  exact e.trans (dr_len (a := kb_cX0_isSo_1) (t := tb_cX0_isSo_2) (by decide +kernel))
theorem ob_cX0_isSo_0 (r : Nat) {pc : Nat} {l : List UInt8} (hp : 0 + r = pc) (h : tb_cX0_isSo_0.drop r = l) : (cX0_isSo).data.toList.drop pc = l := by
  subst hp
  exact (ow_cX0_isSo_0 r).trans h
theorem ob_cX0_isSo_1 (r : Nat) {pc : Nat} {l : List UInt8} (hp : 56 + r = pc) (h : tb_cX0_isSo_1.drop r = l) : (cX0_isSo).data.toList.drop pc = l := by
  subst hp
  exact (ow_cX0_isSo_1 r).trans h
theorem ob_cX0_isSo_2 (r : Nat) {pc : Nat} {l : List UInt8} (hp : 98 + r = pc) (h : tb_cX0_isSo_2.drop r = l) : (cX0_isSo).data.toList.drop pc = l := by
  subst hp
  exact (ow_cX0_isSo_2 r).trans h
theorem dX0_isSo_0 : decode cX0_isSo 0 = .ok (.getstatic 15, 3) := dn_178 (ob_cX0_isSo_0 0 rfl rfl) rfl
theorem dX0_isSo_3 : decode cX0_isSo 3 = .ok (.iload_n 1, 1) := dn_27 (ob_cX0_isSo_0 3 rfl rfl)
theorem dX0_isSo_4 : decode cX0_isSo 4 = .ok (.iaload, 1) := dn_46 (ob_cX0_isSo_0 4 rfl rfl)
theorem dX0_isSo_5 : decode cX0_isSo 5 = .ok (.getstatic 11, 3) := dn_178 (ob_cX0_isSo_0 5 rfl rfl) rfl
theorem dX0_isSo_8 : decode cX0_isSo 8 = .ok (.iload_n 0, 1) := dn_26 (ob_cX0_isSo_0 8 rfl rfl)
theorem dX0_isSo_9 : decode cX0_isSo 9 = .ok (.baload, 1) := dn_51 (ob_cX0_isSo_0 9 rfl rfl)
theorem dX0_isSo_10 : decode cX0_isSo 10 = .ok (.invokestatic 19, 3) := dn_184 (ob_cX0_isSo_0 10 rfl rfl) rfl
theorem dX0_isSo_13 : decode cX0_isSo 13 = .ok (.istore_n 2, 1) := dn_61 (ob_cX0_isSo_0 13 rfl rfl)
theorem dX0_isSo_14 : decode cX0_isSo 14 = .ok (.iload_n 1, 1) := dn_27 (ob_cX0_isSo_0 14 rfl rfl)
theorem dX0_isSo_15 : decode cX0_isSo 15 = .ok (.tableswitch 85 7 13 #[41, 85, 85, 46, 85, 68, 68], 41) := by decide +kernel
theorem dX0_isSo_56 : decode cX0_isSo 56 = .ok (.iload_n 0, 1) := dn_26 (ob_cX0_isSo_1 0 rfl rfl)
theorem dX0_isSo_57 : decode cX0_isSo 57 = .ok (.invokestatic 23, 3) := dn_184 (ob_cX0_isSo_1 1 rfl rfl) rfl
theorem dX0_isSo_60 : decode cX0_isSo 60 = .ok (.ireturn, 1) := dn_172 (ob_cX0_isSo_1 4 rfl rfl)
theorem dX0_isSo_61 : decode cX0_isSo 61 = .ok (.iload_n 2, 1) := dn_28 (ob_cX0_isSo_1 5 rfl rfl)
theorem dX0_isSo_62 : decode cX0_isSo 62 = .ok (.ifCond .ne 15, 3) := dn_154 (ob_cX0_isSo_1 6 rfl rfl) (by decide +kernel)
theorem dX0_isSo_65 : decode cX0_isSo 65 = .ok (.iload_n 0, 1) := dn_26 (ob_cX0_isSo_1 9 rfl rfl)
theorem dX0_isSo_66 : decode cX0_isSo 66 = .ok (.bipush 60, 2) := dn_16 (ob_cX0_isSo_1 10 rfl rfl) (by decide +kernel)
theorem dX0_isSo_68 : decode cX0_isSo 68 = .ok (.if_icmp .eq 9, 3) := dn_159 (ob_cX0_isSo_1 12 rfl rfl) (by decide +kernel)
theorem dX0_isSo_71 : decode cX0_isSo 71 = .ok (.iload_n 0, 1) := dn_26 (ob_cX0_isSo_1 15 rfl rfl)
theorem dX0_isSo_72 : decode cX0_isSo 72 = .ok (.bipush 62, 2) := dn_16 (ob_cX0_isSo_1 16 rfl rfl) (by decide +kernel)
theorem dX0_isSo_74 : decode cX0_isSo 74 = .ok (.if_icmp .ne 7, 3) := dn_160 (ob_cX0_isSo_1 18 rfl rfl) (by decide +kernel)
theorem dX0_isSo_77 : decode cX0_isSo 77 = .ok (.iconst 1, 1) := dn_4 (ob_cX0_isSo_1 21 rfl rfl)
theorem dX0_isSo_78 : decode cX0_isSo 78 = .ok (.goto 4, 3) := dn_167 (ob_cX0_isSo_1 22 rfl rfl) (by decide +kernel)
theorem dX0_isSo_81 : decode cX0_isSo 81 = .ok (.iconst 0, 1) := dn_3 (ob_cX0_isSo_1 25 rfl rfl)
theorem dX0_isSo_82 : decode cX0_isSo 82 = .ok (.ireturn, 1) := dn_172 (ob_cX0_isSo_1 26 rfl rfl)
theorem dX0_isSo_83 : decode cX0_isSo 83 = .ok (.iload_n 2, 1) := dn_28 (ob_cX0_isSo_1 27 rfl rfl)
theorem dX0_isSo_84 : decode cX0_isSo 84 = .ok (.ifCond .eq 14, 3) := dn_153 (ob_cX0_isSo_1 28 rfl rfl) (by decide +kernel)
theorem dX0_isSo_87 : decode cX0_isSo 87 = .ok (.iload_n 0, 1) := dn_26 (ob_cX0_isSo_1 31 rfl rfl)
theorem dX0_isSo_88 : decode cX0_isSo 88 = .ok (.invokestatic 23, 3) := dn_184 (ob_cX0_isSo_1 32 rfl rfl) rfl
theorem dX0_isSo_91 : decode cX0_isSo 91 = .ok (.ifCond .ne 7, 3) := dn_154 (ob_cX0_isSo_1 35 rfl rfl) (by decide +kernel)
theorem dX0_isSo_94 : decode cX0_isSo 94 = .ok (.iconst 1, 1) := dn_4 (ob_cX0_isSo_1 38 rfl rfl)
theorem dX0_isSo_95 : decode cX0_isSo 95 = .ok (.goto 4, 3) := dn_167 (ob_cX0_isSo_1 39 rfl rfl) (by decide +kernel)
theorem dX0_isSo_98 : decode cX0_isSo 98 = .ok (.iconst 0, 1) := dn_3 (ob_cX0_isSo_2 0 rfl rfl)
theorem dX0_isSo_99 : decode cX0_isSo 99 = .ok (.ireturn, 1) := dn_172 (ob_cX0_isSo_2 1 rfl rfl)
theorem dX0_isSo_100 : decode cX0_isSo 100 = .ok (.iload_n 2, 1) := dn_28 (ob_cX0_isSo_2 2 rfl rfl)
theorem dX0_isSo_101 : decode cX0_isSo 101 = .ok (.ireturn, 1) := dn_172 (ob_cX0_isSo_2 3 rfl rfl)
def kb_cX0_isBlank : List UInt8 := [26, 16, 9, 161, 0, 9, 26, 16, 13, 164, 0, 15, 26, 16, 28, 161, 0, 13, 26, 16, 32, 163, 0, 7, 4, 167, 0, 4, 3, 172]
set_option maxRecDepth 10000 in
theorem ob_cX0_isBlank (r : Nat) {l : List UInt8} (h : kb_cX0_isBlank.drop r = l) : (cX0_isBlank).data.toList.drop r = l := by
  rw [show (cX0_isBlank).data.toList = kb_cX0_isBlank from eqL_eq (by decide +kernel)]
  exact h
theorem dX0_isBlank_0 : decode cX0_isBlank 0 = .ok (.iload_n 0, 1) := dn_26 (ob_cX0_isBlank 0 rfl)
theorem dX0_isBlank_1 : decode cX0_isBlank 1 = .ok (.bipush 9, 2) := dn_16 (ob_cX0_isBlank 1 rfl) (by decide +kernel)
theorem dX0_isBlank_3 : decode cX0_isBlank 3 = .ok (.if_icmp .lt 9, 3) := dn_161 (ob_cX0_isBlank 3 rfl) (by decide +kernel)
theorem dX0_isBlank_6 : decode cX0_isBlank 6 = .ok (.iload_n 0, 1) := dn_26 (ob_cX0_isBlank 6 rfl)
theorem dX0_isBlank_7 : decode cX0_isBlank 7 = .ok (.bipush 13, 2) := dn_16 (ob_cX0_isBlank 7 rfl) (by decide +kernel)
theorem dX0_isBlank_9 : decode cX0_isBlank 9 = .ok (.if_icmp .le 15, 3) := dn_164 (ob_cX0_isBlank 9 rfl) (by decide +kernel)
theorem dX0_isBlank_12 : decode cX0_isBlank 12 = .ok (.iload_n 0, 1) := dn_26 (ob_cX0_isBlank 12 rfl)
theorem dX0_isBlank_13 : decode cX0_isBlank 13 = .ok (.bipush 28, 2) := dn_16 (ob_cX0_isBlank 13 rfl) (by decide +kernel)
theorem dX0_isBlank_15 : decode cX0_isBlank 15 = .ok (.if_icmp .lt 13, 3) := dn_161 (ob_cX0_isBlank 15 rfl) (by decide +kernel)
theorem dX0_isBlank_18 : decode cX0_isBlank 18 = .ok (.iload_n 0, 1) := dn_26 (ob_cX0_isBlank 18 rfl)
theorem dX0_isBlank_19 : decode cX0_isBlank 19 = .ok (.bipush 32, 2) := dn_16 (ob_cX0_isBlank 19 rfl) (by decide +kernel)
theorem dX0_isBlank_21 : decode cX0_isBlank 21 = .ok (.if_icmp .gt 7, 3) := dn_163 (ob_cX0_isBlank 21 rfl) (by decide +kernel)
theorem dX0_isBlank_24 : decode cX0_isBlank 24 = .ok (.iconst 1, 1) := dn_4 (ob_cX0_isBlank 24 rfl)
theorem dX0_isBlank_25 : decode cX0_isBlank 25 = .ok (.goto 4, 3) := dn_167 (ob_cX0_isBlank 25 rfl) (by decide +kernel)
theorem dX0_isBlank_28 : decode cX0_isBlank 28 = .ok (.iconst 0, 1) := dn_3 (ob_cX0_isBlank 28 rfl)
theorem dX0_isBlank_29 : decode cX0_isBlank 29 = .ok (.ireturn, 1) := dn_172 (ob_cX0_isBlank 29 rfl)
def kb_cX0_isLet : List UInt8 := [26, 27, 153, 0, 8, 16, 11, 167, 0, 5, 16, 12, 184, 0, 27, 172]
set_option maxRecDepth 10000 in
theorem ob_cX0_isLet (r : Nat) {l : List UInt8} (h : kb_cX0_isLet.drop r = l) : (cX0_isLet).data.toList.drop r = l := by
  rw [show (cX0_isLet).data.toList = kb_cX0_isLet from eqL_eq (by decide +kernel)]
  exact h
theorem dX0_isLet_0 : decode cX0_isLet 0 = .ok (.iload_n 0, 1) := dn_26 (ob_cX0_isLet 0 rfl)
theorem dX0_isLet_1 : decode cX0_isLet 1 = .ok (.iload_n 1, 1) := dn_27 (ob_cX0_isLet 1 rfl)
theorem dX0_isLet_2 : decode cX0_isLet 2 = .ok (.ifCond .eq 8, 3) := dn_153 (ob_cX0_isLet 2 rfl) (by decide +kernel)
theorem dX0_isLet_5 : decode cX0_isLet 5 = .ok (.bipush 11, 2) := dn_16 (ob_cX0_isLet 5 rfl) (by decide +kernel)
theorem dX0_isLet_7 : decode cX0_isLet 7 = .ok (.goto 5, 3) := dn_167 (ob_cX0_isLet 7 rfl) (by decide +kernel)
theorem dX0_isLet_10 : decode cX0_isLet 10 = .ok (.bipush 12, 2) := dn_16 (ob_cX0_isLet 10 rfl) (by decide +kernel)
theorem dX0_isLet_12 : decode cX0_isLet 12 = .ok (.invokestatic 27, 3) := dn_184 (ob_cX0_isLet 12 rfl) rfl
theorem dX0_isLet_15 : decode cX0_isLet 15 = .ok (.ireturn, 1) := dn_172 (ob_cX0_isLet 15 rfl)
def kb_cX0_sortBegunBy : List UInt8 := [3, 60, 27, 7, 162, 0, 23, 26, 178, 0, 30, 27, 46, 184, 0, 27, 153, 0, 5, 27, 172, 132, 1, 1, 167, 255, 234, 7, 172]
set_option maxRecDepth 10000 in
theorem ob_cX0_sortBegunBy (r : Nat) {l : List UInt8} (h : kb_cX0_sortBegunBy.drop r = l) : (cX0_sortBegunBy).data.toList.drop r = l := by
  rw [show (cX0_sortBegunBy).data.toList = kb_cX0_sortBegunBy from eqL_eq (by decide +kernel)]
  exact h
theorem dX0_sortBegunBy_0 : decode cX0_sortBegunBy 0 = .ok (.iconst 0, 1) := dn_3 (ob_cX0_sortBegunBy 0 rfl)
theorem dX0_sortBegunBy_1 : decode cX0_sortBegunBy 1 = .ok (.istore_n 1, 1) := dn_60 (ob_cX0_sortBegunBy 1 rfl)
theorem dX0_sortBegunBy_2 : decode cX0_sortBegunBy 2 = .ok (.iload_n 1, 1) := dn_27 (ob_cX0_sortBegunBy 2 rfl)
theorem dX0_sortBegunBy_3 : decode cX0_sortBegunBy 3 = .ok (.iconst 4, 1) := dn_7 (ob_cX0_sortBegunBy 3 rfl)
theorem dX0_sortBegunBy_4 : decode cX0_sortBegunBy 4 = .ok (.if_icmp .ge 23, 3) := dn_162 (ob_cX0_sortBegunBy 4 rfl) (by decide +kernel)
theorem dX0_sortBegunBy_7 : decode cX0_sortBegunBy 7 = .ok (.iload_n 0, 1) := dn_26 (ob_cX0_sortBegunBy 7 rfl)
theorem dX0_sortBegunBy_8 : decode cX0_sortBegunBy 8 = .ok (.getstatic 30, 3) := dn_178 (ob_cX0_sortBegunBy 8 rfl) rfl
theorem dX0_sortBegunBy_11 : decode cX0_sortBegunBy 11 = .ok (.iload_n 1, 1) := dn_27 (ob_cX0_sortBegunBy 11 rfl)
theorem dX0_sortBegunBy_12 : decode cX0_sortBegunBy 12 = .ok (.iaload, 1) := dn_46 (ob_cX0_sortBegunBy 12 rfl)
theorem dX0_sortBegunBy_13 : decode cX0_sortBegunBy 13 = .ok (.invokestatic 27, 3) := dn_184 (ob_cX0_sortBegunBy 13 rfl) rfl
theorem dX0_sortBegunBy_16 : decode cX0_sortBegunBy 16 = .ok (.ifCond .eq 5, 3) := dn_153 (ob_cX0_sortBegunBy 16 rfl) (by decide +kernel)
theorem dX0_sortBegunBy_19 : decode cX0_sortBegunBy 19 = .ok (.iload_n 1, 1) := dn_27 (ob_cX0_sortBegunBy 19 rfl)
theorem dX0_sortBegunBy_20 : decode cX0_sortBegunBy 20 = .ok (.ireturn, 1) := dn_172 (ob_cX0_sortBegunBy 20 rfl)
theorem dX0_sortBegunBy_21 : decode cX0_sortBegunBy 21 = .ok (.iinc 1 1, 3) := dn_132 (ob_cX0_sortBegunBy 21 rfl) rfl (by decide +kernel)
theorem dX0_sortBegunBy_24 : decode cX0_sortBegunBy 24 = .ok (.goto (-22), 3) := dn_167 (ob_cX0_sortBegunBy 24 rfl) (by decide +kernel)
theorem dX0_sortBegunBy_27 : decode cX0_sortBegunBy 27 = .ok (.iconst 4, 1) := dn_7 (ob_cX0_sortBegunBy 27 rfl)
theorem dX0_sortBegunBy_28 : decode cX0_sortBegunBy 28 = .ok (.ireturn, 1) := dn_172 (ob_cX0_sortBegunBy 28 rfl)
def kb_cX0_questionOfOthers : List UInt8 := [178, 0, 33, 26, 46, 172]
set_option maxRecDepth 10000 in
theorem ob_cX0_questionOfOthers (r : Nat) {l : List UInt8} (h : kb_cX0_questionOfOthers.drop r = l) : (cX0_questionOfOthers).data.toList.drop r = l := by
  rw [show (cX0_questionOfOthers).data.toList = kb_cX0_questionOfOthers from eqL_eq (by decide +kernel)]
  exact h
theorem dX0_questionOfOthers_0 : decode cX0_questionOfOthers 0 = .ok (.getstatic 33, 3) := dn_178 (ob_cX0_questionOfOthers 0 rfl) rfl
theorem dX0_questionOfOthers_3 : decode cX0_questionOfOthers 3 = .ok (.iload_n 0, 1) := dn_26 (ob_cX0_questionOfOthers 3 rfl)
theorem dX0_questionOfOthers_4 : decode cX0_questionOfOthers 4 = .ok (.iaload, 1) := dn_46 (ob_cX0_questionOfOthers 4 rfl)
theorem dX0_questionOfOthers_5 : decode cX0_questionOfOthers 5 = .ok (.ireturn, 1) := dn_172 (ob_cX0_questionOfOthers 5 rfl)
def kb_cX1_init : List UInt8 := [42, 183, 0, 3, 42, 16, 30, 188, 8, 181, 0, 9, 42, 16, 31, 188, 10, 181, 0, 15, 177]
set_option maxRecDepth 10000 in
theorem ob_cX1_init (r : Nat) {l : List UInt8} (h : kb_cX1_init.drop r = l) : (cX1_init).data.toList.drop r = l := by
  rw [show (cX1_init).data.toList = kb_cX1_init from eqL_eq (by decide +kernel)]
  exact h
theorem dX1_init_0 : decode cX1_init 0 = .ok (.aload_n 0, 1) := dn_42 (ob_cX1_init 0 rfl)
theorem dX1_init_1 : decode cX1_init 1 = .ok (.invokespecial 3, 3) := dn_183 (ob_cX1_init 1 rfl) rfl
theorem dX1_init_4 : decode cX1_init 4 = .ok (.aload_n 0, 1) := dn_42 (ob_cX1_init 4 rfl)
theorem dX1_init_5 : decode cX1_init 5 = .ok (.bipush 30, 2) := dn_16 (ob_cX1_init 5 rfl) (by decide +kernel)
theorem dX1_init_7 : decode cX1_init 7 = .ok (.newarray .byte, 2) := by decide +kernel
theorem dX1_init_9 : decode cX1_init 9 = .ok (.putfield 9, 3) := dn_181 (ob_cX1_init 9 rfl) rfl
theorem dX1_init_12 : decode cX1_init 12 = .ok (.aload_n 0, 1) := dn_42 (ob_cX1_init 12 rfl)
theorem dX1_init_13 : decode cX1_init 13 = .ok (.bipush 31, 2) := dn_16 (ob_cX1_init 13 rfl) (by decide +kernel)
theorem dX1_init_15 : decode cX1_init 15 = .ok (.newarray .int, 2) := by decide +kernel
theorem dX1_init_17 : decode cX1_init 17 = .ok (.putfield 15, 3) := dn_181 (ob_cX1_init 17 rfl) rfl
theorem dX1_init_20 : decode cX1_init 20 = .ok (.return_, 1) := dn_177 (ob_cX1_init 20 rfl)
def kb_cX1_size : List UInt8 := [42, 180, 0, 19, 172]
set_option maxRecDepth 10000 in
theorem ob_cX1_size (r : Nat) {l : List UInt8} (h : kb_cX1_size.drop r = l) : (cX1_size).data.toList.drop r = l := by
  rw [show (cX1_size).data.toList = kb_cX1_size from eqL_eq (by decide +kernel)]
  exact h
theorem dX1_size_0 : decode cX1_size 0 = .ok (.aload_n 0, 1) := dn_42 (ob_cX1_size 0 rfl)
theorem dX1_size_1 : decode cX1_size 1 = .ok (.getfield 19, 3) := dn_180 (ob_cX1_size 1 rfl) rfl
theorem dX1_size_4 : decode cX1_size 4 = .ok (.ireturn, 1) := dn_172 (ob_cX1_size 4 rfl)
def kb_cX1_signAt : List UInt8 := [42, 180, 0, 9, 27, 51, 17, 0, 255, 126, 172]
set_option maxRecDepth 10000 in
theorem ob_cX1_signAt (r : Nat) {l : List UInt8} (h : kb_cX1_signAt.drop r = l) : (cX1_signAt).data.toList.drop r = l := by
  rw [show (cX1_signAt).data.toList = kb_cX1_signAt from eqL_eq (by decide +kernel)]
  exact h
theorem dX1_signAt_0 : decode cX1_signAt 0 = .ok (.aload_n 0, 1) := dn_42 (ob_cX1_signAt 0 rfl)
theorem dX1_signAt_1 : decode cX1_signAt 1 = .ok (.getfield 9, 3) := dn_180 (ob_cX1_signAt 1 rfl) rfl
theorem dX1_signAt_4 : decode cX1_signAt 4 = .ok (.iload_n 1, 1) := dn_27 (ob_cX1_signAt 4 rfl)
theorem dX1_signAt_5 : decode cX1_signAt 5 = .ok (.baload, 1) := dn_51 (ob_cX1_signAt 5 rfl)
theorem dX1_signAt_6 : decode cX1_signAt 6 = .ok (.sipush 255, 3) := dn_17 (ob_cX1_signAt 6 rfl) (by decide +kernel)
theorem dX1_signAt_9 : decode cX1_signAt 9 = .ok (.iand, 1) := dn_126 (ob_cX1_signAt 9 rfl)
theorem dX1_signAt_10 : decode cX1_signAt 10 = .ok (.ireturn, 1) := dn_172 (ob_cX1_signAt 10 rfl)
def kb_cX1_kindAt : List UInt8 := [42, 27, 182, 0, 23, 184, 0, 27, 172]
set_option maxRecDepth 10000 in
theorem ob_cX1_kindAt (r : Nat) {l : List UInt8} (h : kb_cX1_kindAt.drop r = l) : (cX1_kindAt).data.toList.drop r = l := by
  rw [show (cX1_kindAt).data.toList = kb_cX1_kindAt from eqL_eq (by decide +kernel)]
  exact h
theorem dX1_kindAt_0 : decode cX1_kindAt 0 = .ok (.aload_n 0, 1) := dn_42 (ob_cX1_kindAt 0 rfl)
theorem dX1_kindAt_1 : decode cX1_kindAt 1 = .ok (.iload_n 1, 1) := dn_27 (ob_cX1_kindAt 1 rfl)
theorem dX1_kindAt_2 : decode cX1_kindAt 2 = .ok (.invokevirtual 23, 3) := dn_182 (ob_cX1_kindAt 2 rfl) rfl
theorem dX1_kindAt_5 : decode cX1_kindAt 5 = .ok (.invokestatic 27, 3) := dn_184 (ob_cX1_kindAt 5 rfl) rfl
theorem dX1_kindAt_8 : decode cX1_kindAt 8 = .ok (.ireturn, 1) := dn_172 (ob_cX1_kindAt 8 rfl)
def kb_cX1_allPlaces : List UInt8 := [4, 42, 180, 0, 19, 120, 4, 100, 172]
set_option maxRecDepth 10000 in
theorem ob_cX1_allPlaces (r : Nat) {l : List UInt8} (h : kb_cX1_allPlaces.drop r = l) : (cX1_allPlaces).data.toList.drop r = l := by
  rw [show (cX1_allPlaces).data.toList = kb_cX1_allPlaces from eqL_eq (by decide +kernel)]
  exact h
theorem dX1_allPlaces_0 : decode cX1_allPlaces 0 = .ok (.iconst 1, 1) := dn_4 (ob_cX1_allPlaces 0 rfl)
theorem dX1_allPlaces_1 : decode cX1_allPlaces 1 = .ok (.aload_n 0, 1) := dn_42 (ob_cX1_allPlaces 1 rfl)
theorem dX1_allPlaces_2 : decode cX1_allPlaces 2 = .ok (.getfield 19, 3) := dn_180 (ob_cX1_allPlaces 2 rfl) rfl
theorem dX1_allPlaces_5 : decode cX1_allPlaces 5 = .ok (.ishl, 1) := dn_120 (ob_cX1_allPlaces 5 rfl)
theorem dX1_allPlaces_6 : decode cX1_allPlaces 6 = .ok (.iconst 1, 1) := dn_4 (ob_cX1_allPlaces 6 rfl)
theorem dX1_allPlaces_7 : decode cX1_allPlaces 7 = .ok (.isub, 1) := dn_100 (ob_cX1_allPlaces 7 rfl)
theorem dX1_allPlaces_8 : decode cX1_allPlaces 8 = .ok (.ireturn, 1) := dn_172 (ob_cX1_allPlaces 8 rfl)
def kb_cX1_placesOf : List UInt8 := [3, 61, 3, 62, 29, 42, 180, 0, 19, 162, 0, 27, 42, 29, 182, 0, 23, 27, 184, 0, 32, 153, 0, 9, 28, 4, 29, 120, 128, 61, 132, 3, 1, 167, 255, 227, 28, 172]
set_option maxRecDepth 10000 in
theorem ob_cX1_placesOf (r : Nat) {l : List UInt8} (h : kb_cX1_placesOf.drop r = l) : (cX1_placesOf).data.toList.drop r = l := by
  rw [show (cX1_placesOf).data.toList = kb_cX1_placesOf from eqL_eq (by decide +kernel)]
  exact h
theorem dX1_placesOf_0 : decode cX1_placesOf 0 = .ok (.iconst 0, 1) := dn_3 (ob_cX1_placesOf 0 rfl)
theorem dX1_placesOf_1 : decode cX1_placesOf 1 = .ok (.istore_n 2, 1) := dn_61 (ob_cX1_placesOf 1 rfl)
theorem dX1_placesOf_2 : decode cX1_placesOf 2 = .ok (.iconst 0, 1) := dn_3 (ob_cX1_placesOf 2 rfl)
theorem dX1_placesOf_3 : decode cX1_placesOf 3 = .ok (.istore_n 3, 1) := dn_62 (ob_cX1_placesOf 3 rfl)
theorem dX1_placesOf_4 : decode cX1_placesOf 4 = .ok (.iload_n 3, 1) := dn_29 (ob_cX1_placesOf 4 rfl)
theorem dX1_placesOf_5 : decode cX1_placesOf 5 = .ok (.aload_n 0, 1) := dn_42 (ob_cX1_placesOf 5 rfl)
theorem dX1_placesOf_6 : decode cX1_placesOf 6 = .ok (.getfield 19, 3) := dn_180 (ob_cX1_placesOf 6 rfl) rfl
theorem dX1_placesOf_9 : decode cX1_placesOf 9 = .ok (.if_icmp .ge 27, 3) := dn_162 (ob_cX1_placesOf 9 rfl) (by decide +kernel)
theorem dX1_placesOf_12 : decode cX1_placesOf 12 = .ok (.aload_n 0, 1) := dn_42 (ob_cX1_placesOf 12 rfl)
theorem dX1_placesOf_13 : decode cX1_placesOf 13 = .ok (.iload_n 3, 1) := dn_29 (ob_cX1_placesOf 13 rfl)
theorem dX1_placesOf_14 : decode cX1_placesOf 14 = .ok (.invokevirtual 23, 3) := dn_182 (ob_cX1_placesOf 14 rfl) rfl
theorem dX1_placesOf_17 : decode cX1_placesOf 17 = .ok (.iload_n 1, 1) := dn_27 (ob_cX1_placesOf 17 rfl)
theorem dX1_placesOf_18 : decode cX1_placesOf 18 = .ok (.invokestatic 32, 3) := dn_184 (ob_cX1_placesOf 18 rfl) rfl
theorem dX1_placesOf_21 : decode cX1_placesOf 21 = .ok (.ifCond .eq 9, 3) := dn_153 (ob_cX1_placesOf 21 rfl) (by decide +kernel)
theorem dX1_placesOf_24 : decode cX1_placesOf 24 = .ok (.iload_n 2, 1) := dn_28 (ob_cX1_placesOf 24 rfl)
theorem dX1_placesOf_25 : decode cX1_placesOf 25 = .ok (.iconst 1, 1) := dn_4 (ob_cX1_placesOf 25 rfl)
theorem dX1_placesOf_26 : decode cX1_placesOf 26 = .ok (.iload_n 3, 1) := dn_29 (ob_cX1_placesOf 26 rfl)
theorem dX1_placesOf_27 : decode cX1_placesOf 27 = .ok (.ishl, 1) := dn_120 (ob_cX1_placesOf 27 rfl)
theorem dX1_placesOf_28 : decode cX1_placesOf 28 = .ok (.ior, 1) := dn_128 (ob_cX1_placesOf 28 rfl)
theorem dX1_placesOf_29 : decode cX1_placesOf 29 = .ok (.istore_n 2, 1) := dn_61 (ob_cX1_placesOf 29 rfl)
theorem dX1_placesOf_30 : decode cX1_placesOf 30 = .ok (.iinc 3 1, 3) := dn_132 (ob_cX1_placesOf 30 rfl) rfl (by decide +kernel)
theorem dX1_placesOf_33 : decode cX1_placesOf 33 = .ok (.goto (-29), 3) := dn_167 (ob_cX1_placesOf 33 rfl) (by decide +kernel)
theorem dX1_placesOf_36 : decode cX1_placesOf 36 = .ok (.iload_n 2, 1) := dn_28 (ob_cX1_placesOf 36 rfl)
theorem dX1_placesOf_37 : decode cX1_placesOf 37 = .ok (.ireturn, 1) := dn_172 (ob_cX1_placesOf 37 rfl)
def kb_cX1_placesOfKind : List UInt8 := [3, 61, 3, 62, 29, 42, 180, 0, 19, 162, 0, 24, 42, 29, 182, 0, 36, 27, 160, 0, 9, 28, 4, 29, 120, 128, 61, 132, 3, 1, 167, 255, 230, 28, 172]
set_option maxRecDepth 10000 in
theorem ob_cX1_placesOfKind (r : Nat) {l : List UInt8} (h : kb_cX1_placesOfKind.drop r = l) : (cX1_placesOfKind).data.toList.drop r = l := by
  rw [show (cX1_placesOfKind).data.toList = kb_cX1_placesOfKind from eqL_eq (by decide +kernel)]
  exact h
theorem dX1_placesOfKind_0 : decode cX1_placesOfKind 0 = .ok (.iconst 0, 1) := dn_3 (ob_cX1_placesOfKind 0 rfl)
theorem dX1_placesOfKind_1 : decode cX1_placesOfKind 1 = .ok (.istore_n 2, 1) := dn_61 (ob_cX1_placesOfKind 1 rfl)
theorem dX1_placesOfKind_2 : decode cX1_placesOfKind 2 = .ok (.iconst 0, 1) := dn_3 (ob_cX1_placesOfKind 2 rfl)
theorem dX1_placesOfKind_3 : decode cX1_placesOfKind 3 = .ok (.istore_n 3, 1) := dn_62 (ob_cX1_placesOfKind 3 rfl)
theorem dX1_placesOfKind_4 : decode cX1_placesOfKind 4 = .ok (.iload_n 3, 1) := dn_29 (ob_cX1_placesOfKind 4 rfl)
theorem dX1_placesOfKind_5 : decode cX1_placesOfKind 5 = .ok (.aload_n 0, 1) := dn_42 (ob_cX1_placesOfKind 5 rfl)
theorem dX1_placesOfKind_6 : decode cX1_placesOfKind 6 = .ok (.getfield 19, 3) := dn_180 (ob_cX1_placesOfKind 6 rfl) rfl
theorem dX1_placesOfKind_9 : decode cX1_placesOfKind 9 = .ok (.if_icmp .ge 24, 3) := dn_162 (ob_cX1_placesOfKind 9 rfl) (by decide +kernel)
theorem dX1_placesOfKind_12 : decode cX1_placesOfKind 12 = .ok (.aload_n 0, 1) := dn_42 (ob_cX1_placesOfKind 12 rfl)
theorem dX1_placesOfKind_13 : decode cX1_placesOfKind 13 = .ok (.iload_n 3, 1) := dn_29 (ob_cX1_placesOfKind 13 rfl)
theorem dX1_placesOfKind_14 : decode cX1_placesOfKind 14 = .ok (.invokevirtual 36, 3) := dn_182 (ob_cX1_placesOfKind 14 rfl) rfl
theorem dX1_placesOfKind_17 : decode cX1_placesOfKind 17 = .ok (.iload_n 1, 1) := dn_27 (ob_cX1_placesOfKind 17 rfl)
theorem dX1_placesOfKind_18 : decode cX1_placesOfKind 18 = .ok (.if_icmp .ne 9, 3) := dn_160 (ob_cX1_placesOfKind 18 rfl) (by decide +kernel)
theorem dX1_placesOfKind_21 : decode cX1_placesOfKind 21 = .ok (.iload_n 2, 1) := dn_28 (ob_cX1_placesOfKind 21 rfl)
theorem dX1_placesOfKind_22 : decode cX1_placesOfKind 22 = .ok (.iconst 1, 1) := dn_4 (ob_cX1_placesOfKind 22 rfl)
theorem dX1_placesOfKind_23 : decode cX1_placesOfKind 23 = .ok (.iload_n 3, 1) := dn_29 (ob_cX1_placesOfKind 23 rfl)
theorem dX1_placesOfKind_24 : decode cX1_placesOfKind 24 = .ok (.ishl, 1) := dn_120 (ob_cX1_placesOfKind 24 rfl)
theorem dX1_placesOfKind_25 : decode cX1_placesOfKind 25 = .ok (.ior, 1) := dn_128 (ob_cX1_placesOfKind 25 rfl)
theorem dX1_placesOfKind_26 : decode cX1_placesOfKind 26 = .ok (.istore_n 2, 1) := dn_61 (ob_cX1_placesOfKind 26 rfl)
theorem dX1_placesOfKind_27 : decode cX1_placesOfKind 27 = .ok (.iinc 3 1, 3) := dn_132 (ob_cX1_placesOfKind 27 rfl) rfl (by decide +kernel)
theorem dX1_placesOfKind_30 : decode cX1_placesOfKind 30 = .ok (.goto (-26), 3) := dn_167 (ob_cX1_placesOfKind 30 rfl) (by decide +kernel)
theorem dX1_placesOfKind_33 : decode cX1_placesOfKind 33 = .ok (.iload_n 2, 1) := dn_28 (ob_cX1_placesOfKind 33 rfl)
theorem dX1_placesOfKind_34 : decode cX1_placesOfKind 34 = .ok (.ireturn, 1) := dn_172 (ob_cX1_placesOfKind 34 rfl)
def kb_cX1_setSign : List UInt8 := [42, 180, 0, 9, 27, 28, 145, 84, 177]
set_option maxRecDepth 10000 in
theorem ob_cX1_setSign (r : Nat) {l : List UInt8} (h : kb_cX1_setSign.drop r = l) : (cX1_setSign).data.toList.drop r = l := by
  rw [show (cX1_setSign).data.toList = kb_cX1_setSign from eqL_eq (by decide +kernel)]
  exact h
theorem dX1_setSign_0 : decode cX1_setSign 0 = .ok (.aload_n 0, 1) := dn_42 (ob_cX1_setSign 0 rfl)
theorem dX1_setSign_1 : decode cX1_setSign 1 = .ok (.getfield 9, 3) := dn_180 (ob_cX1_setSign 1 rfl) rfl
theorem dX1_setSign_4 : decode cX1_setSign 4 = .ok (.iload_n 1, 1) := dn_27 (ob_cX1_setSign 4 rfl)
theorem dX1_setSign_5 : decode cX1_setSign 5 = .ok (.iload_n 2, 1) := dn_28 (ob_cX1_setSign 5 rfl)
theorem dX1_setSign_6 : decode cX1_setSign 6 = .ok (.i2b, 1) := dn_145 (ob_cX1_setSign 6 rfl)
theorem dX1_setSign_7 : decode cX1_setSign 7 = .ok (.bastore, 1) := dn_84 (ob_cX1_setSign 7 rfl)
theorem dX1_setSign_8 : decode cX1_setSign 8 = .ok (.return_, 1) := dn_177 (ob_cX1_setSign 8 rfl)
def kb_cX1_insertSign_0 : List UInt8 := [42, 180, 0, 19, 62, 29, 27, 164, 0, 23, 42, 180, 0, 9, 29, 42, 180, 0, 9, 29, 4, 100, 51, 84, 132, 3, 255, 167, 255, 234, 42, 27, 28, 182, 0, 39, 42, 89, 180, 0, 19]
def kb_cX1_insertSign_1 : List UInt8 := [4, 96, 181, 0, 19, 177]
def tb_cX1_insertSign_2 : List UInt8 := []
def tb_cX1_insertSign_1 : List UInt8 := kb_cX1_insertSign_1 ++ tb_cX1_insertSign_2
def tb_cX1_insertSign_0 : List UInt8 := kb_cX1_insertSign_0 ++ tb_cX1_insertSign_1
set_option maxRecDepth 100000 in
theorem tb_cX1_insertSign : (cX1_insertSign).data.toList = tb_cX1_insertSign_0 := eqL_eq (by decide +kernel)
theorem ow_cX1_insertSign_0 (r : Nat) : (cX1_insertSign).data.toList.drop (0 + r) = tb_cX1_insertSign_0.drop r := by rw [tb_cX1_insertSign, Nat.zero_add]
theorem ow_cX1_insertSign_1 (r : Nat) : (cX1_insertSign).data.toList.drop (41 + r) = tb_cX1_insertSign_1.drop r := by
  have e := ow_cX1_insertSign_0 (41 + r)
  rw [show 0 + (41 + r) = 41 + r by omega] at e
  exact e.trans (dr_len (a := kb_cX1_insertSign_0) (t := tb_cX1_insertSign_1) (by decide +kernel))
theorem ob_cX1_insertSign_0 (r : Nat) {pc : Nat} {l : List UInt8} (hp : 0 + r = pc) (h : tb_cX1_insertSign_0.drop r = l) : (cX1_insertSign).data.toList.drop pc = l := by
  subst hp
  exact (ow_cX1_insertSign_0 r).trans h
theorem ob_cX1_insertSign_1 (r : Nat) {pc : Nat} {l : List UInt8} (hp : 41 + r = pc) (h : tb_cX1_insertSign_1.drop r = l) : (cX1_insertSign).data.toList.drop pc = l := by
  subst hp
  exact (ow_cX1_insertSign_1 r).trans h
theorem dX1_insertSign_0 : decode cX1_insertSign 0 = .ok (.aload_n 0, 1) := dn_42 (ob_cX1_insertSign_0 0 rfl rfl)
theorem dX1_insertSign_1 : decode cX1_insertSign 1 = .ok (.getfield 19, 3) := dn_180 (ob_cX1_insertSign_0 1 rfl rfl) rfl
theorem dX1_insertSign_4 : decode cX1_insertSign 4 = .ok (.istore_n 3, 1) := dn_62 (ob_cX1_insertSign_0 4 rfl rfl)
theorem dX1_insertSign_5 : decode cX1_insertSign 5 = .ok (.iload_n 3, 1) := dn_29 (ob_cX1_insertSign_0 5 rfl rfl)
theorem dX1_insertSign_6 : decode cX1_insertSign 6 = .ok (.iload_n 1, 1) := dn_27 (ob_cX1_insertSign_0 6 rfl rfl)
theorem dX1_insertSign_7 : decode cX1_insertSign 7 = .ok (.if_icmp .le 23, 3) := dn_164 (ob_cX1_insertSign_0 7 rfl rfl) (by decide +kernel)
theorem dX1_insertSign_10 : decode cX1_insertSign 10 = .ok (.aload_n 0, 1) := dn_42 (ob_cX1_insertSign_0 10 rfl rfl)
theorem dX1_insertSign_11 : decode cX1_insertSign 11 = .ok (.getfield 9, 3) := dn_180 (ob_cX1_insertSign_0 11 rfl rfl) rfl
theorem dX1_insertSign_14 : decode cX1_insertSign 14 = .ok (.iload_n 3, 1) := dn_29 (ob_cX1_insertSign_0 14 rfl rfl)
theorem dX1_insertSign_15 : decode cX1_insertSign 15 = .ok (.aload_n 0, 1) := dn_42 (ob_cX1_insertSign_0 15 rfl rfl)
theorem dX1_insertSign_16 : decode cX1_insertSign 16 = .ok (.getfield 9, 3) := dn_180 (ob_cX1_insertSign_0 16 rfl rfl) rfl
theorem dX1_insertSign_19 : decode cX1_insertSign 19 = .ok (.iload_n 3, 1) := dn_29 (ob_cX1_insertSign_0 19 rfl rfl)
theorem dX1_insertSign_20 : decode cX1_insertSign 20 = .ok (.iconst 1, 1) := dn_4 (ob_cX1_insertSign_0 20 rfl rfl)
theorem dX1_insertSign_21 : decode cX1_insertSign 21 = .ok (.isub, 1) := dn_100 (ob_cX1_insertSign_0 21 rfl rfl)
theorem dX1_insertSign_22 : decode cX1_insertSign 22 = .ok (.baload, 1) := dn_51 (ob_cX1_insertSign_0 22 rfl rfl)
theorem dX1_insertSign_23 : decode cX1_insertSign 23 = .ok (.bastore, 1) := dn_84 (ob_cX1_insertSign_0 23 rfl rfl)
theorem dX1_insertSign_24 : decode cX1_insertSign 24 = .ok (.iinc 3 (-1), 3) := dn_132 (ob_cX1_insertSign_0 24 rfl rfl) rfl (by decide +kernel)
theorem dX1_insertSign_27 : decode cX1_insertSign 27 = .ok (.goto (-22), 3) := dn_167 (ob_cX1_insertSign_0 27 rfl rfl) (by decide +kernel)
theorem dX1_insertSign_30 : decode cX1_insertSign 30 = .ok (.aload_n 0, 1) := dn_42 (ob_cX1_insertSign_0 30 rfl rfl)
theorem dX1_insertSign_31 : decode cX1_insertSign 31 = .ok (.iload_n 1, 1) := dn_27 (ob_cX1_insertSign_0 31 rfl rfl)
theorem dX1_insertSign_32 : decode cX1_insertSign 32 = .ok (.iload_n 2, 1) := dn_28 (ob_cX1_insertSign_0 32 rfl rfl)
theorem dX1_insertSign_33 : decode cX1_insertSign 33 = .ok (.invokevirtual 39, 3) := dn_182 (ob_cX1_insertSign_0 33 rfl rfl) rfl
theorem dX1_insertSign_36 : decode cX1_insertSign 36 = .ok (.aload_n 0, 1) := dn_42 (ob_cX1_insertSign_0 36 rfl rfl)
theorem dX1_insertSign_37 : decode cX1_insertSign 37 = .ok (.dup, 1) := dn_89 (ob_cX1_insertSign_0 37 rfl rfl)
theorem dX1_insertSign_38 : decode cX1_insertSign 38 = .ok (.getfield 19, 3) := dn_180 (ob_cX1_insertSign_0 38 rfl rfl) rfl
theorem dX1_insertSign_41 : decode cX1_insertSign 41 = .ok (.iconst 1, 1) := dn_4 (ob_cX1_insertSign_1 0 rfl rfl)
theorem dX1_insertSign_42 : decode cX1_insertSign 42 = .ok (.iadd, 1) := dn_96 (ob_cX1_insertSign_1 1 rfl rfl)
theorem dX1_insertSign_43 : decode cX1_insertSign 43 = .ok (.putfield 19, 3) := dn_181 (ob_cX1_insertSign_1 2 rfl rfl) rfl
theorem dX1_insertSign_46 : decode cX1_insertSign 46 = .ok (.return_, 1) := dn_177 (ob_cX1_insertSign_1 5 rfl rfl)
def kb_cX1_retain_0 : List UInt8 := [42, 180, 0, 19, 61, 42, 3, 181, 0, 19, 3, 62, 29, 28, 162, 0, 42, 27, 29, 184, 0, 43, 153, 0, 28, 42, 180, 0, 9, 42, 180, 0, 19, 42, 180, 0, 9, 29, 51, 84]
def kb_cX1_retain_1 : List UInt8 := [42, 89, 180, 0, 19, 4, 96, 181, 0, 19, 132, 3, 1, 167, 255, 215, 28, 42, 180, 0, 19, 100, 172]
def tb_cX1_retain_2 : List UInt8 := []
def tb_cX1_retain_1 : List UInt8 := kb_cX1_retain_1 ++ tb_cX1_retain_2
def tb_cX1_retain_0 : List UInt8 := kb_cX1_retain_0 ++ tb_cX1_retain_1
set_option maxRecDepth 100000 in
theorem tb_cX1_retain : (cX1_retain).data.toList = tb_cX1_retain_0 := eqL_eq (by decide +kernel)
theorem ow_cX1_retain_0 (r : Nat) : (cX1_retain).data.toList.drop (0 + r) = tb_cX1_retain_0.drop r := by rw [tb_cX1_retain, Nat.zero_add]
theorem ow_cX1_retain_1 (r : Nat) : (cX1_retain).data.toList.drop (40 + r) = tb_cX1_retain_1.drop r := by
  have e := ow_cX1_retain_0 (40 + r)
  rw [show 0 + (40 + r) = 40 + r by omega] at e
  exact e.trans (dr_len (a := kb_cX1_retain_0) (t := tb_cX1_retain_1) (by decide +kernel))
theorem ob_cX1_retain_0 (r : Nat) {pc : Nat} {l : List UInt8} (hp : 0 + r = pc) (h : tb_cX1_retain_0.drop r = l) : (cX1_retain).data.toList.drop pc = l := by
  subst hp
  exact (ow_cX1_retain_0 r).trans h
theorem ob_cX1_retain_1 (r : Nat) {pc : Nat} {l : List UInt8} (hp : 40 + r = pc) (h : tb_cX1_retain_1.drop r = l) : (cX1_retain).data.toList.drop pc = l := by
  subst hp
  exact (ow_cX1_retain_1 r).trans h
theorem dX1_retain_0 : decode cX1_retain 0 = .ok (.aload_n 0, 1) := dn_42 (ob_cX1_retain_0 0 rfl rfl)
theorem dX1_retain_1 : decode cX1_retain 1 = .ok (.getfield 19, 3) := dn_180 (ob_cX1_retain_0 1 rfl rfl) rfl
theorem dX1_retain_4 : decode cX1_retain 4 = .ok (.istore_n 2, 1) := dn_61 (ob_cX1_retain_0 4 rfl rfl)
theorem dX1_retain_5 : decode cX1_retain 5 = .ok (.aload_n 0, 1) := dn_42 (ob_cX1_retain_0 5 rfl rfl)
theorem dX1_retain_6 : decode cX1_retain 6 = .ok (.iconst 0, 1) := dn_3 (ob_cX1_retain_0 6 rfl rfl)
theorem dX1_retain_7 : decode cX1_retain 7 = .ok (.putfield 19, 3) := dn_181 (ob_cX1_retain_0 7 rfl rfl) rfl
theorem dX1_retain_10 : decode cX1_retain 10 = .ok (.iconst 0, 1) := dn_3 (ob_cX1_retain_0 10 rfl rfl)
theorem dX1_retain_11 : decode cX1_retain 11 = .ok (.istore_n 3, 1) := dn_62 (ob_cX1_retain_0 11 rfl rfl)
theorem dX1_retain_12 : decode cX1_retain 12 = .ok (.iload_n 3, 1) := dn_29 (ob_cX1_retain_0 12 rfl rfl)
theorem dX1_retain_13 : decode cX1_retain 13 = .ok (.iload_n 2, 1) := dn_28 (ob_cX1_retain_0 13 rfl rfl)
theorem dX1_retain_14 : decode cX1_retain 14 = .ok (.if_icmp .ge 42, 3) := dn_162 (ob_cX1_retain_0 14 rfl rfl) (by decide +kernel)
theorem dX1_retain_17 : decode cX1_retain 17 = .ok (.iload_n 1, 1) := dn_27 (ob_cX1_retain_0 17 rfl rfl)
theorem dX1_retain_18 : decode cX1_retain 18 = .ok (.iload_n 3, 1) := dn_29 (ob_cX1_retain_0 18 rfl rfl)
theorem dX1_retain_19 : decode cX1_retain 19 = .ok (.invokestatic 43, 3) := dn_184 (ob_cX1_retain_0 19 rfl rfl) rfl
theorem dX1_retain_22 : decode cX1_retain 22 = .ok (.ifCond .eq 28, 3) := dn_153 (ob_cX1_retain_0 22 rfl rfl) (by decide +kernel)
theorem dX1_retain_25 : decode cX1_retain 25 = .ok (.aload_n 0, 1) := dn_42 (ob_cX1_retain_0 25 rfl rfl)
theorem dX1_retain_26 : decode cX1_retain 26 = .ok (.getfield 9, 3) := dn_180 (ob_cX1_retain_0 26 rfl rfl) rfl
theorem dX1_retain_29 : decode cX1_retain 29 = .ok (.aload_n 0, 1) := dn_42 (ob_cX1_retain_0 29 rfl rfl)
theorem dX1_retain_30 : decode cX1_retain 30 = .ok (.getfield 19, 3) := dn_180 (ob_cX1_retain_0 30 rfl rfl) rfl
theorem dX1_retain_33 : decode cX1_retain 33 = .ok (.aload_n 0, 1) := dn_42 (ob_cX1_retain_0 33 rfl rfl)
theorem dX1_retain_34 : decode cX1_retain 34 = .ok (.getfield 9, 3) := dn_180 (ob_cX1_retain_0 34 rfl rfl) rfl
theorem dX1_retain_37 : decode cX1_retain 37 = .ok (.iload_n 3, 1) := dn_29 (ob_cX1_retain_0 37 rfl rfl)
theorem dX1_retain_38 : decode cX1_retain 38 = .ok (.baload, 1) := dn_51 (ob_cX1_retain_0 38 rfl rfl)
theorem dX1_retain_39 : decode cX1_retain 39 = .ok (.bastore, 1) := dn_84 (ob_cX1_retain_0 39 rfl rfl)
theorem dX1_retain_40 : decode cX1_retain 40 = .ok (.aload_n 0, 1) := dn_42 (ob_cX1_retain_1 0 rfl rfl)
theorem dX1_retain_41 : decode cX1_retain 41 = .ok (.dup, 1) := dn_89 (ob_cX1_retain_1 1 rfl rfl)
theorem dX1_retain_42 : decode cX1_retain 42 = .ok (.getfield 19, 3) := dn_180 (ob_cX1_retain_1 2 rfl rfl) rfl
theorem dX1_retain_45 : decode cX1_retain 45 = .ok (.iconst 1, 1) := dn_4 (ob_cX1_retain_1 5 rfl rfl)
theorem dX1_retain_46 : decode cX1_retain 46 = .ok (.iadd, 1) := dn_96 (ob_cX1_retain_1 6 rfl rfl)
theorem dX1_retain_47 : decode cX1_retain 47 = .ok (.putfield 19, 3) := dn_181 (ob_cX1_retain_1 7 rfl rfl) rfl
theorem dX1_retain_50 : decode cX1_retain 50 = .ok (.iinc 3 1, 3) := dn_132 (ob_cX1_retain_1 10 rfl rfl) rfl (by decide +kernel)
theorem dX1_retain_53 : decode cX1_retain 53 = .ok (.goto (-41), 3) := dn_167 (ob_cX1_retain_1 13 rfl rfl) (by decide +kernel)
theorem dX1_retain_56 : decode cX1_retain 56 = .ok (.iload_n 2, 1) := dn_28 (ob_cX1_retain_1 16 rfl rfl)
theorem dX1_retain_57 : decode cX1_retain 57 = .ok (.aload_n 0, 1) := dn_42 (ob_cX1_retain_1 17 rfl rfl)
theorem dX1_retain_58 : decode cX1_retain 58 = .ok (.getfield 19, 3) := dn_180 (ob_cX1_retain_1 18 rfl rfl) rfl
theorem dX1_retain_61 : decode cX1_retain 61 = .ok (.isub, 1) := dn_100 (ob_cX1_retain_1 21 rfl rfl)
theorem dX1_retain_62 : decode cX1_retain 62 = .ok (.ireturn, 1) := dn_172 (ob_cX1_retain_1 22 rfl rfl)
def kb_cX1_become : List UInt8 := [28, 54, 4, 21, 4, 29, 162, 0, 25, 42, 180, 0, 9, 21, 4, 28, 100, 43, 180, 0, 9, 21, 4, 51, 84, 132, 4, 1, 167, 255, 231, 42, 29, 28, 100, 181, 0, 19, 177]
set_option maxRecDepth 10000 in
theorem ob_cX1_become (r : Nat) {l : List UInt8} (h : kb_cX1_become.drop r = l) : (cX1_become).data.toList.drop r = l := by
  rw [show (cX1_become).data.toList = kb_cX1_become from eqL_eq (by decide +kernel)]
  exact h
theorem dX1_become_0 : decode cX1_become 0 = .ok (.iload_n 2, 1) := dn_28 (ob_cX1_become 0 rfl)
theorem dX1_become_1 : decode cX1_become 1 = .ok (.istore 4, 2) := dn_54 (ob_cX1_become 1 rfl) rfl
theorem dX1_become_3 : decode cX1_become 3 = .ok (.iload 4, 2) := dn_21 (ob_cX1_become 3 rfl) rfl
theorem dX1_become_5 : decode cX1_become 5 = .ok (.iload_n 3, 1) := dn_29 (ob_cX1_become 5 rfl)
theorem dX1_become_6 : decode cX1_become 6 = .ok (.if_icmp .ge 25, 3) := dn_162 (ob_cX1_become 6 rfl) (by decide +kernel)
theorem dX1_become_9 : decode cX1_become 9 = .ok (.aload_n 0, 1) := dn_42 (ob_cX1_become 9 rfl)
theorem dX1_become_10 : decode cX1_become 10 = .ok (.getfield 9, 3) := dn_180 (ob_cX1_become 10 rfl) rfl
theorem dX1_become_13 : decode cX1_become 13 = .ok (.iload 4, 2) := dn_21 (ob_cX1_become 13 rfl) rfl
theorem dX1_become_15 : decode cX1_become 15 = .ok (.iload_n 2, 1) := dn_28 (ob_cX1_become 15 rfl)
theorem dX1_become_16 : decode cX1_become 16 = .ok (.isub, 1) := dn_100 (ob_cX1_become 16 rfl)
theorem dX1_become_17 : decode cX1_become 17 = .ok (.aload_n 1, 1) := dn_43 (ob_cX1_become 17 rfl)
theorem dX1_become_18 : decode cX1_become 18 = .ok (.getfield 9, 3) := dn_180 (ob_cX1_become 18 rfl) rfl
theorem dX1_become_21 : decode cX1_become 21 = .ok (.iload 4, 2) := dn_21 (ob_cX1_become 21 rfl) rfl
theorem dX1_become_23 : decode cX1_become 23 = .ok (.baload, 1) := dn_51 (ob_cX1_become 23 rfl)
theorem dX1_become_24 : decode cX1_become 24 = .ok (.bastore, 1) := dn_84 (ob_cX1_become 24 rfl)
theorem dX1_become_25 : decode cX1_become 25 = .ok (.iinc 4 1, 3) := dn_132 (ob_cX1_become 25 rfl) rfl (by decide +kernel)
theorem dX1_become_28 : decode cX1_become 28 = .ok (.goto (-25), 3) := dn_167 (ob_cX1_become 28 rfl) (by decide +kernel)
theorem dX1_become_31 : decode cX1_become 31 = .ok (.aload_n 0, 1) := dn_42 (ob_cX1_become 31 rfl)
theorem dX1_become_32 : decode cX1_become 32 = .ok (.iload_n 3, 1) := dn_29 (ob_cX1_become 32 rfl)
theorem dX1_become_33 : decode cX1_become 33 = .ok (.iload_n 2, 1) := dn_28 (ob_cX1_become 33 rfl)
theorem dX1_become_34 : decode cX1_become 34 = .ok (.isub, 1) := dn_100 (ob_cX1_become 34 rfl)
theorem dX1_become_35 : decode cX1_become 35 = .ok (.putfield 19, 3) := dn_181 (ob_cX1_become 35 rfl) rfl
theorem dX1_become_38 : decode cX1_become 38 = .ok (.return_, 1) := dn_177 (ob_cX1_become 38 rfl)
def kb_cX1_append_0 : List UInt8 := [43, 180, 0, 19, 61, 3, 62, 29, 28, 162, 0, 26, 42, 180, 0, 9, 42, 180, 0, 19, 29, 96, 43, 180, 0, 9, 29, 51, 84, 132, 3, 1, 167, 255, 231, 42, 89, 180, 0, 19]
def kb_cX1_append_1 : List UInt8 := [28, 96, 181, 0, 19, 177]
def tb_cX1_append_2 : List UInt8 := []
def tb_cX1_append_1 : List UInt8 := kb_cX1_append_1 ++ tb_cX1_append_2
def tb_cX1_append_0 : List UInt8 := kb_cX1_append_0 ++ tb_cX1_append_1
set_option maxRecDepth 100000 in
theorem tb_cX1_append : (cX1_append).data.toList = tb_cX1_append_0 := eqL_eq (by decide +kernel)
theorem ow_cX1_append_0 (r : Nat) : (cX1_append).data.toList.drop (0 + r) = tb_cX1_append_0.drop r := by rw [tb_cX1_append, Nat.zero_add]
theorem ow_cX1_append_1 (r : Nat) : (cX1_append).data.toList.drop (40 + r) = tb_cX1_append_1.drop r := by
  have e := ow_cX1_append_0 (40 + r)
  rw [show 0 + (40 + r) = 40 + r by omega] at e
  exact e.trans (dr_len (a := kb_cX1_append_0) (t := tb_cX1_append_1) (by decide +kernel))
theorem ob_cX1_append_0 (r : Nat) {pc : Nat} {l : List UInt8} (hp : 0 + r = pc) (h : tb_cX1_append_0.drop r = l) : (cX1_append).data.toList.drop pc = l := by
  subst hp
  exact (ow_cX1_append_0 r).trans h
theorem ob_cX1_append_1 (r : Nat) {pc : Nat} {l : List UInt8} (hp : 40 + r = pc) (h : tb_cX1_append_1.drop r = l) : (cX1_append).data.toList.drop pc = l := by
  subst hp
  exact (ow_cX1_append_1 r).trans h
theorem dX1_append_0 : decode cX1_append 0 = .ok (.aload_n 1, 1) := dn_43 (ob_cX1_append_0 0 rfl rfl)
theorem dX1_append_1 : decode cX1_append 1 = .ok (.getfield 19, 3) := dn_180 (ob_cX1_append_0 1 rfl rfl) rfl
theorem dX1_append_4 : decode cX1_append 4 = .ok (.istore_n 2, 1) := dn_61 (ob_cX1_append_0 4 rfl rfl)
theorem dX1_append_5 : decode cX1_append 5 = .ok (.iconst 0, 1) := dn_3 (ob_cX1_append_0 5 rfl rfl)
theorem dX1_append_6 : decode cX1_append 6 = .ok (.istore_n 3, 1) := dn_62 (ob_cX1_append_0 6 rfl rfl)
theorem dX1_append_7 : decode cX1_append 7 = .ok (.iload_n 3, 1) := dn_29 (ob_cX1_append_0 7 rfl rfl)
theorem dX1_append_8 : decode cX1_append 8 = .ok (.iload_n 2, 1) := dn_28 (ob_cX1_append_0 8 rfl rfl)
theorem dX1_append_9 : decode cX1_append 9 = .ok (.if_icmp .ge 26, 3) := dn_162 (ob_cX1_append_0 9 rfl rfl) (by decide +kernel)
theorem dX1_append_12 : decode cX1_append 12 = .ok (.aload_n 0, 1) := dn_42 (ob_cX1_append_0 12 rfl rfl)
theorem dX1_append_13 : decode cX1_append 13 = .ok (.getfield 9, 3) := dn_180 (ob_cX1_append_0 13 rfl rfl) rfl
theorem dX1_append_16 : decode cX1_append 16 = .ok (.aload_n 0, 1) := dn_42 (ob_cX1_append_0 16 rfl rfl)
theorem dX1_append_17 : decode cX1_append 17 = .ok (.getfield 19, 3) := dn_180 (ob_cX1_append_0 17 rfl rfl) rfl
theorem dX1_append_20 : decode cX1_append 20 = .ok (.iload_n 3, 1) := dn_29 (ob_cX1_append_0 20 rfl rfl)
theorem dX1_append_21 : decode cX1_append 21 = .ok (.iadd, 1) := dn_96 (ob_cX1_append_0 21 rfl rfl)
theorem dX1_append_22 : decode cX1_append 22 = .ok (.aload_n 1, 1) := dn_43 (ob_cX1_append_0 22 rfl rfl)
theorem dX1_append_23 : decode cX1_append 23 = .ok (.getfield 9, 3) := dn_180 (ob_cX1_append_0 23 rfl rfl) rfl
theorem dX1_append_26 : decode cX1_append 26 = .ok (.iload_n 3, 1) := dn_29 (ob_cX1_append_0 26 rfl rfl)
theorem dX1_append_27 : decode cX1_append 27 = .ok (.baload, 1) := dn_51 (ob_cX1_append_0 27 rfl rfl)
theorem dX1_append_28 : decode cX1_append 28 = .ok (.bastore, 1) := dn_84 (ob_cX1_append_0 28 rfl rfl)
theorem dX1_append_29 : decode cX1_append 29 = .ok (.iinc 3 1, 3) := dn_132 (ob_cX1_append_0 29 rfl rfl) rfl (by decide +kernel)
theorem dX1_append_32 : decode cX1_append 32 = .ok (.goto (-25), 3) := dn_167 (ob_cX1_append_0 32 rfl rfl) (by decide +kernel)
theorem dX1_append_35 : decode cX1_append 35 = .ok (.aload_n 0, 1) := dn_42 (ob_cX1_append_0 35 rfl rfl)
theorem dX1_append_36 : decode cX1_append 36 = .ok (.dup, 1) := dn_89 (ob_cX1_append_0 36 rfl rfl)
theorem dX1_append_37 : decode cX1_append 37 = .ok (.getfield 19, 3) := dn_180 (ob_cX1_append_0 37 rfl rfl) rfl
theorem dX1_append_40 : decode cX1_append 40 = .ok (.iload_n 2, 1) := dn_28 (ob_cX1_append_1 0 rfl rfl)
theorem dX1_append_41 : decode cX1_append 41 = .ok (.iadd, 1) := dn_96 (ob_cX1_append_1 1 rfl rfl)
theorem dX1_append_42 : decode cX1_append 42 = .ok (.putfield 19, 3) := dn_181 (ob_cX1_append_1 2 rfl rfl) rfl
theorem dX1_append_45 : decode cX1_append 45 = .ok (.return_, 1) := dn_177 (ob_cX1_append_1 5 rfl rfl)
def kb_cX1_reverse_0 : List UInt8 := [3, 60, 3, 61, 28, 42, 180, 0, 19, 5, 108, 162, 0, 69, 42, 180, 0, 9, 28, 51, 62, 42, 180, 0, 9, 42, 180, 0, 19, 4, 100, 28, 100, 51, 54, 4, 42, 180, 0, 9]
def kb_cX1_reverse_1 : List UInt8 := [28, 21, 4, 84, 42, 180, 0, 9, 42, 180, 0, 19, 4, 100, 28, 100, 29, 84, 27, 154, 0, 9, 29, 21, 4, 159, 0, 7, 4, 167, 0, 4, 3, 60, 132, 2, 1, 167, 255, 183]
def kb_cX1_reverse_2 : List UInt8 := [27, 172]
def tb_cX1_reverse_3 : List UInt8 := []
def tb_cX1_reverse_2 : List UInt8 := kb_cX1_reverse_2 ++ tb_cX1_reverse_3
def tb_cX1_reverse_1 : List UInt8 := kb_cX1_reverse_1 ++ tb_cX1_reverse_2
def tb_cX1_reverse_0 : List UInt8 := kb_cX1_reverse_0 ++ tb_cX1_reverse_1
set_option maxRecDepth 100000 in
theorem tb_cX1_reverse : (cX1_reverse).data.toList = tb_cX1_reverse_0 := eqL_eq (by decide +kernel)
theorem ow_cX1_reverse_0 (r : Nat) : (cX1_reverse).data.toList.drop (0 + r) = tb_cX1_reverse_0.drop r := by rw [tb_cX1_reverse, Nat.zero_add]
theorem ow_cX1_reverse_1 (r : Nat) : (cX1_reverse).data.toList.drop (40 + r) = tb_cX1_reverse_1.drop r := by
  have e := ow_cX1_reverse_0 (40 + r)
  rw [show 0 + (40 + r) = 40 + r by omega] at e
  exact e.trans (dr_len (a := kb_cX1_reverse_0) (t := tb_cX1_reverse_1) (by decide +kernel))
theorem ow_cX1_reverse_2 (r : Nat) : (cX1_reverse).data.toList.drop (80 + r) = tb_cX1_reverse_2.drop r := by
  have e := ow_cX1_reverse_1 (40 + r)
  rw [show 40 + (40 + r) = 80 + r by omega] at e
  exact e.trans (dr_len (a := kb_cX1_reverse_1) (t := tb_cX1_reverse_2) (by decide +kernel))
theorem ob_cX1_reverse_0 (r : Nat) {pc : Nat} {l : List UInt8} (hp : 0 + r = pc) (h : tb_cX1_reverse_0.drop r = l) : (cX1_reverse).data.toList.drop pc = l := by
  subst hp
  exact (ow_cX1_reverse_0 r).trans h
theorem ob_cX1_reverse_1 (r : Nat) {pc : Nat} {l : List UInt8} (hp : 40 + r = pc) (h : tb_cX1_reverse_1.drop r = l) : (cX1_reverse).data.toList.drop pc = l := by
  subst hp
  exact (ow_cX1_reverse_1 r).trans h
theorem ob_cX1_reverse_2 (r : Nat) {pc : Nat} {l : List UInt8} (hp : 80 + r = pc) (h : tb_cX1_reverse_2.drop r = l) : (cX1_reverse).data.toList.drop pc = l := by
  subst hp
  exact (ow_cX1_reverse_2 r).trans h
theorem dX1_reverse_0 : decode cX1_reverse 0 = .ok (.iconst 0, 1) := dn_3 (ob_cX1_reverse_0 0 rfl rfl)
theorem dX1_reverse_1 : decode cX1_reverse 1 = .ok (.istore_n 1, 1) := dn_60 (ob_cX1_reverse_0 1 rfl rfl)
theorem dX1_reverse_2 : decode cX1_reverse 2 = .ok (.iconst 0, 1) := dn_3 (ob_cX1_reverse_0 2 rfl rfl)
theorem dX1_reverse_3 : decode cX1_reverse 3 = .ok (.istore_n 2, 1) := dn_61 (ob_cX1_reverse_0 3 rfl rfl)
theorem dX1_reverse_4 : decode cX1_reverse 4 = .ok (.iload_n 2, 1) := dn_28 (ob_cX1_reverse_0 4 rfl rfl)
theorem dX1_reverse_5 : decode cX1_reverse 5 = .ok (.aload_n 0, 1) := dn_42 (ob_cX1_reverse_0 5 rfl rfl)
theorem dX1_reverse_6 : decode cX1_reverse 6 = .ok (.getfield 19, 3) := dn_180 (ob_cX1_reverse_0 6 rfl rfl) rfl
theorem dX1_reverse_9 : decode cX1_reverse 9 = .ok (.iconst 2, 1) := dn_5 (ob_cX1_reverse_0 9 rfl rfl)
theorem dX1_reverse_10 : decode cX1_reverse 10 = .ok (.idiv, 1) := dn_108 (ob_cX1_reverse_0 10 rfl rfl)
theorem dX1_reverse_11 : decode cX1_reverse 11 = .ok (.if_icmp .ge 69, 3) := dn_162 (ob_cX1_reverse_0 11 rfl rfl) (by decide +kernel)
theorem dX1_reverse_14 : decode cX1_reverse 14 = .ok (.aload_n 0, 1) := dn_42 (ob_cX1_reverse_0 14 rfl rfl)
theorem dX1_reverse_15 : decode cX1_reverse 15 = .ok (.getfield 9, 3) := dn_180 (ob_cX1_reverse_0 15 rfl rfl) rfl
theorem dX1_reverse_18 : decode cX1_reverse 18 = .ok (.iload_n 2, 1) := dn_28 (ob_cX1_reverse_0 18 rfl rfl)
theorem dX1_reverse_19 : decode cX1_reverse 19 = .ok (.baload, 1) := dn_51 (ob_cX1_reverse_0 19 rfl rfl)
theorem dX1_reverse_20 : decode cX1_reverse 20 = .ok (.istore_n 3, 1) := dn_62 (ob_cX1_reverse_0 20 rfl rfl)
theorem dX1_reverse_21 : decode cX1_reverse 21 = .ok (.aload_n 0, 1) := dn_42 (ob_cX1_reverse_0 21 rfl rfl)
theorem dX1_reverse_22 : decode cX1_reverse 22 = .ok (.getfield 9, 3) := dn_180 (ob_cX1_reverse_0 22 rfl rfl) rfl
theorem dX1_reverse_25 : decode cX1_reverse 25 = .ok (.aload_n 0, 1) := dn_42 (ob_cX1_reverse_0 25 rfl rfl)
theorem dX1_reverse_26 : decode cX1_reverse 26 = .ok (.getfield 19, 3) := dn_180 (ob_cX1_reverse_0 26 rfl rfl) rfl
theorem dX1_reverse_29 : decode cX1_reverse 29 = .ok (.iconst 1, 1) := dn_4 (ob_cX1_reverse_0 29 rfl rfl)
theorem dX1_reverse_30 : decode cX1_reverse 30 = .ok (.isub, 1) := dn_100 (ob_cX1_reverse_0 30 rfl rfl)
theorem dX1_reverse_31 : decode cX1_reverse 31 = .ok (.iload_n 2, 1) := dn_28 (ob_cX1_reverse_0 31 rfl rfl)
theorem dX1_reverse_32 : decode cX1_reverse 32 = .ok (.isub, 1) := dn_100 (ob_cX1_reverse_0 32 rfl rfl)
theorem dX1_reverse_33 : decode cX1_reverse 33 = .ok (.baload, 1) := dn_51 (ob_cX1_reverse_0 33 rfl rfl)
theorem dX1_reverse_34 : decode cX1_reverse 34 = .ok (.istore 4, 2) := dn_54 (ob_cX1_reverse_0 34 rfl rfl) rfl
theorem dX1_reverse_36 : decode cX1_reverse 36 = .ok (.aload_n 0, 1) := dn_42 (ob_cX1_reverse_0 36 rfl rfl)
theorem dX1_reverse_37 : decode cX1_reverse 37 = .ok (.getfield 9, 3) := dn_180 (ob_cX1_reverse_0 37 rfl rfl) rfl
theorem dX1_reverse_40 : decode cX1_reverse 40 = .ok (.iload_n 2, 1) := dn_28 (ob_cX1_reverse_1 0 rfl rfl)
theorem dX1_reverse_41 : decode cX1_reverse 41 = .ok (.iload 4, 2) := dn_21 (ob_cX1_reverse_1 1 rfl rfl) rfl
theorem dX1_reverse_43 : decode cX1_reverse 43 = .ok (.bastore, 1) := dn_84 (ob_cX1_reverse_1 3 rfl rfl)
theorem dX1_reverse_44 : decode cX1_reverse 44 = .ok (.aload_n 0, 1) := dn_42 (ob_cX1_reverse_1 4 rfl rfl)
theorem dX1_reverse_45 : decode cX1_reverse 45 = .ok (.getfield 9, 3) := dn_180 (ob_cX1_reverse_1 5 rfl rfl) rfl
theorem dX1_reverse_48 : decode cX1_reverse 48 = .ok (.aload_n 0, 1) := dn_42 (ob_cX1_reverse_1 8 rfl rfl)
theorem dX1_reverse_49 : decode cX1_reverse 49 = .ok (.getfield 19, 3) := dn_180 (ob_cX1_reverse_1 9 rfl rfl) rfl
theorem dX1_reverse_52 : decode cX1_reverse 52 = .ok (.iconst 1, 1) := dn_4 (ob_cX1_reverse_1 12 rfl rfl)
theorem dX1_reverse_53 : decode cX1_reverse 53 = .ok (.isub, 1) := dn_100 (ob_cX1_reverse_1 13 rfl rfl)
theorem dX1_reverse_54 : decode cX1_reverse 54 = .ok (.iload_n 2, 1) := dn_28 (ob_cX1_reverse_1 14 rfl rfl)
theorem dX1_reverse_55 : decode cX1_reverse 55 = .ok (.isub, 1) := dn_100 (ob_cX1_reverse_1 15 rfl rfl)
theorem dX1_reverse_56 : decode cX1_reverse 56 = .ok (.iload_n 3, 1) := dn_29 (ob_cX1_reverse_1 16 rfl rfl)
theorem dX1_reverse_57 : decode cX1_reverse 57 = .ok (.bastore, 1) := dn_84 (ob_cX1_reverse_1 17 rfl rfl)
theorem dX1_reverse_58 : decode cX1_reverse 58 = .ok (.iload_n 1, 1) := dn_27 (ob_cX1_reverse_1 18 rfl rfl)
theorem dX1_reverse_59 : decode cX1_reverse 59 = .ok (.ifCond .ne 9, 3) := dn_154 (ob_cX1_reverse_1 19 rfl rfl) (by decide +kernel)
theorem dX1_reverse_62 : decode cX1_reverse 62 = .ok (.iload_n 3, 1) := dn_29 (ob_cX1_reverse_1 22 rfl rfl)
theorem dX1_reverse_63 : decode cX1_reverse 63 = .ok (.iload 4, 2) := dn_21 (ob_cX1_reverse_1 23 rfl rfl) rfl
theorem dX1_reverse_65 : decode cX1_reverse 65 = .ok (.if_icmp .eq 7, 3) := dn_159 (ob_cX1_reverse_1 25 rfl rfl) (by decide +kernel)
theorem dX1_reverse_68 : decode cX1_reverse 68 = .ok (.iconst 1, 1) := dn_4 (ob_cX1_reverse_1 28 rfl rfl)
theorem dX1_reverse_69 : decode cX1_reverse 69 = .ok (.goto 4, 3) := dn_167 (ob_cX1_reverse_1 29 rfl rfl) (by decide +kernel)
theorem dX1_reverse_72 : decode cX1_reverse 72 = .ok (.iconst 0, 1) := dn_3 (ob_cX1_reverse_1 32 rfl rfl)
theorem dX1_reverse_73 : decode cX1_reverse 73 = .ok (.istore_n 1, 1) := dn_60 (ob_cX1_reverse_1 33 rfl rfl)
theorem dX1_reverse_74 : decode cX1_reverse 74 = .ok (.iinc 2 1, 3) := dn_132 (ob_cX1_reverse_1 34 rfl rfl) rfl (by decide +kernel)
theorem dX1_reverse_77 : decode cX1_reverse 77 = .ok (.goto (-73), 3) := dn_167 (ob_cX1_reverse_1 37 rfl rfl) (by decide +kernel)
theorem dX1_reverse_80 : decode cX1_reverse 80 = .ok (.iload_n 1, 1) := dn_27 (ob_cX1_reverse_2 0 rfl rfl)
theorem dX1_reverse_81 : decode cX1_reverse 81 = .ok (.ireturn, 1) := dn_172 (ob_cX1_reverse_2 1 rfl rfl)
def kb_cX1_isNamed : List UInt8 := [42, 180, 0, 19, 158, 0, 30, 42, 3, 182, 0, 23, 184, 0, 46, 154, 0, 19, 42, 3, 182, 0, 49, 42, 180, 0, 19, 160, 0, 7, 4, 167, 0, 4, 3, 172]
set_option maxRecDepth 10000 in
theorem ob_cX1_isNamed (r : Nat) {l : List UInt8} (h : kb_cX1_isNamed.drop r = l) : (cX1_isNamed).data.toList.drop r = l := by
  rw [show (cX1_isNamed).data.toList = kb_cX1_isNamed from eqL_eq (by decide +kernel)]
  exact h
theorem dX1_isNamed_0 : decode cX1_isNamed 0 = .ok (.aload_n 0, 1) := dn_42 (ob_cX1_isNamed 0 rfl)
theorem dX1_isNamed_1 : decode cX1_isNamed 1 = .ok (.getfield 19, 3) := dn_180 (ob_cX1_isNamed 1 rfl) rfl
theorem dX1_isNamed_4 : decode cX1_isNamed 4 = .ok (.ifCond .le 30, 3) := dn_158 (ob_cX1_isNamed 4 rfl) (by decide +kernel)
theorem dX1_isNamed_7 : decode cX1_isNamed 7 = .ok (.aload_n 0, 1) := dn_42 (ob_cX1_isNamed 7 rfl)
theorem dX1_isNamed_8 : decode cX1_isNamed 8 = .ok (.iconst 0, 1) := dn_3 (ob_cX1_isNamed 8 rfl)
theorem dX1_isNamed_9 : decode cX1_isNamed 9 = .ok (.invokevirtual 23, 3) := dn_182 (ob_cX1_isNamed 9 rfl) rfl
theorem dX1_isNamed_12 : decode cX1_isNamed 12 = .ok (.invokestatic 46, 3) := dn_184 (ob_cX1_isNamed 12 rfl) rfl
theorem dX1_isNamed_15 : decode cX1_isNamed 15 = .ok (.ifCond .ne 19, 3) := dn_154 (ob_cX1_isNamed 15 rfl) (by decide +kernel)
theorem dX1_isNamed_18 : decode cX1_isNamed 18 = .ok (.aload_n 0, 1) := dn_42 (ob_cX1_isNamed 18 rfl)
theorem dX1_isNamed_19 : decode cX1_isNamed 19 = .ok (.iconst 0, 1) := dn_3 (ob_cX1_isNamed 19 rfl)
theorem dX1_isNamed_20 : decode cX1_isNamed 20 = .ok (.invokevirtual 49, 3) := dn_182 (ob_cX1_isNamed 20 rfl) rfl
theorem dX1_isNamed_23 : decode cX1_isNamed 23 = .ok (.aload_n 0, 1) := dn_42 (ob_cX1_isNamed 23 rfl)
theorem dX1_isNamed_24 : decode cX1_isNamed 24 = .ok (.getfield 19, 3) := dn_180 (ob_cX1_isNamed 24 rfl) rfl
theorem dX1_isNamed_27 : decode cX1_isNamed 27 = .ok (.if_icmp .ne 7, 3) := dn_160 (ob_cX1_isNamed 27 rfl) (by decide +kernel)
theorem dX1_isNamed_30 : decode cX1_isNamed 30 = .ok (.iconst 1, 1) := dn_4 (ob_cX1_isNamed 30 rfl)
theorem dX1_isNamed_31 : decode cX1_isNamed 31 = .ok (.goto 4, 3) := dn_167 (ob_cX1_isNamed 31 rfl) (by decide +kernel)
theorem dX1_isNamed_34 : decode cX1_isNamed 34 = .ok (.iconst 0, 1) := dn_3 (ob_cX1_isNamed 34 rfl)
theorem dX1_isNamed_35 : decode cX1_isNamed 35 = .ok (.ireturn, 1) := dn_172 (ob_cX1_isNamed 35 rfl)
def kb_cX1_firstFault_0 : List UInt8 := [3, 60, 27, 42, 180, 0, 19, 162, 0, 31, 42, 27, 182, 0, 23, 27, 154, 0, 7, 4, 167, 0, 4, 3, 184, 0, 52, 154, 0, 5, 27, 172, 132, 1, 1, 167, 255, 223, 42, 180, 0, 19]
def kb_cX1_firstFault_1 : List UInt8 := [154, 0, 7, 3, 167, 0, 4, 2, 172]
def tb_cX1_firstFault_2 : List UInt8 := []
def tb_cX1_firstFault_1 : List UInt8 := kb_cX1_firstFault_1 ++ tb_cX1_firstFault_2
def tb_cX1_firstFault_0 : List UInt8 := kb_cX1_firstFault_0 ++ tb_cX1_firstFault_1
set_option maxRecDepth 100000 in
theorem tb_cX1_firstFault : (cX1_firstFault).data.toList = tb_cX1_firstFault_0 := eqL_eq (by decide +kernel)
theorem ow_cX1_firstFault_0 (r : Nat) : (cX1_firstFault).data.toList.drop (0 + r) = tb_cX1_firstFault_0.drop r := by rw [tb_cX1_firstFault, Nat.zero_add]
theorem ow_cX1_firstFault_1 (r : Nat) : (cX1_firstFault).data.toList.drop (42 + r) = tb_cX1_firstFault_1.drop r := by
  have e := ow_cX1_firstFault_0 (42 + r)
  rw [show 0 + (42 + r) = 42 + r by omega] at e
  exact e.trans (dr_len (a := kb_cX1_firstFault_0) (t := tb_cX1_firstFault_1) (by decide +kernel))
theorem ob_cX1_firstFault_0 (r : Nat) {pc : Nat} {l : List UInt8} (hp : 0 + r = pc) (h : tb_cX1_firstFault_0.drop r = l) : (cX1_firstFault).data.toList.drop pc = l := by
  subst hp
  exact (ow_cX1_firstFault_0 r).trans h
theorem ob_cX1_firstFault_1 (r : Nat) {pc : Nat} {l : List UInt8} (hp : 42 + r = pc) (h : tb_cX1_firstFault_1.drop r = l) : (cX1_firstFault).data.toList.drop pc = l := by
  subst hp
  exact (ow_cX1_firstFault_1 r).trans h
theorem dX1_firstFault_0 : decode cX1_firstFault 0 = .ok (.iconst 0, 1) := dn_3 (ob_cX1_firstFault_0 0 rfl rfl)
theorem dX1_firstFault_1 : decode cX1_firstFault 1 = .ok (.istore_n 1, 1) := dn_60 (ob_cX1_firstFault_0 1 rfl rfl)
theorem dX1_firstFault_2 : decode cX1_firstFault 2 = .ok (.iload_n 1, 1) := dn_27 (ob_cX1_firstFault_0 2 rfl rfl)
theorem dX1_firstFault_3 : decode cX1_firstFault 3 = .ok (.aload_n 0, 1) := dn_42 (ob_cX1_firstFault_0 3 rfl rfl)
theorem dX1_firstFault_4 : decode cX1_firstFault 4 = .ok (.getfield 19, 3) := dn_180 (ob_cX1_firstFault_0 4 rfl rfl) rfl
theorem dX1_firstFault_7 : decode cX1_firstFault 7 = .ok (.if_icmp .ge 31, 3) := dn_162 (ob_cX1_firstFault_0 7 rfl rfl) (by decide +kernel)
theorem dX1_firstFault_10 : decode cX1_firstFault 10 = .ok (.aload_n 0, 1) := dn_42 (ob_cX1_firstFault_0 10 rfl rfl)
theorem dX1_firstFault_11 : decode cX1_firstFault 11 = .ok (.iload_n 1, 1) := dn_27 (ob_cX1_firstFault_0 11 rfl rfl)
theorem dX1_firstFault_12 : decode cX1_firstFault 12 = .ok (.invokevirtual 23, 3) := dn_182 (ob_cX1_firstFault_0 12 rfl rfl) rfl
theorem dX1_firstFault_15 : decode cX1_firstFault 15 = .ok (.iload_n 1, 1) := dn_27 (ob_cX1_firstFault_0 15 rfl rfl)
theorem dX1_firstFault_16 : decode cX1_firstFault 16 = .ok (.ifCond .ne 7, 3) := dn_154 (ob_cX1_firstFault_0 16 rfl rfl) (by decide +kernel)
theorem dX1_firstFault_19 : decode cX1_firstFault 19 = .ok (.iconst 1, 1) := dn_4 (ob_cX1_firstFault_0 19 rfl rfl)
theorem dX1_firstFault_20 : decode cX1_firstFault 20 = .ok (.goto 4, 3) := dn_167 (ob_cX1_firstFault_0 20 rfl rfl) (by decide +kernel)
theorem dX1_firstFault_23 : decode cX1_firstFault 23 = .ok (.iconst 0, 1) := dn_3 (ob_cX1_firstFault_0 23 rfl rfl)
theorem dX1_firstFault_24 : decode cX1_firstFault 24 = .ok (.invokestatic 52, 3) := dn_184 (ob_cX1_firstFault_0 24 rfl rfl) rfl
theorem dX1_firstFault_27 : decode cX1_firstFault 27 = .ok (.ifCond .ne 5, 3) := dn_154 (ob_cX1_firstFault_0 27 rfl rfl) (by decide +kernel)
theorem dX1_firstFault_30 : decode cX1_firstFault 30 = .ok (.iload_n 1, 1) := dn_27 (ob_cX1_firstFault_0 30 rfl rfl)
theorem dX1_firstFault_31 : decode cX1_firstFault 31 = .ok (.ireturn, 1) := dn_172 (ob_cX1_firstFault_0 31 rfl rfl)
theorem dX1_firstFault_32 : decode cX1_firstFault 32 = .ok (.iinc 1 1, 3) := dn_132 (ob_cX1_firstFault_0 32 rfl rfl) rfl (by decide +kernel)
theorem dX1_firstFault_35 : decode cX1_firstFault 35 = .ok (.goto (-33), 3) := dn_167 (ob_cX1_firstFault_0 35 rfl rfl) (by decide +kernel)
theorem dX1_firstFault_38 : decode cX1_firstFault 38 = .ok (.aload_n 0, 1) := dn_42 (ob_cX1_firstFault_0 38 rfl rfl)
theorem dX1_firstFault_39 : decode cX1_firstFault 39 = .ok (.getfield 19, 3) := dn_180 (ob_cX1_firstFault_0 39 rfl rfl) rfl
theorem dX1_firstFault_42 : decode cX1_firstFault 42 = .ok (.ifCond .ne 7, 3) := dn_154 (ob_cX1_firstFault_1 0 rfl rfl) (by decide +kernel)
theorem dX1_firstFault_45 : decode cX1_firstFault 45 = .ok (.iconst 0, 1) := dn_3 (ob_cX1_firstFault_1 3 rfl rfl)
theorem dX1_firstFault_46 : decode cX1_firstFault 46 = .ok (.goto 4, 3) := dn_167 (ob_cX1_firstFault_1 4 rfl rfl) (by decide +kernel)
theorem dX1_firstFault_49 : decode cX1_firstFault 49 = .ok (.iconst (-1), 1) := dn_2 (ob_cX1_firstFault_1 7 rfl rfl)
theorem dX1_firstFault_50 : decode cX1_firstFault 50 = .ok (.ireturn, 1) := dn_172 (ob_cX1_firstFault_1 8 rfl rfl)
def kb_cX1_longestAt_0 : List UInt8 := [42, 27, 182, 0, 23, 184, 0, 46, 184, 0, 56, 61, 27, 4, 96, 62, 29, 42, 180, 0, 19, 162, 0, 21, 42, 29, 182, 0, 23, 28, 184, 0, 32, 153, 0, 9, 132, 3, 1, 167, 255, 233]
def kb_cX1_longestAt_1 : List UInt8 := [29, 27, 100, 172]
def tb_cX1_longestAt_2 : List UInt8 := []
def tb_cX1_longestAt_1 : List UInt8 := kb_cX1_longestAt_1 ++ tb_cX1_longestAt_2
def tb_cX1_longestAt_0 : List UInt8 := kb_cX1_longestAt_0 ++ tb_cX1_longestAt_1
set_option maxRecDepth 100000 in
theorem tb_cX1_longestAt : (cX1_longestAt).data.toList = tb_cX1_longestAt_0 := eqL_eq (by decide +kernel)
theorem ow_cX1_longestAt_0 (r : Nat) : (cX1_longestAt).data.toList.drop (0 + r) = tb_cX1_longestAt_0.drop r := by rw [tb_cX1_longestAt, Nat.zero_add]
theorem ow_cX1_longestAt_1 (r : Nat) : (cX1_longestAt).data.toList.drop (42 + r) = tb_cX1_longestAt_1.drop r := by
  have e := ow_cX1_longestAt_0 (42 + r)
  rw [show 0 + (42 + r) = 42 + r by omega] at e
  exact e.trans (dr_len (a := kb_cX1_longestAt_0) (t := tb_cX1_longestAt_1) (by decide +kernel))
theorem ob_cX1_longestAt_0 (r : Nat) {pc : Nat} {l : List UInt8} (hp : 0 + r = pc) (h : tb_cX1_longestAt_0.drop r = l) : (cX1_longestAt).data.toList.drop pc = l := by
  subst hp
  exact (ow_cX1_longestAt_0 r).trans h
theorem ob_cX1_longestAt_1 (r : Nat) {pc : Nat} {l : List UInt8} (hp : 42 + r = pc) (h : tb_cX1_longestAt_1.drop r = l) : (cX1_longestAt).data.toList.drop pc = l := by
  subst hp
  exact (ow_cX1_longestAt_1 r).trans h
theorem dX1_longestAt_0 : decode cX1_longestAt 0 = .ok (.aload_n 0, 1) := dn_42 (ob_cX1_longestAt_0 0 rfl rfl)
theorem dX1_longestAt_1 : decode cX1_longestAt 1 = .ok (.iload_n 1, 1) := dn_27 (ob_cX1_longestAt_0 1 rfl rfl)
theorem dX1_longestAt_2 : decode cX1_longestAt 2 = .ok (.invokevirtual 23, 3) := dn_182 (ob_cX1_longestAt_0 2 rfl rfl) rfl
theorem dX1_longestAt_5 : decode cX1_longestAt 5 = .ok (.invokestatic 46, 3) := dn_184 (ob_cX1_longestAt_0 5 rfl rfl) rfl
theorem dX1_longestAt_8 : decode cX1_longestAt 8 = .ok (.invokestatic 56, 3) := dn_184 (ob_cX1_longestAt_0 8 rfl rfl) rfl
theorem dX1_longestAt_11 : decode cX1_longestAt 11 = .ok (.istore_n 2, 1) := dn_61 (ob_cX1_longestAt_0 11 rfl rfl)
theorem dX1_longestAt_12 : decode cX1_longestAt 12 = .ok (.iload_n 1, 1) := dn_27 (ob_cX1_longestAt_0 12 rfl rfl)
theorem dX1_longestAt_13 : decode cX1_longestAt 13 = .ok (.iconst 1, 1) := dn_4 (ob_cX1_longestAt_0 13 rfl rfl)
theorem dX1_longestAt_14 : decode cX1_longestAt 14 = .ok (.iadd, 1) := dn_96 (ob_cX1_longestAt_0 14 rfl rfl)
theorem dX1_longestAt_15 : decode cX1_longestAt 15 = .ok (.istore_n 3, 1) := dn_62 (ob_cX1_longestAt_0 15 rfl rfl)
theorem dX1_longestAt_16 : decode cX1_longestAt 16 = .ok (.iload_n 3, 1) := dn_29 (ob_cX1_longestAt_0 16 rfl rfl)
theorem dX1_longestAt_17 : decode cX1_longestAt 17 = .ok (.aload_n 0, 1) := dn_42 (ob_cX1_longestAt_0 17 rfl rfl)
theorem dX1_longestAt_18 : decode cX1_longestAt 18 = .ok (.getfield 19, 3) := dn_180 (ob_cX1_longestAt_0 18 rfl rfl) rfl
theorem dX1_longestAt_21 : decode cX1_longestAt 21 = .ok (.if_icmp .ge 21, 3) := dn_162 (ob_cX1_longestAt_0 21 rfl rfl) (by decide +kernel)
theorem dX1_longestAt_24 : decode cX1_longestAt 24 = .ok (.aload_n 0, 1) := dn_42 (ob_cX1_longestAt_0 24 rfl rfl)
theorem dX1_longestAt_25 : decode cX1_longestAt 25 = .ok (.iload_n 3, 1) := dn_29 (ob_cX1_longestAt_0 25 rfl rfl)
theorem dX1_longestAt_26 : decode cX1_longestAt 26 = .ok (.invokevirtual 23, 3) := dn_182 (ob_cX1_longestAt_0 26 rfl rfl) rfl
theorem dX1_longestAt_29 : decode cX1_longestAt 29 = .ok (.iload_n 2, 1) := dn_28 (ob_cX1_longestAt_0 29 rfl rfl)
theorem dX1_longestAt_30 : decode cX1_longestAt 30 = .ok (.invokestatic 32, 3) := dn_184 (ob_cX1_longestAt_0 30 rfl rfl) rfl
theorem dX1_longestAt_33 : decode cX1_longestAt 33 = .ok (.ifCond .eq 9, 3) := dn_153 (ob_cX1_longestAt_0 33 rfl rfl) (by decide +kernel)
theorem dX1_longestAt_36 : decode cX1_longestAt 36 = .ok (.iinc 3 1, 3) := dn_132 (ob_cX1_longestAt_0 36 rfl rfl) rfl (by decide +kernel)
theorem dX1_longestAt_39 : decode cX1_longestAt 39 = .ok (.goto (-23), 3) := dn_167 (ob_cX1_longestAt_0 39 rfl rfl) (by decide +kernel)
theorem dX1_longestAt_42 : decode cX1_longestAt 42 = .ok (.iload_n 3, 1) := dn_29 (ob_cX1_longestAt_1 0 rfl rfl)
theorem dX1_longestAt_43 : decode cX1_longestAt 43 = .ok (.iload_n 1, 1) := dn_27 (ob_cX1_longestAt_1 1 rfl rfl)
theorem dX1_longestAt_44 : decode cX1_longestAt 44 = .ok (.isub, 1) := dn_100 (ob_cX1_longestAt_1 2 rfl rfl)
theorem dX1_longestAt_45 : decode cX1_longestAt 45 = .ok (.ireturn, 1) := dn_172 (ob_cX1_longestAt_1 3 rfl rfl)
def kb_cX1_sortOf : List UInt8 := [28, 27, 100, 42, 27, 182, 0, 49, 163, 0, 14, 42, 27, 182, 0, 23, 184, 0, 46, 167, 0, 4, 2, 172]
set_option maxRecDepth 10000 in
theorem ob_cX1_sortOf (r : Nat) {l : List UInt8} (h : kb_cX1_sortOf.drop r = l) : (cX1_sortOf).data.toList.drop r = l := by
  rw [show (cX1_sortOf).data.toList = kb_cX1_sortOf from eqL_eq (by decide +kernel)]
  exact h
theorem dX1_sortOf_0 : decode cX1_sortOf 0 = .ok (.iload_n 2, 1) := dn_28 (ob_cX1_sortOf 0 rfl)
theorem dX1_sortOf_1 : decode cX1_sortOf 1 = .ok (.iload_n 1, 1) := dn_27 (ob_cX1_sortOf 1 rfl)
theorem dX1_sortOf_2 : decode cX1_sortOf 2 = .ok (.isub, 1) := dn_100 (ob_cX1_sortOf 2 rfl)
theorem dX1_sortOf_3 : decode cX1_sortOf 3 = .ok (.aload_n 0, 1) := dn_42 (ob_cX1_sortOf 3 rfl)
theorem dX1_sortOf_4 : decode cX1_sortOf 4 = .ok (.iload_n 1, 1) := dn_27 (ob_cX1_sortOf 4 rfl)
theorem dX1_sortOf_5 : decode cX1_sortOf 5 = .ok (.invokevirtual 49, 3) := dn_182 (ob_cX1_sortOf 5 rfl) rfl
theorem dX1_sortOf_8 : decode cX1_sortOf 8 = .ok (.if_icmp .gt 14, 3) := dn_163 (ob_cX1_sortOf 8 rfl) (by decide +kernel)
theorem dX1_sortOf_11 : decode cX1_sortOf 11 = .ok (.aload_n 0, 1) := dn_42 (ob_cX1_sortOf 11 rfl)
theorem dX1_sortOf_12 : decode cX1_sortOf 12 = .ok (.iload_n 1, 1) := dn_27 (ob_cX1_sortOf 12 rfl)
theorem dX1_sortOf_13 : decode cX1_sortOf 13 = .ok (.invokevirtual 23, 3) := dn_182 (ob_cX1_sortOf 13 rfl) rfl
theorem dX1_sortOf_16 : decode cX1_sortOf 16 = .ok (.invokestatic 46, 3) := dn_184 (ob_cX1_sortOf 16 rfl) rfl
theorem dX1_sortOf_19 : decode cX1_sortOf 19 = .ok (.goto 4, 3) := dn_167 (ob_cX1_sortOf 19 rfl) (by decide +kernel)
theorem dX1_sortOf_22 : decode cX1_sortOf 22 = .ok (.iconst (-1), 1) := dn_2 (ob_cX1_sortOf 22 rfl)
theorem dX1_sortOf_23 : decode cX1_sortOf 23 = .ok (.ireturn, 1) := dn_172 (ob_cX1_sortOf 23 rfl)
def kb_cX1_begins_0 : List UInt8 := [3, 60, 3, 61, 3, 62, 29, 42, 180, 0, 19, 162, 0, 28, 29, 28, 160, 0, 17, 27, 4, 29, 120, 128, 60, 28, 42, 29, 182, 0, 49, 96, 61, 132, 3, 1, 167, 255, 226, 27]
def kb_cX1_begins_1 : List UInt8 := [172]
def tb_cX1_begins_2 : List UInt8 := []
def tb_cX1_begins_1 : List UInt8 := kb_cX1_begins_1 ++ tb_cX1_begins_2
def tb_cX1_begins_0 : List UInt8 := kb_cX1_begins_0 ++ tb_cX1_begins_1
set_option maxRecDepth 100000 in
theorem tb_cX1_begins : (cX1_begins).data.toList = tb_cX1_begins_0 := eqL_eq (by decide +kernel)
theorem ow_cX1_begins_0 (r : Nat) : (cX1_begins).data.toList.drop (0 + r) = tb_cX1_begins_0.drop r := by rw [tb_cX1_begins, Nat.zero_add]
theorem ow_cX1_begins_1 (r : Nat) : (cX1_begins).data.toList.drop (40 + r) = tb_cX1_begins_1.drop r := by
  have e := ow_cX1_begins_0 (40 + r)
  rw [show 0 + (40 + r) = 40 + r by omega] at e
  exact e.trans (dr_len (a := kb_cX1_begins_0) (t := tb_cX1_begins_1) (by decide +kernel))
theorem ob_cX1_begins_0 (r : Nat) {pc : Nat} {l : List UInt8} (hp : 0 + r = pc) (h : tb_cX1_begins_0.drop r = l) : (cX1_begins).data.toList.drop pc = l := by
  subst hp
  exact (ow_cX1_begins_0 r).trans h
theorem ob_cX1_begins_1 (r : Nat) {pc : Nat} {l : List UInt8} (hp : 40 + r = pc) (h : tb_cX1_begins_1.drop r = l) : (cX1_begins).data.toList.drop pc = l := by
  subst hp
  exact (ow_cX1_begins_1 r).trans h
theorem dX1_begins_0 : decode cX1_begins 0 = .ok (.iconst 0, 1) := dn_3 (ob_cX1_begins_0 0 rfl rfl)
theorem dX1_begins_1 : decode cX1_begins 1 = .ok (.istore_n 1, 1) := dn_60 (ob_cX1_begins_0 1 rfl rfl)
theorem dX1_begins_2 : decode cX1_begins 2 = .ok (.iconst 0, 1) := dn_3 (ob_cX1_begins_0 2 rfl rfl)
theorem dX1_begins_3 : decode cX1_begins 3 = .ok (.istore_n 2, 1) := dn_61 (ob_cX1_begins_0 3 rfl rfl)
theorem dX1_begins_4 : decode cX1_begins 4 = .ok (.iconst 0, 1) := dn_3 (ob_cX1_begins_0 4 rfl rfl)
theorem dX1_begins_5 : decode cX1_begins 5 = .ok (.istore_n 3, 1) := dn_62 (ob_cX1_begins_0 5 rfl rfl)
theorem dX1_begins_6 : decode cX1_begins 6 = .ok (.iload_n 3, 1) := dn_29 (ob_cX1_begins_0 6 rfl rfl)
theorem dX1_begins_7 : decode cX1_begins 7 = .ok (.aload_n 0, 1) := dn_42 (ob_cX1_begins_0 7 rfl rfl)
theorem dX1_begins_8 : decode cX1_begins 8 = .ok (.getfield 19, 3) := dn_180 (ob_cX1_begins_0 8 rfl rfl) rfl
theorem dX1_begins_11 : decode cX1_begins 11 = .ok (.if_icmp .ge 28, 3) := dn_162 (ob_cX1_begins_0 11 rfl rfl) (by decide +kernel)
theorem dX1_begins_14 : decode cX1_begins 14 = .ok (.iload_n 3, 1) := dn_29 (ob_cX1_begins_0 14 rfl rfl)
theorem dX1_begins_15 : decode cX1_begins 15 = .ok (.iload_n 2, 1) := dn_28 (ob_cX1_begins_0 15 rfl rfl)
theorem dX1_begins_16 : decode cX1_begins 16 = .ok (.if_icmp .ne 17, 3) := dn_160 (ob_cX1_begins_0 16 rfl rfl) (by decide +kernel)
theorem dX1_begins_19 : decode cX1_begins 19 = .ok (.iload_n 1, 1) := dn_27 (ob_cX1_begins_0 19 rfl rfl)
theorem dX1_begins_20 : decode cX1_begins 20 = .ok (.iconst 1, 1) := dn_4 (ob_cX1_begins_0 20 rfl rfl)
theorem dX1_begins_21 : decode cX1_begins 21 = .ok (.iload_n 3, 1) := dn_29 (ob_cX1_begins_0 21 rfl rfl)
theorem dX1_begins_22 : decode cX1_begins 22 = .ok (.ishl, 1) := dn_120 (ob_cX1_begins_0 22 rfl rfl)
theorem dX1_begins_23 : decode cX1_begins 23 = .ok (.ior, 1) := dn_128 (ob_cX1_begins_0 23 rfl rfl)
theorem dX1_begins_24 : decode cX1_begins 24 = .ok (.istore_n 1, 1) := dn_60 (ob_cX1_begins_0 24 rfl rfl)
theorem dX1_begins_25 : decode cX1_begins 25 = .ok (.iload_n 2, 1) := dn_28 (ob_cX1_begins_0 25 rfl rfl)
theorem dX1_begins_26 : decode cX1_begins 26 = .ok (.aload_n 0, 1) := dn_42 (ob_cX1_begins_0 26 rfl rfl)
theorem dX1_begins_27 : decode cX1_begins 27 = .ok (.iload_n 3, 1) := dn_29 (ob_cX1_begins_0 27 rfl rfl)
theorem dX1_begins_28 : decode cX1_begins 28 = .ok (.invokevirtual 49, 3) := dn_182 (ob_cX1_begins_0 28 rfl rfl) rfl
theorem dX1_begins_31 : decode cX1_begins 31 = .ok (.iadd, 1) := dn_96 (ob_cX1_begins_0 31 rfl rfl)
theorem dX1_begins_32 : decode cX1_begins 32 = .ok (.istore_n 2, 1) := dn_61 (ob_cX1_begins_0 32 rfl rfl)
theorem dX1_begins_33 : decode cX1_begins 33 = .ok (.iinc 3 1, 3) := dn_132 (ob_cX1_begins_0 33 rfl rfl) rfl (by decide +kernel)
theorem dX1_begins_36 : decode cX1_begins 36 = .ok (.goto (-30), 3) := dn_167 (ob_cX1_begins_0 36 rfl rfl) (by decide +kernel)
theorem dX1_begins_39 : decode cX1_begins 39 = .ok (.iload_n 1, 1) := dn_27 (ob_cX1_begins_0 39 rfl rfl)
theorem dX1_begins_40 : decode cX1_begins 40 = .ok (.ireturn, 1) := dn_172 (ob_cX1_begins_1 0 rfl rfl)
def kb_cX1_beginOf_0 : List UInt8 := [42, 182, 0, 59, 61, 3, 62, 3, 54, 4, 21, 4, 42, 180, 0, 19, 162, 0, 29, 28, 21, 4, 184, 0, 43, 153, 0, 14, 29, 27, 160, 0, 6, 21, 4, 172, 132, 3, 1, 132, 4, 1]
def kb_cX1_beginOf_1 : List UInt8 := [167, 255, 224, 2, 172]
def tb_cX1_beginOf_2 : List UInt8 := []
def tb_cX1_beginOf_1 : List UInt8 := kb_cX1_beginOf_1 ++ tb_cX1_beginOf_2
def tb_cX1_beginOf_0 : List UInt8 := kb_cX1_beginOf_0 ++ tb_cX1_beginOf_1
set_option maxRecDepth 100000 in
theorem tb_cX1_beginOf : (cX1_beginOf).data.toList = tb_cX1_beginOf_0 := eqL_eq (by decide +kernel)
theorem ow_cX1_beginOf_0 (r : Nat) : (cX1_beginOf).data.toList.drop (0 + r) = tb_cX1_beginOf_0.drop r := by rw [tb_cX1_beginOf, Nat.zero_add]
theorem ow_cX1_beginOf_1 (r : Nat) : (cX1_beginOf).data.toList.drop (42 + r) = tb_cX1_beginOf_1.drop r := by
  have e := ow_cX1_beginOf_0 (42 + r)
  rw [show 0 + (42 + r) = 42 + r by omega] at e
  exact e.trans (dr_len (a := kb_cX1_beginOf_0) (t := tb_cX1_beginOf_1) (by decide +kernel))
theorem ob_cX1_beginOf_0 (r : Nat) {pc : Nat} {l : List UInt8} (hp : 0 + r = pc) (h : tb_cX1_beginOf_0.drop r = l) : (cX1_beginOf).data.toList.drop pc = l := by
  subst hp
  exact (ow_cX1_beginOf_0 r).trans h
theorem ob_cX1_beginOf_1 (r : Nat) {pc : Nat} {l : List UInt8} (hp : 42 + r = pc) (h : tb_cX1_beginOf_1.drop r = l) : (cX1_beginOf).data.toList.drop pc = l := by
  subst hp
  exact (ow_cX1_beginOf_1 r).trans h
theorem dX1_beginOf_0 : decode cX1_beginOf 0 = .ok (.aload_n 0, 1) := dn_42 (ob_cX1_beginOf_0 0 rfl rfl)
theorem dX1_beginOf_1 : decode cX1_beginOf 1 = .ok (.invokevirtual 59, 3) := dn_182 (ob_cX1_beginOf_0 1 rfl rfl) rfl
theorem dX1_beginOf_4 : decode cX1_beginOf 4 = .ok (.istore_n 2, 1) := dn_61 (ob_cX1_beginOf_0 4 rfl rfl)
theorem dX1_beginOf_5 : decode cX1_beginOf 5 = .ok (.iconst 0, 1) := dn_3 (ob_cX1_beginOf_0 5 rfl rfl)
theorem dX1_beginOf_6 : decode cX1_beginOf 6 = .ok (.istore_n 3, 1) := dn_62 (ob_cX1_beginOf_0 6 rfl rfl)
theorem dX1_beginOf_7 : decode cX1_beginOf 7 = .ok (.iconst 0, 1) := dn_3 (ob_cX1_beginOf_0 7 rfl rfl)
theorem dX1_beginOf_8 : decode cX1_beginOf 8 = .ok (.istore 4, 2) := dn_54 (ob_cX1_beginOf_0 8 rfl rfl) rfl
theorem dX1_beginOf_10 : decode cX1_beginOf 10 = .ok (.iload 4, 2) := dn_21 (ob_cX1_beginOf_0 10 rfl rfl) rfl
theorem dX1_beginOf_12 : decode cX1_beginOf 12 = .ok (.aload_n 0, 1) := dn_42 (ob_cX1_beginOf_0 12 rfl rfl)
theorem dX1_beginOf_13 : decode cX1_beginOf 13 = .ok (.getfield 19, 3) := dn_180 (ob_cX1_beginOf_0 13 rfl rfl) rfl
theorem dX1_beginOf_16 : decode cX1_beginOf 16 = .ok (.if_icmp .ge 29, 3) := dn_162 (ob_cX1_beginOf_0 16 rfl rfl) (by decide +kernel)
theorem dX1_beginOf_19 : decode cX1_beginOf 19 = .ok (.iload_n 2, 1) := dn_28 (ob_cX1_beginOf_0 19 rfl rfl)
theorem dX1_beginOf_20 : decode cX1_beginOf 20 = .ok (.iload 4, 2) := dn_21 (ob_cX1_beginOf_0 20 rfl rfl) rfl
theorem dX1_beginOf_22 : decode cX1_beginOf 22 = .ok (.invokestatic 43, 3) := dn_184 (ob_cX1_beginOf_0 22 rfl rfl) rfl
theorem dX1_beginOf_25 : decode cX1_beginOf 25 = .ok (.ifCond .eq 14, 3) := dn_153 (ob_cX1_beginOf_0 25 rfl rfl) (by decide +kernel)
theorem dX1_beginOf_28 : decode cX1_beginOf 28 = .ok (.iload_n 3, 1) := dn_29 (ob_cX1_beginOf_0 28 rfl rfl)
theorem dX1_beginOf_29 : decode cX1_beginOf 29 = .ok (.iload_n 1, 1) := dn_27 (ob_cX1_beginOf_0 29 rfl rfl)
theorem dX1_beginOf_30 : decode cX1_beginOf 30 = .ok (.if_icmp .ne 6, 3) := dn_160 (ob_cX1_beginOf_0 30 rfl rfl) (by decide +kernel)
theorem dX1_beginOf_33 : decode cX1_beginOf 33 = .ok (.iload 4, 2) := dn_21 (ob_cX1_beginOf_0 33 rfl rfl) rfl
theorem dX1_beginOf_35 : decode cX1_beginOf 35 = .ok (.ireturn, 1) := dn_172 (ob_cX1_beginOf_0 35 rfl rfl)
theorem dX1_beginOf_36 : decode cX1_beginOf 36 = .ok (.iinc 3 1, 3) := dn_132 (ob_cX1_beginOf_0 36 rfl rfl) rfl (by decide +kernel)
theorem dX1_beginOf_39 : decode cX1_beginOf 39 = .ok (.iinc 4 1, 3) := dn_132 (ob_cX1_beginOf_0 39 rfl rfl) rfl (by decide +kernel)
theorem dX1_beginOf_42 : decode cX1_beginOf 42 = .ok (.goto (-32), 3) := dn_167 (ob_cX1_beginOf_1 0 rfl rfl) (by decide +kernel)
theorem dX1_beginOf_45 : decode cX1_beginOf 45 = .ok (.iconst (-1), 1) := dn_2 (ob_cX1_beginOf_1 3 rfl rfl)
theorem dX1_beginOf_46 : decode cX1_beginOf 46 = .ok (.ireturn, 1) := dn_172 (ob_cX1_beginOf_1 4 rfl rfl)
def kb_cX1_backBegins_0 : List UInt8 := [42, 180, 0, 19, 4, 100, 60, 27, 155, 0, 39, 27, 42, 27, 182, 0, 49, 96, 61, 27, 4, 96, 62, 29, 28, 163, 0, 16, 42, 180, 0, 15, 29, 27, 79, 132, 3, 1, 167, 255, 241]
def kb_cX1_backBegins_1 : List UInt8 := [132, 1, 255, 167, 255, 219, 3, 60, 42, 180, 0, 19, 61, 42, 180, 0, 19, 62, 29, 158, 0, 27, 29, 28, 160, 0, 16, 42, 180, 0, 15, 29, 46, 61, 27, 4, 28, 120, 128, 60]
def kb_cX1_backBegins_2 : List UInt8 := [132, 3, 255, 167, 255, 231, 27, 172]
def tb_cX1_backBegins_3 : List UInt8 := []
def tb_cX1_backBegins_2 : List UInt8 := kb_cX1_backBegins_2 ++ tb_cX1_backBegins_3
def tb_cX1_backBegins_1 : List UInt8 := kb_cX1_backBegins_1 ++ tb_cX1_backBegins_2
def tb_cX1_backBegins_0 : List UInt8 := kb_cX1_backBegins_0 ++ tb_cX1_backBegins_1
set_option maxRecDepth 100000 in
theorem tb_cX1_backBegins : (cX1_backBegins).data.toList = tb_cX1_backBegins_0 := eqL_eq (by decide +kernel)
theorem ow_cX1_backBegins_0 (r : Nat) : (cX1_backBegins).data.toList.drop (0 + r) = tb_cX1_backBegins_0.drop r := by rw [tb_cX1_backBegins, Nat.zero_add]
theorem ow_cX1_backBegins_1 (r : Nat) : (cX1_backBegins).data.toList.drop (41 + r) = tb_cX1_backBegins_1.drop r := by
  have e := ow_cX1_backBegins_0 (41 + r)
  rw [show 0 + (41 + r) = 41 + r by omega] at e
  exact e.trans (dr_len (a := kb_cX1_backBegins_0) (t := tb_cX1_backBegins_1) (by decide +kernel))
theorem ow_cX1_backBegins_2 (r : Nat) : (cX1_backBegins).data.toList.drop (81 + r) = tb_cX1_backBegins_2.drop r := by
  have e := ow_cX1_backBegins_1 (40 + r)
  rw [show 41 + (40 + r) = 81 + r by omega] at e
  exact e.trans (dr_len (a := kb_cX1_backBegins_1) (t := tb_cX1_backBegins_2) (by decide +kernel))
theorem ob_cX1_backBegins_0 (r : Nat) {pc : Nat} {l : List UInt8} (hp : 0 + r = pc) (h : tb_cX1_backBegins_0.drop r = l) : (cX1_backBegins).data.toList.drop pc = l := by
  subst hp
  exact (ow_cX1_backBegins_0 r).trans h
theorem ob_cX1_backBegins_1 (r : Nat) {pc : Nat} {l : List UInt8} (hp : 41 + r = pc) (h : tb_cX1_backBegins_1.drop r = l) : (cX1_backBegins).data.toList.drop pc = l := by
  subst hp
  exact (ow_cX1_backBegins_1 r).trans h
theorem ob_cX1_backBegins_2 (r : Nat) {pc : Nat} {l : List UInt8} (hp : 81 + r = pc) (h : tb_cX1_backBegins_2.drop r = l) : (cX1_backBegins).data.toList.drop pc = l := by
  subst hp
  exact (ow_cX1_backBegins_2 r).trans h
theorem dX1_backBegins_0 : decode cX1_backBegins 0 = .ok (.aload_n 0, 1) := dn_42 (ob_cX1_backBegins_0 0 rfl rfl)
theorem dX1_backBegins_1 : decode cX1_backBegins 1 = .ok (.getfield 19, 3) := dn_180 (ob_cX1_backBegins_0 1 rfl rfl) rfl
theorem dX1_backBegins_4 : decode cX1_backBegins 4 = .ok (.iconst 1, 1) := dn_4 (ob_cX1_backBegins_0 4 rfl rfl)
theorem dX1_backBegins_5 : decode cX1_backBegins 5 = .ok (.isub, 1) := dn_100 (ob_cX1_backBegins_0 5 rfl rfl)
theorem dX1_backBegins_6 : decode cX1_backBegins 6 = .ok (.istore_n 1, 1) := dn_60 (ob_cX1_backBegins_0 6 rfl rfl)
theorem dX1_backBegins_7 : decode cX1_backBegins 7 = .ok (.iload_n 1, 1) := dn_27 (ob_cX1_backBegins_0 7 rfl rfl)
theorem dX1_backBegins_8 : decode cX1_backBegins 8 = .ok (.ifCond .lt 39, 3) := dn_155 (ob_cX1_backBegins_0 8 rfl rfl) (by decide +kernel)
theorem dX1_backBegins_11 : decode cX1_backBegins 11 = .ok (.iload_n 1, 1) := dn_27 (ob_cX1_backBegins_0 11 rfl rfl)
theorem dX1_backBegins_12 : decode cX1_backBegins 12 = .ok (.aload_n 0, 1) := dn_42 (ob_cX1_backBegins_0 12 rfl rfl)
theorem dX1_backBegins_13 : decode cX1_backBegins 13 = .ok (.iload_n 1, 1) := dn_27 (ob_cX1_backBegins_0 13 rfl rfl)
theorem dX1_backBegins_14 : decode cX1_backBegins 14 = .ok (.invokevirtual 49, 3) := dn_182 (ob_cX1_backBegins_0 14 rfl rfl) rfl
theorem dX1_backBegins_17 : decode cX1_backBegins 17 = .ok (.iadd, 1) := dn_96 (ob_cX1_backBegins_0 17 rfl rfl)
theorem dX1_backBegins_18 : decode cX1_backBegins 18 = .ok (.istore_n 2, 1) := dn_61 (ob_cX1_backBegins_0 18 rfl rfl)
theorem dX1_backBegins_19 : decode cX1_backBegins 19 = .ok (.iload_n 1, 1) := dn_27 (ob_cX1_backBegins_0 19 rfl rfl)
theorem dX1_backBegins_20 : decode cX1_backBegins 20 = .ok (.iconst 1, 1) := dn_4 (ob_cX1_backBegins_0 20 rfl rfl)
theorem dX1_backBegins_21 : decode cX1_backBegins 21 = .ok (.iadd, 1) := dn_96 (ob_cX1_backBegins_0 21 rfl rfl)
theorem dX1_backBegins_22 : decode cX1_backBegins 22 = .ok (.istore_n 3, 1) := dn_62 (ob_cX1_backBegins_0 22 rfl rfl)
theorem dX1_backBegins_23 : decode cX1_backBegins 23 = .ok (.iload_n 3, 1) := dn_29 (ob_cX1_backBegins_0 23 rfl rfl)
theorem dX1_backBegins_24 : decode cX1_backBegins 24 = .ok (.iload_n 2, 1) := dn_28 (ob_cX1_backBegins_0 24 rfl rfl)
theorem dX1_backBegins_25 : decode cX1_backBegins 25 = .ok (.if_icmp .gt 16, 3) := dn_163 (ob_cX1_backBegins_0 25 rfl rfl) (by decide +kernel)
theorem dX1_backBegins_28 : decode cX1_backBegins 28 = .ok (.aload_n 0, 1) := dn_42 (ob_cX1_backBegins_0 28 rfl rfl)
theorem dX1_backBegins_29 : decode cX1_backBegins 29 = .ok (.getfield 15, 3) := dn_180 (ob_cX1_backBegins_0 29 rfl rfl) rfl
theorem dX1_backBegins_32 : decode cX1_backBegins 32 = .ok (.iload_n 3, 1) := dn_29 (ob_cX1_backBegins_0 32 rfl rfl)
theorem dX1_backBegins_33 : decode cX1_backBegins 33 = .ok (.iload_n 1, 1) := dn_27 (ob_cX1_backBegins_0 33 rfl rfl)
theorem dX1_backBegins_34 : decode cX1_backBegins 34 = .ok (.iastore, 1) := dn_79 (ob_cX1_backBegins_0 34 rfl rfl)
theorem dX1_backBegins_35 : decode cX1_backBegins 35 = .ok (.iinc 3 1, 3) := dn_132 (ob_cX1_backBegins_0 35 rfl rfl) rfl (by decide +kernel)
theorem dX1_backBegins_38 : decode cX1_backBegins 38 = .ok (.goto (-15), 3) := dn_167 (ob_cX1_backBegins_0 38 rfl rfl) (by decide +kernel)
theorem dX1_backBegins_41 : decode cX1_backBegins 41 = .ok (.iinc 1 (-1), 3) := dn_132 (ob_cX1_backBegins_1 0 rfl rfl) rfl (by decide +kernel)
theorem dX1_backBegins_44 : decode cX1_backBegins 44 = .ok (.goto (-37), 3) := dn_167 (ob_cX1_backBegins_1 3 rfl rfl) (by decide +kernel)
theorem dX1_backBegins_47 : decode cX1_backBegins 47 = .ok (.iconst 0, 1) := dn_3 (ob_cX1_backBegins_1 6 rfl rfl)
theorem dX1_backBegins_48 : decode cX1_backBegins 48 = .ok (.istore_n 1, 1) := dn_60 (ob_cX1_backBegins_1 7 rfl rfl)
theorem dX1_backBegins_49 : decode cX1_backBegins 49 = .ok (.aload_n 0, 1) := dn_42 (ob_cX1_backBegins_1 8 rfl rfl)
theorem dX1_backBegins_50 : decode cX1_backBegins 50 = .ok (.getfield 19, 3) := dn_180 (ob_cX1_backBegins_1 9 rfl rfl) rfl
theorem dX1_backBegins_53 : decode cX1_backBegins 53 = .ok (.istore_n 2, 1) := dn_61 (ob_cX1_backBegins_1 12 rfl rfl)
theorem dX1_backBegins_54 : decode cX1_backBegins 54 = .ok (.aload_n 0, 1) := dn_42 (ob_cX1_backBegins_1 13 rfl rfl)
theorem dX1_backBegins_55 : decode cX1_backBegins 55 = .ok (.getfield 19, 3) := dn_180 (ob_cX1_backBegins_1 14 rfl rfl) rfl
theorem dX1_backBegins_58 : decode cX1_backBegins 58 = .ok (.istore_n 3, 1) := dn_62 (ob_cX1_backBegins_1 17 rfl rfl)
theorem dX1_backBegins_59 : decode cX1_backBegins 59 = .ok (.iload_n 3, 1) := dn_29 (ob_cX1_backBegins_1 18 rfl rfl)
theorem dX1_backBegins_60 : decode cX1_backBegins 60 = .ok (.ifCond .le 27, 3) := dn_158 (ob_cX1_backBegins_1 19 rfl rfl) (by decide +kernel)
theorem dX1_backBegins_63 : decode cX1_backBegins 63 = .ok (.iload_n 3, 1) := dn_29 (ob_cX1_backBegins_1 22 rfl rfl)
theorem dX1_backBegins_64 : decode cX1_backBegins 64 = .ok (.iload_n 2, 1) := dn_28 (ob_cX1_backBegins_1 23 rfl rfl)
theorem dX1_backBegins_65 : decode cX1_backBegins 65 = .ok (.if_icmp .ne 16, 3) := dn_160 (ob_cX1_backBegins_1 24 rfl rfl) (by decide +kernel)
theorem dX1_backBegins_68 : decode cX1_backBegins 68 = .ok (.aload_n 0, 1) := dn_42 (ob_cX1_backBegins_1 27 rfl rfl)
theorem dX1_backBegins_69 : decode cX1_backBegins 69 = .ok (.getfield 15, 3) := dn_180 (ob_cX1_backBegins_1 28 rfl rfl) rfl
theorem dX1_backBegins_72 : decode cX1_backBegins 72 = .ok (.iload_n 3, 1) := dn_29 (ob_cX1_backBegins_1 31 rfl rfl)
theorem dX1_backBegins_73 : decode cX1_backBegins 73 = .ok (.iaload, 1) := dn_46 (ob_cX1_backBegins_1 32 rfl rfl)
theorem dX1_backBegins_74 : decode cX1_backBegins 74 = .ok (.istore_n 2, 1) := dn_61 (ob_cX1_backBegins_1 33 rfl rfl)
theorem dX1_backBegins_75 : decode cX1_backBegins 75 = .ok (.iload_n 1, 1) := dn_27 (ob_cX1_backBegins_1 34 rfl rfl)
theorem dX1_backBegins_76 : decode cX1_backBegins 76 = .ok (.iconst 1, 1) := dn_4 (ob_cX1_backBegins_1 35 rfl rfl)
theorem dX1_backBegins_77 : decode cX1_backBegins 77 = .ok (.iload_n 2, 1) := dn_28 (ob_cX1_backBegins_1 36 rfl rfl)
theorem dX1_backBegins_78 : decode cX1_backBegins 78 = .ok (.ishl, 1) := dn_120 (ob_cX1_backBegins_1 37 rfl rfl)
theorem dX1_backBegins_79 : decode cX1_backBegins 79 = .ok (.ior, 1) := dn_128 (ob_cX1_backBegins_1 38 rfl rfl)
theorem dX1_backBegins_80 : decode cX1_backBegins 80 = .ok (.istore_n 1, 1) := dn_60 (ob_cX1_backBegins_1 39 rfl rfl)
theorem dX1_backBegins_81 : decode cX1_backBegins 81 = .ok (.iinc 3 (-1), 3) := dn_132 (ob_cX1_backBegins_2 0 rfl rfl) rfl (by decide +kernel)
theorem dX1_backBegins_84 : decode cX1_backBegins 84 = .ok (.goto (-25), 3) := dn_167 (ob_cX1_backBegins_2 3 rfl rfl) (by decide +kernel)
theorem dX1_backBegins_87 : decode cX1_backBegins 87 = .ok (.iload_n 1, 1) := dn_27 (ob_cX1_backBegins_2 6 rfl rfl)
theorem dX1_backBegins_88 : decode cX1_backBegins 88 = .ok (.ireturn, 1) := dn_172 (ob_cX1_backBegins_2 7 rfl rfl)
def kb_cX1_fewestPieces_0 : List UInt8 := [3, 60, 27, 42, 180, 0, 19, 163, 0, 16, 42, 180, 0, 15, 27, 27, 79, 132, 1, 1, 167, 255, 238, 3, 60, 27, 42, 180, 0, 19, 162, 0, 55, 27, 42, 27, 182, 0, 49, 96]
def kb_cX1_fewestPieces_1 : List UInt8 := [61, 27, 4, 96, 62, 29, 28, 163, 0, 32, 42, 180, 0, 15, 29, 42, 180, 0, 15, 29, 46, 42, 180, 0, 15, 27, 46, 4, 96, 184, 0, 63, 79, 132, 3, 1, 167, 255, 225, 132, 1, 1]
def kb_cX1_fewestPieces_2 : List UInt8 := [167, 255, 199, 42, 180, 0, 15, 42, 180, 0, 19, 46, 172]
def tb_cX1_fewestPieces_3 : List UInt8 := []
def tb_cX1_fewestPieces_2 : List UInt8 := kb_cX1_fewestPieces_2 ++ tb_cX1_fewestPieces_3
def tb_cX1_fewestPieces_1 : List UInt8 := kb_cX1_fewestPieces_1 ++ tb_cX1_fewestPieces_2
def tb_cX1_fewestPieces_0 : List UInt8 := kb_cX1_fewestPieces_0 ++ tb_cX1_fewestPieces_1
set_option maxRecDepth 100000 in
theorem tb_cX1_fewestPieces : (cX1_fewestPieces).data.toList = tb_cX1_fewestPieces_0 := eqL_eq (by decide +kernel)
theorem ow_cX1_fewestPieces_0 (r : Nat) : (cX1_fewestPieces).data.toList.drop (0 + r) = tb_cX1_fewestPieces_0.drop r := by rw [tb_cX1_fewestPieces, Nat.zero_add]
theorem ow_cX1_fewestPieces_1 (r : Nat) : (cX1_fewestPieces).data.toList.drop (40 + r) = tb_cX1_fewestPieces_1.drop r := by
  have e := ow_cX1_fewestPieces_0 (40 + r)
  rw [show 0 + (40 + r) = 40 + r by omega] at e
  exact e.trans (dr_len (a := kb_cX1_fewestPieces_0) (t := tb_cX1_fewestPieces_1) (by decide +kernel))
theorem ow_cX1_fewestPieces_2 (r : Nat) : (cX1_fewestPieces).data.toList.drop (82 + r) = tb_cX1_fewestPieces_2.drop r := by
  have e := ow_cX1_fewestPieces_1 (42 + r)
  rw [show 40 + (42 + r) = 82 + r by omega] at e
  exact e.trans (dr_len (a := kb_cX1_fewestPieces_1) (t := tb_cX1_fewestPieces_2) (by decide +kernel))
theorem ob_cX1_fewestPieces_0 (r : Nat) {pc : Nat} {l : List UInt8} (hp : 0 + r = pc) (h : tb_cX1_fewestPieces_0.drop r = l) : (cX1_fewestPieces).data.toList.drop pc = l := by
  subst hp
  exact (ow_cX1_fewestPieces_0 r).trans h
theorem ob_cX1_fewestPieces_1 (r : Nat) {pc : Nat} {l : List UInt8} (hp : 40 + r = pc) (h : tb_cX1_fewestPieces_1.drop r = l) : (cX1_fewestPieces).data.toList.drop pc = l := by
  subst hp
  exact (ow_cX1_fewestPieces_1 r).trans h
theorem ob_cX1_fewestPieces_2 (r : Nat) {pc : Nat} {l : List UInt8} (hp : 82 + r = pc) (h : tb_cX1_fewestPieces_2.drop r = l) : (cX1_fewestPieces).data.toList.drop pc = l := by
  subst hp
  exact (ow_cX1_fewestPieces_2 r).trans h
theorem dX1_fewestPieces_0 : decode cX1_fewestPieces 0 = .ok (.iconst 0, 1) := dn_3 (ob_cX1_fewestPieces_0 0 rfl rfl)
theorem dX1_fewestPieces_1 : decode cX1_fewestPieces 1 = .ok (.istore_n 1, 1) := dn_60 (ob_cX1_fewestPieces_0 1 rfl rfl)
theorem dX1_fewestPieces_2 : decode cX1_fewestPieces 2 = .ok (.iload_n 1, 1) := dn_27 (ob_cX1_fewestPieces_0 2 rfl rfl)
theorem dX1_fewestPieces_3 : decode cX1_fewestPieces 3 = .ok (.aload_n 0, 1) := dn_42 (ob_cX1_fewestPieces_0 3 rfl rfl)
theorem dX1_fewestPieces_4 : decode cX1_fewestPieces 4 = .ok (.getfield 19, 3) := dn_180 (ob_cX1_fewestPieces_0 4 rfl rfl) rfl
theorem dX1_fewestPieces_7 : decode cX1_fewestPieces 7 = .ok (.if_icmp .gt 16, 3) := dn_163 (ob_cX1_fewestPieces_0 7 rfl rfl) (by decide +kernel)
theorem dX1_fewestPieces_10 : decode cX1_fewestPieces 10 = .ok (.aload_n 0, 1) := dn_42 (ob_cX1_fewestPieces_0 10 rfl rfl)
theorem dX1_fewestPieces_11 : decode cX1_fewestPieces 11 = .ok (.getfield 15, 3) := dn_180 (ob_cX1_fewestPieces_0 11 rfl rfl) rfl
theorem dX1_fewestPieces_14 : decode cX1_fewestPieces 14 = .ok (.iload_n 1, 1) := dn_27 (ob_cX1_fewestPieces_0 14 rfl rfl)
theorem dX1_fewestPieces_15 : decode cX1_fewestPieces 15 = .ok (.iload_n 1, 1) := dn_27 (ob_cX1_fewestPieces_0 15 rfl rfl)
theorem dX1_fewestPieces_16 : decode cX1_fewestPieces 16 = .ok (.iastore, 1) := dn_79 (ob_cX1_fewestPieces_0 16 rfl rfl)
theorem dX1_fewestPieces_17 : decode cX1_fewestPieces 17 = .ok (.iinc 1 1, 3) := dn_132 (ob_cX1_fewestPieces_0 17 rfl rfl) rfl (by decide +kernel)
theorem dX1_fewestPieces_20 : decode cX1_fewestPieces 20 = .ok (.goto (-18), 3) := dn_167 (ob_cX1_fewestPieces_0 20 rfl rfl) (by decide +kernel)
theorem dX1_fewestPieces_23 : decode cX1_fewestPieces 23 = .ok (.iconst 0, 1) := dn_3 (ob_cX1_fewestPieces_0 23 rfl rfl)
theorem dX1_fewestPieces_24 : decode cX1_fewestPieces 24 = .ok (.istore_n 1, 1) := dn_60 (ob_cX1_fewestPieces_0 24 rfl rfl)
theorem dX1_fewestPieces_25 : decode cX1_fewestPieces 25 = .ok (.iload_n 1, 1) := dn_27 (ob_cX1_fewestPieces_0 25 rfl rfl)
theorem dX1_fewestPieces_26 : decode cX1_fewestPieces 26 = .ok (.aload_n 0, 1) := dn_42 (ob_cX1_fewestPieces_0 26 rfl rfl)
theorem dX1_fewestPieces_27 : decode cX1_fewestPieces 27 = .ok (.getfield 19, 3) := dn_180 (ob_cX1_fewestPieces_0 27 rfl rfl) rfl
theorem dX1_fewestPieces_30 : decode cX1_fewestPieces 30 = .ok (.if_icmp .ge 55, 3) := dn_162 (ob_cX1_fewestPieces_0 30 rfl rfl) (by decide +kernel)
theorem dX1_fewestPieces_33 : decode cX1_fewestPieces 33 = .ok (.iload_n 1, 1) := dn_27 (ob_cX1_fewestPieces_0 33 rfl rfl)
theorem dX1_fewestPieces_34 : decode cX1_fewestPieces 34 = .ok (.aload_n 0, 1) := dn_42 (ob_cX1_fewestPieces_0 34 rfl rfl)
theorem dX1_fewestPieces_35 : decode cX1_fewestPieces 35 = .ok (.iload_n 1, 1) := dn_27 (ob_cX1_fewestPieces_0 35 rfl rfl)
theorem dX1_fewestPieces_36 : decode cX1_fewestPieces 36 = .ok (.invokevirtual 49, 3) := dn_182 (ob_cX1_fewestPieces_0 36 rfl rfl) rfl
theorem dX1_fewestPieces_39 : decode cX1_fewestPieces 39 = .ok (.iadd, 1) := dn_96 (ob_cX1_fewestPieces_0 39 rfl rfl)
theorem dX1_fewestPieces_40 : decode cX1_fewestPieces 40 = .ok (.istore_n 2, 1) := dn_61 (ob_cX1_fewestPieces_1 0 rfl rfl)
theorem dX1_fewestPieces_41 : decode cX1_fewestPieces 41 = .ok (.iload_n 1, 1) := dn_27 (ob_cX1_fewestPieces_1 1 rfl rfl)
theorem dX1_fewestPieces_42 : decode cX1_fewestPieces 42 = .ok (.iconst 1, 1) := dn_4 (ob_cX1_fewestPieces_1 2 rfl rfl)
theorem dX1_fewestPieces_43 : decode cX1_fewestPieces 43 = .ok (.iadd, 1) := dn_96 (ob_cX1_fewestPieces_1 3 rfl rfl)
theorem dX1_fewestPieces_44 : decode cX1_fewestPieces 44 = .ok (.istore_n 3, 1) := dn_62 (ob_cX1_fewestPieces_1 4 rfl rfl)
theorem dX1_fewestPieces_45 : decode cX1_fewestPieces 45 = .ok (.iload_n 3, 1) := dn_29 (ob_cX1_fewestPieces_1 5 rfl rfl)
theorem dX1_fewestPieces_46 : decode cX1_fewestPieces 46 = .ok (.iload_n 2, 1) := dn_28 (ob_cX1_fewestPieces_1 6 rfl rfl)
theorem dX1_fewestPieces_47 : decode cX1_fewestPieces 47 = .ok (.if_icmp .gt 32, 3) := dn_163 (ob_cX1_fewestPieces_1 7 rfl rfl) (by decide +kernel)
theorem dX1_fewestPieces_50 : decode cX1_fewestPieces 50 = .ok (.aload_n 0, 1) := dn_42 (ob_cX1_fewestPieces_1 10 rfl rfl)
theorem dX1_fewestPieces_51 : decode cX1_fewestPieces 51 = .ok (.getfield 15, 3) := dn_180 (ob_cX1_fewestPieces_1 11 rfl rfl) rfl
theorem dX1_fewestPieces_54 : decode cX1_fewestPieces 54 = .ok (.iload_n 3, 1) := dn_29 (ob_cX1_fewestPieces_1 14 rfl rfl)
theorem dX1_fewestPieces_55 : decode cX1_fewestPieces 55 = .ok (.aload_n 0, 1) := dn_42 (ob_cX1_fewestPieces_1 15 rfl rfl)
theorem dX1_fewestPieces_56 : decode cX1_fewestPieces 56 = .ok (.getfield 15, 3) := dn_180 (ob_cX1_fewestPieces_1 16 rfl rfl) rfl
theorem dX1_fewestPieces_59 : decode cX1_fewestPieces 59 = .ok (.iload_n 3, 1) := dn_29 (ob_cX1_fewestPieces_1 19 rfl rfl)
theorem dX1_fewestPieces_60 : decode cX1_fewestPieces 60 = .ok (.iaload, 1) := dn_46 (ob_cX1_fewestPieces_1 20 rfl rfl)
theorem dX1_fewestPieces_61 : decode cX1_fewestPieces 61 = .ok (.aload_n 0, 1) := dn_42 (ob_cX1_fewestPieces_1 21 rfl rfl)
theorem dX1_fewestPieces_62 : decode cX1_fewestPieces 62 = .ok (.getfield 15, 3) := dn_180 (ob_cX1_fewestPieces_1 22 rfl rfl) rfl
theorem dX1_fewestPieces_65 : decode cX1_fewestPieces 65 = .ok (.iload_n 1, 1) := dn_27 (ob_cX1_fewestPieces_1 25 rfl rfl)
theorem dX1_fewestPieces_66 : decode cX1_fewestPieces 66 = .ok (.iaload, 1) := dn_46 (ob_cX1_fewestPieces_1 26 rfl rfl)
theorem dX1_fewestPieces_67 : decode cX1_fewestPieces 67 = .ok (.iconst 1, 1) := dn_4 (ob_cX1_fewestPieces_1 27 rfl rfl)
theorem dX1_fewestPieces_68 : decode cX1_fewestPieces 68 = .ok (.iadd, 1) := dn_96 (ob_cX1_fewestPieces_1 28 rfl rfl)
theorem dX1_fewestPieces_69 : decode cX1_fewestPieces 69 = .ok (.invokestatic 63, 3) := dn_184 (ob_cX1_fewestPieces_1 29 rfl rfl) rfl
theorem dX1_fewestPieces_72 : decode cX1_fewestPieces 72 = .ok (.iastore, 1) := dn_79 (ob_cX1_fewestPieces_1 32 rfl rfl)
theorem dX1_fewestPieces_73 : decode cX1_fewestPieces 73 = .ok (.iinc 3 1, 3) := dn_132 (ob_cX1_fewestPieces_1 33 rfl rfl) rfl (by decide +kernel)
theorem dX1_fewestPieces_76 : decode cX1_fewestPieces 76 = .ok (.goto (-31), 3) := dn_167 (ob_cX1_fewestPieces_1 36 rfl rfl) (by decide +kernel)
theorem dX1_fewestPieces_79 : decode cX1_fewestPieces 79 = .ok (.iinc 1 1, 3) := dn_132 (ob_cX1_fewestPieces_1 39 rfl rfl) rfl (by decide +kernel)
theorem dX1_fewestPieces_82 : decode cX1_fewestPieces 82 = .ok (.goto (-57), 3) := dn_167 (ob_cX1_fewestPieces_2 0 rfl rfl) (by decide +kernel)
theorem dX1_fewestPieces_85 : decode cX1_fewestPieces 85 = .ok (.aload_n 0, 1) := dn_42 (ob_cX1_fewestPieces_2 3 rfl rfl)
theorem dX1_fewestPieces_86 : decode cX1_fewestPieces 86 = .ok (.getfield 15, 3) := dn_180 (ob_cX1_fewestPieces_2 4 rfl rfl) rfl
theorem dX1_fewestPieces_89 : decode cX1_fewestPieces 89 = .ok (.aload_n 0, 1) := dn_42 (ob_cX1_fewestPieces_2 7 rfl rfl)
theorem dX1_fewestPieces_90 : decode cX1_fewestPieces 90 = .ok (.getfield 19, 3) := dn_180 (ob_cX1_fewestPieces_2 8 rfl rfl) rfl
theorem dX1_fewestPieces_93 : decode cX1_fewestPieces 93 = .ok (.iaload, 1) := dn_46 (ob_cX1_fewestPieces_2 11 rfl rfl)
theorem dX1_fewestPieces_94 : decode cX1_fewestPieces 94 = .ok (.ireturn, 1) := dn_172 (ob_cX1_fewestPieces_2 12 rfl rfl)
def kb_cX1_piecesCutAt_0 : List UInt8 := [3, 61, 3, 62, 4, 54, 4, 21, 4, 42, 180, 0, 19, 163, 0, 47, 21, 4, 42, 180, 0, 19, 159, 0, 12, 27, 21, 4, 184, 0, 43, 153, 0, 23, 42, 29, 182, 0, 49, 21, 4]
def kb_cX1_piecesCutAt_1 : List UInt8 := [29, 100, 162, 0, 5, 2, 172, 132, 2, 1, 21, 4, 62, 132, 4, 1, 167, 255, 206, 28, 172]
def tb_cX1_piecesCutAt_2 : List UInt8 := []
def tb_cX1_piecesCutAt_1 : List UInt8 := kb_cX1_piecesCutAt_1 ++ tb_cX1_piecesCutAt_2
def tb_cX1_piecesCutAt_0 : List UInt8 := kb_cX1_piecesCutAt_0 ++ tb_cX1_piecesCutAt_1
set_option maxRecDepth 100000 in
theorem tb_cX1_piecesCutAt : (cX1_piecesCutAt).data.toList = tb_cX1_piecesCutAt_0 := eqL_eq (by decide +kernel)
theorem ow_cX1_piecesCutAt_0 (r : Nat) : (cX1_piecesCutAt).data.toList.drop (0 + r) = tb_cX1_piecesCutAt_0.drop r := by rw [tb_cX1_piecesCutAt, Nat.zero_add]
theorem ow_cX1_piecesCutAt_1 (r : Nat) : (cX1_piecesCutAt).data.toList.drop (41 + r) = tb_cX1_piecesCutAt_1.drop r := by
  have e := ow_cX1_piecesCutAt_0 (41 + r)
  rw [show 0 + (41 + r) = 41 + r by omega] at e
  exact e.trans (dr_len (a := kb_cX1_piecesCutAt_0) (t := tb_cX1_piecesCutAt_1) (by decide +kernel))
theorem ob_cX1_piecesCutAt_0 (r : Nat) {pc : Nat} {l : List UInt8} (hp : 0 + r = pc) (h : tb_cX1_piecesCutAt_0.drop r = l) : (cX1_piecesCutAt).data.toList.drop pc = l := by
  subst hp
  exact (ow_cX1_piecesCutAt_0 r).trans h
theorem ob_cX1_piecesCutAt_1 (r : Nat) {pc : Nat} {l : List UInt8} (hp : 41 + r = pc) (h : tb_cX1_piecesCutAt_1.drop r = l) : (cX1_piecesCutAt).data.toList.drop pc = l := by
  subst hp
  exact (ow_cX1_piecesCutAt_1 r).trans h
theorem dX1_piecesCutAt_0 : decode cX1_piecesCutAt 0 = .ok (.iconst 0, 1) := dn_3 (ob_cX1_piecesCutAt_0 0 rfl rfl)
theorem dX1_piecesCutAt_1 : decode cX1_piecesCutAt 1 = .ok (.istore_n 2, 1) := dn_61 (ob_cX1_piecesCutAt_0 1 rfl rfl)
theorem dX1_piecesCutAt_2 : decode cX1_piecesCutAt 2 = .ok (.iconst 0, 1) := dn_3 (ob_cX1_piecesCutAt_0 2 rfl rfl)
theorem dX1_piecesCutAt_3 : decode cX1_piecesCutAt 3 = .ok (.istore_n 3, 1) := dn_62 (ob_cX1_piecesCutAt_0 3 rfl rfl)
theorem dX1_piecesCutAt_4 : decode cX1_piecesCutAt 4 = .ok (.iconst 1, 1) := dn_4 (ob_cX1_piecesCutAt_0 4 rfl rfl)
theorem dX1_piecesCutAt_5 : decode cX1_piecesCutAt 5 = .ok (.istore 4, 2) := dn_54 (ob_cX1_piecesCutAt_0 5 rfl rfl) rfl
theorem dX1_piecesCutAt_7 : decode cX1_piecesCutAt 7 = .ok (.iload 4, 2) := dn_21 (ob_cX1_piecesCutAt_0 7 rfl rfl) rfl
theorem dX1_piecesCutAt_9 : decode cX1_piecesCutAt 9 = .ok (.aload_n 0, 1) := dn_42 (ob_cX1_piecesCutAt_0 9 rfl rfl)
theorem dX1_piecesCutAt_10 : decode cX1_piecesCutAt 10 = .ok (.getfield 19, 3) := dn_180 (ob_cX1_piecesCutAt_0 10 rfl rfl) rfl
theorem dX1_piecesCutAt_13 : decode cX1_piecesCutAt 13 = .ok (.if_icmp .gt 47, 3) := dn_163 (ob_cX1_piecesCutAt_0 13 rfl rfl) (by decide +kernel)
theorem dX1_piecesCutAt_16 : decode cX1_piecesCutAt 16 = .ok (.iload 4, 2) := dn_21 (ob_cX1_piecesCutAt_0 16 rfl rfl) rfl
theorem dX1_piecesCutAt_18 : decode cX1_piecesCutAt 18 = .ok (.aload_n 0, 1) := dn_42 (ob_cX1_piecesCutAt_0 18 rfl rfl)
theorem dX1_piecesCutAt_19 : decode cX1_piecesCutAt 19 = .ok (.getfield 19, 3) := dn_180 (ob_cX1_piecesCutAt_0 19 rfl rfl) rfl
theorem dX1_piecesCutAt_22 : decode cX1_piecesCutAt 22 = .ok (.if_icmp .eq 12, 3) := dn_159 (ob_cX1_piecesCutAt_0 22 rfl rfl) (by decide +kernel)
theorem dX1_piecesCutAt_25 : decode cX1_piecesCutAt 25 = .ok (.iload_n 1, 1) := dn_27 (ob_cX1_piecesCutAt_0 25 rfl rfl)
theorem dX1_piecesCutAt_26 : decode cX1_piecesCutAt 26 = .ok (.iload 4, 2) := dn_21 (ob_cX1_piecesCutAt_0 26 rfl rfl) rfl
theorem dX1_piecesCutAt_28 : decode cX1_piecesCutAt 28 = .ok (.invokestatic 43, 3) := dn_184 (ob_cX1_piecesCutAt_0 28 rfl rfl) rfl
theorem dX1_piecesCutAt_31 : decode cX1_piecesCutAt 31 = .ok (.ifCond .eq 23, 3) := dn_153 (ob_cX1_piecesCutAt_0 31 rfl rfl) (by decide +kernel)
theorem dX1_piecesCutAt_34 : decode cX1_piecesCutAt 34 = .ok (.aload_n 0, 1) := dn_42 (ob_cX1_piecesCutAt_0 34 rfl rfl)
theorem dX1_piecesCutAt_35 : decode cX1_piecesCutAt 35 = .ok (.iload_n 3, 1) := dn_29 (ob_cX1_piecesCutAt_0 35 rfl rfl)
theorem dX1_piecesCutAt_36 : decode cX1_piecesCutAt 36 = .ok (.invokevirtual 49, 3) := dn_182 (ob_cX1_piecesCutAt_0 36 rfl rfl) rfl
theorem dX1_piecesCutAt_39 : decode cX1_piecesCutAt 39 = .ok (.iload 4, 2) := dn_21 (ob_cX1_piecesCutAt_0 39 rfl rfl) rfl
theorem dX1_piecesCutAt_41 : decode cX1_piecesCutAt 41 = .ok (.iload_n 3, 1) := dn_29 (ob_cX1_piecesCutAt_1 0 rfl rfl)
theorem dX1_piecesCutAt_42 : decode cX1_piecesCutAt 42 = .ok (.isub, 1) := dn_100 (ob_cX1_piecesCutAt_1 1 rfl rfl)
theorem dX1_piecesCutAt_43 : decode cX1_piecesCutAt 43 = .ok (.if_icmp .ge 5, 3) := dn_162 (ob_cX1_piecesCutAt_1 2 rfl rfl) (by decide +kernel)
theorem dX1_piecesCutAt_46 : decode cX1_piecesCutAt 46 = .ok (.iconst (-1), 1) := dn_2 (ob_cX1_piecesCutAt_1 5 rfl rfl)
theorem dX1_piecesCutAt_47 : decode cX1_piecesCutAt 47 = .ok (.ireturn, 1) := dn_172 (ob_cX1_piecesCutAt_1 6 rfl rfl)
theorem dX1_piecesCutAt_48 : decode cX1_piecesCutAt 48 = .ok (.iinc 2 1, 3) := dn_132 (ob_cX1_piecesCutAt_1 7 rfl rfl) rfl (by decide +kernel)
theorem dX1_piecesCutAt_51 : decode cX1_piecesCutAt 51 = .ok (.iload 4, 2) := dn_21 (ob_cX1_piecesCutAt_1 10 rfl rfl) rfl
theorem dX1_piecesCutAt_53 : decode cX1_piecesCutAt 53 = .ok (.istore_n 3, 1) := dn_62 (ob_cX1_piecesCutAt_1 12 rfl rfl)
theorem dX1_piecesCutAt_54 : decode cX1_piecesCutAt 54 = .ok (.iinc 4 1, 3) := dn_132 (ob_cX1_piecesCutAt_1 13 rfl rfl) rfl (by decide +kernel)
theorem dX1_piecesCutAt_57 : decode cX1_piecesCutAt 57 = .ok (.goto (-50), 3) := dn_167 (ob_cX1_piecesCutAt_1 16 rfl rfl) (by decide +kernel)
theorem dX1_piecesCutAt_60 : decode cX1_piecesCutAt 60 = .ok (.iload_n 2, 1) := dn_28 (ob_cX1_piecesCutAt_1 19 rfl rfl)
theorem dX1_piecesCutAt_61 : decode cX1_piecesCutAt 61 = .ok (.ireturn, 1) := dn_172 (ob_cX1_piecesCutAt_1 20 rfl rfl)
def kb_cX1_isTextSound_0 : List UInt8 := [42, 182, 0, 59, 184, 0, 69, 60, 42, 182, 0, 59, 184, 0, 72, 61, 42, 180, 0, 19, 16, 30, 163, 0, 55, 27, 42, 182, 0, 77, 184, 0, 69, 160, 0, 44, 28, 42, 182, 0, 80]
def kb_cX1_isTextSound_1 : List UInt8 := [160, 0, 36, 28, 42, 27, 182, 0, 83, 160, 0, 27, 42, 182, 0, 86, 42, 182, 0, 90, 2, 160, 0, 7, 4, 167, 0, 4, 3, 160, 0, 7, 4, 167, 0, 4, 3, 172]
def tb_cX1_isTextSound_2 : List UInt8 := []
def tb_cX1_isTextSound_1 : List UInt8 := kb_cX1_isTextSound_1 ++ tb_cX1_isTextSound_2
def tb_cX1_isTextSound_0 : List UInt8 := kb_cX1_isTextSound_0 ++ tb_cX1_isTextSound_1
set_option maxRecDepth 100000 in
theorem tb_cX1_isTextSound : (cX1_isTextSound).data.toList = tb_cX1_isTextSound_0 := eqL_eq (by decide +kernel)
theorem ow_cX1_isTextSound_0 (r : Nat) : (cX1_isTextSound).data.toList.drop (0 + r) = tb_cX1_isTextSound_0.drop r := by rw [tb_cX1_isTextSound, Nat.zero_add]
theorem ow_cX1_isTextSound_1 (r : Nat) : (cX1_isTextSound).data.toList.drop (41 + r) = tb_cX1_isTextSound_1.drop r := by
  have e := ow_cX1_isTextSound_0 (41 + r)
  rw [show 0 + (41 + r) = 41 + r by omega] at e
  exact e.trans (dr_len (a := kb_cX1_isTextSound_0) (t := tb_cX1_isTextSound_1) (by decide +kernel))
theorem ob_cX1_isTextSound_0 (r : Nat) {pc : Nat} {l : List UInt8} (hp : 0 + r = pc) (h : tb_cX1_isTextSound_0.drop r = l) : (cX1_isTextSound).data.toList.drop pc = l := by
  subst hp
  exact (ow_cX1_isTextSound_0 r).trans h
theorem ob_cX1_isTextSound_1 (r : Nat) {pc : Nat} {l : List UInt8} (hp : 41 + r = pc) (h : tb_cX1_isTextSound_1.drop r = l) : (cX1_isTextSound).data.toList.drop pc = l := by
  subst hp
  exact (ow_cX1_isTextSound_1 r).trans h
theorem dX1_isTextSound_0 : decode cX1_isTextSound 0 = .ok (.aload_n 0, 1) := dn_42 (ob_cX1_isTextSound_0 0 rfl rfl)
theorem dX1_isTextSound_1 : decode cX1_isTextSound 1 = .ok (.invokevirtual 59, 3) := dn_182 (ob_cX1_isTextSound_0 1 rfl rfl) rfl
theorem dX1_isTextSound_4 : decode cX1_isTextSound 4 = .ok (.invokestatic 69, 3) := dn_184 (ob_cX1_isTextSound_0 4 rfl rfl) rfl
theorem dX1_isTextSound_7 : decode cX1_isTextSound 7 = .ok (.istore_n 1, 1) := dn_60 (ob_cX1_isTextSound_0 7 rfl rfl)
theorem dX1_isTextSound_8 : decode cX1_isTextSound 8 = .ok (.aload_n 0, 1) := dn_42 (ob_cX1_isTextSound_0 8 rfl rfl)
theorem dX1_isTextSound_9 : decode cX1_isTextSound 9 = .ok (.invokevirtual 59, 3) := dn_182 (ob_cX1_isTextSound_0 9 rfl rfl) rfl
theorem dX1_isTextSound_12 : decode cX1_isTextSound 12 = .ok (.invokestatic 72, 3) := dn_184 (ob_cX1_isTextSound_0 12 rfl rfl) rfl
theorem dX1_isTextSound_15 : decode cX1_isTextSound 15 = .ok (.istore_n 2, 1) := dn_61 (ob_cX1_isTextSound_0 15 rfl rfl)
theorem dX1_isTextSound_16 : decode cX1_isTextSound 16 = .ok (.aload_n 0, 1) := dn_42 (ob_cX1_isTextSound_0 16 rfl rfl)
theorem dX1_isTextSound_17 : decode cX1_isTextSound 17 = .ok (.getfield 19, 3) := dn_180 (ob_cX1_isTextSound_0 17 rfl rfl) rfl
theorem dX1_isTextSound_20 : decode cX1_isTextSound 20 = .ok (.bipush 30, 2) := dn_16 (ob_cX1_isTextSound_0 20 rfl rfl) (by decide +kernel)
theorem dX1_isTextSound_22 : decode cX1_isTextSound 22 = .ok (.if_icmp .gt 55, 3) := dn_163 (ob_cX1_isTextSound_0 22 rfl rfl) (by decide +kernel)
theorem dX1_isTextSound_25 : decode cX1_isTextSound 25 = .ok (.iload_n 1, 1) := dn_27 (ob_cX1_isTextSound_0 25 rfl rfl)
theorem dX1_isTextSound_26 : decode cX1_isTextSound 26 = .ok (.aload_n 0, 1) := dn_42 (ob_cX1_isTextSound_0 26 rfl rfl)
theorem dX1_isTextSound_27 : decode cX1_isTextSound 27 = .ok (.invokevirtual 77, 3) := dn_182 (ob_cX1_isTextSound_0 27 rfl rfl) rfl
theorem dX1_isTextSound_30 : decode cX1_isTextSound 30 = .ok (.invokestatic 69, 3) := dn_184 (ob_cX1_isTextSound_0 30 rfl rfl) rfl
theorem dX1_isTextSound_33 : decode cX1_isTextSound 33 = .ok (.if_icmp .ne 44, 3) := dn_160 (ob_cX1_isTextSound_0 33 rfl rfl) (by decide +kernel)
theorem dX1_isTextSound_36 : decode cX1_isTextSound 36 = .ok (.iload_n 2, 1) := dn_28 (ob_cX1_isTextSound_0 36 rfl rfl)
theorem dX1_isTextSound_37 : decode cX1_isTextSound 37 = .ok (.aload_n 0, 1) := dn_42 (ob_cX1_isTextSound_0 37 rfl rfl)
theorem dX1_isTextSound_38 : decode cX1_isTextSound 38 = .ok (.invokevirtual 80, 3) := dn_182 (ob_cX1_isTextSound_0 38 rfl rfl) rfl
theorem dX1_isTextSound_41 : decode cX1_isTextSound 41 = .ok (.if_icmp .ne 36, 3) := dn_160 (ob_cX1_isTextSound_1 0 rfl rfl) (by decide +kernel)
theorem dX1_isTextSound_44 : decode cX1_isTextSound 44 = .ok (.iload_n 2, 1) := dn_28 (ob_cX1_isTextSound_1 3 rfl rfl)
theorem dX1_isTextSound_45 : decode cX1_isTextSound 45 = .ok (.aload_n 0, 1) := dn_42 (ob_cX1_isTextSound_1 4 rfl rfl)
theorem dX1_isTextSound_46 : decode cX1_isTextSound 46 = .ok (.iload_n 1, 1) := dn_27 (ob_cX1_isTextSound_1 5 rfl rfl)
theorem dX1_isTextSound_47 : decode cX1_isTextSound 47 = .ok (.invokevirtual 83, 3) := dn_182 (ob_cX1_isTextSound_1 6 rfl rfl) rfl
theorem dX1_isTextSound_50 : decode cX1_isTextSound 50 = .ok (.if_icmp .ne 27, 3) := dn_160 (ob_cX1_isTextSound_1 9 rfl rfl) (by decide +kernel)
theorem dX1_isTextSound_53 : decode cX1_isTextSound 53 = .ok (.aload_n 0, 1) := dn_42 (ob_cX1_isTextSound_1 12 rfl rfl)
theorem dX1_isTextSound_54 : decode cX1_isTextSound 54 = .ok (.invokevirtual 86, 3) := dn_182 (ob_cX1_isTextSound_1 13 rfl rfl) rfl
theorem dX1_isTextSound_57 : decode cX1_isTextSound 57 = .ok (.aload_n 0, 1) := dn_42 (ob_cX1_isTextSound_1 16 rfl rfl)
theorem dX1_isTextSound_58 : decode cX1_isTextSound 58 = .ok (.invokevirtual 90, 3) := dn_182 (ob_cX1_isTextSound_1 17 rfl rfl) rfl
theorem dX1_isTextSound_61 : decode cX1_isTextSound 61 = .ok (.iconst (-1), 1) := dn_2 (ob_cX1_isTextSound_1 20 rfl rfl)
theorem dX1_isTextSound_62 : decode cX1_isTextSound 62 = .ok (.if_icmp .ne 7, 3) := dn_160 (ob_cX1_isTextSound_1 21 rfl rfl) (by decide +kernel)
theorem dX1_isTextSound_65 : decode cX1_isTextSound 65 = .ok (.iconst 1, 1) := dn_4 (ob_cX1_isTextSound_1 24 rfl rfl)
theorem dX1_isTextSound_66 : decode cX1_isTextSound 66 = .ok (.goto 4, 3) := dn_167 (ob_cX1_isTextSound_1 25 rfl rfl) (by decide +kernel)
theorem dX1_isTextSound_69 : decode cX1_isTextSound 69 = .ok (.iconst 0, 1) := dn_3 (ob_cX1_isTextSound_1 28 rfl rfl)
theorem dX1_isTextSound_70 : decode cX1_isTextSound 70 = .ok (.if_icmp .ne 7, 3) := dn_160 (ob_cX1_isTextSound_1 29 rfl rfl) (by decide +kernel)
theorem dX1_isTextSound_73 : decode cX1_isTextSound 73 = .ok (.iconst 1, 1) := dn_4 (ob_cX1_isTextSound_1 32 rfl rfl)
theorem dX1_isTextSound_74 : decode cX1_isTextSound 74 = .ok (.goto 4, 3) := dn_167 (ob_cX1_isTextSound_1 33 rfl rfl) (by decide +kernel)
theorem dX1_isTextSound_77 : decode cX1_isTextSound 77 = .ok (.iconst 0, 1) := dn_3 (ob_cX1_isTextSound_1 36 rfl rfl)
theorem dX1_isTextSound_78 : decode cX1_isTextSound 78 = .ok (.ireturn, 1) := dn_172 (ob_cX1_isTextSound_1 37 rfl rfl)
def kb_cX1_digestFrom_0 : List UInt8 := [31, 42, 180, 0, 19, 184, 0, 93, 66, 3, 54, 5, 21, 5, 42, 180, 0, 19, 162, 0, 31, 33, 42, 21, 5, 182, 0, 23, 184, 0, 93, 66, 33, 42, 21, 5, 182, 0, 36, 184, 0, 93]
def kb_cX1_digestFrom_1 : List UInt8 := [66, 132, 5, 1, 167, 255, 222, 3, 54, 5, 21, 5, 16, 13, 163, 0, 23, 33, 42, 21, 5, 182, 0, 97, 184, 0, 72, 184, 0, 93, 66, 132, 5, 1, 167, 255, 232, 33, 42, 182, 0, 90]
def kb_cX1_digestFrom_2 : List UInt8 := [184, 0, 93, 66, 33, 42, 182, 0, 59, 184, 0, 72, 184, 0, 93, 66, 33, 42, 182, 0, 59, 184, 0, 69, 184, 0, 93, 66, 33, 42, 182, 0, 80, 184, 0, 93, 173]
def tb_cX1_digestFrom_3 : List UInt8 := []
def tb_cX1_digestFrom_2 : List UInt8 := kb_cX1_digestFrom_2 ++ tb_cX1_digestFrom_3
def tb_cX1_digestFrom_1 : List UInt8 := kb_cX1_digestFrom_1 ++ tb_cX1_digestFrom_2
def tb_cX1_digestFrom_0 : List UInt8 := kb_cX1_digestFrom_0 ++ tb_cX1_digestFrom_1
set_option maxRecDepth 100000 in
theorem tb_cX1_digestFrom : (cX1_digestFrom).data.toList = tb_cX1_digestFrom_0 := eqL_eq (by decide +kernel)
theorem ow_cX1_digestFrom_0 (r : Nat) : (cX1_digestFrom).data.toList.drop (0 + r) = tb_cX1_digestFrom_0.drop r := by rw [tb_cX1_digestFrom, Nat.zero_add]
theorem ow_cX1_digestFrom_1 (r : Nat) : (cX1_digestFrom).data.toList.drop (42 + r) = tb_cX1_digestFrom_1.drop r := by
  have e := ow_cX1_digestFrom_0 (42 + r)
  rw [show 0 + (42 + r) = 42 + r by omega] at e
  exact e.trans (dr_len (a := kb_cX1_digestFrom_0) (t := tb_cX1_digestFrom_1) (by decide +kernel))
theorem ow_cX1_digestFrom_2 (r : Nat) : (cX1_digestFrom).data.toList.drop (84 + r) = tb_cX1_digestFrom_2.drop r := by
  have e := ow_cX1_digestFrom_1 (42 + r)
  rw [show 42 + (42 + r) = 84 + r by omega] at e
  exact e.trans (dr_len (a := kb_cX1_digestFrom_1) (t := tb_cX1_digestFrom_2) (by decide +kernel))
theorem ob_cX1_digestFrom_0 (r : Nat) {pc : Nat} {l : List UInt8} (hp : 0 + r = pc) (h : tb_cX1_digestFrom_0.drop r = l) : (cX1_digestFrom).data.toList.drop pc = l := by
  subst hp
  exact (ow_cX1_digestFrom_0 r).trans h
theorem ob_cX1_digestFrom_1 (r : Nat) {pc : Nat} {l : List UInt8} (hp : 42 + r = pc) (h : tb_cX1_digestFrom_1.drop r = l) : (cX1_digestFrom).data.toList.drop pc = l := by
  subst hp
  exact (ow_cX1_digestFrom_1 r).trans h
theorem ob_cX1_digestFrom_2 (r : Nat) {pc : Nat} {l : List UInt8} (hp : 84 + r = pc) (h : tb_cX1_digestFrom_2.drop r = l) : (cX1_digestFrom).data.toList.drop pc = l := by
  subst hp
  exact (ow_cX1_digestFrom_2 r).trans h
theorem dX1_digestFrom_0 : decode cX1_digestFrom 0 = .ok (.lload_n 1, 1) := dn_31 (ob_cX1_digestFrom_0 0 rfl rfl)
theorem dX1_digestFrom_1 : decode cX1_digestFrom 1 = .ok (.aload_n 0, 1) := dn_42 (ob_cX1_digestFrom_0 1 rfl rfl)
theorem dX1_digestFrom_2 : decode cX1_digestFrom 2 = .ok (.getfield 19, 3) := dn_180 (ob_cX1_digestFrom_0 2 rfl rfl) rfl
theorem dX1_digestFrom_5 : decode cX1_digestFrom 5 = .ok (.invokestatic 93, 3) := dn_184 (ob_cX1_digestFrom_0 5 rfl rfl) rfl
theorem dX1_digestFrom_8 : decode cX1_digestFrom 8 = .ok (.lstore_n 3, 1) := dn_66 (ob_cX1_digestFrom_0 8 rfl rfl)
theorem dX1_digestFrom_9 : decode cX1_digestFrom 9 = .ok (.iconst 0, 1) := dn_3 (ob_cX1_digestFrom_0 9 rfl rfl)
theorem dX1_digestFrom_10 : decode cX1_digestFrom 10 = .ok (.istore 5, 2) := dn_54 (ob_cX1_digestFrom_0 10 rfl rfl) rfl
theorem dX1_digestFrom_12 : decode cX1_digestFrom 12 = .ok (.iload 5, 2) := dn_21 (ob_cX1_digestFrom_0 12 rfl rfl) rfl
theorem dX1_digestFrom_14 : decode cX1_digestFrom 14 = .ok (.aload_n 0, 1) := dn_42 (ob_cX1_digestFrom_0 14 rfl rfl)
theorem dX1_digestFrom_15 : decode cX1_digestFrom 15 = .ok (.getfield 19, 3) := dn_180 (ob_cX1_digestFrom_0 15 rfl rfl) rfl
theorem dX1_digestFrom_18 : decode cX1_digestFrom 18 = .ok (.if_icmp .ge 31, 3) := dn_162 (ob_cX1_digestFrom_0 18 rfl rfl) (by decide +kernel)
theorem dX1_digestFrom_21 : decode cX1_digestFrom 21 = .ok (.lload_n 3, 1) := dn_33 (ob_cX1_digestFrom_0 21 rfl rfl)
theorem dX1_digestFrom_22 : decode cX1_digestFrom 22 = .ok (.aload_n 0, 1) := dn_42 (ob_cX1_digestFrom_0 22 rfl rfl)
theorem dX1_digestFrom_23 : decode cX1_digestFrom 23 = .ok (.iload 5, 2) := dn_21 (ob_cX1_digestFrom_0 23 rfl rfl) rfl
theorem dX1_digestFrom_25 : decode cX1_digestFrom 25 = .ok (.invokevirtual 23, 3) := dn_182 (ob_cX1_digestFrom_0 25 rfl rfl) rfl
theorem dX1_digestFrom_28 : decode cX1_digestFrom 28 = .ok (.invokestatic 93, 3) := dn_184 (ob_cX1_digestFrom_0 28 rfl rfl) rfl
theorem dX1_digestFrom_31 : decode cX1_digestFrom 31 = .ok (.lstore_n 3, 1) := dn_66 (ob_cX1_digestFrom_0 31 rfl rfl)
theorem dX1_digestFrom_32 : decode cX1_digestFrom 32 = .ok (.lload_n 3, 1) := dn_33 (ob_cX1_digestFrom_0 32 rfl rfl)
theorem dX1_digestFrom_33 : decode cX1_digestFrom 33 = .ok (.aload_n 0, 1) := dn_42 (ob_cX1_digestFrom_0 33 rfl rfl)
theorem dX1_digestFrom_34 : decode cX1_digestFrom 34 = .ok (.iload 5, 2) := dn_21 (ob_cX1_digestFrom_0 34 rfl rfl) rfl
theorem dX1_digestFrom_36 : decode cX1_digestFrom 36 = .ok (.invokevirtual 36, 3) := dn_182 (ob_cX1_digestFrom_0 36 rfl rfl) rfl
theorem dX1_digestFrom_39 : decode cX1_digestFrom 39 = .ok (.invokestatic 93, 3) := dn_184 (ob_cX1_digestFrom_0 39 rfl rfl) rfl
theorem dX1_digestFrom_42 : decode cX1_digestFrom 42 = .ok (.lstore_n 3, 1) := dn_66 (ob_cX1_digestFrom_1 0 rfl rfl)
theorem dX1_digestFrom_43 : decode cX1_digestFrom 43 = .ok (.iinc 5 1, 3) := dn_132 (ob_cX1_digestFrom_1 1 rfl rfl) rfl (by decide +kernel)
theorem dX1_digestFrom_46 : decode cX1_digestFrom 46 = .ok (.goto (-34), 3) := dn_167 (ob_cX1_digestFrom_1 4 rfl rfl) (by decide +kernel)
theorem dX1_digestFrom_49 : decode cX1_digestFrom 49 = .ok (.iconst 0, 1) := dn_3 (ob_cX1_digestFrom_1 7 rfl rfl)
theorem dX1_digestFrom_50 : decode cX1_digestFrom 50 = .ok (.istore 5, 2) := dn_54 (ob_cX1_digestFrom_1 8 rfl rfl) rfl
theorem dX1_digestFrom_52 : decode cX1_digestFrom 52 = .ok (.iload 5, 2) := dn_21 (ob_cX1_digestFrom_1 10 rfl rfl) rfl
theorem dX1_digestFrom_54 : decode cX1_digestFrom 54 = .ok (.bipush 13, 2) := dn_16 (ob_cX1_digestFrom_1 12 rfl rfl) (by decide +kernel)
theorem dX1_digestFrom_56 : decode cX1_digestFrom 56 = .ok (.if_icmp .gt 23, 3) := dn_163 (ob_cX1_digestFrom_1 14 rfl rfl) (by decide +kernel)
theorem dX1_digestFrom_59 : decode cX1_digestFrom 59 = .ok (.lload_n 3, 1) := dn_33 (ob_cX1_digestFrom_1 17 rfl rfl)
theorem dX1_digestFrom_60 : decode cX1_digestFrom 60 = .ok (.aload_n 0, 1) := dn_42 (ob_cX1_digestFrom_1 18 rfl rfl)
theorem dX1_digestFrom_61 : decode cX1_digestFrom 61 = .ok (.iload 5, 2) := dn_21 (ob_cX1_digestFrom_1 19 rfl rfl) rfl
theorem dX1_digestFrom_63 : decode cX1_digestFrom 63 = .ok (.invokevirtual 97, 3) := dn_182 (ob_cX1_digestFrom_1 21 rfl rfl) rfl
theorem dX1_digestFrom_66 : decode cX1_digestFrom 66 = .ok (.invokestatic 72, 3) := dn_184 (ob_cX1_digestFrom_1 24 rfl rfl) rfl
theorem dX1_digestFrom_69 : decode cX1_digestFrom 69 = .ok (.invokestatic 93, 3) := dn_184 (ob_cX1_digestFrom_1 27 rfl rfl) rfl
theorem dX1_digestFrom_72 : decode cX1_digestFrom 72 = .ok (.lstore_n 3, 1) := dn_66 (ob_cX1_digestFrom_1 30 rfl rfl)
theorem dX1_digestFrom_73 : decode cX1_digestFrom 73 = .ok (.iinc 5 1, 3) := dn_132 (ob_cX1_digestFrom_1 31 rfl rfl) rfl (by decide +kernel)
theorem dX1_digestFrom_76 : decode cX1_digestFrom 76 = .ok (.goto (-24), 3) := dn_167 (ob_cX1_digestFrom_1 34 rfl rfl) (by decide +kernel)
theorem dX1_digestFrom_79 : decode cX1_digestFrom 79 = .ok (.lload_n 3, 1) := dn_33 (ob_cX1_digestFrom_1 37 rfl rfl)
theorem dX1_digestFrom_80 : decode cX1_digestFrom 80 = .ok (.aload_n 0, 1) := dn_42 (ob_cX1_digestFrom_1 38 rfl rfl)
theorem dX1_digestFrom_81 : decode cX1_digestFrom 81 = .ok (.invokevirtual 90, 3) := dn_182 (ob_cX1_digestFrom_1 39 rfl rfl) rfl
theorem dX1_digestFrom_84 : decode cX1_digestFrom 84 = .ok (.invokestatic 93, 3) := dn_184 (ob_cX1_digestFrom_2 0 rfl rfl) rfl
theorem dX1_digestFrom_87 : decode cX1_digestFrom 87 = .ok (.lstore_n 3, 1) := dn_66 (ob_cX1_digestFrom_2 3 rfl rfl)
theorem dX1_digestFrom_88 : decode cX1_digestFrom 88 = .ok (.lload_n 3, 1) := dn_33 (ob_cX1_digestFrom_2 4 rfl rfl)
theorem dX1_digestFrom_89 : decode cX1_digestFrom 89 = .ok (.aload_n 0, 1) := dn_42 (ob_cX1_digestFrom_2 5 rfl rfl)
theorem dX1_digestFrom_90 : decode cX1_digestFrom 90 = .ok (.invokevirtual 59, 3) := dn_182 (ob_cX1_digestFrom_2 6 rfl rfl) rfl
theorem dX1_digestFrom_93 : decode cX1_digestFrom 93 = .ok (.invokestatic 72, 3) := dn_184 (ob_cX1_digestFrom_2 9 rfl rfl) rfl
theorem dX1_digestFrom_96 : decode cX1_digestFrom 96 = .ok (.invokestatic 93, 3) := dn_184 (ob_cX1_digestFrom_2 12 rfl rfl) rfl
theorem dX1_digestFrom_99 : decode cX1_digestFrom 99 = .ok (.lstore_n 3, 1) := dn_66 (ob_cX1_digestFrom_2 15 rfl rfl)
theorem dX1_digestFrom_100 : decode cX1_digestFrom 100 = .ok (.lload_n 3, 1) := dn_33 (ob_cX1_digestFrom_2 16 rfl rfl)
theorem dX1_digestFrom_101 : decode cX1_digestFrom 101 = .ok (.aload_n 0, 1) := dn_42 (ob_cX1_digestFrom_2 17 rfl rfl)
theorem dX1_digestFrom_102 : decode cX1_digestFrom 102 = .ok (.invokevirtual 59, 3) := dn_182 (ob_cX1_digestFrom_2 18 rfl rfl) rfl
theorem dX1_digestFrom_105 : decode cX1_digestFrom 105 = .ok (.invokestatic 69, 3) := dn_184 (ob_cX1_digestFrom_2 21 rfl rfl) rfl
theorem dX1_digestFrom_108 : decode cX1_digestFrom 108 = .ok (.invokestatic 93, 3) := dn_184 (ob_cX1_digestFrom_2 24 rfl rfl) rfl
theorem dX1_digestFrom_111 : decode cX1_digestFrom 111 = .ok (.lstore_n 3, 1) := dn_66 (ob_cX1_digestFrom_2 27 rfl rfl)
theorem dX1_digestFrom_112 : decode cX1_digestFrom 112 = .ok (.lload_n 3, 1) := dn_33 (ob_cX1_digestFrom_2 28 rfl rfl)
theorem dX1_digestFrom_113 : decode cX1_digestFrom 113 = .ok (.aload_n 0, 1) := dn_42 (ob_cX1_digestFrom_2 29 rfl rfl)
theorem dX1_digestFrom_114 : decode cX1_digestFrom 114 = .ok (.invokevirtual 80, 3) := dn_182 (ob_cX1_digestFrom_2 30 rfl rfl) rfl
theorem dX1_digestFrom_117 : decode cX1_digestFrom 117 = .ok (.invokestatic 93, 3) := dn_184 (ob_cX1_digestFrom_2 33 rfl rfl) rfl
theorem dX1_digestFrom_120 : decode cX1_digestFrom 120 = .ok (.lreturn, 1) := dn_173 (ob_cX1_digestFrom_2 36 rfl rfl)
def kb_cX2_init : List UInt8 := [42, 183, 0, 1, 42, 6, 189, 0, 9, 181, 0, 11, 3, 60, 27, 6, 162, 0, 22, 42, 180, 0, 11, 27, 187, 0, 9, 89, 183, 0, 15, 83, 132, 1, 1, 167, 255, 235, 177]
set_option maxRecDepth 10000 in
theorem ob_cX2_init (r : Nat) {l : List UInt8} (h : kb_cX2_init.drop r = l) : (cX2_init).data.toList.drop r = l := by
  rw [show (cX2_init).data.toList = kb_cX2_init from eqL_eq (by decide +kernel)]
  exact h
theorem dX2_init_0 : decode cX2_init 0 = .ok (.aload_n 0, 1) := dn_42 (ob_cX2_init 0 rfl)
theorem dX2_init_1 : decode cX2_init 1 = .ok (.invokespecial 1, 3) := dn_183 (ob_cX2_init 1 rfl) rfl
theorem dX2_init_4 : decode cX2_init 4 = .ok (.aload_n 0, 1) := dn_42 (ob_cX2_init 4 rfl)
theorem dX2_init_5 : decode cX2_init 5 = .ok (.iconst 3, 1) := dn_6 (ob_cX2_init 5 rfl)
theorem dX2_init_6 : decode cX2_init 6 = .ok (.anewarray 9, 3) := dn_189 (ob_cX2_init 6 rfl) rfl
theorem dX2_init_9 : decode cX2_init 9 = .ok (.putfield 11, 3) := dn_181 (ob_cX2_init 9 rfl) rfl
theorem dX2_init_12 : decode cX2_init 12 = .ok (.iconst 0, 1) := dn_3 (ob_cX2_init 12 rfl)
theorem dX2_init_13 : decode cX2_init 13 = .ok (.istore_n 1, 1) := dn_60 (ob_cX2_init 13 rfl)
theorem dX2_init_14 : decode cX2_init 14 = .ok (.iload_n 1, 1) := dn_27 (ob_cX2_init 14 rfl)
theorem dX2_init_15 : decode cX2_init 15 = .ok (.iconst 3, 1) := dn_6 (ob_cX2_init 15 rfl)
theorem dX2_init_16 : decode cX2_init 16 = .ok (.if_icmp .ge 22, 3) := dn_162 (ob_cX2_init 16 rfl) (by decide +kernel)
theorem dX2_init_19 : decode cX2_init 19 = .ok (.aload_n 0, 1) := dn_42 (ob_cX2_init 19 rfl)
theorem dX2_init_20 : decode cX2_init 20 = .ok (.getfield 11, 3) := dn_180 (ob_cX2_init 20 rfl) rfl
theorem dX2_init_23 : decode cX2_init 23 = .ok (.iload_n 1, 1) := dn_27 (ob_cX2_init 23 rfl)
theorem dX2_init_24 : decode cX2_init 24 = .ok (.new 9, 3) := dn_187 (ob_cX2_init 24 rfl) rfl
theorem dX2_init_27 : decode cX2_init 27 = .ok (.dup, 1) := dn_89 (ob_cX2_init 27 rfl)
theorem dX2_init_28 : decode cX2_init 28 = .ok (.invokespecial 15, 3) := dn_183 (ob_cX2_init 28 rfl) rfl
theorem dX2_init_31 : decode cX2_init 31 = .ok (.aastore, 1) := dn_83 (ob_cX2_init 31 rfl)
theorem dX2_init_32 : decode cX2_init 32 = .ok (.iinc 1 1, 3) := dn_132 (ob_cX2_init 32 rfl) rfl (by decide +kernel)
theorem dX2_init_35 : decode cX2_init 35 = .ok (.goto (-21), 3) := dn_167 (ob_cX2_init 35 rfl) (by decide +kernel)
theorem dX2_init_38 : decode cX2_init 38 = .ok (.return_, 1) := dn_177 (ob_cX2_init 38 rfl)
def kb_cX2_add : List UInt8 := [42, 27, 182, 0, 16, 78, 28, 184, 0, 20, 42, 45, 45, 182, 0, 24, 28, 182, 0, 28, 172]
set_option maxRecDepth 10000 in
theorem ob_cX2_add (r : Nat) {l : List UInt8} (h : kb_cX2_add.drop r = l) : (cX2_add).data.toList.drop r = l := by
  rw [show (cX2_add).data.toList = kb_cX2_add from eqL_eq (by decide +kernel)]
  exact h
theorem dX2_add_0 : decode cX2_add 0 = .ok (.aload_n 0, 1) := dn_42 (ob_cX2_add 0 rfl)
theorem dX2_add_1 : decode cX2_add 1 = .ok (.iload_n 1, 1) := dn_27 (ob_cX2_add 1 rfl)
theorem dX2_add_2 : decode cX2_add 2 = .ok (.invokevirtual 16, 3) := dn_182 (ob_cX2_add 2 rfl) rfl
theorem dX2_add_5 : decode cX2_add 5 = .ok (.astore_n 3, 1) := dn_78 (ob_cX2_add 5 rfl)
theorem dX2_add_6 : decode cX2_add 6 = .ok (.iload_n 2, 1) := dn_28 (ob_cX2_add 6 rfl)
theorem dX2_add_7 : decode cX2_add 7 = .ok (.invokestatic 20, 3) := dn_184 (ob_cX2_add 7 rfl) rfl
theorem dX2_add_10 : decode cX2_add 10 = .ok (.aload_n 0, 1) := dn_42 (ob_cX2_add 10 rfl)
theorem dX2_add_11 : decode cX2_add 11 = .ok (.aload_n 3, 1) := dn_45 (ob_cX2_add 11 rfl)
theorem dX2_add_12 : decode cX2_add 12 = .ok (.aload_n 3, 1) := dn_45 (ob_cX2_add 12 rfl)
theorem dX2_add_13 : decode cX2_add 13 = .ok (.invokevirtual 24, 3) := dn_182 (ob_cX2_add 13 rfl) rfl
theorem dX2_add_16 : decode cX2_add 16 = .ok (.iload_n 2, 1) := dn_28 (ob_cX2_add 16 rfl)
theorem dX2_add_17 : decode cX2_add 17 = .ok (.invokevirtual 28, 3) := dn_182 (ob_cX2_add 17 rfl) rfl
theorem dX2_add_20 : decode cX2_add 20 = .ok (.ireturn, 1) := dn_172 (ob_cX2_add 20 rfl)
def kb_cX2_put : List UInt8 := [42, 27, 182, 0, 16, 58, 4, 25, 4, 28, 184, 0, 32, 29, 184, 0, 20, 25, 4, 28, 182, 0, 36, 54, 5, 25, 4, 28, 29, 182, 0, 40, 42, 21, 5, 182, 0, 44, 172]
set_option maxRecDepth 10000 in
theorem ob_cX2_put (r : Nat) {l : List UInt8} (h : kb_cX2_put.drop r = l) : (cX2_put).data.toList.drop r = l := by
  rw [show (cX2_put).data.toList = kb_cX2_put from eqL_eq (by decide +kernel)]
  exact h
theorem dX2_put_0 : decode cX2_put 0 = .ok (.aload_n 0, 1) := dn_42 (ob_cX2_put 0 rfl)
theorem dX2_put_1 : decode cX2_put 1 = .ok (.iload_n 1, 1) := dn_27 (ob_cX2_put 1 rfl)
theorem dX2_put_2 : decode cX2_put 2 = .ok (.invokevirtual 16, 3) := dn_182 (ob_cX2_put 2 rfl) rfl
theorem dX2_put_5 : decode cX2_put 5 = .ok (.astore 4, 2) := dn_58 (ob_cX2_put 5 rfl) rfl
theorem dX2_put_7 : decode cX2_put 7 = .ok (.aload 4, 2) := dn_25 (ob_cX2_put 7 rfl) rfl
theorem dX2_put_9 : decode cX2_put 9 = .ok (.iload_n 2, 1) := dn_28 (ob_cX2_put 9 rfl)
theorem dX2_put_10 : decode cX2_put 10 = .ok (.invokestatic 32, 3) := dn_184 (ob_cX2_put 10 rfl) rfl
theorem dX2_put_13 : decode cX2_put 13 = .ok (.iload_n 3, 1) := dn_29 (ob_cX2_put 13 rfl)
theorem dX2_put_14 : decode cX2_put 14 = .ok (.invokestatic 20, 3) := dn_184 (ob_cX2_put 14 rfl) rfl
theorem dX2_put_17 : decode cX2_put 17 = .ok (.aload 4, 2) := dn_25 (ob_cX2_put 17 rfl) rfl
theorem dX2_put_19 : decode cX2_put 19 = .ok (.iload_n 2, 1) := dn_28 (ob_cX2_put 19 rfl)
theorem dX2_put_20 : decode cX2_put 20 = .ok (.invokevirtual 36, 3) := dn_182 (ob_cX2_put 20 rfl) rfl
theorem dX2_put_23 : decode cX2_put 23 = .ok (.istore 5, 2) := dn_54 (ob_cX2_put 23 rfl) rfl
theorem dX2_put_25 : decode cX2_put 25 = .ok (.aload 4, 2) := dn_25 (ob_cX2_put 25 rfl) rfl
theorem dX2_put_27 : decode cX2_put 27 = .ok (.iload_n 2, 1) := dn_28 (ob_cX2_put 27 rfl)
theorem dX2_put_28 : decode cX2_put 28 = .ok (.iload_n 3, 1) := dn_29 (ob_cX2_put 28 rfl)
theorem dX2_put_29 : decode cX2_put 29 = .ok (.invokevirtual 40, 3) := dn_182 (ob_cX2_put 29 rfl) rfl
theorem dX2_put_32 : decode cX2_put 32 = .ok (.aload_n 0, 1) := dn_42 (ob_cX2_put 32 rfl)
theorem dX2_put_33 : decode cX2_put 33 = .ok (.iload 5, 2) := dn_21 (ob_cX2_put 33 rfl) rfl
theorem dX2_put_35 : decode cX2_put 35 = .ok (.invokevirtual 44, 3) := dn_182 (ob_cX2_put 35 rfl) rfl
theorem dX2_put_38 : decode cX2_put 38 = .ok (.ireturn, 1) := dn_172 (ob_cX2_put 38 rfl)
def kb_cX2_insert_0 : List UInt8 := [42, 27, 182, 0, 16, 58, 4, 28, 155, 0, 12, 28, 25, 4, 182, 0, 24, 164, 0, 11, 187, 0, 47, 89, 183, 0, 49, 191, 29, 184, 0, 20, 42, 25, 4, 28, 29, 182, 0, 28]
def kb_cX2_insert_1 : List UInt8 := [172]
def tb_cX2_insert_2 : List UInt8 := []
def tb_cX2_insert_1 : List UInt8 := kb_cX2_insert_1 ++ tb_cX2_insert_2
def tb_cX2_insert_0 : List UInt8 := kb_cX2_insert_0 ++ tb_cX2_insert_1
set_option maxRecDepth 100000 in
theorem tb_cX2_insert : (cX2_insert).data.toList = tb_cX2_insert_0 := eqL_eq (by decide +kernel)
theorem ow_cX2_insert_0 (r : Nat) : (cX2_insert).data.toList.drop (0 + r) = tb_cX2_insert_0.drop r := by rw [tb_cX2_insert, Nat.zero_add]
theorem ow_cX2_insert_1 (r : Nat) : (cX2_insert).data.toList.drop (40 + r) = tb_cX2_insert_1.drop r := by
  have e := ow_cX2_insert_0 (40 + r)
  rw [show 0 + (40 + r) = 40 + r by omega] at e
  exact e.trans (dr_len (a := kb_cX2_insert_0) (t := tb_cX2_insert_1) (by decide +kernel))
theorem ob_cX2_insert_0 (r : Nat) {pc : Nat} {l : List UInt8} (hp : 0 + r = pc) (h : tb_cX2_insert_0.drop r = l) : (cX2_insert).data.toList.drop pc = l := by
  subst hp
  exact (ow_cX2_insert_0 r).trans h
theorem ob_cX2_insert_1 (r : Nat) {pc : Nat} {l : List UInt8} (hp : 40 + r = pc) (h : tb_cX2_insert_1.drop r = l) : (cX2_insert).data.toList.drop pc = l := by
  subst hp
  exact (ow_cX2_insert_1 r).trans h
theorem dX2_insert_0 : decode cX2_insert 0 = .ok (.aload_n 0, 1) := dn_42 (ob_cX2_insert_0 0 rfl rfl)
theorem dX2_insert_1 : decode cX2_insert 1 = .ok (.iload_n 1, 1) := dn_27 (ob_cX2_insert_0 1 rfl rfl)
theorem dX2_insert_2 : decode cX2_insert 2 = .ok (.invokevirtual 16, 3) := dn_182 (ob_cX2_insert_0 2 rfl rfl) rfl
theorem dX2_insert_5 : decode cX2_insert 5 = .ok (.astore 4, 2) := dn_58 (ob_cX2_insert_0 5 rfl rfl) rfl
theorem dX2_insert_7 : decode cX2_insert 7 = .ok (.iload_n 2, 1) := dn_28 (ob_cX2_insert_0 7 rfl rfl)
theorem dX2_insert_8 : decode cX2_insert 8 = .ok (.ifCond .lt 12, 3) := dn_155 (ob_cX2_insert_0 8 rfl rfl) (by decide +kernel)
theorem dX2_insert_11 : decode cX2_insert 11 = .ok (.iload_n 2, 1) := dn_28 (ob_cX2_insert_0 11 rfl rfl)
theorem dX2_insert_12 : decode cX2_insert 12 = .ok (.aload 4, 2) := dn_25 (ob_cX2_insert_0 12 rfl rfl) rfl
theorem dX2_insert_14 : decode cX2_insert 14 = .ok (.invokevirtual 24, 3) := dn_182 (ob_cX2_insert_0 14 rfl rfl) rfl
theorem dX2_insert_17 : decode cX2_insert 17 = .ok (.if_icmp .le 11, 3) := dn_164 (ob_cX2_insert_0 17 rfl rfl) (by decide +kernel)
theorem dX2_insert_20 : decode cX2_insert 20 = .ok (.new 47, 3) := dn_187 (ob_cX2_insert_0 20 rfl rfl) rfl
theorem dX2_insert_23 : decode cX2_insert 23 = .ok (.dup, 1) := dn_89 (ob_cX2_insert_0 23 rfl rfl)
theorem dX2_insert_24 : decode cX2_insert 24 = .ok (.invokespecial 49, 3) := dn_183 (ob_cX2_insert_0 24 rfl rfl) rfl
theorem dX2_insert_27 : decode cX2_insert 27 = .ok (.athrow, 1) := dn_191 (ob_cX2_insert_0 27 rfl rfl)
theorem dX2_insert_28 : decode cX2_insert 28 = .ok (.iload_n 3, 1) := dn_29 (ob_cX2_insert_0 28 rfl rfl)
theorem dX2_insert_29 : decode cX2_insert 29 = .ok (.invokestatic 20, 3) := dn_184 (ob_cX2_insert_0 29 rfl rfl) rfl
theorem dX2_insert_32 : decode cX2_insert 32 = .ok (.aload_n 0, 1) := dn_42 (ob_cX2_insert_0 32 rfl rfl)
theorem dX2_insert_33 : decode cX2_insert 33 = .ok (.aload 4, 2) := dn_25 (ob_cX2_insert_0 33 rfl rfl) rfl
theorem dX2_insert_35 : decode cX2_insert 35 = .ok (.iload_n 2, 1) := dn_28 (ob_cX2_insert_0 35 rfl rfl)
theorem dX2_insert_36 : decode cX2_insert 36 = .ok (.iload_n 3, 1) := dn_29 (ob_cX2_insert_0 36 rfl rfl)
theorem dX2_insert_37 : decode cX2_insert 37 = .ok (.invokevirtual 28, 3) := dn_182 (ob_cX2_insert_0 37 rfl rfl) rfl
theorem dX2_insert_40 : decode cX2_insert 40 = .ok (.ireturn, 1) := dn_172 (ob_cX2_insert_1 0 rfl rfl)
def kb_cX2_drop : List UInt8 := [42, 27, 182, 0, 16, 78, 45, 28, 184, 0, 32, 45, 28, 182, 0, 36, 54, 4, 45, 45, 182, 0, 50, 4, 28, 120, 2, 130, 126, 182, 0, 53, 87, 42, 21, 4, 182, 0, 44, 172]
set_option maxRecDepth 10000 in
theorem ob_cX2_drop (r : Nat) {l : List UInt8} (h : kb_cX2_drop.drop r = l) : (cX2_drop).data.toList.drop r = l := by
  rw [show (cX2_drop).data.toList = kb_cX2_drop from eqL_eq (by decide +kernel)]
  exact h
theorem dX2_drop_0 : decode cX2_drop 0 = .ok (.aload_n 0, 1) := dn_42 (ob_cX2_drop 0 rfl)
theorem dX2_drop_1 : decode cX2_drop 1 = .ok (.iload_n 1, 1) := dn_27 (ob_cX2_drop 1 rfl)
theorem dX2_drop_2 : decode cX2_drop 2 = .ok (.invokevirtual 16, 3) := dn_182 (ob_cX2_drop 2 rfl) rfl
theorem dX2_drop_5 : decode cX2_drop 5 = .ok (.astore_n 3, 1) := dn_78 (ob_cX2_drop 5 rfl)
theorem dX2_drop_6 : decode cX2_drop 6 = .ok (.aload_n 3, 1) := dn_45 (ob_cX2_drop 6 rfl)
theorem dX2_drop_7 : decode cX2_drop 7 = .ok (.iload_n 2, 1) := dn_28 (ob_cX2_drop 7 rfl)
theorem dX2_drop_8 : decode cX2_drop 8 = .ok (.invokestatic 32, 3) := dn_184 (ob_cX2_drop 8 rfl) rfl
theorem dX2_drop_11 : decode cX2_drop 11 = .ok (.aload_n 3, 1) := dn_45 (ob_cX2_drop 11 rfl)
theorem dX2_drop_12 : decode cX2_drop 12 = .ok (.iload_n 2, 1) := dn_28 (ob_cX2_drop 12 rfl)
theorem dX2_drop_13 : decode cX2_drop 13 = .ok (.invokevirtual 36, 3) := dn_182 (ob_cX2_drop 13 rfl) rfl
theorem dX2_drop_16 : decode cX2_drop 16 = .ok (.istore 4, 2) := dn_54 (ob_cX2_drop 16 rfl) rfl
theorem dX2_drop_18 : decode cX2_drop 18 = .ok (.aload_n 3, 1) := dn_45 (ob_cX2_drop 18 rfl)
theorem dX2_drop_19 : decode cX2_drop 19 = .ok (.aload_n 3, 1) := dn_45 (ob_cX2_drop 19 rfl)
theorem dX2_drop_20 : decode cX2_drop 20 = .ok (.invokevirtual 50, 3) := dn_182 (ob_cX2_drop 20 rfl) rfl
theorem dX2_drop_23 : decode cX2_drop 23 = .ok (.iconst 1, 1) := dn_4 (ob_cX2_drop 23 rfl)
theorem dX2_drop_24 : decode cX2_drop 24 = .ok (.iload_n 2, 1) := dn_28 (ob_cX2_drop 24 rfl)
theorem dX2_drop_25 : decode cX2_drop 25 = .ok (.ishl, 1) := dn_120 (ob_cX2_drop 25 rfl)
theorem dX2_drop_26 : decode cX2_drop 26 = .ok (.iconst (-1), 1) := dn_2 (ob_cX2_drop 26 rfl)
theorem dX2_drop_27 : decode cX2_drop 27 = .ok (.ixor, 1) := dn_130 (ob_cX2_drop 27 rfl)
theorem dX2_drop_28 : decode cX2_drop 28 = .ok (.iand, 1) := dn_126 (ob_cX2_drop 28 rfl)
theorem dX2_drop_29 : decode cX2_drop 29 = .ok (.invokevirtual 53, 3) := dn_182 (ob_cX2_drop 29 rfl) rfl
theorem dX2_drop_32 : decode cX2_drop 32 = .ok (.pop, 1) := dn_87 (ob_cX2_drop 32 rfl)
theorem dX2_drop_33 : decode cX2_drop 33 = .ok (.aload_n 0, 1) := dn_42 (ob_cX2_drop 33 rfl)
theorem dX2_drop_34 : decode cX2_drop 34 = .ok (.iload 4, 2) := dn_21 (ob_cX2_drop 34 rfl) rfl
theorem dX2_drop_36 : decode cX2_drop 36 = .ok (.invokevirtual 44, 3) := dn_182 (ob_cX2_drop 36 rfl) rfl
theorem dX2_drop_39 : decode cX2_drop 39 = .ok (.ireturn, 1) := dn_172 (ob_cX2_drop 39 rfl)
def kb_cX2_clear : List UInt8 := [42, 42, 27, 182, 0, 16, 3, 182, 0, 53, 182, 0, 44, 172]
set_option maxRecDepth 10000 in
theorem ob_cX2_clear (r : Nat) {l : List UInt8} (h : kb_cX2_clear.drop r = l) : (cX2_clear).data.toList.drop r = l := by
  rw [show (cX2_clear).data.toList = kb_cX2_clear from eqL_eq (by decide +kernel)]
  exact h
theorem dX2_clear_0 : decode cX2_clear 0 = .ok (.aload_n 0, 1) := dn_42 (ob_cX2_clear 0 rfl)
theorem dX2_clear_1 : decode cX2_clear 1 = .ok (.aload_n 0, 1) := dn_42 (ob_cX2_clear 1 rfl)
theorem dX2_clear_2 : decode cX2_clear 2 = .ok (.iload_n 1, 1) := dn_27 (ob_cX2_clear 2 rfl)
theorem dX2_clear_3 : decode cX2_clear 3 = .ok (.invokevirtual 16, 3) := dn_182 (ob_cX2_clear 3 rfl) rfl
theorem dX2_clear_6 : decode cX2_clear 6 = .ok (.iconst 0, 1) := dn_3 (ob_cX2_clear 6 rfl)
theorem dX2_clear_7 : decode cX2_clear 7 = .ok (.invokevirtual 53, 3) := dn_182 (ob_cX2_clear 7 rfl) rfl
theorem dX2_clear_10 : decode cX2_clear 10 = .ok (.invokevirtual 44, 3) := dn_182 (ob_cX2_clear 10 rfl) rfl
theorem dX2_clear_13 : decode cX2_clear 13 = .ok (.ireturn, 1) := dn_172 (ob_cX2_clear 13 rfl)
def kb_cX2_copy : List UInt8 := [42, 27, 182, 0, 16, 78, 42, 28, 182, 0, 16, 58, 4, 25, 4, 45, 3, 45, 182, 0, 24, 182, 0, 56, 42, 25, 4, 182, 0, 24, 182, 0, 44, 172]
set_option maxRecDepth 10000 in
theorem ob_cX2_copy (r : Nat) {l : List UInt8} (h : kb_cX2_copy.drop r = l) : (cX2_copy).data.toList.drop r = l := by
  rw [show (cX2_copy).data.toList = kb_cX2_copy from eqL_eq (by decide +kernel)]
  exact h
theorem dX2_copy_0 : decode cX2_copy 0 = .ok (.aload_n 0, 1) := dn_42 (ob_cX2_copy 0 rfl)
theorem dX2_copy_1 : decode cX2_copy 1 = .ok (.iload_n 1, 1) := dn_27 (ob_cX2_copy 1 rfl)
theorem dX2_copy_2 : decode cX2_copy 2 = .ok (.invokevirtual 16, 3) := dn_182 (ob_cX2_copy 2 rfl) rfl
theorem dX2_copy_5 : decode cX2_copy 5 = .ok (.astore_n 3, 1) := dn_78 (ob_cX2_copy 5 rfl)
theorem dX2_copy_6 : decode cX2_copy 6 = .ok (.aload_n 0, 1) := dn_42 (ob_cX2_copy 6 rfl)
theorem dX2_copy_7 : decode cX2_copy 7 = .ok (.iload_n 2, 1) := dn_28 (ob_cX2_copy 7 rfl)
theorem dX2_copy_8 : decode cX2_copy 8 = .ok (.invokevirtual 16, 3) := dn_182 (ob_cX2_copy 8 rfl) rfl
theorem dX2_copy_11 : decode cX2_copy 11 = .ok (.astore 4, 2) := dn_58 (ob_cX2_copy 11 rfl) rfl
theorem dX2_copy_13 : decode cX2_copy 13 = .ok (.aload 4, 2) := dn_25 (ob_cX2_copy 13 rfl) rfl
theorem dX2_copy_15 : decode cX2_copy 15 = .ok (.aload_n 3, 1) := dn_45 (ob_cX2_copy 15 rfl)
theorem dX2_copy_16 : decode cX2_copy 16 = .ok (.iconst 0, 1) := dn_3 (ob_cX2_copy 16 rfl)
theorem dX2_copy_17 : decode cX2_copy 17 = .ok (.aload_n 3, 1) := dn_45 (ob_cX2_copy 17 rfl)
theorem dX2_copy_18 : decode cX2_copy 18 = .ok (.invokevirtual 24, 3) := dn_182 (ob_cX2_copy 18 rfl) rfl
theorem dX2_copy_21 : decode cX2_copy 21 = .ok (.invokevirtual 56, 3) := dn_182 (ob_cX2_copy 21 rfl) rfl
theorem dX2_copy_24 : decode cX2_copy 24 = .ok (.aload_n 0, 1) := dn_42 (ob_cX2_copy 24 rfl)
theorem dX2_copy_25 : decode cX2_copy 25 = .ok (.aload 4, 2) := dn_25 (ob_cX2_copy 25 rfl) rfl
theorem dX2_copy_27 : decode cX2_copy 27 = .ok (.invokevirtual 24, 3) := dn_182 (ob_cX2_copy 27 rfl) rfl
theorem dX2_copy_30 : decode cX2_copy 30 = .ok (.invokevirtual 44, 3) := dn_182 (ob_cX2_copy 30 rfl) rfl
theorem dX2_copy_33 : decode cX2_copy 33 = .ok (.ireturn, 1) := dn_172 (ob_cX2_copy 33 rfl)
def kb_cX2_join_0 : List UInt8 := [42, 27, 182, 0, 16, 78, 42, 28, 182, 0, 16, 58, 4, 45, 182, 0, 24, 25, 4, 182, 0, 24, 96, 16, 30, 164, 0, 8, 42, 182, 0, 60, 172, 45, 25, 4, 182, 0, 63, 42]
def kb_cX2_join_1 : List UInt8 := [45, 182, 0, 24, 182, 0, 44, 172]
def tb_cX2_join_2 : List UInt8 := []
def tb_cX2_join_1 : List UInt8 := kb_cX2_join_1 ++ tb_cX2_join_2
def tb_cX2_join_0 : List UInt8 := kb_cX2_join_0 ++ tb_cX2_join_1
set_option maxRecDepth 100000 in
theorem tb_cX2_join : (cX2_join).data.toList = tb_cX2_join_0 := eqL_eq (by decide +kernel)
theorem ow_cX2_join_0 (r : Nat) : (cX2_join).data.toList.drop (0 + r) = tb_cX2_join_0.drop r := by rw [tb_cX2_join, Nat.zero_add]
theorem ow_cX2_join_1 (r : Nat) : (cX2_join).data.toList.drop (40 + r) = tb_cX2_join_1.drop r := by
  have e := ow_cX2_join_0 (40 + r)
  rw [show 0 + (40 + r) = 40 + r by omega] at e
  exact e.trans (dr_len (a := kb_cX2_join_0) (t := tb_cX2_join_1) (by decide +kernel))
theorem ob_cX2_join_0 (r : Nat) {pc : Nat} {l : List UInt8} (hp : 0 + r = pc) (h : tb_cX2_join_0.drop r = l) : (cX2_join).data.toList.drop pc = l := by
  subst hp
  exact (ow_cX2_join_0 r).trans h
theorem ob_cX2_join_1 (r : Nat) {pc : Nat} {l : List UInt8} (hp : 40 + r = pc) (h : tb_cX2_join_1.drop r = l) : (cX2_join).data.toList.drop pc = l := by
  subst hp
  exact (ow_cX2_join_1 r).trans h
theorem dX2_join_0 : decode cX2_join 0 = .ok (.aload_n 0, 1) := dn_42 (ob_cX2_join_0 0 rfl rfl)
theorem dX2_join_1 : decode cX2_join 1 = .ok (.iload_n 1, 1) := dn_27 (ob_cX2_join_0 1 rfl rfl)
theorem dX2_join_2 : decode cX2_join 2 = .ok (.invokevirtual 16, 3) := dn_182 (ob_cX2_join_0 2 rfl rfl) rfl
theorem dX2_join_5 : decode cX2_join 5 = .ok (.astore_n 3, 1) := dn_78 (ob_cX2_join_0 5 rfl rfl)
theorem dX2_join_6 : decode cX2_join 6 = .ok (.aload_n 0, 1) := dn_42 (ob_cX2_join_0 6 rfl rfl)
theorem dX2_join_7 : decode cX2_join 7 = .ok (.iload_n 2, 1) := dn_28 (ob_cX2_join_0 7 rfl rfl)
theorem dX2_join_8 : decode cX2_join 8 = .ok (.invokevirtual 16, 3) := dn_182 (ob_cX2_join_0 8 rfl rfl) rfl
theorem dX2_join_11 : decode cX2_join 11 = .ok (.astore 4, 2) := dn_58 (ob_cX2_join_0 11 rfl rfl) rfl
theorem dX2_join_13 : decode cX2_join 13 = .ok (.aload_n 3, 1) := dn_45 (ob_cX2_join_0 13 rfl rfl)
theorem dX2_join_14 : decode cX2_join 14 = .ok (.invokevirtual 24, 3) := dn_182 (ob_cX2_join_0 14 rfl rfl) rfl
theorem dX2_join_17 : decode cX2_join 17 = .ok (.aload 4, 2) := dn_25 (ob_cX2_join_0 17 rfl rfl) rfl
theorem dX2_join_19 : decode cX2_join 19 = .ok (.invokevirtual 24, 3) := dn_182 (ob_cX2_join_0 19 rfl rfl) rfl
theorem dX2_join_22 : decode cX2_join 22 = .ok (.iadd, 1) := dn_96 (ob_cX2_join_0 22 rfl rfl)
theorem dX2_join_23 : decode cX2_join 23 = .ok (.bipush 30, 2) := dn_16 (ob_cX2_join_0 23 rfl rfl) (by decide +kernel)
theorem dX2_join_25 : decode cX2_join 25 = .ok (.if_icmp .le 8, 3) := dn_164 (ob_cX2_join_0 25 rfl rfl) (by decide +kernel)
theorem dX2_join_28 : decode cX2_join 28 = .ok (.aload_n 0, 1) := dn_42 (ob_cX2_join_0 28 rfl rfl)
theorem dX2_join_29 : decode cX2_join 29 = .ok (.invokevirtual 60, 3) := dn_182 (ob_cX2_join_0 29 rfl rfl) rfl
theorem dX2_join_32 : decode cX2_join 32 = .ok (.ireturn, 1) := dn_172 (ob_cX2_join_0 32 rfl rfl)
theorem dX2_join_33 : decode cX2_join 33 = .ok (.aload_n 3, 1) := dn_45 (ob_cX2_join_0 33 rfl rfl)
theorem dX2_join_34 : decode cX2_join 34 = .ok (.aload 4, 2) := dn_25 (ob_cX2_join_0 34 rfl rfl) rfl
theorem dX2_join_36 : decode cX2_join 36 = .ok (.invokevirtual 63, 3) := dn_182 (ob_cX2_join_0 36 rfl rfl) rfl
theorem dX2_join_39 : decode cX2_join 39 = .ok (.aload_n 0, 1) := dn_42 (ob_cX2_join_0 39 rfl rfl)
theorem dX2_join_40 : decode cX2_join 40 = .ok (.aload_n 3, 1) := dn_45 (ob_cX2_join_1 0 rfl rfl)
theorem dX2_join_41 : decode cX2_join 41 = .ok (.invokevirtual 24, 3) := dn_182 (ob_cX2_join_1 1 rfl rfl) rfl
theorem dX2_join_44 : decode cX2_join 44 = .ok (.invokevirtual 44, 3) := dn_182 (ob_cX2_join_1 4 rfl rfl) rfl
theorem dX2_join_47 : decode cX2_join 47 = .ok (.ireturn, 1) := dn_172 (ob_cX2_join_1 7 rfl rfl)
def kb_cX2_turn : List UInt8 := [42, 42, 27, 182, 0, 16, 182, 0, 67, 153, 0, 7, 4, 167, 0, 4, 3, 182, 0, 44, 172]
set_option maxRecDepth 10000 in
theorem ob_cX2_turn (r : Nat) {l : List UInt8} (h : kb_cX2_turn.drop r = l) : (cX2_turn).data.toList.drop r = l := by
  rw [show (cX2_turn).data.toList = kb_cX2_turn from eqL_eq (by decide +kernel)]
  exact h
theorem dX2_turn_0 : decode cX2_turn 0 = .ok (.aload_n 0, 1) := dn_42 (ob_cX2_turn 0 rfl)
theorem dX2_turn_1 : decode cX2_turn 1 = .ok (.aload_n 0, 1) := dn_42 (ob_cX2_turn 1 rfl)
theorem dX2_turn_2 : decode cX2_turn 2 = .ok (.iload_n 1, 1) := dn_27 (ob_cX2_turn 2 rfl)
theorem dX2_turn_3 : decode cX2_turn 3 = .ok (.invokevirtual 16, 3) := dn_182 (ob_cX2_turn 3 rfl) rfl
theorem dX2_turn_6 : decode cX2_turn 6 = .ok (.invokevirtual 67, 3) := dn_182 (ob_cX2_turn 6 rfl) rfl
theorem dX2_turn_9 : decode cX2_turn 9 = .ok (.ifCond .eq 7, 3) := dn_153 (ob_cX2_turn 9 rfl) (by decide +kernel)
theorem dX2_turn_12 : decode cX2_turn 12 = .ok (.iconst 1, 1) := dn_4 (ob_cX2_turn 12 rfl)
theorem dX2_turn_13 : decode cX2_turn 13 = .ok (.goto 4, 3) := dn_167 (ob_cX2_turn 13 rfl) (by decide +kernel)
theorem dX2_turn_16 : decode cX2_turn 16 = .ok (.iconst 0, 1) := dn_3 (ob_cX2_turn 16 rfl)
theorem dX2_turn_17 : decode cX2_turn 17 = .ok (.invokevirtual 44, 3) := dn_182 (ob_cX2_turn 17 rfl) rfl
theorem dX2_turn_20 : decode cX2_turn 20 = .ok (.ireturn, 1) := dn_172 (ob_cX2_turn 20 rfl)
def kb_cX2_fill_0 : List UInt8 := [42, 27, 182, 0, 16, 58, 4, 28, 184, 0, 20, 29, 155, 0, 18, 29, 16, 30, 163, 0, 12, 28, 29, 96, 17, 1, 0, 164, 0, 11, 187, 0, 71, 89, 183, 0, 73, 191, 25, 4]
def kb_cX2_fill_1 : List UInt8 := [3, 182, 0, 53, 54, 5, 3, 54, 6, 21, 6, 29, 162, 0, 20, 25, 4, 21, 6, 28, 21, 6, 96, 182, 0, 74, 132, 6, 1, 167, 255, 236, 42, 21, 5, 182, 0, 44, 172]
def tb_cX2_fill_2 : List UInt8 := []
def tb_cX2_fill_1 : List UInt8 := kb_cX2_fill_1 ++ tb_cX2_fill_2
def tb_cX2_fill_0 : List UInt8 := kb_cX2_fill_0 ++ tb_cX2_fill_1
set_option maxRecDepth 100000 in
theorem tb_cX2_fill : (cX2_fill).data.toList = tb_cX2_fill_0 := eqL_eq (by decide +kernel)
theorem ow_cX2_fill_0 (r : Nat) : (cX2_fill).data.toList.drop (0 + r) = tb_cX2_fill_0.drop r := by rw [tb_cX2_fill, Nat.zero_add]
theorem ow_cX2_fill_1 (r : Nat) : (cX2_fill).data.toList.drop (40 + r) = tb_cX2_fill_1.drop r := by
  have e := ow_cX2_fill_0 (40 + r)
  rw [show 0 + (40 + r) = 40 + r by omega] at e
  exact e.trans (dr_len (a := kb_cX2_fill_0) (t := tb_cX2_fill_1) (by decide +kernel))
theorem ob_cX2_fill_0 (r : Nat) {pc : Nat} {l : List UInt8} (hp : 0 + r = pc) (h : tb_cX2_fill_0.drop r = l) : (cX2_fill).data.toList.drop pc = l := by
  subst hp
  exact (ow_cX2_fill_0 r).trans h
theorem ob_cX2_fill_1 (r : Nat) {pc : Nat} {l : List UInt8} (hp : 40 + r = pc) (h : tb_cX2_fill_1.drop r = l) : (cX2_fill).data.toList.drop pc = l := by
  subst hp
  exact (ow_cX2_fill_1 r).trans h
theorem dX2_fill_0 : decode cX2_fill 0 = .ok (.aload_n 0, 1) := dn_42 (ob_cX2_fill_0 0 rfl rfl)
theorem dX2_fill_1 : decode cX2_fill 1 = .ok (.iload_n 1, 1) := dn_27 (ob_cX2_fill_0 1 rfl rfl)
theorem dX2_fill_2 : decode cX2_fill 2 = .ok (.invokevirtual 16, 3) := dn_182 (ob_cX2_fill_0 2 rfl rfl) rfl
theorem dX2_fill_5 : decode cX2_fill 5 = .ok (.astore 4, 2) := dn_58 (ob_cX2_fill_0 5 rfl rfl) rfl
theorem dX2_fill_7 : decode cX2_fill 7 = .ok (.iload_n 2, 1) := dn_28 (ob_cX2_fill_0 7 rfl rfl)
theorem dX2_fill_8 : decode cX2_fill 8 = .ok (.invokestatic 20, 3) := dn_184 (ob_cX2_fill_0 8 rfl rfl) rfl
theorem dX2_fill_11 : decode cX2_fill 11 = .ok (.iload_n 3, 1) := dn_29 (ob_cX2_fill_0 11 rfl rfl)
theorem dX2_fill_12 : decode cX2_fill 12 = .ok (.ifCond .lt 18, 3) := dn_155 (ob_cX2_fill_0 12 rfl rfl) (by decide +kernel)
theorem dX2_fill_15 : decode cX2_fill 15 = .ok (.iload_n 3, 1) := dn_29 (ob_cX2_fill_0 15 rfl rfl)
theorem dX2_fill_16 : decode cX2_fill 16 = .ok (.bipush 30, 2) := dn_16 (ob_cX2_fill_0 16 rfl rfl) (by decide +kernel)
theorem dX2_fill_18 : decode cX2_fill 18 = .ok (.if_icmp .gt 12, 3) := dn_163 (ob_cX2_fill_0 18 rfl rfl) (by decide +kernel)
theorem dX2_fill_21 : decode cX2_fill 21 = .ok (.iload_n 2, 1) := dn_28 (ob_cX2_fill_0 21 rfl rfl)
theorem dX2_fill_22 : decode cX2_fill 22 = .ok (.iload_n 3, 1) := dn_29 (ob_cX2_fill_0 22 rfl rfl)
theorem dX2_fill_23 : decode cX2_fill 23 = .ok (.iadd, 1) := dn_96 (ob_cX2_fill_0 23 rfl rfl)
theorem dX2_fill_24 : decode cX2_fill 24 = .ok (.sipush 256, 3) := dn_17 (ob_cX2_fill_0 24 rfl rfl) (by decide +kernel)
theorem dX2_fill_27 : decode cX2_fill 27 = .ok (.if_icmp .le 11, 3) := dn_164 (ob_cX2_fill_0 27 rfl rfl) (by decide +kernel)
theorem dX2_fill_30 : decode cX2_fill 30 = .ok (.new 71, 3) := dn_187 (ob_cX2_fill_0 30 rfl rfl) rfl
theorem dX2_fill_33 : decode cX2_fill 33 = .ok (.dup, 1) := dn_89 (ob_cX2_fill_0 33 rfl rfl)
theorem dX2_fill_34 : decode cX2_fill 34 = .ok (.invokespecial 73, 3) := dn_183 (ob_cX2_fill_0 34 rfl rfl) rfl
theorem dX2_fill_37 : decode cX2_fill 37 = .ok (.athrow, 1) := dn_191 (ob_cX2_fill_0 37 rfl rfl)
theorem dX2_fill_38 : decode cX2_fill 38 = .ok (.aload 4, 2) := dn_25 (ob_cX2_fill_0 38 rfl rfl) rfl
theorem dX2_fill_40 : decode cX2_fill 40 = .ok (.iconst 0, 1) := dn_3 (ob_cX2_fill_1 0 rfl rfl)
theorem dX2_fill_41 : decode cX2_fill 41 = .ok (.invokevirtual 53, 3) := dn_182 (ob_cX2_fill_1 1 rfl rfl) rfl
theorem dX2_fill_44 : decode cX2_fill 44 = .ok (.istore 5, 2) := dn_54 (ob_cX2_fill_1 4 rfl rfl) rfl
theorem dX2_fill_46 : decode cX2_fill 46 = .ok (.iconst 0, 1) := dn_3 (ob_cX2_fill_1 6 rfl rfl)
theorem dX2_fill_47 : decode cX2_fill 47 = .ok (.istore 6, 2) := dn_54 (ob_cX2_fill_1 7 rfl rfl) rfl
theorem dX2_fill_49 : decode cX2_fill 49 = .ok (.iload 6, 2) := dn_21 (ob_cX2_fill_1 9 rfl rfl) rfl
theorem dX2_fill_51 : decode cX2_fill 51 = .ok (.iload_n 3, 1) := dn_29 (ob_cX2_fill_1 11 rfl rfl)
theorem dX2_fill_52 : decode cX2_fill 52 = .ok (.if_icmp .ge 20, 3) := dn_162 (ob_cX2_fill_1 12 rfl rfl) (by decide +kernel)
theorem dX2_fill_55 : decode cX2_fill 55 = .ok (.aload 4, 2) := dn_25 (ob_cX2_fill_1 15 rfl rfl) rfl
theorem dX2_fill_57 : decode cX2_fill 57 = .ok (.iload 6, 2) := dn_21 (ob_cX2_fill_1 17 rfl rfl) rfl
theorem dX2_fill_59 : decode cX2_fill 59 = .ok (.iload_n 2, 1) := dn_28 (ob_cX2_fill_1 19 rfl rfl)
theorem dX2_fill_60 : decode cX2_fill 60 = .ok (.iload 6, 2) := dn_21 (ob_cX2_fill_1 20 rfl rfl) rfl
theorem dX2_fill_62 : decode cX2_fill 62 = .ok (.iadd, 1) := dn_96 (ob_cX2_fill_1 22 rfl rfl)
theorem dX2_fill_63 : decode cX2_fill 63 = .ok (.invokevirtual 74, 3) := dn_182 (ob_cX2_fill_1 23 rfl rfl) rfl
theorem dX2_fill_66 : decode cX2_fill 66 = .ok (.iinc 6 1, 3) := dn_132 (ob_cX2_fill_1 26 rfl rfl) rfl (by decide +kernel)
theorem dX2_fill_69 : decode cX2_fill 69 = .ok (.goto (-20), 3) := dn_167 (ob_cX2_fill_1 29 rfl rfl) (by decide +kernel)
theorem dX2_fill_72 : decode cX2_fill 72 = .ok (.aload_n 0, 1) := dn_42 (ob_cX2_fill_1 32 rfl rfl)
theorem dX2_fill_73 : decode cX2_fill 73 = .ok (.iload 5, 2) := dn_21 (ob_cX2_fill_1 33 rfl rfl) rfl
theorem dX2_fill_75 : decode cX2_fill 75 = .ok (.invokevirtual 44, 3) := dn_182 (ob_cX2_fill_1 35 rfl rfl) rfl
theorem dX2_fill_78 : decode cX2_fill 78 = .ok (.ireturn, 1) := dn_172 (ob_cX2_fill_1 38 rfl rfl)
def kb_cX2_cut_0 : List UInt8 := [42, 27, 182, 0, 16, 58, 4, 28, 155, 0, 17, 28, 29, 163, 0, 12, 29, 25, 4, 182, 0, 24, 164, 0, 11, 187, 0, 47, 89, 183, 0, 49, 191, 25, 4, 25, 4, 28, 29, 182, 0, 56]
def kb_cX2_cut_1 : List UInt8 := [42, 25, 4, 182, 0, 24, 182, 0, 44, 172]
def tb_cX2_cut_2 : List UInt8 := []
def tb_cX2_cut_1 : List UInt8 := kb_cX2_cut_1 ++ tb_cX2_cut_2
def tb_cX2_cut_0 : List UInt8 := kb_cX2_cut_0 ++ tb_cX2_cut_1
set_option maxRecDepth 100000 in
theorem tb_cX2_cut : (cX2_cut).data.toList = tb_cX2_cut_0 := eqL_eq (by decide +kernel)
theorem ow_cX2_cut_0 (r : Nat) : (cX2_cut).data.toList.drop (0 + r) = tb_cX2_cut_0.drop r := by rw [tb_cX2_cut, Nat.zero_add]
theorem ow_cX2_cut_1 (r : Nat) : (cX2_cut).data.toList.drop (42 + r) = tb_cX2_cut_1.drop r := by
  have e := ow_cX2_cut_0 (42 + r)
  rw [show 0 + (42 + r) = 42 + r by omega] at e
  exact e.trans (dr_len (a := kb_cX2_cut_0) (t := tb_cX2_cut_1) (by decide +kernel))
theorem ob_cX2_cut_0 (r : Nat) {pc : Nat} {l : List UInt8} (hp : 0 + r = pc) (h : tb_cX2_cut_0.drop r = l) : (cX2_cut).data.toList.drop pc = l := by
  subst hp
  exact (ow_cX2_cut_0 r).trans h
theorem ob_cX2_cut_1 (r : Nat) {pc : Nat} {l : List UInt8} (hp : 42 + r = pc) (h : tb_cX2_cut_1.drop r = l) : (cX2_cut).data.toList.drop pc = l := by
  subst hp
  exact (ow_cX2_cut_1 r).trans h
theorem dX2_cut_0 : decode cX2_cut 0 = .ok (.aload_n 0, 1) := dn_42 (ob_cX2_cut_0 0 rfl rfl)
theorem dX2_cut_1 : decode cX2_cut 1 = .ok (.iload_n 1, 1) := dn_27 (ob_cX2_cut_0 1 rfl rfl)
theorem dX2_cut_2 : decode cX2_cut 2 = .ok (.invokevirtual 16, 3) := dn_182 (ob_cX2_cut_0 2 rfl rfl) rfl
theorem dX2_cut_5 : decode cX2_cut 5 = .ok (.astore 4, 2) := dn_58 (ob_cX2_cut_0 5 rfl rfl) rfl
theorem dX2_cut_7 : decode cX2_cut 7 = .ok (.iload_n 2, 1) := dn_28 (ob_cX2_cut_0 7 rfl rfl)
theorem dX2_cut_8 : decode cX2_cut 8 = .ok (.ifCond .lt 17, 3) := dn_155 (ob_cX2_cut_0 8 rfl rfl) (by decide +kernel)
theorem dX2_cut_11 : decode cX2_cut 11 = .ok (.iload_n 2, 1) := dn_28 (ob_cX2_cut_0 11 rfl rfl)
theorem dX2_cut_12 : decode cX2_cut 12 = .ok (.iload_n 3, 1) := dn_29 (ob_cX2_cut_0 12 rfl rfl)
theorem dX2_cut_13 : decode cX2_cut 13 = .ok (.if_icmp .gt 12, 3) := dn_163 (ob_cX2_cut_0 13 rfl rfl) (by decide +kernel)
theorem dX2_cut_16 : decode cX2_cut 16 = .ok (.iload_n 3, 1) := dn_29 (ob_cX2_cut_0 16 rfl rfl)
theorem dX2_cut_17 : decode cX2_cut 17 = .ok (.aload 4, 2) := dn_25 (ob_cX2_cut_0 17 rfl rfl) rfl
theorem dX2_cut_19 : decode cX2_cut 19 = .ok (.invokevirtual 24, 3) := dn_182 (ob_cX2_cut_0 19 rfl rfl) rfl
theorem dX2_cut_22 : decode cX2_cut 22 = .ok (.if_icmp .le 11, 3) := dn_164 (ob_cX2_cut_0 22 rfl rfl) (by decide +kernel)
theorem dX2_cut_25 : decode cX2_cut 25 = .ok (.new 47, 3) := dn_187 (ob_cX2_cut_0 25 rfl rfl) rfl
theorem dX2_cut_28 : decode cX2_cut 28 = .ok (.dup, 1) := dn_89 (ob_cX2_cut_0 28 rfl rfl)
theorem dX2_cut_29 : decode cX2_cut 29 = .ok (.invokespecial 49, 3) := dn_183 (ob_cX2_cut_0 29 rfl rfl) rfl
theorem dX2_cut_32 : decode cX2_cut 32 = .ok (.athrow, 1) := dn_191 (ob_cX2_cut_0 32 rfl rfl)
theorem dX2_cut_33 : decode cX2_cut 33 = .ok (.aload 4, 2) := dn_25 (ob_cX2_cut_0 33 rfl rfl) rfl
theorem dX2_cut_35 : decode cX2_cut 35 = .ok (.aload 4, 2) := dn_25 (ob_cX2_cut_0 35 rfl rfl) rfl
theorem dX2_cut_37 : decode cX2_cut 37 = .ok (.iload_n 2, 1) := dn_28 (ob_cX2_cut_0 37 rfl rfl)
theorem dX2_cut_38 : decode cX2_cut 38 = .ok (.iload_n 3, 1) := dn_29 (ob_cX2_cut_0 38 rfl rfl)
theorem dX2_cut_39 : decode cX2_cut 39 = .ok (.invokevirtual 56, 3) := dn_182 (ob_cX2_cut_0 39 rfl rfl) rfl
theorem dX2_cut_42 : decode cX2_cut 42 = .ok (.aload_n 0, 1) := dn_42 (ob_cX2_cut_1 0 rfl rfl)
theorem dX2_cut_43 : decode cX2_cut 43 = .ok (.aload 4, 2) := dn_25 (ob_cX2_cut_1 1 rfl rfl) rfl
theorem dX2_cut_45 : decode cX2_cut 45 = .ok (.invokevirtual 24, 3) := dn_182 (ob_cX2_cut_1 3 rfl rfl) rfl
theorem dX2_cut_48 : decode cX2_cut 48 = .ok (.invokevirtual 44, 3) := dn_182 (ob_cX2_cut_1 6 rfl rfl) rfl
theorem dX2_cut_51 : decode cX2_cut 51 = .ok (.ireturn, 1) := dn_172 (ob_cX2_cut_1 9 rfl rfl)
def kb_cX2_keep : List UInt8 := [42, 27, 182, 0, 16, 58, 4, 28, 184, 0, 77, 42, 25, 4, 25, 4, 28, 182, 0, 80, 29, 184, 0, 83, 182, 0, 44, 172]
set_option maxRecDepth 10000 in
theorem ob_cX2_keep (r : Nat) {l : List UInt8} (h : kb_cX2_keep.drop r = l) : (cX2_keep).data.toList.drop r = l := by
  rw [show (cX2_keep).data.toList = kb_cX2_keep from eqL_eq (by decide +kernel)]
  exact h
theorem dX2_keep_0 : decode cX2_keep 0 = .ok (.aload_n 0, 1) := dn_42 (ob_cX2_keep 0 rfl)
theorem dX2_keep_1 : decode cX2_keep 1 = .ok (.iload_n 1, 1) := dn_27 (ob_cX2_keep 1 rfl)
theorem dX2_keep_2 : decode cX2_keep 2 = .ok (.invokevirtual 16, 3) := dn_182 (ob_cX2_keep 2 rfl) rfl
theorem dX2_keep_5 : decode cX2_keep 5 = .ok (.astore 4, 2) := dn_58 (ob_cX2_keep 5 rfl) rfl
theorem dX2_keep_7 : decode cX2_keep 7 = .ok (.iload_n 2, 1) := dn_28 (ob_cX2_keep 7 rfl)
theorem dX2_keep_8 : decode cX2_keep 8 = .ok (.invokestatic 77, 3) := dn_184 (ob_cX2_keep 8 rfl) rfl
theorem dX2_keep_11 : decode cX2_keep 11 = .ok (.aload_n 0, 1) := dn_42 (ob_cX2_keep 11 rfl)
theorem dX2_keep_12 : decode cX2_keep 12 = .ok (.aload 4, 2) := dn_25 (ob_cX2_keep 12 rfl) rfl
theorem dX2_keep_14 : decode cX2_keep 14 = .ok (.aload 4, 2) := dn_25 (ob_cX2_keep 14 rfl) rfl
theorem dX2_keep_16 : decode cX2_keep 16 = .ok (.iload_n 2, 1) := dn_28 (ob_cX2_keep 16 rfl)
theorem dX2_keep_17 : decode cX2_keep 17 = .ok (.invokevirtual 80, 3) := dn_182 (ob_cX2_keep 17 rfl) rfl
theorem dX2_keep_20 : decode cX2_keep 20 = .ok (.iload_n 3, 1) := dn_29 (ob_cX2_keep 20 rfl)
theorem dX2_keep_21 : decode cX2_keep 21 = .ok (.invokestatic 83, 3) := dn_184 (ob_cX2_keep 21 rfl) rfl
theorem dX2_keep_24 : decode cX2_keep 24 = .ok (.invokevirtual 44, 3) := dn_182 (ob_cX2_keep 24 rfl) rfl
theorem dX2_keep_27 : decode cX2_keep 27 = .ok (.ireturn, 1) := dn_172 (ob_cX2_keep 27 rfl)
def kb_cX2_keepKind : List UInt8 := [42, 27, 182, 0, 16, 58, 4, 28, 184, 0, 87, 42, 25, 4, 25, 4, 28, 182, 0, 90, 29, 184, 0, 83, 182, 0, 44, 172]
set_option maxRecDepth 10000 in
theorem ob_cX2_keepKind (r : Nat) {l : List UInt8} (h : kb_cX2_keepKind.drop r = l) : (cX2_keepKind).data.toList.drop r = l := by
  rw [show (cX2_keepKind).data.toList = kb_cX2_keepKind from eqL_eq (by decide +kernel)]
  exact h
theorem dX2_keepKind_0 : decode cX2_keepKind 0 = .ok (.aload_n 0, 1) := dn_42 (ob_cX2_keepKind 0 rfl)
theorem dX2_keepKind_1 : decode cX2_keepKind 1 = .ok (.iload_n 1, 1) := dn_27 (ob_cX2_keepKind 1 rfl)
theorem dX2_keepKind_2 : decode cX2_keepKind 2 = .ok (.invokevirtual 16, 3) := dn_182 (ob_cX2_keepKind 2 rfl) rfl
theorem dX2_keepKind_5 : decode cX2_keepKind 5 = .ok (.astore 4, 2) := dn_58 (ob_cX2_keepKind 5 rfl) rfl
theorem dX2_keepKind_7 : decode cX2_keepKind 7 = .ok (.iload_n 2, 1) := dn_28 (ob_cX2_keepKind 7 rfl)
theorem dX2_keepKind_8 : decode cX2_keepKind 8 = .ok (.invokestatic 87, 3) := dn_184 (ob_cX2_keepKind 8 rfl) rfl
theorem dX2_keepKind_11 : decode cX2_keepKind 11 = .ok (.aload_n 0, 1) := dn_42 (ob_cX2_keepKind 11 rfl)
theorem dX2_keepKind_12 : decode cX2_keepKind 12 = .ok (.aload 4, 2) := dn_25 (ob_cX2_keepKind 12 rfl) rfl
theorem dX2_keepKind_14 : decode cX2_keepKind 14 = .ok (.aload 4, 2) := dn_25 (ob_cX2_keepKind 14 rfl) rfl
theorem dX2_keepKind_16 : decode cX2_keepKind 16 = .ok (.iload_n 2, 1) := dn_28 (ob_cX2_keepKind 16 rfl)
theorem dX2_keepKind_17 : decode cX2_keepKind 17 = .ok (.invokevirtual 90, 3) := dn_182 (ob_cX2_keepKind 17 rfl) rfl
theorem dX2_keepKind_20 : decode cX2_keepKind 20 = .ok (.iload_n 3, 1) := dn_29 (ob_cX2_keepKind 20 rfl)
theorem dX2_keepKind_21 : decode cX2_keepKind 21 = .ok (.invokestatic 83, 3) := dn_184 (ob_cX2_keepKind 21 rfl) rfl
theorem dX2_keepKind_24 : decode cX2_keepKind 24 = .ok (.invokevirtual 44, 3) := dn_182 (ob_cX2_keepKind 24 rfl) rfl
theorem dX2_keepKind_27 : decode cX2_keepKind 27 = .ok (.ireturn, 1) := dn_172 (ob_cX2_keepKind 27 rfl)
def kb_cX2_take_0 : List UInt8 := [42, 27, 182, 0, 16, 58, 4, 42, 29, 182, 0, 16, 58, 5, 25, 4, 28, 184, 0, 93, 54, 6, 25, 5, 25, 4, 21, 6, 21, 6, 25, 4, 21, 6, 182, 0, 97, 96, 182, 0, 56]
def kb_cX2_take_1 : List UInt8 := [42, 25, 5, 182, 0, 24, 182, 0, 44, 172]
def tb_cX2_take_2 : List UInt8 := []
def tb_cX2_take_1 : List UInt8 := kb_cX2_take_1 ++ tb_cX2_take_2
def tb_cX2_take_0 : List UInt8 := kb_cX2_take_0 ++ tb_cX2_take_1
set_option maxRecDepth 100000 in
theorem tb_cX2_take : (cX2_take).data.toList = tb_cX2_take_0 := eqL_eq (by decide +kernel)
theorem ow_cX2_take_0 (r : Nat) : (cX2_take).data.toList.drop (0 + r) = tb_cX2_take_0.drop r := by rw [tb_cX2_take, Nat.zero_add]
theorem ow_cX2_take_1 (r : Nat) : (cX2_take).data.toList.drop (41 + r) = tb_cX2_take_1.drop r := by
  have e := ow_cX2_take_0 (41 + r)
  rw [show 0 + (41 + r) = 41 + r by omega] at e
  exact e.trans (dr_len (a := kb_cX2_take_0) (t := tb_cX2_take_1) (by decide +kernel))
theorem ob_cX2_take_0 (r : Nat) {pc : Nat} {l : List UInt8} (hp : 0 + r = pc) (h : tb_cX2_take_0.drop r = l) : (cX2_take).data.toList.drop pc = l := by
  subst hp
  exact (ow_cX2_take_0 r).trans h
theorem ob_cX2_take_1 (r : Nat) {pc : Nat} {l : List UInt8} (hp : 41 + r = pc) (h : tb_cX2_take_1.drop r = l) : (cX2_take).data.toList.drop pc = l := by
  subst hp
  exact (ow_cX2_take_1 r).trans h
theorem dX2_take_0 : decode cX2_take 0 = .ok (.aload_n 0, 1) := dn_42 (ob_cX2_take_0 0 rfl rfl)
theorem dX2_take_1 : decode cX2_take 1 = .ok (.iload_n 1, 1) := dn_27 (ob_cX2_take_0 1 rfl rfl)
theorem dX2_take_2 : decode cX2_take 2 = .ok (.invokevirtual 16, 3) := dn_182 (ob_cX2_take_0 2 rfl rfl) rfl
theorem dX2_take_5 : decode cX2_take 5 = .ok (.astore 4, 2) := dn_58 (ob_cX2_take_0 5 rfl rfl) rfl
theorem dX2_take_7 : decode cX2_take 7 = .ok (.aload_n 0, 1) := dn_42 (ob_cX2_take_0 7 rfl rfl)
theorem dX2_take_8 : decode cX2_take 8 = .ok (.iload_n 3, 1) := dn_29 (ob_cX2_take_0 8 rfl rfl)
theorem dX2_take_9 : decode cX2_take 9 = .ok (.invokevirtual 16, 3) := dn_182 (ob_cX2_take_0 9 rfl rfl) rfl
theorem dX2_take_12 : decode cX2_take 12 = .ok (.astore 5, 2) := dn_58 (ob_cX2_take_0 12 rfl rfl) rfl
theorem dX2_take_14 : decode cX2_take 14 = .ok (.aload 4, 2) := dn_25 (ob_cX2_take_0 14 rfl rfl) rfl
theorem dX2_take_16 : decode cX2_take 16 = .ok (.iload_n 2, 1) := dn_28 (ob_cX2_take_0 16 rfl rfl)
theorem dX2_take_17 : decode cX2_take 17 = .ok (.invokestatic 93, 3) := dn_184 (ob_cX2_take_0 17 rfl rfl) rfl
theorem dX2_take_20 : decode cX2_take 20 = .ok (.istore 6, 2) := dn_54 (ob_cX2_take_0 20 rfl rfl) rfl
theorem dX2_take_22 : decode cX2_take 22 = .ok (.aload 5, 2) := dn_25 (ob_cX2_take_0 22 rfl rfl) rfl
theorem dX2_take_24 : decode cX2_take 24 = .ok (.aload 4, 2) := dn_25 (ob_cX2_take_0 24 rfl rfl) rfl
theorem dX2_take_26 : decode cX2_take 26 = .ok (.iload 6, 2) := dn_21 (ob_cX2_take_0 26 rfl rfl) rfl
theorem dX2_take_28 : decode cX2_take 28 = .ok (.iload 6, 2) := dn_21 (ob_cX2_take_0 28 rfl rfl) rfl
theorem dX2_take_30 : decode cX2_take 30 = .ok (.aload 4, 2) := dn_25 (ob_cX2_take_0 30 rfl rfl) rfl
theorem dX2_take_32 : decode cX2_take 32 = .ok (.iload 6, 2) := dn_21 (ob_cX2_take_0 32 rfl rfl) rfl
theorem dX2_take_34 : decode cX2_take 34 = .ok (.invokevirtual 97, 3) := dn_182 (ob_cX2_take_0 34 rfl rfl) rfl
theorem dX2_take_37 : decode cX2_take 37 = .ok (.iadd, 1) := dn_96 (ob_cX2_take_0 37 rfl rfl)
theorem dX2_take_38 : decode cX2_take 38 = .ok (.invokevirtual 56, 3) := dn_182 (ob_cX2_take_0 38 rfl rfl) rfl
theorem dX2_take_41 : decode cX2_take 41 = .ok (.aload_n 0, 1) := dn_42 (ob_cX2_take_1 0 rfl rfl)
theorem dX2_take_42 : decode cX2_take 42 = .ok (.aload 5, 2) := dn_25 (ob_cX2_take_1 1 rfl rfl) rfl
theorem dX2_take_44 : decode cX2_take 44 = .ok (.invokevirtual 24, 3) := dn_182 (ob_cX2_take_1 3 rfl rfl) rfl
theorem dX2_take_47 : decode cX2_take 47 = .ok (.invokevirtual 44, 3) := dn_182 (ob_cX2_take_1 6 rfl rfl) rfl
theorem dX2_take_50 : decode cX2_take 50 = .ok (.ireturn, 1) := dn_172 (ob_cX2_take_1 9 rfl rfl)
def kb_cX2_mend_0 : List UInt8 := [42, 27, 182, 0, 16, 77, 3, 62, 3, 54, 4, 21, 4, 44, 182, 0, 24, 162, 0, 37, 44, 21, 4, 182, 0, 36, 29, 154, 0, 7, 4, 167, 0, 4, 3, 184, 0, 100, 153, 0, 10]
def kb_cX2_mend_1 : List UInt8 := [29, 4, 21, 4, 120, 128, 62, 132, 4, 1, 167, 255, 216, 42, 44, 29, 182, 0, 53, 182, 0, 44, 172]
def tb_cX2_mend_2 : List UInt8 := []
def tb_cX2_mend_1 : List UInt8 := kb_cX2_mend_1 ++ tb_cX2_mend_2
def tb_cX2_mend_0 : List UInt8 := kb_cX2_mend_0 ++ tb_cX2_mend_1
set_option maxRecDepth 100000 in
theorem tb_cX2_mend : (cX2_mend).data.toList = tb_cX2_mend_0 := eqL_eq (by decide +kernel)
theorem ow_cX2_mend_0 (r : Nat) : (cX2_mend).data.toList.drop (0 + r) = tb_cX2_mend_0.drop r := by rw [tb_cX2_mend, Nat.zero_add]
theorem ow_cX2_mend_1 (r : Nat) : (cX2_mend).data.toList.drop (41 + r) = tb_cX2_mend_1.drop r := by
  have e := ow_cX2_mend_0 (41 + r)
  rw [show 0 + (41 + r) = 41 + r by omega] at e
  exact e.trans (dr_len (a := kb_cX2_mend_0) (t := tb_cX2_mend_1) (by decide +kernel))
theorem ob_cX2_mend_0 (r : Nat) {pc : Nat} {l : List UInt8} (hp : 0 + r = pc) (h : tb_cX2_mend_0.drop r = l) : (cX2_mend).data.toList.drop pc = l := by
  subst hp
  exact (ow_cX2_mend_0 r).trans h
theorem ob_cX2_mend_1 (r : Nat) {pc : Nat} {l : List UInt8} (hp : 41 + r = pc) (h : tb_cX2_mend_1.drop r = l) : (cX2_mend).data.toList.drop pc = l := by
  subst hp
  exact (ow_cX2_mend_1 r).trans h
theorem dX2_mend_0 : decode cX2_mend 0 = .ok (.aload_n 0, 1) := dn_42 (ob_cX2_mend_0 0 rfl rfl)
theorem dX2_mend_1 : decode cX2_mend 1 = .ok (.iload_n 1, 1) := dn_27 (ob_cX2_mend_0 1 rfl rfl)
theorem dX2_mend_2 : decode cX2_mend 2 = .ok (.invokevirtual 16, 3) := dn_182 (ob_cX2_mend_0 2 rfl rfl) rfl
theorem dX2_mend_5 : decode cX2_mend 5 = .ok (.astore_n 2, 1) := dn_77 (ob_cX2_mend_0 5 rfl rfl)
theorem dX2_mend_6 : decode cX2_mend 6 = .ok (.iconst 0, 1) := dn_3 (ob_cX2_mend_0 6 rfl rfl)
theorem dX2_mend_7 : decode cX2_mend 7 = .ok (.istore_n 3, 1) := dn_62 (ob_cX2_mend_0 7 rfl rfl)
theorem dX2_mend_8 : decode cX2_mend 8 = .ok (.iconst 0, 1) := dn_3 (ob_cX2_mend_0 8 rfl rfl)
theorem dX2_mend_9 : decode cX2_mend 9 = .ok (.istore 4, 2) := dn_54 (ob_cX2_mend_0 9 rfl rfl) rfl
theorem dX2_mend_11 : decode cX2_mend 11 = .ok (.iload 4, 2) := dn_21 (ob_cX2_mend_0 11 rfl rfl) rfl
theorem dX2_mend_13 : decode cX2_mend 13 = .ok (.aload_n 2, 1) := dn_44 (ob_cX2_mend_0 13 rfl rfl)
theorem dX2_mend_14 : decode cX2_mend 14 = .ok (.invokevirtual 24, 3) := dn_182 (ob_cX2_mend_0 14 rfl rfl) rfl
theorem dX2_mend_17 : decode cX2_mend 17 = .ok (.if_icmp .ge 37, 3) := dn_162 (ob_cX2_mend_0 17 rfl rfl) (by decide +kernel)
theorem dX2_mend_20 : decode cX2_mend 20 = .ok (.aload_n 2, 1) := dn_44 (ob_cX2_mend_0 20 rfl rfl)
theorem dX2_mend_21 : decode cX2_mend 21 = .ok (.iload 4, 2) := dn_21 (ob_cX2_mend_0 21 rfl rfl) rfl
theorem dX2_mend_23 : decode cX2_mend 23 = .ok (.invokevirtual 36, 3) := dn_182 (ob_cX2_mend_0 23 rfl rfl) rfl
theorem dX2_mend_26 : decode cX2_mend 26 = .ok (.iload_n 3, 1) := dn_29 (ob_cX2_mend_0 26 rfl rfl)
theorem dX2_mend_27 : decode cX2_mend 27 = .ok (.ifCond .ne 7, 3) := dn_154 (ob_cX2_mend_0 27 rfl rfl) (by decide +kernel)
theorem dX2_mend_30 : decode cX2_mend 30 = .ok (.iconst 1, 1) := dn_4 (ob_cX2_mend_0 30 rfl rfl)
theorem dX2_mend_31 : decode cX2_mend 31 = .ok (.goto 4, 3) := dn_167 (ob_cX2_mend_0 31 rfl rfl) (by decide +kernel)
theorem dX2_mend_34 : decode cX2_mend 34 = .ok (.iconst 0, 1) := dn_3 (ob_cX2_mend_0 34 rfl rfl)
theorem dX2_mend_35 : decode cX2_mend 35 = .ok (.invokestatic 100, 3) := dn_184 (ob_cX2_mend_0 35 rfl rfl) rfl
theorem dX2_mend_38 : decode cX2_mend 38 = .ok (.ifCond .eq 10, 3) := dn_153 (ob_cX2_mend_0 38 rfl rfl) (by decide +kernel)
theorem dX2_mend_41 : decode cX2_mend 41 = .ok (.iload_n 3, 1) := dn_29 (ob_cX2_mend_1 0 rfl rfl)
theorem dX2_mend_42 : decode cX2_mend 42 = .ok (.iconst 1, 1) := dn_4 (ob_cX2_mend_1 1 rfl rfl)
theorem dX2_mend_43 : decode cX2_mend 43 = .ok (.iload 4, 2) := dn_21 (ob_cX2_mend_1 2 rfl rfl) rfl
theorem dX2_mend_45 : decode cX2_mend 45 = .ok (.ishl, 1) := dn_120 (ob_cX2_mend_1 4 rfl rfl)
theorem dX2_mend_46 : decode cX2_mend 46 = .ok (.ior, 1) := dn_128 (ob_cX2_mend_1 5 rfl rfl)
theorem dX2_mend_47 : decode cX2_mend 47 = .ok (.istore_n 3, 1) := dn_62 (ob_cX2_mend_1 6 rfl rfl)
theorem dX2_mend_48 : decode cX2_mend 48 = .ok (.iinc 4 1, 3) := dn_132 (ob_cX2_mend_1 7 rfl rfl) rfl (by decide +kernel)
theorem dX2_mend_51 : decode cX2_mend 51 = .ok (.goto (-40), 3) := dn_167 (ob_cX2_mend_1 10 rfl rfl) (by decide +kernel)
theorem dX2_mend_54 : decode cX2_mend 54 = .ok (.aload_n 0, 1) := dn_42 (ob_cX2_mend_1 13 rfl rfl)
theorem dX2_mend_55 : decode cX2_mend 55 = .ok (.aload_n 2, 1) := dn_44 (ob_cX2_mend_1 14 rfl rfl)
theorem dX2_mend_56 : decode cX2_mend 56 = .ok (.iload_n 3, 1) := dn_29 (ob_cX2_mend_1 15 rfl rfl)
theorem dX2_mend_57 : decode cX2_mend 57 = .ok (.invokevirtual 53, 3) := dn_182 (ob_cX2_mend_1 16 rfl rfl) rfl
theorem dX2_mend_60 : decode cX2_mend 60 = .ok (.invokevirtual 44, 3) := dn_182 (ob_cX2_mend_1 19 rfl rfl) rfl
theorem dX2_mend_63 : decode cX2_mend 63 = .ok (.ireturn, 1) := dn_172 (ob_cX2_mend_1 22 rfl rfl)
def kb_cX2_kind : List UInt8 := [27, 184, 0, 20, 27, 184, 0, 106, 172]
set_option maxRecDepth 10000 in
theorem ob_cX2_kind (r : Nat) {l : List UInt8} (h : kb_cX2_kind.drop r = l) : (cX2_kind).data.toList.drop r = l := by
  rw [show (cX2_kind).data.toList = kb_cX2_kind from eqL_eq (by decide +kernel)]
  exact h
theorem dX2_kind_0 : decode cX2_kind 0 = .ok (.iload_n 1, 1) := dn_27 (ob_cX2_kind 0 rfl)
theorem dX2_kind_1 : decode cX2_kind 1 = .ok (.invokestatic 20, 3) := dn_184 (ob_cX2_kind 1 rfl) rfl
theorem dX2_kind_4 : decode cX2_kind 4 = .ok (.iload_n 1, 1) := dn_27 (ob_cX2_kind 4 rfl)
theorem dX2_kind_5 : decode cX2_kind 5 = .ok (.invokestatic 106, 3) := dn_184 (ob_cX2_kind 5 rfl) rfl
theorem dX2_kind_8 : decode cX2_kind 8 = .ok (.ireturn, 1) := dn_172 (ob_cX2_kind 8 rfl)
def kb_cX2_ask : List UInt8 := [27, 184, 0, 20, 28, 184, 0, 77, 27, 28, 184, 0, 109, 172]
set_option maxRecDepth 10000 in
theorem ob_cX2_ask (r : Nat) {l : List UInt8} (h : kb_cX2_ask.drop r = l) : (cX2_ask).data.toList.drop r = l := by
  rw [show (cX2_ask).data.toList = kb_cX2_ask from eqL_eq (by decide +kernel)]
  exact h
theorem dX2_ask_0 : decode cX2_ask 0 = .ok (.iload_n 1, 1) := dn_27 (ob_cX2_ask 0 rfl)
theorem dX2_ask_1 : decode cX2_ask 1 = .ok (.invokestatic 20, 3) := dn_184 (ob_cX2_ask 1 rfl) rfl
theorem dX2_ask_4 : decode cX2_ask 4 = .ok (.iload_n 2, 1) := dn_28 (ob_cX2_ask 4 rfl)
theorem dX2_ask_5 : decode cX2_ask 5 = .ok (.invokestatic 77, 3) := dn_184 (ob_cX2_ask 5 rfl) rfl
theorem dX2_ask_8 : decode cX2_ask 8 = .ok (.iload_n 1, 1) := dn_27 (ob_cX2_ask 8 rfl)
theorem dX2_ask_9 : decode cX2_ask 9 = .ok (.iload_n 2, 1) := dn_28 (ob_cX2_ask 9 rfl)
theorem dX2_ask_10 : decode cX2_ask 10 = .ok (.invokestatic 109, 3) := dn_184 (ob_cX2_ask 10 rfl) rfl
theorem dX2_ask_13 : decode cX2_ask 13 = .ok (.ireturn, 1) := dn_172 (ob_cX2_ask 13 rfl)
def kb_cX2_all : List UInt8 := [27, 184, 0, 20, 3, 61, 3, 62, 29, 16, 13, 163, 0, 23, 27, 29, 184, 0, 109, 153, 0, 9, 28, 4, 29, 120, 128, 61, 132, 3, 1, 167, 255, 233, 28, 172]
set_option maxRecDepth 10000 in
theorem ob_cX2_all (r : Nat) {l : List UInt8} (h : kb_cX2_all.drop r = l) : (cX2_all).data.toList.drop r = l := by
  rw [show (cX2_all).data.toList = kb_cX2_all from eqL_eq (by decide +kernel)]
  exact h
theorem dX2_all_0 : decode cX2_all 0 = .ok (.iload_n 1, 1) := dn_27 (ob_cX2_all 0 rfl)
theorem dX2_all_1 : decode cX2_all 1 = .ok (.invokestatic 20, 3) := dn_184 (ob_cX2_all 1 rfl) rfl
theorem dX2_all_4 : decode cX2_all 4 = .ok (.iconst 0, 1) := dn_3 (ob_cX2_all 4 rfl)
theorem dX2_all_5 : decode cX2_all 5 = .ok (.istore_n 2, 1) := dn_61 (ob_cX2_all 5 rfl)
theorem dX2_all_6 : decode cX2_all 6 = .ok (.iconst 0, 1) := dn_3 (ob_cX2_all 6 rfl)
theorem dX2_all_7 : decode cX2_all 7 = .ok (.istore_n 3, 1) := dn_62 (ob_cX2_all 7 rfl)
theorem dX2_all_8 : decode cX2_all 8 = .ok (.iload_n 3, 1) := dn_29 (ob_cX2_all 8 rfl)
theorem dX2_all_9 : decode cX2_all 9 = .ok (.bipush 13, 2) := dn_16 (ob_cX2_all 9 rfl) (by decide +kernel)
theorem dX2_all_11 : decode cX2_all 11 = .ok (.if_icmp .gt 23, 3) := dn_163 (ob_cX2_all 11 rfl) (by decide +kernel)
theorem dX2_all_14 : decode cX2_all 14 = .ok (.iload_n 1, 1) := dn_27 (ob_cX2_all 14 rfl)
theorem dX2_all_15 : decode cX2_all 15 = .ok (.iload_n 3, 1) := dn_29 (ob_cX2_all 15 rfl)
theorem dX2_all_16 : decode cX2_all 16 = .ok (.invokestatic 109, 3) := dn_184 (ob_cX2_all 16 rfl) rfl
theorem dX2_all_19 : decode cX2_all 19 = .ok (.ifCond .eq 9, 3) := dn_153 (ob_cX2_all 19 rfl) (by decide +kernel)
theorem dX2_all_22 : decode cX2_all 22 = .ok (.iload_n 2, 1) := dn_28 (ob_cX2_all 22 rfl)
theorem dX2_all_23 : decode cX2_all 23 = .ok (.iconst 1, 1) := dn_4 (ob_cX2_all 23 rfl)
theorem dX2_all_24 : decode cX2_all 24 = .ok (.iload_n 3, 1) := dn_29 (ob_cX2_all 24 rfl)
theorem dX2_all_25 : decode cX2_all 25 = .ok (.ishl, 1) := dn_120 (ob_cX2_all 25 rfl)
theorem dX2_all_26 : decode cX2_all 26 = .ok (.ior, 1) := dn_128 (ob_cX2_all 26 rfl)
theorem dX2_all_27 : decode cX2_all 27 = .ok (.istore_n 2, 1) := dn_61 (ob_cX2_all 27 rfl)
theorem dX2_all_28 : decode cX2_all 28 = .ok (.iinc 3 1, 3) := dn_132 (ob_cX2_all 28 rfl) rfl (by decide +kernel)
theorem dX2_all_31 : decode cX2_all 31 = .ok (.goto (-23), 3) := dn_167 (ob_cX2_all 31 rfl) (by decide +kernel)
theorem dX2_all_34 : decode cX2_all 34 = .ok (.iload_n 2, 1) := dn_28 (ob_cX2_all 34 rfl)
theorem dX2_all_35 : decode cX2_all 35 = .ok (.ireturn, 1) := dn_172 (ob_cX2_all 35 rfl)
def kb_cX2_nth_0 : List UInt8 := [27, 184, 0, 87, 28, 155, 0, 10, 28, 17, 0, 255, 164, 0, 11, 187, 0, 71, 89, 183, 0, 73, 191, 3, 62, 3, 54, 4, 21, 4, 17, 0, 255, 163, 0, 29, 21, 4, 184, 0, 106]
def kb_cX2_nth_1 : List UInt8 := [27, 160, 0, 14, 29, 28, 160, 0, 6, 21, 4, 172, 132, 3, 1, 132, 4, 1, 167, 255, 225, 2, 172]
def tb_cX2_nth_2 : List UInt8 := []
def tb_cX2_nth_1 : List UInt8 := kb_cX2_nth_1 ++ tb_cX2_nth_2
def tb_cX2_nth_0 : List UInt8 := kb_cX2_nth_0 ++ tb_cX2_nth_1
set_option maxRecDepth 100000 in
theorem tb_cX2_nth : (cX2_nth).data.toList = tb_cX2_nth_0 := eqL_eq (by decide +kernel)
theorem ow_cX2_nth_0 (r : Nat) : (cX2_nth).data.toList.drop (0 + r) = tb_cX2_nth_0.drop r := by rw [tb_cX2_nth, Nat.zero_add]
theorem ow_cX2_nth_1 (r : Nat) : (cX2_nth).data.toList.drop (41 + r) = tb_cX2_nth_1.drop r := by
  have e := ow_cX2_nth_0 (41 + r)
  rw [show 0 + (41 + r) = 41 + r by omega] at e
  exact e.trans (dr_len (a := kb_cX2_nth_0) (t := tb_cX2_nth_1) (by decide +kernel))
theorem ob_cX2_nth_0 (r : Nat) {pc : Nat} {l : List UInt8} (hp : 0 + r = pc) (h : tb_cX2_nth_0.drop r = l) : (cX2_nth).data.toList.drop pc = l := by
  subst hp
  exact (ow_cX2_nth_0 r).trans h
theorem ob_cX2_nth_1 (r : Nat) {pc : Nat} {l : List UInt8} (hp : 41 + r = pc) (h : tb_cX2_nth_1.drop r = l) : (cX2_nth).data.toList.drop pc = l := by
  subst hp
  exact (ow_cX2_nth_1 r).trans h
theorem dX2_nth_0 : decode cX2_nth 0 = .ok (.iload_n 1, 1) := dn_27 (ob_cX2_nth_0 0 rfl rfl)
theorem dX2_nth_1 : decode cX2_nth 1 = .ok (.invokestatic 87, 3) := dn_184 (ob_cX2_nth_0 1 rfl rfl) rfl
theorem dX2_nth_4 : decode cX2_nth 4 = .ok (.iload_n 2, 1) := dn_28 (ob_cX2_nth_0 4 rfl rfl)
theorem dX2_nth_5 : decode cX2_nth 5 = .ok (.ifCond .lt 10, 3) := dn_155 (ob_cX2_nth_0 5 rfl rfl) (by decide +kernel)
theorem dX2_nth_8 : decode cX2_nth 8 = .ok (.iload_n 2, 1) := dn_28 (ob_cX2_nth_0 8 rfl rfl)
theorem dX2_nth_9 : decode cX2_nth 9 = .ok (.sipush 255, 3) := dn_17 (ob_cX2_nth_0 9 rfl rfl) (by decide +kernel)
theorem dX2_nth_12 : decode cX2_nth 12 = .ok (.if_icmp .le 11, 3) := dn_164 (ob_cX2_nth_0 12 rfl rfl) (by decide +kernel)
theorem dX2_nth_15 : decode cX2_nth 15 = .ok (.new 71, 3) := dn_187 (ob_cX2_nth_0 15 rfl rfl) rfl
theorem dX2_nth_18 : decode cX2_nth 18 = .ok (.dup, 1) := dn_89 (ob_cX2_nth_0 18 rfl rfl)
theorem dX2_nth_19 : decode cX2_nth 19 = .ok (.invokespecial 73, 3) := dn_183 (ob_cX2_nth_0 19 rfl rfl) rfl
theorem dX2_nth_22 : decode cX2_nth 22 = .ok (.athrow, 1) := dn_191 (ob_cX2_nth_0 22 rfl rfl)
theorem dX2_nth_23 : decode cX2_nth 23 = .ok (.iconst 0, 1) := dn_3 (ob_cX2_nth_0 23 rfl rfl)
theorem dX2_nth_24 : decode cX2_nth 24 = .ok (.istore_n 3, 1) := dn_62 (ob_cX2_nth_0 24 rfl rfl)
theorem dX2_nth_25 : decode cX2_nth 25 = .ok (.iconst 0, 1) := dn_3 (ob_cX2_nth_0 25 rfl rfl)
theorem dX2_nth_26 : decode cX2_nth 26 = .ok (.istore 4, 2) := dn_54 (ob_cX2_nth_0 26 rfl rfl) rfl
theorem dX2_nth_28 : decode cX2_nth 28 = .ok (.iload 4, 2) := dn_21 (ob_cX2_nth_0 28 rfl rfl) rfl
theorem dX2_nth_30 : decode cX2_nth 30 = .ok (.sipush 255, 3) := dn_17 (ob_cX2_nth_0 30 rfl rfl) (by decide +kernel)
theorem dX2_nth_33 : decode cX2_nth 33 = .ok (.if_icmp .gt 29, 3) := dn_163 (ob_cX2_nth_0 33 rfl rfl) (by decide +kernel)
theorem dX2_nth_36 : decode cX2_nth 36 = .ok (.iload 4, 2) := dn_21 (ob_cX2_nth_0 36 rfl rfl) rfl
theorem dX2_nth_38 : decode cX2_nth 38 = .ok (.invokestatic 106, 3) := dn_184 (ob_cX2_nth_0 38 rfl rfl) rfl
theorem dX2_nth_41 : decode cX2_nth 41 = .ok (.iload_n 1, 1) := dn_27 (ob_cX2_nth_1 0 rfl rfl)
theorem dX2_nth_42 : decode cX2_nth 42 = .ok (.if_icmp .ne 14, 3) := dn_160 (ob_cX2_nth_1 1 rfl rfl) (by decide +kernel)
theorem dX2_nth_45 : decode cX2_nth 45 = .ok (.iload_n 3, 1) := dn_29 (ob_cX2_nth_1 4 rfl rfl)
theorem dX2_nth_46 : decode cX2_nth 46 = .ok (.iload_n 2, 1) := dn_28 (ob_cX2_nth_1 5 rfl rfl)
theorem dX2_nth_47 : decode cX2_nth 47 = .ok (.if_icmp .ne 6, 3) := dn_160 (ob_cX2_nth_1 6 rfl rfl) (by decide +kernel)
theorem dX2_nth_50 : decode cX2_nth 50 = .ok (.iload 4, 2) := dn_21 (ob_cX2_nth_1 9 rfl rfl) rfl
theorem dX2_nth_52 : decode cX2_nth 52 = .ok (.ireturn, 1) := dn_172 (ob_cX2_nth_1 11 rfl rfl)
theorem dX2_nth_53 : decode cX2_nth 53 = .ok (.iinc 3 1, 3) := dn_132 (ob_cX2_nth_1 12 rfl rfl) rfl (by decide +kernel)
theorem dX2_nth_56 : decode cX2_nth 56 = .ok (.iinc 4 1, 3) := dn_132 (ob_cX2_nth_1 15 rfl rfl) rfl (by decide +kernel)
theorem dX2_nth_59 : decode cX2_nth 59 = .ok (.goto (-31), 3) := dn_167 (ob_cX2_nth_1 18 rfl rfl) (by decide +kernel)
theorem dX2_nth_62 : decode cX2_nth 62 = .ok (.iconst (-1), 1) := dn_2 (ob_cX2_nth_1 21 rfl rfl)
theorem dX2_nth_63 : decode cX2_nth 63 = .ok (.ireturn, 1) := dn_172 (ob_cX2_nth_1 22 rfl rfl)
def kb_cX2_next : List UInt8 := [27, 184, 0, 77, 28, 184, 0, 20, 28, 54, 4, 21, 4, 17, 0, 255, 163, 0, 22, 21, 4, 27, 184, 0, 109, 29, 160, 0, 6, 21, 4, 172, 132, 4, 1, 167, 255, 232, 2, 172]
set_option maxRecDepth 10000 in
theorem ob_cX2_next (r : Nat) {l : List UInt8} (h : kb_cX2_next.drop r = l) : (cX2_next).data.toList.drop r = l := by
  rw [show (cX2_next).data.toList = kb_cX2_next from eqL_eq (by decide +kernel)]
  exact h
theorem dX2_next_0 : decode cX2_next 0 = .ok (.iload_n 1, 1) := dn_27 (ob_cX2_next 0 rfl)
theorem dX2_next_1 : decode cX2_next 1 = .ok (.invokestatic 77, 3) := dn_184 (ob_cX2_next 1 rfl) rfl
theorem dX2_next_4 : decode cX2_next 4 = .ok (.iload_n 2, 1) := dn_28 (ob_cX2_next 4 rfl)
theorem dX2_next_5 : decode cX2_next 5 = .ok (.invokestatic 20, 3) := dn_184 (ob_cX2_next 5 rfl) rfl
theorem dX2_next_8 : decode cX2_next 8 = .ok (.iload_n 2, 1) := dn_28 (ob_cX2_next 8 rfl)
theorem dX2_next_9 : decode cX2_next 9 = .ok (.istore 4, 2) := dn_54 (ob_cX2_next 9 rfl) rfl
theorem dX2_next_11 : decode cX2_next 11 = .ok (.iload 4, 2) := dn_21 (ob_cX2_next 11 rfl) rfl
theorem dX2_next_13 : decode cX2_next 13 = .ok (.sipush 255, 3) := dn_17 (ob_cX2_next 13 rfl) (by decide +kernel)
theorem dX2_next_16 : decode cX2_next 16 = .ok (.if_icmp .gt 22, 3) := dn_163 (ob_cX2_next 16 rfl) (by decide +kernel)
theorem dX2_next_19 : decode cX2_next 19 = .ok (.iload 4, 2) := dn_21 (ob_cX2_next 19 rfl) rfl
theorem dX2_next_21 : decode cX2_next 21 = .ok (.iload_n 1, 1) := dn_27 (ob_cX2_next 21 rfl)
theorem dX2_next_22 : decode cX2_next 22 = .ok (.invokestatic 109, 3) := dn_184 (ob_cX2_next 22 rfl) rfl
theorem dX2_next_25 : decode cX2_next 25 = .ok (.iload_n 3, 1) := dn_29 (ob_cX2_next 25 rfl)
theorem dX2_next_26 : decode cX2_next 26 = .ok (.if_icmp .ne 6, 3) := dn_160 (ob_cX2_next 26 rfl) (by decide +kernel)
theorem dX2_next_29 : decode cX2_next 29 = .ok (.iload 4, 2) := dn_21 (ob_cX2_next 29 rfl) rfl
theorem dX2_next_31 : decode cX2_next 31 = .ok (.ireturn, 1) := dn_172 (ob_cX2_next 31 rfl)
theorem dX2_next_32 : decode cX2_next 32 = .ok (.iinc 4 1, 3) := dn_132 (ob_cX2_next 32 rfl) rfl (by decide +kernel)
theorem dX2_next_35 : decode cX2_next 35 = .ok (.goto (-24), 3) := dn_167 (ob_cX2_next 35 rfl) (by decide +kernel)
theorem dX2_next_38 : decode cX2_next 38 = .ok (.iconst (-1), 1) := dn_2 (ob_cX2_next 38 rfl)
theorem dX2_next_39 : decode cX2_next 39 = .ok (.ireturn, 1) := dn_172 (ob_cX2_next 39 rfl)
def kb_cX2_run_0 : List UInt8 := [27, 184, 0, 77, 28, 184, 0, 20, 28, 27, 184, 0, 109, 62, 28, 4, 96, 54, 4, 21, 4, 17, 0, 255, 163, 0, 19, 21, 4, 27, 184, 0, 109, 29, 160, 0, 9, 132, 4, 1]
def kb_cX2_run_1 : List UInt8 := [167, 255, 235, 21, 4, 28, 100, 172]
def tb_cX2_run_2 : List UInt8 := []
def tb_cX2_run_1 : List UInt8 := kb_cX2_run_1 ++ tb_cX2_run_2
def tb_cX2_run_0 : List UInt8 := kb_cX2_run_0 ++ tb_cX2_run_1
set_option maxRecDepth 100000 in
theorem tb_cX2_run : (cX2_run).data.toList = tb_cX2_run_0 := eqL_eq (by decide +kernel)
theorem ow_cX2_run_0 (r : Nat) : (cX2_run).data.toList.drop (0 + r) = tb_cX2_run_0.drop r := by rw [tb_cX2_run, Nat.zero_add]
theorem ow_cX2_run_1 (r : Nat) : (cX2_run).data.toList.drop (40 + r) = tb_cX2_run_1.drop r := by
  have e := ow_cX2_run_0 (40 + r)
  rw [show 0 + (40 + r) = 40 + r by omega] at e
  exact e.trans (dr_len (a := kb_cX2_run_0) (t := tb_cX2_run_1) (by decide +kernel))
theorem ob_cX2_run_0 (r : Nat) {pc : Nat} {l : List UInt8} (hp : 0 + r = pc) (h : tb_cX2_run_0.drop r = l) : (cX2_run).data.toList.drop pc = l := by
  subst hp
  exact (ow_cX2_run_0 r).trans h
theorem ob_cX2_run_1 (r : Nat) {pc : Nat} {l : List UInt8} (hp : 40 + r = pc) (h : tb_cX2_run_1.drop r = l) : (cX2_run).data.toList.drop pc = l := by
  subst hp
  exact (ow_cX2_run_1 r).trans h
theorem dX2_run_0 : decode cX2_run 0 = .ok (.iload_n 1, 1) := dn_27 (ob_cX2_run_0 0 rfl rfl)
theorem dX2_run_1 : decode cX2_run 1 = .ok (.invokestatic 77, 3) := dn_184 (ob_cX2_run_0 1 rfl rfl) rfl
theorem dX2_run_4 : decode cX2_run 4 = .ok (.iload_n 2, 1) := dn_28 (ob_cX2_run_0 4 rfl rfl)
theorem dX2_run_5 : decode cX2_run 5 = .ok (.invokestatic 20, 3) := dn_184 (ob_cX2_run_0 5 rfl rfl) rfl
theorem dX2_run_8 : decode cX2_run 8 = .ok (.iload_n 2, 1) := dn_28 (ob_cX2_run_0 8 rfl rfl)
theorem dX2_run_9 : decode cX2_run 9 = .ok (.iload_n 1, 1) := dn_27 (ob_cX2_run_0 9 rfl rfl)
theorem dX2_run_10 : decode cX2_run 10 = .ok (.invokestatic 109, 3) := dn_184 (ob_cX2_run_0 10 rfl rfl) rfl
theorem dX2_run_13 : decode cX2_run 13 = .ok (.istore_n 3, 1) := dn_62 (ob_cX2_run_0 13 rfl rfl)
theorem dX2_run_14 : decode cX2_run 14 = .ok (.iload_n 2, 1) := dn_28 (ob_cX2_run_0 14 rfl rfl)
theorem dX2_run_15 : decode cX2_run 15 = .ok (.iconst 1, 1) := dn_4 (ob_cX2_run_0 15 rfl rfl)
theorem dX2_run_16 : decode cX2_run 16 = .ok (.iadd, 1) := dn_96 (ob_cX2_run_0 16 rfl rfl)
theorem dX2_run_17 : decode cX2_run 17 = .ok (.istore 4, 2) := dn_54 (ob_cX2_run_0 17 rfl rfl) rfl
theorem dX2_run_19 : decode cX2_run 19 = .ok (.iload 4, 2) := dn_21 (ob_cX2_run_0 19 rfl rfl) rfl
theorem dX2_run_21 : decode cX2_run 21 = .ok (.sipush 255, 3) := dn_17 (ob_cX2_run_0 21 rfl rfl) (by decide +kernel)
theorem dX2_run_24 : decode cX2_run 24 = .ok (.if_icmp .gt 19, 3) := dn_163 (ob_cX2_run_0 24 rfl rfl) (by decide +kernel)
theorem dX2_run_27 : decode cX2_run 27 = .ok (.iload 4, 2) := dn_21 (ob_cX2_run_0 27 rfl rfl) rfl
theorem dX2_run_29 : decode cX2_run 29 = .ok (.iload_n 1, 1) := dn_27 (ob_cX2_run_0 29 rfl rfl)
theorem dX2_run_30 : decode cX2_run 30 = .ok (.invokestatic 109, 3) := dn_184 (ob_cX2_run_0 30 rfl rfl) rfl
theorem dX2_run_33 : decode cX2_run 33 = .ok (.iload_n 3, 1) := dn_29 (ob_cX2_run_0 33 rfl rfl)
theorem dX2_run_34 : decode cX2_run 34 = .ok (.if_icmp .ne 9, 3) := dn_160 (ob_cX2_run_0 34 rfl rfl) (by decide +kernel)
theorem dX2_run_37 : decode cX2_run 37 = .ok (.iinc 4 1, 3) := dn_132 (ob_cX2_run_0 37 rfl rfl) rfl (by decide +kernel)
theorem dX2_run_40 : decode cX2_run 40 = .ok (.goto (-21), 3) := dn_167 (ob_cX2_run_1 0 rfl rfl) (by decide +kernel)
theorem dX2_run_43 : decode cX2_run 43 = .ok (.iload 4, 2) := dn_21 (ob_cX2_run_1 3 rfl rfl) rfl
theorem dX2_run_45 : decode cX2_run 45 = .ok (.iload_n 2, 1) := dn_28 (ob_cX2_run_1 5 rfl rfl)
theorem dX2_run_46 : decode cX2_run 46 = .ok (.isub, 1) := dn_100 (ob_cX2_run_1 6 rfl rfl)
theorem dX2_run_47 : decode cX2_run 47 = .ok (.ireturn, 1) := dn_172 (ob_cX2_run_1 7 rfl rfl)
def kb_cX2_ofKind_0 : List UInt8 := [27, 184, 0, 87, 28, 29, 184, 0, 113, 3, 54, 4, 28, 54, 5, 21, 5, 29, 163, 0, 21, 21, 5, 184, 0, 106, 27, 160, 0, 6, 132, 4, 1, 132, 5, 1, 167, 255, 235, 21, 4]
def kb_cX2_ofKind_1 : List UInt8 := [172]
def tb_cX2_ofKind_2 : List UInt8 := []
def tb_cX2_ofKind_1 : List UInt8 := kb_cX2_ofKind_1 ++ tb_cX2_ofKind_2
def tb_cX2_ofKind_0 : List UInt8 := kb_cX2_ofKind_0 ++ tb_cX2_ofKind_1
set_option maxRecDepth 100000 in
theorem tb_cX2_ofKind : (cX2_ofKind).data.toList = tb_cX2_ofKind_0 := eqL_eq (by decide +kernel)
theorem ow_cX2_ofKind_0 (r : Nat) : (cX2_ofKind).data.toList.drop (0 + r) = tb_cX2_ofKind_0.drop r := by rw [tb_cX2_ofKind, Nat.zero_add]
theorem ow_cX2_ofKind_1 (r : Nat) : (cX2_ofKind).data.toList.drop (41 + r) = tb_cX2_ofKind_1.drop r := by
  have e := ow_cX2_ofKind_0 (41 + r)
  rw [show 0 + (41 + r) = 41 + r by omega] at e
  exact e.trans (dr_len (a := kb_cX2_ofKind_0) (t := tb_cX2_ofKind_1) (by decide +kernel))
theorem ob_cX2_ofKind_0 (r : Nat) {pc : Nat} {l : List UInt8} (hp : 0 + r = pc) (h : tb_cX2_ofKind_0.drop r = l) : (cX2_ofKind).data.toList.drop pc = l := by
  subst hp
  exact (ow_cX2_ofKind_0 r).trans h
theorem ob_cX2_ofKind_1 (r : Nat) {pc : Nat} {l : List UInt8} (hp : 41 + r = pc) (h : tb_cX2_ofKind_1.drop r = l) : (cX2_ofKind).data.toList.drop pc = l := by
  subst hp
  exact (ow_cX2_ofKind_1 r).trans h
theorem dX2_ofKind_0 : decode cX2_ofKind 0 = .ok (.iload_n 1, 1) := dn_27 (ob_cX2_ofKind_0 0 rfl rfl)
theorem dX2_ofKind_1 : decode cX2_ofKind 1 = .ok (.invokestatic 87, 3) := dn_184 (ob_cX2_ofKind_0 1 rfl rfl) rfl
theorem dX2_ofKind_4 : decode cX2_ofKind 4 = .ok (.iload_n 2, 1) := dn_28 (ob_cX2_ofKind_0 4 rfl rfl)
theorem dX2_ofKind_5 : decode cX2_ofKind 5 = .ok (.iload_n 3, 1) := dn_29 (ob_cX2_ofKind_0 5 rfl rfl)
theorem dX2_ofKind_6 : decode cX2_ofKind 6 = .ok (.invokestatic 113, 3) := dn_184 (ob_cX2_ofKind_0 6 rfl rfl) rfl
theorem dX2_ofKind_9 : decode cX2_ofKind 9 = .ok (.iconst 0, 1) := dn_3 (ob_cX2_ofKind_0 9 rfl rfl)
theorem dX2_ofKind_10 : decode cX2_ofKind 10 = .ok (.istore 4, 2) := dn_54 (ob_cX2_ofKind_0 10 rfl rfl) rfl
theorem dX2_ofKind_12 : decode cX2_ofKind 12 = .ok (.iload_n 2, 1) := dn_28 (ob_cX2_ofKind_0 12 rfl rfl)
theorem dX2_ofKind_13 : decode cX2_ofKind 13 = .ok (.istore 5, 2) := dn_54 (ob_cX2_ofKind_0 13 rfl rfl) rfl
theorem dX2_ofKind_15 : decode cX2_ofKind 15 = .ok (.iload 5, 2) := dn_21 (ob_cX2_ofKind_0 15 rfl rfl) rfl
theorem dX2_ofKind_17 : decode cX2_ofKind 17 = .ok (.iload_n 3, 1) := dn_29 (ob_cX2_ofKind_0 17 rfl rfl)
theorem dX2_ofKind_18 : decode cX2_ofKind 18 = .ok (.if_icmp .gt 21, 3) := dn_163 (ob_cX2_ofKind_0 18 rfl rfl) (by decide +kernel)
theorem dX2_ofKind_21 : decode cX2_ofKind 21 = .ok (.iload 5, 2) := dn_21 (ob_cX2_ofKind_0 21 rfl rfl) rfl
theorem dX2_ofKind_23 : decode cX2_ofKind 23 = .ok (.invokestatic 106, 3) := dn_184 (ob_cX2_ofKind_0 23 rfl rfl) rfl
theorem dX2_ofKind_26 : decode cX2_ofKind 26 = .ok (.iload_n 1, 1) := dn_27 (ob_cX2_ofKind_0 26 rfl rfl)
theorem dX2_ofKind_27 : decode cX2_ofKind 27 = .ok (.if_icmp .ne 6, 3) := dn_160 (ob_cX2_ofKind_0 27 rfl rfl) (by decide +kernel)
theorem dX2_ofKind_30 : decode cX2_ofKind 30 = .ok (.iinc 4 1, 3) := dn_132 (ob_cX2_ofKind_0 30 rfl rfl) rfl (by decide +kernel)
theorem dX2_ofKind_33 : decode cX2_ofKind 33 = .ok (.iinc 5 1, 3) := dn_132 (ob_cX2_ofKind_0 33 rfl rfl) rfl (by decide +kernel)
theorem dX2_ofKind_36 : decode cX2_ofKind 36 = .ok (.goto (-21), 3) := dn_167 (ob_cX2_ofKind_0 36 rfl rfl) (by decide +kernel)
theorem dX2_ofKind_39 : decode cX2_ofKind 39 = .ok (.iload 4, 2) := dn_21 (ob_cX2_ofKind_0 39 rfl rfl) rfl
theorem dX2_ofKind_41 : decode cX2_ofKind 41 = .ok (.ireturn, 1) := dn_172 (ob_cX2_ofKind_1 0 rfl rfl)
def kb_cX2_ofQuestion_0 : List UInt8 := [27, 184, 0, 77, 28, 29, 184, 0, 113, 3, 54, 4, 28, 54, 5, 21, 5, 29, 163, 0, 21, 21, 5, 27, 184, 0, 109, 153, 0, 6, 132, 4, 1, 132, 5, 1, 167, 255, 235, 21, 4]
def kb_cX2_ofQuestion_1 : List UInt8 := [172]
def tb_cX2_ofQuestion_2 : List UInt8 := []
def tb_cX2_ofQuestion_1 : List UInt8 := kb_cX2_ofQuestion_1 ++ tb_cX2_ofQuestion_2
def tb_cX2_ofQuestion_0 : List UInt8 := kb_cX2_ofQuestion_0 ++ tb_cX2_ofQuestion_1
set_option maxRecDepth 100000 in
theorem tb_cX2_ofQuestion : (cX2_ofQuestion).data.toList = tb_cX2_ofQuestion_0 := eqL_eq (by decide +kernel)
theorem ow_cX2_ofQuestion_0 (r : Nat) : (cX2_ofQuestion).data.toList.drop (0 + r) = tb_cX2_ofQuestion_0.drop r := by rw [tb_cX2_ofQuestion, Nat.zero_add]
theorem ow_cX2_ofQuestion_1 (r : Nat) : (cX2_ofQuestion).data.toList.drop (41 + r) = tb_cX2_ofQuestion_1.drop r := by
  have e := ow_cX2_ofQuestion_0 (41 + r)
  rw [show 0 + (41 + r) = 41 + r by omega] at e
  exact e.trans (dr_len (a := kb_cX2_ofQuestion_0) (t := tb_cX2_ofQuestion_1) (by decide +kernel))
theorem ob_cX2_ofQuestion_0 (r : Nat) {pc : Nat} {l : List UInt8} (hp : 0 + r = pc) (h : tb_cX2_ofQuestion_0.drop r = l) : (cX2_ofQuestion).data.toList.drop pc = l := by
  subst hp
  exact (ow_cX2_ofQuestion_0 r).trans h
theorem ob_cX2_ofQuestion_1 (r : Nat) {pc : Nat} {l : List UInt8} (hp : 41 + r = pc) (h : tb_cX2_ofQuestion_1.drop r = l) : (cX2_ofQuestion).data.toList.drop pc = l := by
  subst hp
  exact (ow_cX2_ofQuestion_1 r).trans h
theorem dX2_ofQuestion_0 : decode cX2_ofQuestion 0 = .ok (.iload_n 1, 1) := dn_27 (ob_cX2_ofQuestion_0 0 rfl rfl)
theorem dX2_ofQuestion_1 : decode cX2_ofQuestion 1 = .ok (.invokestatic 77, 3) := dn_184 (ob_cX2_ofQuestion_0 1 rfl rfl) rfl
theorem dX2_ofQuestion_4 : decode cX2_ofQuestion 4 = .ok (.iload_n 2, 1) := dn_28 (ob_cX2_ofQuestion_0 4 rfl rfl)
theorem dX2_ofQuestion_5 : decode cX2_ofQuestion 5 = .ok (.iload_n 3, 1) := dn_29 (ob_cX2_ofQuestion_0 5 rfl rfl)
theorem dX2_ofQuestion_6 : decode cX2_ofQuestion 6 = .ok (.invokestatic 113, 3) := dn_184 (ob_cX2_ofQuestion_0 6 rfl rfl) rfl
theorem dX2_ofQuestion_9 : decode cX2_ofQuestion 9 = .ok (.iconst 0, 1) := dn_3 (ob_cX2_ofQuestion_0 9 rfl rfl)
theorem dX2_ofQuestion_10 : decode cX2_ofQuestion 10 = .ok (.istore 4, 2) := dn_54 (ob_cX2_ofQuestion_0 10 rfl rfl) rfl
theorem dX2_ofQuestion_12 : decode cX2_ofQuestion 12 = .ok (.iload_n 2, 1) := dn_28 (ob_cX2_ofQuestion_0 12 rfl rfl)
theorem dX2_ofQuestion_13 : decode cX2_ofQuestion 13 = .ok (.istore 5, 2) := dn_54 (ob_cX2_ofQuestion_0 13 rfl rfl) rfl
theorem dX2_ofQuestion_15 : decode cX2_ofQuestion 15 = .ok (.iload 5, 2) := dn_21 (ob_cX2_ofQuestion_0 15 rfl rfl) rfl
theorem dX2_ofQuestion_17 : decode cX2_ofQuestion 17 = .ok (.iload_n 3, 1) := dn_29 (ob_cX2_ofQuestion_0 17 rfl rfl)
theorem dX2_ofQuestion_18 : decode cX2_ofQuestion 18 = .ok (.if_icmp .gt 21, 3) := dn_163 (ob_cX2_ofQuestion_0 18 rfl rfl) (by decide +kernel)
theorem dX2_ofQuestion_21 : decode cX2_ofQuestion 21 = .ok (.iload 5, 2) := dn_21 (ob_cX2_ofQuestion_0 21 rfl rfl) rfl
theorem dX2_ofQuestion_23 : decode cX2_ofQuestion 23 = .ok (.iload_n 1, 1) := dn_27 (ob_cX2_ofQuestion_0 23 rfl rfl)
theorem dX2_ofQuestion_24 : decode cX2_ofQuestion 24 = .ok (.invokestatic 109, 3) := dn_184 (ob_cX2_ofQuestion_0 24 rfl rfl) rfl
theorem dX2_ofQuestion_27 : decode cX2_ofQuestion 27 = .ok (.ifCond .eq 6, 3) := dn_153 (ob_cX2_ofQuestion_0 27 rfl rfl) (by decide +kernel)
theorem dX2_ofQuestion_30 : decode cX2_ofQuestion 30 = .ok (.iinc 4 1, 3) := dn_132 (ob_cX2_ofQuestion_0 30 rfl rfl) rfl (by decide +kernel)
theorem dX2_ofQuestion_33 : decode cX2_ofQuestion 33 = .ok (.iinc 5 1, 3) := dn_132 (ob_cX2_ofQuestion_0 33 rfl rfl) rfl (by decide +kernel)
theorem dX2_ofQuestion_36 : decode cX2_ofQuestion 36 = .ok (.goto (-21), 3) := dn_167 (ob_cX2_ofQuestion_0 36 rfl rfl) (by decide +kernel)
theorem dX2_ofQuestion_39 : decode cX2_ofQuestion 39 = .ok (.iload 4, 2) := dn_21 (ob_cX2_ofQuestion_0 39 rfl rfl) rfl
theorem dX2_ofQuestion_41 : decode cX2_ofQuestion 41 = .ok (.ireturn, 1) := dn_172 (ob_cX2_ofQuestion_1 0 rfl rfl)
def kb_cX2_kinds : List UInt8 := [27, 28, 184, 0, 113, 3, 62, 27, 54, 4, 21, 4, 28, 163, 0, 19, 29, 4, 21, 4, 184, 0, 106, 120, 128, 62, 132, 4, 1, 167, 255, 237, 29, 172]
set_option maxRecDepth 10000 in
theorem ob_cX2_kinds (r : Nat) {l : List UInt8} (h : kb_cX2_kinds.drop r = l) : (cX2_kinds).data.toList.drop r = l := by
  rw [show (cX2_kinds).data.toList = kb_cX2_kinds from eqL_eq (by decide +kernel)]
  exact h
theorem dX2_kinds_0 : decode cX2_kinds 0 = .ok (.iload_n 1, 1) := dn_27 (ob_cX2_kinds 0 rfl)
theorem dX2_kinds_1 : decode cX2_kinds 1 = .ok (.iload_n 2, 1) := dn_28 (ob_cX2_kinds 1 rfl)
theorem dX2_kinds_2 : decode cX2_kinds 2 = .ok (.invokestatic 113, 3) := dn_184 (ob_cX2_kinds 2 rfl) rfl
theorem dX2_kinds_5 : decode cX2_kinds 5 = .ok (.iconst 0, 1) := dn_3 (ob_cX2_kinds 5 rfl)
theorem dX2_kinds_6 : decode cX2_kinds 6 = .ok (.istore_n 3, 1) := dn_62 (ob_cX2_kinds 6 rfl)
theorem dX2_kinds_7 : decode cX2_kinds 7 = .ok (.iload_n 1, 1) := dn_27 (ob_cX2_kinds 7 rfl)
theorem dX2_kinds_8 : decode cX2_kinds 8 = .ok (.istore 4, 2) := dn_54 (ob_cX2_kinds 8 rfl) rfl
theorem dX2_kinds_10 : decode cX2_kinds 10 = .ok (.iload 4, 2) := dn_21 (ob_cX2_kinds 10 rfl) rfl
theorem dX2_kinds_12 : decode cX2_kinds 12 = .ok (.iload_n 2, 1) := dn_28 (ob_cX2_kinds 12 rfl)
theorem dX2_kinds_13 : decode cX2_kinds 13 = .ok (.if_icmp .gt 19, 3) := dn_163 (ob_cX2_kinds 13 rfl) (by decide +kernel)
theorem dX2_kinds_16 : decode cX2_kinds 16 = .ok (.iload_n 3, 1) := dn_29 (ob_cX2_kinds 16 rfl)
theorem dX2_kinds_17 : decode cX2_kinds 17 = .ok (.iconst 1, 1) := dn_4 (ob_cX2_kinds 17 rfl)
theorem dX2_kinds_18 : decode cX2_kinds 18 = .ok (.iload 4, 2) := dn_21 (ob_cX2_kinds 18 rfl) rfl
theorem dX2_kinds_20 : decode cX2_kinds 20 = .ok (.invokestatic 106, 3) := dn_184 (ob_cX2_kinds 20 rfl) rfl
theorem dX2_kinds_23 : decode cX2_kinds 23 = .ok (.ishl, 1) := dn_120 (ob_cX2_kinds 23 rfl)
theorem dX2_kinds_24 : decode cX2_kinds 24 = .ok (.ior, 1) := dn_128 (ob_cX2_kinds 24 rfl)
theorem dX2_kinds_25 : decode cX2_kinds 25 = .ok (.istore_n 3, 1) := dn_62 (ob_cX2_kinds 25 rfl)
theorem dX2_kinds_26 : decode cX2_kinds 26 = .ok (.iinc 4 1, 3) := dn_132 (ob_cX2_kinds 26 rfl) rfl (by decide +kernel)
theorem dX2_kinds_29 : decode cX2_kinds 29 = .ok (.goto (-19), 3) := dn_167 (ob_cX2_kinds 29 rfl) (by decide +kernel)
theorem dX2_kinds_32 : decode cX2_kinds 32 = .ok (.iload_n 3, 1) := dn_29 (ob_cX2_kinds 32 rfl)
theorem dX2_kinds_33 : decode cX2_kinds 33 = .ok (.ireturn, 1) := dn_172 (ob_cX2_kinds 33 rfl)
def kb_cX2_both_0 : List UInt8 := [27, 184, 0, 87, 28, 184, 0, 77, 3, 62, 3, 54, 4, 21, 4, 17, 0, 255, 163, 0, 30, 21, 4, 184, 0, 106, 27, 160, 0, 15, 21, 4, 28, 184, 0, 109, 153, 0, 6, 132, 3, 1]
def kb_cX2_both_1 : List UInt8 := [132, 4, 1, 167, 255, 224, 29, 172]
def tb_cX2_both_2 : List UInt8 := []
def tb_cX2_both_1 : List UInt8 := kb_cX2_both_1 ++ tb_cX2_both_2
def tb_cX2_both_0 : List UInt8 := kb_cX2_both_0 ++ tb_cX2_both_1
set_option maxRecDepth 100000 in
theorem tb_cX2_both : (cX2_both).data.toList = tb_cX2_both_0 := eqL_eq (by decide +kernel)
theorem ow_cX2_both_0 (r : Nat) : (cX2_both).data.toList.drop (0 + r) = tb_cX2_both_0.drop r := by rw [tb_cX2_both, Nat.zero_add]
theorem ow_cX2_both_1 (r : Nat) : (cX2_both).data.toList.drop (42 + r) = tb_cX2_both_1.drop r := by
  have e := ow_cX2_both_0 (42 + r)
  rw [show 0 + (42 + r) = 42 + r by omega] at e
  exact e.trans (dr_len (a := kb_cX2_both_0) (t := tb_cX2_both_1) (by decide +kernel))
theorem ob_cX2_both_0 (r : Nat) {pc : Nat} {l : List UInt8} (hp : 0 + r = pc) (h : tb_cX2_both_0.drop r = l) : (cX2_both).data.toList.drop pc = l := by
  subst hp
  exact (ow_cX2_both_0 r).trans h
theorem ob_cX2_both_1 (r : Nat) {pc : Nat} {l : List UInt8} (hp : 42 + r = pc) (h : tb_cX2_both_1.drop r = l) : (cX2_both).data.toList.drop pc = l := by
  subst hp
  exact (ow_cX2_both_1 r).trans h
theorem dX2_both_0 : decode cX2_both 0 = .ok (.iload_n 1, 1) := dn_27 (ob_cX2_both_0 0 rfl rfl)
theorem dX2_both_1 : decode cX2_both 1 = .ok (.invokestatic 87, 3) := dn_184 (ob_cX2_both_0 1 rfl rfl) rfl
theorem dX2_both_4 : decode cX2_both 4 = .ok (.iload_n 2, 1) := dn_28 (ob_cX2_both_0 4 rfl rfl)
theorem dX2_both_5 : decode cX2_both 5 = .ok (.invokestatic 77, 3) := dn_184 (ob_cX2_both_0 5 rfl rfl) rfl
theorem dX2_both_8 : decode cX2_both 8 = .ok (.iconst 0, 1) := dn_3 (ob_cX2_both_0 8 rfl rfl)
theorem dX2_both_9 : decode cX2_both 9 = .ok (.istore_n 3, 1) := dn_62 (ob_cX2_both_0 9 rfl rfl)
theorem dX2_both_10 : decode cX2_both 10 = .ok (.iconst 0, 1) := dn_3 (ob_cX2_both_0 10 rfl rfl)
theorem dX2_both_11 : decode cX2_both 11 = .ok (.istore 4, 2) := dn_54 (ob_cX2_both_0 11 rfl rfl) rfl
theorem dX2_both_13 : decode cX2_both 13 = .ok (.iload 4, 2) := dn_21 (ob_cX2_both_0 13 rfl rfl) rfl
theorem dX2_both_15 : decode cX2_both 15 = .ok (.sipush 255, 3) := dn_17 (ob_cX2_both_0 15 rfl rfl) (by decide +kernel)
theorem dX2_both_18 : decode cX2_both 18 = .ok (.if_icmp .gt 30, 3) := dn_163 (ob_cX2_both_0 18 rfl rfl) (by decide +kernel)
theorem dX2_both_21 : decode cX2_both 21 = .ok (.iload 4, 2) := dn_21 (ob_cX2_both_0 21 rfl rfl) rfl
theorem dX2_both_23 : decode cX2_both 23 = .ok (.invokestatic 106, 3) := dn_184 (ob_cX2_both_0 23 rfl rfl) rfl
theorem dX2_both_26 : decode cX2_both 26 = .ok (.iload_n 1, 1) := dn_27 (ob_cX2_both_0 26 rfl rfl)
theorem dX2_both_27 : decode cX2_both 27 = .ok (.if_icmp .ne 15, 3) := dn_160 (ob_cX2_both_0 27 rfl rfl) (by decide +kernel)
theorem dX2_both_30 : decode cX2_both 30 = .ok (.iload 4, 2) := dn_21 (ob_cX2_both_0 30 rfl rfl) rfl
theorem dX2_both_32 : decode cX2_both 32 = .ok (.iload_n 2, 1) := dn_28 (ob_cX2_both_0 32 rfl rfl)
theorem dX2_both_33 : decode cX2_both 33 = .ok (.invokestatic 109, 3) := dn_184 (ob_cX2_both_0 33 rfl rfl) rfl
theorem dX2_both_36 : decode cX2_both 36 = .ok (.ifCond .eq 6, 3) := dn_153 (ob_cX2_both_0 36 rfl rfl) (by decide +kernel)
theorem dX2_both_39 : decode cX2_both 39 = .ok (.iinc 3 1, 3) := dn_132 (ob_cX2_both_0 39 rfl rfl) rfl (by decide +kernel)
theorem dX2_both_42 : decode cX2_both 42 = .ok (.iinc 4 1, 3) := dn_132 (ob_cX2_both_1 0 rfl rfl) rfl (by decide +kernel)
theorem dX2_both_45 : decode cX2_both 45 = .ok (.goto (-32), 3) := dn_167 (ob_cX2_both_1 3 rfl rfl) (by decide +kernel)
theorem dX2_both_48 : decode cX2_both 48 = .ok (.iload_n 3, 1) := dn_29 (ob_cX2_both_1 6 rfl rfl)
theorem dX2_both_49 : decode cX2_both 49 = .ok (.ireturn, 1) := dn_172 (ob_cX2_both_1 7 rfl rfl)
def kb_cX2_within_0 : List UInt8 := [27, 184, 0, 77, 28, 184, 0, 77, 3, 62, 29, 17, 0, 255, 163, 0, 27, 29, 27, 184, 0, 109, 153, 0, 13, 29, 28, 184, 0, 109, 154, 0, 5, 3, 172, 132, 3, 1, 167, 255, 228]
def kb_cX2_within_1 : List UInt8 := [4, 172]
def tb_cX2_within_2 : List UInt8 := []
def tb_cX2_within_1 : List UInt8 := kb_cX2_within_1 ++ tb_cX2_within_2
def tb_cX2_within_0 : List UInt8 := kb_cX2_within_0 ++ tb_cX2_within_1
set_option maxRecDepth 100000 in
theorem tb_cX2_within : (cX2_within).data.toList = tb_cX2_within_0 := eqL_eq (by decide +kernel)
theorem ow_cX2_within_0 (r : Nat) : (cX2_within).data.toList.drop (0 + r) = tb_cX2_within_0.drop r := by rw [tb_cX2_within, Nat.zero_add]
theorem ow_cX2_within_1 (r : Nat) : (cX2_within).data.toList.drop (41 + r) = tb_cX2_within_1.drop r := by
  have e := ow_cX2_within_0 (41 + r)
  rw [show 0 + (41 + r) = 41 + r by omega] at e
  exact e.trans (dr_len (a := kb_cX2_within_0) (t := tb_cX2_within_1) (by decide +kernel))
theorem ob_cX2_within_0 (r : Nat) {pc : Nat} {l : List UInt8} (hp : 0 + r = pc) (h : tb_cX2_within_0.drop r = l) : (cX2_within).data.toList.drop pc = l := by
  subst hp
  exact (ow_cX2_within_0 r).trans h
theorem ob_cX2_within_1 (r : Nat) {pc : Nat} {l : List UInt8} (hp : 41 + r = pc) (h : tb_cX2_within_1.drop r = l) : (cX2_within).data.toList.drop pc = l := by
  subst hp
  exact (ow_cX2_within_1 r).trans h
theorem dX2_within_0 : decode cX2_within 0 = .ok (.iload_n 1, 1) := dn_27 (ob_cX2_within_0 0 rfl rfl)
theorem dX2_within_1 : decode cX2_within 1 = .ok (.invokestatic 77, 3) := dn_184 (ob_cX2_within_0 1 rfl rfl) rfl
theorem dX2_within_4 : decode cX2_within 4 = .ok (.iload_n 2, 1) := dn_28 (ob_cX2_within_0 4 rfl rfl)
theorem dX2_within_5 : decode cX2_within 5 = .ok (.invokestatic 77, 3) := dn_184 (ob_cX2_within_0 5 rfl rfl) rfl
theorem dX2_within_8 : decode cX2_within 8 = .ok (.iconst 0, 1) := dn_3 (ob_cX2_within_0 8 rfl rfl)
theorem dX2_within_9 : decode cX2_within 9 = .ok (.istore_n 3, 1) := dn_62 (ob_cX2_within_0 9 rfl rfl)
theorem dX2_within_10 : decode cX2_within 10 = .ok (.iload_n 3, 1) := dn_29 (ob_cX2_within_0 10 rfl rfl)
theorem dX2_within_11 : decode cX2_within 11 = .ok (.sipush 255, 3) := dn_17 (ob_cX2_within_0 11 rfl rfl) (by decide +kernel)
theorem dX2_within_14 : decode cX2_within 14 = .ok (.if_icmp .gt 27, 3) := dn_163 (ob_cX2_within_0 14 rfl rfl) (by decide +kernel)
theorem dX2_within_17 : decode cX2_within 17 = .ok (.iload_n 3, 1) := dn_29 (ob_cX2_within_0 17 rfl rfl)
theorem dX2_within_18 : decode cX2_within 18 = .ok (.iload_n 1, 1) := dn_27 (ob_cX2_within_0 18 rfl rfl)
theorem dX2_within_19 : decode cX2_within 19 = .ok (.invokestatic 109, 3) := dn_184 (ob_cX2_within_0 19 rfl rfl) rfl
theorem dX2_within_22 : decode cX2_within 22 = .ok (.ifCond .eq 13, 3) := dn_153 (ob_cX2_within_0 22 rfl rfl) (by decide +kernel)
theorem dX2_within_25 : decode cX2_within 25 = .ok (.iload_n 3, 1) := dn_29 (ob_cX2_within_0 25 rfl rfl)
theorem dX2_within_26 : decode cX2_within 26 = .ok (.iload_n 2, 1) := dn_28 (ob_cX2_within_0 26 rfl rfl)
theorem dX2_within_27 : decode cX2_within 27 = .ok (.invokestatic 109, 3) := dn_184 (ob_cX2_within_0 27 rfl rfl) rfl
theorem dX2_within_30 : decode cX2_within 30 = .ok (.ifCond .ne 5, 3) := dn_154 (ob_cX2_within_0 30 rfl rfl) (by decide +kernel)
theorem dX2_within_33 : decode cX2_within 33 = .ok (.iconst 0, 1) := dn_3 (ob_cX2_within_0 33 rfl rfl)
theorem dX2_within_34 : decode cX2_within 34 = .ok (.ireturn, 1) := dn_172 (ob_cX2_within_0 34 rfl rfl)
theorem dX2_within_35 : decode cX2_within 35 = .ok (.iinc 3 1, 3) := dn_132 (ob_cX2_within_0 35 rfl rfl) rfl (by decide +kernel)
theorem dX2_within_38 : decode cX2_within 38 = .ok (.goto (-28), 3) := dn_167 (ob_cX2_within_0 38 rfl rfl) (by decide +kernel)
theorem dX2_within_41 : decode cX2_within 41 = .ok (.iconst 1, 1) := dn_4 (ob_cX2_within_1 0 rfl rfl)
theorem dX2_within_42 : decode cX2_within 42 = .ok (.ireturn, 1) := dn_172 (ob_cX2_within_1 1 rfl rfl)
def kb_cX2_differ_0 : List UInt8 := [27, 184, 0, 77, 28, 184, 0, 77, 29, 184, 0, 20, 29, 54, 4, 21, 4, 17, 0, 255, 163, 0, 27, 21, 4, 27, 184, 0, 109, 21, 4, 28, 184, 0, 109, 159, 0, 6, 21, 4]
def kb_cX2_differ_1 : List UInt8 := [172, 132, 4, 1, 167, 255, 227, 2, 172]
def tb_cX2_differ_2 : List UInt8 := []
def tb_cX2_differ_1 : List UInt8 := kb_cX2_differ_1 ++ tb_cX2_differ_2
def tb_cX2_differ_0 : List UInt8 := kb_cX2_differ_0 ++ tb_cX2_differ_1
set_option maxRecDepth 100000 in
theorem tb_cX2_differ : (cX2_differ).data.toList = tb_cX2_differ_0 := eqL_eq (by decide +kernel)
theorem ow_cX2_differ_0 (r : Nat) : (cX2_differ).data.toList.drop (0 + r) = tb_cX2_differ_0.drop r := by rw [tb_cX2_differ, Nat.zero_add]
theorem ow_cX2_differ_1 (r : Nat) : (cX2_differ).data.toList.drop (40 + r) = tb_cX2_differ_1.drop r := by
  have e := ow_cX2_differ_0 (40 + r)
  rw [show 0 + (40 + r) = 40 + r by omega] at e
  exact e.trans (dr_len (a := kb_cX2_differ_0) (t := tb_cX2_differ_1) (by decide +kernel))
theorem ob_cX2_differ_0 (r : Nat) {pc : Nat} {l : List UInt8} (hp : 0 + r = pc) (h : tb_cX2_differ_0.drop r = l) : (cX2_differ).data.toList.drop pc = l := by
  subst hp
  exact (ow_cX2_differ_0 r).trans h
theorem ob_cX2_differ_1 (r : Nat) {pc : Nat} {l : List UInt8} (hp : 40 + r = pc) (h : tb_cX2_differ_1.drop r = l) : (cX2_differ).data.toList.drop pc = l := by
  subst hp
  exact (ow_cX2_differ_1 r).trans h
theorem dX2_differ_0 : decode cX2_differ 0 = .ok (.iload_n 1, 1) := dn_27 (ob_cX2_differ_0 0 rfl rfl)
theorem dX2_differ_1 : decode cX2_differ 1 = .ok (.invokestatic 77, 3) := dn_184 (ob_cX2_differ_0 1 rfl rfl) rfl
theorem dX2_differ_4 : decode cX2_differ 4 = .ok (.iload_n 2, 1) := dn_28 (ob_cX2_differ_0 4 rfl rfl)
theorem dX2_differ_5 : decode cX2_differ 5 = .ok (.invokestatic 77, 3) := dn_184 (ob_cX2_differ_0 5 rfl rfl) rfl
theorem dX2_differ_8 : decode cX2_differ 8 = .ok (.iload_n 3, 1) := dn_29 (ob_cX2_differ_0 8 rfl rfl)
theorem dX2_differ_9 : decode cX2_differ 9 = .ok (.invokestatic 20, 3) := dn_184 (ob_cX2_differ_0 9 rfl rfl) rfl
theorem dX2_differ_12 : decode cX2_differ 12 = .ok (.iload_n 3, 1) := dn_29 (ob_cX2_differ_0 12 rfl rfl)
theorem dX2_differ_13 : decode cX2_differ 13 = .ok (.istore 4, 2) := dn_54 (ob_cX2_differ_0 13 rfl rfl) rfl
theorem dX2_differ_15 : decode cX2_differ 15 = .ok (.iload 4, 2) := dn_21 (ob_cX2_differ_0 15 rfl rfl) rfl
theorem dX2_differ_17 : decode cX2_differ 17 = .ok (.sipush 255, 3) := dn_17 (ob_cX2_differ_0 17 rfl rfl) (by decide +kernel)
theorem dX2_differ_20 : decode cX2_differ 20 = .ok (.if_icmp .gt 27, 3) := dn_163 (ob_cX2_differ_0 20 rfl rfl) (by decide +kernel)
theorem dX2_differ_23 : decode cX2_differ 23 = .ok (.iload 4, 2) := dn_21 (ob_cX2_differ_0 23 rfl rfl) rfl
theorem dX2_differ_25 : decode cX2_differ 25 = .ok (.iload_n 1, 1) := dn_27 (ob_cX2_differ_0 25 rfl rfl)
theorem dX2_differ_26 : decode cX2_differ 26 = .ok (.invokestatic 109, 3) := dn_184 (ob_cX2_differ_0 26 rfl rfl) rfl
theorem dX2_differ_29 : decode cX2_differ 29 = .ok (.iload 4, 2) := dn_21 (ob_cX2_differ_0 29 rfl rfl) rfl
theorem dX2_differ_31 : decode cX2_differ 31 = .ok (.iload_n 2, 1) := dn_28 (ob_cX2_differ_0 31 rfl rfl)
theorem dX2_differ_32 : decode cX2_differ 32 = .ok (.invokestatic 109, 3) := dn_184 (ob_cX2_differ_0 32 rfl rfl) rfl
theorem dX2_differ_35 : decode cX2_differ 35 = .ok (.if_icmp .eq 6, 3) := dn_159 (ob_cX2_differ_0 35 rfl rfl) (by decide +kernel)
theorem dX2_differ_38 : decode cX2_differ 38 = .ok (.iload 4, 2) := dn_21 (ob_cX2_differ_0 38 rfl rfl) rfl
theorem dX2_differ_40 : decode cX2_differ 40 = .ok (.ireturn, 1) := dn_172 (ob_cX2_differ_1 0 rfl rfl)
theorem dX2_differ_41 : decode cX2_differ 41 = .ok (.iinc 4 1, 3) := dn_132 (ob_cX2_differ_1 1 rfl rfl) rfl (by decide +kernel)
theorem dX2_differ_44 : decode cX2_differ 44 = .ok (.goto (-29), 3) := dn_167 (ob_cX2_differ_1 4 rfl rfl) (by decide +kernel)
theorem dX2_differ_47 : decode cX2_differ 47 = .ok (.iconst (-1), 1) := dn_2 (ob_cX2_differ_1 7 rfl rfl)
theorem dX2_differ_48 : decode cX2_differ 48 = .ok (.ireturn, 1) := dn_172 (ob_cX2_differ_1 8 rfl rfl)
def kb_cX2_length : List UInt8 := [42, 27, 182, 0, 16, 182, 0, 24, 172]
set_option maxRecDepth 10000 in
theorem ob_cX2_length (r : Nat) {l : List UInt8} (h : kb_cX2_length.drop r = l) : (cX2_length).data.toList.drop r = l := by
  rw [show (cX2_length).data.toList = kb_cX2_length from eqL_eq (by decide +kernel)]
  exact h
theorem dX2_length_0 : decode cX2_length 0 = .ok (.aload_n 0, 1) := dn_42 (ob_cX2_length 0 rfl)
theorem dX2_length_1 : decode cX2_length 1 = .ok (.iload_n 1, 1) := dn_27 (ob_cX2_length 1 rfl)
theorem dX2_length_2 : decode cX2_length 2 = .ok (.invokevirtual 16, 3) := dn_182 (ob_cX2_length 2 rfl) rfl
theorem dX2_length_5 : decode cX2_length 5 = .ok (.invokevirtual 24, 3) := dn_182 (ob_cX2_length 5 rfl) rfl
theorem dX2_length_8 : decode cX2_length 8 = .ok (.ireturn, 1) := dn_172 (ob_cX2_length 8 rfl)
def kb_cX2_sign : List UInt8 := [42, 27, 182, 0, 16, 78, 45, 28, 184, 0, 32, 45, 28, 182, 0, 36, 172]
set_option maxRecDepth 10000 in
theorem ob_cX2_sign (r : Nat) {l : List UInt8} (h : kb_cX2_sign.drop r = l) : (cX2_sign).data.toList.drop r = l := by
  rw [show (cX2_sign).data.toList = kb_cX2_sign from eqL_eq (by decide +kernel)]
  exact h
theorem dX2_sign_0 : decode cX2_sign 0 = .ok (.aload_n 0, 1) := dn_42 (ob_cX2_sign 0 rfl)
theorem dX2_sign_1 : decode cX2_sign 1 = .ok (.iload_n 1, 1) := dn_27 (ob_cX2_sign 1 rfl)
theorem dX2_sign_2 : decode cX2_sign 2 = .ok (.invokevirtual 16, 3) := dn_182 (ob_cX2_sign 2 rfl) rfl
theorem dX2_sign_5 : decode cX2_sign 5 = .ok (.astore_n 3, 1) := dn_78 (ob_cX2_sign 5 rfl)
theorem dX2_sign_6 : decode cX2_sign 6 = .ok (.aload_n 3, 1) := dn_45 (ob_cX2_sign 6 rfl)
theorem dX2_sign_7 : decode cX2_sign 7 = .ok (.iload_n 2, 1) := dn_28 (ob_cX2_sign 7 rfl)
theorem dX2_sign_8 : decode cX2_sign 8 = .ok (.invokestatic 32, 3) := dn_184 (ob_cX2_sign 8 rfl) rfl
theorem dX2_sign_11 : decode cX2_sign 11 = .ok (.aload_n 3, 1) := dn_45 (ob_cX2_sign 11 rfl)
theorem dX2_sign_12 : decode cX2_sign 12 = .ok (.iload_n 2, 1) := dn_28 (ob_cX2_sign 12 rfl)
theorem dX2_sign_13 : decode cX2_sign 13 = .ok (.invokevirtual 36, 3) := dn_182 (ob_cX2_sign 13 rfl) rfl
theorem dX2_sign_16 : decode cX2_sign 16 = .ok (.ireturn, 1) := dn_172 (ob_cX2_sign 16 rfl)
def kb_cX2_signs_0 : List UInt8 := [42, 27, 182, 0, 16, 77, 187, 0, 116, 89, 183, 0, 118, 78, 3, 54, 4, 21, 4, 44, 182, 0, 24, 162, 0, 19, 45, 44, 21, 4, 182, 0, 36, 184, 0, 119, 132, 4, 1, 167, 255, 234]
def kb_cX2_signs_1 : List UInt8 := [45, 182, 0, 123, 176]
def tb_cX2_signs_2 : List UInt8 := []
def tb_cX2_signs_1 : List UInt8 := kb_cX2_signs_1 ++ tb_cX2_signs_2
def tb_cX2_signs_0 : List UInt8 := kb_cX2_signs_0 ++ tb_cX2_signs_1
set_option maxRecDepth 100000 in
theorem tb_cX2_signs : (cX2_signs).data.toList = tb_cX2_signs_0 := eqL_eq (by decide +kernel)
theorem ow_cX2_signs_0 (r : Nat) : (cX2_signs).data.toList.drop (0 + r) = tb_cX2_signs_0.drop r := by rw [tb_cX2_signs, Nat.zero_add]
theorem ow_cX2_signs_1 (r : Nat) : (cX2_signs).data.toList.drop (42 + r) = tb_cX2_signs_1.drop r := by
  have e := ow_cX2_signs_0 (42 + r)
  rw [show 0 + (42 + r) = 42 + r by omega] at e
  exact e.trans (dr_len (a := kb_cX2_signs_0) (t := tb_cX2_signs_1) (by decide +kernel))
theorem ob_cX2_signs_0 (r : Nat) {pc : Nat} {l : List UInt8} (hp : 0 + r = pc) (h : tb_cX2_signs_0.drop r = l) : (cX2_signs).data.toList.drop pc = l := by
  subst hp
  exact (ow_cX2_signs_0 r).trans h
theorem ob_cX2_signs_1 (r : Nat) {pc : Nat} {l : List UInt8} (hp : 42 + r = pc) (h : tb_cX2_signs_1.drop r = l) : (cX2_signs).data.toList.drop pc = l := by
  subst hp
  exact (ow_cX2_signs_1 r).trans h
theorem dX2_signs_0 : decode cX2_signs 0 = .ok (.aload_n 0, 1) := dn_42 (ob_cX2_signs_0 0 rfl rfl)
theorem dX2_signs_1 : decode cX2_signs 1 = .ok (.iload_n 1, 1) := dn_27 (ob_cX2_signs_0 1 rfl rfl)
theorem dX2_signs_2 : decode cX2_signs 2 = .ok (.invokevirtual 16, 3) := dn_182 (ob_cX2_signs_0 2 rfl rfl) rfl
theorem dX2_signs_5 : decode cX2_signs 5 = .ok (.astore_n 2, 1) := dn_77 (ob_cX2_signs_0 5 rfl rfl)
theorem dX2_signs_6 : decode cX2_signs 6 = .ok (.new 116, 3) := dn_187 (ob_cX2_signs_0 6 rfl rfl) rfl
theorem dX2_signs_9 : decode cX2_signs 9 = .ok (.dup, 1) := dn_89 (ob_cX2_signs_0 9 rfl rfl)
theorem dX2_signs_10 : decode cX2_signs 10 = .ok (.invokespecial 118, 3) := dn_183 (ob_cX2_signs_0 10 rfl rfl) rfl
theorem dX2_signs_13 : decode cX2_signs 13 = .ok (.astore_n 3, 1) := dn_78 (ob_cX2_signs_0 13 rfl rfl)
theorem dX2_signs_14 : decode cX2_signs 14 = .ok (.iconst 0, 1) := dn_3 (ob_cX2_signs_0 14 rfl rfl)
theorem dX2_signs_15 : decode cX2_signs 15 = .ok (.istore 4, 2) := dn_54 (ob_cX2_signs_0 15 rfl rfl) rfl
theorem dX2_signs_17 : decode cX2_signs 17 = .ok (.iload 4, 2) := dn_21 (ob_cX2_signs_0 17 rfl rfl) rfl
theorem dX2_signs_19 : decode cX2_signs 19 = .ok (.aload_n 2, 1) := dn_44 (ob_cX2_signs_0 19 rfl rfl)
theorem dX2_signs_20 : decode cX2_signs 20 = .ok (.invokevirtual 24, 3) := dn_182 (ob_cX2_signs_0 20 rfl rfl) rfl
theorem dX2_signs_23 : decode cX2_signs 23 = .ok (.if_icmp .ge 19, 3) := dn_162 (ob_cX2_signs_0 23 rfl rfl) (by decide +kernel)
theorem dX2_signs_26 : decode cX2_signs 26 = .ok (.aload_n 3, 1) := dn_45 (ob_cX2_signs_0 26 rfl rfl)
theorem dX2_signs_27 : decode cX2_signs 27 = .ok (.aload_n 2, 1) := dn_44 (ob_cX2_signs_0 27 rfl rfl)
theorem dX2_signs_28 : decode cX2_signs 28 = .ok (.iload 4, 2) := dn_21 (ob_cX2_signs_0 28 rfl rfl) rfl
theorem dX2_signs_30 : decode cX2_signs 30 = .ok (.invokevirtual 36, 3) := dn_182 (ob_cX2_signs_0 30 rfl rfl) rfl
theorem dX2_signs_33 : decode cX2_signs 33 = .ok (.invokestatic 119, 3) := dn_184 (ob_cX2_signs_0 33 rfl rfl) rfl
theorem dX2_signs_36 : decode cX2_signs 36 = .ok (.iinc 4 1, 3) := dn_132 (ob_cX2_signs_0 36 rfl rfl) rfl (by decide +kernel)
theorem dX2_signs_39 : decode cX2_signs 39 = .ok (.goto (-22), 3) := dn_167 (ob_cX2_signs_0 39 rfl rfl) (by decide +kernel)
theorem dX2_signs_42 : decode cX2_signs 42 = .ok (.aload_n 3, 1) := dn_45 (ob_cX2_signs_1 0 rfl rfl)
theorem dX2_signs_43 : decode cX2_signs 43 = .ok (.invokevirtual 123, 3) := dn_182 (ob_cX2_signs_1 1 rfl rfl) rfl
theorem dX2_signs_46 : decode cX2_signs 46 = .ok (.areturn, 1) := dn_176 (ob_cX2_signs_1 4 rfl rfl)
def kb_cX2_kindsOf_0 : List UInt8 := [42, 27, 182, 0, 16, 77, 187, 0, 116, 89, 183, 0, 118, 78, 3, 54, 4, 21, 4, 44, 182, 0, 24, 162, 0, 19, 45, 44, 21, 4, 182, 0, 127, 184, 0, 119, 132, 4, 1, 167, 255, 234]
def kb_cX2_kindsOf_1 : List UInt8 := [45, 182, 0, 123, 176]
def tb_cX2_kindsOf_2 : List UInt8 := []
def tb_cX2_kindsOf_1 : List UInt8 := kb_cX2_kindsOf_1 ++ tb_cX2_kindsOf_2
def tb_cX2_kindsOf_0 : List UInt8 := kb_cX2_kindsOf_0 ++ tb_cX2_kindsOf_1
set_option maxRecDepth 100000 in
theorem tb_cX2_kindsOf : (cX2_kindsOf).data.toList = tb_cX2_kindsOf_0 := eqL_eq (by decide +kernel)
theorem ow_cX2_kindsOf_0 (r : Nat) : (cX2_kindsOf).data.toList.drop (0 + r) = tb_cX2_kindsOf_0.drop r := by rw [tb_cX2_kindsOf, Nat.zero_add]
theorem ow_cX2_kindsOf_1 (r : Nat) : (cX2_kindsOf).data.toList.drop (42 + r) = tb_cX2_kindsOf_1.drop r := by
  have e := ow_cX2_kindsOf_0 (42 + r)
  rw [show 0 + (42 + r) = 42 + r by omega] at e
  exact e.trans (dr_len (a := kb_cX2_kindsOf_0) (t := tb_cX2_kindsOf_1) (by decide +kernel))
theorem ob_cX2_kindsOf_0 (r : Nat) {pc : Nat} {l : List UInt8} (hp : 0 + r = pc) (h : tb_cX2_kindsOf_0.drop r = l) : (cX2_kindsOf).data.toList.drop pc = l := by
  subst hp
  exact (ow_cX2_kindsOf_0 r).trans h
theorem ob_cX2_kindsOf_1 (r : Nat) {pc : Nat} {l : List UInt8} (hp : 42 + r = pc) (h : tb_cX2_kindsOf_1.drop r = l) : (cX2_kindsOf).data.toList.drop pc = l := by
  subst hp
  exact (ow_cX2_kindsOf_1 r).trans h
theorem dX2_kindsOf_0 : decode cX2_kindsOf 0 = .ok (.aload_n 0, 1) := dn_42 (ob_cX2_kindsOf_0 0 rfl rfl)
theorem dX2_kindsOf_1 : decode cX2_kindsOf 1 = .ok (.iload_n 1, 1) := dn_27 (ob_cX2_kindsOf_0 1 rfl rfl)
theorem dX2_kindsOf_2 : decode cX2_kindsOf 2 = .ok (.invokevirtual 16, 3) := dn_182 (ob_cX2_kindsOf_0 2 rfl rfl) rfl
theorem dX2_kindsOf_5 : decode cX2_kindsOf 5 = .ok (.astore_n 2, 1) := dn_77 (ob_cX2_kindsOf_0 5 rfl rfl)
theorem dX2_kindsOf_6 : decode cX2_kindsOf 6 = .ok (.new 116, 3) := dn_187 (ob_cX2_kindsOf_0 6 rfl rfl) rfl
theorem dX2_kindsOf_9 : decode cX2_kindsOf 9 = .ok (.dup, 1) := dn_89 (ob_cX2_kindsOf_0 9 rfl rfl)
theorem dX2_kindsOf_10 : decode cX2_kindsOf 10 = .ok (.invokespecial 118, 3) := dn_183 (ob_cX2_kindsOf_0 10 rfl rfl) rfl
theorem dX2_kindsOf_13 : decode cX2_kindsOf 13 = .ok (.astore_n 3, 1) := dn_78 (ob_cX2_kindsOf_0 13 rfl rfl)
theorem dX2_kindsOf_14 : decode cX2_kindsOf 14 = .ok (.iconst 0, 1) := dn_3 (ob_cX2_kindsOf_0 14 rfl rfl)
theorem dX2_kindsOf_15 : decode cX2_kindsOf 15 = .ok (.istore 4, 2) := dn_54 (ob_cX2_kindsOf_0 15 rfl rfl) rfl
theorem dX2_kindsOf_17 : decode cX2_kindsOf 17 = .ok (.iload 4, 2) := dn_21 (ob_cX2_kindsOf_0 17 rfl rfl) rfl
theorem dX2_kindsOf_19 : decode cX2_kindsOf 19 = .ok (.aload_n 2, 1) := dn_44 (ob_cX2_kindsOf_0 19 rfl rfl)
theorem dX2_kindsOf_20 : decode cX2_kindsOf 20 = .ok (.invokevirtual 24, 3) := dn_182 (ob_cX2_kindsOf_0 20 rfl rfl) rfl
theorem dX2_kindsOf_23 : decode cX2_kindsOf 23 = .ok (.if_icmp .ge 19, 3) := dn_162 (ob_cX2_kindsOf_0 23 rfl rfl) (by decide +kernel)
theorem dX2_kindsOf_26 : decode cX2_kindsOf 26 = .ok (.aload_n 3, 1) := dn_45 (ob_cX2_kindsOf_0 26 rfl rfl)
theorem dX2_kindsOf_27 : decode cX2_kindsOf 27 = .ok (.aload_n 2, 1) := dn_44 (ob_cX2_kindsOf_0 27 rfl rfl)
theorem dX2_kindsOf_28 : decode cX2_kindsOf 28 = .ok (.iload 4, 2) := dn_21 (ob_cX2_kindsOf_0 28 rfl rfl) rfl
theorem dX2_kindsOf_30 : decode cX2_kindsOf 30 = .ok (.invokevirtual 127, 3) := dn_182 (ob_cX2_kindsOf_0 30 rfl rfl) rfl
theorem dX2_kindsOf_33 : decode cX2_kindsOf 33 = .ok (.invokestatic 119, 3) := dn_184 (ob_cX2_kindsOf_0 33 rfl rfl) rfl
theorem dX2_kindsOf_36 : decode cX2_kindsOf 36 = .ok (.iinc 4 1, 3) := dn_132 (ob_cX2_kindsOf_0 36 rfl rfl) rfl (by decide +kernel)
theorem dX2_kindsOf_39 : decode cX2_kindsOf 39 = .ok (.goto (-22), 3) := dn_167 (ob_cX2_kindsOf_0 39 rfl rfl) (by decide +kernel)
theorem dX2_kindsOf_42 : decode cX2_kindsOf 42 = .ok (.aload_n 3, 1) := dn_45 (ob_cX2_kindsOf_1 0 rfl rfl)
theorem dX2_kindsOf_43 : decode cX2_kindsOf 43 = .ok (.invokevirtual 123, 3) := dn_182 (ob_cX2_kindsOf_1 1 rfl rfl) rfl
theorem dX2_kindsOf_46 : decode cX2_kindsOf 46 = .ok (.areturn, 1) := dn_176 (ob_cX2_kindsOf_1 4 rfl rfl)
def kb_cX2_count : List UInt8 := [42, 27, 182, 0, 16, 78, 28, 184, 0, 77, 45, 28, 182, 0, 80, 184, 0, 130, 172]
set_option maxRecDepth 10000 in
theorem ob_cX2_count (r : Nat) {l : List UInt8} (h : kb_cX2_count.drop r = l) : (cX2_count).data.toList.drop r = l := by
  rw [show (cX2_count).data.toList = kb_cX2_count from eqL_eq (by decide +kernel)]
  exact h
theorem dX2_count_0 : decode cX2_count 0 = .ok (.aload_n 0, 1) := dn_42 (ob_cX2_count 0 rfl)
theorem dX2_count_1 : decode cX2_count 1 = .ok (.iload_n 1, 1) := dn_27 (ob_cX2_count 1 rfl)
theorem dX2_count_2 : decode cX2_count 2 = .ok (.invokevirtual 16, 3) := dn_182 (ob_cX2_count 2 rfl) rfl
theorem dX2_count_5 : decode cX2_count 5 = .ok (.astore_n 3, 1) := dn_78 (ob_cX2_count 5 rfl)
theorem dX2_count_6 : decode cX2_count 6 = .ok (.iload_n 2, 1) := dn_28 (ob_cX2_count 6 rfl)
theorem dX2_count_7 : decode cX2_count 7 = .ok (.invokestatic 77, 3) := dn_184 (ob_cX2_count 7 rfl) rfl
theorem dX2_count_10 : decode cX2_count 10 = .ok (.aload_n 3, 1) := dn_45 (ob_cX2_count 10 rfl)
theorem dX2_count_11 : decode cX2_count 11 = .ok (.iload_n 2, 1) := dn_28 (ob_cX2_count 11 rfl)
theorem dX2_count_12 : decode cX2_count 12 = .ok (.invokevirtual 80, 3) := dn_182 (ob_cX2_count 12 rfl) rfl
theorem dX2_count_15 : decode cX2_count 15 = .ok (.invokestatic 130, 3) := dn_184 (ob_cX2_count 15 rfl) rfl
theorem dX2_count_18 : decode cX2_count 18 = .ok (.ireturn, 1) := dn_172 (ob_cX2_count 18 rfl)
def kb_cX2_countKind : List UInt8 := [42, 27, 182, 0, 16, 78, 28, 184, 0, 87, 45, 28, 182, 0, 90, 184, 0, 130, 172]
set_option maxRecDepth 10000 in
theorem ob_cX2_countKind (r : Nat) {l : List UInt8} (h : kb_cX2_countKind.drop r = l) : (cX2_countKind).data.toList.drop r = l := by
  rw [show (cX2_countKind).data.toList = kb_cX2_countKind from eqL_eq (by decide +kernel)]
  exact h
theorem dX2_countKind_0 : decode cX2_countKind 0 = .ok (.aload_n 0, 1) := dn_42 (ob_cX2_countKind 0 rfl)
theorem dX2_countKind_1 : decode cX2_countKind 1 = .ok (.iload_n 1, 1) := dn_27 (ob_cX2_countKind 1 rfl)
theorem dX2_countKind_2 : decode cX2_countKind 2 = .ok (.invokevirtual 16, 3) := dn_182 (ob_cX2_countKind 2 rfl) rfl
theorem dX2_countKind_5 : decode cX2_countKind 5 = .ok (.astore_n 3, 1) := dn_78 (ob_cX2_countKind 5 rfl)
theorem dX2_countKind_6 : decode cX2_countKind 6 = .ok (.iload_n 2, 1) := dn_28 (ob_cX2_countKind 6 rfl)
theorem dX2_countKind_7 : decode cX2_countKind 7 = .ok (.invokestatic 87, 3) := dn_184 (ob_cX2_countKind 7 rfl) rfl
theorem dX2_countKind_10 : decode cX2_countKind 10 = .ok (.aload_n 3, 1) := dn_45 (ob_cX2_countKind 10 rfl)
theorem dX2_countKind_11 : decode cX2_countKind 11 = .ok (.iload_n 2, 1) := dn_28 (ob_cX2_countKind 11 rfl)
theorem dX2_countKind_12 : decode cX2_countKind 12 = .ok (.invokevirtual 90, 3) := dn_182 (ob_cX2_countKind 12 rfl) rfl
theorem dX2_countKind_15 : decode cX2_countKind 15 = .ok (.invokestatic 130, 3) := dn_184 (ob_cX2_countKind 15 rfl) rfl
theorem dX2_countKind_18 : decode cX2_countKind 18 = .ok (.ireturn, 1) := dn_172 (ob_cX2_countKind 18 rfl)
def kb_cX2_isAll : List UInt8 := [42, 27, 182, 0, 16, 78, 28, 184, 0, 77, 45, 28, 182, 0, 80, 45, 182, 0, 50, 160, 0, 7, 4, 167, 0, 4, 3, 172]
set_option maxRecDepth 10000 in
theorem ob_cX2_isAll (r : Nat) {l : List UInt8} (h : kb_cX2_isAll.drop r = l) : (cX2_isAll).data.toList.drop r = l := by
  rw [show (cX2_isAll).data.toList = kb_cX2_isAll from eqL_eq (by decide +kernel)]
  exact h
theorem dX2_isAll_0 : decode cX2_isAll 0 = .ok (.aload_n 0, 1) := dn_42 (ob_cX2_isAll 0 rfl)
theorem dX2_isAll_1 : decode cX2_isAll 1 = .ok (.iload_n 1, 1) := dn_27 (ob_cX2_isAll 1 rfl)
theorem dX2_isAll_2 : decode cX2_isAll 2 = .ok (.invokevirtual 16, 3) := dn_182 (ob_cX2_isAll 2 rfl) rfl
theorem dX2_isAll_5 : decode cX2_isAll 5 = .ok (.astore_n 3, 1) := dn_78 (ob_cX2_isAll 5 rfl)
theorem dX2_isAll_6 : decode cX2_isAll 6 = .ok (.iload_n 2, 1) := dn_28 (ob_cX2_isAll 6 rfl)
theorem dX2_isAll_7 : decode cX2_isAll 7 = .ok (.invokestatic 77, 3) := dn_184 (ob_cX2_isAll 7 rfl) rfl
theorem dX2_isAll_10 : decode cX2_isAll 10 = .ok (.aload_n 3, 1) := dn_45 (ob_cX2_isAll 10 rfl)
theorem dX2_isAll_11 : decode cX2_isAll 11 = .ok (.iload_n 2, 1) := dn_28 (ob_cX2_isAll 11 rfl)
theorem dX2_isAll_12 : decode cX2_isAll 12 = .ok (.invokevirtual 80, 3) := dn_182 (ob_cX2_isAll 12 rfl) rfl
theorem dX2_isAll_15 : decode cX2_isAll 15 = .ok (.aload_n 3, 1) := dn_45 (ob_cX2_isAll 15 rfl)
theorem dX2_isAll_16 : decode cX2_isAll 16 = .ok (.invokevirtual 50, 3) := dn_182 (ob_cX2_isAll 16 rfl) rfl
theorem dX2_isAll_19 : decode cX2_isAll 19 = .ok (.if_icmp .ne 7, 3) := dn_160 (ob_cX2_isAll 19 rfl) (by decide +kernel)
theorem dX2_isAll_22 : decode cX2_isAll 22 = .ok (.iconst 1, 1) := dn_4 (ob_cX2_isAll 22 rfl)
theorem dX2_isAll_23 : decode cX2_isAll 23 = .ok (.goto 4, 3) := dn_167 (ob_cX2_isAll 23 rfl) (by decide +kernel)
theorem dX2_isAll_26 : decode cX2_isAll 26 = .ok (.iconst 0, 1) := dn_3 (ob_cX2_isAll 26 rfl)
theorem dX2_isAll_27 : decode cX2_isAll 27 = .ok (.ireturn, 1) := dn_172 (ob_cX2_isAll 27 rfl)
def kb_cX2_first_0 : List UInt8 := [42, 27, 182, 0, 16, 58, 4, 28, 184, 0, 77, 2, 54, 5, 3, 54, 6, 21, 6, 25, 4, 182, 0, 24, 162, 0, 37, 25, 4, 21, 6, 182, 0, 36, 28, 184, 0, 109, 153, 0, 17]
def kb_cX2_first_1 : List UInt8 := [29, 154, 0, 9, 21, 5, 2, 160, 0, 7, 21, 6, 54, 5, 132, 6, 1, 167, 255, 215, 21, 5, 172]
def tb_cX2_first_2 : List UInt8 := []
def tb_cX2_first_1 : List UInt8 := kb_cX2_first_1 ++ tb_cX2_first_2
def tb_cX2_first_0 : List UInt8 := kb_cX2_first_0 ++ tb_cX2_first_1
set_option maxRecDepth 100000 in
theorem tb_cX2_first : (cX2_first).data.toList = tb_cX2_first_0 := eqL_eq (by decide +kernel)
theorem ow_cX2_first_0 (r : Nat) : (cX2_first).data.toList.drop (0 + r) = tb_cX2_first_0.drop r := by rw [tb_cX2_first, Nat.zero_add]
theorem ow_cX2_first_1 (r : Nat) : (cX2_first).data.toList.drop (41 + r) = tb_cX2_first_1.drop r := by
  have e := ow_cX2_first_0 (41 + r)
  rw [show 0 + (41 + r) = 41 + r by omega] at e
  exact e.trans (dr_len (a := kb_cX2_first_0) (t := tb_cX2_first_1) (by decide +kernel))
theorem ob_cX2_first_0 (r : Nat) {pc : Nat} {l : List UInt8} (hp : 0 + r = pc) (h : tb_cX2_first_0.drop r = l) : (cX2_first).data.toList.drop pc = l := by
  subst hp
  exact (ow_cX2_first_0 r).trans h
theorem ob_cX2_first_1 (r : Nat) {pc : Nat} {l : List UInt8} (hp : 41 + r = pc) (h : tb_cX2_first_1.drop r = l) : (cX2_first).data.toList.drop pc = l := by
  subst hp
  exact (ow_cX2_first_1 r).trans h
theorem dX2_first_0 : decode cX2_first 0 = .ok (.aload_n 0, 1) := dn_42 (ob_cX2_first_0 0 rfl rfl)
theorem dX2_first_1 : decode cX2_first 1 = .ok (.iload_n 1, 1) := dn_27 (ob_cX2_first_0 1 rfl rfl)
theorem dX2_first_2 : decode cX2_first 2 = .ok (.invokevirtual 16, 3) := dn_182 (ob_cX2_first_0 2 rfl rfl) rfl
theorem dX2_first_5 : decode cX2_first 5 = .ok (.astore 4, 2) := dn_58 (ob_cX2_first_0 5 rfl rfl) rfl
theorem dX2_first_7 : decode cX2_first 7 = .ok (.iload_n 2, 1) := dn_28 (ob_cX2_first_0 7 rfl rfl)
theorem dX2_first_8 : decode cX2_first 8 = .ok (.invokestatic 77, 3) := dn_184 (ob_cX2_first_0 8 rfl rfl) rfl
theorem dX2_first_11 : decode cX2_first 11 = .ok (.iconst (-1), 1) := dn_2 (ob_cX2_first_0 11 rfl rfl)
theorem dX2_first_12 : decode cX2_first 12 = .ok (.istore 5, 2) := dn_54 (ob_cX2_first_0 12 rfl rfl) rfl
theorem dX2_first_14 : decode cX2_first 14 = .ok (.iconst 0, 1) := dn_3 (ob_cX2_first_0 14 rfl rfl)
theorem dX2_first_15 : decode cX2_first 15 = .ok (.istore 6, 2) := dn_54 (ob_cX2_first_0 15 rfl rfl) rfl
theorem dX2_first_17 : decode cX2_first 17 = .ok (.iload 6, 2) := dn_21 (ob_cX2_first_0 17 rfl rfl) rfl
theorem dX2_first_19 : decode cX2_first 19 = .ok (.aload 4, 2) := dn_25 (ob_cX2_first_0 19 rfl rfl) rfl
theorem dX2_first_21 : decode cX2_first 21 = .ok (.invokevirtual 24, 3) := dn_182 (ob_cX2_first_0 21 rfl rfl) rfl
theorem dX2_first_24 : decode cX2_first 24 = .ok (.if_icmp .ge 37, 3) := dn_162 (ob_cX2_first_0 24 rfl rfl) (by decide +kernel)
theorem dX2_first_27 : decode cX2_first 27 = .ok (.aload 4, 2) := dn_25 (ob_cX2_first_0 27 rfl rfl) rfl
theorem dX2_first_29 : decode cX2_first 29 = .ok (.iload 6, 2) := dn_21 (ob_cX2_first_0 29 rfl rfl) rfl
theorem dX2_first_31 : decode cX2_first 31 = .ok (.invokevirtual 36, 3) := dn_182 (ob_cX2_first_0 31 rfl rfl) rfl
theorem dX2_first_34 : decode cX2_first 34 = .ok (.iload_n 2, 1) := dn_28 (ob_cX2_first_0 34 rfl rfl)
theorem dX2_first_35 : decode cX2_first 35 = .ok (.invokestatic 109, 3) := dn_184 (ob_cX2_first_0 35 rfl rfl) rfl
theorem dX2_first_38 : decode cX2_first 38 = .ok (.ifCond .eq 17, 3) := dn_153 (ob_cX2_first_0 38 rfl rfl) (by decide +kernel)
theorem dX2_first_41 : decode cX2_first 41 = .ok (.iload_n 3, 1) := dn_29 (ob_cX2_first_1 0 rfl rfl)
theorem dX2_first_42 : decode cX2_first 42 = .ok (.ifCond .ne 9, 3) := dn_154 (ob_cX2_first_1 1 rfl rfl) (by decide +kernel)
theorem dX2_first_45 : decode cX2_first 45 = .ok (.iload 5, 2) := dn_21 (ob_cX2_first_1 4 rfl rfl) rfl
theorem dX2_first_47 : decode cX2_first 47 = .ok (.iconst (-1), 1) := dn_2 (ob_cX2_first_1 6 rfl rfl)
theorem dX2_first_48 : decode cX2_first 48 = .ok (.if_icmp .ne 7, 3) := dn_160 (ob_cX2_first_1 7 rfl rfl) (by decide +kernel)
theorem dX2_first_51 : decode cX2_first 51 = .ok (.iload 6, 2) := dn_21 (ob_cX2_first_1 10 rfl rfl) rfl
theorem dX2_first_53 : decode cX2_first 53 = .ok (.istore 5, 2) := dn_54 (ob_cX2_first_1 12 rfl rfl) rfl
theorem dX2_first_55 : decode cX2_first 55 = .ok (.iinc 6 1, 3) := dn_132 (ob_cX2_first_1 14 rfl rfl) rfl (by decide +kernel)
theorem dX2_first_58 : decode cX2_first 58 = .ok (.goto (-41), 3) := dn_167 (ob_cX2_first_1 17 rfl rfl) (by decide +kernel)
theorem dX2_first_61 : decode cX2_first 61 = .ok (.iload 5, 2) := dn_21 (ob_cX2_first_1 20 rfl rfl) rfl
theorem dX2_first_63 : decode cX2_first 63 = .ok (.ireturn, 1) := dn_172 (ob_cX2_first_1 22 rfl rfl)
def kb_cX2_alike_0 : List UInt8 := [42, 27, 182, 0, 16, 78, 42, 28, 182, 0, 16, 58, 4, 45, 182, 0, 24, 25, 4, 182, 0, 24, 159, 0, 5, 3, 172, 3, 54, 5, 21, 5, 45, 182, 0, 24, 162, 0, 27, 45]
def kb_cX2_alike_1 : List UInt8 := [21, 5, 182, 0, 127, 25, 4, 21, 5, 182, 0, 127, 159, 0, 5, 3, 172, 132, 5, 1, 167, 255, 226, 4, 172]
def tb_cX2_alike_2 : List UInt8 := []
def tb_cX2_alike_1 : List UInt8 := kb_cX2_alike_1 ++ tb_cX2_alike_2
def tb_cX2_alike_0 : List UInt8 := kb_cX2_alike_0 ++ tb_cX2_alike_1
set_option maxRecDepth 100000 in
theorem tb_cX2_alike : (cX2_alike).data.toList = tb_cX2_alike_0 := eqL_eq (by decide +kernel)
theorem ow_cX2_alike_0 (r : Nat) : (cX2_alike).data.toList.drop (0 + r) = tb_cX2_alike_0.drop r := by rw [tb_cX2_alike, Nat.zero_add]
theorem ow_cX2_alike_1 (r : Nat) : (cX2_alike).data.toList.drop (40 + r) = tb_cX2_alike_1.drop r := by
  have e := ow_cX2_alike_0 (40 + r)
  rw [show 0 + (40 + r) = 40 + r by omega] at e
  exact e.trans (dr_len (a := kb_cX2_alike_0) (t := tb_cX2_alike_1) (by decide +kernel))
theorem ob_cX2_alike_0 (r : Nat) {pc : Nat} {l : List UInt8} (hp : 0 + r = pc) (h : tb_cX2_alike_0.drop r = l) : (cX2_alike).data.toList.drop pc = l := by
  subst hp
  exact (ow_cX2_alike_0 r).trans h
theorem ob_cX2_alike_1 (r : Nat) {pc : Nat} {l : List UInt8} (hp : 40 + r = pc) (h : tb_cX2_alike_1.drop r = l) : (cX2_alike).data.toList.drop pc = l := by
  subst hp
  exact (ow_cX2_alike_1 r).trans h
theorem dX2_alike_0 : decode cX2_alike 0 = .ok (.aload_n 0, 1) := dn_42 (ob_cX2_alike_0 0 rfl rfl)
theorem dX2_alike_1 : decode cX2_alike 1 = .ok (.iload_n 1, 1) := dn_27 (ob_cX2_alike_0 1 rfl rfl)
theorem dX2_alike_2 : decode cX2_alike 2 = .ok (.invokevirtual 16, 3) := dn_182 (ob_cX2_alike_0 2 rfl rfl) rfl
theorem dX2_alike_5 : decode cX2_alike 5 = .ok (.astore_n 3, 1) := dn_78 (ob_cX2_alike_0 5 rfl rfl)
theorem dX2_alike_6 : decode cX2_alike 6 = .ok (.aload_n 0, 1) := dn_42 (ob_cX2_alike_0 6 rfl rfl)
theorem dX2_alike_7 : decode cX2_alike 7 = .ok (.iload_n 2, 1) := dn_28 (ob_cX2_alike_0 7 rfl rfl)
theorem dX2_alike_8 : decode cX2_alike 8 = .ok (.invokevirtual 16, 3) := dn_182 (ob_cX2_alike_0 8 rfl rfl) rfl
theorem dX2_alike_11 : decode cX2_alike 11 = .ok (.astore 4, 2) := dn_58 (ob_cX2_alike_0 11 rfl rfl) rfl
theorem dX2_alike_13 : decode cX2_alike 13 = .ok (.aload_n 3, 1) := dn_45 (ob_cX2_alike_0 13 rfl rfl)
theorem dX2_alike_14 : decode cX2_alike 14 = .ok (.invokevirtual 24, 3) := dn_182 (ob_cX2_alike_0 14 rfl rfl) rfl
theorem dX2_alike_17 : decode cX2_alike 17 = .ok (.aload 4, 2) := dn_25 (ob_cX2_alike_0 17 rfl rfl) rfl
theorem dX2_alike_19 : decode cX2_alike 19 = .ok (.invokevirtual 24, 3) := dn_182 (ob_cX2_alike_0 19 rfl rfl) rfl
theorem dX2_alike_22 : decode cX2_alike 22 = .ok (.if_icmp .eq 5, 3) := dn_159 (ob_cX2_alike_0 22 rfl rfl) (by decide +kernel)
theorem dX2_alike_25 : decode cX2_alike 25 = .ok (.iconst 0, 1) := dn_3 (ob_cX2_alike_0 25 rfl rfl)
theorem dX2_alike_26 : decode cX2_alike 26 = .ok (.ireturn, 1) := dn_172 (ob_cX2_alike_0 26 rfl rfl)
theorem dX2_alike_27 : decode cX2_alike 27 = .ok (.iconst 0, 1) := dn_3 (ob_cX2_alike_0 27 rfl rfl)
theorem dX2_alike_28 : decode cX2_alike 28 = .ok (.istore 5, 2) := dn_54 (ob_cX2_alike_0 28 rfl rfl) rfl
theorem dX2_alike_30 : decode cX2_alike 30 = .ok (.iload 5, 2) := dn_21 (ob_cX2_alike_0 30 rfl rfl) rfl
theorem dX2_alike_32 : decode cX2_alike 32 = .ok (.aload_n 3, 1) := dn_45 (ob_cX2_alike_0 32 rfl rfl)
theorem dX2_alike_33 : decode cX2_alike 33 = .ok (.invokevirtual 24, 3) := dn_182 (ob_cX2_alike_0 33 rfl rfl) rfl
theorem dX2_alike_36 : decode cX2_alike 36 = .ok (.if_icmp .ge 27, 3) := dn_162 (ob_cX2_alike_0 36 rfl rfl) (by decide +kernel)
theorem dX2_alike_39 : decode cX2_alike 39 = .ok (.aload_n 3, 1) := dn_45 (ob_cX2_alike_0 39 rfl rfl)
theorem dX2_alike_40 : decode cX2_alike 40 = .ok (.iload 5, 2) := dn_21 (ob_cX2_alike_1 0 rfl rfl) rfl
theorem dX2_alike_42 : decode cX2_alike 42 = .ok (.invokevirtual 127, 3) := dn_182 (ob_cX2_alike_1 2 rfl rfl) rfl
theorem dX2_alike_45 : decode cX2_alike 45 = .ok (.aload 4, 2) := dn_25 (ob_cX2_alike_1 5 rfl rfl) rfl
theorem dX2_alike_47 : decode cX2_alike 47 = .ok (.iload 5, 2) := dn_21 (ob_cX2_alike_1 7 rfl rfl) rfl
theorem dX2_alike_49 : decode cX2_alike 49 = .ok (.invokevirtual 127, 3) := dn_182 (ob_cX2_alike_1 9 rfl rfl) rfl
theorem dX2_alike_52 : decode cX2_alike 52 = .ok (.if_icmp .eq 5, 3) := dn_159 (ob_cX2_alike_1 12 rfl rfl) (by decide +kernel)
theorem dX2_alike_55 : decode cX2_alike 55 = .ok (.iconst 0, 1) := dn_3 (ob_cX2_alike_1 15 rfl rfl)
theorem dX2_alike_56 : decode cX2_alike 56 = .ok (.ireturn, 1) := dn_172 (ob_cX2_alike_1 16 rfl rfl)
theorem dX2_alike_57 : decode cX2_alike 57 = .ok (.iinc 5 1, 3) := dn_132 (ob_cX2_alike_1 17 rfl rfl) rfl (by decide +kernel)
theorem dX2_alike_60 : decode cX2_alike 60 = .ok (.goto (-30), 3) := dn_167 (ob_cX2_alike_1 20 rfl rfl) (by decide +kernel)
theorem dX2_alike_63 : decode cX2_alike 63 = .ok (.iconst 1, 1) := dn_4 (ob_cX2_alike_1 23 rfl rfl)
theorem dX2_alike_64 : decode cX2_alike 64 = .ok (.ireturn, 1) := dn_172 (ob_cX2_alike_1 24 rfl rfl)
def kb_cX2_isName : List UInt8 := [42, 27, 182, 0, 16, 182, 0, 135, 172]
set_option maxRecDepth 10000 in
theorem ob_cX2_isName (r : Nat) {l : List UInt8} (h : kb_cX2_isName.drop r = l) : (cX2_isName).data.toList.drop r = l := by
  rw [show (cX2_isName).data.toList = kb_cX2_isName from eqL_eq (by decide +kernel)]
  exact h
theorem dX2_isName_0 : decode cX2_isName 0 = .ok (.aload_n 0, 1) := dn_42 (ob_cX2_isName 0 rfl)
theorem dX2_isName_1 : decode cX2_isName 1 = .ok (.iload_n 1, 1) := dn_27 (ob_cX2_isName 1 rfl)
theorem dX2_isName_2 : decode cX2_isName 2 = .ok (.invokevirtual 16, 3) := dn_182 (ob_cX2_isName 2 rfl) rfl
theorem dX2_isName_5 : decode cX2_isName 5 = .ok (.invokevirtual 135, 3) := dn_182 (ob_cX2_isName 5 rfl) rfl
theorem dX2_isName_8 : decode cX2_isName 8 = .ok (.ireturn, 1) := dn_172 (ob_cX2_isName 8 rfl)
def kb_cX2_fault : List UInt8 := [42, 27, 182, 0, 16, 182, 0, 138, 172]
set_option maxRecDepth 10000 in
theorem ob_cX2_fault (r : Nat) {l : List UInt8} (h : kb_cX2_fault.drop r = l) : (cX2_fault).data.toList.drop r = l := by
  rw [show (cX2_fault).data.toList = kb_cX2_fault from eqL_eq (by decide +kernel)]
  exact h
theorem dX2_fault_0 : decode cX2_fault 0 = .ok (.aload_n 0, 1) := dn_42 (ob_cX2_fault 0 rfl)
theorem dX2_fault_1 : decode cX2_fault 1 = .ok (.iload_n 1, 1) := dn_27 (ob_cX2_fault 1 rfl)
theorem dX2_fault_2 : decode cX2_fault 2 = .ok (.invokevirtual 16, 3) := dn_182 (ob_cX2_fault 2 rfl) rfl
theorem dX2_fault_5 : decode cX2_fault 5 = .ok (.invokevirtual 138, 3) := dn_182 (ob_cX2_fault 5 rfl) rfl
theorem dX2_fault_8 : decode cX2_fault 8 = .ok (.ireturn, 1) := dn_172 (ob_cX2_fault 8 rfl)
def kb_cX2_sort_0 : List UInt8 := [42, 27, 182, 0, 16, 58, 4, 28, 155, 0, 17, 28, 29, 162, 0, 12, 29, 25, 4, 182, 0, 24, 164, 0, 11, 187, 0, 47, 89, 183, 0, 49, 191, 25, 4, 28, 29, 182, 0, 141]
def kb_cX2_sort_1 : List UInt8 := [172]
def tb_cX2_sort_2 : List UInt8 := []
def tb_cX2_sort_1 : List UInt8 := kb_cX2_sort_1 ++ tb_cX2_sort_2
def tb_cX2_sort_0 : List UInt8 := kb_cX2_sort_0 ++ tb_cX2_sort_1
set_option maxRecDepth 100000 in
theorem tb_cX2_sort : (cX2_sort).data.toList = tb_cX2_sort_0 := eqL_eq (by decide +kernel)
theorem ow_cX2_sort_0 (r : Nat) : (cX2_sort).data.toList.drop (0 + r) = tb_cX2_sort_0.drop r := by rw [tb_cX2_sort, Nat.zero_add]
theorem ow_cX2_sort_1 (r : Nat) : (cX2_sort).data.toList.drop (40 + r) = tb_cX2_sort_1.drop r := by
  have e := ow_cX2_sort_0 (40 + r)
  rw [show 0 + (40 + r) = 40 + r by omega] at e
  exact e.trans (dr_len (a := kb_cX2_sort_0) (t := tb_cX2_sort_1) (by decide +kernel))
theorem ob_cX2_sort_0 (r : Nat) {pc : Nat} {l : List UInt8} (hp : 0 + r = pc) (h : tb_cX2_sort_0.drop r = l) : (cX2_sort).data.toList.drop pc = l := by
  subst hp
  exact (ow_cX2_sort_0 r).trans h
theorem ob_cX2_sort_1 (r : Nat) {pc : Nat} {l : List UInt8} (hp : 40 + r = pc) (h : tb_cX2_sort_1.drop r = l) : (cX2_sort).data.toList.drop pc = l := by
  subst hp
  exact (ow_cX2_sort_1 r).trans h
theorem dX2_sort_0 : decode cX2_sort 0 = .ok (.aload_n 0, 1) := dn_42 (ob_cX2_sort_0 0 rfl rfl)
theorem dX2_sort_1 : decode cX2_sort 1 = .ok (.iload_n 1, 1) := dn_27 (ob_cX2_sort_0 1 rfl rfl)
theorem dX2_sort_2 : decode cX2_sort 2 = .ok (.invokevirtual 16, 3) := dn_182 (ob_cX2_sort_0 2 rfl rfl) rfl
theorem dX2_sort_5 : decode cX2_sort 5 = .ok (.astore 4, 2) := dn_58 (ob_cX2_sort_0 5 rfl rfl) rfl
theorem dX2_sort_7 : decode cX2_sort 7 = .ok (.iload_n 2, 1) := dn_28 (ob_cX2_sort_0 7 rfl rfl)
theorem dX2_sort_8 : decode cX2_sort 8 = .ok (.ifCond .lt 17, 3) := dn_155 (ob_cX2_sort_0 8 rfl rfl) (by decide +kernel)
theorem dX2_sort_11 : decode cX2_sort 11 = .ok (.iload_n 2, 1) := dn_28 (ob_cX2_sort_0 11 rfl rfl)
theorem dX2_sort_12 : decode cX2_sort 12 = .ok (.iload_n 3, 1) := dn_29 (ob_cX2_sort_0 12 rfl rfl)
theorem dX2_sort_13 : decode cX2_sort 13 = .ok (.if_icmp .ge 12, 3) := dn_162 (ob_cX2_sort_0 13 rfl rfl) (by decide +kernel)
theorem dX2_sort_16 : decode cX2_sort 16 = .ok (.iload_n 3, 1) := dn_29 (ob_cX2_sort_0 16 rfl rfl)
theorem dX2_sort_17 : decode cX2_sort 17 = .ok (.aload 4, 2) := dn_25 (ob_cX2_sort_0 17 rfl rfl) rfl
theorem dX2_sort_19 : decode cX2_sort 19 = .ok (.invokevirtual 24, 3) := dn_182 (ob_cX2_sort_0 19 rfl rfl) rfl
theorem dX2_sort_22 : decode cX2_sort 22 = .ok (.if_icmp .le 11, 3) := dn_164 (ob_cX2_sort_0 22 rfl rfl) (by decide +kernel)
theorem dX2_sort_25 : decode cX2_sort 25 = .ok (.new 47, 3) := dn_187 (ob_cX2_sort_0 25 rfl rfl) rfl
theorem dX2_sort_28 : decode cX2_sort 28 = .ok (.dup, 1) := dn_89 (ob_cX2_sort_0 28 rfl rfl)
theorem dX2_sort_29 : decode cX2_sort 29 = .ok (.invokespecial 49, 3) := dn_183 (ob_cX2_sort_0 29 rfl rfl) rfl
theorem dX2_sort_32 : decode cX2_sort 32 = .ok (.athrow, 1) := dn_191 (ob_cX2_sort_0 32 rfl rfl)
theorem dX2_sort_33 : decode cX2_sort 33 = .ok (.aload 4, 2) := dn_25 (ob_cX2_sort_0 33 rfl rfl) rfl
theorem dX2_sort_35 : decode cX2_sort 35 = .ok (.iload_n 2, 1) := dn_28 (ob_cX2_sort_0 35 rfl rfl)
theorem dX2_sort_36 : decode cX2_sort 36 = .ok (.iload_n 3, 1) := dn_29 (ob_cX2_sort_0 36 rfl rfl)
theorem dX2_sort_37 : decode cX2_sort 37 = .ok (.invokevirtual 141, 3) := dn_182 (ob_cX2_sort_0 37 rfl rfl) rfl
theorem dX2_sort_40 : decode cX2_sort 40 = .ok (.ireturn, 1) := dn_172 (ob_cX2_sort_1 0 rfl rfl)
def kb_cX2_longest : List UInt8 := [42, 27, 182, 0, 16, 78, 45, 28, 184, 0, 32, 45, 28, 182, 0, 97, 172]
set_option maxRecDepth 10000 in
theorem ob_cX2_longest (r : Nat) {l : List UInt8} (h : kb_cX2_longest.drop r = l) : (cX2_longest).data.toList.drop r = l := by
  rw [show (cX2_longest).data.toList = kb_cX2_longest from eqL_eq (by decide +kernel)]
  exact h
theorem dX2_longest_0 : decode cX2_longest 0 = .ok (.aload_n 0, 1) := dn_42 (ob_cX2_longest 0 rfl)
theorem dX2_longest_1 : decode cX2_longest 1 = .ok (.iload_n 1, 1) := dn_27 (ob_cX2_longest 1 rfl)
theorem dX2_longest_2 : decode cX2_longest 2 = .ok (.invokevirtual 16, 3) := dn_182 (ob_cX2_longest 2 rfl) rfl
theorem dX2_longest_5 : decode cX2_longest 5 = .ok (.astore_n 3, 1) := dn_78 (ob_cX2_longest 5 rfl)
theorem dX2_longest_6 : decode cX2_longest 6 = .ok (.aload_n 3, 1) := dn_45 (ob_cX2_longest 6 rfl)
theorem dX2_longest_7 : decode cX2_longest 7 = .ok (.iload_n 2, 1) := dn_28 (ob_cX2_longest 7 rfl)
theorem dX2_longest_8 : decode cX2_longest 8 = .ok (.invokestatic 32, 3) := dn_184 (ob_cX2_longest 8 rfl) rfl
theorem dX2_longest_11 : decode cX2_longest 11 = .ok (.aload_n 3, 1) := dn_45 (ob_cX2_longest 11 rfl)
theorem dX2_longest_12 : decode cX2_longest 12 = .ok (.iload_n 2, 1) := dn_28 (ob_cX2_longest 12 rfl)
theorem dX2_longest_13 : decode cX2_longest 13 = .ok (.invokevirtual 97, 3) := dn_182 (ob_cX2_longest 13 rfl) rfl
theorem dX2_longest_16 : decode cX2_longest 16 = .ok (.ireturn, 1) := dn_172 (ob_cX2_longest 16 rfl)
def kb_cX2_pieces : List UInt8 := [42, 27, 182, 0, 16, 182, 0, 145, 184, 0, 130, 172]
set_option maxRecDepth 10000 in
theorem ob_cX2_pieces (r : Nat) {l : List UInt8} (h : kb_cX2_pieces.drop r = l) : (cX2_pieces).data.toList.drop r = l := by
  rw [show (cX2_pieces).data.toList = kb_cX2_pieces from eqL_eq (by decide +kernel)]
  exact h
theorem dX2_pieces_0 : decode cX2_pieces 0 = .ok (.aload_n 0, 1) := dn_42 (ob_cX2_pieces 0 rfl)
theorem dX2_pieces_1 : decode cX2_pieces 1 = .ok (.iload_n 1, 1) := dn_27 (ob_cX2_pieces 1 rfl)
theorem dX2_pieces_2 : decode cX2_pieces 2 = .ok (.invokevirtual 16, 3) := dn_182 (ob_cX2_pieces 2 rfl) rfl
theorem dX2_pieces_5 : decode cX2_pieces 5 = .ok (.invokevirtual 145, 3) := dn_182 (ob_cX2_pieces 5 rfl) rfl
theorem dX2_pieces_8 : decode cX2_pieces 8 = .ok (.invokestatic 130, 3) := dn_184 (ob_cX2_pieces 8 rfl) rfl
theorem dX2_pieces_11 : decode cX2_pieces 11 = .ok (.ireturn, 1) := dn_172 (ob_cX2_pieces 11 rfl)
def kb_cX2_piece_0 : List UInt8 := [42, 27, 182, 0, 16, 58, 4, 25, 4, 28, 184, 0, 93, 54, 5, 29, 170, 0, 0, 0, 0, 0, 0, 50, 0, 0, 0, 0, 0, 0, 0, 2, 0, 0, 0, 28, 0, 0, 0, 31, 0, 0, 0, 39]
def kb_cX2_piece_1 : List UInt8 := [21, 5, 172, 25, 4, 21, 5, 182, 0, 97, 172, 25, 4, 21, 5, 182, 0, 36, 184, 0, 148, 172, 187, 0, 71, 89, 183, 0, 73, 191]
def tb_cX2_piece_2 : List UInt8 := []
def tb_cX2_piece_1 : List UInt8 := kb_cX2_piece_1 ++ tb_cX2_piece_2
def tb_cX2_piece_0 : List UInt8 := kb_cX2_piece_0 ++ tb_cX2_piece_1
set_option maxRecDepth 100000 in
theorem tb_cX2_piece : (cX2_piece).data.toList = tb_cX2_piece_0 := eqL_eq (by decide +kernel)
theorem ow_cX2_piece_0 (r : Nat) : (cX2_piece).data.toList.drop (0 + r) = tb_cX2_piece_0.drop r := by rw [tb_cX2_piece, Nat.zero_add]
theorem ow_cX2_piece_1 (r : Nat) : (cX2_piece).data.toList.drop (44 + r) = tb_cX2_piece_1.drop r := by
  have e := ow_cX2_piece_0 (44 + r)
  rw [show 0 + (44 + r) = 44 + r by omega] at e
  exact e.trans (dr_len (a := kb_cX2_piece_0) (t := tb_cX2_piece_1) (by decide +kernel))
theorem ob_cX2_piece_0 (r : Nat) {pc : Nat} {l : List UInt8} (hp : 0 + r = pc) (h : tb_cX2_piece_0.drop r = l) : (cX2_piece).data.toList.drop pc = l := by
  subst hp
  exact (ow_cX2_piece_0 r).trans h
theorem ob_cX2_piece_1 (r : Nat) {pc : Nat} {l : List UInt8} (hp : 44 + r = pc) (h : tb_cX2_piece_1.drop r = l) : (cX2_piece).data.toList.drop pc = l := by
  subst hp
  exact (ow_cX2_piece_1 r).trans h
theorem dX2_piece_0 : decode cX2_piece 0 = .ok (.aload_n 0, 1) := dn_42 (ob_cX2_piece_0 0 rfl rfl)
theorem dX2_piece_1 : decode cX2_piece 1 = .ok (.iload_n 1, 1) := dn_27 (ob_cX2_piece_0 1 rfl rfl)
theorem dX2_piece_2 : decode cX2_piece 2 = .ok (.invokevirtual 16, 3) := dn_182 (ob_cX2_piece_0 2 rfl rfl) rfl
theorem dX2_piece_5 : decode cX2_piece 5 = .ok (.astore 4, 2) := dn_58 (ob_cX2_piece_0 5 rfl rfl) rfl
theorem dX2_piece_7 : decode cX2_piece 7 = .ok (.aload 4, 2) := dn_25 (ob_cX2_piece_0 7 rfl rfl) rfl
theorem dX2_piece_9 : decode cX2_piece 9 = .ok (.iload_n 2, 1) := dn_28 (ob_cX2_piece_0 9 rfl rfl)
theorem dX2_piece_10 : decode cX2_piece 10 = .ok (.invokestatic 93, 3) := dn_184 (ob_cX2_piece_0 10 rfl rfl) rfl
theorem dX2_piece_13 : decode cX2_piece 13 = .ok (.istore 5, 2) := dn_54 (ob_cX2_piece_0 13 rfl rfl) rfl
theorem dX2_piece_15 : decode cX2_piece 15 = .ok (.iload_n 3, 1) := dn_29 (ob_cX2_piece_0 15 rfl rfl)
theorem dX2_piece_16 : decode cX2_piece 16 = .ok (.tableswitch 50 0 2 #[28, 31, 39], 28) := by decide +kernel
theorem dX2_piece_44 : decode cX2_piece 44 = .ok (.iload 5, 2) := dn_21 (ob_cX2_piece_1 0 rfl rfl) rfl
theorem dX2_piece_46 : decode cX2_piece 46 = .ok (.ireturn, 1) := dn_172 (ob_cX2_piece_1 2 rfl rfl)
theorem dX2_piece_47 : decode cX2_piece 47 = .ok (.aload 4, 2) := dn_25 (ob_cX2_piece_1 3 rfl rfl) rfl
theorem dX2_piece_49 : decode cX2_piece 49 = .ok (.iload 5, 2) := dn_21 (ob_cX2_piece_1 5 rfl rfl) rfl
theorem dX2_piece_51 : decode cX2_piece 51 = .ok (.invokevirtual 97, 3) := dn_182 (ob_cX2_piece_1 7 rfl rfl) rfl
theorem dX2_piece_54 : decode cX2_piece 54 = .ok (.ireturn, 1) := dn_172 (ob_cX2_piece_1 10 rfl rfl)
theorem dX2_piece_55 : decode cX2_piece 55 = .ok (.aload 4, 2) := dn_25 (ob_cX2_piece_1 11 rfl rfl) rfl
theorem dX2_piece_57 : decode cX2_piece 57 = .ok (.iload 5, 2) := dn_21 (ob_cX2_piece_1 13 rfl rfl) rfl
theorem dX2_piece_59 : decode cX2_piece 59 = .ok (.invokevirtual 36, 3) := dn_182 (ob_cX2_piece_1 15 rfl rfl) rfl
theorem dX2_piece_62 : decode cX2_piece 62 = .ok (.invokestatic 148, 3) := dn_184 (ob_cX2_piece_1 18 rfl rfl) rfl
theorem dX2_piece_65 : decode cX2_piece 65 = .ok (.ireturn, 1) := dn_172 (ob_cX2_piece_1 21 rfl rfl)
theorem dX2_piece_66 : decode cX2_piece 66 = .ok (.new 71, 3) := dn_187 (ob_cX2_piece_1 22 rfl rfl) rfl
theorem dX2_piece_69 : decode cX2_piece 69 = .ok (.dup, 1) := dn_89 (ob_cX2_piece_1 25 rfl rfl)
theorem dX2_piece_70 : decode cX2_piece 70 = .ok (.invokespecial 73, 3) := dn_183 (ob_cX2_piece_1 26 rfl rfl) rfl
theorem dX2_piece_73 : decode cX2_piece 73 = .ok (.athrow, 1) := dn_191 (ob_cX2_piece_1 29 rfl rfl)
def kb_cX2_sorts_0 : List UInt8 := [42, 27, 182, 0, 16, 77, 44, 182, 0, 145, 62, 187, 0, 116, 89, 183, 0, 118, 58, 4, 3, 54, 5, 21, 5, 44, 182, 0, 24, 162, 0, 32, 29, 21, 5, 184, 0, 151, 153, 0, 17]
def kb_cX2_sorts_1 : List UInt8 := [25, 4, 44, 21, 5, 182, 0, 36, 184, 0, 148, 184, 0, 119, 132, 5, 1, 167, 255, 221, 25, 4, 182, 0, 123, 176]
def tb_cX2_sorts_2 : List UInt8 := []
def tb_cX2_sorts_1 : List UInt8 := kb_cX2_sorts_1 ++ tb_cX2_sorts_2
def tb_cX2_sorts_0 : List UInt8 := kb_cX2_sorts_0 ++ tb_cX2_sorts_1
set_option maxRecDepth 100000 in
theorem tb_cX2_sorts : (cX2_sorts).data.toList = tb_cX2_sorts_0 := eqL_eq (by decide +kernel)
theorem ow_cX2_sorts_0 (r : Nat) : (cX2_sorts).data.toList.drop (0 + r) = tb_cX2_sorts_0.drop r := by rw [tb_cX2_sorts, Nat.zero_add]
theorem ow_cX2_sorts_1 (r : Nat) : (cX2_sorts).data.toList.drop (41 + r) = tb_cX2_sorts_1.drop r := by
  have e := ow_cX2_sorts_0 (41 + r)
  rw [show 0 + (41 + r) = 41 + r by omega] at e
  exact e.trans (dr_len (a := kb_cX2_sorts_0) (t := tb_cX2_sorts_1) (by decide +kernel))
theorem ob_cX2_sorts_0 (r : Nat) {pc : Nat} {l : List UInt8} (hp : 0 + r = pc) (h : tb_cX2_sorts_0.drop r = l) : (cX2_sorts).data.toList.drop pc = l := by
  subst hp
  exact (ow_cX2_sorts_0 r).trans h
theorem ob_cX2_sorts_1 (r : Nat) {pc : Nat} {l : List UInt8} (hp : 41 + r = pc) (h : tb_cX2_sorts_1.drop r = l) : (cX2_sorts).data.toList.drop pc = l := by
  subst hp
  exact (ow_cX2_sorts_1 r).trans h
theorem dX2_sorts_0 : decode cX2_sorts 0 = .ok (.aload_n 0, 1) := dn_42 (ob_cX2_sorts_0 0 rfl rfl)
theorem dX2_sorts_1 : decode cX2_sorts 1 = .ok (.iload_n 1, 1) := dn_27 (ob_cX2_sorts_0 1 rfl rfl)
theorem dX2_sorts_2 : decode cX2_sorts 2 = .ok (.invokevirtual 16, 3) := dn_182 (ob_cX2_sorts_0 2 rfl rfl) rfl
theorem dX2_sorts_5 : decode cX2_sorts 5 = .ok (.astore_n 2, 1) := dn_77 (ob_cX2_sorts_0 5 rfl rfl)
theorem dX2_sorts_6 : decode cX2_sorts 6 = .ok (.aload_n 2, 1) := dn_44 (ob_cX2_sorts_0 6 rfl rfl)
theorem dX2_sorts_7 : decode cX2_sorts 7 = .ok (.invokevirtual 145, 3) := dn_182 (ob_cX2_sorts_0 7 rfl rfl) rfl
theorem dX2_sorts_10 : decode cX2_sorts 10 = .ok (.istore_n 3, 1) := dn_62 (ob_cX2_sorts_0 10 rfl rfl)
theorem dX2_sorts_11 : decode cX2_sorts 11 = .ok (.new 116, 3) := dn_187 (ob_cX2_sorts_0 11 rfl rfl) rfl
theorem dX2_sorts_14 : decode cX2_sorts 14 = .ok (.dup, 1) := dn_89 (ob_cX2_sorts_0 14 rfl rfl)
theorem dX2_sorts_15 : decode cX2_sorts 15 = .ok (.invokespecial 118, 3) := dn_183 (ob_cX2_sorts_0 15 rfl rfl) rfl
theorem dX2_sorts_18 : decode cX2_sorts 18 = .ok (.astore 4, 2) := dn_58 (ob_cX2_sorts_0 18 rfl rfl) rfl
theorem dX2_sorts_20 : decode cX2_sorts 20 = .ok (.iconst 0, 1) := dn_3 (ob_cX2_sorts_0 20 rfl rfl)
theorem dX2_sorts_21 : decode cX2_sorts 21 = .ok (.istore 5, 2) := dn_54 (ob_cX2_sorts_0 21 rfl rfl) rfl
theorem dX2_sorts_23 : decode cX2_sorts 23 = .ok (.iload 5, 2) := dn_21 (ob_cX2_sorts_0 23 rfl rfl) rfl
theorem dX2_sorts_25 : decode cX2_sorts 25 = .ok (.aload_n 2, 1) := dn_44 (ob_cX2_sorts_0 25 rfl rfl)
theorem dX2_sorts_26 : decode cX2_sorts 26 = .ok (.invokevirtual 24, 3) := dn_182 (ob_cX2_sorts_0 26 rfl rfl) rfl
theorem dX2_sorts_29 : decode cX2_sorts 29 = .ok (.if_icmp .ge 32, 3) := dn_162 (ob_cX2_sorts_0 29 rfl rfl) (by decide +kernel)
theorem dX2_sorts_32 : decode cX2_sorts 32 = .ok (.iload_n 3, 1) := dn_29 (ob_cX2_sorts_0 32 rfl rfl)
theorem dX2_sorts_33 : decode cX2_sorts 33 = .ok (.iload 5, 2) := dn_21 (ob_cX2_sorts_0 33 rfl rfl) rfl
theorem dX2_sorts_35 : decode cX2_sorts 35 = .ok (.invokestatic 151, 3) := dn_184 (ob_cX2_sorts_0 35 rfl rfl) rfl
theorem dX2_sorts_38 : decode cX2_sorts 38 = .ok (.ifCond .eq 17, 3) := dn_153 (ob_cX2_sorts_0 38 rfl rfl) (by decide +kernel)
theorem dX2_sorts_41 : decode cX2_sorts 41 = .ok (.aload 4, 2) := dn_25 (ob_cX2_sorts_1 0 rfl rfl) rfl
theorem dX2_sorts_43 : decode cX2_sorts 43 = .ok (.aload_n 2, 1) := dn_44 (ob_cX2_sorts_1 2 rfl rfl)
theorem dX2_sorts_44 : decode cX2_sorts 44 = .ok (.iload 5, 2) := dn_21 (ob_cX2_sorts_1 3 rfl rfl) rfl
theorem dX2_sorts_46 : decode cX2_sorts 46 = .ok (.invokevirtual 36, 3) := dn_182 (ob_cX2_sorts_1 5 rfl rfl) rfl
theorem dX2_sorts_49 : decode cX2_sorts 49 = .ok (.invokestatic 148, 3) := dn_184 (ob_cX2_sorts_1 8 rfl rfl) rfl
theorem dX2_sorts_52 : decode cX2_sorts 52 = .ok (.invokestatic 119, 3) := dn_184 (ob_cX2_sorts_1 11 rfl rfl) rfl
theorem dX2_sorts_55 : decode cX2_sorts 55 = .ok (.iinc 5 1, 3) := dn_132 (ob_cX2_sorts_1 14 rfl rfl) rfl (by decide +kernel)
theorem dX2_sorts_58 : decode cX2_sorts 58 = .ok (.goto (-35), 3) := dn_167 (ob_cX2_sorts_1 17 rfl rfl) (by decide +kernel)
theorem dX2_sorts_61 : decode cX2_sorts 61 = .ok (.aload 4, 2) := dn_25 (ob_cX2_sorts_1 20 rfl rfl) rfl
theorem dX2_sorts_63 : decode cX2_sorts 63 = .ok (.invokevirtual 123, 3) := dn_182 (ob_cX2_sorts_1 22 rfl rfl) rfl
theorem dX2_sorts_66 : decode cX2_sorts 66 = .ok (.areturn, 1) := dn_176 (ob_cX2_sorts_1 25 rfl rfl)
def kb_cX2_cuts : List UInt8 := [42, 27, 182, 0, 16, 182, 0, 145, 184, 0, 154, 172]
set_option maxRecDepth 10000 in
theorem ob_cX2_cuts (r : Nat) {l : List UInt8} (h : kb_cX2_cuts.drop r = l) : (cX2_cuts).data.toList.drop r = l := by
  rw [show (cX2_cuts).data.toList = kb_cX2_cuts from eqL_eq (by decide +kernel)]
  exact h
theorem dX2_cuts_0 : decode cX2_cuts 0 = .ok (.aload_n 0, 1) := dn_42 (ob_cX2_cuts 0 rfl)
theorem dX2_cuts_1 : decode cX2_cuts 1 = .ok (.iload_n 1, 1) := dn_27 (ob_cX2_cuts 1 rfl)
theorem dX2_cuts_2 : decode cX2_cuts 2 = .ok (.invokevirtual 16, 3) := dn_182 (ob_cX2_cuts 2 rfl) rfl
theorem dX2_cuts_5 : decode cX2_cuts 5 = .ok (.invokevirtual 145, 3) := dn_182 (ob_cX2_cuts 5 rfl) rfl
theorem dX2_cuts_8 : decode cX2_cuts 8 = .ok (.invokestatic 154, 3) := dn_184 (ob_cX2_cuts 8 rfl) rfl
theorem dX2_cuts_11 : decode cX2_cuts 11 = .ok (.ireturn, 1) := dn_172 (ob_cX2_cuts 11 rfl)
def kb_cX2_back : List UInt8 := [42, 27, 182, 0, 16, 182, 0, 157, 184, 0, 154, 172]
set_option maxRecDepth 10000 in
theorem ob_cX2_back (r : Nat) {l : List UInt8} (h : kb_cX2_back.drop r = l) : (cX2_back).data.toList.drop r = l := by
  rw [show (cX2_back).data.toList = kb_cX2_back from eqL_eq (by decide +kernel)]
  exact h
theorem dX2_back_0 : decode cX2_back 0 = .ok (.aload_n 0, 1) := dn_42 (ob_cX2_back 0 rfl)
theorem dX2_back_1 : decode cX2_back 1 = .ok (.iload_n 1, 1) := dn_27 (ob_cX2_back 1 rfl)
theorem dX2_back_2 : decode cX2_back 2 = .ok (.invokevirtual 16, 3) := dn_182 (ob_cX2_back 2 rfl) rfl
theorem dX2_back_5 : decode cX2_back 5 = .ok (.invokevirtual 157, 3) := dn_182 (ob_cX2_back 5 rfl) rfl
theorem dX2_back_8 : decode cX2_back 8 = .ok (.invokestatic 154, 3) := dn_184 (ob_cX2_back 8 rfl) rfl
theorem dX2_back_11 : decode cX2_back 11 = .ok (.ireturn, 1) := dn_172 (ob_cX2_back 11 rfl)
def kb_cX2_fewest : List UInt8 := [42, 27, 182, 0, 16, 182, 0, 160, 172]
set_option maxRecDepth 10000 in
theorem ob_cX2_fewest (r : Nat) {l : List UInt8} (h : kb_cX2_fewest.drop r = l) : (cX2_fewest).data.toList.drop r = l := by
  rw [show (cX2_fewest).data.toList = kb_cX2_fewest from eqL_eq (by decide +kernel)]
  exact h
theorem dX2_fewest_0 : decode cX2_fewest 0 = .ok (.aload_n 0, 1) := dn_42 (ob_cX2_fewest 0 rfl)
theorem dX2_fewest_1 : decode cX2_fewest 1 = .ok (.iload_n 1, 1) := dn_27 (ob_cX2_fewest 1 rfl)
theorem dX2_fewest_2 : decode cX2_fewest 2 = .ok (.invokevirtual 16, 3) := dn_182 (ob_cX2_fewest 2 rfl) rfl
theorem dX2_fewest_5 : decode cX2_fewest 5 = .ok (.invokevirtual 160, 3) := dn_182 (ob_cX2_fewest 5 rfl) rfl
theorem dX2_fewest_8 : decode cX2_fewest 8 = .ok (.ireturn, 1) := dn_172 (ob_cX2_fewest 8 rfl)
def kb_cX2_parted : List UInt8 := [42, 27, 182, 0, 16, 78, 28, 155, 0, 17, 28, 45, 182, 0, 50, 184, 0, 154, 2, 130, 126, 153, 0, 11, 187, 0, 71, 89, 183, 0, 73, 191, 45, 28, 182, 0, 163, 172]
set_option maxRecDepth 10000 in
theorem ob_cX2_parted (r : Nat) {l : List UInt8} (h : kb_cX2_parted.drop r = l) : (cX2_parted).data.toList.drop r = l := by
  rw [show (cX2_parted).data.toList = kb_cX2_parted from eqL_eq (by decide +kernel)]
  exact h
theorem dX2_parted_0 : decode cX2_parted 0 = .ok (.aload_n 0, 1) := dn_42 (ob_cX2_parted 0 rfl)
theorem dX2_parted_1 : decode cX2_parted 1 = .ok (.iload_n 1, 1) := dn_27 (ob_cX2_parted 1 rfl)
theorem dX2_parted_2 : decode cX2_parted 2 = .ok (.invokevirtual 16, 3) := dn_182 (ob_cX2_parted 2 rfl) rfl
theorem dX2_parted_5 : decode cX2_parted 5 = .ok (.astore_n 3, 1) := dn_78 (ob_cX2_parted 5 rfl)
theorem dX2_parted_6 : decode cX2_parted 6 = .ok (.iload_n 2, 1) := dn_28 (ob_cX2_parted 6 rfl)
theorem dX2_parted_7 : decode cX2_parted 7 = .ok (.ifCond .lt 17, 3) := dn_155 (ob_cX2_parted 7 rfl) (by decide +kernel)
theorem dX2_parted_10 : decode cX2_parted 10 = .ok (.iload_n 2, 1) := dn_28 (ob_cX2_parted 10 rfl)
theorem dX2_parted_11 : decode cX2_parted 11 = .ok (.aload_n 3, 1) := dn_45 (ob_cX2_parted 11 rfl)
theorem dX2_parted_12 : decode cX2_parted 12 = .ok (.invokevirtual 50, 3) := dn_182 (ob_cX2_parted 12 rfl) rfl
theorem dX2_parted_15 : decode cX2_parted 15 = .ok (.invokestatic 154, 3) := dn_184 (ob_cX2_parted 15 rfl) rfl
theorem dX2_parted_18 : decode cX2_parted 18 = .ok (.iconst (-1), 1) := dn_2 (ob_cX2_parted 18 rfl)
theorem dX2_parted_19 : decode cX2_parted 19 = .ok (.ixor, 1) := dn_130 (ob_cX2_parted 19 rfl)
theorem dX2_parted_20 : decode cX2_parted 20 = .ok (.iand, 1) := dn_126 (ob_cX2_parted 20 rfl)
theorem dX2_parted_21 : decode cX2_parted 21 = .ok (.ifCond .eq 11, 3) := dn_153 (ob_cX2_parted 21 rfl) (by decide +kernel)
theorem dX2_parted_24 : decode cX2_parted 24 = .ok (.new 71, 3) := dn_187 (ob_cX2_parted 24 rfl) rfl
theorem dX2_parted_27 : decode cX2_parted 27 = .ok (.dup, 1) := dn_89 (ob_cX2_parted 27 rfl)
theorem dX2_parted_28 : decode cX2_parted 28 = .ok (.invokespecial 73, 3) := dn_183 (ob_cX2_parted 28 rfl) rfl
theorem dX2_parted_31 : decode cX2_parted 31 = .ok (.athrow, 1) := dn_191 (ob_cX2_parted 31 rfl)
theorem dX2_parted_32 : decode cX2_parted 32 = .ok (.aload_n 3, 1) := dn_45 (ob_cX2_parted 32 rfl)
theorem dX2_parted_33 : decode cX2_parted 33 = .ok (.iload_n 2, 1) := dn_28 (ob_cX2_parted 33 rfl)
theorem dX2_parted_34 : decode cX2_parted 34 = .ok (.invokevirtual 163, 3) := dn_182 (ob_cX2_parted 34 rfl) rfl
theorem dX2_parted_37 : decode cX2_parted 37 = .ok (.ireturn, 1) := dn_172 (ob_cX2_parted 37 rfl)
def kb_cX2_house_0 : List UInt8 := [27, 170, 0, 0, 0, 0, 0, 60, 0, 0, 0, 0, 0, 0, 0, 4, 0, 0, 0, 35, 0, 0, 0, 40, 0, 0, 0, 45, 0, 0, 0, 50, 0, 0, 0, 55, 42, 182, 0, 166]
def kb_cX2_house_1 : List UInt8 := [172, 42, 180, 0, 169, 172, 42, 180, 0, 173, 172, 42, 180, 0, 176, 172, 42, 182, 0, 179, 172, 187, 0, 71, 89, 183, 0, 73, 191]
def tb_cX2_house_2 : List UInt8 := []
def tb_cX2_house_1 : List UInt8 := kb_cX2_house_1 ++ tb_cX2_house_2
def tb_cX2_house_0 : List UInt8 := kb_cX2_house_0 ++ tb_cX2_house_1
set_option maxRecDepth 100000 in
theorem tb_cX2_house : (cX2_house).data.toList = tb_cX2_house_0 := eqL_eq (by decide +kernel)
theorem ow_cX2_house_0 (r : Nat) : (cX2_house).data.toList.drop (0 + r) = tb_cX2_house_0.drop r := by rw [tb_cX2_house, Nat.zero_add]
theorem ow_cX2_house_1 (r : Nat) : (cX2_house).data.toList.drop (40 + r) = tb_cX2_house_1.drop r := by
  have e := ow_cX2_house_0 (40 + r)
  rw [show 0 + (40 + r) = 40 + r by omega] at e
  exact e.trans (dr_len (a := kb_cX2_house_0) (t := tb_cX2_house_1) (by decide +kernel))
theorem ob_cX2_house_0 (r : Nat) {pc : Nat} {l : List UInt8} (hp : 0 + r = pc) (h : tb_cX2_house_0.drop r = l) : (cX2_house).data.toList.drop pc = l := by
  subst hp
  exact (ow_cX2_house_0 r).trans h
theorem ob_cX2_house_1 (r : Nat) {pc : Nat} {l : List UInt8} (hp : 40 + r = pc) (h : tb_cX2_house_1.drop r = l) : (cX2_house).data.toList.drop pc = l := by
  subst hp
  exact (ow_cX2_house_1 r).trans h
theorem dX2_house_0 : decode cX2_house 0 = .ok (.iload_n 1, 1) := dn_27 (ob_cX2_house_0 0 rfl rfl)
theorem dX2_house_1 : decode cX2_house 1 = .ok (.tableswitch 60 0 4 #[35, 40, 45, 50, 55], 35) := by decide +kernel
theorem dX2_house_36 : decode cX2_house 36 = .ok (.aload_n 0, 1) := dn_42 (ob_cX2_house_0 36 rfl rfl)
theorem dX2_house_37 : decode cX2_house 37 = .ok (.invokevirtual 166, 3) := dn_182 (ob_cX2_house_0 37 rfl rfl) rfl
theorem dX2_house_40 : decode cX2_house 40 = .ok (.ireturn, 1) := dn_172 (ob_cX2_house_1 0 rfl rfl)
theorem dX2_house_41 : decode cX2_house 41 = .ok (.aload_n 0, 1) := dn_42 (ob_cX2_house_1 1 rfl rfl)
theorem dX2_house_42 : decode cX2_house 42 = .ok (.getfield 169, 3) := dn_180 (ob_cX2_house_1 2 rfl rfl) rfl
theorem dX2_house_45 : decode cX2_house 45 = .ok (.ireturn, 1) := dn_172 (ob_cX2_house_1 5 rfl rfl)
theorem dX2_house_46 : decode cX2_house 46 = .ok (.aload_n 0, 1) := dn_42 (ob_cX2_house_1 6 rfl rfl)
theorem dX2_house_47 : decode cX2_house 47 = .ok (.getfield 173, 3) := dn_180 (ob_cX2_house_1 7 rfl rfl) rfl
theorem dX2_house_50 : decode cX2_house 50 = .ok (.ireturn, 1) := dn_172 (ob_cX2_house_1 10 rfl rfl)
theorem dX2_house_51 : decode cX2_house 51 = .ok (.aload_n 0, 1) := dn_42 (ob_cX2_house_1 11 rfl rfl)
theorem dX2_house_52 : decode cX2_house 52 = .ok (.getfield 176, 3) := dn_180 (ob_cX2_house_1 12 rfl rfl) rfl
theorem dX2_house_55 : decode cX2_house 55 = .ok (.ireturn, 1) := dn_172 (ob_cX2_house_1 15 rfl rfl)
theorem dX2_house_56 : decode cX2_house 56 = .ok (.aload_n 0, 1) := dn_42 (ob_cX2_house_1 16 rfl rfl)
theorem dX2_house_57 : decode cX2_house 57 = .ok (.invokevirtual 179, 3) := dn_182 (ob_cX2_house_1 17 rfl rfl) rfl
theorem dX2_house_60 : decode cX2_house 60 = .ok (.ireturn, 1) := dn_172 (ob_cX2_house_1 20 rfl rfl)
theorem dX2_house_61 : decode cX2_house 61 = .ok (.new 71, 3) := dn_187 (ob_cX2_house_1 21 rfl rfl) rfl
theorem dX2_house_64 : decode cX2_house 64 = .ok (.dup, 1) := dn_89 (ob_cX2_house_1 24 rfl rfl)
theorem dX2_house_65 : decode cX2_house 65 = .ok (.invokespecial 73, 3) := dn_183 (ob_cX2_house_1 25 rfl rfl) rfl
theorem dX2_house_68 : decode cX2_house 68 = .ok (.athrow, 1) := dn_191 (ob_cX2_house_1 28 rfl rfl)
def kb_cX2_knock : List UInt8 := [42, 89, 180, 0, 176, 4, 96, 181, 0, 176, 42, 180, 0, 176, 172]
set_option maxRecDepth 10000 in
theorem ob_cX2_knock (r : Nat) {l : List UInt8} (h : kb_cX2_knock.drop r = l) : (cX2_knock).data.toList.drop r = l := by
  rw [show (cX2_knock).data.toList = kb_cX2_knock from eqL_eq (by decide +kernel)]
  exact h
theorem dX2_knock_0 : decode cX2_knock 0 = .ok (.aload_n 0, 1) := dn_42 (ob_cX2_knock 0 rfl)
theorem dX2_knock_1 : decode cX2_knock 1 = .ok (.dup, 1) := dn_89 (ob_cX2_knock 1 rfl)
theorem dX2_knock_2 : decode cX2_knock 2 = .ok (.getfield 176, 3) := dn_180 (ob_cX2_knock 2 rfl) rfl
theorem dX2_knock_5 : decode cX2_knock 5 = .ok (.iconst 1, 1) := dn_4 (ob_cX2_knock 5 rfl)
theorem dX2_knock_6 : decode cX2_knock 6 = .ok (.iadd, 1) := dn_96 (ob_cX2_knock 6 rfl)
theorem dX2_knock_7 : decode cX2_knock 7 = .ok (.putfield 176, 3) := dn_181 (ob_cX2_knock 7 rfl) rfl
theorem dX2_knock_10 : decode cX2_knock 10 = .ok (.aload_n 0, 1) := dn_42 (ob_cX2_knock 10 rfl)
theorem dX2_knock_11 : decode cX2_knock 11 = .ok (.getfield 176, 3) := dn_180 (ob_cX2_knock 11 rfl) rfl
theorem dX2_knock_14 : decode cX2_knock 14 = .ok (.ireturn, 1) := dn_172 (ob_cX2_knock 14 rfl)
def kb_cX2_isSound_0 : List UInt8 := [184, 0, 182, 60, 3, 61, 28, 6, 162, 0, 31, 27, 153, 0, 19, 42, 180, 0, 11, 28, 50, 182, 0, 185, 153, 0, 7, 4, 167, 0, 4, 3, 60, 132, 2, 1, 167, 255, 226, 27]
def kb_cX2_isSound_1 : List UInt8 := [172]
def tb_cX2_isSound_2 : List UInt8 := []
def tb_cX2_isSound_1 : List UInt8 := kb_cX2_isSound_1 ++ tb_cX2_isSound_2
def tb_cX2_isSound_0 : List UInt8 := kb_cX2_isSound_0 ++ tb_cX2_isSound_1
set_option maxRecDepth 100000 in
theorem tb_cX2_isSound : (cX2_isSound).data.toList = tb_cX2_isSound_0 := eqL_eq (by decide +kernel)
theorem ow_cX2_isSound_0 (r : Nat) : (cX2_isSound).data.toList.drop (0 + r) = tb_cX2_isSound_0.drop r := by rw [tb_cX2_isSound, Nat.zero_add]
theorem ow_cX2_isSound_1 (r : Nat) : (cX2_isSound).data.toList.drop (40 + r) = tb_cX2_isSound_1.drop r := by
  have e := ow_cX2_isSound_0 (40 + r)
  rw [show 0 + (40 + r) = 40 + r by omega] at e
  exact e.trans (dr_len (a := kb_cX2_isSound_0) (t := tb_cX2_isSound_1) (by decide +kernel))
theorem ob_cX2_isSound_0 (r : Nat) {pc : Nat} {l : List UInt8} (hp : 0 + r = pc) (h : tb_cX2_isSound_0.drop r = l) : (cX2_isSound).data.toList.drop pc = l := by
  subst hp
  exact (ow_cX2_isSound_0 r).trans h
theorem ob_cX2_isSound_1 (r : Nat) {pc : Nat} {l : List UInt8} (hp : 40 + r = pc) (h : tb_cX2_isSound_1.drop r = l) : (cX2_isSound).data.toList.drop pc = l := by
  subst hp
  exact (ow_cX2_isSound_1 r).trans h
theorem dX2_isSound_0 : decode cX2_isSound 0 = .ok (.invokestatic 182, 3) := dn_184 (ob_cX2_isSound_0 0 rfl rfl) rfl
theorem dX2_isSound_3 : decode cX2_isSound 3 = .ok (.istore_n 1, 1) := dn_60 (ob_cX2_isSound_0 3 rfl rfl)
theorem dX2_isSound_4 : decode cX2_isSound 4 = .ok (.iconst 0, 1) := dn_3 (ob_cX2_isSound_0 4 rfl rfl)
theorem dX2_isSound_5 : decode cX2_isSound 5 = .ok (.istore_n 2, 1) := dn_61 (ob_cX2_isSound_0 5 rfl rfl)
theorem dX2_isSound_6 : decode cX2_isSound 6 = .ok (.iload_n 2, 1) := dn_28 (ob_cX2_isSound_0 6 rfl rfl)
theorem dX2_isSound_7 : decode cX2_isSound 7 = .ok (.iconst 3, 1) := dn_6 (ob_cX2_isSound_0 7 rfl rfl)
theorem dX2_isSound_8 : decode cX2_isSound 8 = .ok (.if_icmp .ge 31, 3) := dn_162 (ob_cX2_isSound_0 8 rfl rfl) (by decide +kernel)
theorem dX2_isSound_11 : decode cX2_isSound 11 = .ok (.iload_n 1, 1) := dn_27 (ob_cX2_isSound_0 11 rfl rfl)
theorem dX2_isSound_12 : decode cX2_isSound 12 = .ok (.ifCond .eq 19, 3) := dn_153 (ob_cX2_isSound_0 12 rfl rfl) (by decide +kernel)
theorem dX2_isSound_15 : decode cX2_isSound 15 = .ok (.aload_n 0, 1) := dn_42 (ob_cX2_isSound_0 15 rfl rfl)
theorem dX2_isSound_16 : decode cX2_isSound 16 = .ok (.getfield 11, 3) := dn_180 (ob_cX2_isSound_0 16 rfl rfl) rfl
theorem dX2_isSound_19 : decode cX2_isSound 19 = .ok (.iload_n 2, 1) := dn_28 (ob_cX2_isSound_0 19 rfl rfl)
theorem dX2_isSound_20 : decode cX2_isSound 20 = .ok (.aaload, 1) := dn_50 (ob_cX2_isSound_0 20 rfl rfl)
theorem dX2_isSound_21 : decode cX2_isSound 21 = .ok (.invokevirtual 185, 3) := dn_182 (ob_cX2_isSound_0 21 rfl rfl) rfl
theorem dX2_isSound_24 : decode cX2_isSound 24 = .ok (.ifCond .eq 7, 3) := dn_153 (ob_cX2_isSound_0 24 rfl rfl) (by decide +kernel)
theorem dX2_isSound_27 : decode cX2_isSound 27 = .ok (.iconst 1, 1) := dn_4 (ob_cX2_isSound_0 27 rfl rfl)
theorem dX2_isSound_28 : decode cX2_isSound 28 = .ok (.goto 4, 3) := dn_167 (ob_cX2_isSound_0 28 rfl rfl) (by decide +kernel)
theorem dX2_isSound_31 : decode cX2_isSound 31 = .ok (.iconst 0, 1) := dn_3 (ob_cX2_isSound_0 31 rfl rfl)
theorem dX2_isSound_32 : decode cX2_isSound 32 = .ok (.istore_n 1, 1) := dn_60 (ob_cX2_isSound_0 32 rfl rfl)
theorem dX2_isSound_33 : decode cX2_isSound 33 = .ok (.iinc 2 1, 3) := dn_132 (ob_cX2_isSound_0 33 rfl rfl) rfl (by decide +kernel)
theorem dX2_isSound_36 : decode cX2_isSound 36 = .ok (.goto (-30), 3) := dn_167 (ob_cX2_isSound_0 36 rfl rfl) (by decide +kernel)
theorem dX2_isSound_39 : decode cX2_isSound 39 = .ok (.iload_n 1, 1) := dn_27 (ob_cX2_isSound_0 39 rfl rfl)
theorem dX2_isSound_40 : decode cX2_isSound 40 = .ok (.ireturn, 1) := dn_172 (ob_cX2_isSound_1 0 rfl rfl)
def kb_cX2_digest_0 : List UInt8 := [20, 0, 188, 64, 3, 62, 29, 6, 162, 0, 20, 42, 180, 0, 11, 29, 50, 31, 182, 0, 190, 64, 132, 3, 1, 167, 255, 237, 3, 62, 29, 7, 163, 0, 19, 31, 42, 29, 182, 0, 194]
def kb_cX2_digest_1 : List UInt8 := [184, 0, 197, 64, 132, 3, 1, 167, 255, 238, 31, 42, 182, 0, 201, 153, 0, 7, 4, 167, 0, 4, 3, 184, 0, 197, 173]
def tb_cX2_digest_2 : List UInt8 := []
def tb_cX2_digest_1 : List UInt8 := kb_cX2_digest_1 ++ tb_cX2_digest_2
def tb_cX2_digest_0 : List UInt8 := kb_cX2_digest_0 ++ tb_cX2_digest_1
set_option maxRecDepth 100000 in
theorem tb_cX2_digest : (cX2_digest).data.toList = tb_cX2_digest_0 := eqL_eq (by decide +kernel)
theorem ow_cX2_digest_0 (r : Nat) : (cX2_digest).data.toList.drop (0 + r) = tb_cX2_digest_0.drop r := by rw [tb_cX2_digest, Nat.zero_add]
theorem ow_cX2_digest_1 (r : Nat) : (cX2_digest).data.toList.drop (41 + r) = tb_cX2_digest_1.drop r := by
  have e := ow_cX2_digest_0 (41 + r)
  rw [show 0 + (41 + r) = 41 + r by omega] at e
  exact e.trans (dr_len (a := kb_cX2_digest_0) (t := tb_cX2_digest_1) (by decide +kernel))
theorem ob_cX2_digest_0 (r : Nat) {pc : Nat} {l : List UInt8} (hp : 0 + r = pc) (h : tb_cX2_digest_0.drop r = l) : (cX2_digest).data.toList.drop pc = l := by
  subst hp
  exact (ow_cX2_digest_0 r).trans h
theorem ob_cX2_digest_1 (r : Nat) {pc : Nat} {l : List UInt8} (hp : 41 + r = pc) (h : tb_cX2_digest_1.drop r = l) : (cX2_digest).data.toList.drop pc = l := by
  subst hp
  exact (ow_cX2_digest_1 r).trans h
theorem dX2_digest_0 : decode cX2_digest 0 = .ok (.ldc2_w 188, 3) := dn_20 (ob_cX2_digest_0 0 rfl rfl) rfl
theorem dX2_digest_3 : decode cX2_digest 3 = .ok (.lstore_n 1, 1) := dn_64 (ob_cX2_digest_0 3 rfl rfl)
theorem dX2_digest_4 : decode cX2_digest 4 = .ok (.iconst 0, 1) := dn_3 (ob_cX2_digest_0 4 rfl rfl)
theorem dX2_digest_5 : decode cX2_digest 5 = .ok (.istore_n 3, 1) := dn_62 (ob_cX2_digest_0 5 rfl rfl)
theorem dX2_digest_6 : decode cX2_digest 6 = .ok (.iload_n 3, 1) := dn_29 (ob_cX2_digest_0 6 rfl rfl)
theorem dX2_digest_7 : decode cX2_digest 7 = .ok (.iconst 3, 1) := dn_6 (ob_cX2_digest_0 7 rfl rfl)
theorem dX2_digest_8 : decode cX2_digest 8 = .ok (.if_icmp .ge 20, 3) := dn_162 (ob_cX2_digest_0 8 rfl rfl) (by decide +kernel)
theorem dX2_digest_11 : decode cX2_digest 11 = .ok (.aload_n 0, 1) := dn_42 (ob_cX2_digest_0 11 rfl rfl)
theorem dX2_digest_12 : decode cX2_digest 12 = .ok (.getfield 11, 3) := dn_180 (ob_cX2_digest_0 12 rfl rfl) rfl
theorem dX2_digest_15 : decode cX2_digest 15 = .ok (.iload_n 3, 1) := dn_29 (ob_cX2_digest_0 15 rfl rfl)
theorem dX2_digest_16 : decode cX2_digest 16 = .ok (.aaload, 1) := dn_50 (ob_cX2_digest_0 16 rfl rfl)
theorem dX2_digest_17 : decode cX2_digest 17 = .ok (.lload_n 1, 1) := dn_31 (ob_cX2_digest_0 17 rfl rfl)
theorem dX2_digest_18 : decode cX2_digest 18 = .ok (.invokevirtual 190, 3) := dn_182 (ob_cX2_digest_0 18 rfl rfl) rfl
theorem dX2_digest_21 : decode cX2_digest 21 = .ok (.lstore_n 1, 1) := dn_64 (ob_cX2_digest_0 21 rfl rfl)
theorem dX2_digest_22 : decode cX2_digest 22 = .ok (.iinc 3 1, 3) := dn_132 (ob_cX2_digest_0 22 rfl rfl) rfl (by decide +kernel)
theorem dX2_digest_25 : decode cX2_digest 25 = .ok (.goto (-19), 3) := dn_167 (ob_cX2_digest_0 25 rfl rfl) (by decide +kernel)
theorem dX2_digest_28 : decode cX2_digest 28 = .ok (.iconst 0, 1) := dn_3 (ob_cX2_digest_0 28 rfl rfl)
theorem dX2_digest_29 : decode cX2_digest 29 = .ok (.istore_n 3, 1) := dn_62 (ob_cX2_digest_0 29 rfl rfl)
theorem dX2_digest_30 : decode cX2_digest 30 = .ok (.iload_n 3, 1) := dn_29 (ob_cX2_digest_0 30 rfl rfl)
theorem dX2_digest_31 : decode cX2_digest 31 = .ok (.iconst 4, 1) := dn_7 (ob_cX2_digest_0 31 rfl rfl)
theorem dX2_digest_32 : decode cX2_digest 32 = .ok (.if_icmp .gt 19, 3) := dn_163 (ob_cX2_digest_0 32 rfl rfl) (by decide +kernel)
theorem dX2_digest_35 : decode cX2_digest 35 = .ok (.lload_n 1, 1) := dn_31 (ob_cX2_digest_0 35 rfl rfl)
theorem dX2_digest_36 : decode cX2_digest 36 = .ok (.aload_n 0, 1) := dn_42 (ob_cX2_digest_0 36 rfl rfl)
theorem dX2_digest_37 : decode cX2_digest 37 = .ok (.iload_n 3, 1) := dn_29 (ob_cX2_digest_0 37 rfl rfl)
theorem dX2_digest_38 : decode cX2_digest 38 = .ok (.invokevirtual 194, 3) := dn_182 (ob_cX2_digest_0 38 rfl rfl) rfl
theorem dX2_digest_41 : decode cX2_digest 41 = .ok (.invokestatic 197, 3) := dn_184 (ob_cX2_digest_1 0 rfl rfl) rfl
theorem dX2_digest_44 : decode cX2_digest 44 = .ok (.lstore_n 1, 1) := dn_64 (ob_cX2_digest_1 3 rfl rfl)
theorem dX2_digest_45 : decode cX2_digest 45 = .ok (.iinc 3 1, 3) := dn_132 (ob_cX2_digest_1 4 rfl rfl) rfl (by decide +kernel)
theorem dX2_digest_48 : decode cX2_digest 48 = .ok (.goto (-18), 3) := dn_167 (ob_cX2_digest_1 7 rfl rfl) (by decide +kernel)
theorem dX2_digest_51 : decode cX2_digest 51 = .ok (.lload_n 1, 1) := dn_31 (ob_cX2_digest_1 10 rfl rfl)
theorem dX2_digest_52 : decode cX2_digest 52 = .ok (.aload_n 0, 1) := dn_42 (ob_cX2_digest_1 11 rfl rfl)
theorem dX2_digest_53 : decode cX2_digest 53 = .ok (.invokevirtual 201, 3) := dn_182 (ob_cX2_digest_1 12 rfl rfl) rfl
theorem dX2_digest_56 : decode cX2_digest 56 = .ok (.ifCond .eq 7, 3) := dn_153 (ob_cX2_digest_1 15 rfl rfl) (by decide +kernel)
theorem dX2_digest_59 : decode cX2_digest 59 = .ok (.iconst 1, 1) := dn_4 (ob_cX2_digest_1 18 rfl rfl)
theorem dX2_digest_60 : decode cX2_digest 60 = .ok (.goto 4, 3) := dn_167 (ob_cX2_digest_1 19 rfl rfl) (by decide +kernel)
theorem dX2_digest_63 : decode cX2_digest 63 = .ok (.iconst 0, 1) := dn_3 (ob_cX2_digest_1 22 rfl rfl)
theorem dX2_digest_64 : decode cX2_digest 64 = .ok (.invokestatic 197, 3) := dn_184 (ob_cX2_digest_1 23 rfl rfl) rfl
theorem dX2_digest_67 : decode cX2_digest 67 = .ok (.lreturn, 1) := dn_173 (ob_cX2_digest_1 26 rfl rfl)
def kb_cX2_textAt : List UInt8 := [27, 155, 0, 8, 27, 6, 161, 0, 11, 187, 0, 47, 89, 183, 0, 49, 191, 42, 180, 0, 11, 27, 50, 176]
set_option maxRecDepth 10000 in
theorem ob_cX2_textAt (r : Nat) {l : List UInt8} (h : kb_cX2_textAt.drop r = l) : (cX2_textAt).data.toList.drop r = l := by
  rw [show (cX2_textAt).data.toList = kb_cX2_textAt from eqL_eq (by decide +kernel)]
  exact h
theorem dX2_textAt_0 : decode cX2_textAt 0 = .ok (.iload_n 1, 1) := dn_27 (ob_cX2_textAt 0 rfl)
theorem dX2_textAt_1 : decode cX2_textAt 1 = .ok (.ifCond .lt 8, 3) := dn_155 (ob_cX2_textAt 1 rfl) (by decide +kernel)
theorem dX2_textAt_4 : decode cX2_textAt 4 = .ok (.iload_n 1, 1) := dn_27 (ob_cX2_textAt 4 rfl)
theorem dX2_textAt_5 : decode cX2_textAt 5 = .ok (.iconst 3, 1) := dn_6 (ob_cX2_textAt 5 rfl)
theorem dX2_textAt_6 : decode cX2_textAt 6 = .ok (.if_icmp .lt 11, 3) := dn_161 (ob_cX2_textAt 6 rfl) (by decide +kernel)
theorem dX2_textAt_9 : decode cX2_textAt 9 = .ok (.new 47, 3) := dn_187 (ob_cX2_textAt 9 rfl) rfl
theorem dX2_textAt_12 : decode cX2_textAt 12 = .ok (.dup, 1) := dn_89 (ob_cX2_textAt 12 rfl)
theorem dX2_textAt_13 : decode cX2_textAt 13 = .ok (.invokespecial 49, 3) := dn_183 (ob_cX2_textAt 13 rfl) rfl
theorem dX2_textAt_16 : decode cX2_textAt 16 = .ok (.athrow, 1) := dn_191 (ob_cX2_textAt 16 rfl)
theorem dX2_textAt_17 : decode cX2_textAt 17 = .ok (.aload_n 0, 1) := dn_42 (ob_cX2_textAt 17 rfl)
theorem dX2_textAt_18 : decode cX2_textAt 18 = .ok (.getfield 11, 3) := dn_180 (ob_cX2_textAt 18 rfl) rfl
theorem dX2_textAt_21 : decode cX2_textAt 21 = .ok (.iload_n 1, 1) := dn_27 (ob_cX2_textAt 21 rfl)
theorem dX2_textAt_22 : decode cX2_textAt 22 = .ok (.aaload, 1) := dn_50 (ob_cX2_textAt 22 rfl)
theorem dX2_textAt_23 : decode cX2_textAt 23 = .ok (.areturn, 1) := dn_176 (ob_cX2_textAt 23 rfl)
def kb_cX2_checkPlace : List UInt8 := [27, 155, 0, 11, 27, 42, 182, 0, 24, 161, 0, 11, 187, 0, 47, 89, 183, 0, 49, 191, 177]
set_option maxRecDepth 10000 in
theorem ob_cX2_checkPlace (r : Nat) {l : List UInt8} (h : kb_cX2_checkPlace.drop r = l) : (cX2_checkPlace).data.toList.drop r = l := by
  rw [show (cX2_checkPlace).data.toList = kb_cX2_checkPlace from eqL_eq (by decide +kernel)]
  exact h
theorem dX2_checkPlace_0 : decode cX2_checkPlace 0 = .ok (.iload_n 1, 1) := dn_27 (ob_cX2_checkPlace 0 rfl)
theorem dX2_checkPlace_1 : decode cX2_checkPlace 1 = .ok (.ifCond .lt 11, 3) := dn_155 (ob_cX2_checkPlace 1 rfl) (by decide +kernel)
theorem dX2_checkPlace_4 : decode cX2_checkPlace 4 = .ok (.iload_n 1, 1) := dn_27 (ob_cX2_checkPlace 4 rfl)
theorem dX2_checkPlace_5 : decode cX2_checkPlace 5 = .ok (.aload_n 0, 1) := dn_42 (ob_cX2_checkPlace 5 rfl)
theorem dX2_checkPlace_6 : decode cX2_checkPlace 6 = .ok (.invokevirtual 24, 3) := dn_182 (ob_cX2_checkPlace 6 rfl) rfl
theorem dX2_checkPlace_9 : decode cX2_checkPlace 9 = .ok (.if_icmp .lt 11, 3) := dn_161 (ob_cX2_checkPlace 9 rfl) (by decide +kernel)
theorem dX2_checkPlace_12 : decode cX2_checkPlace 12 = .ok (.new 47, 3) := dn_187 (ob_cX2_checkPlace 12 rfl) rfl
theorem dX2_checkPlace_15 : decode cX2_checkPlace 15 = .ok (.dup, 1) := dn_89 (ob_cX2_checkPlace 15 rfl)
theorem dX2_checkPlace_16 : decode cX2_checkPlace 16 = .ok (.invokespecial 49, 3) := dn_183 (ob_cX2_checkPlace 16 rfl) rfl
theorem dX2_checkPlace_19 : decode cX2_checkPlace 19 = .ok (.athrow, 1) := dn_191 (ob_cX2_checkPlace 19 rfl)
theorem dX2_checkPlace_20 : decode cX2_checkPlace 20 = .ok (.return_, 1) := dn_177 (ob_cX2_checkPlace 20 rfl)
def kb_cX2_checkSign : List UInt8 := [26, 155, 0, 10, 26, 17, 0, 255, 164, 0, 11, 187, 0, 71, 89, 183, 0, 73, 191, 177]
set_option maxRecDepth 10000 in
theorem ob_cX2_checkSign (r : Nat) {l : List UInt8} (h : kb_cX2_checkSign.drop r = l) : (cX2_checkSign).data.toList.drop r = l := by
  rw [show (cX2_checkSign).data.toList = kb_cX2_checkSign from eqL_eq (by decide +kernel)]
  exact h
theorem dX2_checkSign_0 : decode cX2_checkSign 0 = .ok (.iload_n 0, 1) := dn_26 (ob_cX2_checkSign 0 rfl)
theorem dX2_checkSign_1 : decode cX2_checkSign 1 = .ok (.ifCond .lt 10, 3) := dn_155 (ob_cX2_checkSign 1 rfl) (by decide +kernel)
theorem dX2_checkSign_4 : decode cX2_checkSign 4 = .ok (.iload_n 0, 1) := dn_26 (ob_cX2_checkSign 4 rfl)
theorem dX2_checkSign_5 : decode cX2_checkSign 5 = .ok (.sipush 255, 3) := dn_17 (ob_cX2_checkSign 5 rfl) (by decide +kernel)
theorem dX2_checkSign_8 : decode cX2_checkSign 8 = .ok (.if_icmp .le 11, 3) := dn_164 (ob_cX2_checkSign 8 rfl) (by decide +kernel)
theorem dX2_checkSign_11 : decode cX2_checkSign 11 = .ok (.new 71, 3) := dn_187 (ob_cX2_checkSign 11 rfl) rfl
theorem dX2_checkSign_14 : decode cX2_checkSign 14 = .ok (.dup, 1) := dn_89 (ob_cX2_checkSign 14 rfl)
theorem dX2_checkSign_15 : decode cX2_checkSign 15 = .ok (.invokespecial 73, 3) := dn_183 (ob_cX2_checkSign 15 rfl) rfl
theorem dX2_checkSign_18 : decode cX2_checkSign 18 = .ok (.athrow, 1) := dn_191 (ob_cX2_checkSign 18 rfl)
theorem dX2_checkSign_19 : decode cX2_checkSign 19 = .ok (.return_, 1) := dn_177 (ob_cX2_checkSign 19 rfl)
def kb_cX2_checkKind : List UInt8 := [26, 155, 0, 9, 26, 16, 30, 164, 0, 11, 187, 0, 71, 89, 183, 0, 73, 191, 177]
set_option maxRecDepth 10000 in
theorem ob_cX2_checkKind (r : Nat) {l : List UInt8} (h : kb_cX2_checkKind.drop r = l) : (cX2_checkKind).data.toList.drop r = l := by
  rw [show (cX2_checkKind).data.toList = kb_cX2_checkKind from eqL_eq (by decide +kernel)]
  exact h
theorem dX2_checkKind_0 : decode cX2_checkKind 0 = .ok (.iload_n 0, 1) := dn_26 (ob_cX2_checkKind 0 rfl)
theorem dX2_checkKind_1 : decode cX2_checkKind 1 = .ok (.ifCond .lt 9, 3) := dn_155 (ob_cX2_checkKind 1 rfl) (by decide +kernel)
theorem dX2_checkKind_4 : decode cX2_checkKind 4 = .ok (.iload_n 0, 1) := dn_26 (ob_cX2_checkKind 4 rfl)
theorem dX2_checkKind_5 : decode cX2_checkKind 5 = .ok (.bipush 30, 2) := dn_16 (ob_cX2_checkKind 5 rfl) (by decide +kernel)
theorem dX2_checkKind_7 : decode cX2_checkKind 7 = .ok (.if_icmp .le 11, 3) := dn_164 (ob_cX2_checkKind 7 rfl) (by decide +kernel)
theorem dX2_checkKind_10 : decode cX2_checkKind 10 = .ok (.new 71, 3) := dn_187 (ob_cX2_checkKind 10 rfl) rfl
theorem dX2_checkKind_13 : decode cX2_checkKind 13 = .ok (.dup, 1) := dn_89 (ob_cX2_checkKind 13 rfl)
theorem dX2_checkKind_14 : decode cX2_checkKind 14 = .ok (.invokespecial 73, 3) := dn_183 (ob_cX2_checkKind 14 rfl) rfl
theorem dX2_checkKind_17 : decode cX2_checkKind 17 = .ok (.athrow, 1) := dn_191 (ob_cX2_checkKind 17 rfl)
theorem dX2_checkKind_18 : decode cX2_checkKind 18 = .ok (.return_, 1) := dn_177 (ob_cX2_checkKind 18 rfl)
def kb_cX2_checkQuestion : List UInt8 := [26, 155, 0, 9, 26, 16, 13, 164, 0, 11, 187, 0, 71, 89, 183, 0, 73, 191, 177]
set_option maxRecDepth 10000 in
theorem ob_cX2_checkQuestion (r : Nat) {l : List UInt8} (h : kb_cX2_checkQuestion.drop r = l) : (cX2_checkQuestion).data.toList.drop r = l := by
  rw [show (cX2_checkQuestion).data.toList = kb_cX2_checkQuestion from eqL_eq (by decide +kernel)]
  exact h
theorem dX2_checkQuestion_0 : decode cX2_checkQuestion 0 = .ok (.iload_n 0, 1) := dn_26 (ob_cX2_checkQuestion 0 rfl)
theorem dX2_checkQuestion_1 : decode cX2_checkQuestion 1 = .ok (.ifCond .lt 9, 3) := dn_155 (ob_cX2_checkQuestion 1 rfl) (by decide +kernel)
theorem dX2_checkQuestion_4 : decode cX2_checkQuestion 4 = .ok (.iload_n 0, 1) := dn_26 (ob_cX2_checkQuestion 4 rfl)
theorem dX2_checkQuestion_5 : decode cX2_checkQuestion 5 = .ok (.bipush 13, 2) := dn_16 (ob_cX2_checkQuestion 5 rfl) (by decide +kernel)
theorem dX2_checkQuestion_7 : decode cX2_checkQuestion 7 = .ok (.if_icmp .le 11, 3) := dn_164 (ob_cX2_checkQuestion 7 rfl) (by decide +kernel)
theorem dX2_checkQuestion_10 : decode cX2_checkQuestion 10 = .ok (.new 71, 3) := dn_187 (ob_cX2_checkQuestion 10 rfl) rfl
theorem dX2_checkQuestion_13 : decode cX2_checkQuestion 13 = .ok (.dup, 1) := dn_89 (ob_cX2_checkQuestion 13 rfl)
theorem dX2_checkQuestion_14 : decode cX2_checkQuestion 14 = .ok (.invokespecial 73, 3) := dn_183 (ob_cX2_checkQuestion 14 rfl) rfl
theorem dX2_checkQuestion_17 : decode cX2_checkQuestion 17 = .ok (.athrow, 1) := dn_191 (ob_cX2_checkQuestion 17 rfl)
theorem dX2_checkQuestion_18 : decode cX2_checkQuestion 18 = .ok (.return_, 1) := dn_177 (ob_cX2_checkQuestion 18 rfl)
def kb_cX2_checkSpan : List UInt8 := [26, 184, 0, 20, 27, 184, 0, 20, 26, 27, 164, 0, 11, 187, 0, 71, 89, 183, 0, 73, 191, 177]
set_option maxRecDepth 10000 in
theorem ob_cX2_checkSpan (r : Nat) {l : List UInt8} (h : kb_cX2_checkSpan.drop r = l) : (cX2_checkSpan).data.toList.drop r = l := by
  rw [show (cX2_checkSpan).data.toList = kb_cX2_checkSpan from eqL_eq (by decide +kernel)]
  exact h
theorem dX2_checkSpan_0 : decode cX2_checkSpan 0 = .ok (.iload_n 0, 1) := dn_26 (ob_cX2_checkSpan 0 rfl)
theorem dX2_checkSpan_1 : decode cX2_checkSpan 1 = .ok (.invokestatic 20, 3) := dn_184 (ob_cX2_checkSpan 1 rfl) rfl
theorem dX2_checkSpan_4 : decode cX2_checkSpan 4 = .ok (.iload_n 1, 1) := dn_27 (ob_cX2_checkSpan 4 rfl)
theorem dX2_checkSpan_5 : decode cX2_checkSpan 5 = .ok (.invokestatic 20, 3) := dn_184 (ob_cX2_checkSpan 5 rfl) rfl
theorem dX2_checkSpan_8 : decode cX2_checkSpan 8 = .ok (.iload_n 0, 1) := dn_26 (ob_cX2_checkSpan 8 rfl)
theorem dX2_checkSpan_9 : decode cX2_checkSpan 9 = .ok (.iload_n 1, 1) := dn_27 (ob_cX2_checkSpan 9 rfl)
theorem dX2_checkSpan_10 : decode cX2_checkSpan 10 = .ok (.if_icmp .le 11, 3) := dn_164 (ob_cX2_checkSpan 10 rfl) (by decide +kernel)
theorem dX2_checkSpan_13 : decode cX2_checkSpan 13 = .ok (.new 71, 3) := dn_187 (ob_cX2_checkSpan 13 rfl) rfl
theorem dX2_checkSpan_16 : decode cX2_checkSpan 16 = .ok (.dup, 1) := dn_89 (ob_cX2_checkSpan 16 rfl)
theorem dX2_checkSpan_17 : decode cX2_checkSpan 17 = .ok (.invokespecial 73, 3) := dn_183 (ob_cX2_checkSpan 17 rfl) rfl
theorem dX2_checkSpan_20 : decode cX2_checkSpan 20 = .ok (.athrow, 1) := dn_191 (ob_cX2_checkSpan 20 rfl)
theorem dX2_checkSpan_21 : decode cX2_checkSpan 21 = .ok (.return_, 1) := dn_177 (ob_cX2_checkSpan 21 rfl)
def kb_cX2_beginOfPiece : List UInt8 := [42, 27, 182, 0, 204, 61, 28, 2, 160, 0, 11, 187, 0, 47, 89, 183, 0, 49, 191, 28, 172]
set_option maxRecDepth 10000 in
theorem ob_cX2_beginOfPiece (r : Nat) {l : List UInt8} (h : kb_cX2_beginOfPiece.drop r = l) : (cX2_beginOfPiece).data.toList.drop r = l := by
  rw [show (cX2_beginOfPiece).data.toList = kb_cX2_beginOfPiece from eqL_eq (by decide +kernel)]
  exact h
theorem dX2_beginOfPiece_0 : decode cX2_beginOfPiece 0 = .ok (.aload_n 0, 1) := dn_42 (ob_cX2_beginOfPiece 0 rfl)
theorem dX2_beginOfPiece_1 : decode cX2_beginOfPiece 1 = .ok (.iload_n 1, 1) := dn_27 (ob_cX2_beginOfPiece 1 rfl)
theorem dX2_beginOfPiece_2 : decode cX2_beginOfPiece 2 = .ok (.invokevirtual 204, 3) := dn_182 (ob_cX2_beginOfPiece 2 rfl) rfl
theorem dX2_beginOfPiece_5 : decode cX2_beginOfPiece 5 = .ok (.istore_n 2, 1) := dn_61 (ob_cX2_beginOfPiece 5 rfl)
theorem dX2_beginOfPiece_6 : decode cX2_beginOfPiece 6 = .ok (.iload_n 2, 1) := dn_28 (ob_cX2_beginOfPiece 6 rfl)
theorem dX2_beginOfPiece_7 : decode cX2_beginOfPiece 7 = .ok (.iconst (-1), 1) := dn_2 (ob_cX2_beginOfPiece 7 rfl)
theorem dX2_beginOfPiece_8 : decode cX2_beginOfPiece 8 = .ok (.if_icmp .ne 11, 3) := dn_160 (ob_cX2_beginOfPiece 8 rfl) (by decide +kernel)
theorem dX2_beginOfPiece_11 : decode cX2_beginOfPiece 11 = .ok (.new 47, 3) := dn_187 (ob_cX2_beginOfPiece 11 rfl) rfl
theorem dX2_beginOfPiece_14 : decode cX2_beginOfPiece 14 = .ok (.dup, 1) := dn_89 (ob_cX2_beginOfPiece 14 rfl)
theorem dX2_beginOfPiece_15 : decode cX2_beginOfPiece 15 = .ok (.invokespecial 49, 3) := dn_183 (ob_cX2_beginOfPiece 15 rfl) rfl
theorem dX2_beginOfPiece_18 : decode cX2_beginOfPiece 18 = .ok (.athrow, 1) := dn_191 (ob_cX2_beginOfPiece 18 rfl)
theorem dX2_beginOfPiece_19 : decode cX2_beginOfPiece 19 = .ok (.iload_n 2, 1) := dn_28 (ob_cX2_beginOfPiece 19 rfl)
theorem dX2_beginOfPiece_20 : decode cX2_beginOfPiece 20 = .ok (.ireturn, 1) := dn_172 (ob_cX2_beginOfPiece 20 rfl)
def kb_cX2_inserted : List UInt8 := [43, 182, 0, 24, 16, 30, 161, 0, 8, 42, 182, 0, 60, 172, 43, 28, 29, 182, 0, 74, 42, 43, 182, 0, 24, 182, 0, 44, 172]
set_option maxRecDepth 10000 in
theorem ob_cX2_inserted (r : Nat) {l : List UInt8} (h : kb_cX2_inserted.drop r = l) : (cX2_inserted).data.toList.drop r = l := by
  rw [show (cX2_inserted).data.toList = kb_cX2_inserted from eqL_eq (by decide +kernel)]
  exact h
theorem dX2_inserted_0 : decode cX2_inserted 0 = .ok (.aload_n 1, 1) := dn_43 (ob_cX2_inserted 0 rfl)
theorem dX2_inserted_1 : decode cX2_inserted 1 = .ok (.invokevirtual 24, 3) := dn_182 (ob_cX2_inserted 1 rfl) rfl
theorem dX2_inserted_4 : decode cX2_inserted 4 = .ok (.bipush 30, 2) := dn_16 (ob_cX2_inserted 4 rfl) (by decide +kernel)
theorem dX2_inserted_6 : decode cX2_inserted 6 = .ok (.if_icmp .lt 8, 3) := dn_161 (ob_cX2_inserted 6 rfl) (by decide +kernel)
theorem dX2_inserted_9 : decode cX2_inserted 9 = .ok (.aload_n 0, 1) := dn_42 (ob_cX2_inserted 9 rfl)
theorem dX2_inserted_10 : decode cX2_inserted 10 = .ok (.invokevirtual 60, 3) := dn_182 (ob_cX2_inserted 10 rfl) rfl
theorem dX2_inserted_13 : decode cX2_inserted 13 = .ok (.ireturn, 1) := dn_172 (ob_cX2_inserted 13 rfl)
theorem dX2_inserted_14 : decode cX2_inserted 14 = .ok (.aload_n 1, 1) := dn_43 (ob_cX2_inserted 14 rfl)
theorem dX2_inserted_15 : decode cX2_inserted 15 = .ok (.iload_n 2, 1) := dn_28 (ob_cX2_inserted 15 rfl)
theorem dX2_inserted_16 : decode cX2_inserted 16 = .ok (.iload_n 3, 1) := dn_29 (ob_cX2_inserted 16 rfl)
theorem dX2_inserted_17 : decode cX2_inserted 17 = .ok (.invokevirtual 74, 3) := dn_182 (ob_cX2_inserted 17 rfl) rfl
theorem dX2_inserted_20 : decode cX2_inserted 20 = .ok (.aload_n 0, 1) := dn_42 (ob_cX2_inserted 20 rfl)
theorem dX2_inserted_21 : decode cX2_inserted 21 = .ok (.aload_n 1, 1) := dn_43 (ob_cX2_inserted 21 rfl)
theorem dX2_inserted_22 : decode cX2_inserted 22 = .ok (.invokevirtual 24, 3) := dn_182 (ob_cX2_inserted 22 rfl) rfl
theorem dX2_inserted_25 : decode cX2_inserted 25 = .ok (.invokevirtual 44, 3) := dn_182 (ob_cX2_inserted 25 rfl) rfl
theorem dX2_inserted_28 : decode cX2_inserted 28 = .ok (.ireturn, 1) := dn_172 (ob_cX2_inserted 28 rfl)
def kb_cX2_sifted : List UInt8 := [42, 28, 153, 0, 7, 27, 167, 0, 11, 42, 182, 0, 50, 27, 2, 130, 126, 182, 0, 53, 172]
set_option maxRecDepth 10000 in
theorem ob_cX2_sifted (r : Nat) {l : List UInt8} (h : kb_cX2_sifted.drop r = l) : (cX2_sifted).data.toList.drop r = l := by
  rw [show (cX2_sifted).data.toList = kb_cX2_sifted from eqL_eq (by decide +kernel)]
  exact h
theorem dX2_sifted_0 : decode cX2_sifted 0 = .ok (.aload_n 0, 1) := dn_42 (ob_cX2_sifted 0 rfl)
theorem dX2_sifted_1 : decode cX2_sifted 1 = .ok (.iload_n 2, 1) := dn_28 (ob_cX2_sifted 1 rfl)
theorem dX2_sifted_2 : decode cX2_sifted 2 = .ok (.ifCond .eq 7, 3) := dn_153 (ob_cX2_sifted 2 rfl) (by decide +kernel)
theorem dX2_sifted_5 : decode cX2_sifted 5 = .ok (.iload_n 1, 1) := dn_27 (ob_cX2_sifted 5 rfl)
theorem dX2_sifted_6 : decode cX2_sifted 6 = .ok (.goto 11, 3) := dn_167 (ob_cX2_sifted 6 rfl) (by decide +kernel)
theorem dX2_sifted_9 : decode cX2_sifted 9 = .ok (.aload_n 0, 1) := dn_42 (ob_cX2_sifted 9 rfl)
theorem dX2_sifted_10 : decode cX2_sifted 10 = .ok (.invokevirtual 50, 3) := dn_182 (ob_cX2_sifted 10 rfl) rfl
theorem dX2_sifted_13 : decode cX2_sifted 13 = .ok (.iload_n 1, 1) := dn_27 (ob_cX2_sifted 13 rfl)
theorem dX2_sifted_14 : decode cX2_sifted 14 = .ok (.iconst (-1), 1) := dn_2 (ob_cX2_sifted 14 rfl)
theorem dX2_sifted_15 : decode cX2_sifted 15 = .ok (.ixor, 1) := dn_130 (ob_cX2_sifted 15 rfl)
theorem dX2_sifted_16 : decode cX2_sifted 16 = .ok (.iand, 1) := dn_126 (ob_cX2_sifted 16 rfl)
theorem dX2_sifted_17 : decode cX2_sifted 17 = .ok (.invokevirtual 53, 3) := dn_182 (ob_cX2_sifted 17 rfl) rfl
theorem dX2_sifted_20 : decode cX2_sifted 20 = .ok (.ireturn, 1) := dn_172 (ob_cX2_sifted 20 rfl)
def kb_cX2_acted : List UInt8 := [42, 89, 180, 0, 169, 4, 96, 181, 0, 169, 27, 172]
set_option maxRecDepth 10000 in
theorem ob_cX2_acted (r : Nat) {l : List UInt8} (h : kb_cX2_acted.drop r = l) : (cX2_acted).data.toList.drop r = l := by
  rw [show (cX2_acted).data.toList = kb_cX2_acted from eqL_eq (by decide +kernel)]
  exact h
theorem dX2_acted_0 : decode cX2_acted 0 = .ok (.aload_n 0, 1) := dn_42 (ob_cX2_acted 0 rfl)
theorem dX2_acted_1 : decode cX2_acted 1 = .ok (.dup, 1) := dn_89 (ob_cX2_acted 1 rfl)
theorem dX2_acted_2 : decode cX2_acted 2 = .ok (.getfield 169, 3) := dn_180 (ob_cX2_acted 2 rfl) rfl
theorem dX2_acted_5 : decode cX2_acted 5 = .ok (.iconst 1, 1) := dn_4 (ob_cX2_acted 5 rfl)
theorem dX2_acted_6 : decode cX2_acted 6 = .ok (.iadd, 1) := dn_96 (ob_cX2_acted 6 rfl)
theorem dX2_acted_7 : decode cX2_acted 7 = .ok (.putfield 169, 3) := dn_181 (ob_cX2_acted 7 rfl) rfl
theorem dX2_acted_10 : decode cX2_acted 10 = .ok (.iload_n 1, 1) := dn_27 (ob_cX2_acted 10 rfl)
theorem dX2_acted_11 : decode cX2_acted 11 = .ok (.ireturn, 1) := dn_172 (ob_cX2_acted 11 rfl)
def kb_cX2_refused : List UInt8 := [42, 89, 180, 0, 173, 4, 96, 181, 0, 173, 16, 247, 172]
set_option maxRecDepth 10000 in
theorem ob_cX2_refused (r : Nat) {l : List UInt8} (h : kb_cX2_refused.drop r = l) : (cX2_refused).data.toList.drop r = l := by
  rw [show (cX2_refused).data.toList = kb_cX2_refused from eqL_eq (by decide +kernel)]
  exact h
theorem dX2_refused_0 : decode cX2_refused 0 = .ok (.aload_n 0, 1) := dn_42 (ob_cX2_refused 0 rfl)
theorem dX2_refused_1 : decode cX2_refused 1 = .ok (.dup, 1) := dn_89 (ob_cX2_refused 1 rfl)
theorem dX2_refused_2 : decode cX2_refused 2 = .ok (.getfield 173, 3) := dn_180 (ob_cX2_refused 2 rfl) rfl
theorem dX2_refused_5 : decode cX2_refused 5 = .ok (.iconst 1, 1) := dn_4 (ob_cX2_refused 5 rfl)
theorem dX2_refused_6 : decode cX2_refused 6 = .ok (.iadd, 1) := dn_96 (ob_cX2_refused 6 rfl)
theorem dX2_refused_7 : decode cX2_refused 7 = .ok (.putfield 173, 3) := dn_181 (ob_cX2_refused 7 rfl) rfl
theorem dX2_refused_10 : decode cX2_refused 10 = .ok (.bipush (-9), 2) := dn_16 (ob_cX2_refused 10 rfl) (by decide +kernel)
theorem dX2_refused_12 : decode cX2_refused 12 = .ok (.ireturn, 1) := dn_172 (ob_cX2_refused 12 rfl)
def kb_cX2_signsInAll : List UInt8 := [3, 60, 3, 61, 28, 6, 162, 0, 21, 27, 42, 180, 0, 11, 28, 50, 182, 0, 24, 96, 60, 132, 2, 1, 167, 255, 236, 27, 172]
set_option maxRecDepth 10000 in
theorem ob_cX2_signsInAll (r : Nat) {l : List UInt8} (h : kb_cX2_signsInAll.drop r = l) : (cX2_signsInAll).data.toList.drop r = l := by
  rw [show (cX2_signsInAll).data.toList = kb_cX2_signsInAll from eqL_eq (by decide +kernel)]
  exact h
theorem dX2_signsInAll_0 : decode cX2_signsInAll 0 = .ok (.iconst 0, 1) := dn_3 (ob_cX2_signsInAll 0 rfl)
theorem dX2_signsInAll_1 : decode cX2_signsInAll 1 = .ok (.istore_n 1, 1) := dn_60 (ob_cX2_signsInAll 1 rfl)
theorem dX2_signsInAll_2 : decode cX2_signsInAll 2 = .ok (.iconst 0, 1) := dn_3 (ob_cX2_signsInAll 2 rfl)
theorem dX2_signsInAll_3 : decode cX2_signsInAll 3 = .ok (.istore_n 2, 1) := dn_61 (ob_cX2_signsInAll 3 rfl)
theorem dX2_signsInAll_4 : decode cX2_signsInAll 4 = .ok (.iload_n 2, 1) := dn_28 (ob_cX2_signsInAll 4 rfl)
theorem dX2_signsInAll_5 : decode cX2_signsInAll 5 = .ok (.iconst 3, 1) := dn_6 (ob_cX2_signsInAll 5 rfl)
theorem dX2_signsInAll_6 : decode cX2_signsInAll 6 = .ok (.if_icmp .ge 21, 3) := dn_162 (ob_cX2_signsInAll 6 rfl) (by decide +kernel)
theorem dX2_signsInAll_9 : decode cX2_signsInAll 9 = .ok (.iload_n 1, 1) := dn_27 (ob_cX2_signsInAll 9 rfl)
theorem dX2_signsInAll_10 : decode cX2_signsInAll 10 = .ok (.aload_n 0, 1) := dn_42 (ob_cX2_signsInAll 10 rfl)
theorem dX2_signsInAll_11 : decode cX2_signsInAll 11 = .ok (.getfield 11, 3) := dn_180 (ob_cX2_signsInAll 11 rfl) rfl
theorem dX2_signsInAll_14 : decode cX2_signsInAll 14 = .ok (.iload_n 2, 1) := dn_28 (ob_cX2_signsInAll 14 rfl)
theorem dX2_signsInAll_15 : decode cX2_signsInAll 15 = .ok (.aaload, 1) := dn_50 (ob_cX2_signsInAll 15 rfl)
theorem dX2_signsInAll_16 : decode cX2_signsInAll 16 = .ok (.invokevirtual 24, 3) := dn_182 (ob_cX2_signsInAll 16 rfl) rfl
theorem dX2_signsInAll_19 : decode cX2_signsInAll 19 = .ok (.iadd, 1) := dn_96 (ob_cX2_signsInAll 19 rfl)
theorem dX2_signsInAll_20 : decode cX2_signsInAll 20 = .ok (.istore_n 1, 1) := dn_60 (ob_cX2_signsInAll 20 rfl)
theorem dX2_signsInAll_21 : decode cX2_signsInAll 21 = .ok (.iinc 2 1, 3) := dn_132 (ob_cX2_signsInAll 21 rfl) rfl (by decide +kernel)
theorem dX2_signsInAll_24 : decode cX2_signsInAll 24 = .ok (.goto (-20), 3) := dn_167 (ob_cX2_signsInAll 24 rfl) (by decide +kernel)
theorem dX2_signsInAll_27 : decode cX2_signsInAll 27 = .ok (.iload_n 1, 1) := dn_27 (ob_cX2_signsInAll 27 rfl)
theorem dX2_signsInAll_28 : decode cX2_signsInAll 28 = .ok (.ireturn, 1) := dn_172 (ob_cX2_signsInAll 28 rfl)
def kb_cX2_namesInAll : List UInt8 := [3, 60, 3, 61, 28, 6, 162, 0, 24, 42, 180, 0, 11, 28, 50, 182, 0, 135, 153, 0, 6, 132, 1, 1, 132, 2, 1, 167, 255, 233, 27, 172]
set_option maxRecDepth 10000 in
theorem ob_cX2_namesInAll (r : Nat) {l : List UInt8} (h : kb_cX2_namesInAll.drop r = l) : (cX2_namesInAll).data.toList.drop r = l := by
  rw [show (cX2_namesInAll).data.toList = kb_cX2_namesInAll from eqL_eq (by decide +kernel)]
  exact h
theorem dX2_namesInAll_0 : decode cX2_namesInAll 0 = .ok (.iconst 0, 1) := dn_3 (ob_cX2_namesInAll 0 rfl)
theorem dX2_namesInAll_1 : decode cX2_namesInAll 1 = .ok (.istore_n 1, 1) := dn_60 (ob_cX2_namesInAll 1 rfl)
theorem dX2_namesInAll_2 : decode cX2_namesInAll 2 = .ok (.iconst 0, 1) := dn_3 (ob_cX2_namesInAll 2 rfl)
theorem dX2_namesInAll_3 : decode cX2_namesInAll 3 = .ok (.istore_n 2, 1) := dn_61 (ob_cX2_namesInAll 3 rfl)
theorem dX2_namesInAll_4 : decode cX2_namesInAll 4 = .ok (.iload_n 2, 1) := dn_28 (ob_cX2_namesInAll 4 rfl)
theorem dX2_namesInAll_5 : decode cX2_namesInAll 5 = .ok (.iconst 3, 1) := dn_6 (ob_cX2_namesInAll 5 rfl)
theorem dX2_namesInAll_6 : decode cX2_namesInAll 6 = .ok (.if_icmp .ge 24, 3) := dn_162 (ob_cX2_namesInAll 6 rfl) (by decide +kernel)
theorem dX2_namesInAll_9 : decode cX2_namesInAll 9 = .ok (.aload_n 0, 1) := dn_42 (ob_cX2_namesInAll 9 rfl)
theorem dX2_namesInAll_10 : decode cX2_namesInAll 10 = .ok (.getfield 11, 3) := dn_180 (ob_cX2_namesInAll 10 rfl) rfl
theorem dX2_namesInAll_13 : decode cX2_namesInAll 13 = .ok (.iload_n 2, 1) := dn_28 (ob_cX2_namesInAll 13 rfl)
theorem dX2_namesInAll_14 : decode cX2_namesInAll 14 = .ok (.aaload, 1) := dn_50 (ob_cX2_namesInAll 14 rfl)
theorem dX2_namesInAll_15 : decode cX2_namesInAll 15 = .ok (.invokevirtual 135, 3) := dn_182 (ob_cX2_namesInAll 15 rfl) rfl
theorem dX2_namesInAll_18 : decode cX2_namesInAll 18 = .ok (.ifCond .eq 6, 3) := dn_153 (ob_cX2_namesInAll 18 rfl) (by decide +kernel)
theorem dX2_namesInAll_21 : decode cX2_namesInAll 21 = .ok (.iinc 1 1, 3) := dn_132 (ob_cX2_namesInAll 21 rfl) rfl (by decide +kernel)
theorem dX2_namesInAll_24 : decode cX2_namesInAll 24 = .ok (.iinc 2 1, 3) := dn_132 (ob_cX2_namesInAll 24 rfl) rfl (by decide +kernel)
theorem dX2_namesInAll_27 : decode cX2_namesInAll 27 = .ok (.goto (-23), 3) := dn_167 (ob_cX2_namesInAll 27 rfl) (by decide +kernel)
theorem dX2_namesInAll_30 : decode cX2_namesInAll 30 = .ok (.iload_n 1, 1) := dn_27 (ob_cX2_namesInAll 30 rfl)
theorem dX2_namesInAll_31 : decode cX2_namesInAll 31 = .ok (.ireturn, 1) := dn_172 (ob_cX2_namesInAll 31 rfl)
def kb_cX2_areKindsSound_0 : List UInt8 := [3, 59, 3, 60, 27, 17, 0, 255, 163, 0, 27, 27, 184, 0, 106, 61, 28, 155, 0, 12, 28, 16, 30, 163, 0, 6, 132, 0, 1, 132, 1, 1, 167, 255, 228, 26, 17, 1, 0, 160, 0, 7]
def kb_cX2_areKindsSound_1 : List UInt8 := [4, 167, 0, 4, 3, 172]
def tb_cX2_areKindsSound_2 : List UInt8 := []
def tb_cX2_areKindsSound_1 : List UInt8 := kb_cX2_areKindsSound_1 ++ tb_cX2_areKindsSound_2
def tb_cX2_areKindsSound_0 : List UInt8 := kb_cX2_areKindsSound_0 ++ tb_cX2_areKindsSound_1
set_option maxRecDepth 100000 in
theorem tb_cX2_areKindsSound : (cX2_areKindsSound).data.toList = tb_cX2_areKindsSound_0 := eqL_eq (by decide +kernel)
theorem ow_cX2_areKindsSound_0 (r : Nat) : (cX2_areKindsSound).data.toList.drop (0 + r) = tb_cX2_areKindsSound_0.drop r := by rw [tb_cX2_areKindsSound, Nat.zero_add]
theorem ow_cX2_areKindsSound_1 (r : Nat) : (cX2_areKindsSound).data.toList.drop (42 + r) = tb_cX2_areKindsSound_1.drop r := by
  have e := ow_cX2_areKindsSound_0 (42 + r)
  rw [show 0 + (42 + r) = 42 + r by omega] at e
  exact e.trans (dr_len (a := kb_cX2_areKindsSound_0) (t := tb_cX2_areKindsSound_1) (by decide +kernel))
theorem ob_cX2_areKindsSound_0 (r : Nat) {pc : Nat} {l : List UInt8} (hp : 0 + r = pc) (h : tb_cX2_areKindsSound_0.drop r = l) : (cX2_areKindsSound).data.toList.drop pc = l := by
  subst hp
  exact (ow_cX2_areKindsSound_0 r).trans h
theorem ob_cX2_areKindsSound_1 (r : Nat) {pc : Nat} {l : List UInt8} (hp : 42 + r = pc) (h : tb_cX2_areKindsSound_1.drop r = l) : (cX2_areKindsSound).data.toList.drop pc = l := by
  subst hp
  exact (ow_cX2_areKindsSound_1 r).trans h
theorem dX2_areKindsSound_0 : decode cX2_areKindsSound 0 = .ok (.iconst 0, 1) := dn_3 (ob_cX2_areKindsSound_0 0 rfl rfl)
theorem dX2_areKindsSound_1 : decode cX2_areKindsSound 1 = .ok (.istore_n 0, 1) := dn_59 (ob_cX2_areKindsSound_0 1 rfl rfl)
theorem dX2_areKindsSound_2 : decode cX2_areKindsSound 2 = .ok (.iconst 0, 1) := dn_3 (ob_cX2_areKindsSound_0 2 rfl rfl)
theorem dX2_areKindsSound_3 : decode cX2_areKindsSound 3 = .ok (.istore_n 1, 1) := dn_60 (ob_cX2_areKindsSound_0 3 rfl rfl)
theorem dX2_areKindsSound_4 : decode cX2_areKindsSound 4 = .ok (.iload_n 1, 1) := dn_27 (ob_cX2_areKindsSound_0 4 rfl rfl)
theorem dX2_areKindsSound_5 : decode cX2_areKindsSound 5 = .ok (.sipush 255, 3) := dn_17 (ob_cX2_areKindsSound_0 5 rfl rfl) (by decide +kernel)
theorem dX2_areKindsSound_8 : decode cX2_areKindsSound 8 = .ok (.if_icmp .gt 27, 3) := dn_163 (ob_cX2_areKindsSound_0 8 rfl rfl) (by decide +kernel)
theorem dX2_areKindsSound_11 : decode cX2_areKindsSound 11 = .ok (.iload_n 1, 1) := dn_27 (ob_cX2_areKindsSound_0 11 rfl rfl)
theorem dX2_areKindsSound_12 : decode cX2_areKindsSound 12 = .ok (.invokestatic 106, 3) := dn_184 (ob_cX2_areKindsSound_0 12 rfl rfl) rfl
theorem dX2_areKindsSound_15 : decode cX2_areKindsSound 15 = .ok (.istore_n 2, 1) := dn_61 (ob_cX2_areKindsSound_0 15 rfl rfl)
theorem dX2_areKindsSound_16 : decode cX2_areKindsSound 16 = .ok (.iload_n 2, 1) := dn_28 (ob_cX2_areKindsSound_0 16 rfl rfl)
theorem dX2_areKindsSound_17 : decode cX2_areKindsSound 17 = .ok (.ifCond .lt 12, 3) := dn_155 (ob_cX2_areKindsSound_0 17 rfl rfl) (by decide +kernel)
theorem dX2_areKindsSound_20 : decode cX2_areKindsSound 20 = .ok (.iload_n 2, 1) := dn_28 (ob_cX2_areKindsSound_0 20 rfl rfl)
theorem dX2_areKindsSound_21 : decode cX2_areKindsSound 21 = .ok (.bipush 30, 2) := dn_16 (ob_cX2_areKindsSound_0 21 rfl rfl) (by decide +kernel)
theorem dX2_areKindsSound_23 : decode cX2_areKindsSound 23 = .ok (.if_icmp .gt 6, 3) := dn_163 (ob_cX2_areKindsSound_0 23 rfl rfl) (by decide +kernel)
theorem dX2_areKindsSound_26 : decode cX2_areKindsSound 26 = .ok (.iinc 0 1, 3) := dn_132 (ob_cX2_areKindsSound_0 26 rfl rfl) rfl (by decide +kernel)
theorem dX2_areKindsSound_29 : decode cX2_areKindsSound 29 = .ok (.iinc 1 1, 3) := dn_132 (ob_cX2_areKindsSound_0 29 rfl rfl) rfl (by decide +kernel)
theorem dX2_areKindsSound_32 : decode cX2_areKindsSound 32 = .ok (.goto (-28), 3) := dn_167 (ob_cX2_areKindsSound_0 32 rfl rfl) (by decide +kernel)
theorem dX2_areKindsSound_35 : decode cX2_areKindsSound 35 = .ok (.iload_n 0, 1) := dn_26 (ob_cX2_areKindsSound_0 35 rfl rfl)
theorem dX2_areKindsSound_36 : decode cX2_areKindsSound 36 = .ok (.sipush 256, 3) := dn_17 (ob_cX2_areKindsSound_0 36 rfl rfl) (by decide +kernel)
theorem dX2_areKindsSound_39 : decode cX2_areKindsSound 39 = .ok (.if_icmp .ne 7, 3) := dn_160 (ob_cX2_areKindsSound_0 39 rfl rfl) (by decide +kernel)
theorem dX2_areKindsSound_42 : decode cX2_areKindsSound 42 = .ok (.iconst 1, 1) := dn_4 (ob_cX2_areKindsSound_1 0 rfl rfl)
theorem dX2_areKindsSound_43 : decode cX2_areKindsSound 43 = .ok (.goto 4, 3) := dn_167 (ob_cX2_areKindsSound_1 1 rfl rfl) (by decide +kernel)
theorem dX2_areKindsSound_46 : decode cX2_areKindsSound 46 = .ok (.iconst 0, 1) := dn_3 (ob_cX2_areKindsSound_1 4 rfl rfl)
theorem dX2_areKindsSound_47 : decode cX2_areKindsSound 47 = .ok (.ireturn, 1) := dn_172 (ob_cX2_areKindsSound_1 5 rfl rfl)
def kb_cX2_isIn : List UInt8 := [26, 27, 122, 4, 126, 4, 160, 0, 7, 4, 167, 0, 4, 3, 172]
set_option maxRecDepth 10000 in
theorem ob_cX2_isIn (r : Nat) {l : List UInt8} (h : kb_cX2_isIn.drop r = l) : (cX2_isIn).data.toList.drop r = l := by
  rw [show (cX2_isIn).data.toList = kb_cX2_isIn from eqL_eq (by decide +kernel)]
  exact h
theorem dX2_isIn_0 : decode cX2_isIn 0 = .ok (.iload_n 0, 1) := dn_26 (ob_cX2_isIn 0 rfl)
theorem dX2_isIn_1 : decode cX2_isIn 1 = .ok (.iload_n 1, 1) := dn_27 (ob_cX2_isIn 1 rfl)
theorem dX2_isIn_2 : decode cX2_isIn 2 = .ok (.ishr, 1) := dn_122 (ob_cX2_isIn 2 rfl)
theorem dX2_isIn_3 : decode cX2_isIn 3 = .ok (.iconst 1, 1) := dn_4 (ob_cX2_isIn 3 rfl)
theorem dX2_isIn_4 : decode cX2_isIn 4 = .ok (.iand, 1) := dn_126 (ob_cX2_isIn 4 rfl)
theorem dX2_isIn_5 : decode cX2_isIn 5 = .ok (.iconst 1, 1) := dn_4 (ob_cX2_isIn 5 rfl)
theorem dX2_isIn_6 : decode cX2_isIn 6 = .ok (.if_icmp .ne 7, 3) := dn_160 (ob_cX2_isIn 6 rfl) (by decide +kernel)
theorem dX2_isIn_9 : decode cX2_isIn 9 = .ok (.iconst 1, 1) := dn_4 (ob_cX2_isIn 9 rfl)
theorem dX2_isIn_10 : decode cX2_isIn 10 = .ok (.goto 4, 3) := dn_167 (ob_cX2_isIn 10 rfl) (by decide +kernel)
theorem dX2_isIn_13 : decode cX2_isIn 13 = .ok (.iconst 0, 1) := dn_3 (ob_cX2_isIn 13 rfl)
theorem dX2_isIn_14 : decode cX2_isIn 14 = .ok (.ireturn, 1) := dn_172 (ob_cX2_isIn 14 rfl)
def kb_cX2_cutsOf : List UInt8 := [26, 16, 254, 126, 172]
set_option maxRecDepth 10000 in
theorem ob_cX2_cutsOf (r : Nat) {l : List UInt8} (h : kb_cX2_cutsOf.drop r = l) : (cX2_cutsOf).data.toList.drop r = l := by
  rw [show (cX2_cutsOf).data.toList = kb_cX2_cutsOf from eqL_eq (by decide +kernel)]
  exact h
theorem dX2_cutsOf_0 : decode cX2_cutsOf 0 = .ok (.iload_n 0, 1) := dn_26 (ob_cX2_cutsOf 0 rfl)
theorem dX2_cutsOf_1 : decode cX2_cutsOf 1 = .ok (.bipush (-2), 2) := dn_16 (ob_cX2_cutsOf 1 rfl) (by decide +kernel)
theorem dX2_cutsOf_3 : decode cX2_cutsOf 3 = .ok (.iand, 1) := dn_126 (ob_cX2_cutsOf 3 rfl)
theorem dX2_cutsOf_4 : decode cX2_cutsOf 4 = .ok (.ireturn, 1) := dn_172 (ob_cX2_cutsOf 4 rfl)
def kb_cX2_appendNumber : List UInt8 := [42, 182, 0, 207, 158, 0, 10, 42, 16, 32, 182, 0, 210, 87, 42, 27, 182, 0, 213, 87, 177]
set_option maxRecDepth 10000 in
theorem ob_cX2_appendNumber (r : Nat) {l : List UInt8} (h : kb_cX2_appendNumber.drop r = l) : (cX2_appendNumber).data.toList.drop r = l := by
  rw [show (cX2_appendNumber).data.toList = kb_cX2_appendNumber from eqL_eq (by decide +kernel)]
  exact h
theorem dX2_appendNumber_0 : decode cX2_appendNumber 0 = .ok (.aload_n 0, 1) := dn_42 (ob_cX2_appendNumber 0 rfl)
theorem dX2_appendNumber_1 : decode cX2_appendNumber 1 = .ok (.invokevirtual 207, 3) := dn_182 (ob_cX2_appendNumber 1 rfl) rfl
theorem dX2_appendNumber_4 : decode cX2_appendNumber 4 = .ok (.ifCond .le 10, 3) := dn_158 (ob_cX2_appendNumber 4 rfl) (by decide +kernel)
theorem dX2_appendNumber_7 : decode cX2_appendNumber 7 = .ok (.aload_n 0, 1) := dn_42 (ob_cX2_appendNumber 7 rfl)
theorem dX2_appendNumber_8 : decode cX2_appendNumber 8 = .ok (.bipush 32, 2) := dn_16 (ob_cX2_appendNumber 8 rfl) (by decide +kernel)
theorem dX2_appendNumber_10 : decode cX2_appendNumber 10 = .ok (.invokevirtual 210, 3) := dn_182 (ob_cX2_appendNumber 10 rfl) rfl
theorem dX2_appendNumber_13 : decode cX2_appendNumber 13 = .ok (.pop, 1) := dn_87 (ob_cX2_appendNumber 13 rfl)
theorem dX2_appendNumber_14 : decode cX2_appendNumber 14 = .ok (.aload_n 0, 1) := dn_42 (ob_cX2_appendNumber 14 rfl)
theorem dX2_appendNumber_15 : decode cX2_appendNumber 15 = .ok (.iload_n 1, 1) := dn_27 (ob_cX2_appendNumber 15 rfl)
theorem dX2_appendNumber_16 : decode cX2_appendNumber 16 = .ok (.invokevirtual 213, 3) := dn_182 (ob_cX2_appendNumber 16 rfl) rfl
theorem dX2_appendNumber_19 : decode cX2_appendNumber 19 = .ok (.pop, 1) := dn_87 (ob_cX2_appendNumber 19 rfl)
theorem dX2_appendNumber_20 : decode cX2_appendNumber 20 = .ok (.return_, 1) := dn_177 (ob_cX2_appendNumber 20 rfl)
def kb_cX2_mixed : List UInt8 := [30, 20, 0, 216, 105, 28, 133, 97, 173]
set_option maxRecDepth 10000 in
theorem ob_cX2_mixed (r : Nat) {l : List UInt8} (h : kb_cX2_mixed.drop r = l) : (cX2_mixed).data.toList.drop r = l := by
  rw [show (cX2_mixed).data.toList = kb_cX2_mixed from eqL_eq (by decide +kernel)]
  exact h
theorem dX2_mixed_0 : decode cX2_mixed 0 = .ok (.lload_n 0, 1) := dn_30 (ob_cX2_mixed 0 rfl)
theorem dX2_mixed_1 : decode cX2_mixed 1 = .ok (.ldc2_w 216, 3) := dn_20 (ob_cX2_mixed 1 rfl) rfl
theorem dX2_mixed_4 : decode cX2_mixed 4 = .ok (.lmul, 1) := dn_105 (ob_cX2_mixed 4 rfl)
theorem dX2_mixed_5 : decode cX2_mixed 5 = .ok (.iload_n 2, 1) := dn_28 (ob_cX2_mixed 5 rfl)
theorem dX2_mixed_6 : decode cX2_mixed 6 = .ok (.i2l, 1) := dn_133 (ob_cX2_mixed 6 rfl)
theorem dX2_mixed_7 : decode cX2_mixed 7 = .ok (.ladd, 1) := dn_97 (ob_cX2_mixed 7 rfl)
theorem dX2_mixed_8 : decode cX2_mixed 8 = .ok (.lreturn, 1) := dn_173 (ob_cX2_mixed 8 rfl)
def kb_cX3_init : List UInt8 := [42, 183, 0, 1, 177]
set_option maxRecDepth 10000 in
theorem ob_cX3_init (r : Nat) {l : List UInt8} (h : kb_cX3_init.drop r = l) : (cX3_init).data.toList.drop r = l := by
  rw [show (cX3_init).data.toList = kb_cX3_init from eqL_eq (by decide +kernel)]
  exact h
theorem dX3_init_0 : decode cX3_init 0 = .ok (.aload_n 0, 1) := dn_42 (ob_cX3_init 0 rfl)
theorem dX3_init_1 : decode cX3_init 1 = .ok (.invokespecial 1, 3) := dn_183 (ob_cX3_init 1 rfl) rfl
theorem dX3_init_4 : decode cX3_init 4 = .ok (.return_, 1) := dn_177 (ob_cX3_init 4 rfl)
