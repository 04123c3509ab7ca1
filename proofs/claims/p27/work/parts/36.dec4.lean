section
/-! decode rows -/
def kb_cL_add : List UInt8 := [45, 42, 27, 28, 182, 0, 7, 133, 181, 0, 13, 167, 0, 11, 58, 4, 4, 172, 58, 4, 5, 172, 3, 172]
set_option maxRecDepth 10000 in
theorem ob_cL_add (r : Nat) {l : List UInt8} (h : kb_cL_add.drop r = l) : (cL_add).data.toList.drop r = l := by
  rw [show (cL_add).data.toList = kb_cL_add from eqL_eq (by decide +kernel)]
  exact h
theorem dL_add_0 : decode cL_add 0 = .ok (.aload_n 3, 1) := dn_45 (ob_cL_add 0 rfl)
theorem dL_add_1 : decode cL_add 1 = .ok (.aload_n 0, 1) := dn_42 (ob_cL_add 1 rfl)
theorem dL_add_2 : decode cL_add 2 = .ok (.iload_n 1, 1) := dn_27 (ob_cL_add 2 rfl)
theorem dL_add_3 : decode cL_add 3 = .ok (.iload_n 2, 1) := dn_28 (ob_cL_add 3 rfl)
theorem dL_add_4 : decode cL_add 4 = .ok (.invokevirtual 7, 3) := dn_182 (ob_cL_add 4 rfl) rfl
theorem dL_add_7 : decode cL_add 7 = .ok (.i2l, 1) := dn_133 (ob_cL_add 7 rfl)
theorem dL_add_8 : decode cL_add 8 = .ok (.putfield 13, 3) := dn_181 (ob_cL_add 8 rfl) rfl
theorem dL_add_11 : decode cL_add 11 = .ok (.goto 11, 3) := dn_167 (ob_cL_add 11 rfl) (by decide +kernel)
theorem dL_add_14 : decode cL_add 14 = .ok (.astore 4, 2) := dn_58 (ob_cL_add 14 rfl) rfl
theorem dL_add_16 : decode cL_add 16 = .ok (.iconst 1, 1) := dn_4 (ob_cL_add 16 rfl)
theorem dL_add_17 : decode cL_add 17 = .ok (.ireturn, 1) := dn_172 (ob_cL_add 17 rfl)
theorem dL_add_18 : decode cL_add 18 = .ok (.astore 4, 2) := dn_58 (ob_cL_add 18 rfl) rfl
theorem dL_add_20 : decode cL_add 20 = .ok (.iconst 2, 1) := dn_5 (ob_cL_add 20 rfl)
theorem dL_add_21 : decode cL_add 21 = .ok (.ireturn, 1) := dn_172 (ob_cL_add 21 rfl)
theorem dL_add_22 : decode cL_add 22 = .ok (.iconst 0, 1) := dn_3 (ob_cL_add 22 rfl)
theorem dL_add_23 : decode cL_add 23 = .ok (.ireturn, 1) := dn_172 (ob_cL_add 23 rfl)
def kb_cL_put : List UInt8 := [25, 4, 42, 27, 28, 29, 182, 0, 23, 133, 181, 0, 13, 167, 0, 11, 58, 5, 4, 172, 58, 5, 5, 172, 3, 172]
set_option maxRecDepth 10000 in
theorem ob_cL_put (r : Nat) {l : List UInt8} (h : kb_cL_put.drop r = l) : (cL_put).data.toList.drop r = l := by
  rw [show (cL_put).data.toList = kb_cL_put from eqL_eq (by decide +kernel)]
  exact h
theorem dL_put_0 : decode cL_put 0 = .ok (.aload 4, 2) := dn_25 (ob_cL_put 0 rfl) rfl
theorem dL_put_2 : decode cL_put 2 = .ok (.aload_n 0, 1) := dn_42 (ob_cL_put 2 rfl)
theorem dL_put_3 : decode cL_put 3 = .ok (.iload_n 1, 1) := dn_27 (ob_cL_put 3 rfl)
theorem dL_put_4 : decode cL_put 4 = .ok (.iload_n 2, 1) := dn_28 (ob_cL_put 4 rfl)
theorem dL_put_5 : decode cL_put 5 = .ok (.iload_n 3, 1) := dn_29 (ob_cL_put 5 rfl)
theorem dL_put_6 : decode cL_put 6 = .ok (.invokevirtual 23, 3) := dn_182 (ob_cL_put 6 rfl) rfl
theorem dL_put_9 : decode cL_put 9 = .ok (.i2l, 1) := dn_133 (ob_cL_put 9 rfl)
theorem dL_put_10 : decode cL_put 10 = .ok (.putfield 13, 3) := dn_181 (ob_cL_put 10 rfl) rfl
theorem dL_put_13 : decode cL_put 13 = .ok (.goto 11, 3) := dn_167 (ob_cL_put 13 rfl) (by decide +kernel)
theorem dL_put_16 : decode cL_put 16 = .ok (.astore 5, 2) := dn_58 (ob_cL_put 16 rfl) rfl
theorem dL_put_18 : decode cL_put 18 = .ok (.iconst 1, 1) := dn_4 (ob_cL_put 18 rfl)
theorem dL_put_19 : decode cL_put 19 = .ok (.ireturn, 1) := dn_172 (ob_cL_put 19 rfl)
theorem dL_put_20 : decode cL_put 20 = .ok (.astore 5, 2) := dn_58 (ob_cL_put 20 rfl) rfl
theorem dL_put_22 : decode cL_put 22 = .ok (.iconst 2, 1) := dn_5 (ob_cL_put 22 rfl)
theorem dL_put_23 : decode cL_put 23 = .ok (.ireturn, 1) := dn_172 (ob_cL_put 23 rfl)
theorem dL_put_24 : decode cL_put 24 = .ok (.iconst 0, 1) := dn_3 (ob_cL_put 24 rfl)
theorem dL_put_25 : decode cL_put 25 = .ok (.ireturn, 1) := dn_172 (ob_cL_put 25 rfl)
def kb_cL_insert : List UInt8 := [25, 4, 42, 27, 28, 29, 182, 0, 27, 133, 181, 0, 13, 167, 0, 11, 58, 5, 4, 172, 58, 5, 5, 172, 3, 172]
set_option maxRecDepth 10000 in
theorem ob_cL_insert (r : Nat) {l : List UInt8} (h : kb_cL_insert.drop r = l) : (cL_insert).data.toList.drop r = l := by
  rw [show (cL_insert).data.toList = kb_cL_insert from eqL_eq (by decide +kernel)]
  exact h
theorem dL_insert_0 : decode cL_insert 0 = .ok (.aload 4, 2) := dn_25 (ob_cL_insert 0 rfl) rfl
theorem dL_insert_2 : decode cL_insert 2 = .ok (.aload_n 0, 1) := dn_42 (ob_cL_insert 2 rfl)
theorem dL_insert_3 : decode cL_insert 3 = .ok (.iload_n 1, 1) := dn_27 (ob_cL_insert 3 rfl)
theorem dL_insert_4 : decode cL_insert 4 = .ok (.iload_n 2, 1) := dn_28 (ob_cL_insert 4 rfl)
theorem dL_insert_5 : decode cL_insert 5 = .ok (.iload_n 3, 1) := dn_29 (ob_cL_insert 5 rfl)
theorem dL_insert_6 : decode cL_insert 6 = .ok (.invokevirtual 27, 3) := dn_182 (ob_cL_insert 6 rfl) rfl
theorem dL_insert_9 : decode cL_insert 9 = .ok (.i2l, 1) := dn_133 (ob_cL_insert 9 rfl)
theorem dL_insert_10 : decode cL_insert 10 = .ok (.putfield 13, 3) := dn_181 (ob_cL_insert 10 rfl) rfl
theorem dL_insert_13 : decode cL_insert 13 = .ok (.goto 11, 3) := dn_167 (ob_cL_insert 13 rfl) (by decide +kernel)
theorem dL_insert_16 : decode cL_insert 16 = .ok (.astore 5, 2) := dn_58 (ob_cL_insert 16 rfl) rfl
theorem dL_insert_18 : decode cL_insert 18 = .ok (.iconst 1, 1) := dn_4 (ob_cL_insert 18 rfl)
theorem dL_insert_19 : decode cL_insert 19 = .ok (.ireturn, 1) := dn_172 (ob_cL_insert 19 rfl)
theorem dL_insert_20 : decode cL_insert 20 = .ok (.astore 5, 2) := dn_58 (ob_cL_insert 20 rfl) rfl
theorem dL_insert_22 : decode cL_insert 22 = .ok (.iconst 2, 1) := dn_5 (ob_cL_insert 22 rfl)
theorem dL_insert_23 : decode cL_insert 23 = .ok (.ireturn, 1) := dn_172 (ob_cL_insert 23 rfl)
theorem dL_insert_24 : decode cL_insert 24 = .ok (.iconst 0, 1) := dn_3 (ob_cL_insert 24 rfl)
theorem dL_insert_25 : decode cL_insert 25 = .ok (.ireturn, 1) := dn_172 (ob_cL_insert 25 rfl)
def kb_cL_drop : List UInt8 := [45, 42, 27, 28, 182, 0, 30, 133, 181, 0, 13, 167, 0, 7, 58, 4, 4, 172, 3, 172]
set_option maxRecDepth 10000 in
theorem ob_cL_drop (r : Nat) {l : List UInt8} (h : kb_cL_drop.drop r = l) : (cL_drop).data.toList.drop r = l := by
  rw [show (cL_drop).data.toList = kb_cL_drop from eqL_eq (by decide +kernel)]
  exact h
theorem dL_drop_0 : decode cL_drop 0 = .ok (.aload_n 3, 1) := dn_45 (ob_cL_drop 0 rfl)
theorem dL_drop_1 : decode cL_drop 1 = .ok (.aload_n 0, 1) := dn_42 (ob_cL_drop 1 rfl)
theorem dL_drop_2 : decode cL_drop 2 = .ok (.iload_n 1, 1) := dn_27 (ob_cL_drop 2 rfl)
theorem dL_drop_3 : decode cL_drop 3 = .ok (.iload_n 2, 1) := dn_28 (ob_cL_drop 3 rfl)
theorem dL_drop_4 : decode cL_drop 4 = .ok (.invokevirtual 30, 3) := dn_182 (ob_cL_drop 4 rfl) rfl
theorem dL_drop_7 : decode cL_drop 7 = .ok (.i2l, 1) := dn_133 (ob_cL_drop 7 rfl)
theorem dL_drop_8 : decode cL_drop 8 = .ok (.putfield 13, 3) := dn_181 (ob_cL_drop 8 rfl) rfl
theorem dL_drop_11 : decode cL_drop 11 = .ok (.goto 7, 3) := dn_167 (ob_cL_drop 11 rfl) (by decide +kernel)
theorem dL_drop_14 : decode cL_drop 14 = .ok (.astore 4, 2) := dn_58 (ob_cL_drop 14 rfl) rfl
theorem dL_drop_16 : decode cL_drop 16 = .ok (.iconst 1, 1) := dn_4 (ob_cL_drop 16 rfl)
theorem dL_drop_17 : decode cL_drop 17 = .ok (.ireturn, 1) := dn_172 (ob_cL_drop 17 rfl)
theorem dL_drop_18 : decode cL_drop 18 = .ok (.iconst 0, 1) := dn_3 (ob_cL_drop 18 rfl)
theorem dL_drop_19 : decode cL_drop 19 = .ok (.ireturn, 1) := dn_172 (ob_cL_drop 19 rfl)
def kb_cL_clear : List UInt8 := [44, 42, 27, 182, 0, 33, 133, 181, 0, 13, 167, 0, 6, 78, 4, 172, 3, 172]
set_option maxRecDepth 10000 in
theorem ob_cL_clear (r : Nat) {l : List UInt8} (h : kb_cL_clear.drop r = l) : (cL_clear).data.toList.drop r = l := by
  rw [show (cL_clear).data.toList = kb_cL_clear from eqL_eq (by decide +kernel)]
  exact h
theorem dL_clear_0 : decode cL_clear 0 = .ok (.aload_n 2, 1) := dn_44 (ob_cL_clear 0 rfl)
theorem dL_clear_1 : decode cL_clear 1 = .ok (.aload_n 0, 1) := dn_42 (ob_cL_clear 1 rfl)
theorem dL_clear_2 : decode cL_clear 2 = .ok (.iload_n 1, 1) := dn_27 (ob_cL_clear 2 rfl)
theorem dL_clear_3 : decode cL_clear 3 = .ok (.invokevirtual 33, 3) := dn_182 (ob_cL_clear 3 rfl) rfl
theorem dL_clear_6 : decode cL_clear 6 = .ok (.i2l, 1) := dn_133 (ob_cL_clear 6 rfl)
theorem dL_clear_7 : decode cL_clear 7 = .ok (.putfield 13, 3) := dn_181 (ob_cL_clear 7 rfl) rfl
theorem dL_clear_10 : decode cL_clear 10 = .ok (.goto 6, 3) := dn_167 (ob_cL_clear 10 rfl) (by decide +kernel)
theorem dL_clear_13 : decode cL_clear 13 = .ok (.astore_n 3, 1) := dn_78 (ob_cL_clear 13 rfl)
theorem dL_clear_14 : decode cL_clear 14 = .ok (.iconst 1, 1) := dn_4 (ob_cL_clear 14 rfl)
theorem dL_clear_15 : decode cL_clear 15 = .ok (.ireturn, 1) := dn_172 (ob_cL_clear 15 rfl)
theorem dL_clear_16 : decode cL_clear 16 = .ok (.iconst 0, 1) := dn_3 (ob_cL_clear 16 rfl)
theorem dL_clear_17 : decode cL_clear 17 = .ok (.ireturn, 1) := dn_172 (ob_cL_clear 17 rfl)
def kb_cL_copy : List UInt8 := [45, 42, 27, 28, 182, 0, 37, 133, 181, 0, 13, 167, 0, 7, 58, 4, 4, 172, 3, 172]
set_option maxRecDepth 10000 in
theorem ob_cL_copy (r : Nat) {l : List UInt8} (h : kb_cL_copy.drop r = l) : (cL_copy).data.toList.drop r = l := by
  rw [show (cL_copy).data.toList = kb_cL_copy from eqL_eq (by decide +kernel)]
  exact h
theorem dL_copy_0 : decode cL_copy 0 = .ok (.aload_n 3, 1) := dn_45 (ob_cL_copy 0 rfl)
theorem dL_copy_1 : decode cL_copy 1 = .ok (.aload_n 0, 1) := dn_42 (ob_cL_copy 1 rfl)
theorem dL_copy_2 : decode cL_copy 2 = .ok (.iload_n 1, 1) := dn_27 (ob_cL_copy 2 rfl)
theorem dL_copy_3 : decode cL_copy 3 = .ok (.iload_n 2, 1) := dn_28 (ob_cL_copy 3 rfl)
theorem dL_copy_4 : decode cL_copy 4 = .ok (.invokevirtual 37, 3) := dn_182 (ob_cL_copy 4 rfl) rfl
theorem dL_copy_7 : decode cL_copy 7 = .ok (.i2l, 1) := dn_133 (ob_cL_copy 7 rfl)
theorem dL_copy_8 : decode cL_copy 8 = .ok (.putfield 13, 3) := dn_181 (ob_cL_copy 8 rfl) rfl
theorem dL_copy_11 : decode cL_copy 11 = .ok (.goto 7, 3) := dn_167 (ob_cL_copy 11 rfl) (by decide +kernel)
theorem dL_copy_14 : decode cL_copy 14 = .ok (.astore 4, 2) := dn_58 (ob_cL_copy 14 rfl) rfl
theorem dL_copy_16 : decode cL_copy 16 = .ok (.iconst 1, 1) := dn_4 (ob_cL_copy 16 rfl)
theorem dL_copy_17 : decode cL_copy 17 = .ok (.ireturn, 1) := dn_172 (ob_cL_copy 17 rfl)
theorem dL_copy_18 : decode cL_copy 18 = .ok (.iconst 0, 1) := dn_3 (ob_cL_copy 18 rfl)
theorem dL_copy_19 : decode cL_copy 19 = .ok (.ireturn, 1) := dn_172 (ob_cL_copy 19 rfl)
def kb_cL_join : List UInt8 := [45, 42, 27, 28, 182, 0, 40, 133, 181, 0, 13, 167, 0, 7, 58, 4, 4, 172, 3, 172]
set_option maxRecDepth 10000 in
theorem ob_cL_join (r : Nat) {l : List UInt8} (h : kb_cL_join.drop r = l) : (cL_join).data.toList.drop r = l := by
  rw [show (cL_join).data.toList = kb_cL_join from eqL_eq (by decide +kernel)]
  exact h
theorem dL_join_0 : decode cL_join 0 = .ok (.aload_n 3, 1) := dn_45 (ob_cL_join 0 rfl)
theorem dL_join_1 : decode cL_join 1 = .ok (.aload_n 0, 1) := dn_42 (ob_cL_join 1 rfl)
theorem dL_join_2 : decode cL_join 2 = .ok (.iload_n 1, 1) := dn_27 (ob_cL_join 2 rfl)
theorem dL_join_3 : decode cL_join 3 = .ok (.iload_n 2, 1) := dn_28 (ob_cL_join 3 rfl)
theorem dL_join_4 : decode cL_join 4 = .ok (.invokevirtual 40, 3) := dn_182 (ob_cL_join 4 rfl) rfl
theorem dL_join_7 : decode cL_join 7 = .ok (.i2l, 1) := dn_133 (ob_cL_join 7 rfl)
theorem dL_join_8 : decode cL_join 8 = .ok (.putfield 13, 3) := dn_181 (ob_cL_join 8 rfl) rfl
theorem dL_join_11 : decode cL_join 11 = .ok (.goto 7, 3) := dn_167 (ob_cL_join 11 rfl) (by decide +kernel)
theorem dL_join_14 : decode cL_join 14 = .ok (.astore 4, 2) := dn_58 (ob_cL_join 14 rfl) rfl
theorem dL_join_16 : decode cL_join 16 = .ok (.iconst 1, 1) := dn_4 (ob_cL_join 16 rfl)
theorem dL_join_17 : decode cL_join 17 = .ok (.ireturn, 1) := dn_172 (ob_cL_join 17 rfl)
theorem dL_join_18 : decode cL_join 18 = .ok (.iconst 0, 1) := dn_3 (ob_cL_join 18 rfl)
theorem dL_join_19 : decode cL_join 19 = .ok (.ireturn, 1) := dn_172 (ob_cL_join 19 rfl)
def kb_cL_turn : List UInt8 := [44, 42, 27, 182, 0, 43, 133, 181, 0, 13, 167, 0, 6, 78, 4, 172, 3, 172]
set_option maxRecDepth 10000 in
theorem ob_cL_turn (r : Nat) {l : List UInt8} (h : kb_cL_turn.drop r = l) : (cL_turn).data.toList.drop r = l := by
  rw [show (cL_turn).data.toList = kb_cL_turn from eqL_eq (by decide +kernel)]
  exact h
theorem dL_turn_0 : decode cL_turn 0 = .ok (.aload_n 2, 1) := dn_44 (ob_cL_turn 0 rfl)
theorem dL_turn_1 : decode cL_turn 1 = .ok (.aload_n 0, 1) := dn_42 (ob_cL_turn 1 rfl)
theorem dL_turn_2 : decode cL_turn 2 = .ok (.iload_n 1, 1) := dn_27 (ob_cL_turn 2 rfl)
theorem dL_turn_3 : decode cL_turn 3 = .ok (.invokevirtual 43, 3) := dn_182 (ob_cL_turn 3 rfl) rfl
theorem dL_turn_6 : decode cL_turn 6 = .ok (.i2l, 1) := dn_133 (ob_cL_turn 6 rfl)
theorem dL_turn_7 : decode cL_turn 7 = .ok (.putfield 13, 3) := dn_181 (ob_cL_turn 7 rfl) rfl
theorem dL_turn_10 : decode cL_turn 10 = .ok (.goto 6, 3) := dn_167 (ob_cL_turn 10 rfl) (by decide +kernel)
theorem dL_turn_13 : decode cL_turn 13 = .ok (.astore_n 3, 1) := dn_78 (ob_cL_turn 13 rfl)
theorem dL_turn_14 : decode cL_turn 14 = .ok (.iconst 1, 1) := dn_4 (ob_cL_turn 14 rfl)
theorem dL_turn_15 : decode cL_turn 15 = .ok (.ireturn, 1) := dn_172 (ob_cL_turn 15 rfl)
theorem dL_turn_16 : decode cL_turn 16 = .ok (.iconst 0, 1) := dn_3 (ob_cL_turn 16 rfl)
theorem dL_turn_17 : decode cL_turn 17 = .ok (.ireturn, 1) := dn_172 (ob_cL_turn 17 rfl)
def kb_cL_fill : List UInt8 := [25, 4, 42, 27, 28, 29, 182, 0, 46, 133, 181, 0, 13, 167, 0, 11, 58, 5, 4, 172, 58, 5, 5, 172, 3, 172]
set_option maxRecDepth 10000 in
theorem ob_cL_fill (r : Nat) {l : List UInt8} (h : kb_cL_fill.drop r = l) : (cL_fill).data.toList.drop r = l := by
  rw [show (cL_fill).data.toList = kb_cL_fill from eqL_eq (by decide +kernel)]
  exact h
theorem dL_fill_0 : decode cL_fill 0 = .ok (.aload 4, 2) := dn_25 (ob_cL_fill 0 rfl) rfl
theorem dL_fill_2 : decode cL_fill 2 = .ok (.aload_n 0, 1) := dn_42 (ob_cL_fill 2 rfl)
theorem dL_fill_3 : decode cL_fill 3 = .ok (.iload_n 1, 1) := dn_27 (ob_cL_fill 3 rfl)
theorem dL_fill_4 : decode cL_fill 4 = .ok (.iload_n 2, 1) := dn_28 (ob_cL_fill 4 rfl)
theorem dL_fill_5 : decode cL_fill 5 = .ok (.iload_n 3, 1) := dn_29 (ob_cL_fill 5 rfl)
theorem dL_fill_6 : decode cL_fill 6 = .ok (.invokevirtual 46, 3) := dn_182 (ob_cL_fill 6 rfl) rfl
theorem dL_fill_9 : decode cL_fill 9 = .ok (.i2l, 1) := dn_133 (ob_cL_fill 9 rfl)
theorem dL_fill_10 : decode cL_fill 10 = .ok (.putfield 13, 3) := dn_181 (ob_cL_fill 10 rfl) rfl
theorem dL_fill_13 : decode cL_fill 13 = .ok (.goto 11, 3) := dn_167 (ob_cL_fill 13 rfl) (by decide +kernel)
theorem dL_fill_16 : decode cL_fill 16 = .ok (.astore 5, 2) := dn_58 (ob_cL_fill 16 rfl) rfl
theorem dL_fill_18 : decode cL_fill 18 = .ok (.iconst 1, 1) := dn_4 (ob_cL_fill 18 rfl)
theorem dL_fill_19 : decode cL_fill 19 = .ok (.ireturn, 1) := dn_172 (ob_cL_fill 19 rfl)
theorem dL_fill_20 : decode cL_fill 20 = .ok (.astore 5, 2) := dn_58 (ob_cL_fill 20 rfl) rfl
theorem dL_fill_22 : decode cL_fill 22 = .ok (.iconst 2, 1) := dn_5 (ob_cL_fill 22 rfl)
theorem dL_fill_23 : decode cL_fill 23 = .ok (.ireturn, 1) := dn_172 (ob_cL_fill 23 rfl)
theorem dL_fill_24 : decode cL_fill 24 = .ok (.iconst 0, 1) := dn_3 (ob_cL_fill 24 rfl)
theorem dL_fill_25 : decode cL_fill 25 = .ok (.ireturn, 1) := dn_172 (ob_cL_fill 25 rfl)
def kb_cL_cut : List UInt8 := [25, 4, 42, 27, 28, 29, 182, 0, 49, 133, 181, 0, 13, 167, 0, 7, 58, 5, 4, 172, 3, 172]
set_option maxRecDepth 10000 in
theorem ob_cL_cut (r : Nat) {l : List UInt8} (h : kb_cL_cut.drop r = l) : (cL_cut).data.toList.drop r = l := by
  rw [show (cL_cut).data.toList = kb_cL_cut from eqL_eq (by decide +kernel)]
  exact h
theorem dL_cut_0 : decode cL_cut 0 = .ok (.aload 4, 2) := dn_25 (ob_cL_cut 0 rfl) rfl
theorem dL_cut_2 : decode cL_cut 2 = .ok (.aload_n 0, 1) := dn_42 (ob_cL_cut 2 rfl)
theorem dL_cut_3 : decode cL_cut 3 = .ok (.iload_n 1, 1) := dn_27 (ob_cL_cut 3 rfl)
theorem dL_cut_4 : decode cL_cut 4 = .ok (.iload_n 2, 1) := dn_28 (ob_cL_cut 4 rfl)
theorem dL_cut_5 : decode cL_cut 5 = .ok (.iload_n 3, 1) := dn_29 (ob_cL_cut 5 rfl)
theorem dL_cut_6 : decode cL_cut 6 = .ok (.invokevirtual 49, 3) := dn_182 (ob_cL_cut 6 rfl) rfl
theorem dL_cut_9 : decode cL_cut 9 = .ok (.i2l, 1) := dn_133 (ob_cL_cut 9 rfl)
theorem dL_cut_10 : decode cL_cut 10 = .ok (.putfield 13, 3) := dn_181 (ob_cL_cut 10 rfl) rfl
theorem dL_cut_13 : decode cL_cut 13 = .ok (.goto 7, 3) := dn_167 (ob_cL_cut 13 rfl) (by decide +kernel)
theorem dL_cut_16 : decode cL_cut 16 = .ok (.astore 5, 2) := dn_58 (ob_cL_cut 16 rfl) rfl
theorem dL_cut_18 : decode cL_cut 18 = .ok (.iconst 1, 1) := dn_4 (ob_cL_cut 18 rfl)
theorem dL_cut_19 : decode cL_cut 19 = .ok (.ireturn, 1) := dn_172 (ob_cL_cut 19 rfl)
theorem dL_cut_20 : decode cL_cut 20 = .ok (.iconst 0, 1) := dn_3 (ob_cL_cut 20 rfl)
theorem dL_cut_21 : decode cL_cut 21 = .ok (.ireturn, 1) := dn_172 (ob_cL_cut 21 rfl)
def kb_cL_keep : List UInt8 := [25, 4, 42, 27, 28, 29, 182, 0, 52, 133, 181, 0, 13, 167, 0, 11, 58, 5, 4, 172, 58, 5, 5, 172, 3, 172]
set_option maxRecDepth 10000 in
theorem ob_cL_keep (r : Nat) {l : List UInt8} (h : kb_cL_keep.drop r = l) : (cL_keep).data.toList.drop r = l := by
  rw [show (cL_keep).data.toList = kb_cL_keep from eqL_eq (by decide +kernel)]
  exact h
theorem dL_keep_0 : decode cL_keep 0 = .ok (.aload 4, 2) := dn_25 (ob_cL_keep 0 rfl) rfl
theorem dL_keep_2 : decode cL_keep 2 = .ok (.aload_n 0, 1) := dn_42 (ob_cL_keep 2 rfl)
theorem dL_keep_3 : decode cL_keep 3 = .ok (.iload_n 1, 1) := dn_27 (ob_cL_keep 3 rfl)
theorem dL_keep_4 : decode cL_keep 4 = .ok (.iload_n 2, 1) := dn_28 (ob_cL_keep 4 rfl)
theorem dL_keep_5 : decode cL_keep 5 = .ok (.iload_n 3, 1) := dn_29 (ob_cL_keep 5 rfl)
theorem dL_keep_6 : decode cL_keep 6 = .ok (.invokevirtual 52, 3) := dn_182 (ob_cL_keep 6 rfl) rfl
theorem dL_keep_9 : decode cL_keep 9 = .ok (.i2l, 1) := dn_133 (ob_cL_keep 9 rfl)
theorem dL_keep_10 : decode cL_keep 10 = .ok (.putfield 13, 3) := dn_181 (ob_cL_keep 10 rfl) rfl
theorem dL_keep_13 : decode cL_keep 13 = .ok (.goto 11, 3) := dn_167 (ob_cL_keep 13 rfl) (by decide +kernel)
theorem dL_keep_16 : decode cL_keep 16 = .ok (.astore 5, 2) := dn_58 (ob_cL_keep 16 rfl) rfl
theorem dL_keep_18 : decode cL_keep 18 = .ok (.iconst 1, 1) := dn_4 (ob_cL_keep 18 rfl)
theorem dL_keep_19 : decode cL_keep 19 = .ok (.ireturn, 1) := dn_172 (ob_cL_keep 19 rfl)
theorem dL_keep_20 : decode cL_keep 20 = .ok (.astore 5, 2) := dn_58 (ob_cL_keep 20 rfl) rfl
theorem dL_keep_22 : decode cL_keep 22 = .ok (.iconst 2, 1) := dn_5 (ob_cL_keep 22 rfl)
theorem dL_keep_23 : decode cL_keep 23 = .ok (.ireturn, 1) := dn_172 (ob_cL_keep 23 rfl)
theorem dL_keep_24 : decode cL_keep 24 = .ok (.iconst 0, 1) := dn_3 (ob_cL_keep 24 rfl)
theorem dL_keep_25 : decode cL_keep 25 = .ok (.ireturn, 1) := dn_172 (ob_cL_keep 25 rfl)
def kb_cL_keepKind : List UInt8 := [25, 4, 42, 27, 28, 29, 182, 0, 56, 133, 181, 0, 13, 167, 0, 11, 58, 5, 4, 172, 58, 5, 5, 172, 3, 172]
set_option maxRecDepth 10000 in
theorem ob_cL_keepKind (r : Nat) {l : List UInt8} (h : kb_cL_keepKind.drop r = l) : (cL_keepKind).data.toList.drop r = l := by
  rw [show (cL_keepKind).data.toList = kb_cL_keepKind from eqL_eq (by decide +kernel)]
  exact h
theorem dL_keepKind_0 : decode cL_keepKind 0 = .ok (.aload 4, 2) := dn_25 (ob_cL_keepKind 0 rfl) rfl
theorem dL_keepKind_2 : decode cL_keepKind 2 = .ok (.aload_n 0, 1) := dn_42 (ob_cL_keepKind 2 rfl)
theorem dL_keepKind_3 : decode cL_keepKind 3 = .ok (.iload_n 1, 1) := dn_27 (ob_cL_keepKind 3 rfl)
theorem dL_keepKind_4 : decode cL_keepKind 4 = .ok (.iload_n 2, 1) := dn_28 (ob_cL_keepKind 4 rfl)
theorem dL_keepKind_5 : decode cL_keepKind 5 = .ok (.iload_n 3, 1) := dn_29 (ob_cL_keepKind 5 rfl)
theorem dL_keepKind_6 : decode cL_keepKind 6 = .ok (.invokevirtual 56, 3) := dn_182 (ob_cL_keepKind 6 rfl) rfl
theorem dL_keepKind_9 : decode cL_keepKind 9 = .ok (.i2l, 1) := dn_133 (ob_cL_keepKind 9 rfl)
theorem dL_keepKind_10 : decode cL_keepKind 10 = .ok (.putfield 13, 3) := dn_181 (ob_cL_keepKind 10 rfl) rfl
theorem dL_keepKind_13 : decode cL_keepKind 13 = .ok (.goto 11, 3) := dn_167 (ob_cL_keepKind 13 rfl) (by decide +kernel)
theorem dL_keepKind_16 : decode cL_keepKind 16 = .ok (.astore 5, 2) := dn_58 (ob_cL_keepKind 16 rfl) rfl
theorem dL_keepKind_18 : decode cL_keepKind 18 = .ok (.iconst 1, 1) := dn_4 (ob_cL_keepKind 18 rfl)
theorem dL_keepKind_19 : decode cL_keepKind 19 = .ok (.ireturn, 1) := dn_172 (ob_cL_keepKind 19 rfl)
theorem dL_keepKind_20 : decode cL_keepKind 20 = .ok (.astore 5, 2) := dn_58 (ob_cL_keepKind 20 rfl) rfl
theorem dL_keepKind_22 : decode cL_keepKind 22 = .ok (.iconst 2, 1) := dn_5 (ob_cL_keepKind 22 rfl)
theorem dL_keepKind_23 : decode cL_keepKind 23 = .ok (.ireturn, 1) := dn_172 (ob_cL_keepKind 23 rfl)
theorem dL_keepKind_24 : decode cL_keepKind 24 = .ok (.iconst 0, 1) := dn_3 (ob_cL_keepKind 24 rfl)
theorem dL_keepKind_25 : decode cL_keepKind 25 = .ok (.ireturn, 1) := dn_172 (ob_cL_keepKind 25 rfl)
def kb_cL_take : List UInt8 := [25, 4, 42, 27, 28, 29, 182, 0, 59, 133, 181, 0, 13, 167, 0, 7, 58, 5, 4, 172, 3, 172]
set_option maxRecDepth 10000 in
theorem ob_cL_take (r : Nat) {l : List UInt8} (h : kb_cL_take.drop r = l) : (cL_take).data.toList.drop r = l := by
  rw [show (cL_take).data.toList = kb_cL_take from eqL_eq (by decide +kernel)]
  exact h
theorem dL_take_0 : decode cL_take 0 = .ok (.aload 4, 2) := dn_25 (ob_cL_take 0 rfl) rfl
theorem dL_take_2 : decode cL_take 2 = .ok (.aload_n 0, 1) := dn_42 (ob_cL_take 2 rfl)
theorem dL_take_3 : decode cL_take 3 = .ok (.iload_n 1, 1) := dn_27 (ob_cL_take 3 rfl)
theorem dL_take_4 : decode cL_take 4 = .ok (.iload_n 2, 1) := dn_28 (ob_cL_take 4 rfl)
theorem dL_take_5 : decode cL_take 5 = .ok (.iload_n 3, 1) := dn_29 (ob_cL_take 5 rfl)
theorem dL_take_6 : decode cL_take 6 = .ok (.invokevirtual 59, 3) := dn_182 (ob_cL_take 6 rfl) rfl
theorem dL_take_9 : decode cL_take 9 = .ok (.i2l, 1) := dn_133 (ob_cL_take 9 rfl)
theorem dL_take_10 : decode cL_take 10 = .ok (.putfield 13, 3) := dn_181 (ob_cL_take 10 rfl) rfl
theorem dL_take_13 : decode cL_take 13 = .ok (.goto 7, 3) := dn_167 (ob_cL_take 13 rfl) (by decide +kernel)
theorem dL_take_16 : decode cL_take 16 = .ok (.astore 5, 2) := dn_58 (ob_cL_take 16 rfl) rfl
theorem dL_take_18 : decode cL_take 18 = .ok (.iconst 1, 1) := dn_4 (ob_cL_take 18 rfl)
theorem dL_take_19 : decode cL_take 19 = .ok (.ireturn, 1) := dn_172 (ob_cL_take 19 rfl)
theorem dL_take_20 : decode cL_take 20 = .ok (.iconst 0, 1) := dn_3 (ob_cL_take 20 rfl)
theorem dL_take_21 : decode cL_take 21 = .ok (.ireturn, 1) := dn_172 (ob_cL_take 21 rfl)
def kb_cL_mend : List UInt8 := [44, 42, 27, 182, 0, 62, 133, 181, 0, 13, 167, 0, 6, 78, 4, 172, 3, 172]
set_option maxRecDepth 10000 in
theorem ob_cL_mend (r : Nat) {l : List UInt8} (h : kb_cL_mend.drop r = l) : (cL_mend).data.toList.drop r = l := by
  rw [show (cL_mend).data.toList = kb_cL_mend from eqL_eq (by decide +kernel)]
  exact h
theorem dL_mend_0 : decode cL_mend 0 = .ok (.aload_n 2, 1) := dn_44 (ob_cL_mend 0 rfl)
theorem dL_mend_1 : decode cL_mend 1 = .ok (.aload_n 0, 1) := dn_42 (ob_cL_mend 1 rfl)
theorem dL_mend_2 : decode cL_mend 2 = .ok (.iload_n 1, 1) := dn_27 (ob_cL_mend 2 rfl)
theorem dL_mend_3 : decode cL_mend 3 = .ok (.invokevirtual 62, 3) := dn_182 (ob_cL_mend 3 rfl) rfl
theorem dL_mend_6 : decode cL_mend 6 = .ok (.i2l, 1) := dn_133 (ob_cL_mend 6 rfl)
theorem dL_mend_7 : decode cL_mend 7 = .ok (.putfield 13, 3) := dn_181 (ob_cL_mend 7 rfl) rfl
theorem dL_mend_10 : decode cL_mend 10 = .ok (.goto 6, 3) := dn_167 (ob_cL_mend 10 rfl) (by decide +kernel)
theorem dL_mend_13 : decode cL_mend 13 = .ok (.astore_n 3, 1) := dn_78 (ob_cL_mend 13 rfl)
theorem dL_mend_14 : decode cL_mend 14 = .ok (.iconst 1, 1) := dn_4 (ob_cL_mend 14 rfl)
theorem dL_mend_15 : decode cL_mend 15 = .ok (.ireturn, 1) := dn_172 (ob_cL_mend 15 rfl)
theorem dL_mend_16 : decode cL_mend 16 = .ok (.iconst 0, 1) := dn_3 (ob_cL_mend 16 rfl)
theorem dL_mend_17 : decode cL_mend 17 = .ok (.ireturn, 1) := dn_172 (ob_cL_mend 17 rfl)
def kb_cL_kind : List UInt8 := [44, 42, 27, 182, 0, 65, 133, 181, 0, 13, 167, 0, 6, 78, 4, 172, 3, 172]
set_option maxRecDepth 10000 in
theorem ob_cL_kind (r : Nat) {l : List UInt8} (h : kb_cL_kind.drop r = l) : (cL_kind).data.toList.drop r = l := by
  rw [show (cL_kind).data.toList = kb_cL_kind from eqL_eq (by decide +kernel)]
  exact h
theorem dL_kind_0 : decode cL_kind 0 = .ok (.aload_n 2, 1) := dn_44 (ob_cL_kind 0 rfl)
theorem dL_kind_1 : decode cL_kind 1 = .ok (.aload_n 0, 1) := dn_42 (ob_cL_kind 1 rfl)
theorem dL_kind_2 : decode cL_kind 2 = .ok (.iload_n 1, 1) := dn_27 (ob_cL_kind 2 rfl)
theorem dL_kind_3 : decode cL_kind 3 = .ok (.invokevirtual 65, 3) := dn_182 (ob_cL_kind 3 rfl) rfl
theorem dL_kind_6 : decode cL_kind 6 = .ok (.i2l, 1) := dn_133 (ob_cL_kind 6 rfl)
theorem dL_kind_7 : decode cL_kind 7 = .ok (.putfield 13, 3) := dn_181 (ob_cL_kind 7 rfl) rfl
theorem dL_kind_10 : decode cL_kind 10 = .ok (.goto 6, 3) := dn_167 (ob_cL_kind 10 rfl) (by decide +kernel)
theorem dL_kind_13 : decode cL_kind 13 = .ok (.astore_n 3, 1) := dn_78 (ob_cL_kind 13 rfl)
theorem dL_kind_14 : decode cL_kind 14 = .ok (.iconst 1, 1) := dn_4 (ob_cL_kind 14 rfl)
theorem dL_kind_15 : decode cL_kind 15 = .ok (.ireturn, 1) := dn_172 (ob_cL_kind 15 rfl)
theorem dL_kind_16 : decode cL_kind 16 = .ok (.iconst 0, 1) := dn_3 (ob_cL_kind 16 rfl)
theorem dL_kind_17 : decode cL_kind 17 = .ok (.ireturn, 1) := dn_172 (ob_cL_kind 17 rfl)
def kb_cL_ask : List UInt8 := [45, 42, 27, 28, 182, 0, 68, 153, 0, 7, 10, 167, 0, 4, 9, 181, 0, 13, 167, 0, 7, 58, 4, 4, 172, 3, 172]
set_option maxRecDepth 10000 in
theorem ob_cL_ask (r : Nat) {l : List UInt8} (h : kb_cL_ask.drop r = l) : (cL_ask).data.toList.drop r = l := by
  rw [show (cL_ask).data.toList = kb_cL_ask from eqL_eq (by decide +kernel)]
  exact h
theorem dL_ask_0 : decode cL_ask 0 = .ok (.aload_n 3, 1) := dn_45 (ob_cL_ask 0 rfl)
theorem dL_ask_1 : decode cL_ask 1 = .ok (.aload_n 0, 1) := dn_42 (ob_cL_ask 1 rfl)
theorem dL_ask_2 : decode cL_ask 2 = .ok (.iload_n 1, 1) := dn_27 (ob_cL_ask 2 rfl)
theorem dL_ask_3 : decode cL_ask 3 = .ok (.iload_n 2, 1) := dn_28 (ob_cL_ask 3 rfl)
theorem dL_ask_4 : decode cL_ask 4 = .ok (.invokevirtual 68, 3) := dn_182 (ob_cL_ask 4 rfl) rfl
theorem dL_ask_7 : decode cL_ask 7 = .ok (.ifCond .eq 7, 3) := dn_153 (ob_cL_ask 7 rfl) (by decide +kernel)
theorem dL_ask_10 : decode cL_ask 10 = .ok (.lconst 1, 1) := dn_10 (ob_cL_ask 10 rfl)
theorem dL_ask_11 : decode cL_ask 11 = .ok (.goto 4, 3) := dn_167 (ob_cL_ask 11 rfl) (by decide +kernel)
theorem dL_ask_14 : decode cL_ask 14 = .ok (.lconst 0, 1) := dn_9 (ob_cL_ask 14 rfl)
theorem dL_ask_15 : decode cL_ask 15 = .ok (.putfield 13, 3) := dn_181 (ob_cL_ask 15 rfl) rfl
theorem dL_ask_18 : decode cL_ask 18 = .ok (.goto 7, 3) := dn_167 (ob_cL_ask 18 rfl) (by decide +kernel)
theorem dL_ask_21 : decode cL_ask 21 = .ok (.astore 4, 2) := dn_58 (ob_cL_ask 21 rfl) rfl
theorem dL_ask_23 : decode cL_ask 23 = .ok (.iconst 1, 1) := dn_4 (ob_cL_ask 23 rfl)
theorem dL_ask_24 : decode cL_ask 24 = .ok (.ireturn, 1) := dn_172 (ob_cL_ask 24 rfl)
theorem dL_ask_25 : decode cL_ask 25 = .ok (.iconst 0, 1) := dn_3 (ob_cL_ask 25 rfl)
theorem dL_ask_26 : decode cL_ask 26 = .ok (.ireturn, 1) := dn_172 (ob_cL_ask 26 rfl)
def kb_cL_all : List UInt8 := [44, 42, 27, 182, 0, 72, 133, 181, 0, 13, 167, 0, 6, 78, 4, 172, 3, 172]
set_option maxRecDepth 10000 in
theorem ob_cL_all (r : Nat) {l : List UInt8} (h : kb_cL_all.drop r = l) : (cL_all).data.toList.drop r = l := by
  rw [show (cL_all).data.toList = kb_cL_all from eqL_eq (by decide +kernel)]
  exact h
theorem dL_all_0 : decode cL_all 0 = .ok (.aload_n 2, 1) := dn_44 (ob_cL_all 0 rfl)
theorem dL_all_1 : decode cL_all 1 = .ok (.aload_n 0, 1) := dn_42 (ob_cL_all 1 rfl)
theorem dL_all_2 : decode cL_all 2 = .ok (.iload_n 1, 1) := dn_27 (ob_cL_all 2 rfl)
theorem dL_all_3 : decode cL_all 3 = .ok (.invokevirtual 72, 3) := dn_182 (ob_cL_all 3 rfl) rfl
theorem dL_all_6 : decode cL_all 6 = .ok (.i2l, 1) := dn_133 (ob_cL_all 6 rfl)
theorem dL_all_7 : decode cL_all 7 = .ok (.putfield 13, 3) := dn_181 (ob_cL_all 7 rfl) rfl
theorem dL_all_10 : decode cL_all 10 = .ok (.goto 6, 3) := dn_167 (ob_cL_all 10 rfl) (by decide +kernel)
theorem dL_all_13 : decode cL_all 13 = .ok (.astore_n 3, 1) := dn_78 (ob_cL_all 13 rfl)
theorem dL_all_14 : decode cL_all 14 = .ok (.iconst 1, 1) := dn_4 (ob_cL_all 14 rfl)
theorem dL_all_15 : decode cL_all 15 = .ok (.ireturn, 1) := dn_172 (ob_cL_all 15 rfl)
theorem dL_all_16 : decode cL_all 16 = .ok (.iconst 0, 1) := dn_3 (ob_cL_all 16 rfl)
theorem dL_all_17 : decode cL_all 17 = .ok (.ireturn, 1) := dn_172 (ob_cL_all 17 rfl)
def kb_cL_nth : List UInt8 := [45, 42, 27, 28, 182, 0, 75, 133, 181, 0, 13, 167, 0, 7, 58, 4, 4, 172, 3, 172]
set_option maxRecDepth 10000 in
theorem ob_cL_nth (r : Nat) {l : List UInt8} (h : kb_cL_nth.drop r = l) : (cL_nth).data.toList.drop r = l := by
  rw [show (cL_nth).data.toList = kb_cL_nth from eqL_eq (by decide +kernel)]
  exact h
theorem dL_nth_0 : decode cL_nth 0 = .ok (.aload_n 3, 1) := dn_45 (ob_cL_nth 0 rfl)
theorem dL_nth_1 : decode cL_nth 1 = .ok (.aload_n 0, 1) := dn_42 (ob_cL_nth 1 rfl)
theorem dL_nth_2 : decode cL_nth 2 = .ok (.iload_n 1, 1) := dn_27 (ob_cL_nth 2 rfl)
theorem dL_nth_3 : decode cL_nth 3 = .ok (.iload_n 2, 1) := dn_28 (ob_cL_nth 3 rfl)
theorem dL_nth_4 : decode cL_nth 4 = .ok (.invokevirtual 75, 3) := dn_182 (ob_cL_nth 4 rfl) rfl
theorem dL_nth_7 : decode cL_nth 7 = .ok (.i2l, 1) := dn_133 (ob_cL_nth 7 rfl)
theorem dL_nth_8 : decode cL_nth 8 = .ok (.putfield 13, 3) := dn_181 (ob_cL_nth 8 rfl) rfl
theorem dL_nth_11 : decode cL_nth 11 = .ok (.goto 7, 3) := dn_167 (ob_cL_nth 11 rfl) (by decide +kernel)
theorem dL_nth_14 : decode cL_nth 14 = .ok (.astore 4, 2) := dn_58 (ob_cL_nth 14 rfl) rfl
theorem dL_nth_16 : decode cL_nth 16 = .ok (.iconst 1, 1) := dn_4 (ob_cL_nth 16 rfl)
theorem dL_nth_17 : decode cL_nth 17 = .ok (.ireturn, 1) := dn_172 (ob_cL_nth 17 rfl)
theorem dL_nth_18 : decode cL_nth 18 = .ok (.iconst 0, 1) := dn_3 (ob_cL_nth 18 rfl)
theorem dL_nth_19 : decode cL_nth 19 = .ok (.ireturn, 1) := dn_172 (ob_cL_nth 19 rfl)
def kb_cL_next : List UInt8 := [25, 4, 42, 27, 28, 29, 182, 0, 78, 133, 181, 0, 13, 167, 0, 7, 58, 5, 4, 172, 3, 172]
set_option maxRecDepth 10000 in
theorem ob_cL_next (r : Nat) {l : List UInt8} (h : kb_cL_next.drop r = l) : (cL_next).data.toList.drop r = l := by
  rw [show (cL_next).data.toList = kb_cL_next from eqL_eq (by decide +kernel)]
  exact h
theorem dL_next_0 : decode cL_next 0 = .ok (.aload 4, 2) := dn_25 (ob_cL_next 0 rfl) rfl
theorem dL_next_2 : decode cL_next 2 = .ok (.aload_n 0, 1) := dn_42 (ob_cL_next 2 rfl)
theorem dL_next_3 : decode cL_next 3 = .ok (.iload_n 1, 1) := dn_27 (ob_cL_next 3 rfl)
theorem dL_next_4 : decode cL_next 4 = .ok (.iload_n 2, 1) := dn_28 (ob_cL_next 4 rfl)
theorem dL_next_5 : decode cL_next 5 = .ok (.iload_n 3, 1) := dn_29 (ob_cL_next 5 rfl)
theorem dL_next_6 : decode cL_next 6 = .ok (.invokevirtual 78, 3) := dn_182 (ob_cL_next 6 rfl) rfl
theorem dL_next_9 : decode cL_next 9 = .ok (.i2l, 1) := dn_133 (ob_cL_next 9 rfl)
theorem dL_next_10 : decode cL_next 10 = .ok (.putfield 13, 3) := dn_181 (ob_cL_next 10 rfl) rfl
theorem dL_next_13 : decode cL_next 13 = .ok (.goto 7, 3) := dn_167 (ob_cL_next 13 rfl) (by decide +kernel)
theorem dL_next_16 : decode cL_next 16 = .ok (.astore 5, 2) := dn_58 (ob_cL_next 16 rfl) rfl
theorem dL_next_18 : decode cL_next 18 = .ok (.iconst 1, 1) := dn_4 (ob_cL_next 18 rfl)
theorem dL_next_19 : decode cL_next 19 = .ok (.ireturn, 1) := dn_172 (ob_cL_next 19 rfl)
theorem dL_next_20 : decode cL_next 20 = .ok (.iconst 0, 1) := dn_3 (ob_cL_next 20 rfl)
theorem dL_next_21 : decode cL_next 21 = .ok (.ireturn, 1) := dn_172 (ob_cL_next 21 rfl)
def kb_cL_run : List UInt8 := [45, 42, 27, 28, 182, 0, 81, 133, 181, 0, 13, 167, 0, 7, 58, 4, 4, 172, 3, 172]
set_option maxRecDepth 10000 in
theorem ob_cL_run (r : Nat) {l : List UInt8} (h : kb_cL_run.drop r = l) : (cL_run).data.toList.drop r = l := by
  rw [show (cL_run).data.toList = kb_cL_run from eqL_eq (by decide +kernel)]
  exact h
theorem dL_run_0 : decode cL_run 0 = .ok (.aload_n 3, 1) := dn_45 (ob_cL_run 0 rfl)
theorem dL_run_1 : decode cL_run 1 = .ok (.aload_n 0, 1) := dn_42 (ob_cL_run 1 rfl)
theorem dL_run_2 : decode cL_run 2 = .ok (.iload_n 1, 1) := dn_27 (ob_cL_run 2 rfl)
theorem dL_run_3 : decode cL_run 3 = .ok (.iload_n 2, 1) := dn_28 (ob_cL_run 3 rfl)
theorem dL_run_4 : decode cL_run 4 = .ok (.invokevirtual 81, 3) := dn_182 (ob_cL_run 4 rfl) rfl
theorem dL_run_7 : decode cL_run 7 = .ok (.i2l, 1) := dn_133 (ob_cL_run 7 rfl)
theorem dL_run_8 : decode cL_run 8 = .ok (.putfield 13, 3) := dn_181 (ob_cL_run 8 rfl) rfl
theorem dL_run_11 : decode cL_run 11 = .ok (.goto 7, 3) := dn_167 (ob_cL_run 11 rfl) (by decide +kernel)
theorem dL_run_14 : decode cL_run 14 = .ok (.astore 4, 2) := dn_58 (ob_cL_run 14 rfl) rfl
theorem dL_run_16 : decode cL_run 16 = .ok (.iconst 1, 1) := dn_4 (ob_cL_run 16 rfl)
theorem dL_run_17 : decode cL_run 17 = .ok (.ireturn, 1) := dn_172 (ob_cL_run 17 rfl)
theorem dL_run_18 : decode cL_run 18 = .ok (.iconst 0, 1) := dn_3 (ob_cL_run 18 rfl)
theorem dL_run_19 : decode cL_run 19 = .ok (.ireturn, 1) := dn_172 (ob_cL_run 19 rfl)
def kb_cL_ofKind : List UInt8 := [25, 4, 42, 27, 28, 29, 182, 0, 84, 133, 181, 0, 13, 167, 0, 7, 58, 5, 4, 172, 3, 172]
set_option maxRecDepth 10000 in
theorem ob_cL_ofKind (r : Nat) {l : List UInt8} (h : kb_cL_ofKind.drop r = l) : (cL_ofKind).data.toList.drop r = l := by
  rw [show (cL_ofKind).data.toList = kb_cL_ofKind from eqL_eq (by decide +kernel)]
  exact h
theorem dL_ofKind_0 : decode cL_ofKind 0 = .ok (.aload 4, 2) := dn_25 (ob_cL_ofKind 0 rfl) rfl
theorem dL_ofKind_2 : decode cL_ofKind 2 = .ok (.aload_n 0, 1) := dn_42 (ob_cL_ofKind 2 rfl)
theorem dL_ofKind_3 : decode cL_ofKind 3 = .ok (.iload_n 1, 1) := dn_27 (ob_cL_ofKind 3 rfl)
theorem dL_ofKind_4 : decode cL_ofKind 4 = .ok (.iload_n 2, 1) := dn_28 (ob_cL_ofKind 4 rfl)
theorem dL_ofKind_5 : decode cL_ofKind 5 = .ok (.iload_n 3, 1) := dn_29 (ob_cL_ofKind 5 rfl)
theorem dL_ofKind_6 : decode cL_ofKind 6 = .ok (.invokevirtual 84, 3) := dn_182 (ob_cL_ofKind 6 rfl) rfl
theorem dL_ofKind_9 : decode cL_ofKind 9 = .ok (.i2l, 1) := dn_133 (ob_cL_ofKind 9 rfl)
theorem dL_ofKind_10 : decode cL_ofKind 10 = .ok (.putfield 13, 3) := dn_181 (ob_cL_ofKind 10 rfl) rfl
theorem dL_ofKind_13 : decode cL_ofKind 13 = .ok (.goto 7, 3) := dn_167 (ob_cL_ofKind 13 rfl) (by decide +kernel)
theorem dL_ofKind_16 : decode cL_ofKind 16 = .ok (.astore 5, 2) := dn_58 (ob_cL_ofKind 16 rfl) rfl
theorem dL_ofKind_18 : decode cL_ofKind 18 = .ok (.iconst 1, 1) := dn_4 (ob_cL_ofKind 18 rfl)
theorem dL_ofKind_19 : decode cL_ofKind 19 = .ok (.ireturn, 1) := dn_172 (ob_cL_ofKind 19 rfl)
theorem dL_ofKind_20 : decode cL_ofKind 20 = .ok (.iconst 0, 1) := dn_3 (ob_cL_ofKind 20 rfl)
theorem dL_ofKind_21 : decode cL_ofKind 21 = .ok (.ireturn, 1) := dn_172 (ob_cL_ofKind 21 rfl)
def kb_cL_ofQuestion : List UInt8 := [25, 4, 42, 27, 28, 29, 182, 0, 87, 133, 181, 0, 13, 167, 0, 7, 58, 5, 4, 172, 3, 172]
set_option maxRecDepth 10000 in
theorem ob_cL_ofQuestion (r : Nat) {l : List UInt8} (h : kb_cL_ofQuestion.drop r = l) : (cL_ofQuestion).data.toList.drop r = l := by
  rw [show (cL_ofQuestion).data.toList = kb_cL_ofQuestion from eqL_eq (by decide +kernel)]
  exact h
theorem dL_ofQuestion_0 : decode cL_ofQuestion 0 = .ok (.aload 4, 2) := dn_25 (ob_cL_ofQuestion 0 rfl) rfl
theorem dL_ofQuestion_2 : decode cL_ofQuestion 2 = .ok (.aload_n 0, 1) := dn_42 (ob_cL_ofQuestion 2 rfl)
theorem dL_ofQuestion_3 : decode cL_ofQuestion 3 = .ok (.iload_n 1, 1) := dn_27 (ob_cL_ofQuestion 3 rfl)
theorem dL_ofQuestion_4 : decode cL_ofQuestion 4 = .ok (.iload_n 2, 1) := dn_28 (ob_cL_ofQuestion 4 rfl)
theorem dL_ofQuestion_5 : decode cL_ofQuestion 5 = .ok (.iload_n 3, 1) := dn_29 (ob_cL_ofQuestion 5 rfl)
theorem dL_ofQuestion_6 : decode cL_ofQuestion 6 = .ok (.invokevirtual 87, 3) := dn_182 (ob_cL_ofQuestion 6 rfl) rfl
theorem dL_ofQuestion_9 : decode cL_ofQuestion 9 = .ok (.i2l, 1) := dn_133 (ob_cL_ofQuestion 9 rfl)
theorem dL_ofQuestion_10 : decode cL_ofQuestion 10 = .ok (.putfield 13, 3) := dn_181 (ob_cL_ofQuestion 10 rfl) rfl
theorem dL_ofQuestion_13 : decode cL_ofQuestion 13 = .ok (.goto 7, 3) := dn_167 (ob_cL_ofQuestion 13 rfl) (by decide +kernel)
theorem dL_ofQuestion_16 : decode cL_ofQuestion 16 = .ok (.astore 5, 2) := dn_58 (ob_cL_ofQuestion 16 rfl) rfl
theorem dL_ofQuestion_18 : decode cL_ofQuestion 18 = .ok (.iconst 1, 1) := dn_4 (ob_cL_ofQuestion 18 rfl)
theorem dL_ofQuestion_19 : decode cL_ofQuestion 19 = .ok (.ireturn, 1) := dn_172 (ob_cL_ofQuestion 19 rfl)
theorem dL_ofQuestion_20 : decode cL_ofQuestion 20 = .ok (.iconst 0, 1) := dn_3 (ob_cL_ofQuestion 20 rfl)
theorem dL_ofQuestion_21 : decode cL_ofQuestion 21 = .ok (.ireturn, 1) := dn_172 (ob_cL_ofQuestion 21 rfl)
def kb_cL_kinds : List UInt8 := [45, 42, 27, 28, 182, 0, 90, 133, 181, 0, 13, 167, 0, 7, 58, 4, 4, 172, 3, 172]
set_option maxRecDepth 10000 in
theorem ob_cL_kinds (r : Nat) {l : List UInt8} (h : kb_cL_kinds.drop r = l) : (cL_kinds).data.toList.drop r = l := by
  rw [show (cL_kinds).data.toList = kb_cL_kinds from eqL_eq (by decide +kernel)]
  exact h
theorem dL_kinds_0 : decode cL_kinds 0 = .ok (.aload_n 3, 1) := dn_45 (ob_cL_kinds 0 rfl)
theorem dL_kinds_1 : decode cL_kinds 1 = .ok (.aload_n 0, 1) := dn_42 (ob_cL_kinds 1 rfl)
theorem dL_kinds_2 : decode cL_kinds 2 = .ok (.iload_n 1, 1) := dn_27 (ob_cL_kinds 2 rfl)
theorem dL_kinds_3 : decode cL_kinds 3 = .ok (.iload_n 2, 1) := dn_28 (ob_cL_kinds 3 rfl)
theorem dL_kinds_4 : decode cL_kinds 4 = .ok (.invokevirtual 90, 3) := dn_182 (ob_cL_kinds 4 rfl) rfl
theorem dL_kinds_7 : decode cL_kinds 7 = .ok (.i2l, 1) := dn_133 (ob_cL_kinds 7 rfl)
theorem dL_kinds_8 : decode cL_kinds 8 = .ok (.putfield 13, 3) := dn_181 (ob_cL_kinds 8 rfl) rfl
theorem dL_kinds_11 : decode cL_kinds 11 = .ok (.goto 7, 3) := dn_167 (ob_cL_kinds 11 rfl) (by decide +kernel)
theorem dL_kinds_14 : decode cL_kinds 14 = .ok (.astore 4, 2) := dn_58 (ob_cL_kinds 14 rfl) rfl
theorem dL_kinds_16 : decode cL_kinds 16 = .ok (.iconst 1, 1) := dn_4 (ob_cL_kinds 16 rfl)
theorem dL_kinds_17 : decode cL_kinds 17 = .ok (.ireturn, 1) := dn_172 (ob_cL_kinds 17 rfl)
theorem dL_kinds_18 : decode cL_kinds 18 = .ok (.iconst 0, 1) := dn_3 (ob_cL_kinds 18 rfl)
theorem dL_kinds_19 : decode cL_kinds 19 = .ok (.ireturn, 1) := dn_172 (ob_cL_kinds 19 rfl)
def kb_cL_both : List UInt8 := [45, 42, 27, 28, 182, 0, 93, 133, 181, 0, 13, 167, 0, 7, 58, 4, 4, 172, 3, 172]
set_option maxRecDepth 10000 in
theorem ob_cL_both (r : Nat) {l : List UInt8} (h : kb_cL_both.drop r = l) : (cL_both).data.toList.drop r = l := by
  rw [show (cL_both).data.toList = kb_cL_both from eqL_eq (by decide +kernel)]
  exact h
theorem dL_both_0 : decode cL_both 0 = .ok (.aload_n 3, 1) := dn_45 (ob_cL_both 0 rfl)
theorem dL_both_1 : decode cL_both 1 = .ok (.aload_n 0, 1) := dn_42 (ob_cL_both 1 rfl)
theorem dL_both_2 : decode cL_both 2 = .ok (.iload_n 1, 1) := dn_27 (ob_cL_both 2 rfl)
theorem dL_both_3 : decode cL_both 3 = .ok (.iload_n 2, 1) := dn_28 (ob_cL_both 3 rfl)
theorem dL_both_4 : decode cL_both 4 = .ok (.invokevirtual 93, 3) := dn_182 (ob_cL_both 4 rfl) rfl
theorem dL_both_7 : decode cL_both 7 = .ok (.i2l, 1) := dn_133 (ob_cL_both 7 rfl)
theorem dL_both_8 : decode cL_both 8 = .ok (.putfield 13, 3) := dn_181 (ob_cL_both 8 rfl) rfl
theorem dL_both_11 : decode cL_both 11 = .ok (.goto 7, 3) := dn_167 (ob_cL_both 11 rfl) (by decide +kernel)
theorem dL_both_14 : decode cL_both 14 = .ok (.astore 4, 2) := dn_58 (ob_cL_both 14 rfl) rfl
theorem dL_both_16 : decode cL_both 16 = .ok (.iconst 1, 1) := dn_4 (ob_cL_both 16 rfl)
theorem dL_both_17 : decode cL_both 17 = .ok (.ireturn, 1) := dn_172 (ob_cL_both 17 rfl)
theorem dL_both_18 : decode cL_both 18 = .ok (.iconst 0, 1) := dn_3 (ob_cL_both 18 rfl)
theorem dL_both_19 : decode cL_both 19 = .ok (.ireturn, 1) := dn_172 (ob_cL_both 19 rfl)
def kb_cL_within : List UInt8 := [45, 42, 27, 28, 182, 0, 96, 153, 0, 7, 10, 167, 0, 4, 9, 181, 0, 13, 167, 0, 7, 58, 4, 4, 172, 3, 172]
set_option maxRecDepth 10000 in
theorem ob_cL_within (r : Nat) {l : List UInt8} (h : kb_cL_within.drop r = l) : (cL_within).data.toList.drop r = l := by
  rw [show (cL_within).data.toList = kb_cL_within from eqL_eq (by decide +kernel)]
  exact h
theorem dL_within_0 : decode cL_within 0 = .ok (.aload_n 3, 1) := dn_45 (ob_cL_within 0 rfl)
theorem dL_within_1 : decode cL_within 1 = .ok (.aload_n 0, 1) := dn_42 (ob_cL_within 1 rfl)
theorem dL_within_2 : decode cL_within 2 = .ok (.iload_n 1, 1) := dn_27 (ob_cL_within 2 rfl)
theorem dL_within_3 : decode cL_within 3 = .ok (.iload_n 2, 1) := dn_28 (ob_cL_within 3 rfl)
theorem dL_within_4 : decode cL_within 4 = .ok (.invokevirtual 96, 3) := dn_182 (ob_cL_within 4 rfl) rfl
theorem dL_within_7 : decode cL_within 7 = .ok (.ifCond .eq 7, 3) := dn_153 (ob_cL_within 7 rfl) (by decide +kernel)
theorem dL_within_10 : decode cL_within 10 = .ok (.lconst 1, 1) := dn_10 (ob_cL_within 10 rfl)
theorem dL_within_11 : decode cL_within 11 = .ok (.goto 4, 3) := dn_167 (ob_cL_within 11 rfl) (by decide +kernel)
theorem dL_within_14 : decode cL_within 14 = .ok (.lconst 0, 1) := dn_9 (ob_cL_within 14 rfl)
theorem dL_within_15 : decode cL_within 15 = .ok (.putfield 13, 3) := dn_181 (ob_cL_within 15 rfl) rfl
theorem dL_within_18 : decode cL_within 18 = .ok (.goto 7, 3) := dn_167 (ob_cL_within 18 rfl) (by decide +kernel)
theorem dL_within_21 : decode cL_within 21 = .ok (.astore 4, 2) := dn_58 (ob_cL_within 21 rfl) rfl
theorem dL_within_23 : decode cL_within 23 = .ok (.iconst 1, 1) := dn_4 (ob_cL_within 23 rfl)
theorem dL_within_24 : decode cL_within 24 = .ok (.ireturn, 1) := dn_172 (ob_cL_within 24 rfl)
theorem dL_within_25 : decode cL_within 25 = .ok (.iconst 0, 1) := dn_3 (ob_cL_within 25 rfl)
theorem dL_within_26 : decode cL_within 26 = .ok (.ireturn, 1) := dn_172 (ob_cL_within 26 rfl)
def kb_cL_differ : List UInt8 := [25, 4, 42, 27, 28, 29, 182, 0, 99, 133, 181, 0, 13, 167, 0, 7, 58, 5, 4, 172, 3, 172]
set_option maxRecDepth 10000 in
theorem ob_cL_differ (r : Nat) {l : List UInt8} (h : kb_cL_differ.drop r = l) : (cL_differ).data.toList.drop r = l := by
  rw [show (cL_differ).data.toList = kb_cL_differ from eqL_eq (by decide +kernel)]
  exact h
theorem dL_differ_0 : decode cL_differ 0 = .ok (.aload 4, 2) := dn_25 (ob_cL_differ 0 rfl) rfl
theorem dL_differ_2 : decode cL_differ 2 = .ok (.aload_n 0, 1) := dn_42 (ob_cL_differ 2 rfl)
theorem dL_differ_3 : decode cL_differ 3 = .ok (.iload_n 1, 1) := dn_27 (ob_cL_differ 3 rfl)
theorem dL_differ_4 : decode cL_differ 4 = .ok (.iload_n 2, 1) := dn_28 (ob_cL_differ 4 rfl)
theorem dL_differ_5 : decode cL_differ 5 = .ok (.iload_n 3, 1) := dn_29 (ob_cL_differ 5 rfl)
theorem dL_differ_6 : decode cL_differ 6 = .ok (.invokevirtual 99, 3) := dn_182 (ob_cL_differ 6 rfl) rfl
theorem dL_differ_9 : decode cL_differ 9 = .ok (.i2l, 1) := dn_133 (ob_cL_differ 9 rfl)
theorem dL_differ_10 : decode cL_differ 10 = .ok (.putfield 13, 3) := dn_181 (ob_cL_differ 10 rfl) rfl
theorem dL_differ_13 : decode cL_differ 13 = .ok (.goto 7, 3) := dn_167 (ob_cL_differ 13 rfl) (by decide +kernel)
theorem dL_differ_16 : decode cL_differ 16 = .ok (.astore 5, 2) := dn_58 (ob_cL_differ 16 rfl) rfl
theorem dL_differ_18 : decode cL_differ 18 = .ok (.iconst 1, 1) := dn_4 (ob_cL_differ 18 rfl)
theorem dL_differ_19 : decode cL_differ 19 = .ok (.ireturn, 1) := dn_172 (ob_cL_differ 19 rfl)
theorem dL_differ_20 : decode cL_differ 20 = .ok (.iconst 0, 1) := dn_3 (ob_cL_differ 20 rfl)
theorem dL_differ_21 : decode cL_differ 21 = .ok (.ireturn, 1) := dn_172 (ob_cL_differ 21 rfl)
def kb_cL_length : List UInt8 := [44, 42, 27, 182, 0, 102, 133, 181, 0, 13, 167, 0, 6, 78, 4, 172, 3, 172]
set_option maxRecDepth 10000 in
theorem ob_cL_length (r : Nat) {l : List UInt8} (h : kb_cL_length.drop r = l) : (cL_length).data.toList.drop r = l := by
  rw [show (cL_length).data.toList = kb_cL_length from eqL_eq (by decide +kernel)]
  exact h
theorem dL_length_0 : decode cL_length 0 = .ok (.aload_n 2, 1) := dn_44 (ob_cL_length 0 rfl)
theorem dL_length_1 : decode cL_length 1 = .ok (.aload_n 0, 1) := dn_42 (ob_cL_length 1 rfl)
theorem dL_length_2 : decode cL_length 2 = .ok (.iload_n 1, 1) := dn_27 (ob_cL_length 2 rfl)
theorem dL_length_3 : decode cL_length 3 = .ok (.invokevirtual 102, 3) := dn_182 (ob_cL_length 3 rfl) rfl
theorem dL_length_6 : decode cL_length 6 = .ok (.i2l, 1) := dn_133 (ob_cL_length 6 rfl)
theorem dL_length_7 : decode cL_length 7 = .ok (.putfield 13, 3) := dn_181 (ob_cL_length 7 rfl) rfl
theorem dL_length_10 : decode cL_length 10 = .ok (.goto 6, 3) := dn_167 (ob_cL_length 10 rfl) (by decide +kernel)
theorem dL_length_13 : decode cL_length 13 = .ok (.astore_n 3, 1) := dn_78 (ob_cL_length 13 rfl)
theorem dL_length_14 : decode cL_length 14 = .ok (.iconst 1, 1) := dn_4 (ob_cL_length 14 rfl)
theorem dL_length_15 : decode cL_length 15 = .ok (.ireturn, 1) := dn_172 (ob_cL_length 15 rfl)
theorem dL_length_16 : decode cL_length 16 = .ok (.iconst 0, 1) := dn_3 (ob_cL_length 16 rfl)
theorem dL_length_17 : decode cL_length 17 = .ok (.ireturn, 1) := dn_172 (ob_cL_length 17 rfl)
def kb_cL_sign : List UInt8 := [45, 42, 27, 28, 182, 0, 105, 133, 181, 0, 13, 167, 0, 7, 58, 4, 4, 172, 3, 172]
set_option maxRecDepth 10000 in
theorem ob_cL_sign (r : Nat) {l : List UInt8} (h : kb_cL_sign.drop r = l) : (cL_sign).data.toList.drop r = l := by
  rw [show (cL_sign).data.toList = kb_cL_sign from eqL_eq (by decide +kernel)]
  exact h
theorem dL_sign_0 : decode cL_sign 0 = .ok (.aload_n 3, 1) := dn_45 (ob_cL_sign 0 rfl)
theorem dL_sign_1 : decode cL_sign 1 = .ok (.aload_n 0, 1) := dn_42 (ob_cL_sign 1 rfl)
theorem dL_sign_2 : decode cL_sign 2 = .ok (.iload_n 1, 1) := dn_27 (ob_cL_sign 2 rfl)
theorem dL_sign_3 : decode cL_sign 3 = .ok (.iload_n 2, 1) := dn_28 (ob_cL_sign 3 rfl)
theorem dL_sign_4 : decode cL_sign 4 = .ok (.invokevirtual 105, 3) := dn_182 (ob_cL_sign 4 rfl) rfl
theorem dL_sign_7 : decode cL_sign 7 = .ok (.i2l, 1) := dn_133 (ob_cL_sign 7 rfl)
theorem dL_sign_8 : decode cL_sign 8 = .ok (.putfield 13, 3) := dn_181 (ob_cL_sign 8 rfl) rfl
theorem dL_sign_11 : decode cL_sign 11 = .ok (.goto 7, 3) := dn_167 (ob_cL_sign 11 rfl) (by decide +kernel)
theorem dL_sign_14 : decode cL_sign 14 = .ok (.astore 4, 2) := dn_58 (ob_cL_sign 14 rfl) rfl
theorem dL_sign_16 : decode cL_sign 16 = .ok (.iconst 1, 1) := dn_4 (ob_cL_sign 16 rfl)
theorem dL_sign_17 : decode cL_sign 17 = .ok (.ireturn, 1) := dn_172 (ob_cL_sign 17 rfl)
theorem dL_sign_18 : decode cL_sign 18 = .ok (.iconst 0, 1) := dn_3 (ob_cL_sign 18 rfl)
theorem dL_sign_19 : decode cL_sign 19 = .ok (.ireturn, 1) := dn_172 (ob_cL_sign 19 rfl)
def kb_cL_signs : List UInt8 := [44, 42, 27, 182, 0, 108, 181, 0, 112, 167, 0, 6, 78, 4, 172, 3, 172]
set_option maxRecDepth 10000 in
theorem ob_cL_signs (r : Nat) {l : List UInt8} (h : kb_cL_signs.drop r = l) : (cL_signs).data.toList.drop r = l := by
  rw [show (cL_signs).data.toList = kb_cL_signs from eqL_eq (by decide +kernel)]
  exact h
theorem dL_signs_0 : decode cL_signs 0 = .ok (.aload_n 2, 1) := dn_44 (ob_cL_signs 0 rfl)
theorem dL_signs_1 : decode cL_signs 1 = .ok (.aload_n 0, 1) := dn_42 (ob_cL_signs 1 rfl)
theorem dL_signs_2 : decode cL_signs 2 = .ok (.iload_n 1, 1) := dn_27 (ob_cL_signs 2 rfl)
theorem dL_signs_3 : decode cL_signs 3 = .ok (.invokevirtual 108, 3) := dn_182 (ob_cL_signs 3 rfl) rfl
theorem dL_signs_6 : decode cL_signs 6 = .ok (.putfield 112, 3) := dn_181 (ob_cL_signs 6 rfl) rfl
theorem dL_signs_9 : decode cL_signs 9 = .ok (.goto 6, 3) := dn_167 (ob_cL_signs 9 rfl) (by decide +kernel)
theorem dL_signs_12 : decode cL_signs 12 = .ok (.astore_n 3, 1) := dn_78 (ob_cL_signs 12 rfl)
theorem dL_signs_13 : decode cL_signs 13 = .ok (.iconst 1, 1) := dn_4 (ob_cL_signs 13 rfl)
theorem dL_signs_14 : decode cL_signs 14 = .ok (.ireturn, 1) := dn_172 (ob_cL_signs 14 rfl)
theorem dL_signs_15 : decode cL_signs 15 = .ok (.iconst 0, 1) := dn_3 (ob_cL_signs 15 rfl)
theorem dL_signs_16 : decode cL_signs 16 = .ok (.ireturn, 1) := dn_172 (ob_cL_signs 16 rfl)
def kb_cL_kindsOf : List UInt8 := [44, 42, 27, 182, 0, 116, 181, 0, 112, 167, 0, 6, 78, 4, 172, 3, 172]
set_option maxRecDepth 10000 in
theorem ob_cL_kindsOf (r : Nat) {l : List UInt8} (h : kb_cL_kindsOf.drop r = l) : (cL_kindsOf).data.toList.drop r = l := by
  rw [show (cL_kindsOf).data.toList = kb_cL_kindsOf from eqL_eq (by decide +kernel)]
  exact h
theorem dL_kindsOf_0 : decode cL_kindsOf 0 = .ok (.aload_n 2, 1) := dn_44 (ob_cL_kindsOf 0 rfl)
theorem dL_kindsOf_1 : decode cL_kindsOf 1 = .ok (.aload_n 0, 1) := dn_42 (ob_cL_kindsOf 1 rfl)
theorem dL_kindsOf_2 : decode cL_kindsOf 2 = .ok (.iload_n 1, 1) := dn_27 (ob_cL_kindsOf 2 rfl)
theorem dL_kindsOf_3 : decode cL_kindsOf 3 = .ok (.invokevirtual 116, 3) := dn_182 (ob_cL_kindsOf 3 rfl) rfl
theorem dL_kindsOf_6 : decode cL_kindsOf 6 = .ok (.putfield 112, 3) := dn_181 (ob_cL_kindsOf 6 rfl) rfl
theorem dL_kindsOf_9 : decode cL_kindsOf 9 = .ok (.goto 6, 3) := dn_167 (ob_cL_kindsOf 9 rfl) (by decide +kernel)
theorem dL_kindsOf_12 : decode cL_kindsOf 12 = .ok (.astore_n 3, 1) := dn_78 (ob_cL_kindsOf 12 rfl)
theorem dL_kindsOf_13 : decode cL_kindsOf 13 = .ok (.iconst 1, 1) := dn_4 (ob_cL_kindsOf 13 rfl)
theorem dL_kindsOf_14 : decode cL_kindsOf 14 = .ok (.ireturn, 1) := dn_172 (ob_cL_kindsOf 14 rfl)
theorem dL_kindsOf_15 : decode cL_kindsOf 15 = .ok (.iconst 0, 1) := dn_3 (ob_cL_kindsOf 15 rfl)
theorem dL_kindsOf_16 : decode cL_kindsOf 16 = .ok (.ireturn, 1) := dn_172 (ob_cL_kindsOf 16 rfl)
def kb_cL_count : List UInt8 := [45, 42, 27, 28, 182, 0, 119, 133, 181, 0, 13, 167, 0, 11, 58, 4, 4, 172, 58, 4, 5, 172, 3, 172]
set_option maxRecDepth 10000 in
theorem ob_cL_count (r : Nat) {l : List UInt8} (h : kb_cL_count.drop r = l) : (cL_count).data.toList.drop r = l := by
  rw [show (cL_count).data.toList = kb_cL_count from eqL_eq (by decide +kernel)]
  exact h
theorem dL_count_0 : decode cL_count 0 = .ok (.aload_n 3, 1) := dn_45 (ob_cL_count 0 rfl)
theorem dL_count_1 : decode cL_count 1 = .ok (.aload_n 0, 1) := dn_42 (ob_cL_count 1 rfl)
theorem dL_count_2 : decode cL_count 2 = .ok (.iload_n 1, 1) := dn_27 (ob_cL_count 2 rfl)
theorem dL_count_3 : decode cL_count 3 = .ok (.iload_n 2, 1) := dn_28 (ob_cL_count 3 rfl)
theorem dL_count_4 : decode cL_count 4 = .ok (.invokevirtual 119, 3) := dn_182 (ob_cL_count 4 rfl) rfl
theorem dL_count_7 : decode cL_count 7 = .ok (.i2l, 1) := dn_133 (ob_cL_count 7 rfl)
theorem dL_count_8 : decode cL_count 8 = .ok (.putfield 13, 3) := dn_181 (ob_cL_count 8 rfl) rfl
theorem dL_count_11 : decode cL_count 11 = .ok (.goto 11, 3) := dn_167 (ob_cL_count 11 rfl) (by decide +kernel)
theorem dL_count_14 : decode cL_count 14 = .ok (.astore 4, 2) := dn_58 (ob_cL_count 14 rfl) rfl
theorem dL_count_16 : decode cL_count 16 = .ok (.iconst 1, 1) := dn_4 (ob_cL_count 16 rfl)
theorem dL_count_17 : decode cL_count 17 = .ok (.ireturn, 1) := dn_172 (ob_cL_count 17 rfl)
theorem dL_count_18 : decode cL_count 18 = .ok (.astore 4, 2) := dn_58 (ob_cL_count 18 rfl) rfl
theorem dL_count_20 : decode cL_count 20 = .ok (.iconst 2, 1) := dn_5 (ob_cL_count 20 rfl)
theorem dL_count_21 : decode cL_count 21 = .ok (.ireturn, 1) := dn_172 (ob_cL_count 21 rfl)
theorem dL_count_22 : decode cL_count 22 = .ok (.iconst 0, 1) := dn_3 (ob_cL_count 22 rfl)
theorem dL_count_23 : decode cL_count 23 = .ok (.ireturn, 1) := dn_172 (ob_cL_count 23 rfl)
def kb_cL_countKind : List UInt8 := [45, 42, 27, 28, 182, 0, 122, 133, 181, 0, 13, 167, 0, 11, 58, 4, 4, 172, 58, 4, 5, 172, 3, 172]
set_option maxRecDepth 10000 in
theorem ob_cL_countKind (r : Nat) {l : List UInt8} (h : kb_cL_countKind.drop r = l) : (cL_countKind).data.toList.drop r = l := by
  rw [show (cL_countKind).data.toList = kb_cL_countKind from eqL_eq (by decide +kernel)]
  exact h
theorem dL_countKind_0 : decode cL_countKind 0 = .ok (.aload_n 3, 1) := dn_45 (ob_cL_countKind 0 rfl)
theorem dL_countKind_1 : decode cL_countKind 1 = .ok (.aload_n 0, 1) := dn_42 (ob_cL_countKind 1 rfl)
theorem dL_countKind_2 : decode cL_countKind 2 = .ok (.iload_n 1, 1) := dn_27 (ob_cL_countKind 2 rfl)
theorem dL_countKind_3 : decode cL_countKind 3 = .ok (.iload_n 2, 1) := dn_28 (ob_cL_countKind 3 rfl)
theorem dL_countKind_4 : decode cL_countKind 4 = .ok (.invokevirtual 122, 3) := dn_182 (ob_cL_countKind 4 rfl) rfl
theorem dL_countKind_7 : decode cL_countKind 7 = .ok (.i2l, 1) := dn_133 (ob_cL_countKind 7 rfl)
theorem dL_countKind_8 : decode cL_countKind 8 = .ok (.putfield 13, 3) := dn_181 (ob_cL_countKind 8 rfl) rfl
theorem dL_countKind_11 : decode cL_countKind 11 = .ok (.goto 11, 3) := dn_167 (ob_cL_countKind 11 rfl) (by decide +kernel)
theorem dL_countKind_14 : decode cL_countKind 14 = .ok (.astore 4, 2) := dn_58 (ob_cL_countKind 14 rfl) rfl
theorem dL_countKind_16 : decode cL_countKind 16 = .ok (.iconst 1, 1) := dn_4 (ob_cL_countKind 16 rfl)
theorem dL_countKind_17 : decode cL_countKind 17 = .ok (.ireturn, 1) := dn_172 (ob_cL_countKind 17 rfl)
theorem dL_countKind_18 : decode cL_countKind 18 = .ok (.astore 4, 2) := dn_58 (ob_cL_countKind 18 rfl) rfl
theorem dL_countKind_20 : decode cL_countKind 20 = .ok (.iconst 2, 1) := dn_5 (ob_cL_countKind 20 rfl)
theorem dL_countKind_21 : decode cL_countKind 21 = .ok (.ireturn, 1) := dn_172 (ob_cL_countKind 21 rfl)
theorem dL_countKind_22 : decode cL_countKind 22 = .ok (.iconst 0, 1) := dn_3 (ob_cL_countKind 22 rfl)
theorem dL_countKind_23 : decode cL_countKind 23 = .ok (.ireturn, 1) := dn_172 (ob_cL_countKind 23 rfl)
def kb_cL_isAll : List UInt8 := [45, 42, 27, 28, 182, 0, 125, 153, 0, 7, 10, 167, 0, 4, 9, 181, 0, 13, 167, 0, 11, 58, 4, 4, 172, 58, 4, 5, 172, 3, 172]
set_option maxRecDepth 10000 in
theorem ob_cL_isAll (r : Nat) {l : List UInt8} (h : kb_cL_isAll.drop r = l) : (cL_isAll).data.toList.drop r = l := by
  rw [show (cL_isAll).data.toList = kb_cL_isAll from eqL_eq (by decide +kernel)]
  exact h
theorem dL_isAll_0 : decode cL_isAll 0 = .ok (.aload_n 3, 1) := dn_45 (ob_cL_isAll 0 rfl)
theorem dL_isAll_1 : decode cL_isAll 1 = .ok (.aload_n 0, 1) := dn_42 (ob_cL_isAll 1 rfl)
theorem dL_isAll_2 : decode cL_isAll 2 = .ok (.iload_n 1, 1) := dn_27 (ob_cL_isAll 2 rfl)
theorem dL_isAll_3 : decode cL_isAll 3 = .ok (.iload_n 2, 1) := dn_28 (ob_cL_isAll 3 rfl)
theorem dL_isAll_4 : decode cL_isAll 4 = .ok (.invokevirtual 125, 3) := dn_182 (ob_cL_isAll 4 rfl) rfl
theorem dL_isAll_7 : decode cL_isAll 7 = .ok (.ifCond .eq 7, 3) := dn_153 (ob_cL_isAll 7 rfl) (by decide +kernel)
theorem dL_isAll_10 : decode cL_isAll 10 = .ok (.lconst 1, 1) := dn_10 (ob_cL_isAll 10 rfl)
theorem dL_isAll_11 : decode cL_isAll 11 = .ok (.goto 4, 3) := dn_167 (ob_cL_isAll 11 rfl) (by decide +kernel)
theorem dL_isAll_14 : decode cL_isAll 14 = .ok (.lconst 0, 1) := dn_9 (ob_cL_isAll 14 rfl)
theorem dL_isAll_15 : decode cL_isAll 15 = .ok (.putfield 13, 3) := dn_181 (ob_cL_isAll 15 rfl) rfl
theorem dL_isAll_18 : decode cL_isAll 18 = .ok (.goto 11, 3) := dn_167 (ob_cL_isAll 18 rfl) (by decide +kernel)
theorem dL_isAll_21 : decode cL_isAll 21 = .ok (.astore 4, 2) := dn_58 (ob_cL_isAll 21 rfl) rfl
theorem dL_isAll_23 : decode cL_isAll 23 = .ok (.iconst 1, 1) := dn_4 (ob_cL_isAll 23 rfl)
theorem dL_isAll_24 : decode cL_isAll 24 = .ok (.ireturn, 1) := dn_172 (ob_cL_isAll 24 rfl)
theorem dL_isAll_25 : decode cL_isAll 25 = .ok (.astore 4, 2) := dn_58 (ob_cL_isAll 25 rfl) rfl
theorem dL_isAll_27 : decode cL_isAll 27 = .ok (.iconst 2, 1) := dn_5 (ob_cL_isAll 27 rfl)
theorem dL_isAll_28 : decode cL_isAll 28 = .ok (.ireturn, 1) := dn_172 (ob_cL_isAll 28 rfl)
theorem dL_isAll_29 : decode cL_isAll 29 = .ok (.iconst 0, 1) := dn_3 (ob_cL_isAll 29 rfl)
theorem dL_isAll_30 : decode cL_isAll 30 = .ok (.ireturn, 1) := dn_172 (ob_cL_isAll 30 rfl)
def kb_cL_first : List UInt8 := [25, 4, 42, 27, 28, 29, 182, 0, 128, 133, 181, 0, 13, 167, 0, 11, 58, 5, 4, 172, 58, 5, 5, 172, 3, 172]
set_option maxRecDepth 10000 in
theorem ob_cL_first (r : Nat) {l : List UInt8} (h : kb_cL_first.drop r = l) : (cL_first).data.toList.drop r = l := by
  rw [show (cL_first).data.toList = kb_cL_first from eqL_eq (by decide +kernel)]
  exact h
theorem dL_first_0 : decode cL_first 0 = .ok (.aload 4, 2) := dn_25 (ob_cL_first 0 rfl) rfl
theorem dL_first_2 : decode cL_first 2 = .ok (.aload_n 0, 1) := dn_42 (ob_cL_first 2 rfl)
theorem dL_first_3 : decode cL_first 3 = .ok (.iload_n 1, 1) := dn_27 (ob_cL_first 3 rfl)
theorem dL_first_4 : decode cL_first 4 = .ok (.iload_n 2, 1) := dn_28 (ob_cL_first 4 rfl)
theorem dL_first_5 : decode cL_first 5 = .ok (.iload_n 3, 1) := dn_29 (ob_cL_first 5 rfl)
theorem dL_first_6 : decode cL_first 6 = .ok (.invokevirtual 128, 3) := dn_182 (ob_cL_first 6 rfl) rfl
theorem dL_first_9 : decode cL_first 9 = .ok (.i2l, 1) := dn_133 (ob_cL_first 9 rfl)
theorem dL_first_10 : decode cL_first 10 = .ok (.putfield 13, 3) := dn_181 (ob_cL_first 10 rfl) rfl
theorem dL_first_13 : decode cL_first 13 = .ok (.goto 11, 3) := dn_167 (ob_cL_first 13 rfl) (by decide +kernel)
theorem dL_first_16 : decode cL_first 16 = .ok (.astore 5, 2) := dn_58 (ob_cL_first 16 rfl) rfl
theorem dL_first_18 : decode cL_first 18 = .ok (.iconst 1, 1) := dn_4 (ob_cL_first 18 rfl)
theorem dL_first_19 : decode cL_first 19 = .ok (.ireturn, 1) := dn_172 (ob_cL_first 19 rfl)
theorem dL_first_20 : decode cL_first 20 = .ok (.astore 5, 2) := dn_58 (ob_cL_first 20 rfl) rfl
theorem dL_first_22 : decode cL_first 22 = .ok (.iconst 2, 1) := dn_5 (ob_cL_first 22 rfl)
theorem dL_first_23 : decode cL_first 23 = .ok (.ireturn, 1) := dn_172 (ob_cL_first 23 rfl)
theorem dL_first_24 : decode cL_first 24 = .ok (.iconst 0, 1) := dn_3 (ob_cL_first 24 rfl)
theorem dL_first_25 : decode cL_first 25 = .ok (.ireturn, 1) := dn_172 (ob_cL_first 25 rfl)
def kb_cL_alike : List UInt8 := [45, 42, 27, 28, 182, 0, 131, 153, 0, 7, 10, 167, 0, 4, 9, 181, 0, 13, 167, 0, 7, 58, 4, 4, 172, 3, 172]
set_option maxRecDepth 10000 in
theorem ob_cL_alike (r : Nat) {l : List UInt8} (h : kb_cL_alike.drop r = l) : (cL_alike).data.toList.drop r = l := by
  rw [show (cL_alike).data.toList = kb_cL_alike from eqL_eq (by decide +kernel)]
  exact h
theorem dL_alike_0 : decode cL_alike 0 = .ok (.aload_n 3, 1) := dn_45 (ob_cL_alike 0 rfl)
theorem dL_alike_1 : decode cL_alike 1 = .ok (.aload_n 0, 1) := dn_42 (ob_cL_alike 1 rfl)
theorem dL_alike_2 : decode cL_alike 2 = .ok (.iload_n 1, 1) := dn_27 (ob_cL_alike 2 rfl)
theorem dL_alike_3 : decode cL_alike 3 = .ok (.iload_n 2, 1) := dn_28 (ob_cL_alike 3 rfl)
theorem dL_alike_4 : decode cL_alike 4 = .ok (.invokevirtual 131, 3) := dn_182 (ob_cL_alike 4 rfl) rfl
theorem dL_alike_7 : decode cL_alike 7 = .ok (.ifCond .eq 7, 3) := dn_153 (ob_cL_alike 7 rfl) (by decide +kernel)
theorem dL_alike_10 : decode cL_alike 10 = .ok (.lconst 1, 1) := dn_10 (ob_cL_alike 10 rfl)
theorem dL_alike_11 : decode cL_alike 11 = .ok (.goto 4, 3) := dn_167 (ob_cL_alike 11 rfl) (by decide +kernel)
theorem dL_alike_14 : decode cL_alike 14 = .ok (.lconst 0, 1) := dn_9 (ob_cL_alike 14 rfl)
theorem dL_alike_15 : decode cL_alike 15 = .ok (.putfield 13, 3) := dn_181 (ob_cL_alike 15 rfl) rfl
theorem dL_alike_18 : decode cL_alike 18 = .ok (.goto 7, 3) := dn_167 (ob_cL_alike 18 rfl) (by decide +kernel)
theorem dL_alike_21 : decode cL_alike 21 = .ok (.astore 4, 2) := dn_58 (ob_cL_alike 21 rfl) rfl
theorem dL_alike_23 : decode cL_alike 23 = .ok (.iconst 1, 1) := dn_4 (ob_cL_alike 23 rfl)
theorem dL_alike_24 : decode cL_alike 24 = .ok (.ireturn, 1) := dn_172 (ob_cL_alike 24 rfl)
theorem dL_alike_25 : decode cL_alike 25 = .ok (.iconst 0, 1) := dn_3 (ob_cL_alike 25 rfl)
theorem dL_alike_26 : decode cL_alike 26 = .ok (.ireturn, 1) := dn_172 (ob_cL_alike 26 rfl)
def kb_cL_isName : List UInt8 := [44, 42, 27, 182, 0, 134, 153, 0, 7, 10, 167, 0, 4, 9, 181, 0, 13, 167, 0, 6, 78, 4, 172, 3, 172]
set_option maxRecDepth 10000 in
theorem ob_cL_isName (r : Nat) {l : List UInt8} (h : kb_cL_isName.drop r = l) : (cL_isName).data.toList.drop r = l := by
  rw [show (cL_isName).data.toList = kb_cL_isName from eqL_eq (by decide +kernel)]
  exact h
theorem dL_isName_0 : decode cL_isName 0 = .ok (.aload_n 2, 1) := dn_44 (ob_cL_isName 0 rfl)
theorem dL_isName_1 : decode cL_isName 1 = .ok (.aload_n 0, 1) := dn_42 (ob_cL_isName 1 rfl)
theorem dL_isName_2 : decode cL_isName 2 = .ok (.iload_n 1, 1) := dn_27 (ob_cL_isName 2 rfl)
theorem dL_isName_3 : decode cL_isName 3 = .ok (.invokevirtual 134, 3) := dn_182 (ob_cL_isName 3 rfl) rfl
theorem dL_isName_6 : decode cL_isName 6 = .ok (.ifCond .eq 7, 3) := dn_153 (ob_cL_isName 6 rfl) (by decide +kernel)
theorem dL_isName_9 : decode cL_isName 9 = .ok (.lconst 1, 1) := dn_10 (ob_cL_isName 9 rfl)
theorem dL_isName_10 : decode cL_isName 10 = .ok (.goto 4, 3) := dn_167 (ob_cL_isName 10 rfl) (by decide +kernel)
theorem dL_isName_13 : decode cL_isName 13 = .ok (.lconst 0, 1) := dn_9 (ob_cL_isName 13 rfl)
theorem dL_isName_14 : decode cL_isName 14 = .ok (.putfield 13, 3) := dn_181 (ob_cL_isName 14 rfl) rfl
theorem dL_isName_17 : decode cL_isName 17 = .ok (.goto 6, 3) := dn_167 (ob_cL_isName 17 rfl) (by decide +kernel)
theorem dL_isName_20 : decode cL_isName 20 = .ok (.astore_n 3, 1) := dn_78 (ob_cL_isName 20 rfl)
theorem dL_isName_21 : decode cL_isName 21 = .ok (.iconst 1, 1) := dn_4 (ob_cL_isName 21 rfl)
theorem dL_isName_22 : decode cL_isName 22 = .ok (.ireturn, 1) := dn_172 (ob_cL_isName 22 rfl)
theorem dL_isName_23 : decode cL_isName 23 = .ok (.iconst 0, 1) := dn_3 (ob_cL_isName 23 rfl)
theorem dL_isName_24 : decode cL_isName 24 = .ok (.ireturn, 1) := dn_172 (ob_cL_isName 24 rfl)
def kb_cL_fault : List UInt8 := [44, 42, 27, 182, 0, 138, 133, 181, 0, 13, 167, 0, 6, 78, 4, 172, 3, 172]
set_option maxRecDepth 10000 in
theorem ob_cL_fault (r : Nat) {l : List UInt8} (h : kb_cL_fault.drop r = l) : (cL_fault).data.toList.drop r = l := by
  rw [show (cL_fault).data.toList = kb_cL_fault from eqL_eq (by decide +kernel)]
  exact h
theorem dL_fault_0 : decode cL_fault 0 = .ok (.aload_n 2, 1) := dn_44 (ob_cL_fault 0 rfl)
theorem dL_fault_1 : decode cL_fault 1 = .ok (.aload_n 0, 1) := dn_42 (ob_cL_fault 1 rfl)
theorem dL_fault_2 : decode cL_fault 2 = .ok (.iload_n 1, 1) := dn_27 (ob_cL_fault 2 rfl)
theorem dL_fault_3 : decode cL_fault 3 = .ok (.invokevirtual 138, 3) := dn_182 (ob_cL_fault 3 rfl) rfl
theorem dL_fault_6 : decode cL_fault 6 = .ok (.i2l, 1) := dn_133 (ob_cL_fault 6 rfl)
theorem dL_fault_7 : decode cL_fault 7 = .ok (.putfield 13, 3) := dn_181 (ob_cL_fault 7 rfl) rfl
theorem dL_fault_10 : decode cL_fault 10 = .ok (.goto 6, 3) := dn_167 (ob_cL_fault 10 rfl) (by decide +kernel)
theorem dL_fault_13 : decode cL_fault 13 = .ok (.astore_n 3, 1) := dn_78 (ob_cL_fault 13 rfl)
theorem dL_fault_14 : decode cL_fault 14 = .ok (.iconst 1, 1) := dn_4 (ob_cL_fault 14 rfl)
theorem dL_fault_15 : decode cL_fault 15 = .ok (.ireturn, 1) := dn_172 (ob_cL_fault 15 rfl)
theorem dL_fault_16 : decode cL_fault 16 = .ok (.iconst 0, 1) := dn_3 (ob_cL_fault 16 rfl)
theorem dL_fault_17 : decode cL_fault 17 = .ok (.ireturn, 1) := dn_172 (ob_cL_fault 17 rfl)
def kb_cL_sort : List UInt8 := [25, 4, 42, 27, 28, 29, 182, 0, 141, 133, 181, 0, 13, 167, 0, 7, 58, 5, 4, 172, 3, 172]
set_option maxRecDepth 10000 in
theorem ob_cL_sort (r : Nat) {l : List UInt8} (h : kb_cL_sort.drop r = l) : (cL_sort).data.toList.drop r = l := by
  rw [show (cL_sort).data.toList = kb_cL_sort from eqL_eq (by decide +kernel)]
  exact h
theorem dL_sort_0 : decode cL_sort 0 = .ok (.aload 4, 2) := dn_25 (ob_cL_sort 0 rfl) rfl
theorem dL_sort_2 : decode cL_sort 2 = .ok (.aload_n 0, 1) := dn_42 (ob_cL_sort 2 rfl)
theorem dL_sort_3 : decode cL_sort 3 = .ok (.iload_n 1, 1) := dn_27 (ob_cL_sort 3 rfl)
theorem dL_sort_4 : decode cL_sort 4 = .ok (.iload_n 2, 1) := dn_28 (ob_cL_sort 4 rfl)
theorem dL_sort_5 : decode cL_sort 5 = .ok (.iload_n 3, 1) := dn_29 (ob_cL_sort 5 rfl)
theorem dL_sort_6 : decode cL_sort 6 = .ok (.invokevirtual 141, 3) := dn_182 (ob_cL_sort 6 rfl) rfl
theorem dL_sort_9 : decode cL_sort 9 = .ok (.i2l, 1) := dn_133 (ob_cL_sort 9 rfl)
theorem dL_sort_10 : decode cL_sort 10 = .ok (.putfield 13, 3) := dn_181 (ob_cL_sort 10 rfl) rfl
theorem dL_sort_13 : decode cL_sort 13 = .ok (.goto 7, 3) := dn_167 (ob_cL_sort 13 rfl) (by decide +kernel)
theorem dL_sort_16 : decode cL_sort 16 = .ok (.astore 5, 2) := dn_58 (ob_cL_sort 16 rfl) rfl
theorem dL_sort_18 : decode cL_sort 18 = .ok (.iconst 1, 1) := dn_4 (ob_cL_sort 18 rfl)
theorem dL_sort_19 : decode cL_sort 19 = .ok (.ireturn, 1) := dn_172 (ob_cL_sort 19 rfl)
theorem dL_sort_20 : decode cL_sort 20 = .ok (.iconst 0, 1) := dn_3 (ob_cL_sort 20 rfl)
theorem dL_sort_21 : decode cL_sort 21 = .ok (.ireturn, 1) := dn_172 (ob_cL_sort 21 rfl)
def kb_cL_longest : List UInt8 := [45, 42, 27, 28, 182, 0, 144, 133, 181, 0, 13, 167, 0, 7, 58, 4, 4, 172, 3, 172]
set_option maxRecDepth 10000 in
theorem ob_cL_longest (r : Nat) {l : List UInt8} (h : kb_cL_longest.drop r = l) : (cL_longest).data.toList.drop r = l := by
  rw [show (cL_longest).data.toList = kb_cL_longest from eqL_eq (by decide +kernel)]
  exact h
theorem dL_longest_0 : decode cL_longest 0 = .ok (.aload_n 3, 1) := dn_45 (ob_cL_longest 0 rfl)
theorem dL_longest_1 : decode cL_longest 1 = .ok (.aload_n 0, 1) := dn_42 (ob_cL_longest 1 rfl)
theorem dL_longest_2 : decode cL_longest 2 = .ok (.iload_n 1, 1) := dn_27 (ob_cL_longest 2 rfl)
theorem dL_longest_3 : decode cL_longest 3 = .ok (.iload_n 2, 1) := dn_28 (ob_cL_longest 3 rfl)
theorem dL_longest_4 : decode cL_longest 4 = .ok (.invokevirtual 144, 3) := dn_182 (ob_cL_longest 4 rfl) rfl
theorem dL_longest_7 : decode cL_longest 7 = .ok (.i2l, 1) := dn_133 (ob_cL_longest 7 rfl)
theorem dL_longest_8 : decode cL_longest 8 = .ok (.putfield 13, 3) := dn_181 (ob_cL_longest 8 rfl) rfl
theorem dL_longest_11 : decode cL_longest 11 = .ok (.goto 7, 3) := dn_167 (ob_cL_longest 11 rfl) (by decide +kernel)
theorem dL_longest_14 : decode cL_longest 14 = .ok (.astore 4, 2) := dn_58 (ob_cL_longest 14 rfl) rfl
theorem dL_longest_16 : decode cL_longest 16 = .ok (.iconst 1, 1) := dn_4 (ob_cL_longest 16 rfl)
theorem dL_longest_17 : decode cL_longest 17 = .ok (.ireturn, 1) := dn_172 (ob_cL_longest 17 rfl)
theorem dL_longest_18 : decode cL_longest 18 = .ok (.iconst 0, 1) := dn_3 (ob_cL_longest 18 rfl)
theorem dL_longest_19 : decode cL_longest 19 = .ok (.ireturn, 1) := dn_172 (ob_cL_longest 19 rfl)
def kb_cL_pieces : List UInt8 := [44, 42, 27, 182, 0, 147, 133, 181, 0, 13, 167, 0, 6, 78, 4, 172, 3, 172]
set_option maxRecDepth 10000 in
theorem ob_cL_pieces (r : Nat) {l : List UInt8} (h : kb_cL_pieces.drop r = l) : (cL_pieces).data.toList.drop r = l := by
  rw [show (cL_pieces).data.toList = kb_cL_pieces from eqL_eq (by decide +kernel)]
  exact h
theorem dL_pieces_0 : decode cL_pieces 0 = .ok (.aload_n 2, 1) := dn_44 (ob_cL_pieces 0 rfl)
theorem dL_pieces_1 : decode cL_pieces 1 = .ok (.aload_n 0, 1) := dn_42 (ob_cL_pieces 1 rfl)
theorem dL_pieces_2 : decode cL_pieces 2 = .ok (.iload_n 1, 1) := dn_27 (ob_cL_pieces 2 rfl)
theorem dL_pieces_3 : decode cL_pieces 3 = .ok (.invokevirtual 147, 3) := dn_182 (ob_cL_pieces 3 rfl) rfl
theorem dL_pieces_6 : decode cL_pieces 6 = .ok (.i2l, 1) := dn_133 (ob_cL_pieces 6 rfl)
theorem dL_pieces_7 : decode cL_pieces 7 = .ok (.putfield 13, 3) := dn_181 (ob_cL_pieces 7 rfl) rfl
theorem dL_pieces_10 : decode cL_pieces 10 = .ok (.goto 6, 3) := dn_167 (ob_cL_pieces 10 rfl) (by decide +kernel)
theorem dL_pieces_13 : decode cL_pieces 13 = .ok (.astore_n 3, 1) := dn_78 (ob_cL_pieces 13 rfl)
theorem dL_pieces_14 : decode cL_pieces 14 = .ok (.iconst 1, 1) := dn_4 (ob_cL_pieces 14 rfl)
theorem dL_pieces_15 : decode cL_pieces 15 = .ok (.ireturn, 1) := dn_172 (ob_cL_pieces 15 rfl)
theorem dL_pieces_16 : decode cL_pieces 16 = .ok (.iconst 0, 1) := dn_3 (ob_cL_pieces 16 rfl)
theorem dL_pieces_17 : decode cL_pieces 17 = .ok (.ireturn, 1) := dn_172 (ob_cL_pieces 17 rfl)
def kb_cL_piece : List UInt8 := [25, 4, 42, 27, 28, 29, 182, 0, 150, 133, 181, 0, 13, 167, 0, 11, 58, 5, 4, 172, 58, 5, 5, 172, 3, 172]
set_option maxRecDepth 10000 in
theorem ob_cL_piece (r : Nat) {l : List UInt8} (h : kb_cL_piece.drop r = l) : (cL_piece).data.toList.drop r = l := by
  rw [show (cL_piece).data.toList = kb_cL_piece from eqL_eq (by decide +kernel)]
  exact h
theorem dL_piece_0 : decode cL_piece 0 = .ok (.aload 4, 2) := dn_25 (ob_cL_piece 0 rfl) rfl
theorem dL_piece_2 : decode cL_piece 2 = .ok (.aload_n 0, 1) := dn_42 (ob_cL_piece 2 rfl)
theorem dL_piece_3 : decode cL_piece 3 = .ok (.iload_n 1, 1) := dn_27 (ob_cL_piece 3 rfl)
theorem dL_piece_4 : decode cL_piece 4 = .ok (.iload_n 2, 1) := dn_28 (ob_cL_piece 4 rfl)
theorem dL_piece_5 : decode cL_piece 5 = .ok (.iload_n 3, 1) := dn_29 (ob_cL_piece 5 rfl)
theorem dL_piece_6 : decode cL_piece 6 = .ok (.invokevirtual 150, 3) := dn_182 (ob_cL_piece 6 rfl) rfl
theorem dL_piece_9 : decode cL_piece 9 = .ok (.i2l, 1) := dn_133 (ob_cL_piece 9 rfl)
theorem dL_piece_10 : decode cL_piece 10 = .ok (.putfield 13, 3) := dn_181 (ob_cL_piece 10 rfl) rfl
theorem dL_piece_13 : decode cL_piece 13 = .ok (.goto 11, 3) := dn_167 (ob_cL_piece 13 rfl) (by decide +kernel)
theorem dL_piece_16 : decode cL_piece 16 = .ok (.astore 5, 2) := dn_58 (ob_cL_piece 16 rfl) rfl
theorem dL_piece_18 : decode cL_piece 18 = .ok (.iconst 1, 1) := dn_4 (ob_cL_piece 18 rfl)
theorem dL_piece_19 : decode cL_piece 19 = .ok (.ireturn, 1) := dn_172 (ob_cL_piece 19 rfl)
theorem dL_piece_20 : decode cL_piece 20 = .ok (.astore 5, 2) := dn_58 (ob_cL_piece 20 rfl) rfl
theorem dL_piece_22 : decode cL_piece 22 = .ok (.iconst 2, 1) := dn_5 (ob_cL_piece 22 rfl)
theorem dL_piece_23 : decode cL_piece 23 = .ok (.ireturn, 1) := dn_172 (ob_cL_piece 23 rfl)
theorem dL_piece_24 : decode cL_piece 24 = .ok (.iconst 0, 1) := dn_3 (ob_cL_piece 24 rfl)
theorem dL_piece_25 : decode cL_piece 25 = .ok (.ireturn, 1) := dn_172 (ob_cL_piece 25 rfl)
def kb_cL_sorts : List UInt8 := [44, 42, 27, 182, 0, 153, 181, 0, 112, 167, 0, 6, 78, 4, 172, 3, 172]
set_option maxRecDepth 10000 in
theorem ob_cL_sorts (r : Nat) {l : List UInt8} (h : kb_cL_sorts.drop r = l) : (cL_sorts).data.toList.drop r = l := by
  rw [show (cL_sorts).data.toList = kb_cL_sorts from eqL_eq (by decide +kernel)]
  exact h
theorem dL_sorts_0 : decode cL_sorts 0 = .ok (.aload_n 2, 1) := dn_44 (ob_cL_sorts 0 rfl)
theorem dL_sorts_1 : decode cL_sorts 1 = .ok (.aload_n 0, 1) := dn_42 (ob_cL_sorts 1 rfl)
theorem dL_sorts_2 : decode cL_sorts 2 = .ok (.iload_n 1, 1) := dn_27 (ob_cL_sorts 2 rfl)
theorem dL_sorts_3 : decode cL_sorts 3 = .ok (.invokevirtual 153, 3) := dn_182 (ob_cL_sorts 3 rfl) rfl
theorem dL_sorts_6 : decode cL_sorts 6 = .ok (.putfield 112, 3) := dn_181 (ob_cL_sorts 6 rfl) rfl
theorem dL_sorts_9 : decode cL_sorts 9 = .ok (.goto 6, 3) := dn_167 (ob_cL_sorts 9 rfl) (by decide +kernel)
theorem dL_sorts_12 : decode cL_sorts 12 = .ok (.astore_n 3, 1) := dn_78 (ob_cL_sorts 12 rfl)
theorem dL_sorts_13 : decode cL_sorts 13 = .ok (.iconst 1, 1) := dn_4 (ob_cL_sorts 13 rfl)
theorem dL_sorts_14 : decode cL_sorts 14 = .ok (.ireturn, 1) := dn_172 (ob_cL_sorts 14 rfl)
theorem dL_sorts_15 : decode cL_sorts 15 = .ok (.iconst 0, 1) := dn_3 (ob_cL_sorts 15 rfl)
theorem dL_sorts_16 : decode cL_sorts 16 = .ok (.ireturn, 1) := dn_172 (ob_cL_sorts 16 rfl)
def kb_cL_cuts : List UInt8 := [44, 42, 27, 182, 0, 156, 133, 181, 0, 13, 167, 0, 6, 78, 4, 172, 3, 172]
set_option maxRecDepth 10000 in
theorem ob_cL_cuts (r : Nat) {l : List UInt8} (h : kb_cL_cuts.drop r = l) : (cL_cuts).data.toList.drop r = l := by
  rw [show (cL_cuts).data.toList = kb_cL_cuts from eqL_eq (by decide +kernel)]
  exact h
theorem dL_cuts_0 : decode cL_cuts 0 = .ok (.aload_n 2, 1) := dn_44 (ob_cL_cuts 0 rfl)
theorem dL_cuts_1 : decode cL_cuts 1 = .ok (.aload_n 0, 1) := dn_42 (ob_cL_cuts 1 rfl)
theorem dL_cuts_2 : decode cL_cuts 2 = .ok (.iload_n 1, 1) := dn_27 (ob_cL_cuts 2 rfl)
theorem dL_cuts_3 : decode cL_cuts 3 = .ok (.invokevirtual 156, 3) := dn_182 (ob_cL_cuts 3 rfl) rfl
theorem dL_cuts_6 : decode cL_cuts 6 = .ok (.i2l, 1) := dn_133 (ob_cL_cuts 6 rfl)
theorem dL_cuts_7 : decode cL_cuts 7 = .ok (.putfield 13, 3) := dn_181 (ob_cL_cuts 7 rfl) rfl
theorem dL_cuts_10 : decode cL_cuts 10 = .ok (.goto 6, 3) := dn_167 (ob_cL_cuts 10 rfl) (by decide +kernel)
theorem dL_cuts_13 : decode cL_cuts 13 = .ok (.astore_n 3, 1) := dn_78 (ob_cL_cuts 13 rfl)
theorem dL_cuts_14 : decode cL_cuts 14 = .ok (.iconst 1, 1) := dn_4 (ob_cL_cuts 14 rfl)
theorem dL_cuts_15 : decode cL_cuts 15 = .ok (.ireturn, 1) := dn_172 (ob_cL_cuts 15 rfl)
theorem dL_cuts_16 : decode cL_cuts 16 = .ok (.iconst 0, 1) := dn_3 (ob_cL_cuts 16 rfl)
theorem dL_cuts_17 : decode cL_cuts 17 = .ok (.ireturn, 1) := dn_172 (ob_cL_cuts 17 rfl)
def kb_cL_back : List UInt8 := [44, 42, 27, 182, 0, 159, 133, 181, 0, 13, 167, 0, 6, 78, 4, 172, 3, 172]
set_option maxRecDepth 10000 in
theorem ob_cL_back (r : Nat) {l : List UInt8} (h : kb_cL_back.drop r = l) : (cL_back).data.toList.drop r = l := by
  rw [show (cL_back).data.toList = kb_cL_back from eqL_eq (by decide +kernel)]
  exact h
theorem dL_back_0 : decode cL_back 0 = .ok (.aload_n 2, 1) := dn_44 (ob_cL_back 0 rfl)
theorem dL_back_1 : decode cL_back 1 = .ok (.aload_n 0, 1) := dn_42 (ob_cL_back 1 rfl)
theorem dL_back_2 : decode cL_back 2 = .ok (.iload_n 1, 1) := dn_27 (ob_cL_back 2 rfl)
theorem dL_back_3 : decode cL_back 3 = .ok (.invokevirtual 159, 3) := dn_182 (ob_cL_back 3 rfl) rfl
theorem dL_back_6 : decode cL_back 6 = .ok (.i2l, 1) := dn_133 (ob_cL_back 6 rfl)
theorem dL_back_7 : decode cL_back 7 = .ok (.putfield 13, 3) := dn_181 (ob_cL_back 7 rfl) rfl
theorem dL_back_10 : decode cL_back 10 = .ok (.goto 6, 3) := dn_167 (ob_cL_back 10 rfl) (by decide +kernel)
theorem dL_back_13 : decode cL_back 13 = .ok (.astore_n 3, 1) := dn_78 (ob_cL_back 13 rfl)
theorem dL_back_14 : decode cL_back 14 = .ok (.iconst 1, 1) := dn_4 (ob_cL_back 14 rfl)
theorem dL_back_15 : decode cL_back 15 = .ok (.ireturn, 1) := dn_172 (ob_cL_back 15 rfl)
theorem dL_back_16 : decode cL_back 16 = .ok (.iconst 0, 1) := dn_3 (ob_cL_back 16 rfl)
theorem dL_back_17 : decode cL_back 17 = .ok (.ireturn, 1) := dn_172 (ob_cL_back 17 rfl)
def kb_cL_fewest : List UInt8 := [44, 42, 27, 182, 0, 162, 133, 181, 0, 13, 167, 0, 6, 78, 4, 172, 3, 172]
set_option maxRecDepth 10000 in
theorem ob_cL_fewest (r : Nat) {l : List UInt8} (h : kb_cL_fewest.drop r = l) : (cL_fewest).data.toList.drop r = l := by
  rw [show (cL_fewest).data.toList = kb_cL_fewest from eqL_eq (by decide +kernel)]
  exact h
theorem dL_fewest_0 : decode cL_fewest 0 = .ok (.aload_n 2, 1) := dn_44 (ob_cL_fewest 0 rfl)
theorem dL_fewest_1 : decode cL_fewest 1 = .ok (.aload_n 0, 1) := dn_42 (ob_cL_fewest 1 rfl)
theorem dL_fewest_2 : decode cL_fewest 2 = .ok (.iload_n 1, 1) := dn_27 (ob_cL_fewest 2 rfl)
theorem dL_fewest_3 : decode cL_fewest 3 = .ok (.invokevirtual 162, 3) := dn_182 (ob_cL_fewest 3 rfl) rfl
theorem dL_fewest_6 : decode cL_fewest 6 = .ok (.i2l, 1) := dn_133 (ob_cL_fewest 6 rfl)
theorem dL_fewest_7 : decode cL_fewest 7 = .ok (.putfield 13, 3) := dn_181 (ob_cL_fewest 7 rfl) rfl
theorem dL_fewest_10 : decode cL_fewest 10 = .ok (.goto 6, 3) := dn_167 (ob_cL_fewest 10 rfl) (by decide +kernel)
theorem dL_fewest_13 : decode cL_fewest 13 = .ok (.astore_n 3, 1) := dn_78 (ob_cL_fewest 13 rfl)
theorem dL_fewest_14 : decode cL_fewest 14 = .ok (.iconst 1, 1) := dn_4 (ob_cL_fewest 14 rfl)
theorem dL_fewest_15 : decode cL_fewest 15 = .ok (.ireturn, 1) := dn_172 (ob_cL_fewest 15 rfl)
theorem dL_fewest_16 : decode cL_fewest 16 = .ok (.iconst 0, 1) := dn_3 (ob_cL_fewest 16 rfl)
theorem dL_fewest_17 : decode cL_fewest 17 = .ok (.ireturn, 1) := dn_172 (ob_cL_fewest 17 rfl)
def kb_cL_parted : List UInt8 := [45, 42, 27, 28, 182, 0, 165, 133, 181, 0, 13, 167, 0, 11, 58, 4, 4, 172, 58, 4, 5, 172, 3, 172]
set_option maxRecDepth 10000 in
theorem ob_cL_parted (r : Nat) {l : List UInt8} (h : kb_cL_parted.drop r = l) : (cL_parted).data.toList.drop r = l := by
  rw [show (cL_parted).data.toList = kb_cL_parted from eqL_eq (by decide +kernel)]
  exact h
theorem dL_parted_0 : decode cL_parted 0 = .ok (.aload_n 3, 1) := dn_45 (ob_cL_parted 0 rfl)
theorem dL_parted_1 : decode cL_parted 1 = .ok (.aload_n 0, 1) := dn_42 (ob_cL_parted 1 rfl)
theorem dL_parted_2 : decode cL_parted 2 = .ok (.iload_n 1, 1) := dn_27 (ob_cL_parted 2 rfl)
theorem dL_parted_3 : decode cL_parted 3 = .ok (.iload_n 2, 1) := dn_28 (ob_cL_parted 3 rfl)
theorem dL_parted_4 : decode cL_parted 4 = .ok (.invokevirtual 165, 3) := dn_182 (ob_cL_parted 4 rfl) rfl
theorem dL_parted_7 : decode cL_parted 7 = .ok (.i2l, 1) := dn_133 (ob_cL_parted 7 rfl)
theorem dL_parted_8 : decode cL_parted 8 = .ok (.putfield 13, 3) := dn_181 (ob_cL_parted 8 rfl) rfl
theorem dL_parted_11 : decode cL_parted 11 = .ok (.goto 11, 3) := dn_167 (ob_cL_parted 11 rfl) (by decide +kernel)
theorem dL_parted_14 : decode cL_parted 14 = .ok (.astore 4, 2) := dn_58 (ob_cL_parted 14 rfl) rfl
theorem dL_parted_16 : decode cL_parted 16 = .ok (.iconst 1, 1) := dn_4 (ob_cL_parted 16 rfl)
theorem dL_parted_17 : decode cL_parted 17 = .ok (.ireturn, 1) := dn_172 (ob_cL_parted 17 rfl)
theorem dL_parted_18 : decode cL_parted 18 = .ok (.astore 4, 2) := dn_58 (ob_cL_parted 18 rfl) rfl
theorem dL_parted_20 : decode cL_parted 20 = .ok (.iconst 2, 1) := dn_5 (ob_cL_parted 20 rfl)
theorem dL_parted_21 : decode cL_parted 21 = .ok (.ireturn, 1) := dn_172 (ob_cL_parted 21 rfl)
theorem dL_parted_22 : decode cL_parted 22 = .ok (.iconst 0, 1) := dn_3 (ob_cL_parted 22 rfl)
theorem dL_parted_23 : decode cL_parted 23 = .ok (.ireturn, 1) := dn_172 (ob_cL_parted 23 rfl)
def kb_cL_house : List UInt8 := [44, 42, 27, 182, 0, 168, 133, 181, 0, 13, 167, 0, 6, 78, 4, 172, 3, 172]
set_option maxRecDepth 10000 in
theorem ob_cL_house (r : Nat) {l : List UInt8} (h : kb_cL_house.drop r = l) : (cL_house).data.toList.drop r = l := by
  rw [show (cL_house).data.toList = kb_cL_house from eqL_eq (by decide +kernel)]
  exact h
theorem dL_house_0 : decode cL_house 0 = .ok (.aload_n 2, 1) := dn_44 (ob_cL_house 0 rfl)
theorem dL_house_1 : decode cL_house 1 = .ok (.aload_n 0, 1) := dn_42 (ob_cL_house 1 rfl)
theorem dL_house_2 : decode cL_house 2 = .ok (.iload_n 1, 1) := dn_27 (ob_cL_house 2 rfl)
theorem dL_house_3 : decode cL_house 3 = .ok (.invokevirtual 168, 3) := dn_182 (ob_cL_house 3 rfl) rfl
theorem dL_house_6 : decode cL_house 6 = .ok (.i2l, 1) := dn_133 (ob_cL_house 6 rfl)
theorem dL_house_7 : decode cL_house 7 = .ok (.putfield 13, 3) := dn_181 (ob_cL_house 7 rfl) rfl
theorem dL_house_10 : decode cL_house 10 = .ok (.goto 6, 3) := dn_167 (ob_cL_house 10 rfl) (by decide +kernel)
theorem dL_house_13 : decode cL_house 13 = .ok (.astore_n 3, 1) := dn_78 (ob_cL_house 13 rfl)
theorem dL_house_14 : decode cL_house 14 = .ok (.iconst 1, 1) := dn_4 (ob_cL_house 14 rfl)
theorem dL_house_15 : decode cL_house 15 = .ok (.ireturn, 1) := dn_172 (ob_cL_house 15 rfl)
theorem dL_house_16 : decode cL_house 16 = .ok (.iconst 0, 1) := dn_3 (ob_cL_house 16 rfl)
theorem dL_house_17 : decode cL_house 17 = .ok (.ireturn, 1) := dn_172 (ob_cL_house 17 rfl)
end
section
/-! the law's answers: their state; what the handlers catch -/
/-- the class became another one, the answer too, nothing else -/
def dW (G : gK) (w : wd) (K : kA) (M : kM) (o : Nat) (w' : wd) : Prop := ∃ (M' : kM) (y' : Int64) (sv' : Value), kS G w' K M' ∧ M'.2.2.2.2 = M.2.2.2.2 ∧ w' o = some (eO 4 [.long y', sv']) ∧ fr (fun q => kP K q ∨ q = o) w w'
theorem dW.rf {G : gK} {w : wd} {K : kA} {M : kM} {o : Nat} {y : Int64} {sv : Value} (h : kS G w K M) (ho : w o = some (eO 4 [.long y, sv])) : dW G w K M o w := ⟨M, y, sv, h, rfl, ho, fr.rf⟩
theorem dW.of {G : gK} {w w9 : wd} {K : kA} {M M9 : kM} {o : Nat} {y' : Int64} {sv' : Value} (h : kS G w9 K M9) (hk : M9.2.2.2.2 = M.2.2.2.2) (hf : fr (kP K) w w9) (hd : ¬ kP K o) : dW G w K M o (ws1 w9 o (eO 4 [.long y', sv'])) :=
  ⟨M9, y', sv', h.fr (P := fun q => q = o) (fr.rf.set rfl) (fun q hq e => hd (by rw [← e]; exact hq)), hk, ws1_s, (hf.mono (fun _ h => Or.inl h)).set (Or.inr rfl)⟩
/-- an answer: 1 and nothing is other, or 0 and the number in the answer is V -/
def dQ (w : wd) (oc : Nat) (z : Int) (P : Prop) (V : Int64) (sv : Value) (w' : wd) : Prop := (z = 1 ∧ ¬ P ∧ w' = w) ∨ (z = 0 ∧ P ∧ w' = ws1 w oc (eO 4 [.long V, sv]))
/-- the answer is another one, the class's own state is as it was, nothing else is other -/
def dV (G : gK) (w : wd) (K : kA) (M : kM) (o : Nat) (w' : wd) : Prop := ∃ (y' : Int64) (sv' : Value), kS G w' K M ∧ w' o = some (eO 4 [.long y', sv']) ∧ fr (fun q => kP K q ∨ q = o) w w'
theorem dV.rf {G : gK} {w : wd} {K : kA} {M : kM} {o : Nat} {y : Int64} {sv : Value} (h : kS G w K M) (ho : w o = some (eO 4 [.long y, sv])) : dV G w K M o w := ⟨y, sv, h, ho, fr.rf⟩
theorem dV.of {G : gK} {w w9 : wd} {K : kA} {M : kM} {o : Nat} {y' : Int64} {sv' : Value} (h : kS G w9 K M) (hf : fr (kP K) w w9) (hd : ¬ kP K o) : dV G w K M o (ws1 w9 o (eO 4 [.long y', sv'])) :=
  ⟨y', sv', h.fr (P := fun q => q = o) (fr.rf.set rfl) (fun q hq e => hd (by rw [← e]; exact hq)), ws1_s, (hf.mono (fun _ h => Or.inl h)).set (Or.inr rfl)⟩
/-- an act: 1 or 2 and nothing is other, or 0 and it came to x, whose number is in the answer -/
def dA (G : gK) (w : wd) (K : kA) (M : kM) (o : Nat) (P1 P2 : Prop) (x : oT) (sv : Value) (z : Int) (w' : wd) : Prop := (z = 1 ∧ ¬ P1 ∧ w' = w) ∨ (z = 2 ∧ P1 ∧ ¬ P2 ∧ w' = w) ∨ (z = 0 ∧ P1 ∧ P2 ∧ ∃ (z2 : Int) (M' : kM), aDo M x z2 M' ∧ kS G w' K M' ∧ w' o = some (eO 4 [.long (zI z2).toInt64, sv]) ∧ fr (fun q => kP K q ∨ q = o) w w')
theorem dA.of {G : gK} {w w9 : wd} {K : kA} {M M9 : kM} {o : Nat} {P1 P2 : Prop} {x : oT} {sv : Value} {z2 : Int} (p1 : P1) (p2 : P2) (h : kS G w9 K M9) (ha : aDo M x z2 M9) (hf : fr (kP K) w w9) (hd : ¬ kP K o) : dA G w K M o P1 P2 x sv 0 (ws1 w9 o (eO 4 [.long (zI z2).toInt64, sv])) :=
  Or.inr (Or.inr ⟨rfl, p1, p2, z2, M9, ha, h.fr (P := fun q => q = o) (fr.rf.set rfl) (fun q hq e => hd (by rw [← e]; exact hq)), ws1_s, (hf.mono (fun _ h => Or.inl h)).set (Or.inr rfl)⟩)
/-- a question of texts: 1 or 2 and nothing is other, or 0, and the number in the answer is told by Q, the class's own state is as it was -/
def dT (G : gK) (w : wd) (K : kA) (M : kM) (o : Nat) (P1 P2 : Prop) (Q : Int64 → Prop) (sv : Value) (z : Int) (w' : wd) : Prop := (z = 1 ∧ ¬ P1 ∧ w' = w) ∨ (z = 2 ∧ P1 ∧ ¬ P2 ∧ w' = w) ∨ (z = 0 ∧ P1 ∧ P2 ∧ ∃ y : Int64, Q y ∧ kS G w' K M ∧ w' o = some (eO 4 [.long y, sv]) ∧ fr (fun q => kP K q ∨ q = o) w w')
theorem dT.of {G : gK} {w w9 : wd} {K : kA} {M : kM} {o : Nat} {P1 P2 : Prop} {Q : Int64 → Prop} {sv : Value} {y : Int64} (p1 : P1) (p2 : P2) (h : kS G w9 K M) (hq : Q y) (hf : fr (kP K) w w9) (hd : ¬ kP K o) : dT G w K M o P1 P2 Q sv 0 (ws1 w9 o (eO 4 [.long y, sv])) :=
  Or.inr (Or.inr ⟨rfl, p1, p2, y, hq, h.fr (P := fun q => q = o) (fr.rf.set rfl) (fun q hq e => hd (by rw [← e]; exact hq)), ws1_s, (hf.mono (fun _ h => Or.inl h)).set (Or.inr rfl)⟩)
section GCT
variable {b : gBt} {l : Launch} {s0 : State} {G : gK} {cc : ByteArray} {own : String} {nL : Nat} {rm : Room} {k n pc : Nat} {L : List (Nat × Value)} {st rest : List Value} {w : wd}
theorem k_ncA {s : State} (h0 : gS0 s0) (hE : gEnv s0 G s) : va_Nc "java/lang/IllegalArgumentException" "java/lang/IndexOutOfBoundsException" s := g_nc h0 hE (fun _ h => va_Nc.of (flat_of_before _ h (Cond.not (.castable "java/lang/IllegalArgumentException" "java/lang/IndexOutOfBoundsException")) (by decide +kernel)))
theorem x_ct1 (Z : gAm b l s0 G cc own nL rm) {ret : Option FieldType} {nm : String} {a0 a1 a2 a3 : Nat} {Rt : Option Value → wd → Prop} {Xt : String → wd → Prop} (E : gQm b s0 G ret rm nm (tableOf [(a0, a1, a2, a3)]) Rt Xt) {X : String} (hlink : Cond.classLink own a3 X ∈ gT) (hcast : Cond.castable X X ∈ gT) (hc : covers ⟨a0, a1, a2, a3⟩ pc = true) (hz : a3 ≠ 0) (kk : ∀ q : Nat, gX b s0 G k n a2 L [rv q] w) : gE b s0 G k n pc L st w X :=
  x_catch Z E [] ⟨a0, a1, a2, a3⟩ [] rfl (fun _ h => absurd h List.not_mem_nil) hc hz hlink hcast kk
theorem x_ct2 (Z : gAm b l s0 G cc own nL rm) {ret : Option FieldType} {nm : String} {a0 a1 a2 a3 : Nat} {q9 : Nat × Nat × Nat × Nat} {Rt : Option Value → wd → Prop} {Xt : String → wd → Prop} (E : gQm b s0 G ret rm nm (tableOf [(a0, a1, a2, a3), q9]) Rt Xt) {X : String} (hlink : Cond.classLink own a3 X ∈ gT) (hcast : Cond.castable X X ∈ gT) (hc : covers ⟨a0, a1, a2, a3⟩ pc = true) (hz : a3 ≠ 0) (kk : ∀ q : Nat, gX b s0 G k n a2 L [rv q] w) : gE b s0 G k n pc L st w X :=
  x_catch Z E [] ⟨a0, a1, a2, a3⟩ [⟨q9.1, q9.2.1, q9.2.2.1, q9.2.2.2⟩] rfl (fun _ h => absurd h List.not_mem_nil) hc hz hlink hcast kk
theorem x_ct3 (Z : gAm b l s0 G cc own nL rm) {ret : Option FieldType} {nm : String} {a0 a1 a2 a3 b0 b1 b2 b3 : Nat} {Rt : Option Value → wd → Prop} {Xt : String → wd → Prop} (E : gQm b s0 G ret rm nm (tableOf [(b0, b1, b2, b3), (a0, a1, a2, a3)]) Rt Xt) (hl1 : Cond.classLink own b3 "java/lang/IndexOutOfBoundsException" ∈ gT) (hz1 : b3 ≠ 0) (hlink : Cond.classLink own a3 "java/lang/IllegalArgumentException" ∈ gT) (hcast : Cond.castable "java/lang/IllegalArgumentException" "java/lang/IllegalArgumentException" ∈ gT) (hc : covers ⟨a0, a1, a2, a3⟩ pc = true) (hz : a3 ≠ 0) (kk : ∀ q : Nat, gX b s0 G k n a2 L [rv q] w) : gE b s0 G k n pc L st w "java/lang/IllegalArgumentException" := by
  have hnc : va_Nc "java/lang/IllegalArgumentException" "java/lang/IndexOutOfBoundsException" (bs b) := by
    obtain ⟨-, -, -, h0, hE, -⟩ := Z
    exact k_ncA h0 hE
  exact x_catch Z E [⟨b0, b1, b2, b3⟩] ⟨a0, a1, a2, a3⟩ [] rfl (fun z hz9 => by
    obtain rfl := List.mem_singleton.mp hz9
    exact Or.inr ⟨hz1, _, hl1, hnc⟩) hc hz hlink hcast kk
theorem x_lcmpE (Z : gAm b l s0 G cc own nL rm) {x y : Int64} (d : decode cc pc = .ok (.lcmp, 1)) (h : x = y) (kk : gX b s0 G k n (pc + 1) L (iv 0 :: st) w) : gX b s0 G k n pc L (.long y :: .long x :: st) w := by
  obtain ⟨hx, hb, -⟩ := Z
  subst h
  have e : lg_cmp x x = 0 := by simp [lg_cmp]
  exact fun H locs ls hP hS hl => W.lcmp hx hb d (by rw [e, show (Value.int 0 : Value) = iv 0 from congrArg Value.int zI_0.symm]; exact kk H locs ls hP hS hl)
end GCT
end
