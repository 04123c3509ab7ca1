/-! decode rows -/
theorem dL_add_0 : decode cL_add 0 = .ok (.aload_n 3, 1) := by decide +kernel
theorem dL_add_1 : decode cL_add 1 = .ok (.aload_n 0, 1) := by decide +kernel
theorem dL_add_2 : decode cL_add 2 = .ok (.iload_n 1, 1) := by decide +kernel
theorem dL_add_3 : decode cL_add 3 = .ok (.iload_n 2, 1) := by decide +kernel
theorem dL_add_4 : decode cL_add 4 = .ok (.invokevirtual 7, 3) := by decide +kernel
theorem dL_add_7 : decode cL_add 7 = .ok (.i2l, 1) := by decide +kernel
theorem dL_add_8 : decode cL_add 8 = .ok (.putfield 13, 3) := by decide +kernel
theorem dL_add_11 : decode cL_add 11 = .ok (.goto 11, 3) := by decide +kernel
theorem dL_add_14 : decode cL_add 14 = .ok (.astore 4, 2) := by decide +kernel
theorem dL_add_16 : decode cL_add 16 = .ok (.iconst 1, 1) := by decide +kernel
theorem dL_add_17 : decode cL_add 17 = .ok (.ireturn, 1) := by decide +kernel
theorem dL_add_18 : decode cL_add 18 = .ok (.astore 4, 2) := by decide +kernel
theorem dL_add_20 : decode cL_add 20 = .ok (.iconst 2, 1) := by decide +kernel
theorem dL_add_21 : decode cL_add 21 = .ok (.ireturn, 1) := by decide +kernel
theorem dL_add_22 : decode cL_add 22 = .ok (.iconst 0, 1) := by decide +kernel
theorem dL_add_23 : decode cL_add 23 = .ok (.ireturn, 1) := by decide +kernel
theorem dL_put_0 : decode cL_put 0 = .ok (.aload 4, 2) := by decide +kernel
theorem dL_put_2 : decode cL_put 2 = .ok (.aload_n 0, 1) := by decide +kernel
theorem dL_put_3 : decode cL_put 3 = .ok (.iload_n 1, 1) := by decide +kernel
theorem dL_put_4 : decode cL_put 4 = .ok (.iload_n 2, 1) := by decide +kernel
theorem dL_put_5 : decode cL_put 5 = .ok (.iload_n 3, 1) := by decide +kernel
theorem dL_put_6 : decode cL_put 6 = .ok (.invokevirtual 23, 3) := by decide +kernel
theorem dL_put_9 : decode cL_put 9 = .ok (.i2l, 1) := by decide +kernel
theorem dL_put_10 : decode cL_put 10 = .ok (.putfield 13, 3) := by decide +kernel
theorem dL_put_13 : decode cL_put 13 = .ok (.goto 11, 3) := by decide +kernel
theorem dL_put_16 : decode cL_put 16 = .ok (.astore 5, 2) := by decide +kernel
theorem dL_put_18 : decode cL_put 18 = .ok (.iconst 1, 1) := by decide +kernel
theorem dL_put_19 : decode cL_put 19 = .ok (.ireturn, 1) := by decide +kernel
theorem dL_put_20 : decode cL_put 20 = .ok (.astore 5, 2) := by decide +kernel
theorem dL_put_22 : decode cL_put 22 = .ok (.iconst 2, 1) := by decide +kernel
theorem dL_put_23 : decode cL_put 23 = .ok (.ireturn, 1) := by decide +kernel
theorem dL_put_24 : decode cL_put 24 = .ok (.iconst 0, 1) := by decide +kernel
theorem dL_put_25 : decode cL_put 25 = .ok (.ireturn, 1) := by decide +kernel
theorem dL_insert_0 : decode cL_insert 0 = .ok (.aload 4, 2) := by decide +kernel
theorem dL_insert_2 : decode cL_insert 2 = .ok (.aload_n 0, 1) := by decide +kernel
theorem dL_insert_3 : decode cL_insert 3 = .ok (.iload_n 1, 1) := by decide +kernel
theorem dL_insert_4 : decode cL_insert 4 = .ok (.iload_n 2, 1) := by decide +kernel
theorem dL_insert_5 : decode cL_insert 5 = .ok (.iload_n 3, 1) := by decide +kernel
theorem dL_insert_6 : decode cL_insert 6 = .ok (.invokevirtual 27, 3) := by decide +kernel
theorem dL_insert_9 : decode cL_insert 9 = .ok (.i2l, 1) := by decide +kernel
theorem dL_insert_10 : decode cL_insert 10 = .ok (.putfield 13, 3) := by decide +kernel
theorem dL_insert_13 : decode cL_insert 13 = .ok (.goto 11, 3) := by decide +kernel
theorem dL_insert_16 : decode cL_insert 16 = .ok (.astore 5, 2) := by decide +kernel
theorem dL_insert_18 : decode cL_insert 18 = .ok (.iconst 1, 1) := by decide +kernel
theorem dL_insert_19 : decode cL_insert 19 = .ok (.ireturn, 1) := by decide +kernel
theorem dL_insert_20 : decode cL_insert 20 = .ok (.astore 5, 2) := by decide +kernel
theorem dL_insert_22 : decode cL_insert 22 = .ok (.iconst 2, 1) := by decide +kernel
theorem dL_insert_23 : decode cL_insert 23 = .ok (.ireturn, 1) := by decide +kernel
theorem dL_insert_24 : decode cL_insert 24 = .ok (.iconst 0, 1) := by decide +kernel
theorem dL_insert_25 : decode cL_insert 25 = .ok (.ireturn, 1) := by decide +kernel
theorem dL_drop_0 : decode cL_drop 0 = .ok (.aload_n 3, 1) := by decide +kernel
theorem dL_drop_1 : decode cL_drop 1 = .ok (.aload_n 0, 1) := by decide +kernel
theorem dL_drop_2 : decode cL_drop 2 = .ok (.iload_n 1, 1) := by decide +kernel
theorem dL_drop_3 : decode cL_drop 3 = .ok (.iload_n 2, 1) := by decide +kernel
theorem dL_drop_4 : decode cL_drop 4 = .ok (.invokevirtual 30, 3) := by decide +kernel
theorem dL_drop_7 : decode cL_drop 7 = .ok (.i2l, 1) := by decide +kernel
theorem dL_drop_8 : decode cL_drop 8 = .ok (.putfield 13, 3) := by decide +kernel
theorem dL_drop_11 : decode cL_drop 11 = .ok (.goto 7, 3) := by decide +kernel
theorem dL_drop_14 : decode cL_drop 14 = .ok (.astore 4, 2) := by decide +kernel
theorem dL_drop_16 : decode cL_drop 16 = .ok (.iconst 1, 1) := by decide +kernel
theorem dL_drop_17 : decode cL_drop 17 = .ok (.ireturn, 1) := by decide +kernel
theorem dL_drop_18 : decode cL_drop 18 = .ok (.iconst 0, 1) := by decide +kernel
theorem dL_drop_19 : decode cL_drop 19 = .ok (.ireturn, 1) := by decide +kernel
theorem dL_clear_0 : decode cL_clear 0 = .ok (.aload_n 2, 1) := by decide +kernel
theorem dL_clear_1 : decode cL_clear 1 = .ok (.aload_n 0, 1) := by decide +kernel
theorem dL_clear_2 : decode cL_clear 2 = .ok (.iload_n 1, 1) := by decide +kernel
theorem dL_clear_3 : decode cL_clear 3 = .ok (.invokevirtual 33, 3) := by decide +kernel
theorem dL_clear_6 : decode cL_clear 6 = .ok (.i2l, 1) := by decide +kernel
theorem dL_clear_7 : decode cL_clear 7 = .ok (.putfield 13, 3) := by decide +kernel
theorem dL_clear_10 : decode cL_clear 10 = .ok (.goto 6, 3) := by decide +kernel
theorem dL_clear_13 : decode cL_clear 13 = .ok (.astore_n 3, 1) := by decide +kernel
theorem dL_clear_14 : decode cL_clear 14 = .ok (.iconst 1, 1) := by decide +kernel
theorem dL_clear_15 : decode cL_clear 15 = .ok (.ireturn, 1) := by decide +kernel
theorem dL_clear_16 : decode cL_clear 16 = .ok (.iconst 0, 1) := by decide +kernel
theorem dL_clear_17 : decode cL_clear 17 = .ok (.ireturn, 1) := by decide +kernel
theorem dL_copy_0 : decode cL_copy 0 = .ok (.aload_n 3, 1) := by decide +kernel
theorem dL_copy_1 : decode cL_copy 1 = .ok (.aload_n 0, 1) := by decide +kernel
theorem dL_copy_2 : decode cL_copy 2 = .ok (.iload_n 1, 1) := by decide +kernel
theorem dL_copy_3 : decode cL_copy 3 = .ok (.iload_n 2, 1) := by decide +kernel
theorem dL_copy_4 : decode cL_copy 4 = .ok (.invokevirtual 37, 3) := by decide +kernel
theorem dL_copy_7 : decode cL_copy 7 = .ok (.i2l, 1) := by decide +kernel
theorem dL_copy_8 : decode cL_copy 8 = .ok (.putfield 13, 3) := by decide +kernel
theorem dL_copy_11 : decode cL_copy 11 = .ok (.goto 7, 3) := by decide +kernel
theorem dL_copy_14 : decode cL_copy 14 = .ok (.astore 4, 2) := by decide +kernel
theorem dL_copy_16 : decode cL_copy 16 = .ok (.iconst 1, 1) := by decide +kernel
theorem dL_copy_17 : decode cL_copy 17 = .ok (.ireturn, 1) := by decide +kernel
theorem dL_copy_18 : decode cL_copy 18 = .ok (.iconst 0, 1) := by decide +kernel
theorem dL_copy_19 : decode cL_copy 19 = .ok (.ireturn, 1) := by decide +kernel
theorem dL_join_0 : decode cL_join 0 = .ok (.aload_n 3, 1) := by decide +kernel
theorem dL_join_1 : decode cL_join 1 = .ok (.aload_n 0, 1) := by decide +kernel
theorem dL_join_2 : decode cL_join 2 = .ok (.iload_n 1, 1) := by decide +kernel
theorem dL_join_3 : decode cL_join 3 = .ok (.iload_n 2, 1) := by decide +kernel
theorem dL_join_4 : decode cL_join 4 = .ok (.invokevirtual 40, 3) := by decide +kernel
theorem dL_join_7 : decode cL_join 7 = .ok (.i2l, 1) := by decide +kernel
theorem dL_join_8 : decode cL_join 8 = .ok (.putfield 13, 3) := by decide +kernel
theorem dL_join_11 : decode cL_join 11 = .ok (.goto 7, 3) := by decide +kernel
theorem dL_join_14 : decode cL_join 14 = .ok (.astore 4, 2) := by decide +kernel
theorem dL_join_16 : decode cL_join 16 = .ok (.iconst 1, 1) := by decide +kernel
theorem dL_join_17 : decode cL_join 17 = .ok (.ireturn, 1) := by decide +kernel
theorem dL_join_18 : decode cL_join 18 = .ok (.iconst 0, 1) := by decide +kernel
theorem dL_join_19 : decode cL_join 19 = .ok (.ireturn, 1) := by decide +kernel
theorem dL_turn_0 : decode cL_turn 0 = .ok (.aload_n 2, 1) := by decide +kernel
theorem dL_turn_1 : decode cL_turn 1 = .ok (.aload_n 0, 1) := by decide +kernel
theorem dL_turn_2 : decode cL_turn 2 = .ok (.iload_n 1, 1) := by decide +kernel
theorem dL_turn_3 : decode cL_turn 3 = .ok (.invokevirtual 43, 3) := by decide +kernel
theorem dL_turn_6 : decode cL_turn 6 = .ok (.i2l, 1) := by decide +kernel
theorem dL_turn_7 : decode cL_turn 7 = .ok (.putfield 13, 3) := by decide +kernel
theorem dL_turn_10 : decode cL_turn 10 = .ok (.goto 6, 3) := by decide +kernel
theorem dL_turn_13 : decode cL_turn 13 = .ok (.astore_n 3, 1) := by decide +kernel
theorem dL_turn_14 : decode cL_turn 14 = .ok (.iconst 1, 1) := by decide +kernel
theorem dL_turn_15 : decode cL_turn 15 = .ok (.ireturn, 1) := by decide +kernel
theorem dL_turn_16 : decode cL_turn 16 = .ok (.iconst 0, 1) := by decide +kernel
theorem dL_turn_17 : decode cL_turn 17 = .ok (.ireturn, 1) := by decide +kernel
theorem dL_fill_0 : decode cL_fill 0 = .ok (.aload 4, 2) := by decide +kernel
theorem dL_fill_2 : decode cL_fill 2 = .ok (.aload_n 0, 1) := by decide +kernel
theorem dL_fill_3 : decode cL_fill 3 = .ok (.iload_n 1, 1) := by decide +kernel
theorem dL_fill_4 : decode cL_fill 4 = .ok (.iload_n 2, 1) := by decide +kernel
theorem dL_fill_5 : decode cL_fill 5 = .ok (.iload_n 3, 1) := by decide +kernel
theorem dL_fill_6 : decode cL_fill 6 = .ok (.invokevirtual 46, 3) := by decide +kernel
theorem dL_fill_9 : decode cL_fill 9 = .ok (.i2l, 1) := by decide +kernel
theorem dL_fill_10 : decode cL_fill 10 = .ok (.putfield 13, 3) := by decide +kernel
theorem dL_fill_13 : decode cL_fill 13 = .ok (.goto 11, 3) := by decide +kernel
theorem dL_fill_16 : decode cL_fill 16 = .ok (.astore 5, 2) := by decide +kernel
theorem dL_fill_18 : decode cL_fill 18 = .ok (.iconst 1, 1) := by decide +kernel
theorem dL_fill_19 : decode cL_fill 19 = .ok (.ireturn, 1) := by decide +kernel
theorem dL_fill_20 : decode cL_fill 20 = .ok (.astore 5, 2) := by decide +kernel
theorem dL_fill_22 : decode cL_fill 22 = .ok (.iconst 2, 1) := by decide +kernel
theorem dL_fill_23 : decode cL_fill 23 = .ok (.ireturn, 1) := by decide +kernel
theorem dL_fill_24 : decode cL_fill 24 = .ok (.iconst 0, 1) := by decide +kernel
theorem dL_fill_25 : decode cL_fill 25 = .ok (.ireturn, 1) := by decide +kernel
theorem dL_cut_0 : decode cL_cut 0 = .ok (.aload 4, 2) := by decide +kernel
theorem dL_cut_2 : decode cL_cut 2 = .ok (.aload_n 0, 1) := by decide +kernel
theorem dL_cut_3 : decode cL_cut 3 = .ok (.iload_n 1, 1) := by decide +kernel
theorem dL_cut_4 : decode cL_cut 4 = .ok (.iload_n 2, 1) := by decide +kernel
theorem dL_cut_5 : decode cL_cut 5 = .ok (.iload_n 3, 1) := by decide +kernel
theorem dL_cut_6 : decode cL_cut 6 = .ok (.invokevirtual 49, 3) := by decide +kernel
theorem dL_cut_9 : decode cL_cut 9 = .ok (.i2l, 1) := by decide +kernel
theorem dL_cut_10 : decode cL_cut 10 = .ok (.putfield 13, 3) := by decide +kernel
theorem dL_cut_13 : decode cL_cut 13 = .ok (.goto 7, 3) := by decide +kernel
theorem dL_cut_16 : decode cL_cut 16 = .ok (.astore 5, 2) := by decide +kernel
theorem dL_cut_18 : decode cL_cut 18 = .ok (.iconst 1, 1) := by decide +kernel
theorem dL_cut_19 : decode cL_cut 19 = .ok (.ireturn, 1) := by decide +kernel
theorem dL_cut_20 : decode cL_cut 20 = .ok (.iconst 0, 1) := by decide +kernel
theorem dL_cut_21 : decode cL_cut 21 = .ok (.ireturn, 1) := by decide +kernel
theorem dL_keep_0 : decode cL_keep 0 = .ok (.aload 4, 2) := by decide +kernel
theorem dL_keep_2 : decode cL_keep 2 = .ok (.aload_n 0, 1) := by decide +kernel
theorem dL_keep_3 : decode cL_keep 3 = .ok (.iload_n 1, 1) := by decide +kernel
theorem dL_keep_4 : decode cL_keep 4 = .ok (.iload_n 2, 1) := by decide +kernel
theorem dL_keep_5 : decode cL_keep 5 = .ok (.iload_n 3, 1) := by decide +kernel
theorem dL_keep_6 : decode cL_keep 6 = .ok (.invokevirtual 52, 3) := by decide +kernel
theorem dL_keep_9 : decode cL_keep 9 = .ok (.i2l, 1) := by decide +kernel
theorem dL_keep_10 : decode cL_keep 10 = .ok (.putfield 13, 3) := by decide +kernel
theorem dL_keep_13 : decode cL_keep 13 = .ok (.goto 11, 3) := by decide +kernel
theorem dL_keep_16 : decode cL_keep 16 = .ok (.astore 5, 2) := by decide +kernel
theorem dL_keep_18 : decode cL_keep 18 = .ok (.iconst 1, 1) := by decide +kernel
theorem dL_keep_19 : decode cL_keep 19 = .ok (.ireturn, 1) := by decide +kernel
theorem dL_keep_20 : decode cL_keep 20 = .ok (.astore 5, 2) := by decide +kernel
theorem dL_keep_22 : decode cL_keep 22 = .ok (.iconst 2, 1) := by decide +kernel
theorem dL_keep_23 : decode cL_keep 23 = .ok (.ireturn, 1) := by decide +kernel
theorem dL_keep_24 : decode cL_keep 24 = .ok (.iconst 0, 1) := by decide +kernel
theorem dL_keep_25 : decode cL_keep 25 = .ok (.ireturn, 1) := by decide +kernel
theorem dL_keepKind_0 : decode cL_keepKind 0 = .ok (.aload 4, 2) := by decide +kernel
theorem dL_keepKind_2 : decode cL_keepKind 2 = .ok (.aload_n 0, 1) := by decide +kernel
theorem dL_keepKind_3 : decode cL_keepKind 3 = .ok (.iload_n 1, 1) := by decide +kernel
theorem dL_keepKind_4 : decode cL_keepKind 4 = .ok (.iload_n 2, 1) := by decide +kernel
theorem dL_keepKind_5 : decode cL_keepKind 5 = .ok (.iload_n 3, 1) := by decide +kernel
theorem dL_keepKind_6 : decode cL_keepKind 6 = .ok (.invokevirtual 56, 3) := by decide +kernel
theorem dL_keepKind_9 : decode cL_keepKind 9 = .ok (.i2l, 1) := by decide +kernel
theorem dL_keepKind_10 : decode cL_keepKind 10 = .ok (.putfield 13, 3) := by decide +kernel
theorem dL_keepKind_13 : decode cL_keepKind 13 = .ok (.goto 11, 3) := by decide +kernel
theorem dL_keepKind_16 : decode cL_keepKind 16 = .ok (.astore 5, 2) := by decide +kernel
theorem dL_keepKind_18 : decode cL_keepKind 18 = .ok (.iconst 1, 1) := by decide +kernel
theorem dL_keepKind_19 : decode cL_keepKind 19 = .ok (.ireturn, 1) := by decide +kernel
theorem dL_keepKind_20 : decode cL_keepKind 20 = .ok (.astore 5, 2) := by decide +kernel
theorem dL_keepKind_22 : decode cL_keepKind 22 = .ok (.iconst 2, 1) := by decide +kernel
theorem dL_keepKind_23 : decode cL_keepKind 23 = .ok (.ireturn, 1) := by decide +kernel
theorem dL_keepKind_24 : decode cL_keepKind 24 = .ok (.iconst 0, 1) := by decide +kernel
theorem dL_keepKind_25 : decode cL_keepKind 25 = .ok (.ireturn, 1) := by decide +kernel
theorem dL_take_0 : decode cL_take 0 = .ok (.aload 4, 2) := by decide +kernel
theorem dL_take_2 : decode cL_take 2 = .ok (.aload_n 0, 1) := by decide +kernel
theorem dL_take_3 : decode cL_take 3 = .ok (.iload_n 1, 1) := by decide +kernel
theorem dL_take_4 : decode cL_take 4 = .ok (.iload_n 2, 1) := by decide +kernel
theorem dL_take_5 : decode cL_take 5 = .ok (.iload_n 3, 1) := by decide +kernel
theorem dL_take_6 : decode cL_take 6 = .ok (.invokevirtual 59, 3) := by decide +kernel
theorem dL_take_9 : decode cL_take 9 = .ok (.i2l, 1) := by decide +kernel
theorem dL_take_10 : decode cL_take 10 = .ok (.putfield 13, 3) := by decide +kernel
theorem dL_take_13 : decode cL_take 13 = .ok (.goto 7, 3) := by decide +kernel
theorem dL_take_16 : decode cL_take 16 = .ok (.astore 5, 2) := by decide +kernel
theorem dL_take_18 : decode cL_take 18 = .ok (.iconst 1, 1) := by decide +kernel
theorem dL_take_19 : decode cL_take 19 = .ok (.ireturn, 1) := by decide +kernel
theorem dL_take_20 : decode cL_take 20 = .ok (.iconst 0, 1) := by decide +kernel
theorem dL_take_21 : decode cL_take 21 = .ok (.ireturn, 1) := by decide +kernel
theorem dL_mend_0 : decode cL_mend 0 = .ok (.aload_n 2, 1) := by decide +kernel
theorem dL_mend_1 : decode cL_mend 1 = .ok (.aload_n 0, 1) := by decide +kernel
theorem dL_mend_2 : decode cL_mend 2 = .ok (.iload_n 1, 1) := by decide +kernel
theorem dL_mend_3 : decode cL_mend 3 = .ok (.invokevirtual 62, 3) := by decide +kernel
theorem dL_mend_6 : decode cL_mend 6 = .ok (.i2l, 1) := by decide +kernel
theorem dL_mend_7 : decode cL_mend 7 = .ok (.putfield 13, 3) := by decide +kernel
theorem dL_mend_10 : decode cL_mend 10 = .ok (.goto 6, 3) := by decide +kernel
theorem dL_mend_13 : decode cL_mend 13 = .ok (.astore_n 3, 1) := by decide +kernel
theorem dL_mend_14 : decode cL_mend 14 = .ok (.iconst 1, 1) := by decide +kernel
theorem dL_mend_15 : decode cL_mend 15 = .ok (.ireturn, 1) := by decide +kernel
theorem dL_mend_16 : decode cL_mend 16 = .ok (.iconst 0, 1) := by decide +kernel
theorem dL_mend_17 : decode cL_mend 17 = .ok (.ireturn, 1) := by decide +kernel
theorem dL_kind_0 : decode cL_kind 0 = .ok (.aload_n 2, 1) := by decide +kernel
theorem dL_kind_1 : decode cL_kind 1 = .ok (.aload_n 0, 1) := by decide +kernel
theorem dL_kind_2 : decode cL_kind 2 = .ok (.iload_n 1, 1) := by decide +kernel
theorem dL_kind_3 : decode cL_kind 3 = .ok (.invokevirtual 65, 3) := by decide +kernel
theorem dL_kind_6 : decode cL_kind 6 = .ok (.i2l, 1) := by decide +kernel
theorem dL_kind_7 : decode cL_kind 7 = .ok (.putfield 13, 3) := by decide +kernel
theorem dL_kind_10 : decode cL_kind 10 = .ok (.goto 6, 3) := by decide +kernel
theorem dL_kind_13 : decode cL_kind 13 = .ok (.astore_n 3, 1) := by decide +kernel
theorem dL_kind_14 : decode cL_kind 14 = .ok (.iconst 1, 1) := by decide +kernel
theorem dL_kind_15 : decode cL_kind 15 = .ok (.ireturn, 1) := by decide +kernel
theorem dL_kind_16 : decode cL_kind 16 = .ok (.iconst 0, 1) := by decide +kernel
theorem dL_kind_17 : decode cL_kind 17 = .ok (.ireturn, 1) := by decide +kernel
theorem dL_ask_0 : decode cL_ask 0 = .ok (.aload_n 3, 1) := by decide +kernel
theorem dL_ask_1 : decode cL_ask 1 = .ok (.aload_n 0, 1) := by decide +kernel
theorem dL_ask_2 : decode cL_ask 2 = .ok (.iload_n 1, 1) := by decide +kernel
theorem dL_ask_3 : decode cL_ask 3 = .ok (.iload_n 2, 1) := by decide +kernel
theorem dL_ask_4 : decode cL_ask 4 = .ok (.invokevirtual 68, 3) := by decide +kernel
theorem dL_ask_7 : decode cL_ask 7 = .ok (.ifCond .eq 7, 3) := by decide +kernel
theorem dL_ask_10 : decode cL_ask 10 = .ok (.lconst 1, 1) := by decide +kernel
theorem dL_ask_11 : decode cL_ask 11 = .ok (.goto 4, 3) := by decide +kernel
theorem dL_ask_14 : decode cL_ask 14 = .ok (.lconst 0, 1) := by decide +kernel
theorem dL_ask_15 : decode cL_ask 15 = .ok (.putfield 13, 3) := by decide +kernel
theorem dL_ask_18 : decode cL_ask 18 = .ok (.goto 7, 3) := by decide +kernel
theorem dL_ask_21 : decode cL_ask 21 = .ok (.astore 4, 2) := by decide +kernel
theorem dL_ask_23 : decode cL_ask 23 = .ok (.iconst 1, 1) := by decide +kernel
theorem dL_ask_24 : decode cL_ask 24 = .ok (.ireturn, 1) := by decide +kernel
theorem dL_ask_25 : decode cL_ask 25 = .ok (.iconst 0, 1) := by decide +kernel
theorem dL_ask_26 : decode cL_ask 26 = .ok (.ireturn, 1) := by decide +kernel
theorem dL_all_0 : decode cL_all 0 = .ok (.aload_n 2, 1) := by decide +kernel
theorem dL_all_1 : decode cL_all 1 = .ok (.aload_n 0, 1) := by decide +kernel
theorem dL_all_2 : decode cL_all 2 = .ok (.iload_n 1, 1) := by decide +kernel
theorem dL_all_3 : decode cL_all 3 = .ok (.invokevirtual 72, 3) := by decide +kernel
theorem dL_all_6 : decode cL_all 6 = .ok (.i2l, 1) := by decide +kernel
theorem dL_all_7 : decode cL_all 7 = .ok (.putfield 13, 3) := by decide +kernel
theorem dL_all_10 : decode cL_all 10 = .ok (.goto 6, 3) := by decide +kernel
theorem dL_all_13 : decode cL_all 13 = .ok (.astore_n 3, 1) := by decide +kernel
theorem dL_all_14 : decode cL_all 14 = .ok (.iconst 1, 1) := by decide +kernel
theorem dL_all_15 : decode cL_all 15 = .ok (.ireturn, 1) := by decide +kernel
theorem dL_all_16 : decode cL_all 16 = .ok (.iconst 0, 1) := by decide +kernel
theorem dL_all_17 : decode cL_all 17 = .ok (.ireturn, 1) := by decide +kernel
theorem dL_nth_0 : decode cL_nth 0 = .ok (.aload_n 3, 1) := by decide +kernel
theorem dL_nth_1 : decode cL_nth 1 = .ok (.aload_n 0, 1) := by decide +kernel
theorem dL_nth_2 : decode cL_nth 2 = .ok (.iload_n 1, 1) := by decide +kernel
theorem dL_nth_3 : decode cL_nth 3 = .ok (.iload_n 2, 1) := by decide +kernel
theorem dL_nth_4 : decode cL_nth 4 = .ok (.invokevirtual 75, 3) := by decide +kernel
theorem dL_nth_7 : decode cL_nth 7 = .ok (.i2l, 1) := by decide +kernel
theorem dL_nth_8 : decode cL_nth 8 = .ok (.putfield 13, 3) := by decide +kernel
theorem dL_nth_11 : decode cL_nth 11 = .ok (.goto 7, 3) := by decide +kernel
theorem dL_nth_14 : decode cL_nth 14 = .ok (.astore 4, 2) := by decide +kernel
theorem dL_nth_16 : decode cL_nth 16 = .ok (.iconst 1, 1) := by decide +kernel
theorem dL_nth_17 : decode cL_nth 17 = .ok (.ireturn, 1) := by decide +kernel
theorem dL_nth_18 : decode cL_nth 18 = .ok (.iconst 0, 1) := by decide +kernel
theorem dL_nth_19 : decode cL_nth 19 = .ok (.ireturn, 1) := by decide +kernel
theorem dL_next_0 : decode cL_next 0 = .ok (.aload 4, 2) := by decide +kernel
theorem dL_next_2 : decode cL_next 2 = .ok (.aload_n 0, 1) := by decide +kernel
theorem dL_next_3 : decode cL_next 3 = .ok (.iload_n 1, 1) := by decide +kernel
theorem dL_next_4 : decode cL_next 4 = .ok (.iload_n 2, 1) := by decide +kernel
theorem dL_next_5 : decode cL_next 5 = .ok (.iload_n 3, 1) := by decide +kernel
theorem dL_next_6 : decode cL_next 6 = .ok (.invokevirtual 78, 3) := by decide +kernel
theorem dL_next_9 : decode cL_next 9 = .ok (.i2l, 1) := by decide +kernel
theorem dL_next_10 : decode cL_next 10 = .ok (.putfield 13, 3) := by decide +kernel
theorem dL_next_13 : decode cL_next 13 = .ok (.goto 7, 3) := by decide +kernel
theorem dL_next_16 : decode cL_next 16 = .ok (.astore 5, 2) := by decide +kernel
theorem dL_next_18 : decode cL_next 18 = .ok (.iconst 1, 1) := by decide +kernel
theorem dL_next_19 : decode cL_next 19 = .ok (.ireturn, 1) := by decide +kernel
theorem dL_next_20 : decode cL_next 20 = .ok (.iconst 0, 1) := by decide +kernel
theorem dL_next_21 : decode cL_next 21 = .ok (.ireturn, 1) := by decide +kernel
theorem dL_run_0 : decode cL_run 0 = .ok (.aload_n 3, 1) := by decide +kernel
theorem dL_run_1 : decode cL_run 1 = .ok (.aload_n 0, 1) := by decide +kernel
theorem dL_run_2 : decode cL_run 2 = .ok (.iload_n 1, 1) := by decide +kernel
theorem dL_run_3 : decode cL_run 3 = .ok (.iload_n 2, 1) := by decide +kernel
theorem dL_run_4 : decode cL_run 4 = .ok (.invokevirtual 81, 3) := by decide +kernel
theorem dL_run_7 : decode cL_run 7 = .ok (.i2l, 1) := by decide +kernel
theorem dL_run_8 : decode cL_run 8 = .ok (.putfield 13, 3) := by decide +kernel
theorem dL_run_11 : decode cL_run 11 = .ok (.goto 7, 3) := by decide +kernel
theorem dL_run_14 : decode cL_run 14 = .ok (.astore 4, 2) := by decide +kernel
theorem dL_run_16 : decode cL_run 16 = .ok (.iconst 1, 1) := by decide +kernel
theorem dL_run_17 : decode cL_run 17 = .ok (.ireturn, 1) := by decide +kernel
theorem dL_run_18 : decode cL_run 18 = .ok (.iconst 0, 1) := by decide +kernel
theorem dL_run_19 : decode cL_run 19 = .ok (.ireturn, 1) := by decide +kernel
theorem dL_ofKind_0 : decode cL_ofKind 0 = .ok (.aload 4, 2) := by decide +kernel
theorem dL_ofKind_2 : decode cL_ofKind 2 = .ok (.aload_n 0, 1) := by decide +kernel
theorem dL_ofKind_3 : decode cL_ofKind 3 = .ok (.iload_n 1, 1) := by decide +kernel
theorem dL_ofKind_4 : decode cL_ofKind 4 = .ok (.iload_n 2, 1) := by decide +kernel
theorem dL_ofKind_5 : decode cL_ofKind 5 = .ok (.iload_n 3, 1) := by decide +kernel
theorem dL_ofKind_6 : decode cL_ofKind 6 = .ok (.invokevirtual 84, 3) := by decide +kernel
theorem dL_ofKind_9 : decode cL_ofKind 9 = .ok (.i2l, 1) := by decide +kernel
theorem dL_ofKind_10 : decode cL_ofKind 10 = .ok (.putfield 13, 3) := by decide +kernel
theorem dL_ofKind_13 : decode cL_ofKind 13 = .ok (.goto 7, 3) := by decide +kernel
theorem dL_ofKind_16 : decode cL_ofKind 16 = .ok (.astore 5, 2) := by decide +kernel
theorem dL_ofKind_18 : decode cL_ofKind 18 = .ok (.iconst 1, 1) := by decide +kernel
theorem dL_ofKind_19 : decode cL_ofKind 19 = .ok (.ireturn, 1) := by decide +kernel
theorem dL_ofKind_20 : decode cL_ofKind 20 = .ok (.iconst 0, 1) := by decide +kernel
theorem dL_ofKind_21 : decode cL_ofKind 21 = .ok (.ireturn, 1) := by decide +kernel
theorem dL_ofQuestion_0 : decode cL_ofQuestion 0 = .ok (.aload 4, 2) := by decide +kernel
theorem dL_ofQuestion_2 : decode cL_ofQuestion 2 = .ok (.aload_n 0, 1) := by decide +kernel
theorem dL_ofQuestion_3 : decode cL_ofQuestion 3 = .ok (.iload_n 1, 1) := by decide +kernel
theorem dL_ofQuestion_4 : decode cL_ofQuestion 4 = .ok (.iload_n 2, 1) := by decide +kernel
theorem dL_ofQuestion_5 : decode cL_ofQuestion 5 = .ok (.iload_n 3, 1) := by decide +kernel
theorem dL_ofQuestion_6 : decode cL_ofQuestion 6 = .ok (.invokevirtual 87, 3) := by decide +kernel
theorem dL_ofQuestion_9 : decode cL_ofQuestion 9 = .ok (.i2l, 1) := by decide +kernel
theorem dL_ofQuestion_10 : decode cL_ofQuestion 10 = .ok (.putfield 13, 3) := by decide +kernel
theorem dL_ofQuestion_13 : decode cL_ofQuestion 13 = .ok (.goto 7, 3) := by decide +kernel
theorem dL_ofQuestion_16 : decode cL_ofQuestion 16 = .ok (.astore 5, 2) := by decide +kernel
theorem dL_ofQuestion_18 : decode cL_ofQuestion 18 = .ok (.iconst 1, 1) := by decide +kernel
theorem dL_ofQuestion_19 : decode cL_ofQuestion 19 = .ok (.ireturn, 1) := by decide +kernel
theorem dL_ofQuestion_20 : decode cL_ofQuestion 20 = .ok (.iconst 0, 1) := by decide +kernel
theorem dL_ofQuestion_21 : decode cL_ofQuestion 21 = .ok (.ireturn, 1) := by decide +kernel
theorem dL_kinds_0 : decode cL_kinds 0 = .ok (.aload_n 3, 1) := by decide +kernel
theorem dL_kinds_1 : decode cL_kinds 1 = .ok (.aload_n 0, 1) := by decide +kernel
theorem dL_kinds_2 : decode cL_kinds 2 = .ok (.iload_n 1, 1) := by decide +kernel
theorem dL_kinds_3 : decode cL_kinds 3 = .ok (.iload_n 2, 1) := by decide +kernel
theorem dL_kinds_4 : decode cL_kinds 4 = .ok (.invokevirtual 90, 3) := by decide +kernel
theorem dL_kinds_7 : decode cL_kinds 7 = .ok (.i2l, 1) := by decide +kernel
theorem dL_kinds_8 : decode cL_kinds 8 = .ok (.putfield 13, 3) := by decide +kernel
theorem dL_kinds_11 : decode cL_kinds 11 = .ok (.goto 7, 3) := by decide +kernel
theorem dL_kinds_14 : decode cL_kinds 14 = .ok (.astore 4, 2) := by decide +kernel
theorem dL_kinds_16 : decode cL_kinds 16 = .ok (.iconst 1, 1) := by decide +kernel
theorem dL_kinds_17 : decode cL_kinds 17 = .ok (.ireturn, 1) := by decide +kernel
theorem dL_kinds_18 : decode cL_kinds 18 = .ok (.iconst 0, 1) := by decide +kernel
theorem dL_kinds_19 : decode cL_kinds 19 = .ok (.ireturn, 1) := by decide +kernel
theorem dL_both_0 : decode cL_both 0 = .ok (.aload_n 3, 1) := by decide +kernel
theorem dL_both_1 : decode cL_both 1 = .ok (.aload_n 0, 1) := by decide +kernel
theorem dL_both_2 : decode cL_both 2 = .ok (.iload_n 1, 1) := by decide +kernel
theorem dL_both_3 : decode cL_both 3 = .ok (.iload_n 2, 1) := by decide +kernel
theorem dL_both_4 : decode cL_both 4 = .ok (.invokevirtual 93, 3) := by decide +kernel
theorem dL_both_7 : decode cL_both 7 = .ok (.i2l, 1) := by decide +kernel
theorem dL_both_8 : decode cL_both 8 = .ok (.putfield 13, 3) := by decide +kernel
theorem dL_both_11 : decode cL_both 11 = .ok (.goto 7, 3) := by decide +kernel
theorem dL_both_14 : decode cL_both 14 = .ok (.astore 4, 2) := by decide +kernel
theorem dL_both_16 : decode cL_both 16 = .ok (.iconst 1, 1) := by decide +kernel
theorem dL_both_17 : decode cL_both 17 = .ok (.ireturn, 1) := by decide +kernel
theorem dL_both_18 : decode cL_both 18 = .ok (.iconst 0, 1) := by decide +kernel
theorem dL_both_19 : decode cL_both 19 = .ok (.ireturn, 1) := by decide +kernel
theorem dL_within_0 : decode cL_within 0 = .ok (.aload_n 3, 1) := by decide +kernel
theorem dL_within_1 : decode cL_within 1 = .ok (.aload_n 0, 1) := by decide +kernel
theorem dL_within_2 : decode cL_within 2 = .ok (.iload_n 1, 1) := by decide +kernel
theorem dL_within_3 : decode cL_within 3 = .ok (.iload_n 2, 1) := by decide +kernel
theorem dL_within_4 : decode cL_within 4 = .ok (.invokevirtual 96, 3) := by decide +kernel
theorem dL_within_7 : decode cL_within 7 = .ok (.ifCond .eq 7, 3) := by decide +kernel
theorem dL_within_10 : decode cL_within 10 = .ok (.lconst 1, 1) := by decide +kernel
theorem dL_within_11 : decode cL_within 11 = .ok (.goto 4, 3) := by decide +kernel
theorem dL_within_14 : decode cL_within 14 = .ok (.lconst 0, 1) := by decide +kernel
theorem dL_within_15 : decode cL_within 15 = .ok (.putfield 13, 3) := by decide +kernel
theorem dL_within_18 : decode cL_within 18 = .ok (.goto 7, 3) := by decide +kernel
theorem dL_within_21 : decode cL_within 21 = .ok (.astore 4, 2) := by decide +kernel
theorem dL_within_23 : decode cL_within 23 = .ok (.iconst 1, 1) := by decide +kernel
theorem dL_within_24 : decode cL_within 24 = .ok (.ireturn, 1) := by decide +kernel
theorem dL_within_25 : decode cL_within 25 = .ok (.iconst 0, 1) := by decide +kernel
theorem dL_within_26 : decode cL_within 26 = .ok (.ireturn, 1) := by decide +kernel
theorem dL_differ_0 : decode cL_differ 0 = .ok (.aload 4, 2) := by decide +kernel
theorem dL_differ_2 : decode cL_differ 2 = .ok (.aload_n 0, 1) := by decide +kernel
theorem dL_differ_3 : decode cL_differ 3 = .ok (.iload_n 1, 1) := by decide +kernel
theorem dL_differ_4 : decode cL_differ 4 = .ok (.iload_n 2, 1) := by decide +kernel
theorem dL_differ_5 : decode cL_differ 5 = .ok (.iload_n 3, 1) := by decide +kernel
theorem dL_differ_6 : decode cL_differ 6 = .ok (.invokevirtual 99, 3) := by decide +kernel
theorem dL_differ_9 : decode cL_differ 9 = .ok (.i2l, 1) := by decide +kernel
theorem dL_differ_10 : decode cL_differ 10 = .ok (.putfield 13, 3) := by decide +kernel
theorem dL_differ_13 : decode cL_differ 13 = .ok (.goto 7, 3) := by decide +kernel
theorem dL_differ_16 : decode cL_differ 16 = .ok (.astore 5, 2) := by decide +kernel
theorem dL_differ_18 : decode cL_differ 18 = .ok (.iconst 1, 1) := by decide +kernel
theorem dL_differ_19 : decode cL_differ 19 = .ok (.ireturn, 1) := by decide +kernel
theorem dL_differ_20 : decode cL_differ 20 = .ok (.iconst 0, 1) := by decide +kernel
theorem dL_differ_21 : decode cL_differ 21 = .ok (.ireturn, 1) := by decide +kernel
theorem dL_length_0 : decode cL_length 0 = .ok (.aload_n 2, 1) := by decide +kernel
theorem dL_length_1 : decode cL_length 1 = .ok (.aload_n 0, 1) := by decide +kernel
theorem dL_length_2 : decode cL_length 2 = .ok (.iload_n 1, 1) := by decide +kernel
theorem dL_length_3 : decode cL_length 3 = .ok (.invokevirtual 102, 3) := by decide +kernel
theorem dL_length_6 : decode cL_length 6 = .ok (.i2l, 1) := by decide +kernel
theorem dL_length_7 : decode cL_length 7 = .ok (.putfield 13, 3) := by decide +kernel
theorem dL_length_10 : decode cL_length 10 = .ok (.goto 6, 3) := by decide +kernel
theorem dL_length_13 : decode cL_length 13 = .ok (.astore_n 3, 1) := by decide +kernel
theorem dL_length_14 : decode cL_length 14 = .ok (.iconst 1, 1) := by decide +kernel
theorem dL_length_15 : decode cL_length 15 = .ok (.ireturn, 1) := by decide +kernel
theorem dL_length_16 : decode cL_length 16 = .ok (.iconst 0, 1) := by decide +kernel
theorem dL_length_17 : decode cL_length 17 = .ok (.ireturn, 1) := by decide +kernel
theorem dL_sign_0 : decode cL_sign 0 = .ok (.aload_n 3, 1) := by decide +kernel
theorem dL_sign_1 : decode cL_sign 1 = .ok (.aload_n 0, 1) := by decide +kernel
theorem dL_sign_2 : decode cL_sign 2 = .ok (.iload_n 1, 1) := by decide +kernel
theorem dL_sign_3 : decode cL_sign 3 = .ok (.iload_n 2, 1) := by decide +kernel
theorem dL_sign_4 : decode cL_sign 4 = .ok (.invokevirtual 105, 3) := by decide +kernel
theorem dL_sign_7 : decode cL_sign 7 = .ok (.i2l, 1) := by decide +kernel
theorem dL_sign_8 : decode cL_sign 8 = .ok (.putfield 13, 3) := by decide +kernel
theorem dL_sign_11 : decode cL_sign 11 = .ok (.goto 7, 3) := by decide +kernel
theorem dL_sign_14 : decode cL_sign 14 = .ok (.astore 4, 2) := by decide +kernel
theorem dL_sign_16 : decode cL_sign 16 = .ok (.iconst 1, 1) := by decide +kernel
theorem dL_sign_17 : decode cL_sign 17 = .ok (.ireturn, 1) := by decide +kernel
theorem dL_sign_18 : decode cL_sign 18 = .ok (.iconst 0, 1) := by decide +kernel
theorem dL_sign_19 : decode cL_sign 19 = .ok (.ireturn, 1) := by decide +kernel
theorem dL_signs_0 : decode cL_signs 0 = .ok (.aload_n 2, 1) := by decide +kernel
theorem dL_signs_1 : decode cL_signs 1 = .ok (.aload_n 0, 1) := by decide +kernel
theorem dL_signs_2 : decode cL_signs 2 = .ok (.iload_n 1, 1) := by decide +kernel
theorem dL_signs_3 : decode cL_signs 3 = .ok (.invokevirtual 108, 3) := by decide +kernel
theorem dL_signs_6 : decode cL_signs 6 = .ok (.putfield 112, 3) := by decide +kernel
theorem dL_signs_9 : decode cL_signs 9 = .ok (.goto 6, 3) := by decide +kernel
theorem dL_signs_12 : decode cL_signs 12 = .ok (.astore_n 3, 1) := by decide +kernel
theorem dL_signs_13 : decode cL_signs 13 = .ok (.iconst 1, 1) := by decide +kernel
theorem dL_signs_14 : decode cL_signs 14 = .ok (.ireturn, 1) := by decide +kernel
theorem dL_signs_15 : decode cL_signs 15 = .ok (.iconst 0, 1) := by decide +kernel
theorem dL_signs_16 : decode cL_signs 16 = .ok (.ireturn, 1) := by decide +kernel
theorem dL_kindsOf_0 : decode cL_kindsOf 0 = .ok (.aload_n 2, 1) := by decide +kernel
theorem dL_kindsOf_1 : decode cL_kindsOf 1 = .ok (.aload_n 0, 1) := by decide +kernel
theorem dL_kindsOf_2 : decode cL_kindsOf 2 = .ok (.iload_n 1, 1) := by decide +kernel
theorem dL_kindsOf_3 : decode cL_kindsOf 3 = .ok (.invokevirtual 116, 3) := by decide +kernel
theorem dL_kindsOf_6 : decode cL_kindsOf 6 = .ok (.putfield 112, 3) := by decide +kernel
theorem dL_kindsOf_9 : decode cL_kindsOf 9 = .ok (.goto 6, 3) := by decide +kernel
theorem dL_kindsOf_12 : decode cL_kindsOf 12 = .ok (.astore_n 3, 1) := by decide +kernel
theorem dL_kindsOf_13 : decode cL_kindsOf 13 = .ok (.iconst 1, 1) := by decide +kernel
theorem dL_kindsOf_14 : decode cL_kindsOf 14 = .ok (.ireturn, 1) := by decide +kernel
theorem dL_kindsOf_15 : decode cL_kindsOf 15 = .ok (.iconst 0, 1) := by decide +kernel
theorem dL_kindsOf_16 : decode cL_kindsOf 16 = .ok (.ireturn, 1) := by decide +kernel
theorem dL_count_0 : decode cL_count 0 = .ok (.aload_n 3, 1) := by decide +kernel
theorem dL_count_1 : decode cL_count 1 = .ok (.aload_n 0, 1) := by decide +kernel
theorem dL_count_2 : decode cL_count 2 = .ok (.iload_n 1, 1) := by decide +kernel
theorem dL_count_3 : decode cL_count 3 = .ok (.iload_n 2, 1) := by decide +kernel
theorem dL_count_4 : decode cL_count 4 = .ok (.invokevirtual 119, 3) := by decide +kernel
theorem dL_count_7 : decode cL_count 7 = .ok (.i2l, 1) := by decide +kernel
theorem dL_count_8 : decode cL_count 8 = .ok (.putfield 13, 3) := by decide +kernel
theorem dL_count_11 : decode cL_count 11 = .ok (.goto 11, 3) := by decide +kernel
theorem dL_count_14 : decode cL_count 14 = .ok (.astore 4, 2) := by decide +kernel
theorem dL_count_16 : decode cL_count 16 = .ok (.iconst 1, 1) := by decide +kernel
theorem dL_count_17 : decode cL_count 17 = .ok (.ireturn, 1) := by decide +kernel
theorem dL_count_18 : decode cL_count 18 = .ok (.astore 4, 2) := by decide +kernel
theorem dL_count_20 : decode cL_count 20 = .ok (.iconst 2, 1) := by decide +kernel
theorem dL_count_21 : decode cL_count 21 = .ok (.ireturn, 1) := by decide +kernel
theorem dL_count_22 : decode cL_count 22 = .ok (.iconst 0, 1) := by decide +kernel
theorem dL_count_23 : decode cL_count 23 = .ok (.ireturn, 1) := by decide +kernel
theorem dL_countKind_0 : decode cL_countKind 0 = .ok (.aload_n 3, 1) := by decide +kernel
theorem dL_countKind_1 : decode cL_countKind 1 = .ok (.aload_n 0, 1) := by decide +kernel
theorem dL_countKind_2 : decode cL_countKind 2 = .ok (.iload_n 1, 1) := by decide +kernel
theorem dL_countKind_3 : decode cL_countKind 3 = .ok (.iload_n 2, 1) := by decide +kernel
theorem dL_countKind_4 : decode cL_countKind 4 = .ok (.invokevirtual 122, 3) := by decide +kernel
theorem dL_countKind_7 : decode cL_countKind 7 = .ok (.i2l, 1) := by decide +kernel
theorem dL_countKind_8 : decode cL_countKind 8 = .ok (.putfield 13, 3) := by decide +kernel
theorem dL_countKind_11 : decode cL_countKind 11 = .ok (.goto 11, 3) := by decide +kernel
theorem dL_countKind_14 : decode cL_countKind 14 = .ok (.astore 4, 2) := by decide +kernel
theorem dL_countKind_16 : decode cL_countKind 16 = .ok (.iconst 1, 1) := by decide +kernel
theorem dL_countKind_17 : decode cL_countKind 17 = .ok (.ireturn, 1) := by decide +kernel
theorem dL_countKind_18 : decode cL_countKind 18 = .ok (.astore 4, 2) := by decide +kernel
theorem dL_countKind_20 : decode cL_countKind 20 = .ok (.iconst 2, 1) := by decide +kernel
theorem dL_countKind_21 : decode cL_countKind 21 = .ok (.ireturn, 1) := by decide +kernel
theorem dL_countKind_22 : decode cL_countKind 22 = .ok (.iconst 0, 1) := by decide +kernel
theorem dL_countKind_23 : decode cL_countKind 23 = .ok (.ireturn, 1) := by decide +kernel
theorem dL_isAll_0 : decode cL_isAll 0 = .ok (.aload_n 3, 1) := by decide +kernel
theorem dL_isAll_1 : decode cL_isAll 1 = .ok (.aload_n 0, 1) := by decide +kernel
theorem dL_isAll_2 : decode cL_isAll 2 = .ok (.iload_n 1, 1) := by decide +kernel
theorem dL_isAll_3 : decode cL_isAll 3 = .ok (.iload_n 2, 1) := by decide +kernel
theorem dL_isAll_4 : decode cL_isAll 4 = .ok (.invokevirtual 125, 3) := by decide +kernel
theorem dL_isAll_7 : decode cL_isAll 7 = .ok (.ifCond .eq 7, 3) := by decide +kernel
theorem dL_isAll_10 : decode cL_isAll 10 = .ok (.lconst 1, 1) := by decide +kernel
theorem dL_isAll_11 : decode cL_isAll 11 = .ok (.goto 4, 3) := by decide +kernel
theorem dL_isAll_14 : decode cL_isAll 14 = .ok (.lconst 0, 1) := by decide +kernel
theorem dL_isAll_15 : decode cL_isAll 15 = .ok (.putfield 13, 3) := by decide +kernel
theorem dL_isAll_18 : decode cL_isAll 18 = .ok (.goto 11, 3) := by decide +kernel
theorem dL_isAll_21 : decode cL_isAll 21 = .ok (.astore 4, 2) := by decide +kernel
theorem dL_isAll_23 : decode cL_isAll 23 = .ok (.iconst 1, 1) := by decide +kernel
theorem dL_isAll_24 : decode cL_isAll 24 = .ok (.ireturn, 1) := by decide +kernel
theorem dL_isAll_25 : decode cL_isAll 25 = .ok (.astore 4, 2) := by decide +kernel
theorem dL_isAll_27 : decode cL_isAll 27 = .ok (.iconst 2, 1) := by decide +kernel
theorem dL_isAll_28 : decode cL_isAll 28 = .ok (.ireturn, 1) := by decide +kernel
theorem dL_isAll_29 : decode cL_isAll 29 = .ok (.iconst 0, 1) := by decide +kernel
theorem dL_isAll_30 : decode cL_isAll 30 = .ok (.ireturn, 1) := by decide +kernel
theorem dL_first_0 : decode cL_first 0 = .ok (.aload 4, 2) := by decide +kernel
theorem dL_first_2 : decode cL_first 2 = .ok (.aload_n 0, 1) := by decide +kernel
theorem dL_first_3 : decode cL_first 3 = .ok (.iload_n 1, 1) := by decide +kernel
theorem dL_first_4 : decode cL_first 4 = .ok (.iload_n 2, 1) := by decide +kernel
theorem dL_first_5 : decode cL_first 5 = .ok (.iload_n 3, 1) := by decide +kernel
theorem dL_first_6 : decode cL_first 6 = .ok (.invokevirtual 128, 3) := by decide +kernel
theorem dL_first_9 : decode cL_first 9 = .ok (.i2l, 1) := by decide +kernel
theorem dL_first_10 : decode cL_first 10 = .ok (.putfield 13, 3) := by decide +kernel
theorem dL_first_13 : decode cL_first 13 = .ok (.goto 11, 3) := by decide +kernel
theorem dL_first_16 : decode cL_first 16 = .ok (.astore 5, 2) := by decide +kernel
theorem dL_first_18 : decode cL_first 18 = .ok (.iconst 1, 1) := by decide +kernel
theorem dL_first_19 : decode cL_first 19 = .ok (.ireturn, 1) := by decide +kernel
theorem dL_first_20 : decode cL_first 20 = .ok (.astore 5, 2) := by decide +kernel
theorem dL_first_22 : decode cL_first 22 = .ok (.iconst 2, 1) := by decide +kernel
theorem dL_first_23 : decode cL_first 23 = .ok (.ireturn, 1) := by decide +kernel
theorem dL_first_24 : decode cL_first 24 = .ok (.iconst 0, 1) := by decide +kernel
theorem dL_first_25 : decode cL_first 25 = .ok (.ireturn, 1) := by decide +kernel
theorem dL_alike_0 : decode cL_alike 0 = .ok (.aload_n 3, 1) := by decide +kernel
theorem dL_alike_1 : decode cL_alike 1 = .ok (.aload_n 0, 1) := by decide +kernel
theorem dL_alike_2 : decode cL_alike 2 = .ok (.iload_n 1, 1) := by decide +kernel
theorem dL_alike_3 : decode cL_alike 3 = .ok (.iload_n 2, 1) := by decide +kernel
theorem dL_alike_4 : decode cL_alike 4 = .ok (.invokevirtual 131, 3) := by decide +kernel
theorem dL_alike_7 : decode cL_alike 7 = .ok (.ifCond .eq 7, 3) := by decide +kernel
theorem dL_alike_10 : decode cL_alike 10 = .ok (.lconst 1, 1) := by decide +kernel
theorem dL_alike_11 : decode cL_alike 11 = .ok (.goto 4, 3) := by decide +kernel
theorem dL_alike_14 : decode cL_alike 14 = .ok (.lconst 0, 1) := by decide +kernel
theorem dL_alike_15 : decode cL_alike 15 = .ok (.putfield 13, 3) := by decide +kernel
theorem dL_alike_18 : decode cL_alike 18 = .ok (.goto 7, 3) := by decide +kernel
theorem dL_alike_21 : decode cL_alike 21 = .ok (.astore 4, 2) := by decide +kernel
theorem dL_alike_23 : decode cL_alike 23 = .ok (.iconst 1, 1) := by decide +kernel
theorem dL_alike_24 : decode cL_alike 24 = .ok (.ireturn, 1) := by decide +kernel
theorem dL_alike_25 : decode cL_alike 25 = .ok (.iconst 0, 1) := by decide +kernel
theorem dL_alike_26 : decode cL_alike 26 = .ok (.ireturn, 1) := by decide +kernel
theorem dL_isName_0 : decode cL_isName 0 = .ok (.aload_n 2, 1) := by decide +kernel
theorem dL_isName_1 : decode cL_isName 1 = .ok (.aload_n 0, 1) := by decide +kernel
theorem dL_isName_2 : decode cL_isName 2 = .ok (.iload_n 1, 1) := by decide +kernel
theorem dL_isName_3 : decode cL_isName 3 = .ok (.invokevirtual 134, 3) := by decide +kernel
theorem dL_isName_6 : decode cL_isName 6 = .ok (.ifCond .eq 7, 3) := by decide +kernel
theorem dL_isName_9 : decode cL_isName 9 = .ok (.lconst 1, 1) := by decide +kernel
theorem dL_isName_10 : decode cL_isName 10 = .ok (.goto 4, 3) := by decide +kernel
theorem dL_isName_13 : decode cL_isName 13 = .ok (.lconst 0, 1) := by decide +kernel
theorem dL_isName_14 : decode cL_isName 14 = .ok (.putfield 13, 3) := by decide +kernel
theorem dL_isName_17 : decode cL_isName 17 = .ok (.goto 6, 3) := by decide +kernel
theorem dL_isName_20 : decode cL_isName 20 = .ok (.astore_n 3, 1) := by decide +kernel
theorem dL_isName_21 : decode cL_isName 21 = .ok (.iconst 1, 1) := by decide +kernel
theorem dL_isName_22 : decode cL_isName 22 = .ok (.ireturn, 1) := by decide +kernel
theorem dL_isName_23 : decode cL_isName 23 = .ok (.iconst 0, 1) := by decide +kernel
theorem dL_isName_24 : decode cL_isName 24 = .ok (.ireturn, 1) := by decide +kernel
theorem dL_fault_0 : decode cL_fault 0 = .ok (.aload_n 2, 1) := by decide +kernel
theorem dL_fault_1 : decode cL_fault 1 = .ok (.aload_n 0, 1) := by decide +kernel
theorem dL_fault_2 : decode cL_fault 2 = .ok (.iload_n 1, 1) := by decide +kernel
theorem dL_fault_3 : decode cL_fault 3 = .ok (.invokevirtual 138, 3) := by decide +kernel
theorem dL_fault_6 : decode cL_fault 6 = .ok (.i2l, 1) := by decide +kernel
theorem dL_fault_7 : decode cL_fault 7 = .ok (.putfield 13, 3) := by decide +kernel
theorem dL_fault_10 : decode cL_fault 10 = .ok (.goto 6, 3) := by decide +kernel
theorem dL_fault_13 : decode cL_fault 13 = .ok (.astore_n 3, 1) := by decide +kernel
theorem dL_fault_14 : decode cL_fault 14 = .ok (.iconst 1, 1) := by decide +kernel
theorem dL_fault_15 : decode cL_fault 15 = .ok (.ireturn, 1) := by decide +kernel
theorem dL_fault_16 : decode cL_fault 16 = .ok (.iconst 0, 1) := by decide +kernel
theorem dL_fault_17 : decode cL_fault 17 = .ok (.ireturn, 1) := by decide +kernel
theorem dL_sort_0 : decode cL_sort 0 = .ok (.aload 4, 2) := by decide +kernel
theorem dL_sort_2 : decode cL_sort 2 = .ok (.aload_n 0, 1) := by decide +kernel
theorem dL_sort_3 : decode cL_sort 3 = .ok (.iload_n 1, 1) := by decide +kernel
theorem dL_sort_4 : decode cL_sort 4 = .ok (.iload_n 2, 1) := by decide +kernel
theorem dL_sort_5 : decode cL_sort 5 = .ok (.iload_n 3, 1) := by decide +kernel
theorem dL_sort_6 : decode cL_sort 6 = .ok (.invokevirtual 141, 3) := by decide +kernel
theorem dL_sort_9 : decode cL_sort 9 = .ok (.i2l, 1) := by decide +kernel
theorem dL_sort_10 : decode cL_sort 10 = .ok (.putfield 13, 3) := by decide +kernel
theorem dL_sort_13 : decode cL_sort 13 = .ok (.goto 7, 3) := by decide +kernel
theorem dL_sort_16 : decode cL_sort 16 = .ok (.astore 5, 2) := by decide +kernel
theorem dL_sort_18 : decode cL_sort 18 = .ok (.iconst 1, 1) := by decide +kernel
theorem dL_sort_19 : decode cL_sort 19 = .ok (.ireturn, 1) := by decide +kernel
theorem dL_sort_20 : decode cL_sort 20 = .ok (.iconst 0, 1) := by decide +kernel
theorem dL_sort_21 : decode cL_sort 21 = .ok (.ireturn, 1) := by decide +kernel
theorem dL_longest_0 : decode cL_longest 0 = .ok (.aload_n 3, 1) := by decide +kernel
theorem dL_longest_1 : decode cL_longest 1 = .ok (.aload_n 0, 1) := by decide +kernel
theorem dL_longest_2 : decode cL_longest 2 = .ok (.iload_n 1, 1) := by decide +kernel
theorem dL_longest_3 : decode cL_longest 3 = .ok (.iload_n 2, 1) := by decide +kernel
theorem dL_longest_4 : decode cL_longest 4 = .ok (.invokevirtual 144, 3) := by decide +kernel
theorem dL_longest_7 : decode cL_longest 7 = .ok (.i2l, 1) := by decide +kernel
theorem dL_longest_8 : decode cL_longest 8 = .ok (.putfield 13, 3) := by decide +kernel
theorem dL_longest_11 : decode cL_longest 11 = .ok (.goto 7, 3) := by decide +kernel
theorem dL_longest_14 : decode cL_longest 14 = .ok (.astore 4, 2) := by decide +kernel
theorem dL_longest_16 : decode cL_longest 16 = .ok (.iconst 1, 1) := by decide +kernel
theorem dL_longest_17 : decode cL_longest 17 = .ok (.ireturn, 1) := by decide +kernel
theorem dL_longest_18 : decode cL_longest 18 = .ok (.iconst 0, 1) := by decide +kernel
theorem dL_longest_19 : decode cL_longest 19 = .ok (.ireturn, 1) := by decide +kernel
theorem dL_pieces_0 : decode cL_pieces 0 = .ok (.aload_n 2, 1) := by decide +kernel
theorem dL_pieces_1 : decode cL_pieces 1 = .ok (.aload_n 0, 1) := by decide +kernel
theorem dL_pieces_2 : decode cL_pieces 2 = .ok (.iload_n 1, 1) := by decide +kernel
theorem dL_pieces_3 : decode cL_pieces 3 = .ok (.invokevirtual 147, 3) := by decide +kernel
theorem dL_pieces_6 : decode cL_pieces 6 = .ok (.i2l, 1) := by decide +kernel
theorem dL_pieces_7 : decode cL_pieces 7 = .ok (.putfield 13, 3) := by decide +kernel
theorem dL_pieces_10 : decode cL_pieces 10 = .ok (.goto 6, 3) := by decide +kernel
theorem dL_pieces_13 : decode cL_pieces 13 = .ok (.astore_n 3, 1) := by decide +kernel
theorem dL_pieces_14 : decode cL_pieces 14 = .ok (.iconst 1, 1) := by decide +kernel
theorem dL_pieces_15 : decode cL_pieces 15 = .ok (.ireturn, 1) := by decide +kernel
theorem dL_pieces_16 : decode cL_pieces 16 = .ok (.iconst 0, 1) := by decide +kernel
theorem dL_pieces_17 : decode cL_pieces 17 = .ok (.ireturn, 1) := by decide +kernel
theorem dL_piece_0 : decode cL_piece 0 = .ok (.aload 4, 2) := by decide +kernel
theorem dL_piece_2 : decode cL_piece 2 = .ok (.aload_n 0, 1) := by decide +kernel
theorem dL_piece_3 : decode cL_piece 3 = .ok (.iload_n 1, 1) := by decide +kernel
theorem dL_piece_4 : decode cL_piece 4 = .ok (.iload_n 2, 1) := by decide +kernel
theorem dL_piece_5 : decode cL_piece 5 = .ok (.iload_n 3, 1) := by decide +kernel
theorem dL_piece_6 : decode cL_piece 6 = .ok (.invokevirtual 150, 3) := by decide +kernel
theorem dL_piece_9 : decode cL_piece 9 = .ok (.i2l, 1) := by decide +kernel
theorem dL_piece_10 : decode cL_piece 10 = .ok (.putfield 13, 3) := by decide +kernel
theorem dL_piece_13 : decode cL_piece 13 = .ok (.goto 11, 3) := by decide +kernel
theorem dL_piece_16 : decode cL_piece 16 = .ok (.astore 5, 2) := by decide +kernel
theorem dL_piece_18 : decode cL_piece 18 = .ok (.iconst 1, 1) := by decide +kernel
theorem dL_piece_19 : decode cL_piece 19 = .ok (.ireturn, 1) := by decide +kernel
theorem dL_piece_20 : decode cL_piece 20 = .ok (.astore 5, 2) := by decide +kernel
theorem dL_piece_22 : decode cL_piece 22 = .ok (.iconst 2, 1) := by decide +kernel
theorem dL_piece_23 : decode cL_piece 23 = .ok (.ireturn, 1) := by decide +kernel
theorem dL_piece_24 : decode cL_piece 24 = .ok (.iconst 0, 1) := by decide +kernel
theorem dL_piece_25 : decode cL_piece 25 = .ok (.ireturn, 1) := by decide +kernel
theorem dL_sorts_0 : decode cL_sorts 0 = .ok (.aload_n 2, 1) := by decide +kernel
theorem dL_sorts_1 : decode cL_sorts 1 = .ok (.aload_n 0, 1) := by decide +kernel
theorem dL_sorts_2 : decode cL_sorts 2 = .ok (.iload_n 1, 1) := by decide +kernel
theorem dL_sorts_3 : decode cL_sorts 3 = .ok (.invokevirtual 153, 3) := by decide +kernel
theorem dL_sorts_6 : decode cL_sorts 6 = .ok (.putfield 112, 3) := by decide +kernel
theorem dL_sorts_9 : decode cL_sorts 9 = .ok (.goto 6, 3) := by decide +kernel
theorem dL_sorts_12 : decode cL_sorts 12 = .ok (.astore_n 3, 1) := by decide +kernel
theorem dL_sorts_13 : decode cL_sorts 13 = .ok (.iconst 1, 1) := by decide +kernel
theorem dL_sorts_14 : decode cL_sorts 14 = .ok (.ireturn, 1) := by decide +kernel
theorem dL_sorts_15 : decode cL_sorts 15 = .ok (.iconst 0, 1) := by decide +kernel
theorem dL_sorts_16 : decode cL_sorts 16 = .ok (.ireturn, 1) := by decide +kernel
theorem dL_cuts_0 : decode cL_cuts 0 = .ok (.aload_n 2, 1) := by decide +kernel
theorem dL_cuts_1 : decode cL_cuts 1 = .ok (.aload_n 0, 1) := by decide +kernel
theorem dL_cuts_2 : decode cL_cuts 2 = .ok (.iload_n 1, 1) := by decide +kernel
theorem dL_cuts_3 : decode cL_cuts 3 = .ok (.invokevirtual 156, 3) := by decide +kernel
theorem dL_cuts_6 : decode cL_cuts 6 = .ok (.i2l, 1) := by decide +kernel
theorem dL_cuts_7 : decode cL_cuts 7 = .ok (.putfield 13, 3) := by decide +kernel
theorem dL_cuts_10 : decode cL_cuts 10 = .ok (.goto 6, 3) := by decide +kernel
theorem dL_cuts_13 : decode cL_cuts 13 = .ok (.astore_n 3, 1) := by decide +kernel
theorem dL_cuts_14 : decode cL_cuts 14 = .ok (.iconst 1, 1) := by decide +kernel
theorem dL_cuts_15 : decode cL_cuts 15 = .ok (.ireturn, 1) := by decide +kernel
theorem dL_cuts_16 : decode cL_cuts 16 = .ok (.iconst 0, 1) := by decide +kernel
theorem dL_cuts_17 : decode cL_cuts 17 = .ok (.ireturn, 1) := by decide +kernel
theorem dL_back_0 : decode cL_back 0 = .ok (.aload_n 2, 1) := by decide +kernel
theorem dL_back_1 : decode cL_back 1 = .ok (.aload_n 0, 1) := by decide +kernel
theorem dL_back_2 : decode cL_back 2 = .ok (.iload_n 1, 1) := by decide +kernel
theorem dL_back_3 : decode cL_back 3 = .ok (.invokevirtual 159, 3) := by decide +kernel
theorem dL_back_6 : decode cL_back 6 = .ok (.i2l, 1) := by decide +kernel
theorem dL_back_7 : decode cL_back 7 = .ok (.putfield 13, 3) := by decide +kernel
theorem dL_back_10 : decode cL_back 10 = .ok (.goto 6, 3) := by decide +kernel
theorem dL_back_13 : decode cL_back 13 = .ok (.astore_n 3, 1) := by decide +kernel
theorem dL_back_14 : decode cL_back 14 = .ok (.iconst 1, 1) := by decide +kernel
theorem dL_back_15 : decode cL_back 15 = .ok (.ireturn, 1) := by decide +kernel
theorem dL_back_16 : decode cL_back 16 = .ok (.iconst 0, 1) := by decide +kernel
theorem dL_back_17 : decode cL_back 17 = .ok (.ireturn, 1) := by decide +kernel
theorem dL_fewest_0 : decode cL_fewest 0 = .ok (.aload_n 2, 1) := by decide +kernel
theorem dL_fewest_1 : decode cL_fewest 1 = .ok (.aload_n 0, 1) := by decide +kernel
theorem dL_fewest_2 : decode cL_fewest 2 = .ok (.iload_n 1, 1) := by decide +kernel
theorem dL_fewest_3 : decode cL_fewest 3 = .ok (.invokevirtual 162, 3) := by decide +kernel
theorem dL_fewest_6 : decode cL_fewest 6 = .ok (.i2l, 1) := by decide +kernel
theorem dL_fewest_7 : decode cL_fewest 7 = .ok (.putfield 13, 3) := by decide +kernel
theorem dL_fewest_10 : decode cL_fewest 10 = .ok (.goto 6, 3) := by decide +kernel
theorem dL_fewest_13 : decode cL_fewest 13 = .ok (.astore_n 3, 1) := by decide +kernel
theorem dL_fewest_14 : decode cL_fewest 14 = .ok (.iconst 1, 1) := by decide +kernel
theorem dL_fewest_15 : decode cL_fewest 15 = .ok (.ireturn, 1) := by decide +kernel
theorem dL_fewest_16 : decode cL_fewest 16 = .ok (.iconst 0, 1) := by decide +kernel
theorem dL_fewest_17 : decode cL_fewest 17 = .ok (.ireturn, 1) := by decide +kernel
theorem dL_parted_0 : decode cL_parted 0 = .ok (.aload_n 3, 1) := by decide +kernel
theorem dL_parted_1 : decode cL_parted 1 = .ok (.aload_n 0, 1) := by decide +kernel
theorem dL_parted_2 : decode cL_parted 2 = .ok (.iload_n 1, 1) := by decide +kernel
theorem dL_parted_3 : decode cL_parted 3 = .ok (.iload_n 2, 1) := by decide +kernel
theorem dL_parted_4 : decode cL_parted 4 = .ok (.invokevirtual 165, 3) := by decide +kernel
theorem dL_parted_7 : decode cL_parted 7 = .ok (.i2l, 1) := by decide +kernel
theorem dL_parted_8 : decode cL_parted 8 = .ok (.putfield 13, 3) := by decide +kernel
theorem dL_parted_11 : decode cL_parted 11 = .ok (.goto 11, 3) := by decide +kernel
theorem dL_parted_14 : decode cL_parted 14 = .ok (.astore 4, 2) := by decide +kernel
theorem dL_parted_16 : decode cL_parted 16 = .ok (.iconst 1, 1) := by decide +kernel
theorem dL_parted_17 : decode cL_parted 17 = .ok (.ireturn, 1) := by decide +kernel
theorem dL_parted_18 : decode cL_parted 18 = .ok (.astore 4, 2) := by decide +kernel
theorem dL_parted_20 : decode cL_parted 20 = .ok (.iconst 2, 1) := by decide +kernel
theorem dL_parted_21 : decode cL_parted 21 = .ok (.ireturn, 1) := by decide +kernel
theorem dL_parted_22 : decode cL_parted 22 = .ok (.iconst 0, 1) := by decide +kernel
theorem dL_parted_23 : decode cL_parted 23 = .ok (.ireturn, 1) := by decide +kernel
theorem dL_house_0 : decode cL_house 0 = .ok (.aload_n 2, 1) := by decide +kernel
theorem dL_house_1 : decode cL_house 1 = .ok (.aload_n 0, 1) := by decide +kernel
theorem dL_house_2 : decode cL_house 2 = .ok (.iload_n 1, 1) := by decide +kernel
theorem dL_house_3 : decode cL_house 3 = .ok (.invokevirtual 168, 3) := by decide +kernel
theorem dL_house_6 : decode cL_house 6 = .ok (.i2l, 1) := by decide +kernel
theorem dL_house_7 : decode cL_house 7 = .ok (.putfield 13, 3) := by decide +kernel
theorem dL_house_10 : decode cL_house 10 = .ok (.goto 6, 3) := by decide +kernel
theorem dL_house_13 : decode cL_house 13 = .ok (.astore_n 3, 1) := by decide +kernel
theorem dL_house_14 : decode cL_house 14 = .ok (.iconst 1, 1) := by decide +kernel
theorem dL_house_15 : decode cL_house 15 = .ok (.ireturn, 1) := by decide +kernel
theorem dL_house_16 : decode cL_house 16 = .ok (.iconst 0, 1) := by decide +kernel
theorem dL_house_17 : decode cL_house 17 = .ok (.ireturn, 1) := by decide +kernel
