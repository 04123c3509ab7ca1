/-! decode rows -/
theorem dX4_keep_62 : decode cX4_keep 62 = .ok (.iload_n 1, 1) := by decide +kernel
theorem dX4_keep_63 : decode cX4_keep 63 = .ok (.aaload, 1) := by decide +kernel
theorem dX4_keep_64 : decode cX4_keep 64 = .ok (.iload 5, 2) := by decide +kernel
theorem dX4_keep_66 : decode cX4_keep 66 = .ok (.iaload, 1) := by decide +kernel
theorem dX4_keep_67 : decode cX4_keep 67 = .ok (.iload_n 2, 1) := by decide +kernel
theorem dX4_keep_68 : decode cX4_keep 68 = .ok (.invokevirtual 45, 3) := by decide +kernel
theorem dX4_keep_71 : decode cX4_keep 71 = .ok (.iload_n 3, 1) := by decide +kernel
theorem dX4_keep_72 : decode cX4_keep 72 = .ok (.if_icmp .ne 7, 3) := by decide +kernel
theorem dX4_keep_75 : decode cX4_keep 75 = .ok (.iconst 1, 1) := by decide +kernel
theorem dX4_keep_76 : decode cX4_keep 76 = .ok (.goto 4, 3) := by decide +kernel
theorem dX4_keep_79 : decode cX4_keep 79 = .ok (.iconst 0, 1) := by decide +kernel
theorem dX4_keep_80 : decode cX4_keep 80 = .ok (.bastore, 1) := by decide +kernel
theorem dX4_keep_81 : decode cX4_keep 81 = .ok (.iinc 5 1, 3) := by decide +kernel
theorem dX4_keep_84 : decode cX4_keep 84 = .ok (.goto (-42), 3) := by decide +kernel
theorem dX4_keep_87 : decode cX4_keep 87 = .ok (.aload_n 0, 1) := by decide +kernel
theorem dX4_keep_88 : decode cX4_keep 88 = .ok (.iload_n 1, 1) := by decide +kernel
theorem dX4_keep_89 : decode cX4_keep 89 = .ok (.aload 4, 2) := by decide +kernel
theorem dX4_keep_91 : decode cX4_keep 91 = .ok (.invokevirtual 110, 3) := by decide +kernel
theorem dX4_keep_94 : decode cX4_keep 94 = .ok (.ireturn, 1) := by decide +kernel
theorem dX4_keepKind_0 : decode cX4_keepKind 0 = .ok (.aload_n 0, 1) := by decide +kernel
theorem dX4_keepKind_1 : decode cX4_keepKind 1 = .ok (.iload_n 1, 1) := by decide +kernel
theorem dX4_keepKind_2 : decode cX4_keepKind 2 = .ok (.invokestatic 70, 3) := by decide +kernel
theorem dX4_keepKind_5 : decode cX4_keepKind 5 = .ok (.ifCond .ne 7, 3) := by decide +kernel
theorem dX4_keepKind_8 : decode cX4_keepKind 8 = .ok (.iconst 1, 1) := by decide +kernel
theorem dX4_keepKind_9 : decode cX4_keepKind 9 = .ok (.goto 4, 3) := by decide +kernel
theorem dX4_keepKind_12 : decode cX4_keepKind 12 = .ok (.iconst 0, 1) := by decide +kernel
theorem dX4_keepKind_13 : decode cX4_keepKind 13 = .ok (.iload_n 2, 1) := by decide +kernel
theorem dX4_keepKind_14 : decode cX4_keepKind 14 = .ok (.invokestatic 114, 3) := by decide +kernel
theorem dX4_keepKind_17 : decode cX4_keepKind 17 = .ok (.ifCond .ne 7, 3) := by decide +kernel
theorem dX4_keepKind_20 : decode cX4_keepKind 20 = .ok (.iconst 1, 1) := by decide +kernel
theorem dX4_keepKind_21 : decode cX4_keepKind 21 = .ok (.goto 4, 3) := by decide +kernel
theorem dX4_keepKind_24 : decode cX4_keepKind 24 = .ok (.iconst 0, 1) := by decide +kernel
theorem dX4_keepKind_25 : decode cX4_keepKind 25 = .ok (.invokevirtual 73, 3) := by decide +kernel
theorem dX4_keepKind_28 : decode cX4_keepKind 28 = .ok (.ifCond .eq 5, 3) := by decide +kernel
theorem dX4_keepKind_31 : decode cX4_keepKind 31 = .ok (.iconst 0, 1) := by decide +kernel
theorem dX4_keepKind_32 : decode cX4_keepKind 32 = .ok (.ireturn, 1) := by decide +kernel
theorem dX4_keepKind_33 : decode cX4_keepKind 33 = .ok (.bipush 30, 2) := by decide +kernel
theorem dX4_keepKind_35 : decode cX4_keepKind 35 = .ok (.newarray .boolean, 2) := by decide +kernel
theorem dX4_keepKind_37 : decode cX4_keepKind 37 = .ok (.astore 4, 2) := by decide +kernel
theorem dX4_keepKind_39 : decode cX4_keepKind 39 = .ok (.iconst 0, 1) := by decide +kernel
theorem dX4_keepKind_40 : decode cX4_keepKind 40 = .ok (.istore 5, 2) := by decide +kernel
theorem dX4_keepKind_42 : decode cX4_keepKind 42 = .ok (.iload 5, 2) := by decide +kernel
theorem dX4_keepKind_44 : decode cX4_keepKind 44 = .ok (.aload_n 0, 1) := by decide +kernel
theorem dX4_keepKind_45 : decode cX4_keepKind 45 = .ok (.getfield 18, 3) := by decide +kernel
theorem dX4_keepKind_48 : decode cX4_keepKind 48 = .ok (.iload_n 1, 1) := by decide +kernel
theorem dX4_keepKind_49 : decode cX4_keepKind 49 = .ok (.iaload, 1) := by decide +kernel
theorem dX4_keepKind_50 : decode cX4_keepKind 50 = .ok (.if_icmp .ge 46, 3) := by decide +kernel
theorem dX4_keepKind_53 : decode cX4_keepKind 53 = .ok (.aload 4, 2) := by decide +kernel
theorem dX4_keepKind_55 : decode cX4_keepKind 55 = .ok (.iload 5, 2) := by decide +kernel
theorem dX4_keepKind_57 : decode cX4_keepKind 57 = .ok (.aload_n 0, 1) := by decide +kernel
theorem dX4_keepKind_58 : decode cX4_keepKind 58 = .ok (.getfield 7, 3) := by decide +kernel
theorem dX4_keepKind_61 : decode cX4_keepKind 61 = .ok (.aload_n 0, 1) := by decide +kernel
theorem dX4_keepKind_62 : decode cX4_keepKind 62 = .ok (.getfield 15, 3) := by decide +kernel
theorem dX4_keepKind_65 : decode cX4_keepKind 65 = .ok (.iload_n 1, 1) := by decide +kernel
theorem dX4_keepKind_66 : decode cX4_keepKind 66 = .ok (.aaload, 1) := by decide +kernel
theorem dX4_keepKind_67 : decode cX4_keepKind 67 = .ok (.iload 5, 2) := by decide +kernel
theorem dX4_keepKind_69 : decode cX4_keepKind 69 = .ok (.iaload, 1) := by decide +kernel
theorem dX4_keepKind_70 : decode cX4_keepKind 70 = .ok (.iaload, 1) := by decide +kernel
theorem dX4_keepKind_71 : decode cX4_keepKind 71 = .ok (.iload_n 2, 1) := by decide +kernel
theorem dX4_keepKind_72 : decode cX4_keepKind 72 = .ok (.if_icmp .ne 7, 3) := by decide +kernel
theorem dX4_keepKind_75 : decode cX4_keepKind 75 = .ok (.iconst 1, 1) := by decide +kernel
theorem dX4_keepKind_76 : decode cX4_keepKind 76 = .ok (.goto 4, 3) := by decide +kernel
theorem dX4_keepKind_79 : decode cX4_keepKind 79 = .ok (.iconst 0, 1) := by decide +kernel
theorem dX4_keepKind_80 : decode cX4_keepKind 80 = .ok (.iload_n 3, 1) := by decide +kernel
theorem dX4_keepKind_81 : decode cX4_keepKind 81 = .ok (.if_icmp .ne 7, 3) := by decide +kernel
theorem dX4_keepKind_84 : decode cX4_keepKind 84 = .ok (.iconst 1, 1) := by decide +kernel
theorem dX4_keepKind_85 : decode cX4_keepKind 85 = .ok (.goto 4, 3) := by decide +kernel
theorem dX4_keepKind_88 : decode cX4_keepKind 88 = .ok (.iconst 0, 1) := by decide +kernel
theorem dX4_keepKind_89 : decode cX4_keepKind 89 = .ok (.bastore, 1) := by decide +kernel
theorem dX4_keepKind_90 : decode cX4_keepKind 90 = .ok (.iinc 5 1, 3) := by decide +kernel
theorem dX4_keepKind_93 : decode cX4_keepKind 93 = .ok (.goto (-51), 3) := by decide +kernel
theorem dX4_keepKind_96 : decode cX4_keepKind 96 = .ok (.aload_n 0, 1) := by decide +kernel
theorem dX4_keepKind_97 : decode cX4_keepKind 97 = .ok (.iload_n 1, 1) := by decide +kernel
theorem dX4_keepKind_98 : decode cX4_keepKind 98 = .ok (.aload 4, 2) := by decide +kernel
theorem dX4_keepKind_100 : decode cX4_keepKind 100 = .ok (.invokevirtual 110, 3) := by decide +kernel
theorem dX4_keepKind_103 : decode cX4_keepKind 103 = .ok (.ireturn, 1) := by decide +kernel
theorem dX4_take_0 : decode cX4_take 0 = .ok (.aload_n 0, 1) := by decide +kernel
theorem dX4_take_1 : decode cX4_take 1 = .ok (.iload_n 1, 1) := by decide +kernel
theorem dX4_take_2 : decode cX4_take 2 = .ok (.invokestatic 70, 3) := by decide +kernel
theorem dX4_take_5 : decode cX4_take 5 = .ok (.ifCond .eq 23, 3) := by decide +kernel
theorem dX4_take_8 : decode cX4_take 8 = .ok (.iload_n 3, 1) := by decide +kernel
theorem dX4_take_9 : decode cX4_take 9 = .ok (.invokestatic 70, 3) := by decide +kernel
theorem dX4_take_12 : decode cX4_take 12 = .ok (.ifCond .eq 16, 3) := by decide +kernel
theorem dX4_take_15 : decode cX4_take 15 = .ok (.iload_n 2, 1) := by decide +kernel
theorem dX4_take_16 : decode cX4_take 16 = .ok (.ifCond .lt 12, 3) := by decide +kernel
theorem dX4_take_19 : decode cX4_take 19 = .ok (.aload_n 0, 1) := by decide +kernel
theorem dX4_take_20 : decode cX4_take 20 = .ok (.iload_n 1, 1) := by decide +kernel
theorem dX4_take_21 : decode cX4_take 21 = .ok (.iload_n 2, 1) := by decide +kernel
theorem dX4_take_22 : decode cX4_take 22 = .ok (.invokevirtual 117, 3) := by decide +kernel
theorem dX4_take_25 : decode cX4_take 25 = .ok (.ifCond .ge 7, 3) := by decide +kernel
theorem dX4_take_28 : decode cX4_take 28 = .ok (.iconst 1, 1) := by decide +kernel
theorem dX4_take_29 : decode cX4_take 29 = .ok (.goto 4, 3) := by decide +kernel
theorem dX4_take_32 : decode cX4_take 32 = .ok (.iconst 0, 1) := by decide +kernel
theorem dX4_take_33 : decode cX4_take 33 = .ok (.invokevirtual 100, 3) := by decide +kernel
theorem dX4_take_36 : decode cX4_take 36 = .ok (.ifCond .eq 5, 3) := by decide +kernel
theorem dX4_take_39 : decode cX4_take 39 = .ok (.iconst 0, 1) := by decide +kernel
theorem dX4_take_40 : decode cX4_take 40 = .ok (.ireturn, 1) := by decide +kernel
theorem dX4_take_41 : decode cX4_take 41 = .ok (.aload_n 0, 1) := by decide +kernel
theorem dX4_take_42 : decode cX4_take 42 = .ok (.iload_n 1, 1) := by decide +kernel
theorem dX4_take_43 : decode cX4_take 43 = .ok (.iload_n 2, 1) := by decide +kernel
theorem dX4_take_44 : decode cX4_take 44 = .ok (.invokevirtual 117, 3) := by decide +kernel
theorem dX4_take_47 : decode cX4_take 47 = .ok (.istore 4, 2) := by decide +kernel
theorem dX4_take_49 : decode cX4_take 49 = .ok (.aload_n 0, 1) := by decide +kernel
theorem dX4_take_50 : decode cX4_take 50 = .ok (.iload_n 1, 1) := by decide +kernel
theorem dX4_take_51 : decode cX4_take 51 = .ok (.iload 4, 2) := by decide +kernel
theorem dX4_take_53 : decode cX4_take 53 = .ok (.invokevirtual 61, 3) := by decide +kernel
theorem dX4_take_56 : decode cX4_take 56 = .ok (.istore 5, 2) := by decide +kernel
theorem dX4_take_58 : decode cX4_take 58 = .ok (.bipush 30, 2) := by decide +kernel
theorem dX4_take_60 : decode cX4_take 60 = .ok (.newarray .int, 2) := by decide +kernel
theorem dX4_take_62 : decode cX4_take 62 = .ok (.astore 6, 2) := by decide +kernel
theorem dX4_take_64 : decode cX4_take 64 = .ok (.iconst 0, 1) := by decide +kernel
theorem dX4_take_65 : decode cX4_take 65 = .ok (.istore 7, 2) := by decide +kernel
theorem dX4_take_67 : decode cX4_take 67 = .ok (.iload 7, 2) := by decide +kernel
theorem dX4_take_69 : decode cX4_take 69 = .ok (.iload 5, 2) := by decide +kernel
theorem dX4_take_71 : decode cX4_take 71 = .ok (.if_icmp .ge 26, 3) := by decide +kernel
theorem dX4_take_74 : decode cX4_take 74 = .ok (.aload 6, 2) := by decide +kernel
theorem dX4_take_76 : decode cX4_take 76 = .ok (.iload 7, 2) := by decide +kernel
theorem dX4_take_78 : decode cX4_take 78 = .ok (.aload_n 0, 1) := by decide +kernel
theorem dX4_take_79 : decode cX4_take 79 = .ok (.getfield 15, 3) := by decide +kernel
theorem dX4_take_82 : decode cX4_take 82 = .ok (.iload_n 1, 1) := by decide +kernel
theorem dX4_take_83 : decode cX4_take 83 = .ok (.aaload, 1) := by decide +kernel
theorem dX4_take_84 : decode cX4_take 84 = .ok (.iload 4, 2) := by decide +kernel
theorem dX4_take_86 : decode cX4_take 86 = .ok (.iload 7, 2) := by decide +kernel
theorem dX4_take_88 : decode cX4_take 88 = .ok (.iadd, 1) := by decide +kernel
theorem dX4_take_89 : decode cX4_take 89 = .ok (.iaload, 1) := by decide +kernel
theorem dX4_take_90 : decode cX4_take 90 = .ok (.iastore, 1) := by decide +kernel
theorem dX4_take_91 : decode cX4_take 91 = .ok (.iinc 7 1, 3) := by decide +kernel
theorem dX4_take_94 : decode cX4_take 94 = .ok (.goto (-27), 3) := by decide +kernel
theorem dX4_take_97 : decode cX4_take 97 = .ok (.aload_n 0, 1) := by decide +kernel
theorem dX4_take_98 : decode cX4_take 98 = .ok (.iload_n 3, 1) := by decide +kernel
theorem dX4_take_99 : decode cX4_take 99 = .ok (.aload 6, 2) := by decide +kernel
theorem dX4_take_101 : decode cX4_take 101 = .ok (.iload 5, 2) := by decide +kernel
theorem dX4_take_103 : decode cX4_take 103 = .ok (.invokevirtual 103, 3) := by decide +kernel
theorem dX4_take_106 : decode cX4_take 106 = .ok (.aload_n 0, 1) := by decide +kernel
theorem dX4_take_107 : decode cX4_take 107 = .ok (.iload 5, 2) := by decide +kernel
theorem dX4_take_109 : decode cX4_take 109 = .ok (.invokevirtual 92, 3) := by decide +kernel
theorem dX4_take_112 : decode cX4_take 112 = .ok (.ireturn, 1) := by decide +kernel
theorem dX4_mend_0 : decode cX4_mend 0 = .ok (.aload_n 0, 1) := by decide +kernel
theorem dX4_mend_1 : decode cX4_mend 1 = .ok (.iload_n 1, 1) := by decide +kernel
theorem dX4_mend_2 : decode cX4_mend 2 = .ok (.invokestatic 70, 3) := by decide +kernel
theorem dX4_mend_5 : decode cX4_mend 5 = .ok (.ifCond .ne 7, 3) := by decide +kernel
theorem dX4_mend_8 : decode cX4_mend 8 = .ok (.iconst 1, 1) := by decide +kernel
theorem dX4_mend_9 : decode cX4_mend 9 = .ok (.goto 4, 3) := by decide +kernel
theorem dX4_mend_12 : decode cX4_mend 12 = .ok (.iconst 0, 1) := by decide +kernel
theorem dX4_mend_13 : decode cX4_mend 13 = .ok (.invokevirtual 100, 3) := by decide +kernel
theorem dX4_mend_16 : decode cX4_mend 16 = .ok (.ifCond .eq 5, 3) := by decide +kernel
theorem dX4_mend_19 : decode cX4_mend 19 = .ok (.iconst 0, 1) := by decide +kernel
theorem dX4_mend_20 : decode cX4_mend 20 = .ok (.ireturn, 1) := by decide +kernel
theorem dX4_mend_21 : decode cX4_mend 21 = .ok (.bipush 30, 2) := by decide +kernel
theorem dX4_mend_23 : decode cX4_mend 23 = .ok (.newarray .boolean, 2) := by decide +kernel
theorem dX4_mend_25 : decode cX4_mend 25 = .ok (.astore_n 2, 1) := by decide +kernel
theorem dX4_mend_26 : decode cX4_mend 26 = .ok (.bipush 11, 2) := by decide +kernel
theorem dX4_mend_28 : decode cX4_mend 28 = .ok (.istore_n 3, 1) := by decide +kernel
theorem dX4_mend_29 : decode cX4_mend 29 = .ok (.iconst 0, 1) := by decide +kernel
theorem dX4_mend_30 : decode cX4_mend 30 = .ok (.istore 4, 2) := by decide +kernel
theorem dX4_mend_32 : decode cX4_mend 32 = .ok (.iload 4, 2) := by decide +kernel
theorem dX4_mend_34 : decode cX4_mend 34 = .ok (.aload_n 0, 1) := by decide +kernel
theorem dX4_mend_35 : decode cX4_mend 35 = .ok (.getfield 18, 3) := by decide +kernel
theorem dX4_mend_38 : decode cX4_mend 38 = .ok (.iload_n 1, 1) := by decide +kernel
theorem dX4_mend_39 : decode cX4_mend 39 = .ok (.iaload, 1) := by decide +kernel
theorem dX4_mend_40 : decode cX4_mend 40 = .ok (.if_icmp .ge 37, 3) := by decide +kernel
theorem dX4_mend_43 : decode cX4_mend 43 = .ok (.aload_n 2, 1) := by decide +kernel
theorem dX4_mend_44 : decode cX4_mend 44 = .ok (.iload 4, 2) := by decide +kernel
theorem dX4_mend_46 : decode cX4_mend 46 = .ok (.aload_n 0, 1) := by decide +kernel
theorem dX4_mend_47 : decode cX4_mend 47 = .ok (.aload_n 0, 1) := by decide +kernel
theorem dX4_mend_48 : decode cX4_mend 48 = .ok (.getfield 15, 3) := by decide +kernel
theorem dX4_mend_51 : decode cX4_mend 51 = .ok (.iload_n 1, 1) := by decide +kernel
theorem dX4_mend_52 : decode cX4_mend 52 = .ok (.aaload, 1) := by decide +kernel
theorem dX4_mend_53 : decode cX4_mend 53 = .ok (.iload 4, 2) := by decide +kernel
theorem dX4_mend_55 : decode cX4_mend 55 = .ok (.iaload, 1) := by decide +kernel
theorem dX4_mend_56 : decode cX4_mend 56 = .ok (.iload_n 3, 1) := by decide +kernel
theorem dX4_mend_57 : decode cX4_mend 57 = .ok (.invokevirtual 45, 3) := by decide +kernel
theorem dX4_mend_60 : decode cX4_mend 60 = .ok (.bastore, 1) := by decide +kernel
theorem dX4_mend_61 : decode cX4_mend 61 = .ok (.aload_n 2, 1) := by decide +kernel
theorem dX4_mend_62 : decode cX4_mend 62 = .ok (.iload 4, 2) := by decide +kernel
theorem dX4_mend_64 : decode cX4_mend 64 = .ok (.baload, 1) := by decide +kernel
theorem dX4_mend_65 : decode cX4_mend 65 = .ok (.ifCond .eq 6, 3) := by decide +kernel
theorem dX4_mend_68 : decode cX4_mend 68 = .ok (.bipush 12, 2) := by decide +kernel
theorem dX4_mend_70 : decode cX4_mend 70 = .ok (.istore_n 3, 1) := by decide +kernel
theorem dX4_mend_71 : decode cX4_mend 71 = .ok (.iinc 4 1, 3) := by decide +kernel
theorem dX4_mend_74 : decode cX4_mend 74 = .ok (.goto (-42), 3) := by decide +kernel
theorem dX4_mend_77 : decode cX4_mend 77 = .ok (.aload_n 0, 1) := by decide +kernel
theorem dX4_mend_78 : decode cX4_mend 78 = .ok (.iload_n 1, 1) := by decide +kernel
theorem dX4_mend_79 : decode cX4_mend 79 = .ok (.aload_n 2, 1) := by decide +kernel
theorem dX4_mend_80 : decode cX4_mend 80 = .ok (.invokevirtual 110, 3) := by decide +kernel
theorem dX4_mend_83 : decode cX4_mend 83 = .ok (.ireturn, 1) := by decide +kernel
theorem dX4_kind_0 : decode cX4_kind 0 = .ok (.aload_n 0, 1) := by decide +kernel
theorem dX4_kind_1 : decode cX4_kind 1 = .ok (.iload_n 1, 1) := by decide +kernel
theorem dX4_kind_2 : decode cX4_kind 2 = .ok (.invokestatic 83, 3) := by decide +kernel
theorem dX4_kind_5 : decode cX4_kind 5 = .ok (.ifCond .ne 7, 3) := by decide +kernel
theorem dX4_kind_8 : decode cX4_kind 8 = .ok (.iconst 1, 1) := by decide +kernel
theorem dX4_kind_9 : decode cX4_kind 9 = .ok (.goto 4, 3) := by decide +kernel
theorem dX4_kind_12 : decode cX4_kind 12 = .ok (.iconst 0, 1) := by decide +kernel
theorem dX4_kind_13 : decode cX4_kind 13 = .ok (.invokevirtual 100, 3) := by decide +kernel
theorem dX4_kind_16 : decode cX4_kind 16 = .ok (.ifCond .eq 7, 3) := by decide +kernel
theorem dX4_kind_19 : decode cX4_kind 19 = .ok (.iconst 0, 1) := by decide +kernel
theorem dX4_kind_20 : decode cX4_kind 20 = .ok (.goto 9, 3) := by decide +kernel
theorem dX4_kind_23 : decode cX4_kind 23 = .ok (.aload_n 0, 1) := by decide +kernel
theorem dX4_kind_24 : decode cX4_kind 24 = .ok (.getfield 7, 3) := by decide +kernel
theorem dX4_kind_27 : decode cX4_kind 27 = .ok (.iload_n 1, 1) := by decide +kernel
theorem dX4_kind_28 : decode cX4_kind 28 = .ok (.iaload, 1) := by decide +kernel
theorem dX4_kind_29 : decode cX4_kind 29 = .ok (.ireturn, 1) := by decide +kernel
theorem dX4_ask_0 : decode cX4_ask 0 = .ok (.aload_n 0, 1) := by decide +kernel
theorem dX4_ask_1 : decode cX4_ask 1 = .ok (.iload_n 1, 1) := by decide +kernel
theorem dX4_ask_2 : decode cX4_ask 2 = .ok (.invokestatic 83, 3) := by decide +kernel
theorem dX4_ask_5 : decode cX4_ask 5 = .ok (.ifCond .eq 10, 3) := by decide +kernel
theorem dX4_ask_8 : decode cX4_ask 8 = .ok (.iload_n 2, 1) := by decide +kernel
theorem dX4_ask_9 : decode cX4_ask 9 = .ok (.invokestatic 107, 3) := by decide +kernel
theorem dX4_ask_12 : decode cX4_ask 12 = .ok (.ifCond .ne 7, 3) := by decide +kernel
theorem dX4_ask_15 : decode cX4_ask 15 = .ok (.iconst 1, 1) := by decide +kernel
theorem dX4_ask_16 : decode cX4_ask 16 = .ok (.goto 4, 3) := by decide +kernel
theorem dX4_ask_19 : decode cX4_ask 19 = .ok (.iconst 0, 1) := by decide +kernel
theorem dX4_ask_20 : decode cX4_ask 20 = .ok (.invokevirtual 100, 3) := by decide +kernel
theorem dX4_ask_23 : decode cX4_ask 23 = .ok (.ifCond .ne 16, 3) := by decide +kernel
theorem dX4_ask_26 : decode cX4_ask 26 = .ok (.aload_n 0, 1) := by decide +kernel
theorem dX4_ask_27 : decode cX4_ask 27 = .ok (.iload_n 1, 1) := by decide +kernel
theorem dX4_ask_28 : decode cX4_ask 28 = .ok (.iload_n 2, 1) := by decide +kernel
theorem dX4_ask_29 : decode cX4_ask 29 = .ok (.invokevirtual 45, 3) := by decide +kernel
theorem dX4_ask_32 : decode cX4_ask 32 = .ok (.ifCond .eq 7, 3) := by decide +kernel
theorem dX4_ask_35 : decode cX4_ask 35 = .ok (.iconst 1, 1) := by decide +kernel
theorem dX4_ask_36 : decode cX4_ask 36 = .ok (.goto 4, 3) := by decide +kernel
theorem dX4_ask_39 : decode cX4_ask 39 = .ok (.iconst 0, 1) := by decide +kernel
theorem dX4_ask_40 : decode cX4_ask 40 = .ok (.ireturn, 1) := by decide +kernel
theorem dX4_all_0 : decode cX4_all 0 = .ok (.aload_n 0, 1) := by decide +kernel
theorem dX4_all_1 : decode cX4_all 1 = .ok (.iload_n 1, 1) := by decide +kernel
theorem dX4_all_2 : decode cX4_all 2 = .ok (.invokestatic 83, 3) := by decide +kernel
theorem dX4_all_5 : decode cX4_all 5 = .ok (.ifCond .ne 7, 3) := by decide +kernel
theorem dX4_all_8 : decode cX4_all 8 = .ok (.iconst 1, 1) := by decide +kernel
theorem dX4_all_9 : decode cX4_all 9 = .ok (.goto 4, 3) := by decide +kernel
theorem dX4_all_12 : decode cX4_all 12 = .ok (.iconst 0, 1) := by decide +kernel
theorem dX4_all_13 : decode cX4_all 13 = .ok (.invokevirtual 100, 3) := by decide +kernel
theorem dX4_all_16 : decode cX4_all 16 = .ok (.ifCond .eq 5, 3) := by decide +kernel
theorem dX4_all_19 : decode cX4_all 19 = .ok (.iconst 0, 1) := by decide +kernel
theorem dX4_all_20 : decode cX4_all 20 = .ok (.ireturn, 1) := by decide +kernel
theorem dX4_all_21 : decode cX4_all 21 = .ok (.iconst 0, 1) := by decide +kernel
theorem dX4_all_22 : decode cX4_all 22 = .ok (.istore_n 2, 1) := by decide +kernel
theorem dX4_all_23 : decode cX4_all 23 = .ok (.iconst 0, 1) := by decide +kernel
theorem dX4_all_24 : decode cX4_all 24 = .ok (.istore_n 3, 1) := by decide +kernel
theorem dX4_all_25 : decode cX4_all 25 = .ok (.iload_n 3, 1) := by decide +kernel
theorem dX4_all_26 : decode cX4_all 26 = .ok (.bipush 14, 2) := by decide +kernel
theorem dX4_all_28 : decode cX4_all 28 = .ok (.if_icmp .ge 28, 3) := by decide +kernel
theorem dX4_all_31 : decode cX4_all 31 = .ok (.iload_n 2, 1) := by decide +kernel
theorem dX4_all_32 : decode cX4_all 32 = .ok (.aload_n 0, 1) := by decide +kernel
theorem dX4_all_33 : decode cX4_all 33 = .ok (.iload_n 1, 1) := by decide +kernel
theorem dX4_all_34 : decode cX4_all 34 = .ok (.iload_n 3, 1) := by decide +kernel
theorem dX4_all_35 : decode cX4_all 35 = .ok (.invokevirtual 45, 3) := by decide +kernel
theorem dX4_all_38 : decode cX4_all 38 = .ok (.ifCond .eq 9, 3) := by decide +kernel
theorem dX4_all_41 : decode cX4_all 41 = .ok (.iconst 1, 1) := by decide +kernel
theorem dX4_all_42 : decode cX4_all 42 = .ok (.iload_n 3, 1) := by decide +kernel
theorem dX4_all_43 : decode cX4_all 43 = .ok (.ishl, 1) := by decide +kernel
theorem dX4_all_44 : decode cX4_all 44 = .ok (.goto 4, 3) := by decide +kernel
theorem dX4_all_47 : decode cX4_all 47 = .ok (.iconst 0, 1) := by decide +kernel
theorem dX4_all_48 : decode cX4_all 48 = .ok (.ior, 1) := by decide +kernel
theorem dX4_all_49 : decode cX4_all 49 = .ok (.istore_n 2, 1) := by decide +kernel
theorem dX4_all_50 : decode cX4_all 50 = .ok (.iinc 3 1, 3) := by decide +kernel
theorem dX4_all_53 : decode cX4_all 53 = .ok (.goto (-28), 3) := by decide +kernel
theorem dX4_all_56 : decode cX4_all 56 = .ok (.iload_n 2, 1) := by decide +kernel
theorem dX4_all_57 : decode cX4_all 57 = .ok (.ireturn, 1) := by decide +kernel
theorem dX4_nth_0 : decode cX4_nth 0 = .ok (.aload_n 0, 1) := by decide +kernel
theorem dX4_nth_1 : decode cX4_nth 1 = .ok (.iload_n 1, 1) := by decide +kernel
theorem dX4_nth_2 : decode cX4_nth 2 = .ok (.invokestatic 114, 3) := by decide +kernel
theorem dX4_nth_5 : decode cX4_nth 5 = .ok (.ifCond .eq 14, 3) := by decide +kernel
theorem dX4_nth_8 : decode cX4_nth 8 = .ok (.iload_n 2, 1) := by decide +kernel
theorem dX4_nth_9 : decode cX4_nth 9 = .ok (.ifCond .lt 10, 3) := by decide +kernel
theorem dX4_nth_12 : decode cX4_nth 12 = .ok (.iload_n 2, 1) := by decide +kernel
theorem dX4_nth_13 : decode cX4_nth 13 = .ok (.sipush 255, 3) := by decide +kernel
theorem dX4_nth_16 : decode cX4_nth 16 = .ok (.if_icmp .le 7, 3) := by decide +kernel
theorem dX4_nth_19 : decode cX4_nth 19 = .ok (.iconst 1, 1) := by decide +kernel
theorem dX4_nth_20 : decode cX4_nth 20 = .ok (.goto 4, 3) := by decide +kernel
theorem dX4_nth_23 : decode cX4_nth 23 = .ok (.iconst 0, 1) := by decide +kernel
theorem dX4_nth_24 : decode cX4_nth 24 = .ok (.invokevirtual 100, 3) := by decide +kernel
theorem dX4_nth_27 : decode cX4_nth 27 = .ok (.ifCond .eq 5, 3) := by decide +kernel
theorem dX4_nth_30 : decode cX4_nth 30 = .ok (.iconst 0, 1) := by decide +kernel
theorem dX4_nth_31 : decode cX4_nth 31 = .ok (.ireturn, 1) := by decide +kernel
theorem dX4_nth_32 : decode cX4_nth 32 = .ok (.iload_n 2, 1) := by decide +kernel
theorem dX4_nth_33 : decode cX4_nth 33 = .ok (.istore_n 3, 1) := by decide +kernel
theorem dX4_nth_34 : decode cX4_nth 34 = .ok (.iconst 0, 1) := by decide +kernel
theorem dX4_nth_35 : decode cX4_nth 35 = .ok (.istore 4, 2) := by decide +kernel
theorem dX4_nth_37 : decode cX4_nth 37 = .ok (.iload 4, 2) := by decide +kernel
theorem dX4_nth_39 : decode cX4_nth 39 = .ok (.sipush 256, 3) := by decide +kernel
theorem dX4_nth_42 : decode cX4_nth 42 = .ok (.if_icmp .ge 33, 3) := by decide +kernel
theorem dX4_nth_45 : decode cX4_nth 45 = .ok (.aload_n 0, 1) := by decide +kernel
theorem dX4_nth_46 : decode cX4_nth 46 = .ok (.getfield 7, 3) := by decide +kernel
theorem dX4_nth_49 : decode cX4_nth 49 = .ok (.iload 4, 2) := by decide +kernel
theorem dX4_nth_51 : decode cX4_nth 51 = .ok (.iaload, 1) := by decide +kernel
theorem dX4_nth_52 : decode cX4_nth 52 = .ok (.iload_n 1, 1) := by decide +kernel
theorem dX4_nth_53 : decode cX4_nth 53 = .ok (.if_icmp .eq 6, 3) := by decide +kernel
theorem dX4_nth_56 : decode cX4_nth 56 = .ok (.goto 13, 3) := by decide +kernel
theorem dX4_nth_59 : decode cX4_nth 59 = .ok (.iload_n 3, 1) := by decide +kernel
theorem dX4_nth_60 : decode cX4_nth 60 = .ok (.ifCond .ne 6, 3) := by decide +kernel
theorem dX4_nth_63 : decode cX4_nth 63 = .ok (.iload 4, 2) := by decide +kernel
theorem dX4_nth_65 : decode cX4_nth 65 = .ok (.ireturn, 1) := by decide +kernel
theorem dX4_nth_66 : decode cX4_nth 66 = .ok (.iinc 3 (-1), 3) := by decide +kernel
theorem dX4_nth_69 : decode cX4_nth 69 = .ok (.iinc 4 1, 3) := by decide +kernel
theorem dX4_nth_72 : decode cX4_nth 72 = .ok (.goto (-35), 3) := by decide +kernel
theorem dX4_nth_75 : decode cX4_nth 75 = .ok (.iconst (-1), 1) := by decide +kernel
theorem dX4_nth_76 : decode cX4_nth 76 = .ok (.ireturn, 1) := by decide +kernel
theorem dX4_next_0 : decode cX4_next 0 = .ok (.aload_n 0, 1) := by decide +kernel
theorem dX4_next_1 : decode cX4_next 1 = .ok (.iload_n 1, 1) := by decide +kernel
theorem dX4_next_2 : decode cX4_next 2 = .ok (.invokestatic 107, 3) := by decide +kernel
theorem dX4_next_5 : decode cX4_next 5 = .ok (.ifCond .eq 10, 3) := by decide +kernel
theorem dX4_next_8 : decode cX4_next 8 = .ok (.iload_n 2, 1) := by decide +kernel
theorem dX4_next_9 : decode cX4_next 9 = .ok (.invokestatic 83, 3) := by decide +kernel
theorem dX4_next_12 : decode cX4_next 12 = .ok (.ifCond .ne 7, 3) := by decide +kernel
theorem dX4_next_15 : decode cX4_next 15 = .ok (.iconst 1, 1) := by decide +kernel
theorem dX4_next_16 : decode cX4_next 16 = .ok (.goto 4, 3) := by decide +kernel
theorem dX4_next_19 : decode cX4_next 19 = .ok (.iconst 0, 1) := by decide +kernel
theorem dX4_next_20 : decode cX4_next 20 = .ok (.invokevirtual 100, 3) := by decide +kernel
theorem dX4_next_23 : decode cX4_next 23 = .ok (.ifCond .eq 5, 3) := by decide +kernel
theorem dX4_next_26 : decode cX4_next 26 = .ok (.iconst 0, 1) := by decide +kernel
theorem dX4_next_27 : decode cX4_next 27 = .ok (.ireturn, 1) := by decide +kernel
theorem dX4_next_28 : decode cX4_next 28 = .ok (.iload_n 2, 1) := by decide +kernel
theorem dX4_next_29 : decode cX4_next 29 = .ok (.istore 4, 2) := by decide +kernel
theorem dX4_next_31 : decode cX4_next 31 = .ok (.iload 4, 2) := by decide +kernel
theorem dX4_next_33 : decode cX4_next 33 = .ok (.sipush 256, 3) := by decide +kernel
theorem dX4_next_36 : decode cX4_next 36 = .ok (.if_icmp .ge 23, 3) := by decide +kernel
theorem dX4_next_39 : decode cX4_next 39 = .ok (.aload_n 0, 1) := by decide +kernel
theorem dX4_next_40 : decode cX4_next 40 = .ok (.iload 4, 2) := by decide +kernel
theorem dX4_next_42 : decode cX4_next 42 = .ok (.iload_n 1, 1) := by decide +kernel
theorem dX4_next_43 : decode cX4_next 43 = .ok (.invokevirtual 45, 3) := by decide +kernel
theorem dX4_next_46 : decode cX4_next 46 = .ok (.iload_n 3, 1) := by decide +kernel
theorem dX4_next_47 : decode cX4_next 47 = .ok (.if_icmp .ne 6, 3) := by decide +kernel
theorem dX4_next_50 : decode cX4_next 50 = .ok (.iload 4, 2) := by decide +kernel
theorem dX4_next_52 : decode cX4_next 52 = .ok (.ireturn, 1) := by decide +kernel
theorem dX4_next_53 : decode cX4_next 53 = .ok (.iinc 4 1, 3) := by decide +kernel
theorem dX4_next_56 : decode cX4_next 56 = .ok (.goto (-25), 3) := by decide +kernel
theorem dX4_next_59 : decode cX4_next 59 = .ok (.iconst (-1), 1) := by decide +kernel
theorem dX4_next_60 : decode cX4_next 60 = .ok (.ireturn, 1) := by decide +kernel
theorem dX4_run_0 : decode cX4_run 0 = .ok (.aload_n 0, 1) := by decide +kernel
theorem dX4_run_1 : decode cX4_run 1 = .ok (.iload_n 1, 1) := by decide +kernel
theorem dX4_run_2 : decode cX4_run 2 = .ok (.invokestatic 107, 3) := by decide +kernel
theorem dX4_run_5 : decode cX4_run 5 = .ok (.ifCond .eq 10, 3) := by decide +kernel
theorem dX4_run_8 : decode cX4_run 8 = .ok (.iload_n 2, 1) := by decide +kernel
theorem dX4_run_9 : decode cX4_run 9 = .ok (.invokestatic 83, 3) := by decide +kernel
theorem dX4_run_12 : decode cX4_run 12 = .ok (.ifCond .ne 7, 3) := by decide +kernel
theorem dX4_run_15 : decode cX4_run 15 = .ok (.iconst 1, 1) := by decide +kernel
theorem dX4_run_16 : decode cX4_run 16 = .ok (.goto 4, 3) := by decide +kernel
theorem dX4_run_19 : decode cX4_run 19 = .ok (.iconst 0, 1) := by decide +kernel
theorem dX4_run_20 : decode cX4_run 20 = .ok (.invokevirtual 100, 3) := by decide +kernel
theorem dX4_run_23 : decode cX4_run 23 = .ok (.ifCond .eq 5, 3) := by decide +kernel
theorem dX4_run_26 : decode cX4_run 26 = .ok (.iconst 0, 1) := by decide +kernel
theorem dX4_run_27 : decode cX4_run 27 = .ok (.ireturn, 1) := by decide +kernel
theorem dX4_run_28 : decode cX4_run 28 = .ok (.iload_n 2, 1) := by decide +kernel
theorem dX4_run_29 : decode cX4_run 29 = .ok (.istore_n 3, 1) := by decide +kernel
theorem dX4_run_30 : decode cX4_run 30 = .ok (.iload_n 3, 1) := by decide +kernel
theorem dX4_run_31 : decode cX4_run 31 = .ok (.sipush 256, 3) := by decide +kernel
theorem dX4_run_34 : decode cX4_run 34 = .ok (.if_icmp .ge 24, 3) := by decide +kernel
theorem dX4_run_37 : decode cX4_run 37 = .ok (.aload_n 0, 1) := by decide +kernel
theorem dX4_run_38 : decode cX4_run 38 = .ok (.iload_n 3, 1) := by decide +kernel
theorem dX4_run_39 : decode cX4_run 39 = .ok (.iload_n 1, 1) := by decide +kernel
theorem dX4_run_40 : decode cX4_run 40 = .ok (.invokevirtual 45, 3) := by decide +kernel
theorem dX4_run_43 : decode cX4_run 43 = .ok (.aload_n 0, 1) := by decide +kernel
theorem dX4_run_44 : decode cX4_run 44 = .ok (.iload_n 2, 1) := by decide +kernel
theorem dX4_run_45 : decode cX4_run 45 = .ok (.iload_n 1, 1) := by decide +kernel
theorem dX4_run_46 : decode cX4_run 46 = .ok (.invokevirtual 45, 3) := by decide +kernel
theorem dX4_run_49 : decode cX4_run 49 = .ok (.if_icmp .ne 9, 3) := by decide +kernel
theorem dX4_run_52 : decode cX4_run 52 = .ok (.iinc 3 1, 3) := by decide +kernel
theorem dX4_run_55 : decode cX4_run 55 = .ok (.goto (-25), 3) := by decide +kernel
theorem dX4_run_58 : decode cX4_run 58 = .ok (.iload_n 3, 1) := by decide +kernel
theorem dX4_run_59 : decode cX4_run 59 = .ok (.iload_n 2, 1) := by decide +kernel
theorem dX4_run_60 : decode cX4_run 60 = .ok (.isub, 1) := by decide +kernel
theorem dX4_run_61 : decode cX4_run 61 = .ok (.ireturn, 1) := by decide +kernel
theorem dX4_isSpan_0 : decode cX4_isSpan 0 = .ok (.iload_n 0, 1) := by decide +kernel
theorem dX4_isSpan_1 : decode cX4_isSpan 1 = .ok (.invokestatic 83, 3) := by decide +kernel
theorem dX4_isSpan_4 : decode cX4_isSpan 4 = .ok (.ifCond .eq 19, 3) := by decide +kernel
theorem dX4_isSpan_7 : decode cX4_isSpan 7 = .ok (.iload_n 1, 1) := by decide +kernel
theorem dX4_isSpan_8 : decode cX4_isSpan 8 = .ok (.invokestatic 83, 3) := by decide +kernel
theorem dX4_isSpan_11 : decode cX4_isSpan 11 = .ok (.ifCond .eq 12, 3) := by decide +kernel
theorem dX4_isSpan_14 : decode cX4_isSpan 14 = .ok (.iload_n 0, 1) := by decide +kernel
theorem dX4_isSpan_15 : decode cX4_isSpan 15 = .ok (.iload_n 1, 1) := by decide +kernel
theorem dX4_isSpan_16 : decode cX4_isSpan 16 = .ok (.if_icmp .gt 7, 3) := by decide +kernel
theorem dX4_isSpan_19 : decode cX4_isSpan 19 = .ok (.iconst 1, 1) := by decide +kernel
theorem dX4_isSpan_20 : decode cX4_isSpan 20 = .ok (.goto 4, 3) := by decide +kernel
theorem dX4_isSpan_23 : decode cX4_isSpan 23 = .ok (.iconst 0, 1) := by decide +kernel
theorem dX4_isSpan_24 : decode cX4_isSpan 24 = .ok (.ireturn, 1) := by decide +kernel
theorem dX4_ofKind_0 : decode cX4_ofKind 0 = .ok (.aload_n 0, 1) := by decide +kernel
theorem dX4_ofKind_1 : decode cX4_ofKind 1 = .ok (.iload_n 1, 1) := by decide +kernel
theorem dX4_ofKind_2 : decode cX4_ofKind 2 = .ok (.invokestatic 114, 3) := by decide +kernel
theorem dX4_ofKind_5 : decode cX4_ofKind 5 = .ok (.ifCond .eq 11, 3) := by decide +kernel
theorem dX4_ofKind_8 : decode cX4_ofKind 8 = .ok (.iload_n 2, 1) := by decide +kernel
theorem dX4_ofKind_9 : decode cX4_ofKind 9 = .ok (.iload_n 3, 1) := by decide +kernel
theorem dX4_ofKind_10 : decode cX4_ofKind 10 = .ok (.invokestatic 120, 3) := by decide +kernel
theorem dX4_ofKind_13 : decode cX4_ofKind 13 = .ok (.ifCond .ne 7, 3) := by decide +kernel
theorem dX4_ofKind_16 : decode cX4_ofKind 16 = .ok (.iconst 1, 1) := by decide +kernel
theorem dX4_ofKind_17 : decode cX4_ofKind 17 = .ok (.goto 4, 3) := by decide +kernel
theorem dX4_ofKind_20 : decode cX4_ofKind 20 = .ok (.iconst 0, 1) := by decide +kernel
theorem dX4_ofKind_21 : decode cX4_ofKind 21 = .ok (.invokevirtual 100, 3) := by decide +kernel
theorem dX4_ofKind_24 : decode cX4_ofKind 24 = .ok (.ifCond .eq 5, 3) := by decide +kernel
theorem dX4_ofKind_27 : decode cX4_ofKind 27 = .ok (.iconst 0, 1) := by decide +kernel
theorem dX4_ofKind_28 : decode cX4_ofKind 28 = .ok (.ireturn, 1) := by decide +kernel
theorem dX4_ofKind_29 : decode cX4_ofKind 29 = .ok (.iconst 0, 1) := by decide +kernel
theorem dX4_ofKind_30 : decode cX4_ofKind 30 = .ok (.istore 4, 2) := by decide +kernel
theorem dX4_ofKind_32 : decode cX4_ofKind 32 = .ok (.iload_n 2, 1) := by decide +kernel
theorem dX4_ofKind_33 : decode cX4_ofKind 33 = .ok (.istore 5, 2) := by decide +kernel
theorem dX4_ofKind_35 : decode cX4_ofKind 35 = .ok (.iload 5, 2) := by decide +kernel
theorem dX4_ofKind_37 : decode cX4_ofKind 37 = .ok (.iload_n 3, 1) := by decide +kernel
theorem dX4_ofKind_38 : decode cX4_ofKind 38 = .ok (.if_icmp .gt 30, 3) := by decide +kernel
theorem dX4_ofKind_41 : decode cX4_ofKind 41 = .ok (.iload 4, 2) := by decide +kernel
theorem dX4_ofKind_43 : decode cX4_ofKind 43 = .ok (.aload_n 0, 1) := by decide +kernel
theorem dX4_ofKind_44 : decode cX4_ofKind 44 = .ok (.getfield 7, 3) := by decide +kernel
theorem dX4_ofKind_47 : decode cX4_ofKind 47 = .ok (.iload 5, 2) := by decide +kernel
theorem dX4_ofKind_49 : decode cX4_ofKind 49 = .ok (.iaload, 1) := by decide +kernel
theorem dX4_ofKind_50 : decode cX4_ofKind 50 = .ok (.iload_n 1, 1) := by decide +kernel
theorem dX4_ofKind_51 : decode cX4_ofKind 51 = .ok (.if_icmp .ne 7, 3) := by decide +kernel
theorem dX4_ofKind_54 : decode cX4_ofKind 54 = .ok (.iconst 1, 1) := by decide +kernel
theorem dX4_ofKind_55 : decode cX4_ofKind 55 = .ok (.goto 4, 3) := by decide +kernel
theorem dX4_ofKind_58 : decode cX4_ofKind 58 = .ok (.iconst 0, 1) := by decide +kernel
theorem dX4_ofKind_59 : decode cX4_ofKind 59 = .ok (.iadd, 1) := by decide +kernel
theorem dX4_ofKind_60 : decode cX4_ofKind 60 = .ok (.istore 4, 2) := by decide +kernel
theorem dX4_ofKind_62 : decode cX4_ofKind 62 = .ok (.iinc 5 1, 3) := by decide +kernel
theorem dX4_ofKind_65 : decode cX4_ofKind 65 = .ok (.goto (-30), 3) := by decide +kernel
theorem dX4_ofKind_68 : decode cX4_ofKind 68 = .ok (.iload 4, 2) := by decide +kernel
theorem dX4_ofKind_70 : decode cX4_ofKind 70 = .ok (.ireturn, 1) := by decide +kernel
theorem dX4_ofQuestion_0 : decode cX4_ofQuestion 0 = .ok (.aload_n 0, 1) := by decide +kernel
theorem dX4_ofQuestion_1 : decode cX4_ofQuestion 1 = .ok (.iload_n 1, 1) := by decide +kernel
theorem dX4_ofQuestion_2 : decode cX4_ofQuestion 2 = .ok (.invokestatic 107, 3) := by decide +kernel
theorem dX4_ofQuestion_5 : decode cX4_ofQuestion 5 = .ok (.ifCond .eq 11, 3) := by decide +kernel
theorem dX4_ofQuestion_8 : decode cX4_ofQuestion 8 = .ok (.iload_n 2, 1) := by decide +kernel
theorem dX4_ofQuestion_9 : decode cX4_ofQuestion 9 = .ok (.iload_n 3, 1) := by decide +kernel
theorem dX4_ofQuestion_10 : decode cX4_ofQuestion 10 = .ok (.invokestatic 120, 3) := by decide +kernel
theorem dX4_ofQuestion_13 : decode cX4_ofQuestion 13 = .ok (.ifCond .ne 7, 3) := by decide +kernel
theorem dX4_ofQuestion_16 : decode cX4_ofQuestion 16 = .ok (.iconst 1, 1) := by decide +kernel
theorem dX4_ofQuestion_17 : decode cX4_ofQuestion 17 = .ok (.goto 4, 3) := by decide +kernel
theorem dX4_ofQuestion_20 : decode cX4_ofQuestion 20 = .ok (.iconst 0, 1) := by decide +kernel
theorem dX4_ofQuestion_21 : decode cX4_ofQuestion 21 = .ok (.invokevirtual 100, 3) := by decide +kernel
theorem dX4_ofQuestion_24 : decode cX4_ofQuestion 24 = .ok (.ifCond .eq 5, 3) := by decide +kernel
theorem dX4_ofQuestion_27 : decode cX4_ofQuestion 27 = .ok (.iconst 0, 1) := by decide +kernel
theorem dX4_ofQuestion_28 : decode cX4_ofQuestion 28 = .ok (.ireturn, 1) := by decide +kernel
theorem dX4_ofQuestion_29 : decode cX4_ofQuestion 29 = .ok (.iconst 0, 1) := by decide +kernel
theorem dX4_ofQuestion_30 : decode cX4_ofQuestion 30 = .ok (.istore 4, 2) := by decide +kernel
theorem dX4_ofQuestion_32 : decode cX4_ofQuestion 32 = .ok (.iload_n 2, 1) := by decide +kernel
theorem dX4_ofQuestion_33 : decode cX4_ofQuestion 33 = .ok (.istore 5, 2) := by decide +kernel
theorem dX4_ofQuestion_35 : decode cX4_ofQuestion 35 = .ok (.iload 5, 2) := by decide +kernel
theorem dX4_ofQuestion_37 : decode cX4_ofQuestion 37 = .ok (.iload_n 3, 1) := by decide +kernel
theorem dX4_ofQuestion_38 : decode cX4_ofQuestion 38 = .ok (.if_icmp .gt 29, 3) := by decide +kernel
theorem dX4_ofQuestion_41 : decode cX4_ofQuestion 41 = .ok (.iload 4, 2) := by decide +kernel
theorem dX4_ofQuestion_43 : decode cX4_ofQuestion 43 = .ok (.aload_n 0, 1) := by decide +kernel
theorem dX4_ofQuestion_44 : decode cX4_ofQuestion 44 = .ok (.iload 5, 2) := by decide +kernel
theorem dX4_ofQuestion_46 : decode cX4_ofQuestion 46 = .ok (.iload_n 1, 1) := by decide +kernel
theorem dX4_ofQuestion_47 : decode cX4_ofQuestion 47 = .ok (.invokevirtual 45, 3) := by decide +kernel
theorem dX4_ofQuestion_50 : decode cX4_ofQuestion 50 = .ok (.ifCond .eq 7, 3) := by decide +kernel
theorem dX4_ofQuestion_53 : decode cX4_ofQuestion 53 = .ok (.iconst 1, 1) := by decide +kernel
theorem dX4_ofQuestion_54 : decode cX4_ofQuestion 54 = .ok (.goto 4, 3) := by decide +kernel
theorem dX4_ofQuestion_57 : decode cX4_ofQuestion 57 = .ok (.iconst 0, 1) := by decide +kernel
theorem dX4_ofQuestion_58 : decode cX4_ofQuestion 58 = .ok (.iadd, 1) := by decide +kernel
theorem dX4_ofQuestion_59 : decode cX4_ofQuestion 59 = .ok (.istore 4, 2) := by decide +kernel
theorem dX4_ofQuestion_61 : decode cX4_ofQuestion 61 = .ok (.iinc 5 1, 3) := by decide +kernel
theorem dX4_ofQuestion_64 : decode cX4_ofQuestion 64 = .ok (.goto (-29), 3) := by decide +kernel
theorem dX4_ofQuestion_67 : decode cX4_ofQuestion 67 = .ok (.iload 4, 2) := by decide +kernel
theorem dX4_ofQuestion_69 : decode cX4_ofQuestion 69 = .ok (.ireturn, 1) := by decide +kernel
theorem dX4_kinds_0 : decode cX4_kinds 0 = .ok (.aload_n 0, 1) := by decide +kernel
theorem dX4_kinds_1 : decode cX4_kinds 1 = .ok (.iload_n 1, 1) := by decide +kernel
theorem dX4_kinds_2 : decode cX4_kinds 2 = .ok (.iload_n 2, 1) := by decide +kernel
theorem dX4_kinds_3 : decode cX4_kinds 3 = .ok (.invokestatic 120, 3) := by decide +kernel
theorem dX4_kinds_6 : decode cX4_kinds 6 = .ok (.ifCond .ne 7, 3) := by decide +kernel
theorem dX4_kinds_9 : decode cX4_kinds 9 = .ok (.iconst 1, 1) := by decide +kernel
theorem dX4_kinds_10 : decode cX4_kinds 10 = .ok (.goto 4, 3) := by decide +kernel
theorem dX4_kinds_13 : decode cX4_kinds 13 = .ok (.iconst 0, 1) := by decide +kernel
theorem dX4_kinds_14 : decode cX4_kinds 14 = .ok (.invokevirtual 100, 3) := by decide +kernel
theorem dX4_kinds_17 : decode cX4_kinds 17 = .ok (.ifCond .eq 5, 3) := by decide +kernel
theorem dX4_kinds_20 : decode cX4_kinds 20 = .ok (.iconst 0, 1) := by decide +kernel
theorem dX4_kinds_21 : decode cX4_kinds 21 = .ok (.ireturn, 1) := by decide +kernel
theorem dX4_kinds_22 : decode cX4_kinds 22 = .ok (.iconst 0, 1) := by decide +kernel
theorem dX4_kinds_23 : decode cX4_kinds 23 = .ok (.istore_n 3, 1) := by decide +kernel
theorem dX4_kinds_24 : decode cX4_kinds 24 = .ok (.iload_n 1, 1) := by decide +kernel
theorem dX4_kinds_25 : decode cX4_kinds 25 = .ok (.istore 4, 2) := by decide +kernel
theorem dX4_kinds_27 : decode cX4_kinds 27 = .ok (.iload 4, 2) := by decide +kernel
theorem dX4_kinds_29 : decode cX4_kinds 29 = .ok (.iload_n 2, 1) := by decide +kernel
theorem dX4_kinds_30 : decode cX4_kinds 30 = .ok (.if_icmp .gt 21, 3) := by decide +kernel
theorem dX4_kinds_33 : decode cX4_kinds 33 = .ok (.iload_n 3, 1) := by decide +kernel
theorem dX4_kinds_34 : decode cX4_kinds 34 = .ok (.iconst 1, 1) := by decide +kernel
theorem dX4_kinds_35 : decode cX4_kinds 35 = .ok (.aload_n 0, 1) := by decide +kernel
theorem dX4_kinds_36 : decode cX4_kinds 36 = .ok (.getfield 7, 3) := by decide +kernel
theorem dX4_kinds_39 : decode cX4_kinds 39 = .ok (.iload 4, 2) := by decide +kernel
theorem dX4_kinds_41 : decode cX4_kinds 41 = .ok (.iaload, 1) := by decide +kernel
theorem dX4_kinds_42 : decode cX4_kinds 42 = .ok (.ishl, 1) := by decide +kernel
theorem dX4_kinds_43 : decode cX4_kinds 43 = .ok (.ior, 1) := by decide +kernel
theorem dX4_kinds_44 : decode cX4_kinds 44 = .ok (.istore_n 3, 1) := by decide +kernel
theorem dX4_kinds_45 : decode cX4_kinds 45 = .ok (.iinc 4 1, 3) := by decide +kernel
theorem dX4_kinds_48 : decode cX4_kinds 48 = .ok (.goto (-21), 3) := by decide +kernel
theorem dX4_kinds_51 : decode cX4_kinds 51 = .ok (.iload_n 3, 1) := by decide +kernel
theorem dX4_kinds_52 : decode cX4_kinds 52 = .ok (.ireturn, 1) := by decide +kernel
theorem dX4_both_0 : decode cX4_both 0 = .ok (.aload_n 0, 1) := by decide +kernel
theorem dX4_both_1 : decode cX4_both 1 = .ok (.iload_n 1, 1) := by decide +kernel
theorem dX4_both_2 : decode cX4_both 2 = .ok (.invokestatic 114, 3) := by decide +kernel
theorem dX4_both_5 : decode cX4_both 5 = .ok (.ifCond .eq 10, 3) := by decide +kernel
theorem dX4_both_8 : decode cX4_both 8 = .ok (.iload_n 2, 1) := by decide +kernel
theorem dX4_both_9 : decode cX4_both 9 = .ok (.invokestatic 107, 3) := by decide +kernel
theorem dX4_both_12 : decode cX4_both 12 = .ok (.ifCond .ne 7, 3) := by decide +kernel
theorem dX4_both_15 : decode cX4_both 15 = .ok (.iconst 1, 1) := by decide +kernel
theorem dX4_both_16 : decode cX4_both 16 = .ok (.goto 4, 3) := by decide +kernel
theorem dX4_both_19 : decode cX4_both 19 = .ok (.iconst 0, 1) := by decide +kernel
theorem dX4_both_20 : decode cX4_both 20 = .ok (.invokevirtual 100, 3) := by decide +kernel
theorem dX4_both_23 : decode cX4_both 23 = .ok (.ifCond .eq 5, 3) := by decide +kernel
theorem dX4_both_26 : decode cX4_both 26 = .ok (.iconst 0, 1) := by decide +kernel
theorem dX4_both_27 : decode cX4_both 27 = .ok (.ireturn, 1) := by decide +kernel
theorem dX4_both_28 : decode cX4_both 28 = .ok (.iconst 0, 1) := by decide +kernel
theorem dX4_both_29 : decode cX4_both 29 = .ok (.istore_n 3, 1) := by decide +kernel
theorem dX4_both_30 : decode cX4_both 30 = .ok (.iconst 0, 1) := by decide +kernel
theorem dX4_both_31 : decode cX4_both 31 = .ok (.istore 4, 2) := by decide +kernel
theorem dX4_both_33 : decode cX4_both 33 = .ok (.iload 4, 2) := by decide +kernel
theorem dX4_both_35 : decode cX4_both 35 = .ok (.sipush 256, 3) := by decide +kernel
theorem dX4_both_38 : decode cX4_both 38 = .ok (.if_icmp .ge 38, 3) := by decide +kernel
theorem dX4_both_41 : decode cX4_both 41 = .ok (.iload_n 3, 1) := by decide +kernel
theorem dX4_both_42 : decode cX4_both 42 = .ok (.aload_n 0, 1) := by decide +kernel
theorem dX4_both_43 : decode cX4_both 43 = .ok (.getfield 7, 3) := by decide +kernel
theorem dX4_both_46 : decode cX4_both 46 = .ok (.iload 4, 2) := by decide +kernel
theorem dX4_both_48 : decode cX4_both 48 = .ok (.iaload, 1) := by decide +kernel
theorem dX4_both_49 : decode cX4_both 49 = .ok (.iload_n 1, 1) := by decide +kernel
theorem dX4_both_50 : decode cX4_both 50 = .ok (.if_icmp .ne 17, 3) := by decide +kernel
theorem dX4_both_53 : decode cX4_both 53 = .ok (.aload_n 0, 1) := by decide +kernel
theorem dX4_both_54 : decode cX4_both 54 = .ok (.iload 4, 2) := by decide +kernel
theorem dX4_both_56 : decode cX4_both 56 = .ok (.iload_n 2, 1) := by decide +kernel
theorem dX4_both_57 : decode cX4_both 57 = .ok (.invokevirtual 45, 3) := by decide +kernel
theorem dX4_both_60 : decode cX4_both 60 = .ok (.ifCond .eq 7, 3) := by decide +kernel
theorem dX4_both_63 : decode cX4_both 63 = .ok (.iconst 1, 1) := by decide +kernel
theorem dX4_both_64 : decode cX4_both 64 = .ok (.goto 4, 3) := by decide +kernel
theorem dX4_both_67 : decode cX4_both 67 = .ok (.iconst 0, 1) := by decide +kernel
theorem dX4_both_68 : decode cX4_both 68 = .ok (.iadd, 1) := by decide +kernel
theorem dX4_both_69 : decode cX4_both 69 = .ok (.istore_n 3, 1) := by decide +kernel
theorem dX4_both_70 : decode cX4_both 70 = .ok (.iinc 4 1, 3) := by decide +kernel
theorem dX4_both_73 : decode cX4_both 73 = .ok (.goto (-40), 3) := by decide +kernel
theorem dX4_both_76 : decode cX4_both 76 = .ok (.iload_n 3, 1) := by decide +kernel
theorem dX4_both_77 : decode cX4_both 77 = .ok (.ireturn, 1) := by decide +kernel
theorem dX4_within_0 : decode cX4_within 0 = .ok (.aload_n 0, 1) := by decide +kernel
theorem dX4_within_1 : decode cX4_within 1 = .ok (.iload_n 1, 1) := by decide +kernel
theorem dX4_within_2 : decode cX4_within 2 = .ok (.invokestatic 107, 3) := by decide +kernel
theorem dX4_within_5 : decode cX4_within 5 = .ok (.ifCond .eq 10, 3) := by decide +kernel
theorem dX4_within_8 : decode cX4_within 8 = .ok (.iload_n 2, 1) := by decide +kernel
theorem dX4_within_9 : decode cX4_within 9 = .ok (.invokestatic 107, 3) := by decide +kernel
theorem dX4_within_12 : decode cX4_within 12 = .ok (.ifCond .ne 7, 3) := by decide +kernel
theorem dX4_within_15 : decode cX4_within 15 = .ok (.iconst 1, 1) := by decide +kernel
theorem dX4_within_16 : decode cX4_within 16 = .ok (.goto 4, 3) := by decide +kernel
theorem dX4_within_19 : decode cX4_within 19 = .ok (.iconst 0, 1) := by decide +kernel
theorem dX4_within_20 : decode cX4_within 20 = .ok (.invokevirtual 100, 3) := by decide +kernel
theorem dX4_within_23 : decode cX4_within 23 = .ok (.ifCond .eq 5, 3) := by decide +kernel
theorem dX4_within_26 : decode cX4_within 26 = .ok (.iconst 0, 1) := by decide +kernel
theorem dX4_within_27 : decode cX4_within 27 = .ok (.ireturn, 1) := by decide +kernel
theorem dX4_within_28 : decode cX4_within 28 = .ok (.iconst 0, 1) := by decide +kernel
theorem dX4_within_29 : decode cX4_within 29 = .ok (.istore_n 3, 1) := by decide +kernel
theorem dX4_within_30 : decode cX4_within 30 = .ok (.iload_n 3, 1) := by decide +kernel
theorem dX4_within_31 : decode cX4_within 31 = .ok (.sipush 256, 3) := by decide +kernel
theorem dX4_within_34 : decode cX4_within 34 = .ok (.if_icmp .ge 29, 3) := by decide +kernel
theorem dX4_within_37 : decode cX4_within 37 = .ok (.aload_n 0, 1) := by decide +kernel
theorem dX4_within_38 : decode cX4_within 38 = .ok (.iload_n 3, 1) := by decide +kernel
theorem dX4_within_39 : decode cX4_within 39 = .ok (.iload_n 1, 1) := by decide +kernel
theorem dX4_within_40 : decode cX4_within 40 = .ok (.invokevirtual 45, 3) := by decide +kernel
theorem dX4_within_43 : decode cX4_within 43 = .ok (.ifCond .eq 14, 3) := by decide +kernel
theorem dX4_within_46 : decode cX4_within 46 = .ok (.aload_n 0, 1) := by decide +kernel
theorem dX4_within_47 : decode cX4_within 47 = .ok (.iload_n 3, 1) := by decide +kernel
theorem dX4_within_48 : decode cX4_within 48 = .ok (.iload_n 2, 1) := by decide +kernel
theorem dX4_within_49 : decode cX4_within 49 = .ok (.invokevirtual 45, 3) := by decide +kernel
theorem dX4_within_52 : decode cX4_within 52 = .ok (.ifCond .ne 5, 3) := by decide +kernel
theorem dX4_within_55 : decode cX4_within 55 = .ok (.iconst 0, 1) := by decide +kernel
theorem dX4_within_56 : decode cX4_within 56 = .ok (.ireturn, 1) := by decide +kernel
theorem dX4_within_57 : decode cX4_within 57 = .ok (.iinc 3 1, 3) := by decide +kernel
theorem dX4_within_60 : decode cX4_within 60 = .ok (.goto (-30), 3) := by decide +kernel
theorem dX4_within_63 : decode cX4_within 63 = .ok (.iconst 1, 1) := by decide +kernel
theorem dX4_within_64 : decode cX4_within 64 = .ok (.ireturn, 1) := by decide +kernel
theorem dX4_differ_0 : decode cX4_differ 0 = .ok (.aload_n 0, 1) := by decide +kernel
theorem dX4_differ_1 : decode cX4_differ 1 = .ok (.iload_n 1, 1) := by decide +kernel
theorem dX4_differ_2 : decode cX4_differ 2 = .ok (.invokestatic 107, 3) := by decide +kernel
theorem dX4_differ_5 : decode cX4_differ 5 = .ok (.ifCond .eq 17, 3) := by decide +kernel
theorem dX4_differ_8 : decode cX4_differ 8 = .ok (.iload_n 2, 1) := by decide +kernel
theorem dX4_differ_9 : decode cX4_differ 9 = .ok (.invokestatic 107, 3) := by decide +kernel
theorem dX4_differ_12 : decode cX4_differ 12 = .ok (.ifCond .eq 10, 3) := by decide +kernel
theorem dX4_differ_15 : decode cX4_differ 15 = .ok (.iload_n 3, 1) := by decide +kernel
theorem dX4_differ_16 : decode cX4_differ 16 = .ok (.invokestatic 83, 3) := by decide +kernel
theorem dX4_differ_19 : decode cX4_differ 19 = .ok (.ifCond .ne 7, 3) := by decide +kernel
theorem dX4_differ_22 : decode cX4_differ 22 = .ok (.iconst 1, 1) := by decide +kernel
theorem dX4_differ_23 : decode cX4_differ 23 = .ok (.goto 4, 3) := by decide +kernel
theorem dX4_differ_26 : decode cX4_differ 26 = .ok (.iconst 0, 1) := by decide +kernel
theorem dX4_differ_27 : decode cX4_differ 27 = .ok (.invokevirtual 100, 3) := by decide +kernel
theorem dX4_differ_30 : decode cX4_differ 30 = .ok (.ifCond .eq 5, 3) := by decide +kernel
theorem dX4_differ_33 : decode cX4_differ 33 = .ok (.iconst 0, 1) := by decide +kernel
theorem dX4_differ_34 : decode cX4_differ 34 = .ok (.ireturn, 1) := by decide +kernel
theorem dX4_differ_35 : decode cX4_differ 35 = .ok (.iload_n 3, 1) := by decide +kernel
theorem dX4_differ_36 : decode cX4_differ 36 = .ok (.istore 4, 2) := by decide +kernel
theorem dX4_differ_38 : decode cX4_differ 38 = .ok (.iload 4, 2) := by decide +kernel
theorem dX4_differ_40 : decode cX4_differ 40 = .ok (.sipush 256, 3) := by decide +kernel
theorem dX4_differ_43 : decode cX4_differ 43 = .ok (.if_icmp .ge 29, 3) := by decide +kernel
theorem dX4_differ_46 : decode cX4_differ 46 = .ok (.aload_n 0, 1) := by decide +kernel
theorem dX4_differ_47 : decode cX4_differ 47 = .ok (.iload 4, 2) := by decide +kernel
theorem dX4_differ_49 : decode cX4_differ 49 = .ok (.iload_n 1, 1) := by decide +kernel
theorem dX4_differ_50 : decode cX4_differ 50 = .ok (.invokevirtual 45, 3) := by decide +kernel
theorem dX4_differ_53 : decode cX4_differ 53 = .ok (.aload_n 0, 1) := by decide +kernel
theorem dX4_differ_54 : decode cX4_differ 54 = .ok (.iload 4, 2) := by decide +kernel
theorem dX4_differ_56 : decode cX4_differ 56 = .ok (.iload_n 2, 1) := by decide +kernel
theorem dX4_differ_57 : decode cX4_differ 57 = .ok (.invokevirtual 45, 3) := by decide +kernel
theorem dX4_differ_60 : decode cX4_differ 60 = .ok (.if_icmp .eq 6, 3) := by decide +kernel
theorem dX4_differ_63 : decode cX4_differ 63 = .ok (.iload 4, 2) := by decide +kernel
theorem dX4_differ_65 : decode cX4_differ 65 = .ok (.ireturn, 1) := by decide +kernel
theorem dX4_differ_66 : decode cX4_differ 66 = .ok (.iinc 4 1, 3) := by decide +kernel
theorem dX4_differ_69 : decode cX4_differ 69 = .ok (.goto (-31), 3) := by decide +kernel
theorem dX4_differ_72 : decode cX4_differ 72 = .ok (.iconst (-1), 1) := by decide +kernel
theorem dX4_differ_73 : decode cX4_differ 73 = .ok (.ireturn, 1) := by decide +kernel
theorem dX4_length_0 : decode cX4_length 0 = .ok (.aload_n 0, 1) := by decide +kernel
theorem dX4_length_1 : decode cX4_length 1 = .ok (.iload_n 1, 1) := by decide +kernel
theorem dX4_length_2 : decode cX4_length 2 = .ok (.invokestatic 70, 3) := by decide +kernel
theorem dX4_length_5 : decode cX4_length 5 = .ok (.ifCond .ne 7, 3) := by decide +kernel
theorem dX4_length_8 : decode cX4_length 8 = .ok (.iconst 1, 1) := by decide +kernel
theorem dX4_length_9 : decode cX4_length 9 = .ok (.goto 4, 3) := by decide +kernel
theorem dX4_length_12 : decode cX4_length 12 = .ok (.iconst 0, 1) := by decide +kernel
theorem dX4_length_13 : decode cX4_length 13 = .ok (.invokevirtual 100, 3) := by decide +kernel
theorem dX4_length_16 : decode cX4_length 16 = .ok (.ifCond .eq 7, 3) := by decide +kernel
theorem dX4_length_19 : decode cX4_length 19 = .ok (.iconst 0, 1) := by decide +kernel
theorem dX4_length_20 : decode cX4_length 20 = .ok (.goto 9, 3) := by decide +kernel
theorem dX4_length_23 : decode cX4_length 23 = .ok (.aload_n 0, 1) := by decide +kernel
theorem dX4_length_24 : decode cX4_length 24 = .ok (.getfield 18, 3) := by decide +kernel
theorem dX4_length_27 : decode cX4_length 27 = .ok (.iload_n 1, 1) := by decide +kernel
theorem dX4_length_28 : decode cX4_length 28 = .ok (.iaload, 1) := by decide +kernel
theorem dX4_length_29 : decode cX4_length 29 = .ok (.ireturn, 1) := by decide +kernel
theorem dX4_sign_0 : decode cX4_sign 0 = .ok (.aload_n 0, 1) := by decide +kernel
theorem dX4_sign_1 : decode cX4_sign 1 = .ok (.aload_n 0, 1) := by decide +kernel
theorem dX4_sign_2 : decode cX4_sign 2 = .ok (.iload_n 1, 1) := by decide +kernel
theorem dX4_sign_3 : decode cX4_sign 3 = .ok (.iload_n 2, 1) := by decide +kernel
theorem dX4_sign_4 : decode cX4_sign 4 = .ok (.invokevirtual 89, 3) := by decide +kernel
theorem dX4_sign_7 : decode cX4_sign 7 = .ok (.ifCond .ne 7, 3) := by decide +kernel
theorem dX4_sign_10 : decode cX4_sign 10 = .ok (.iconst 1, 1) := by decide +kernel
theorem dX4_sign_11 : decode cX4_sign 11 = .ok (.goto 4, 3) := by decide +kernel
theorem dX4_sign_14 : decode cX4_sign 14 = .ok (.iconst 0, 1) := by decide +kernel
theorem dX4_sign_15 : decode cX4_sign 15 = .ok (.invokevirtual 100, 3) := by decide +kernel
theorem dX4_sign_18 : decode cX4_sign 18 = .ok (.ifCond .eq 7, 3) := by decide +kernel
theorem dX4_sign_21 : decode cX4_sign 21 = .ok (.iconst 0, 1) := by decide +kernel
theorem dX4_sign_22 : decode cX4_sign 22 = .ok (.goto 11, 3) := by decide +kernel
theorem dX4_sign_25 : decode cX4_sign 25 = .ok (.aload_n 0, 1) := by decide +kernel
theorem dX4_sign_26 : decode cX4_sign 26 = .ok (.getfield 15, 3) := by decide +kernel
theorem dX4_sign_29 : decode cX4_sign 29 = .ok (.iload_n 1, 1) := by decide +kernel
theorem dX4_sign_30 : decode cX4_sign 30 = .ok (.aaload, 1) := by decide +kernel
theorem dX4_sign_31 : decode cX4_sign 31 = .ok (.iload_n 2, 1) := by decide +kernel
theorem dX4_sign_32 : decode cX4_sign 32 = .ok (.iaload, 1) := by decide +kernel
theorem dX4_sign_33 : decode cX4_sign 33 = .ok (.ireturn, 1) := by decide +kernel
theorem dX4_joined_0 : decode cX4_joined 0 = .ok (.new 123, 3) := by decide +kernel
theorem dX4_joined_3 : decode cX4_joined 3 = .ok (.dup, 1) := by decide +kernel
theorem dX4_joined_4 : decode cX4_joined 4 = .ok (.invokespecial 125, 3) := by decide +kernel
theorem dX4_joined_7 : decode cX4_joined 7 = .ok (.astore_n 3, 1) := by decide +kernel
theorem dX4_joined_8 : decode cX4_joined 8 = .ok (.iconst 0, 1) := by decide +kernel
theorem dX4_joined_9 : decode cX4_joined 9 = .ok (.istore 4, 2) := by decide +kernel
theorem dX4_joined_11 : decode cX4_joined 11 = .ok (.iload 4, 2) := by decide +kernel
theorem dX4_joined_13 : decode cX4_joined 13 = .ok (.aload_n 0, 1) := by decide +kernel
theorem dX4_joined_14 : decode cX4_joined 14 = .ok (.getfield 18, 3) := by decide +kernel
theorem dX4_joined_17 : decode cX4_joined 17 = .ok (.iload_n 1, 1) := by decide +kernel
theorem dX4_joined_18 : decode cX4_joined 18 = .ok (.iaload, 1) := by decide +kernel
theorem dX4_joined_19 : decode cX4_joined 19 = .ok (.if_icmp .ge 59, 3) := by decide +kernel
theorem dX4_joined_22 : decode cX4_joined 22 = .ok (.aload_n 3, 1) := by decide +kernel
theorem dX4_joined_23 : decode cX4_joined 23 = .ok (.iload 4, 2) := by decide +kernel
theorem dX4_joined_25 : decode cX4_joined 25 = .ok (.ifCond .ne 8, 3) := by decide +kernel
theorem dX4_joined_28 : decode cX4_joined 28 = .ok (.ldc 126, 2) := by decide +kernel
theorem dX4_joined_30 : decode cX4_joined 30 = .ok (.goto 5, 3) := by decide +kernel
theorem dX4_joined_33 : decode cX4_joined 33 = .ok (.ldc 128, 2) := by decide +kernel
theorem dX4_joined_35 : decode cX4_joined 35 = .ok (.invokevirtual 130, 3) := by decide +kernel
theorem dX4_joined_38 : decode cX4_joined 38 = .ok (.iload_n 2, 1) := by decide +kernel
theorem dX4_joined_39 : decode cX4_joined 39 = .ok (.ifCond .eq 20, 3) := by decide +kernel
theorem dX4_joined_42 : decode cX4_joined 42 = .ok (.aload_n 0, 1) := by decide +kernel
theorem dX4_joined_43 : decode cX4_joined 43 = .ok (.getfield 7, 3) := by decide +kernel
theorem dX4_joined_46 : decode cX4_joined 46 = .ok (.aload_n 0, 1) := by decide +kernel
theorem dX4_joined_47 : decode cX4_joined 47 = .ok (.getfield 15, 3) := by decide +kernel
theorem dX4_joined_50 : decode cX4_joined 50 = .ok (.iload_n 1, 1) := by decide +kernel
theorem dX4_joined_51 : decode cX4_joined 51 = .ok (.aaload, 1) := by decide +kernel
theorem dX4_joined_52 : decode cX4_joined 52 = .ok (.iload 4, 2) := by decide +kernel
theorem dX4_joined_54 : decode cX4_joined 54 = .ok (.iaload, 1) := by decide +kernel
theorem dX4_joined_55 : decode cX4_joined 55 = .ok (.iaload, 1) := by decide +kernel
theorem dX4_joined_56 : decode cX4_joined 56 = .ok (.goto 12, 3) := by decide +kernel
theorem dX4_joined_59 : decode cX4_joined 59 = .ok (.aload_n 0, 1) := by decide +kernel
theorem dX4_joined_60 : decode cX4_joined 60 = .ok (.getfield 15, 3) := by decide +kernel
theorem dX4_joined_63 : decode cX4_joined 63 = .ok (.iload_n 1, 1) := by decide +kernel
theorem dX4_joined_64 : decode cX4_joined 64 = .ok (.aaload, 1) := by decide +kernel
theorem dX4_joined_65 : decode cX4_joined 65 = .ok (.iload 4, 2) := by decide +kernel
theorem dX4_joined_67 : decode cX4_joined 67 = .ok (.iaload, 1) := by decide +kernel
theorem dX4_joined_68 : decode cX4_joined 68 = .ok (.invokevirtual 134, 3) := by decide +kernel
theorem dX4_joined_71 : decode cX4_joined 71 = .ok (.pop, 1) := by decide +kernel
theorem dX4_joined_72 : decode cX4_joined 72 = .ok (.iinc 4 1, 3) := by decide +kernel
theorem dX4_joined_75 : decode cX4_joined 75 = .ok (.goto (-64), 3) := by decide +kernel
theorem dX4_joined_78 : decode cX4_joined 78 = .ok (.aload_n 3, 1) := by decide +kernel
theorem dX4_joined_79 : decode cX4_joined 79 = .ok (.invokevirtual 137, 3) := by decide +kernel
theorem dX4_joined_82 : decode cX4_joined 82 = .ok (.areturn, 1) := by decide +kernel
theorem dX4_signs_0 : decode cX4_signs 0 = .ok (.aload_n 0, 1) := by decide +kernel
theorem dX4_signs_1 : decode cX4_signs 1 = .ok (.iload_n 1, 1) := by decide +kernel
theorem dX4_signs_2 : decode cX4_signs 2 = .ok (.invokestatic 70, 3) := by decide +kernel
theorem dX4_signs_5 : decode cX4_signs 5 = .ok (.ifCond .ne 7, 3) := by decide +kernel
theorem dX4_signs_8 : decode cX4_signs 8 = .ok (.iconst 1, 1) := by decide +kernel
theorem dX4_signs_9 : decode cX4_signs 9 = .ok (.goto 4, 3) := by decide +kernel
theorem dX4_signs_12 : decode cX4_signs 12 = .ok (.iconst 0, 1) := by decide +kernel
theorem dX4_signs_13 : decode cX4_signs 13 = .ok (.invokevirtual 100, 3) := by decide +kernel
theorem dX4_signs_16 : decode cX4_signs 16 = .ok (.ifCond .eq 8, 3) := by decide +kernel
theorem dX4_signs_19 : decode cX4_signs 19 = .ok (.ldc 126, 2) := by decide +kernel
theorem dX4_signs_21 : decode cX4_signs 21 = .ok (.goto 9, 3) := by decide +kernel
theorem dX4_signs_24 : decode cX4_signs 24 = .ok (.aload_n 0, 1) := by decide +kernel
theorem dX4_signs_25 : decode cX4_signs 25 = .ok (.iload_n 1, 1) := by decide +kernel
theorem dX4_signs_26 : decode cX4_signs 26 = .ok (.iconst 0, 1) := by decide +kernel
theorem dX4_signs_27 : decode cX4_signs 27 = .ok (.invokevirtual 141, 3) := by decide +kernel
theorem dX4_signs_30 : decode cX4_signs 30 = .ok (.areturn, 1) := by decide +kernel
theorem dX4_kindsOf_0 : decode cX4_kindsOf 0 = .ok (.aload_n 0, 1) := by decide +kernel
theorem dX4_kindsOf_1 : decode cX4_kindsOf 1 = .ok (.iload_n 1, 1) := by decide +kernel
theorem dX4_kindsOf_2 : decode cX4_kindsOf 2 = .ok (.invokestatic 70, 3) := by decide +kernel
theorem dX4_kindsOf_5 : decode cX4_kindsOf 5 = .ok (.ifCond .ne 7, 3) := by decide +kernel
theorem dX4_kindsOf_8 : decode cX4_kindsOf 8 = .ok (.iconst 1, 1) := by decide +kernel
theorem dX4_kindsOf_9 : decode cX4_kindsOf 9 = .ok (.goto 4, 3) := by decide +kernel
theorem dX4_kindsOf_12 : decode cX4_kindsOf 12 = .ok (.iconst 0, 1) := by decide +kernel
theorem dX4_kindsOf_13 : decode cX4_kindsOf 13 = .ok (.invokevirtual 100, 3) := by decide +kernel
theorem dX4_kindsOf_16 : decode cX4_kindsOf 16 = .ok (.ifCond .eq 8, 3) := by decide +kernel
theorem dX4_kindsOf_19 : decode cX4_kindsOf 19 = .ok (.ldc 126, 2) := by decide +kernel
theorem dX4_kindsOf_21 : decode cX4_kindsOf 21 = .ok (.goto 9, 3) := by decide +kernel
theorem dX4_kindsOf_24 : decode cX4_kindsOf 24 = .ok (.aload_n 0, 1) := by decide +kernel
theorem dX4_kindsOf_25 : decode cX4_kindsOf 25 = .ok (.iload_n 1, 1) := by decide +kernel
theorem dX4_kindsOf_26 : decode cX4_kindsOf 26 = .ok (.iconst 1, 1) := by decide +kernel
theorem dX4_kindsOf_27 : decode cX4_kindsOf 27 = .ok (.invokevirtual 141, 3) := by decide +kernel
theorem dX4_kindsOf_30 : decode cX4_kindsOf 30 = .ok (.areturn, 1) := by decide +kernel
theorem dX4_countOf_0 : decode cX4_countOf 0 = .ok (.iconst 0, 1) := by decide +kernel
theorem dX4_countOf_1 : decode cX4_countOf 1 = .ok (.istore_n 3, 1) := by decide +kernel
theorem dX4_countOf_2 : decode cX4_countOf 2 = .ok (.iconst 0, 1) := by decide +kernel
theorem dX4_countOf_3 : decode cX4_countOf 3 = .ok (.istore 4, 2) := by decide +kernel
theorem dX4_countOf_5 : decode cX4_countOf 5 = .ok (.iload 4, 2) := by decide +kernel
theorem dX4_countOf_7 : decode cX4_countOf 7 = .ok (.aload_n 0, 1) := by decide +kernel
theorem dX4_countOf_8 : decode cX4_countOf 8 = .ok (.getfield 18, 3) := by decide +kernel
theorem dX4_countOf_11 : decode cX4_countOf 11 = .ok (.iload_n 1, 1) := by decide +kernel
theorem dX4_countOf_12 : decode cX4_countOf 12 = .ok (.iaload, 1) := by decide +kernel
theorem dX4_countOf_13 : decode cX4_countOf 13 = .ok (.if_icmp .ge 34, 3) := by decide +kernel
theorem dX4_countOf_16 : decode cX4_countOf 16 = .ok (.iload_n 3, 1) := by decide +kernel
theorem dX4_countOf_17 : decode cX4_countOf 17 = .ok (.aload_n 0, 1) := by decide +kernel
theorem dX4_countOf_18 : decode cX4_countOf 18 = .ok (.aload_n 0, 1) := by decide +kernel
theorem dX4_countOf_19 : decode cX4_countOf 19 = .ok (.getfield 15, 3) := by decide +kernel
theorem dX4_countOf_22 : decode cX4_countOf 22 = .ok (.iload_n 1, 1) := by decide +kernel
theorem dX4_countOf_23 : decode cX4_countOf 23 = .ok (.aaload, 1) := by decide +kernel
theorem dX4_countOf_24 : decode cX4_countOf 24 = .ok (.iload 4, 2) := by decide +kernel
theorem dX4_countOf_26 : decode cX4_countOf 26 = .ok (.iaload, 1) := by decide +kernel
theorem dX4_countOf_27 : decode cX4_countOf 27 = .ok (.iload_n 2, 1) := by decide +kernel
theorem dX4_countOf_28 : decode cX4_countOf 28 = .ok (.invokevirtual 45, 3) := by decide +kernel
theorem dX4_countOf_31 : decode cX4_countOf 31 = .ok (.ifCond .eq 7, 3) := by decide +kernel
theorem dX4_countOf_34 : decode cX4_countOf 34 = .ok (.iconst 1, 1) := by decide +kernel
theorem dX4_countOf_35 : decode cX4_countOf 35 = .ok (.goto 4, 3) := by decide +kernel
theorem dX4_countOf_38 : decode cX4_countOf 38 = .ok (.iconst 0, 1) := by decide +kernel
theorem dX4_countOf_39 : decode cX4_countOf 39 = .ok (.iadd, 1) := by decide +kernel
theorem dX4_countOf_40 : decode cX4_countOf 40 = .ok (.istore_n 3, 1) := by decide +kernel
theorem dX4_countOf_41 : decode cX4_countOf 41 = .ok (.iinc 4 1, 3) := by decide +kernel
theorem dX4_countOf_44 : decode cX4_countOf 44 = .ok (.goto (-39), 3) := by decide +kernel
theorem dX4_countOf_47 : decode cX4_countOf 47 = .ok (.iload_n 3, 1) := by decide +kernel
theorem dX4_countOf_48 : decode cX4_countOf 48 = .ok (.ireturn, 1) := by decide +kernel
theorem dX4_count_0 : decode cX4_count 0 = .ok (.aload_n 0, 1) := by decide +kernel
theorem dX4_count_1 : decode cX4_count 1 = .ok (.iload_n 1, 1) := by decide +kernel
theorem dX4_count_2 : decode cX4_count 2 = .ok (.invokestatic 70, 3) := by decide +kernel
theorem dX4_count_5 : decode cX4_count 5 = .ok (.ifCond .ne 7, 3) := by decide +kernel
theorem dX4_count_8 : decode cX4_count 8 = .ok (.iconst 1, 1) := by decide +kernel
theorem dX4_count_9 : decode cX4_count 9 = .ok (.goto 4, 3) := by decide +kernel
theorem dX4_count_12 : decode cX4_count 12 = .ok (.iconst 0, 1) := by decide +kernel
theorem dX4_count_13 : decode cX4_count 13 = .ok (.iload_n 2, 1) := by decide +kernel
theorem dX4_count_14 : decode cX4_count 14 = .ok (.invokestatic 107, 3) := by decide +kernel
theorem dX4_count_17 : decode cX4_count 17 = .ok (.ifCond .ne 7, 3) := by decide +kernel
theorem dX4_count_20 : decode cX4_count 20 = .ok (.iconst 1, 1) := by decide +kernel
theorem dX4_count_21 : decode cX4_count 21 = .ok (.goto 4, 3) := by decide +kernel
theorem dX4_count_24 : decode cX4_count 24 = .ok (.iconst 0, 1) := by decide +kernel
theorem dX4_count_25 : decode cX4_count 25 = .ok (.invokevirtual 73, 3) := by decide +kernel
theorem dX4_count_28 : decode cX4_count 28 = .ok (.ifCond .eq 7, 3) := by decide +kernel
theorem dX4_count_31 : decode cX4_count 31 = .ok (.iconst 0, 1) := by decide +kernel
theorem dX4_count_32 : decode cX4_count 32 = .ok (.goto 9, 3) := by decide +kernel
theorem dX4_count_35 : decode cX4_count 35 = .ok (.aload_n 0, 1) := by decide +kernel
theorem dX4_count_36 : decode cX4_count 36 = .ok (.iload_n 1, 1) := by decide +kernel
theorem dX4_count_37 : decode cX4_count 37 = .ok (.iload_n 2, 1) := by decide +kernel
theorem dX4_count_38 : decode cX4_count 38 = .ok (.invokevirtual 145, 3) := by decide +kernel
theorem dX4_count_41 : decode cX4_count 41 = .ok (.ireturn, 1) := by decide +kernel
theorem dX4_countKind_0 : decode cX4_countKind 0 = .ok (.aload_n 0, 1) := by decide +kernel
theorem dX4_countKind_1 : decode cX4_countKind 1 = .ok (.iload_n 1, 1) := by decide +kernel
theorem dX4_countKind_2 : decode cX4_countKind 2 = .ok (.invokestatic 70, 3) := by decide +kernel
theorem dX4_countKind_5 : decode cX4_countKind 5 = .ok (.ifCond .ne 7, 3) := by decide +kernel
theorem dX4_countKind_8 : decode cX4_countKind 8 = .ok (.iconst 1, 1) := by decide +kernel
theorem dX4_countKind_9 : decode cX4_countKind 9 = .ok (.goto 4, 3) := by decide +kernel
theorem dX4_countKind_12 : decode cX4_countKind 12 = .ok (.iconst 0, 1) := by decide +kernel
theorem dX4_countKind_13 : decode cX4_countKind 13 = .ok (.iload_n 2, 1) := by decide +kernel
theorem dX4_countKind_14 : decode cX4_countKind 14 = .ok (.invokestatic 114, 3) := by decide +kernel
theorem dX4_countKind_17 : decode cX4_countKind 17 = .ok (.ifCond .ne 7, 3) := by decide +kernel
theorem dX4_countKind_20 : decode cX4_countKind 20 = .ok (.iconst 1, 1) := by decide +kernel
theorem dX4_countKind_21 : decode cX4_countKind 21 = .ok (.goto 4, 3) := by decide +kernel
theorem dX4_countKind_24 : decode cX4_countKind 24 = .ok (.iconst 0, 1) := by decide +kernel
theorem dX4_countKind_25 : decode cX4_countKind 25 = .ok (.invokevirtual 73, 3) := by decide +kernel
theorem dX4_countKind_28 : decode cX4_countKind 28 = .ok (.ifCond .eq 5, 3) := by decide +kernel
theorem dX4_countKind_31 : decode cX4_countKind 31 = .ok (.iconst 0, 1) := by decide +kernel
theorem dX4_countKind_32 : decode cX4_countKind 32 = .ok (.ireturn, 1) := by decide +kernel
theorem dX4_countKind_33 : decode cX4_countKind 33 = .ok (.iconst 0, 1) := by decide +kernel
theorem dX4_countKind_34 : decode cX4_countKind 34 = .ok (.istore_n 3, 1) := by decide +kernel
theorem dX4_countKind_35 : decode cX4_countKind 35 = .ok (.iconst 0, 1) := by decide +kernel
theorem dX4_countKind_36 : decode cX4_countKind 36 = .ok (.istore 4, 2) := by decide +kernel
theorem dX4_countKind_38 : decode cX4_countKind 38 = .ok (.iload 4, 2) := by decide +kernel
theorem dX4_countKind_40 : decode cX4_countKind 40 = .ok (.aload_n 0, 1) := by decide +kernel
theorem dX4_countKind_41 : decode cX4_countKind 41 = .ok (.getfield 18, 3) := by decide +kernel
theorem dX4_countKind_44 : decode cX4_countKind 44 = .ok (.iload_n 1, 1) := by decide +kernel
theorem dX4_countKind_45 : decode cX4_countKind 45 = .ok (.iaload, 1) := by decide +kernel
theorem dX4_countKind_46 : decode cX4_countKind 46 = .ok (.if_icmp .ge 35, 3) := by decide +kernel
theorem dX4_countKind_49 : decode cX4_countKind 49 = .ok (.iload_n 3, 1) := by decide +kernel
theorem dX4_countKind_50 : decode cX4_countKind 50 = .ok (.aload_n 0, 1) := by decide +kernel
theorem dX4_countKind_51 : decode cX4_countKind 51 = .ok (.getfield 7, 3) := by decide +kernel
theorem dX4_countKind_54 : decode cX4_countKind 54 = .ok (.aload_n 0, 1) := by decide +kernel
theorem dX4_countKind_55 : decode cX4_countKind 55 = .ok (.getfield 15, 3) := by decide +kernel
theorem dX4_countKind_58 : decode cX4_countKind 58 = .ok (.iload_n 1, 1) := by decide +kernel
theorem dX4_countKind_59 : decode cX4_countKind 59 = .ok (.aaload, 1) := by decide +kernel
theorem dX4_countKind_60 : decode cX4_countKind 60 = .ok (.iload 4, 2) := by decide +kernel
theorem dX4_countKind_62 : decode cX4_countKind 62 = .ok (.iaload, 1) := by decide +kernel
theorem dX4_countKind_63 : decode cX4_countKind 63 = .ok (.iaload, 1) := by decide +kernel
theorem dX4_countKind_64 : decode cX4_countKind 64 = .ok (.iload_n 2, 1) := by decide +kernel
theorem dX4_countKind_65 : decode cX4_countKind 65 = .ok (.if_icmp .ne 7, 3) := by decide +kernel
theorem dX4_countKind_68 : decode cX4_countKind 68 = .ok (.iconst 1, 1) := by decide +kernel
theorem dX4_countKind_69 : decode cX4_countKind 69 = .ok (.goto 4, 3) := by decide +kernel
theorem dX4_countKind_72 : decode cX4_countKind 72 = .ok (.iconst 0, 1) := by decide +kernel
theorem dX4_countKind_73 : decode cX4_countKind 73 = .ok (.iadd, 1) := by decide +kernel
theorem dX4_countKind_74 : decode cX4_countKind 74 = .ok (.istore_n 3, 1) := by decide +kernel
theorem dX4_countKind_75 : decode cX4_countKind 75 = .ok (.iinc 4 1, 3) := by decide +kernel
theorem dX4_countKind_78 : decode cX4_countKind 78 = .ok (.goto (-40), 3) := by decide +kernel
theorem dX4_countKind_81 : decode cX4_countKind 81 = .ok (.iload_n 3, 1) := by decide +kernel
theorem dX4_countKind_82 : decode cX4_countKind 82 = .ok (.ireturn, 1) := by decide +kernel
theorem dX4_isAll_0 : decode cX4_isAll 0 = .ok (.aload_n 0, 1) := by decide +kernel
theorem dX4_isAll_1 : decode cX4_isAll 1 = .ok (.iload_n 1, 1) := by decide +kernel
theorem dX4_isAll_2 : decode cX4_isAll 2 = .ok (.invokestatic 70, 3) := by decide +kernel
theorem dX4_isAll_5 : decode cX4_isAll 5 = .ok (.ifCond .ne 7, 3) := by decide +kernel
theorem dX4_isAll_8 : decode cX4_isAll 8 = .ok (.iconst 1, 1) := by decide +kernel
theorem dX4_isAll_9 : decode cX4_isAll 9 = .ok (.goto 4, 3) := by decide +kernel
theorem dX4_isAll_12 : decode cX4_isAll 12 = .ok (.iconst 0, 1) := by decide +kernel
theorem dX4_isAll_13 : decode cX4_isAll 13 = .ok (.iload_n 2, 1) := by decide +kernel
theorem dX4_isAll_14 : decode cX4_isAll 14 = .ok (.invokestatic 107, 3) := by decide +kernel
theorem dX4_isAll_17 : decode cX4_isAll 17 = .ok (.ifCond .ne 7, 3) := by decide +kernel
theorem dX4_isAll_20 : decode cX4_isAll 20 = .ok (.iconst 1, 1) := by decide +kernel
theorem dX4_isAll_21 : decode cX4_isAll 21 = .ok (.goto 4, 3) := by decide +kernel
theorem dX4_isAll_24 : decode cX4_isAll 24 = .ok (.iconst 0, 1) := by decide +kernel
theorem dX4_isAll_25 : decode cX4_isAll 25 = .ok (.invokevirtual 73, 3) := by decide +kernel
theorem dX4_isAll_28 : decode cX4_isAll 28 = .ok (.ifCond .ne 23, 3) := by decide +kernel
theorem dX4_isAll_31 : decode cX4_isAll 31 = .ok (.aload_n 0, 1) := by decide +kernel
theorem dX4_isAll_32 : decode cX4_isAll 32 = .ok (.iload_n 1, 1) := by decide +kernel
theorem dX4_isAll_33 : decode cX4_isAll 33 = .ok (.iconst 0, 1) := by decide +kernel
theorem dX4_isAll_34 : decode cX4_isAll 34 = .ok (.aload_n 0, 1) := by decide +kernel
theorem dX4_isAll_35 : decode cX4_isAll 35 = .ok (.getfield 18, 3) := by decide +kernel
theorem dX4_isAll_38 : decode cX4_isAll 38 = .ok (.iload_n 1, 1) := by decide +kernel
theorem dX4_isAll_39 : decode cX4_isAll 39 = .ok (.iaload, 1) := by decide +kernel
theorem dX4_isAll_40 : decode cX4_isAll 40 = .ok (.iload_n 2, 1) := by decide +kernel
theorem dX4_isAll_41 : decode cX4_isAll 41 = .ok (.invokevirtual 49, 3) := by decide +kernel
theorem dX4_isAll_44 : decode cX4_isAll 44 = .ok (.ifCond .eq 7, 3) := by decide +kernel
theorem dX4_isAll_47 : decode cX4_isAll 47 = .ok (.iconst 1, 1) := by decide +kernel
theorem dX4_isAll_48 : decode cX4_isAll 48 = .ok (.goto 4, 3) := by decide +kernel
theorem dX4_isAll_51 : decode cX4_isAll 51 = .ok (.iconst 0, 1) := by decide +kernel
theorem dX4_isAll_52 : decode cX4_isAll 52 = .ok (.ireturn, 1) := by decide +kernel
theorem dX4_first_0 : decode cX4_first 0 = .ok (.aload_n 0, 1) := by decide +kernel
theorem dX4_first_1 : decode cX4_first 1 = .ok (.iload_n 1, 1) := by decide +kernel
theorem dX4_first_2 : decode cX4_first 2 = .ok (.invokestatic 70, 3) := by decide +kernel
theorem dX4_first_5 : decode cX4_first 5 = .ok (.ifCond .ne 7, 3) := by decide +kernel
theorem dX4_first_8 : decode cX4_first 8 = .ok (.iconst 1, 1) := by decide +kernel
theorem dX4_first_9 : decode cX4_first 9 = .ok (.goto 4, 3) := by decide +kernel
theorem dX4_first_12 : decode cX4_first 12 = .ok (.iconst 0, 1) := by decide +kernel
theorem dX4_first_13 : decode cX4_first 13 = .ok (.iload_n 2, 1) := by decide +kernel
theorem dX4_first_14 : decode cX4_first 14 = .ok (.invokestatic 107, 3) := by decide +kernel
theorem dX4_first_17 : decode cX4_first 17 = .ok (.ifCond .ne 7, 3) := by decide +kernel
theorem dX4_first_20 : decode cX4_first 20 = .ok (.iconst 1, 1) := by decide +kernel
theorem dX4_first_21 : decode cX4_first 21 = .ok (.goto 4, 3) := by decide +kernel
theorem dX4_first_24 : decode cX4_first 24 = .ok (.iconst 0, 1) := by decide +kernel
theorem dX4_first_25 : decode cX4_first 25 = .ok (.invokevirtual 73, 3) := by decide +kernel
theorem dX4_first_28 : decode cX4_first 28 = .ok (.ifCond .eq 5, 3) := by decide +kernel
theorem dX4_first_31 : decode cX4_first 31 = .ok (.iconst 0, 1) := by decide +kernel
theorem dX4_first_32 : decode cX4_first 32 = .ok (.ireturn, 1) := by decide +kernel
theorem dX4_first_33 : decode cX4_first 33 = .ok (.iconst (-1), 1) := by decide +kernel
theorem dX4_first_34 : decode cX4_first 34 = .ok (.istore 4, 2) := by decide +kernel
theorem dX4_first_36 : decode cX4_first 36 = .ok (.iconst 0, 1) := by decide +kernel
theorem dX4_first_37 : decode cX4_first 37 = .ok (.istore 5, 2) := by decide +kernel
theorem dX4_first_39 : decode cX4_first 39 = .ok (.iload 5, 2) := by decide +kernel
theorem dX4_first_41 : decode cX4_first 41 = .ok (.aload_n 0, 1) := by decide +kernel
theorem dX4_first_42 : decode cX4_first 42 = .ok (.getfield 18, 3) := by decide +kernel
theorem dX4_first_45 : decode cX4_first 45 = .ok (.iload_n 1, 1) := by decide +kernel
theorem dX4_first_46 : decode cX4_first 46 = .ok (.iaload, 1) := by decide +kernel
theorem dX4_first_47 : decode cX4_first 47 = .ok (.if_icmp .ge 39, 3) := by decide +kernel
theorem dX4_first_50 : decode cX4_first 50 = .ok (.aload_n 0, 1) := by decide +kernel
theorem dX4_first_51 : decode cX4_first 51 = .ok (.aload_n 0, 1) := by decide +kernel
theorem dX4_first_52 : decode cX4_first 52 = .ok (.getfield 15, 3) := by decide +kernel
theorem dX4_first_55 : decode cX4_first 55 = .ok (.iload_n 1, 1) := by decide +kernel
theorem dX4_first_56 : decode cX4_first 56 = .ok (.aaload, 1) := by decide +kernel
theorem dX4_first_57 : decode cX4_first 57 = .ok (.iload 5, 2) := by decide +kernel
theorem dX4_first_59 : decode cX4_first 59 = .ok (.iaload, 1) := by decide +kernel
theorem dX4_first_60 : decode cX4_first 60 = .ok (.iload_n 2, 1) := by decide +kernel
theorem dX4_first_61 : decode cX4_first 61 = .ok (.invokevirtual 45, 3) := by decide +kernel
theorem dX4_first_64 : decode cX4_first 64 = .ok (.ifCond .eq 16, 3) := by decide +kernel
theorem dX4_first_67 : decode cX4_first 67 = .ok (.iload_n 3, 1) := by decide +kernel
theorem dX4_first_68 : decode cX4_first 68 = .ok (.ifCond .ne 8, 3) := by decide +kernel
theorem dX4_first_71 : decode cX4_first 71 = .ok (.iload 4, 2) := by decide +kernel
theorem dX4_first_73 : decode cX4_first 73 = .ok (.ifCond .ge 7, 3) := by decide +kernel
theorem dX4_first_76 : decode cX4_first 76 = .ok (.iload 5, 2) := by decide +kernel
theorem dX4_first_78 : decode cX4_first 78 = .ok (.istore 4, 2) := by decide +kernel
theorem dX4_first_80 : decode cX4_first 80 = .ok (.iinc 5 1, 3) := by decide +kernel
theorem dX4_first_83 : decode cX4_first 83 = .ok (.goto (-44), 3) := by decide +kernel
theorem dX4_first_86 : decode cX4_first 86 = .ok (.iload 4, 2) := by decide +kernel
theorem dX4_first_88 : decode cX4_first 88 = .ok (.ireturn, 1) := by decide +kernel
theorem dX4_alike_0 : decode cX4_alike 0 = .ok (.aload_n 0, 1) := by decide +kernel
theorem dX4_alike_1 : decode cX4_alike 1 = .ok (.iload_n 1, 1) := by decide +kernel
theorem dX4_alike_2 : decode cX4_alike 2 = .ok (.invokestatic 70, 3) := by decide +kernel
theorem dX4_alike_5 : decode cX4_alike 5 = .ok (.ifCond .eq 10, 3) := by decide +kernel
theorem dX4_alike_8 : decode cX4_alike 8 = .ok (.iload_n 2, 1) := by decide +kernel
theorem dX4_alike_9 : decode cX4_alike 9 = .ok (.invokestatic 70, 3) := by decide +kernel
theorem dX4_alike_12 : decode cX4_alike 12 = .ok (.ifCond .ne 7, 3) := by decide +kernel
theorem dX4_alike_15 : decode cX4_alike 15 = .ok (.iconst 1, 1) := by decide +kernel
theorem dX4_alike_16 : decode cX4_alike 16 = .ok (.goto 4, 3) := by decide +kernel
theorem dX4_alike_19 : decode cX4_alike 19 = .ok (.iconst 0, 1) := by decide +kernel
theorem dX4_alike_20 : decode cX4_alike 20 = .ok (.invokevirtual 100, 3) := by decide +kernel
theorem dX4_alike_23 : decode cX4_alike 23 = .ok (.ifCond .ne 18, 3) := by decide +kernel
theorem dX4_alike_26 : decode cX4_alike 26 = .ok (.aload_n 0, 1) := by decide +kernel
theorem dX4_alike_27 : decode cX4_alike 27 = .ok (.getfield 18, 3) := by decide +kernel
theorem dX4_alike_30 : decode cX4_alike 30 = .ok (.iload_n 1, 1) := by decide +kernel
theorem dX4_alike_31 : decode cX4_alike 31 = .ok (.iaload, 1) := by decide +kernel
theorem dX4_alike_32 : decode cX4_alike 32 = .ok (.aload_n 0, 1) := by decide +kernel
theorem dX4_alike_33 : decode cX4_alike 33 = .ok (.getfield 18, 3) := by decide +kernel
theorem dX4_alike_36 : decode cX4_alike 36 = .ok (.iload_n 2, 1) := by decide +kernel
theorem dX4_alike_37 : decode cX4_alike 37 = .ok (.iaload, 1) := by decide +kernel
theorem dX4_alike_38 : decode cX4_alike 38 = .ok (.if_icmp .eq 5, 3) := by decide +kernel
theorem dX4_alike_41 : decode cX4_alike 41 = .ok (.iconst 0, 1) := by decide +kernel
theorem dX4_alike_42 : decode cX4_alike 42 = .ok (.ireturn, 1) := by decide +kernel
theorem dX4_alike_43 : decode cX4_alike 43 = .ok (.iconst 0, 1) := by decide +kernel
theorem dX4_alike_44 : decode cX4_alike 44 = .ok (.istore_n 3, 1) := by decide +kernel
theorem dX4_alike_45 : decode cX4_alike 45 = .ok (.iload_n 3, 1) := by decide +kernel
theorem dX4_alike_46 : decode cX4_alike 46 = .ok (.aload_n 0, 1) := by decide +kernel
theorem dX4_alike_47 : decode cX4_alike 47 = .ok (.getfield 18, 3) := by decide +kernel
theorem dX4_alike_50 : decode cX4_alike 50 = .ok (.iload_n 1, 1) := by decide +kernel
theorem dX4_alike_51 : decode cX4_alike 51 = .ok (.iaload, 1) := by decide +kernel
theorem dX4_alike_52 : decode cX4_alike 52 = .ok (.if_icmp .ge 40, 3) := by decide +kernel
theorem dX4_alike_55 : decode cX4_alike 55 = .ok (.aload_n 0, 1) := by decide +kernel
theorem dX4_alike_56 : decode cX4_alike 56 = .ok (.getfield 7, 3) := by decide +kernel
theorem dX4_alike_59 : decode cX4_alike 59 = .ok (.aload_n 0, 1) := by decide +kernel
theorem dX4_alike_60 : decode cX4_alike 60 = .ok (.getfield 15, 3) := by decide +kernel
theorem dX4_alike_63 : decode cX4_alike 63 = .ok (.iload_n 1, 1) := by decide +kernel
theorem dX4_alike_64 : decode cX4_alike 64 = .ok (.aaload, 1) := by decide +kernel
theorem dX4_alike_65 : decode cX4_alike 65 = .ok (.iload_n 3, 1) := by decide +kernel
theorem dX4_alike_66 : decode cX4_alike 66 = .ok (.iaload, 1) := by decide +kernel
theorem dX4_alike_67 : decode cX4_alike 67 = .ok (.iaload, 1) := by decide +kernel
theorem dX4_alike_68 : decode cX4_alike 68 = .ok (.aload_n 0, 1) := by decide +kernel
theorem dX4_alike_69 : decode cX4_alike 69 = .ok (.getfield 7, 3) := by decide +kernel
theorem dX4_alike_72 : decode cX4_alike 72 = .ok (.aload_n 0, 1) := by decide +kernel
theorem dX4_alike_73 : decode cX4_alike 73 = .ok (.getfield 15, 3) := by decide +kernel
theorem dX4_alike_76 : decode cX4_alike 76 = .ok (.iload_n 2, 1) := by decide +kernel
theorem dX4_alike_77 : decode cX4_alike 77 = .ok (.aaload, 1) := by decide +kernel
theorem dX4_alike_78 : decode cX4_alike 78 = .ok (.iload_n 3, 1) := by decide +kernel
theorem dX4_alike_79 : decode cX4_alike 79 = .ok (.iaload, 1) := by decide +kernel
theorem dX4_alike_80 : decode cX4_alike 80 = .ok (.iaload, 1) := by decide +kernel
theorem dX4_alike_81 : decode cX4_alike 81 = .ok (.if_icmp .eq 5, 3) := by decide +kernel
theorem dX4_alike_84 : decode cX4_alike 84 = .ok (.iconst 0, 1) := by decide +kernel
theorem dX4_alike_85 : decode cX4_alike 85 = .ok (.ireturn, 1) := by decide +kernel
theorem dX4_alike_86 : decode cX4_alike 86 = .ok (.iinc 3 1, 3) := by decide +kernel
theorem dX4_alike_89 : decode cX4_alike 89 = .ok (.goto (-44), 3) := by decide +kernel
theorem dX4_alike_92 : decode cX4_alike 92 = .ok (.iconst 1, 1) := by decide +kernel
theorem dX4_alike_93 : decode cX4_alike 93 = .ok (.ireturn, 1) := by decide +kernel
theorem dX4_isNameNow_0 : decode cX4_isNameNow 0 = .ok (.aload_n 0, 1) := by decide +kernel
theorem dX4_isNameNow_1 : decode cX4_isNameNow 1 = .ok (.getfield 18, 3) := by decide +kernel
theorem dX4_isNameNow_4 : decode cX4_isNameNow 4 = .ok (.iload_n 1, 1) := by decide +kernel
theorem dX4_isNameNow_5 : decode cX4_isNameNow 5 = .ok (.iaload, 1) := by decide +kernel
theorem dX4_isNameNow_6 : decode cX4_isNameNow 6 = .ok (.ifCond .le 22, 3) := by decide +kernel
theorem dX4_isNameNow_9 : decode cX4_isNameNow 9 = .ok (.aload_n 0, 1) := by decide +kernel
theorem dX4_isNameNow_10 : decode cX4_isNameNow 10 = .ok (.iload_n 1, 1) := by decide +kernel
theorem dX4_isNameNow_11 : decode cX4_isNameNow 11 = .ok (.iconst 0, 1) := by decide +kernel
theorem dX4_isNameNow_12 : decode cX4_isNameNow 12 = .ok (.aload_n 0, 1) := by decide +kernel
theorem dX4_isNameNow_13 : decode cX4_isNameNow 13 = .ok (.getfield 18, 3) := by decide +kernel
theorem dX4_isNameNow_16 : decode cX4_isNameNow 16 = .ok (.iload_n 1, 1) := by decide +kernel
theorem dX4_isNameNow_17 : decode cX4_isNameNow 17 = .ok (.iaload, 1) := by decide +kernel
theorem dX4_isNameNow_18 : decode cX4_isNameNow 18 = .ok (.invokevirtual 57, 3) := by decide +kernel
theorem dX4_isNameNow_21 : decode cX4_isNameNow 21 = .ok (.ifCond .ne 7, 3) := by decide +kernel
theorem dX4_isNameNow_24 : decode cX4_isNameNow 24 = .ok (.iconst 1, 1) := by decide +kernel
theorem dX4_isNameNow_25 : decode cX4_isNameNow 25 = .ok (.goto 4, 3) := by decide +kernel
theorem dX4_isNameNow_28 : decode cX4_isNameNow 28 = .ok (.iconst 0, 1) := by decide +kernel
theorem dX4_isNameNow_29 : decode cX4_isNameNow 29 = .ok (.ireturn, 1) := by decide +kernel
theorem dX4_isName_0 : decode cX4_isName 0 = .ok (.aload_n 0, 1) := by decide +kernel
theorem dX4_isName_1 : decode cX4_isName 1 = .ok (.iload_n 1, 1) := by decide +kernel
theorem dX4_isName_2 : decode cX4_isName 2 = .ok (.invokestatic 70, 3) := by decide +kernel
theorem dX4_isName_5 : decode cX4_isName 5 = .ok (.ifCond .ne 7, 3) := by decide +kernel
theorem dX4_isName_8 : decode cX4_isName 8 = .ok (.iconst 1, 1) := by decide +kernel
theorem dX4_isName_9 : decode cX4_isName 9 = .ok (.goto 4, 3) := by decide +kernel
theorem dX4_isName_12 : decode cX4_isName 12 = .ok (.iconst 0, 1) := by decide +kernel
theorem dX4_isName_13 : decode cX4_isName 13 = .ok (.invokevirtual 100, 3) := by decide +kernel
theorem dX4_isName_16 : decode cX4_isName 16 = .ok (.ifCond .ne 15, 3) := by decide +kernel
theorem dX4_isName_19 : decode cX4_isName 19 = .ok (.aload_n 0, 1) := by decide +kernel
theorem dX4_isName_20 : decode cX4_isName 20 = .ok (.iload_n 1, 1) := by decide +kernel
theorem dX4_isName_21 : decode cX4_isName 21 = .ok (.invokevirtual 148, 3) := by decide +kernel
theorem dX4_isName_24 : decode cX4_isName 24 = .ok (.ifCond .eq 7, 3) := by decide +kernel
theorem dX4_isName_27 : decode cX4_isName 27 = .ok (.iconst 1, 1) := by decide +kernel
theorem dX4_isName_28 : decode cX4_isName 28 = .ok (.goto 4, 3) := by decide +kernel
theorem dX4_isName_31 : decode cX4_isName 31 = .ok (.iconst 0, 1) := by decide +kernel
theorem dX4_isName_32 : decode cX4_isName 32 = .ok (.ireturn, 1) := by decide +kernel
theorem dX4_fault_0 : decode cX4_fault 0 = .ok (.aload_n 0, 1) := by decide +kernel
theorem dX4_fault_1 : decode cX4_fault 1 = .ok (.iload_n 1, 1) := by decide +kernel
theorem dX4_fault_2 : decode cX4_fault 2 = .ok (.invokestatic 70, 3) := by decide +kernel
theorem dX4_fault_5 : decode cX4_fault 5 = .ok (.ifCond .ne 7, 3) := by decide +kernel
theorem dX4_fault_8 : decode cX4_fault 8 = .ok (.iconst 1, 1) := by decide +kernel
theorem dX4_fault_9 : decode cX4_fault 9 = .ok (.goto 4, 3) := by decide +kernel
theorem dX4_fault_12 : decode cX4_fault 12 = .ok (.iconst 0, 1) := by decide +kernel
theorem dX4_fault_13 : decode cX4_fault 13 = .ok (.invokevirtual 100, 3) := by decide +kernel
theorem dX4_fault_16 : decode cX4_fault 16 = .ok (.ifCond .eq 7, 3) := by decide +kernel
theorem dX4_fault_19 : decode cX4_fault 19 = .ok (.iconst 0, 1) := by decide +kernel
theorem dX4_fault_20 : decode cX4_fault 20 = .ok (.goto 8, 3) := by decide +kernel
theorem dX4_fault_23 : decode cX4_fault 23 = .ok (.aload_n 0, 1) := by decide +kernel
theorem dX4_fault_24 : decode cX4_fault 24 = .ok (.iload_n 1, 1) := by decide +kernel
theorem dX4_fault_25 : decode cX4_fault 25 = .ok (.invokevirtual 151, 3) := by decide +kernel
theorem dX4_fault_28 : decode cX4_fault 28 = .ok (.ireturn, 1) := by decide +kernel
theorem dX4_sort_0 : decode cX4_sort 0 = .ok (.aload_n 0, 1) := by decide +kernel
theorem dX4_sort_1 : decode cX4_sort 1 = .ok (.iload_n 1, 1) := by decide +kernel
theorem dX4_sort_2 : decode cX4_sort 2 = .ok (.invokestatic 70, 3) := by decide +kernel
theorem dX4_sort_5 : decode cX4_sort 5 = .ok (.ifCond .eq 22, 3) := by decide +kernel
theorem dX4_sort_8 : decode cX4_sort 8 = .ok (.iload_n 2, 1) := by decide +kernel
theorem dX4_sort_9 : decode cX4_sort 9 = .ok (.ifCond .lt 18, 3) := by decide +kernel
theorem dX4_sort_12 : decode cX4_sort 12 = .ok (.iload_n 2, 1) := by decide +kernel
theorem dX4_sort_13 : decode cX4_sort 13 = .ok (.iload_n 3, 1) := by decide +kernel
theorem dX4_sort_14 : decode cX4_sort 14 = .ok (.if_icmp .ge 13, 3) := by decide +kernel
theorem dX4_sort_17 : decode cX4_sort 17 = .ok (.iload_n 3, 1) := by decide +kernel
theorem dX4_sort_18 : decode cX4_sort 18 = .ok (.aload_n 0, 1) := by decide +kernel
theorem dX4_sort_19 : decode cX4_sort 19 = .ok (.getfield 18, 3) := by decide +kernel
theorem dX4_sort_22 : decode cX4_sort 22 = .ok (.iload_n 1, 1) := by decide +kernel
theorem dX4_sort_23 : decode cX4_sort 23 = .ok (.iaload, 1) := by decide +kernel
theorem dX4_sort_24 : decode cX4_sort 24 = .ok (.if_icmp .le 7, 3) := by decide +kernel
theorem dX4_sort_27 : decode cX4_sort 27 = .ok (.iconst 1, 1) := by decide +kernel
theorem dX4_sort_28 : decode cX4_sort 28 = .ok (.goto 4, 3) := by decide +kernel
theorem dX4_sort_31 : decode cX4_sort 31 = .ok (.iconst 0, 1) := by decide +kernel
theorem dX4_sort_32 : decode cX4_sort 32 = .ok (.invokevirtual 100, 3) := by decide +kernel
theorem dX4_sort_35 : decode cX4_sort 35 = .ok (.ifCond .eq 7, 3) := by decide +kernel
theorem dX4_sort_38 : decode cX4_sort 38 = .ok (.iconst 0, 1) := by decide +kernel
theorem dX4_sort_39 : decode cX4_sort 39 = .ok (.goto 10, 3) := by decide +kernel
theorem dX4_sort_42 : decode cX4_sort 42 = .ok (.aload_n 0, 1) := by decide +kernel
theorem dX4_sort_43 : decode cX4_sort 43 = .ok (.iload_n 1, 1) := by decide +kernel
theorem dX4_sort_44 : decode cX4_sort 44 = .ok (.iload_n 2, 1) := by decide +kernel
theorem dX4_sort_45 : decode cX4_sort 45 = .ok (.iload_n 3, 1) := by decide +kernel
theorem dX4_sort_46 : decode cX4_sort 46 = .ok (.invokevirtual 57, 3) := by decide +kernel
theorem dX4_sort_49 : decode cX4_sort 49 = .ok (.ireturn, 1) := by decide +kernel
theorem dX4_longest_0 : decode cX4_longest 0 = .ok (.aload_n 0, 1) := by decide +kernel
theorem dX4_longest_1 : decode cX4_longest 1 = .ok (.aload_n 0, 1) := by decide +kernel
theorem dX4_longest_2 : decode cX4_longest 2 = .ok (.iload_n 1, 1) := by decide +kernel
theorem dX4_longest_3 : decode cX4_longest 3 = .ok (.iload_n 2, 1) := by decide +kernel
theorem dX4_longest_4 : decode cX4_longest 4 = .ok (.invokevirtual 89, 3) := by decide +kernel
theorem dX4_longest_7 : decode cX4_longest 7 = .ok (.ifCond .ne 7, 3) := by decide +kernel
theorem dX4_longest_10 : decode cX4_longest 10 = .ok (.iconst 1, 1) := by decide +kernel
theorem dX4_longest_11 : decode cX4_longest 11 = .ok (.goto 4, 3) := by decide +kernel
theorem dX4_longest_14 : decode cX4_longest 14 = .ok (.iconst 0, 1) := by decide +kernel
theorem dX4_longest_15 : decode cX4_longest 15 = .ok (.invokevirtual 100, 3) := by decide +kernel
theorem dX4_longest_18 : decode cX4_longest 18 = .ok (.ifCond .eq 7, 3) := by decide +kernel
theorem dX4_longest_21 : decode cX4_longest 21 = .ok (.iconst 0, 1) := by decide +kernel
theorem dX4_longest_22 : decode cX4_longest 22 = .ok (.goto 9, 3) := by decide +kernel
theorem dX4_longest_25 : decode cX4_longest 25 = .ok (.aload_n 0, 1) := by decide +kernel
theorem dX4_longest_26 : decode cX4_longest 26 = .ok (.iload_n 1, 1) := by decide +kernel
theorem dX4_longest_27 : decode cX4_longest 27 = .ok (.iload_n 2, 1) := by decide +kernel
theorem dX4_longest_28 : decode cX4_longest 28 = .ok (.invokevirtual 61, 3) := by decide +kernel
theorem dX4_longest_31 : decode cX4_longest 31 = .ok (.ireturn, 1) := by decide +kernel
theorem dX4_pieces_0 : decode cX4_pieces 0 = .ok (.aload_n 0, 1) := by decide +kernel
theorem dX4_pieces_1 : decode cX4_pieces 1 = .ok (.iload_n 1, 1) := by decide +kernel
theorem dX4_pieces_2 : decode cX4_pieces 2 = .ok (.invokestatic 70, 3) := by decide +kernel
theorem dX4_pieces_5 : decode cX4_pieces 5 = .ok (.ifCond .ne 7, 3) := by decide +kernel
theorem dX4_pieces_8 : decode cX4_pieces 8 = .ok (.iconst 1, 1) := by decide +kernel
theorem dX4_pieces_9 : decode cX4_pieces 9 = .ok (.goto 4, 3) := by decide +kernel
theorem dX4_pieces_12 : decode cX4_pieces 12 = .ok (.iconst 0, 1) := by decide +kernel
theorem dX4_pieces_13 : decode cX4_pieces 13 = .ok (.invokevirtual 100, 3) := by decide +kernel
theorem dX4_pieces_16 : decode cX4_pieces 16 = .ok (.ifCond .eq 7, 3) := by decide +kernel
theorem dX4_pieces_19 : decode cX4_pieces 19 = .ok (.iconst 0, 1) := by decide +kernel
theorem dX4_pieces_20 : decode cX4_pieces 20 = .ok (.goto 8, 3) := by decide +kernel
theorem dX4_pieces_23 : decode cX4_pieces 23 = .ok (.aload_n 0, 1) := by decide +kernel
theorem dX4_pieces_24 : decode cX4_pieces 24 = .ok (.iload_n 1, 1) := by decide +kernel
theorem dX4_pieces_25 : decode cX4_pieces 25 = .ok (.invokevirtual 154, 3) := by decide +kernel
theorem dX4_pieces_28 : decode cX4_pieces 28 = .ok (.ireturn, 1) := by decide +kernel
theorem dX4_piece_0 : decode cX4_piece 0 = .ok (.aload_n 0, 1) := by decide +kernel
theorem dX4_piece_1 : decode cX4_piece 1 = .ok (.iload_n 1, 1) := by decide +kernel
theorem dX4_piece_2 : decode cX4_piece 2 = .ok (.invokestatic 70, 3) := by decide +kernel
theorem dX4_piece_5 : decode cX4_piece 5 = .ok (.ifCond .eq 16, 3) := by decide +kernel
theorem dX4_piece_8 : decode cX4_piece 8 = .ok (.iload_n 2, 1) := by decide +kernel
theorem dX4_piece_9 : decode cX4_piece 9 = .ok (.ifCond .lt 12, 3) := by decide +kernel
theorem dX4_piece_12 : decode cX4_piece 12 = .ok (.aload_n 0, 1) := by decide +kernel
theorem dX4_piece_13 : decode cX4_piece 13 = .ok (.iload_n 1, 1) := by decide +kernel
theorem dX4_piece_14 : decode cX4_piece 14 = .ok (.iload_n 2, 1) := by decide +kernel
theorem dX4_piece_15 : decode cX4_piece 15 = .ok (.invokevirtual 117, 3) := by decide +kernel
theorem dX4_piece_18 : decode cX4_piece 18 = .ok (.ifCond .ge 7, 3) := by decide +kernel
theorem dX4_piece_21 : decode cX4_piece 21 = .ok (.iconst 1, 1) := by decide +kernel
theorem dX4_piece_22 : decode cX4_piece 22 = .ok (.goto 4, 3) := by decide +kernel
theorem dX4_piece_25 : decode cX4_piece 25 = .ok (.iconst 0, 1) := by decide +kernel
theorem dX4_piece_26 : decode cX4_piece 26 = .ok (.iload_n 3, 1) := by decide +kernel
theorem dX4_piece_27 : decode cX4_piece 27 = .ok (.ifCond .lt 8, 3) := by decide +kernel
theorem dX4_piece_30 : decode cX4_piece 30 = .ok (.iload_n 3, 1) := by decide +kernel
theorem dX4_piece_31 : decode cX4_piece 31 = .ok (.iconst 2, 1) := by decide +kernel
theorem dX4_piece_32 : decode cX4_piece 32 = .ok (.if_icmp .le 7, 3) := by decide +kernel
theorem dX4_piece_35 : decode cX4_piece 35 = .ok (.iconst 1, 1) := by decide +kernel
theorem dX4_piece_36 : decode cX4_piece 36 = .ok (.goto 4, 3) := by decide +kernel
theorem dX4_piece_39 : decode cX4_piece 39 = .ok (.iconst 0, 1) := by decide +kernel
theorem dX4_piece_40 : decode cX4_piece 40 = .ok (.invokevirtual 73, 3) := by decide +kernel
theorem dX4_piece_43 : decode cX4_piece 43 = .ok (.ifCond .eq 5, 3) := by decide +kernel
theorem dX4_piece_46 : decode cX4_piece 46 = .ok (.iconst 0, 1) := by decide +kernel
theorem dX4_piece_47 : decode cX4_piece 47 = .ok (.ireturn, 1) := by decide +kernel
theorem dX4_piece_48 : decode cX4_piece 48 = .ok (.aload_n 0, 1) := by decide +kernel
theorem dX4_piece_49 : decode cX4_piece 49 = .ok (.iload_n 1, 1) := by decide +kernel
theorem dX4_piece_50 : decode cX4_piece 50 = .ok (.iload_n 2, 1) := by decide +kernel
theorem dX4_piece_51 : decode cX4_piece 51 = .ok (.invokevirtual 117, 3) := by decide +kernel
theorem dX4_piece_54 : decode cX4_piece 54 = .ok (.istore 4, 2) := by decide +kernel
theorem dX4_piece_56 : decode cX4_piece 56 = .ok (.aload_n 0, 1) := by decide +kernel
theorem dX4_piece_57 : decode cX4_piece 57 = .ok (.iload_n 1, 1) := by decide +kernel
theorem dX4_piece_58 : decode cX4_piece 58 = .ok (.iload 4, 2) := by decide +kernel
theorem dX4_piece_60 : decode cX4_piece 60 = .ok (.invokevirtual 61, 3) := by decide +kernel
theorem dX4_piece_63 : decode cX4_piece 63 = .ok (.istore 5, 2) := by decide +kernel
theorem dX4_piece_65 : decode cX4_piece 65 = .ok (.iload_n 3, 1) := by decide +kernel
theorem dX4_piece_66 : decode cX4_piece 66 = .ok (.ifCond .ne 8, 3) := by decide +kernel
theorem dX4_piece_69 : decode cX4_piece 69 = .ok (.iload 4, 2) := by decide +kernel
theorem dX4_piece_71 : decode cX4_piece 71 = .ok (.goto 25, 3) := by decide +kernel
theorem dX4_piece_74 : decode cX4_piece 74 = .ok (.iload_n 3, 1) := by decide +kernel
theorem dX4_piece_75 : decode cX4_piece 75 = .ok (.iconst 1, 1) := by decide +kernel
theorem dX4_piece_76 : decode cX4_piece 76 = .ok (.if_icmp .ne 8, 3) := by decide +kernel
theorem dX4_piece_79 : decode cX4_piece 79 = .ok (.iload 5, 2) := by decide +kernel
theorem dX4_piece_81 : decode cX4_piece 81 = .ok (.goto 15, 3) := by decide +kernel
theorem dX4_piece_84 : decode cX4_piece 84 = .ok (.aload_n 0, 1) := by decide +kernel
theorem dX4_piece_85 : decode cX4_piece 85 = .ok (.iload_n 1, 1) := by decide +kernel
theorem dX4_piece_86 : decode cX4_piece 86 = .ok (.iload 4, 2) := by decide +kernel
theorem dX4_piece_88 : decode cX4_piece 88 = .ok (.iload 4, 2) := by decide +kernel
theorem dX4_piece_90 : decode cX4_piece 90 = .ok (.iload 5, 2) := by decide +kernel
theorem dX4_piece_92 : decode cX4_piece 92 = .ok (.iadd, 1) := by decide +kernel
theorem dX4_piece_93 : decode cX4_piece 93 = .ok (.invokevirtual 57, 3) := by decide +kernel
theorem dX4_piece_96 : decode cX4_piece 96 = .ok (.ireturn, 1) := by decide +kernel
theorem dX4_sorts_0 : decode cX4_sorts 0 = .ok (.aload_n 0, 1) := by decide +kernel
theorem dX4_sorts_1 : decode cX4_sorts 1 = .ok (.iload_n 1, 1) := by decide +kernel
theorem dX4_sorts_2 : decode cX4_sorts 2 = .ok (.invokestatic 70, 3) := by decide +kernel
theorem dX4_sorts_5 : decode cX4_sorts 5 = .ok (.ifCond .ne 7, 3) := by decide +kernel
theorem dX4_sorts_8 : decode cX4_sorts 8 = .ok (.iconst 1, 1) := by decide +kernel
theorem dX4_sorts_9 : decode cX4_sorts 9 = .ok (.goto 4, 3) := by decide +kernel
theorem dX4_sorts_12 : decode cX4_sorts 12 = .ok (.iconst 0, 1) := by decide +kernel
theorem dX4_sorts_13 : decode cX4_sorts 13 = .ok (.invokevirtual 100, 3) := by decide +kernel
theorem dX4_sorts_16 : decode cX4_sorts 16 = .ok (.ifCond .eq 6, 3) := by decide +kernel
theorem dX4_sorts_19 : decode cX4_sorts 19 = .ok (.ldc 126, 2) := by decide +kernel
theorem dX4_sorts_21 : decode cX4_sorts 21 = .ok (.areturn, 1) := by decide +kernel
theorem dX4_sorts_22 : decode cX4_sorts 22 = .ok (.new 123, 3) := by decide +kernel
theorem dX4_sorts_25 : decode cX4_sorts 25 = .ok (.dup, 1) := by decide +kernel
theorem dX4_sorts_26 : decode cX4_sorts 26 = .ok (.invokespecial 125, 3) := by decide +kernel
theorem dX4_sorts_29 : decode cX4_sorts 29 = .ok (.astore_n 2, 1) := by decide +kernel
theorem dX4_sorts_30 : decode cX4_sorts 30 = .ok (.iconst 0, 1) := by decide +kernel
theorem dX4_sorts_31 : decode cX4_sorts 31 = .ok (.istore_n 3, 1) := by decide +kernel
theorem dX4_sorts_32 : decode cX4_sorts 32 = .ok (.iload_n 3, 1) := by decide +kernel
theorem dX4_sorts_33 : decode cX4_sorts 33 = .ok (.aload_n 0, 1) := by decide +kernel
theorem dX4_sorts_34 : decode cX4_sorts 34 = .ok (.getfield 18, 3) := by decide +kernel
theorem dX4_sorts_37 : decode cX4_sorts 37 = .ok (.iload_n 1, 1) := by decide +kernel
theorem dX4_sorts_38 : decode cX4_sorts 38 = .ok (.iaload, 1) := by decide +kernel
theorem dX4_sorts_39 : decode cX4_sorts 39 = .ok (.if_icmp .ge 48, 3) := by decide +kernel
theorem dX4_sorts_42 : decode cX4_sorts 42 = .ok (.aload_n 2, 1) := by decide +kernel
theorem dX4_sorts_43 : decode cX4_sorts 43 = .ok (.iload_n 3, 1) := by decide +kernel
theorem dX4_sorts_44 : decode cX4_sorts 44 = .ok (.ifCond .ne 8, 3) := by decide +kernel
theorem dX4_sorts_47 : decode cX4_sorts 47 = .ok (.ldc 126, 2) := by decide +kernel
theorem dX4_sorts_49 : decode cX4_sorts 49 = .ok (.goto 5, 3) := by decide +kernel
theorem dX4_sorts_52 : decode cX4_sorts 52 = .ok (.ldc 128, 2) := by decide +kernel
theorem dX4_sorts_54 : decode cX4_sorts 54 = .ok (.invokevirtual 130, 3) := by decide +kernel
theorem dX4_sorts_57 : decode cX4_sorts 57 = .ok (.aload_n 0, 1) := by decide +kernel
theorem dX4_sorts_58 : decode cX4_sorts 58 = .ok (.iload_n 1, 1) := by decide +kernel
theorem dX4_sorts_59 : decode cX4_sorts 59 = .ok (.iload_n 3, 1) := by decide +kernel
theorem dX4_sorts_60 : decode cX4_sorts 60 = .ok (.iload_n 3, 1) := by decide +kernel
theorem dX4_sorts_61 : decode cX4_sorts 61 = .ok (.aload_n 0, 1) := by decide +kernel
theorem dX4_sorts_62 : decode cX4_sorts 62 = .ok (.iload_n 1, 1) := by decide +kernel
theorem dX4_sorts_63 : decode cX4_sorts 63 = .ok (.iload_n 3, 1) := by decide +kernel
theorem dX4_sorts_64 : decode cX4_sorts 64 = .ok (.invokevirtual 61, 3) := by decide +kernel
theorem dX4_sorts_67 : decode cX4_sorts 67 = .ok (.iadd, 1) := by decide +kernel
theorem dX4_sorts_68 : decode cX4_sorts 68 = .ok (.invokevirtual 57, 3) := by decide +kernel
theorem dX4_sorts_71 : decode cX4_sorts 71 = .ok (.invokevirtual 134, 3) := by decide +kernel
theorem dX4_sorts_74 : decode cX4_sorts 74 = .ok (.pop, 1) := by decide +kernel
theorem dX4_sorts_75 : decode cX4_sorts 75 = .ok (.iload_n 3, 1) := by decide +kernel
theorem dX4_sorts_76 : decode cX4_sorts 76 = .ok (.aload_n 0, 1) := by decide +kernel
theorem dX4_sorts_77 : decode cX4_sorts 77 = .ok (.iload_n 1, 1) := by decide +kernel
theorem dX4_sorts_78 : decode cX4_sorts 78 = .ok (.iload_n 3, 1) := by decide +kernel
theorem dX4_sorts_79 : decode cX4_sorts 79 = .ok (.invokevirtual 61, 3) := by decide +kernel
theorem dX4_sorts_82 : decode cX4_sorts 82 = .ok (.iadd, 1) := by decide +kernel
theorem dX4_sorts_83 : decode cX4_sorts 83 = .ok (.istore_n 3, 1) := by decide +kernel
theorem dX4_sorts_84 : decode cX4_sorts 84 = .ok (.goto (-52), 3) := by decide +kernel
theorem dX4_sorts_87 : decode cX4_sorts 87 = .ok (.aload_n 2, 1) := by decide +kernel
theorem dX4_sorts_88 : decode cX4_sorts 88 = .ok (.invokevirtual 137, 3) := by decide +kernel
theorem dX4_sorts_91 : decode cX4_sorts 91 = .ok (.areturn, 1) := by decide +kernel
theorem dX4_cuts_0 : decode cX4_cuts 0 = .ok (.aload_n 0, 1) := by decide +kernel
theorem dX4_cuts_1 : decode cX4_cuts 1 = .ok (.iload_n 1, 1) := by decide +kernel
theorem dX4_cuts_2 : decode cX4_cuts 2 = .ok (.invokestatic 70, 3) := by decide +kernel
theorem dX4_cuts_5 : decode cX4_cuts 5 = .ok (.ifCond .ne 7, 3) := by decide +kernel
theorem dX4_cuts_8 : decode cX4_cuts 8 = .ok (.iconst 1, 1) := by decide +kernel
theorem dX4_cuts_9 : decode cX4_cuts 9 = .ok (.goto 4, 3) := by decide +kernel
theorem dX4_cuts_12 : decode cX4_cuts 12 = .ok (.iconst 0, 1) := by decide +kernel
theorem dX4_cuts_13 : decode cX4_cuts 13 = .ok (.invokevirtual 100, 3) := by decide +kernel
theorem dX4_cuts_16 : decode cX4_cuts 16 = .ok (.ifCond .eq 7, 3) := by decide +kernel
theorem dX4_cuts_19 : decode cX4_cuts 19 = .ok (.iconst 0, 1) := by decide +kernel
theorem dX4_cuts_20 : decode cX4_cuts 20 = .ok (.goto 8, 3) := by decide +kernel
theorem dX4_cuts_23 : decode cX4_cuts 23 = .ok (.aload_n 0, 1) := by decide +kernel
theorem dX4_cuts_24 : decode cX4_cuts 24 = .ok (.iload_n 1, 1) := by decide +kernel
theorem dX4_cuts_25 : decode cX4_cuts 25 = .ok (.invokevirtual 157, 3) := by decide +kernel
theorem dX4_cuts_28 : decode cX4_cuts 28 = .ok (.ireturn, 1) := by decide +kernel
theorem dX4_back_0 : decode cX4_back 0 = .ok (.aload_n 0, 1) := by decide +kernel
theorem dX4_back_1 : decode cX4_back 1 = .ok (.iload_n 1, 1) := by decide +kernel
theorem dX4_back_2 : decode cX4_back 2 = .ok (.invokestatic 70, 3) := by decide +kernel
theorem dX4_back_5 : decode cX4_back 5 = .ok (.ifCond .ne 7, 3) := by decide +kernel
theorem dX4_back_8 : decode cX4_back 8 = .ok (.iconst 1, 1) := by decide +kernel
theorem dX4_back_9 : decode cX4_back 9 = .ok (.goto 4, 3) := by decide +kernel
theorem dX4_back_12 : decode cX4_back 12 = .ok (.iconst 0, 1) := by decide +kernel
theorem dX4_back_13 : decode cX4_back 13 = .ok (.invokevirtual 100, 3) := by decide +kernel
theorem dX4_back_16 : decode cX4_back 16 = .ok (.ifCond .eq 7, 3) := by decide +kernel
theorem dX4_back_19 : decode cX4_back 19 = .ok (.iconst 0, 1) := by decide +kernel
theorem dX4_back_20 : decode cX4_back 20 = .ok (.goto 8, 3) := by decide +kernel
theorem dX4_back_23 : decode cX4_back 23 = .ok (.aload_n 0, 1) := by decide +kernel
theorem dX4_back_24 : decode cX4_back 24 = .ok (.iload_n 1, 1) := by decide +kernel
theorem dX4_back_25 : decode cX4_back 25 = .ok (.invokevirtual 160, 3) := by decide +kernel
theorem dX4_back_28 : decode cX4_back 28 = .ok (.ireturn, 1) := by decide +kernel
theorem dX4_fewest_0 : decode cX4_fewest 0 = .ok (.aload_n 0, 1) := by decide +kernel
theorem dX4_fewest_1 : decode cX4_fewest 1 = .ok (.iload_n 1, 1) := by decide +kernel
theorem dX4_fewest_2 : decode cX4_fewest 2 = .ok (.invokestatic 70, 3) := by decide +kernel
theorem dX4_fewest_5 : decode cX4_fewest 5 = .ok (.ifCond .ne 7, 3) := by decide +kernel
theorem dX4_fewest_8 : decode cX4_fewest 8 = .ok (.iconst 1, 1) := by decide +kernel
theorem dX4_fewest_9 : decode cX4_fewest 9 = .ok (.goto 4, 3) := by decide +kernel
theorem dX4_fewest_12 : decode cX4_fewest 12 = .ok (.iconst 0, 1) := by decide +kernel
theorem dX4_fewest_13 : decode cX4_fewest 13 = .ok (.invokevirtual 100, 3) := by decide +kernel
theorem dX4_fewest_16 : decode cX4_fewest 16 = .ok (.ifCond .eq 7, 3) := by decide +kernel
theorem dX4_fewest_19 : decode cX4_fewest 19 = .ok (.iconst 0, 1) := by decide +kernel
theorem dX4_fewest_20 : decode cX4_fewest 20 = .ok (.goto 8, 3) := by decide +kernel
theorem dX4_fewest_23 : decode cX4_fewest 23 = .ok (.aload_n 0, 1) := by decide +kernel
theorem dX4_fewest_24 : decode cX4_fewest 24 = .ok (.iload_n 1, 1) := by decide +kernel
theorem dX4_fewest_25 : decode cX4_fewest 25 = .ok (.invokevirtual 163, 3) := by decide +kernel
theorem dX4_fewest_28 : decode cX4_fewest 28 = .ok (.ireturn, 1) := by decide +kernel
theorem dX4_parted_0 : decode cX4_parted 0 = .ok (.iload_n 2, 1) := by decide +kernel
theorem dX4_parted_1 : decode cX4_parted 1 = .ok (.ifCond .lt 10, 3) := by decide +kernel
theorem dX4_parted_4 : decode cX4_parted 4 = .ok (.iload_n 2, 1) := by decide +kernel
theorem dX4_parted_5 : decode cX4_parted 5 = .ok (.iconst 1, 1) := by decide +kernel
theorem dX4_parted_6 : decode cX4_parted 6 = .ok (.iand, 1) := by decide +kernel
theorem dX4_parted_7 : decode cX4_parted 7 = .ok (.iconst 1, 1) := by decide +kernel
theorem dX4_parted_8 : decode cX4_parted 8 = .ok (.if_icmp .ne 7, 3) := by decide +kernel
theorem dX4_parted_11 : decode cX4_parted 11 = .ok (.iconst 1, 1) := by decide +kernel
theorem dX4_parted_12 : decode cX4_parted 12 = .ok (.goto 4, 3) := by decide +kernel
theorem dX4_parted_15 : decode cX4_parted 15 = .ok (.iconst 0, 1) := by decide +kernel
theorem dX4_parted_16 : decode cX4_parted 16 = .ok (.istore_n 3, 1) := by decide +kernel
theorem dX4_parted_17 : decode cX4_parted 17 = .ok (.iconst 1, 1) := by decide +kernel
theorem dX4_parted_18 : decode cX4_parted 18 = .ok (.istore 4, 2) := by decide +kernel
theorem dX4_parted_20 : decode cX4_parted 20 = .ok (.iload 4, 2) := by decide +kernel
theorem dX4_parted_22 : decode cX4_parted 22 = .ok (.bipush 31, 2) := by decide +kernel
theorem dX4_parted_24 : decode cX4_parted 24 = .ok (.if_icmp .ge 45, 3) := by decide +kernel
theorem dX4_parted_27 : decode cX4_parted 27 = .ok (.iload_n 1, 1) := by decide +kernel
theorem dX4_parted_28 : decode cX4_parted 28 = .ok (.invokestatic 70, 3) := by decide +kernel
theorem dX4_parted_31 : decode cX4_parted 31 = .ok (.ifCond .eq 38, 3) := by decide +kernel
theorem dX4_parted_34 : decode cX4_parted 34 = .ok (.iload_n 3, 1) := by decide +kernel
theorem dX4_parted_35 : decode cX4_parted 35 = .ok (.iload_n 2, 1) := by decide +kernel
theorem dX4_parted_36 : decode cX4_parted 36 = .ok (.iload 4, 2) := by decide +kernel
theorem dX4_parted_38 : decode cX4_parted 38 = .ok (.ishr, 1) := by decide +kernel
theorem dX4_parted_39 : decode cX4_parted 39 = .ok (.iconst 1, 1) := by decide +kernel
theorem dX4_parted_40 : decode cX4_parted 40 = .ok (.iand, 1) := by decide +kernel
theorem dX4_parted_41 : decode cX4_parted 41 = .ok (.iconst 1, 1) := by decide +kernel
theorem dX4_parted_42 : decode cX4_parted 42 = .ok (.if_icmp .ne 18, 3) := by decide +kernel
theorem dX4_parted_45 : decode cX4_parted 45 = .ok (.iload 4, 2) := by decide +kernel
theorem dX4_parted_47 : decode cX4_parted 47 = .ok (.aload_n 0, 1) := by decide +kernel
theorem dX4_parted_48 : decode cX4_parted 48 = .ok (.getfield 18, 3) := by decide +kernel
theorem dX4_parted_51 : decode cX4_parted 51 = .ok (.iload_n 1, 1) := by decide +kernel
theorem dX4_parted_52 : decode cX4_parted 52 = .ok (.iaload, 1) := by decide +kernel
theorem dX4_parted_53 : decode cX4_parted 53 = .ok (.if_icmp .lt 7, 3) := by decide +kernel
theorem dX4_parted_56 : decode cX4_parted 56 = .ok (.iconst 1, 1) := by decide +kernel
theorem dX4_parted_57 : decode cX4_parted 57 = .ok (.goto 4, 3) := by decide +kernel
theorem dX4_parted_60 : decode cX4_parted 60 = .ok (.iconst 0, 1) := by decide +kernel
theorem dX4_parted_61 : decode cX4_parted 61 = .ok (.ior, 1) := by decide +kernel
theorem dX4_parted_62 : decode cX4_parted 62 = .ok (.istore_n 3, 1) := by decide +kernel
theorem dX4_parted_63 : decode cX4_parted 63 = .ok (.iinc 4 1, 3) := by decide +kernel
theorem dX4_parted_66 : decode cX4_parted 66 = .ok (.goto (-46), 3) := by decide +kernel
theorem dX4_parted_69 : decode cX4_parted 69 = .ok (.aload_n 0, 1) := by decide +kernel
theorem dX4_parted_70 : decode cX4_parted 70 = .ok (.iload_n 1, 1) := by decide +kernel
theorem dX4_parted_71 : decode cX4_parted 71 = .ok (.invokestatic 70, 3) := by decide +kernel
theorem dX4_parted_74 : decode cX4_parted 74 = .ok (.ifCond .ne 7, 3) := by decide +kernel
theorem dX4_parted_77 : decode cX4_parted 77 = .ok (.iconst 1, 1) := by decide +kernel
theorem dX4_parted_78 : decode cX4_parted 78 = .ok (.goto 4, 3) := by decide +kernel
theorem dX4_parted_81 : decode cX4_parted 81 = .ok (.iconst 0, 1) := by decide +kernel
theorem dX4_parted_82 : decode cX4_parted 82 = .ok (.iload_n 3, 1) := by decide +kernel
theorem dX4_parted_83 : decode cX4_parted 83 = .ok (.invokevirtual 73, 3) := by decide +kernel
theorem dX4_parted_86 : decode cX4_parted 86 = .ok (.ifCond .eq 7, 3) := by decide +kernel
theorem dX4_parted_89 : decode cX4_parted 89 = .ok (.iconst 0, 1) := by decide +kernel
theorem dX4_parted_90 : decode cX4_parted 90 = .ok (.goto 9, 3) := by decide +kernel
theorem dX4_parted_93 : decode cX4_parted 93 = .ok (.aload_n 0, 1) := by decide +kernel
theorem dX4_parted_94 : decode cX4_parted 94 = .ok (.iload_n 1, 1) := by decide +kernel
theorem dX4_parted_95 : decode cX4_parted 95 = .ok (.iload_n 2, 1) := by decide +kernel
theorem dX4_parted_96 : decode cX4_parted 96 = .ok (.invokevirtual 166, 3) := by decide +kernel
theorem dX4_parted_99 : decode cX4_parted 99 = .ok (.ireturn, 1) := by decide +kernel
theorem dX4_houseNow_0 : decode cX4_houseNow 0 = .ok (.iload_n 1, 1) := by decide +kernel
theorem dX4_houseNow_1 : decode cX4_houseNow 1 = .ok (.ifCond .le 37, 3) := by decide +kernel
theorem dX4_houseNow_4 : decode cX4_houseNow 4 = .ok (.iload_n 1, 1) := by decide +kernel
theorem dX4_houseNow_5 : decode cX4_houseNow 5 = .ok (.iconst 4, 1) := by decide +kernel
theorem dX4_houseNow_6 : decode cX4_houseNow 6 = .ok (.if_icmp .ge 32, 3) := by decide +kernel
theorem dX4_houseNow_9 : decode cX4_houseNow 9 = .ok (.iload_n 1, 1) := by decide +kernel
theorem dX4_houseNow_10 : decode cX4_houseNow 10 = .ok (.iconst 1, 1) := by decide +kernel
theorem dX4_houseNow_11 : decode cX4_houseNow 11 = .ok (.if_icmp .ne 10, 3) := by decide +kernel
theorem dX4_houseNow_14 : decode cX4_houseNow 14 = .ok (.aload_n 0, 1) := by decide +kernel
theorem dX4_houseNow_15 : decode cX4_houseNow 15 = .ok (.getfield 77, 3) := by decide +kernel
theorem dX4_houseNow_18 : decode cX4_houseNow 18 = .ok (.goto 19, 3) := by decide +kernel
theorem dX4_houseNow_21 : decode cX4_houseNow 21 = .ok (.iload_n 1, 1) := by decide +kernel
theorem dX4_houseNow_22 : decode cX4_houseNow 22 = .ok (.iconst 2, 1) := by decide +kernel
theorem dX4_houseNow_23 : decode cX4_houseNow 23 = .ok (.if_icmp .ne 10, 3) := by decide +kernel
theorem dX4_houseNow_26 : decode cX4_houseNow 26 = .ok (.aload_n 0, 1) := by decide +kernel
theorem dX4_houseNow_27 : decode cX4_houseNow 27 = .ok (.getfield 80, 3) := by decide +kernel
theorem dX4_houseNow_30 : decode cX4_houseNow 30 = .ok (.goto 7, 3) := by decide +kernel
theorem dX4_houseNow_33 : decode cX4_houseNow 33 = .ok (.aload_n 0, 1) := by decide +kernel
theorem dX4_houseNow_34 : decode cX4_houseNow 34 = .ok (.getfield 169, 3) := by decide +kernel
theorem dX4_houseNow_37 : decode cX4_houseNow 37 = .ok (.ireturn, 1) := by decide +kernel
theorem dX4_houseNow_38 : decode cX4_houseNow 38 = .ok (.iconst 0, 1) := by decide +kernel
theorem dX4_houseNow_39 : decode cX4_houseNow 39 = .ok (.istore_n 2, 1) := by decide +kernel
theorem dX4_houseNow_40 : decode cX4_houseNow 40 = .ok (.iconst 0, 1) := by decide +kernel
theorem dX4_houseNow_41 : decode cX4_houseNow 41 = .ok (.istore_n 3, 1) := by decide +kernel
theorem dX4_houseNow_42 : decode cX4_houseNow 42 = .ok (.iload_n 3, 1) := by decide +kernel
theorem dX4_houseNow_43 : decode cX4_houseNow 43 = .ok (.iconst 3, 1) := by decide +kernel
theorem dX4_houseNow_44 : decode cX4_houseNow 44 = .ok (.if_icmp .ge 38, 3) := by decide +kernel
theorem dX4_houseNow_47 : decode cX4_houseNow 47 = .ok (.iload_n 2, 1) := by decide +kernel
theorem dX4_houseNow_48 : decode cX4_houseNow 48 = .ok (.iload_n 1, 1) := by decide +kernel
theorem dX4_houseNow_49 : decode cX4_houseNow 49 = .ok (.ifCond .ne 12, 3) := by decide +kernel
theorem dX4_houseNow_52 : decode cX4_houseNow 52 = .ok (.aload_n 0, 1) := by decide +kernel
theorem dX4_houseNow_53 : decode cX4_houseNow 53 = .ok (.getfield 18, 3) := by decide +kernel
theorem dX4_houseNow_56 : decode cX4_houseNow 56 = .ok (.iload_n 3, 1) := by decide +kernel
theorem dX4_houseNow_57 : decode cX4_houseNow 57 = .ok (.iaload, 1) := by decide +kernel
theorem dX4_houseNow_58 : decode cX4_houseNow 58 = .ok (.goto 16, 3) := by decide +kernel
theorem dX4_houseNow_61 : decode cX4_houseNow 61 = .ok (.aload_n 0, 1) := by decide +kernel
theorem dX4_houseNow_62 : decode cX4_houseNow 62 = .ok (.iload_n 3, 1) := by decide +kernel
theorem dX4_houseNow_63 : decode cX4_houseNow 63 = .ok (.invokevirtual 148, 3) := by decide +kernel
theorem dX4_houseNow_66 : decode cX4_houseNow 66 = .ok (.ifCond .eq 7, 3) := by decide +kernel
theorem dX4_houseNow_69 : decode cX4_houseNow 69 = .ok (.iconst 1, 1) := by decide +kernel
theorem dX4_houseNow_70 : decode cX4_houseNow 70 = .ok (.goto 4, 3) := by decide +kernel
theorem dX4_houseNow_73 : decode cX4_houseNow 73 = .ok (.iconst 0, 1) := by decide +kernel
theorem dX4_houseNow_74 : decode cX4_houseNow 74 = .ok (.iadd, 1) := by decide +kernel
theorem dX4_houseNow_75 : decode cX4_houseNow 75 = .ok (.istore_n 2, 1) := by decide +kernel
theorem dX4_houseNow_76 : decode cX4_houseNow 76 = .ok (.iinc 3 1, 3) := by decide +kernel
theorem dX4_houseNow_79 : decode cX4_houseNow 79 = .ok (.goto (-37), 3) := by decide +kernel
theorem dX4_houseNow_82 : decode cX4_houseNow 82 = .ok (.iload_n 2, 1) := by decide +kernel
theorem dX4_houseNow_83 : decode cX4_houseNow 83 = .ok (.ireturn, 1) := by decide +kernel
theorem dX4_house_0 : decode cX4_house 0 = .ok (.aload_n 0, 1) := by decide +kernel
theorem dX4_house_1 : decode cX4_house 1 = .ok (.iload_n 1, 1) := by decide +kernel
theorem dX4_house_2 : decode cX4_house 2 = .ok (.ifCond .lt 8, 3) := by decide +kernel
theorem dX4_house_5 : decode cX4_house 5 = .ok (.iload_n 1, 1) := by decide +kernel
theorem dX4_house_6 : decode cX4_house 6 = .ok (.iconst 4, 1) := by decide +kernel
theorem dX4_house_7 : decode cX4_house 7 = .ok (.if_icmp .le 7, 3) := by decide +kernel
theorem dX4_house_10 : decode cX4_house 10 = .ok (.iconst 1, 1) := by decide +kernel
theorem dX4_house_11 : decode cX4_house 11 = .ok (.goto 4, 3) := by decide +kernel
theorem dX4_house_14 : decode cX4_house 14 = .ok (.iconst 0, 1) := by decide +kernel
theorem dX4_house_15 : decode cX4_house 15 = .ok (.invokevirtual 100, 3) := by decide +kernel
theorem dX4_house_18 : decode cX4_house 18 = .ok (.ifCond .eq 7, 3) := by decide +kernel
theorem dX4_house_21 : decode cX4_house 21 = .ok (.iconst 0, 1) := by decide +kernel
theorem dX4_house_22 : decode cX4_house 22 = .ok (.goto 8, 3) := by decide +kernel
theorem dX4_house_25 : decode cX4_house 25 = .ok (.aload_n 0, 1) := by decide +kernel
theorem dX4_house_26 : decode cX4_house 26 = .ok (.iload_n 1, 1) := by decide +kernel
theorem dX4_house_27 : decode cX4_house 27 = .ok (.invokevirtual 172, 3) := by decide +kernel
theorem dX4_house_30 : decode cX4_house 30 = .ok (.ireturn, 1) := by decide +kernel
theorem dX4_knock_0 : decode cX4_knock 0 = .ok (.aload_n 0, 1) := by decide +kernel
theorem dX4_knock_1 : decode cX4_knock 1 = .ok (.iconst 0, 1) := by decide +kernel
theorem dX4_knock_2 : decode cX4_knock 2 = .ok (.putfield 30, 3) := by decide +kernel
theorem dX4_knock_5 : decode cX4_knock 5 = .ok (.aload_n 0, 1) := by decide +kernel
theorem dX4_knock_6 : decode cX4_knock 6 = .ok (.dup, 1) := by decide +kernel
theorem dX4_knock_7 : decode cX4_knock 7 = .ok (.getfield 169, 3) := by decide +kernel
theorem dX4_knock_10 : decode cX4_knock 10 = .ok (.iconst 1, 1) := by decide +kernel
theorem dX4_knock_11 : decode cX4_knock 11 = .ok (.iadd, 1) := by decide +kernel
theorem dX4_knock_12 : decode cX4_knock 12 = .ok (.putfield 169, 3) := by decide +kernel
theorem dX4_knock_15 : decode cX4_knock 15 = .ok (.aload_n 0, 1) := by decide +kernel
theorem dX4_knock_16 : decode cX4_knock 16 = .ok (.getfield 169, 3) := by decide +kernel
theorem dX4_knock_19 : decode cX4_knock 19 = .ok (.ireturn, 1) := by decide +kernel
theorem dX4_isSoundNow_0 : decode cX4_isSoundNow 0 = .ok (.iconst 0, 1) := by decide +kernel
theorem dX4_isSoundNow_1 : decode cX4_isSoundNow 1 = .ok (.istore_n 1, 1) := by decide +kernel
theorem dX4_isSoundNow_2 : decode cX4_isSoundNow 2 = .ok (.iconst 0, 1) := by decide +kernel
theorem dX4_isSoundNow_3 : decode cX4_isSoundNow 3 = .ok (.istore_n 2, 1) := by decide +kernel
theorem dX4_isSoundNow_4 : decode cX4_isSoundNow 4 = .ok (.iload_n 2, 1) := by decide +kernel
theorem dX4_isSoundNow_5 : decode cX4_isSoundNow 5 = .ok (.bipush 31, 2) := by decide +kernel
theorem dX4_isSoundNow_7 : decode cX4_isSoundNow 7 = .ok (.if_icmp .ge 21, 3) := by decide +kernel
theorem dX4_isSoundNow_10 : decode cX4_isSoundNow 10 = .ok (.iload_n 1, 1) := by decide +kernel
theorem dX4_isSoundNow_11 : decode cX4_isSoundNow 11 = .ok (.aload_n 0, 1) := by decide +kernel
theorem dX4_isSoundNow_12 : decode cX4_isSoundNow 12 = .ok (.iload_n 2, 1) := by decide +kernel
theorem dX4_isSoundNow_13 : decode cX4_isSoundNow 13 = .ok (.iconst 0, 1) := by decide +kernel
theorem dX4_isSoundNow_14 : decode cX4_isSoundNow 14 = .ok (.sipush 255, 3) := by decide +kernel
theorem dX4_isSoundNow_17 : decode cX4_isSoundNow 17 = .ok (.invokevirtual 175, 3) := by decide +kernel
theorem dX4_isSoundNow_20 : decode cX4_isSoundNow 20 = .ok (.iadd, 1) := by decide +kernel
theorem dX4_isSoundNow_21 : decode cX4_isSoundNow 21 = .ok (.istore_n 1, 1) := by decide +kernel
theorem dX4_isSoundNow_22 : decode cX4_isSoundNow 22 = .ok (.iinc 2 1, 3) := by decide +kernel
theorem dX4_isSoundNow_25 : decode cX4_isSoundNow 25 = .ok (.goto (-21), 3) := by decide +kernel
theorem dX4_isSoundNow_28 : decode cX4_isSoundNow 28 = .ok (.iload_n 1, 1) := by decide +kernel
theorem dX4_isSoundNow_29 : decode cX4_isSoundNow 29 = .ok (.sipush 256, 3) := by decide +kernel
theorem dX4_isSoundNow_32 : decode cX4_isSoundNow 32 = .ok (.if_icmp .ne 7, 3) := by decide +kernel
theorem dX4_isSoundNow_35 : decode cX4_isSoundNow 35 = .ok (.iconst 1, 1) := by decide +kernel
theorem dX4_isSoundNow_36 : decode cX4_isSoundNow 36 = .ok (.goto 4, 3) := by decide +kernel
theorem dX4_isSoundNow_39 : decode cX4_isSoundNow 39 = .ok (.iconst 0, 1) := by decide +kernel
theorem dX4_isSoundNow_40 : decode cX4_isSoundNow 40 = .ok (.istore_n 2, 1) := by decide +kernel
theorem dX4_isSoundNow_41 : decode cX4_isSoundNow 41 = .ok (.iconst 0, 1) := by decide +kernel
theorem dX4_isSoundNow_42 : decode cX4_isSoundNow 42 = .ok (.istore_n 3, 1) := by decide +kernel
theorem dX4_isSoundNow_43 : decode cX4_isSoundNow 43 = .ok (.iload_n 3, 1) := by decide +kernel
theorem dX4_isSoundNow_44 : decode cX4_isSoundNow 44 = .ok (.iconst 3, 1) := by decide +kernel
theorem dX4_isSoundNow_45 : decode cX4_isSoundNow 45 = .ok (.if_icmp .ge 96, 3) := by decide +kernel
theorem dX4_isSoundNow_48 : decode cX4_isSoundNow 48 = .ok (.aload_n 0, 1) := by decide +kernel
theorem dX4_isSoundNow_49 : decode cX4_isSoundNow 49 = .ok (.iload_n 3, 1) := by decide +kernel
theorem dX4_isSoundNow_50 : decode cX4_isSoundNow 50 = .ok (.invokevirtual 157, 3) := by decide +kernel
theorem dX4_isSoundNow_53 : decode cX4_isSoundNow 53 = .ok (.istore 4, 2) := by decide +kernel
theorem dX4_isSoundNow_55 : decode cX4_isSoundNow 55 = .ok (.aload_n 0, 1) := by decide +kernel
theorem dX4_isSoundNow_56 : decode cX4_isSoundNow 56 = .ok (.iload_n 3, 1) := by decide +kernel
theorem dX4_isSoundNow_57 : decode cX4_isSoundNow 57 = .ok (.invokevirtual 154, 3) := by decide +kernel
theorem dX4_isSoundNow_60 : decode cX4_isSoundNow 60 = .ok (.istore 5, 2) := by decide +kernel
theorem dX4_isSoundNow_62 : decode cX4_isSoundNow 62 = .ok (.iload_n 2, 1) := by decide +kernel
theorem dX4_isSoundNow_63 : decode cX4_isSoundNow 63 = .ok (.iload 4, 2) := by decide +kernel
theorem dX4_isSoundNow_65 : decode cX4_isSoundNow 65 = .ok (.aload_n 0, 1) := by decide +kernel
theorem dX4_isSoundNow_66 : decode cX4_isSoundNow 66 = .ok (.iload_n 3, 1) := by decide +kernel
theorem dX4_isSoundNow_67 : decode cX4_isSoundNow 67 = .ok (.invokevirtual 160, 3) := by decide +kernel
theorem dX4_isSoundNow_70 : decode cX4_isSoundNow 70 = .ok (.if_icmp .ne 62, 3) := by decide +kernel
theorem dX4_isSoundNow_73 : decode cX4_isSoundNow 73 = .ok (.iload 5, 2) := by decide +kernel
theorem dX4_isSoundNow_75 : decode cX4_isSoundNow 75 = .ok (.aload_n 0, 1) := by decide +kernel
theorem dX4_isSoundNow_76 : decode cX4_isSoundNow 76 = .ok (.iload_n 3, 1) := by decide +kernel
theorem dX4_isSoundNow_77 : decode cX4_isSoundNow 77 = .ok (.invokevirtual 163, 3) := by decide +kernel
theorem dX4_isSoundNow_80 : decode cX4_isSoundNow 80 = .ok (.if_icmp .ne 52, 3) := by decide +kernel
theorem dX4_isSoundNow_83 : decode cX4_isSoundNow 83 = .ok (.aload_n 0, 1) := by decide +kernel
theorem dX4_isSoundNow_84 : decode cX4_isSoundNow 84 = .ok (.iload_n 3, 1) := by decide +kernel
theorem dX4_isSoundNow_85 : decode cX4_isSoundNow 85 = .ok (.iload 4, 2) := by decide +kernel
theorem dX4_isSoundNow_87 : decode cX4_isSoundNow 87 = .ok (.invokevirtual 166, 3) := by decide +kernel
theorem dX4_isSoundNow_90 : decode cX4_isSoundNow 90 = .ok (.iload 5, 2) := by decide +kernel
theorem dX4_isSoundNow_92 : decode cX4_isSoundNow 92 = .ok (.if_icmp .ne 40, 3) := by decide +kernel
theorem dX4_isSoundNow_95 : decode cX4_isSoundNow 95 = .ok (.aload_n 0, 1) := by decide +kernel
theorem dX4_isSoundNow_96 : decode cX4_isSoundNow 96 = .ok (.iload_n 3, 1) := by decide +kernel
theorem dX4_isSoundNow_97 : decode cX4_isSoundNow 97 = .ok (.invokevirtual 148, 3) := by decide +kernel
theorem dX4_isSoundNow_100 : decode cX4_isSoundNow 100 = .ok (.aload_n 0, 1) := by decide +kernel
theorem dX4_isSoundNow_101 : decode cX4_isSoundNow 101 = .ok (.iload_n 3, 1) := by decide +kernel
theorem dX4_isSoundNow_102 : decode cX4_isSoundNow 102 = .ok (.invokevirtual 151, 3) := by decide +kernel
theorem dX4_isSoundNow_105 : decode cX4_isSoundNow 105 = .ok (.iconst (-1), 1) := by decide +kernel
theorem dX4_isSoundNow_106 : decode cX4_isSoundNow 106 = .ok (.if_icmp .ne 7, 3) := by decide +kernel
theorem dX4_isSoundNow_109 : decode cX4_isSoundNow 109 = .ok (.iconst 1, 1) := by decide +kernel
theorem dX4_isSoundNow_110 : decode cX4_isSoundNow 110 = .ok (.goto 4, 3) := by decide +kernel
theorem dX4_isSoundNow_113 : decode cX4_isSoundNow 113 = .ok (.iconst 0, 1) := by decide +kernel
theorem dX4_isSoundNow_114 : decode cX4_isSoundNow 114 = .ok (.if_icmp .ne 18, 3) := by decide +kernel
theorem dX4_isSoundNow_117 : decode cX4_isSoundNow 117 = .ok (.aload_n 0, 1) := by decide +kernel
theorem dX4_isSoundNow_118 : decode cX4_isSoundNow 118 = .ok (.getfield 18, 3) := by decide +kernel
theorem dX4_isSoundNow_121 : decode cX4_isSoundNow 121 = .ok (.iload_n 3, 1) := by decide +kernel
theorem dX4_isSoundNow_122 : decode cX4_isSoundNow 122 = .ok (.iaload, 1) := by decide +kernel
theorem dX4_isSoundNow_123 : decode cX4_isSoundNow 123 = .ok (.bipush 30, 2) := by decide +kernel
theorem dX4_isSoundNow_125 : decode cX4_isSoundNow 125 = .ok (.if_icmp .gt 7, 3) := by decide +kernel
theorem dX4_isSoundNow_128 : decode cX4_isSoundNow 128 = .ok (.iconst 1, 1) := by decide +kernel
theorem dX4_isSoundNow_129 : decode cX4_isSoundNow 129 = .ok (.goto 4, 3) := by decide +kernel
theorem dX4_isSoundNow_132 : decode cX4_isSoundNow 132 = .ok (.iconst 0, 1) := by decide +kernel
theorem dX4_isSoundNow_133 : decode cX4_isSoundNow 133 = .ok (.iand, 1) := by decide +kernel
theorem dX4_isSoundNow_134 : decode cX4_isSoundNow 134 = .ok (.istore_n 2, 1) := by decide +kernel
theorem dX4_isSoundNow_135 : decode cX4_isSoundNow 135 = .ok (.iinc 3 1, 3) := by decide +kernel
theorem dX4_isSoundNow_138 : decode cX4_isSoundNow 138 = .ok (.goto (-95), 3) := by decide +kernel
theorem dX4_isSoundNow_141 : decode cX4_isSoundNow 141 = .ok (.iload_n 2, 1) := by decide +kernel
theorem dX4_isSoundNow_142 : decode cX4_isSoundNow 142 = .ok (.ireturn, 1) := by decide +kernel
theorem dX4_isSound_0 : decode cX4_isSound 0 = .ok (.aload_n 0, 1) := by decide +kernel
theorem dX4_isSound_1 : decode cX4_isSound 1 = .ok (.invokevirtual 178, 3) := by decide +kernel
theorem dX4_isSound_4 : decode cX4_isSound 4 = .ok (.istore_n 1, 1) := by decide +kernel
theorem dX4_isSound_5 : decode cX4_isSound 5 = .ok (.aload_n 0, 1) := by decide +kernel
theorem dX4_isSound_6 : decode cX4_isSound 6 = .ok (.iconst 0, 1) := by decide +kernel
theorem dX4_isSound_7 : decode cX4_isSound 7 = .ok (.putfield 30, 3) := by decide +kernel
theorem dX4_isSound_10 : decode cX4_isSound 10 = .ok (.iload_n 1, 1) := by decide +kernel
theorem dX4_isSound_11 : decode cX4_isSound 11 = .ok (.ireturn, 1) := by decide +kernel
theorem dX4_digest_0 : decode cX4_digest 0 = .ok (.ldc2_w 182, 3) := by decide +kernel
theorem dX4_digest_3 : decode cX4_digest 3 = .ok (.lstore_n 1, 1) := by decide +kernel
theorem dX4_digest_4 : decode cX4_digest 4 = .ok (.iconst 0, 1) := by decide +kernel
theorem dX4_digest_5 : decode cX4_digest 5 = .ok (.istore_n 3, 1) := by decide +kernel
theorem dX4_digest_6 : decode cX4_digest 6 = .ok (.iload_n 3, 1) := by decide +kernel
theorem dX4_digest_7 : decode cX4_digest 7 = .ok (.iconst 3, 1) := by decide +kernel
theorem dX4_digest_8 : decode cX4_digest 8 = .ok (.if_icmp .ge 159, 3) := by decide +kernel
theorem dX4_digest_11 : decode cX4_digest 11 = .ok (.lload_n 1, 1) := by decide +kernel
theorem dX4_digest_12 : decode cX4_digest 12 = .ok (.ldc2_w 184, 3) := by decide +kernel
theorem dX4_digest_15 : decode cX4_digest 15 = .ok (.lmul, 1) := by decide +kernel
theorem dX4_digest_16 : decode cX4_digest 16 = .ok (.aload_n 0, 1) := by decide +kernel
theorem dX4_digest_17 : decode cX4_digest 17 = .ok (.getfield 18, 3) := by decide +kernel
theorem dX4_digest_20 : decode cX4_digest 20 = .ok (.iload_n 3, 1) := by decide +kernel
theorem dX4_digest_21 : decode cX4_digest 21 = .ok (.iaload, 1) := by decide +kernel
theorem dX4_digest_22 : decode cX4_digest 22 = .ok (.i2l, 1) := by decide +kernel
theorem dX4_digest_23 : decode cX4_digest 23 = .ok (.ladd, 1) := by decide +kernel
theorem dX4_digest_24 : decode cX4_digest 24 = .ok (.lstore_n 1, 1) := by decide +kernel
theorem dX4_digest_25 : decode cX4_digest 25 = .ok (.iconst 0, 1) := by decide +kernel
theorem dX4_digest_26 : decode cX4_digest 26 = .ok (.istore 4, 2) := by decide +kernel
theorem dX4_digest_28 : decode cX4_digest 28 = .ok (.iload 4, 2) := by decide +kernel
theorem dX4_digest_30 : decode cX4_digest 30 = .ok (.aload_n 0, 1) := by decide +kernel
theorem dX4_digest_31 : decode cX4_digest 31 = .ok (.getfield 18, 3) := by decide +kernel
theorem dX4_digest_34 : decode cX4_digest 34 = .ok (.iload_n 3, 1) := by decide +kernel
theorem dX4_digest_35 : decode cX4_digest 35 = .ok (.iaload, 1) := by decide +kernel
theorem dX4_digest_36 : decode cX4_digest 36 = .ok (.if_icmp .ge 46, 3) := by decide +kernel
theorem dX4_digest_39 : decode cX4_digest 39 = .ok (.lload_n 1, 1) := by decide +kernel
theorem dX4_digest_40 : decode cX4_digest 40 = .ok (.ldc2_w 184, 3) := by decide +kernel
theorem dX4_digest_43 : decode cX4_digest 43 = .ok (.lmul, 1) := by decide +kernel
theorem dX4_digest_44 : decode cX4_digest 44 = .ok (.aload_n 0, 1) := by decide +kernel
theorem dX4_digest_45 : decode cX4_digest 45 = .ok (.getfield 15, 3) := by decide +kernel
theorem dX4_digest_48 : decode cX4_digest 48 = .ok (.iload_n 3, 1) := by decide +kernel
theorem dX4_digest_49 : decode cX4_digest 49 = .ok (.aaload, 1) := by decide +kernel
theorem dX4_digest_50 : decode cX4_digest 50 = .ok (.iload 4, 2) := by decide +kernel
theorem dX4_digest_52 : decode cX4_digest 52 = .ok (.iaload, 1) := by decide +kernel
theorem dX4_digest_53 : decode cX4_digest 53 = .ok (.i2l, 1) := by decide +kernel
theorem dX4_digest_54 : decode cX4_digest 54 = .ok (.ladd, 1) := by decide +kernel
theorem dX4_digest_55 : decode cX4_digest 55 = .ok (.ldc2_w 184, 3) := by decide +kernel
theorem dX4_digest_58 : decode cX4_digest 58 = .ok (.lmul, 1) := by decide +kernel
theorem dX4_digest_59 : decode cX4_digest 59 = .ok (.aload_n 0, 1) := by decide +kernel
theorem dX4_digest_60 : decode cX4_digest 60 = .ok (.getfield 7, 3) := by decide +kernel
theorem dX4_digest_63 : decode cX4_digest 63 = .ok (.aload_n 0, 1) := by decide +kernel
theorem dX4_digest_64 : decode cX4_digest 64 = .ok (.getfield 15, 3) := by decide +kernel
theorem dX4_digest_67 : decode cX4_digest 67 = .ok (.iload_n 3, 1) := by decide +kernel
theorem dX4_digest_68 : decode cX4_digest 68 = .ok (.aaload, 1) := by decide +kernel
theorem dX4_digest_69 : decode cX4_digest 69 = .ok (.iload 4, 2) := by decide +kernel
theorem dX4_digest_71 : decode cX4_digest 71 = .ok (.iaload, 1) := by decide +kernel
theorem dX4_digest_72 : decode cX4_digest 72 = .ok (.iaload, 1) := by decide +kernel
theorem dX4_digest_73 : decode cX4_digest 73 = .ok (.i2l, 1) := by decide +kernel
theorem dX4_digest_74 : decode cX4_digest 74 = .ok (.ladd, 1) := by decide +kernel
theorem dX4_digest_75 : decode cX4_digest 75 = .ok (.lstore_n 1, 1) := by decide +kernel
theorem dX4_digest_76 : decode cX4_digest 76 = .ok (.iinc 4 1, 3) := by decide +kernel
theorem dX4_digest_79 : decode cX4_digest 79 = .ok (.goto (-51), 3) := by decide +kernel
theorem dX4_digest_82 : decode cX4_digest 82 = .ok (.iconst 0, 1) := by decide +kernel
theorem dX4_digest_83 : decode cX4_digest 83 = .ok (.istore 4, 2) := by decide +kernel
theorem dX4_digest_85 : decode cX4_digest 85 = .ok (.iload 4, 2) := by decide +kernel
theorem dX4_digest_87 : decode cX4_digest 87 = .ok (.bipush 14, 2) := by decide +kernel
theorem dX4_digest_89 : decode cX4_digest 89 = .ok (.if_icmp .ge 24, 3) := by decide +kernel
theorem dX4_digest_92 : decode cX4_digest 92 = .ok (.lload_n 1, 1) := by decide +kernel
theorem dX4_digest_93 : decode cX4_digest 93 = .ok (.ldc2_w 184, 3) := by decide +kernel
theorem dX4_digest_96 : decode cX4_digest 96 = .ok (.lmul, 1) := by decide +kernel
theorem dX4_digest_97 : decode cX4_digest 97 = .ok (.aload_n 0, 1) := by decide +kernel
theorem dX4_digest_98 : decode cX4_digest 98 = .ok (.iload_n 3, 1) := by decide +kernel
theorem dX4_digest_99 : decode cX4_digest 99 = .ok (.iload 4, 2) := by decide +kernel
theorem dX4_digest_101 : decode cX4_digest 101 = .ok (.invokevirtual 145, 3) := by decide +kernel
theorem dX4_digest_104 : decode cX4_digest 104 = .ok (.i2l, 1) := by decide +kernel
theorem dX4_digest_105 : decode cX4_digest 105 = .ok (.ladd, 1) := by decide +kernel
theorem dX4_digest_106 : decode cX4_digest 106 = .ok (.lstore_n 1, 1) := by decide +kernel
theorem dX4_digest_107 : decode cX4_digest 107 = .ok (.iinc 4 1, 3) := by decide +kernel
theorem dX4_digest_110 : decode cX4_digest 110 = .ok (.goto (-25), 3) := by decide +kernel
theorem dX4_digest_113 : decode cX4_digest 113 = .ok (.lload_n 1, 1) := by decide +kernel
theorem dX4_digest_114 : decode cX4_digest 114 = .ok (.ldc2_w 184, 3) := by decide +kernel
theorem dX4_digest_117 : decode cX4_digest 117 = .ok (.lmul, 1) := by decide +kernel
theorem dX4_digest_118 : decode cX4_digest 118 = .ok (.aload_n 0, 1) := by decide +kernel
theorem dX4_digest_119 : decode cX4_digest 119 = .ok (.iload_n 3, 1) := by decide +kernel
theorem dX4_digest_120 : decode cX4_digest 120 = .ok (.invokevirtual 151, 3) := by decide +kernel
theorem dX4_digest_123 : decode cX4_digest 123 = .ok (.i2l, 1) := by decide +kernel
theorem dX4_digest_124 : decode cX4_digest 124 = .ok (.ladd, 1) := by decide +kernel
theorem dX4_digest_125 : decode cX4_digest 125 = .ok (.ldc2_w 184, 3) := by decide +kernel
theorem dX4_digest_128 : decode cX4_digest 128 = .ok (.lmul, 1) := by decide +kernel
theorem dX4_digest_129 : decode cX4_digest 129 = .ok (.aload_n 0, 1) := by decide +kernel
theorem dX4_digest_130 : decode cX4_digest 130 = .ok (.iload_n 3, 1) := by decide +kernel
theorem dX4_digest_131 : decode cX4_digest 131 = .ok (.invokevirtual 154, 3) := by decide +kernel
theorem dX4_digest_134 : decode cX4_digest 134 = .ok (.i2l, 1) := by decide +kernel
theorem dX4_digest_135 : decode cX4_digest 135 = .ok (.ladd, 1) := by decide +kernel
theorem dX4_digest_136 : decode cX4_digest 136 = .ok (.lstore_n 1, 1) := by decide +kernel
theorem dX4_digest_137 : decode cX4_digest 137 = .ok (.lload_n 1, 1) := by decide +kernel
theorem dX4_digest_138 : decode cX4_digest 138 = .ok (.ldc2_w 184, 3) := by decide +kernel
theorem dX4_digest_141 : decode cX4_digest 141 = .ok (.lmul, 1) := by decide +kernel
theorem dX4_digest_142 : decode cX4_digest 142 = .ok (.aload_n 0, 1) := by decide +kernel
theorem dX4_digest_143 : decode cX4_digest 143 = .ok (.iload_n 3, 1) := by decide +kernel
theorem dX4_digest_144 : decode cX4_digest 144 = .ok (.invokevirtual 157, 3) := by decide +kernel
theorem dX4_digest_147 : decode cX4_digest 147 = .ok (.i2l, 1) := by decide +kernel
theorem dX4_digest_148 : decode cX4_digest 148 = .ok (.ladd, 1) := by decide +kernel
theorem dX4_digest_149 : decode cX4_digest 149 = .ok (.ldc2_w 184, 3) := by decide +kernel
theorem dX4_digest_152 : decode cX4_digest 152 = .ok (.lmul, 1) := by decide +kernel
theorem dX4_digest_153 : decode cX4_digest 153 = .ok (.aload_n 0, 1) := by decide +kernel
theorem dX4_digest_154 : decode cX4_digest 154 = .ok (.iload_n 3, 1) := by decide +kernel
theorem dX4_digest_155 : decode cX4_digest 155 = .ok (.invokevirtual 163, 3) := by decide +kernel
theorem dX4_digest_158 : decode cX4_digest 158 = .ok (.i2l, 1) := by decide +kernel
theorem dX4_digest_159 : decode cX4_digest 159 = .ok (.ladd, 1) := by decide +kernel
theorem dX4_digest_160 : decode cX4_digest 160 = .ok (.lstore_n 1, 1) := by decide +kernel
theorem dX4_digest_161 : decode cX4_digest 161 = .ok (.iinc 3 1, 3) := by decide +kernel
theorem dX4_digest_164 : decode cX4_digest 164 = .ok (.goto (-158), 3) := by decide +kernel
theorem dX4_digest_167 : decode cX4_digest 167 = .ok (.iconst 0, 1) := by decide +kernel
theorem dX4_digest_168 : decode cX4_digest 168 = .ok (.istore_n 3, 1) := by decide +kernel
theorem dX4_digest_169 : decode cX4_digest 169 = .ok (.iload_n 3, 1) := by decide +kernel
theorem dX4_digest_170 : decode cX4_digest 170 = .ok (.iconst 5, 1) := by decide +kernel
theorem dX4_digest_171 : decode cX4_digest 171 = .ok (.if_icmp .ge 22, 3) := by decide +kernel
theorem dX4_digest_174 : decode cX4_digest 174 = .ok (.lload_n 1, 1) := by decide +kernel
theorem dX4_digest_175 : decode cX4_digest 175 = .ok (.ldc2_w 184, 3) := by decide +kernel
theorem dX4_digest_178 : decode cX4_digest 178 = .ok (.lmul, 1) := by decide +kernel
theorem dX4_digest_179 : decode cX4_digest 179 = .ok (.aload_n 0, 1) := by decide +kernel
theorem dX4_digest_180 : decode cX4_digest 180 = .ok (.iload_n 3, 1) := by decide +kernel
theorem dX4_digest_181 : decode cX4_digest 181 = .ok (.invokevirtual 172, 3) := by decide +kernel
theorem dX4_digest_184 : decode cX4_digest 184 = .ok (.i2l, 1) := by decide +kernel
theorem dX4_digest_185 : decode cX4_digest 185 = .ok (.ladd, 1) := by decide +kernel
theorem dX4_digest_186 : decode cX4_digest 186 = .ok (.lstore_n 1, 1) := by decide +kernel
theorem dX4_digest_187 : decode cX4_digest 187 = .ok (.iinc 3 1, 3) := by decide +kernel
theorem dX4_digest_190 : decode cX4_digest 190 = .ok (.goto (-21), 3) := by decide +kernel
theorem dX4_digest_193 : decode cX4_digest 193 = .ok (.lload_n 1, 1) := by decide +kernel
theorem dX4_digest_194 : decode cX4_digest 194 = .ok (.ldc2_w 184, 3) := by decide +kernel
theorem dX4_digest_197 : decode cX4_digest 197 = .ok (.lmul, 1) := by decide +kernel
theorem dX4_digest_198 : decode cX4_digest 198 = .ok (.aload_n 0, 1) := by decide +kernel
theorem dX4_digest_199 : decode cX4_digest 199 = .ok (.invokevirtual 178, 3) := by decide +kernel
theorem dX4_digest_202 : decode cX4_digest 202 = .ok (.ifCond .eq 7, 3) := by decide +kernel
theorem dX4_digest_205 : decode cX4_digest 205 = .ok (.iconst 1, 1) := by decide +kernel
theorem dX4_digest_206 : decode cX4_digest 206 = .ok (.goto 4, 3) := by decide +kernel
theorem dX4_digest_209 : decode cX4_digest 209 = .ok (.iconst 0, 1) := by decide +kernel
theorem dX4_digest_210 : decode cX4_digest 210 = .ok (.i2l, 1) := by decide +kernel
theorem dX4_digest_211 : decode cX4_digest 211 = .ok (.ladd, 1) := by decide +kernel
theorem dX4_digest_212 : decode cX4_digest 212 = .ok (.lstore_n 1, 1) := by decide +kernel
theorem dX4_digest_213 : decode cX4_digest 213 = .ok (.aload_n 0, 1) := by decide +kernel
theorem dX4_digest_214 : decode cX4_digest 214 = .ok (.iconst 0, 1) := by decide +kernel
theorem dX4_digest_215 : decode cX4_digest 215 = .ok (.putfield 30, 3) := by decide +kernel
theorem dX4_digest_218 : decode cX4_digest 218 = .ok (.lload_n 1, 1) := by decide +kernel
theorem dX4_digest_219 : decode cX4_digest 219 = .ok (.lreturn, 1) := by decide +kernel
