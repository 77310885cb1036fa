theorem xd_Mo_put_0 : decode xb_Mo_put 0 = .ok (.aload_n 0, 1) := by decide +kernel
theorem xd_Mo_put_1 : decode xb_Mo_put 1 = .ok (.getfield 13, 3) := by decide +kernel
theorem xd_Mo_put_4 : decode xb_Mo_put 4 = .ok (.iload_n 1, 1) := by decide +kernel
theorem xd_Mo_put_5 : decode xb_Mo_put 5 = .ok (.iload_n 2, 1) := by decide +kernel
theorem xd_Mo_put_6 : decode xb_Mo_put 6 = .ok (.iastore, 1) := by decide +kernel
theorem xd_Mo_put_7 : decode xb_Mo_put 7 = .ok (.aload_n 0, 1) := by decide +kernel
theorem xd_Mo_put_8 : decode xb_Mo_put 8 = .ok (.getfield 16, 3) := by decide +kernel
theorem xd_Mo_put_11 : decode xb_Mo_put 11 = .ok (.iload_n 1, 1) := by decide +kernel
theorem xd_Mo_put_12 : decode xb_Mo_put 12 = .ok (.iload_n 3, 1) := by decide +kernel
theorem xd_Mo_put_13 : decode xb_Mo_put 13 = .ok (.iastore, 1) := by decide +kernel
theorem xd_Mo_put_14 : decode xb_Mo_put 14 = .ok (.return_, 1) := by decide +kernel
theorem xd_Mo_keep_0 : decode xb_Mo_keep 0 = .ok (.aload_n 0, 1) := by decide +kernel
theorem xd_Mo_keep_1 : decode xb_Mo_keep 1 = .ok (.aload_n 0, 1) := by decide +kernel
theorem xd_Mo_keep_2 : decode xb_Mo_keep 2 = .ok (.getfield 52, 3) := by decide +kernel
theorem xd_Mo_keep_5 : decode xb_Mo_keep 5 = .ok (.iconst 1, 1) := by decide +kernel
theorem xd_Mo_keep_6 : decode xb_Mo_keep 6 = .ok (.iadd, 1) := by decide +kernel
theorem xd_Mo_keep_7 : decode xb_Mo_keep 7 = .ok (.bipush 16, 2) := by decide +kernel
theorem xd_Mo_keep_9 : decode xb_Mo_keep 9 = .ok (.irem, 1) := by decide +kernel
theorem xd_Mo_keep_10 : decode xb_Mo_keep 10 = .ok (.putfield 52, 3) := by decide +kernel
theorem xd_Mo_keep_13 : decode xb_Mo_keep 13 = .ok (.aload_n 0, 1) := by decide +kernel
theorem xd_Mo_keep_14 : decode xb_Mo_keep 14 = .ok (.iconst 1, 1) := by decide +kernel
theorem xd_Mo_keep_15 : decode xb_Mo_keep 15 = .ok (.iconst 2, 1) := by decide +kernel
theorem xd_Mo_keep_16 : decode xb_Mo_keep 16 = .ok (.aload_n 0, 1) := by decide +kernel
theorem xd_Mo_keep_17 : decode xb_Mo_keep 17 = .ok (.getfield 52, 3) := by decide +kernel
theorem xd_Mo_keep_20 : decode xb_Mo_keep 20 = .ok (.iadd, 1) := by decide +kernel
theorem xd_Mo_keep_21 : decode xb_Mo_keep 21 = .ok (.invokevirtual 55, 3) := by decide +kernel
theorem xd_Mo_keep_24 : decode xb_Mo_keep 24 = .ok (.aload_n 0, 1) := by decide +kernel
theorem xd_Mo_keep_25 : decode xb_Mo_keep 25 = .ok (.aload_n 0, 1) := by decide +kernel
theorem xd_Mo_keep_26 : decode xb_Mo_keep 26 = .ok (.getfield 59, 3) := by decide +kernel
theorem xd_Mo_keep_29 : decode xb_Mo_keep 29 = .ok (.bipush 16, 2) := by decide +kernel
theorem xd_Mo_keep_31 : decode xb_Mo_keep 31 = .ok (.if_icmp .ge 12, 3) := by decide +kernel
theorem xd_Mo_keep_34 : decode xb_Mo_keep 34 = .ok (.aload_n 0, 1) := by decide +kernel
theorem xd_Mo_keep_35 : decode xb_Mo_keep 35 = .ok (.getfield 59, 3) := by decide +kernel
theorem xd_Mo_keep_38 : decode xb_Mo_keep 38 = .ok (.iconst 1, 1) := by decide +kernel
theorem xd_Mo_keep_39 : decode xb_Mo_keep 39 = .ok (.iadd, 1) := by decide +kernel
theorem xd_Mo_keep_40 : decode xb_Mo_keep 40 = .ok (.goto 5, 3) := by decide +kernel
theorem xd_Mo_keep_43 : decode xb_Mo_keep 43 = .ok (.bipush 16, 2) := by decide +kernel
theorem xd_Mo_keep_45 : decode xb_Mo_keep 45 = .ok (.putfield 59, 3) := by decide +kernel
theorem xd_Mo_keep_48 : decode xb_Mo_keep 48 = .ok (.return_, 1) := by decide +kernel
theorem xd_Mo_noteUnlike_0 : decode xb_Mo_noteUnlike 0 = .ok (.aload_n 0, 1) := by decide +kernel
theorem xd_Mo_noteUnlike_1 : decode xb_Mo_noteUnlike 1 = .ok (.iconst 0, 1) := by decide +kernel
theorem xd_Mo_noteUnlike_2 : decode xb_Mo_noteUnlike 2 = .ok (.putfield 49, 3) := by decide +kernel
theorem xd_Mo_noteUnlike_5 : decode xb_Mo_noteUnlike 5 = .ok (.iconst 0, 1) := by decide +kernel
theorem xd_Mo_noteUnlike_6 : decode xb_Mo_noteUnlike 6 = .ok (.istore_n 1, 1) := by decide +kernel
theorem xd_Mo_noteUnlike_7 : decode xb_Mo_noteUnlike 7 = .ok (.iload_n 1, 1) := by decide +kernel
theorem xd_Mo_noteUnlike_8 : decode xb_Mo_noteUnlike 8 = .ok (.bipush 40, 2) := by decide +kernel
theorem xd_Mo_noteUnlike_10 : decode xb_Mo_noteUnlike 10 = .ok (.if_icmp .ge 38, 3) := by decide +kernel
theorem xd_Mo_noteUnlike_13 : decode xb_Mo_noteUnlike 13 = .ok (.aload_n 0, 1) := by decide +kernel
theorem xd_Mo_noteUnlike_14 : decode xb_Mo_noteUnlike 14 = .ok (.iconst 1, 1) := by decide +kernel
theorem xd_Mo_noteUnlike_15 : decode xb_Mo_noteUnlike 15 = .ok (.iload_n 1, 1) := by decide +kernel
theorem xd_Mo_noteUnlike_16 : decode xb_Mo_noteUnlike 16 = .ok (.invokevirtual 45, 3) := by decide +kernel
theorem xd_Mo_noteUnlike_19 : decode xb_Mo_noteUnlike 19 = .ok (.ifCond .eq 23, 3) := by decide +kernel
theorem xd_Mo_noteUnlike_22 : decode xb_Mo_noteUnlike 22 = .ok (.aload_n 0, 1) := by decide +kernel
theorem xd_Mo_noteUnlike_23 : decode xb_Mo_noteUnlike 23 = .ok (.getfield 22, 3) := by decide +kernel
theorem xd_Mo_noteUnlike_26 : decode xb_Mo_noteUnlike 26 = .ok (.aload_n 0, 1) := by decide +kernel
theorem xd_Mo_noteUnlike_27 : decode xb_Mo_noteUnlike 27 = .ok (.getfield 49, 3) := by decide +kernel
theorem xd_Mo_noteUnlike_30 : decode xb_Mo_noteUnlike 30 = .ok (.iload_n 1, 1) := by decide +kernel
theorem xd_Mo_noteUnlike_31 : decode xb_Mo_noteUnlike 31 = .ok (.iastore, 1) := by decide +kernel
theorem xd_Mo_noteUnlike_32 : decode xb_Mo_noteUnlike 32 = .ok (.aload_n 0, 1) := by decide +kernel
theorem xd_Mo_noteUnlike_33 : decode xb_Mo_noteUnlike 33 = .ok (.dup, 1) := by decide +kernel
theorem xd_Mo_noteUnlike_34 : decode xb_Mo_noteUnlike 34 = .ok (.getfield 49, 3) := by decide +kernel
theorem xd_Mo_noteUnlike_37 : decode xb_Mo_noteUnlike 37 = .ok (.iconst 1, 1) := by decide +kernel
theorem xd_Mo_noteUnlike_38 : decode xb_Mo_noteUnlike 38 = .ok (.iadd, 1) := by decide +kernel
theorem xd_Mo_noteUnlike_39 : decode xb_Mo_noteUnlike 39 = .ok (.putfield 49, 3) := by decide +kernel
theorem xd_Mo_noteUnlike_42 : decode xb_Mo_noteUnlike 42 = .ok (.iinc 1 1, 3) := by decide +kernel
theorem xd_Mo_noteUnlike_45 : decode xb_Mo_noteUnlike 45 = .ok (.goto (-38), 3) := by decide +kernel
theorem xd_Mo_noteUnlike_48 : decode xb_Mo_noteUnlike 48 = .ok (.aload_n 0, 1) := by decide +kernel
theorem xd_Mo_noteUnlike_49 : decode xb_Mo_noteUnlike 49 = .ok (.getfield 49, 3) := by decide +kernel
theorem xd_Mo_noteUnlike_52 : decode xb_Mo_noteUnlike 52 = .ok (.ireturn, 1) := by decide +kernel
theorem xd_Mo_isUnlike_0 : decode xb_Mo_isUnlike 0 = .ok (.aload_n 0, 1) := by decide +kernel
theorem xd_Mo_isUnlike_1 : decode xb_Mo_isUnlike 1 = .ok (.getfield 7, 3) := by decide +kernel
theorem xd_Mo_isUnlike_4 : decode xb_Mo_isUnlike 4 = .ok (.iload_n 2, 1) := by decide +kernel
theorem xd_Mo_isUnlike_5 : decode xb_Mo_isUnlike 5 = .ok (.iaload, 1) := by decide +kernel
theorem xd_Mo_isUnlike_6 : decode xb_Mo_isUnlike 6 = .ok (.aload_n 0, 1) := by decide +kernel
theorem xd_Mo_isUnlike_7 : decode xb_Mo_isUnlike 7 = .ok (.getfield 7, 3) := by decide +kernel
theorem xd_Mo_isUnlike_10 : decode xb_Mo_isUnlike 10 = .ok (.bipush 40, 2) := by decide +kernel
theorem xd_Mo_isUnlike_12 : decode xb_Mo_isUnlike 12 = .ok (.iload_n 1, 1) := by decide +kernel
theorem xd_Mo_isUnlike_13 : decode xb_Mo_isUnlike 13 = .ok (.imul, 1) := by decide +kernel
theorem xd_Mo_isUnlike_14 : decode xb_Mo_isUnlike 14 = .ok (.iload_n 2, 1) := by decide +kernel
theorem xd_Mo_isUnlike_15 : decode xb_Mo_isUnlike 15 = .ok (.iadd, 1) := by decide +kernel
theorem xd_Mo_isUnlike_16 : decode xb_Mo_isUnlike 16 = .ok (.iaload, 1) := by decide +kernel
theorem xd_Mo_isUnlike_17 : decode xb_Mo_isUnlike 17 = .ok (.if_icmp .eq 7, 3) := by decide +kernel
theorem xd_Mo_isUnlike_20 : decode xb_Mo_isUnlike 20 = .ok (.iconst 1, 1) := by decide +kernel
theorem xd_Mo_isUnlike_21 : decode xb_Mo_isUnlike 21 = .ok (.goto 4, 3) := by decide +kernel
theorem xd_Mo_isUnlike_24 : decode xb_Mo_isUnlike 24 = .ok (.iconst 0, 1) := by decide +kernel
theorem xd_Mo_isUnlike_25 : decode xb_Mo_isUnlike 25 = .ok (.istore_n 3, 1) := by decide +kernel
theorem xd_Mo_isUnlike_26 : decode xb_Mo_isUnlike 26 = .ok (.bipush 26, 2) := by decide +kernel
theorem xd_Mo_isUnlike_28 : decode xb_Mo_isUnlike 28 = .ok (.iload_n 2, 1) := by decide +kernel
theorem xd_Mo_isUnlike_29 : decode xb_Mo_isUnlike 29 = .ok (.imul, 1) := by decide +kernel
theorem xd_Mo_isUnlike_30 : decode xb_Mo_isUnlike 30 = .ok (.istore 4, 2) := by decide +kernel
theorem xd_Mo_isUnlike_32 : decode xb_Mo_isUnlike 32 = .ok (.iload 4, 2) := by decide +kernel
theorem xd_Mo_isUnlike_34 : decode xb_Mo_isUnlike 34 = .ok (.bipush 26, 2) := by decide +kernel
theorem xd_Mo_isUnlike_36 : decode xb_Mo_isUnlike 36 = .ok (.iload_n 2, 1) := by decide +kernel
theorem xd_Mo_isUnlike_37 : decode xb_Mo_isUnlike 37 = .ok (.imul, 1) := by decide +kernel
theorem xd_Mo_isUnlike_38 : decode xb_Mo_isUnlike 38 = .ok (.bipush 26, 2) := by decide +kernel
theorem xd_Mo_isUnlike_40 : decode xb_Mo_isUnlike 40 = .ok (.iadd, 1) := by decide +kernel
theorem xd_Mo_isUnlike_41 : decode xb_Mo_isUnlike 41 = .ok (.if_icmp .ge 65, 3) := by decide +kernel
theorem xd_Mo_isUnlike_44 : decode xb_Mo_isUnlike 44 = .ok (.iload_n 3, 1) := by decide +kernel
theorem xd_Mo_isUnlike_45 : decode xb_Mo_isUnlike 45 = .ok (.ifCond .ne 61, 3) := by decide +kernel
theorem xd_Mo_isUnlike_48 : decode xb_Mo_isUnlike 48 = .ok (.aload_n 0, 1) := by decide +kernel
theorem xd_Mo_isUnlike_49 : decode xb_Mo_isUnlike 49 = .ok (.getfield 13, 3) := by decide +kernel
theorem xd_Mo_isUnlike_52 : decode xb_Mo_isUnlike 52 = .ok (.iload 4, 2) := by decide +kernel
theorem xd_Mo_isUnlike_54 : decode xb_Mo_isUnlike 54 = .ok (.iaload, 1) := by decide +kernel
theorem xd_Mo_isUnlike_55 : decode xb_Mo_isUnlike 55 = .ok (.aload_n 0, 1) := by decide +kernel
theorem xd_Mo_isUnlike_56 : decode xb_Mo_isUnlike 56 = .ok (.getfield 13, 3) := by decide +kernel
theorem xd_Mo_isUnlike_59 : decode xb_Mo_isUnlike 59 = .ok (.sipush 1040, 3) := by decide +kernel
theorem xd_Mo_isUnlike_62 : decode xb_Mo_isUnlike 62 = .ok (.iload_n 1, 1) := by decide +kernel
theorem xd_Mo_isUnlike_63 : decode xb_Mo_isUnlike 63 = .ok (.imul, 1) := by decide +kernel
theorem xd_Mo_isUnlike_64 : decode xb_Mo_isUnlike 64 = .ok (.iload 4, 2) := by decide +kernel
theorem xd_Mo_isUnlike_66 : decode xb_Mo_isUnlike 66 = .ok (.iadd, 1) := by decide +kernel
theorem xd_Mo_isUnlike_67 : decode xb_Mo_isUnlike 67 = .ok (.iaload, 1) := by decide +kernel
theorem xd_Mo_isUnlike_68 : decode xb_Mo_isUnlike 68 = .ok (.if_icmp .ne 26, 3) := by decide +kernel
theorem xd_Mo_isUnlike_71 : decode xb_Mo_isUnlike 71 = .ok (.aload_n 0, 1) := by decide +kernel
theorem xd_Mo_isUnlike_72 : decode xb_Mo_isUnlike 72 = .ok (.getfield 16, 3) := by decide +kernel
theorem xd_Mo_isUnlike_75 : decode xb_Mo_isUnlike 75 = .ok (.iload 4, 2) := by decide +kernel
theorem xd_Mo_isUnlike_77 : decode xb_Mo_isUnlike 77 = .ok (.iaload, 1) := by decide +kernel
theorem xd_Mo_isUnlike_78 : decode xb_Mo_isUnlike 78 = .ok (.aload_n 0, 1) := by decide +kernel
theorem xd_Mo_isUnlike_79 : decode xb_Mo_isUnlike 79 = .ok (.getfield 16, 3) := by decide +kernel
theorem xd_Mo_isUnlike_82 : decode xb_Mo_isUnlike 82 = .ok (.sipush 1040, 3) := by decide +kernel
theorem xd_Mo_isUnlike_85 : decode xb_Mo_isUnlike 85 = .ok (.iload_n 1, 1) := by decide +kernel
theorem xd_Mo_isUnlike_86 : decode xb_Mo_isUnlike 86 = .ok (.imul, 1) := by decide +kernel
theorem xd_Mo_isUnlike_87 : decode xb_Mo_isUnlike 87 = .ok (.iload 4, 2) := by decide +kernel
theorem xd_Mo_isUnlike_89 : decode xb_Mo_isUnlike 89 = .ok (.iadd, 1) := by decide +kernel
theorem xd_Mo_isUnlike_90 : decode xb_Mo_isUnlike 90 = .ok (.iaload, 1) := by decide +kernel
theorem xd_Mo_isUnlike_91 : decode xb_Mo_isUnlike 91 = .ok (.if_icmp .eq 7, 3) := by decide +kernel
theorem xd_Mo_isUnlike_94 : decode xb_Mo_isUnlike 94 = .ok (.iconst 1, 1) := by decide +kernel
theorem xd_Mo_isUnlike_95 : decode xb_Mo_isUnlike 95 = .ok (.goto 4, 3) := by decide +kernel
theorem xd_Mo_isUnlike_98 : decode xb_Mo_isUnlike 98 = .ok (.iconst 0, 1) := by decide +kernel
theorem xd_Mo_isUnlike_99 : decode xb_Mo_isUnlike 99 = .ok (.istore_n 3, 1) := by decide +kernel
theorem xd_Mo_isUnlike_100 : decode xb_Mo_isUnlike 100 = .ok (.iinc 4 1, 3) := by decide +kernel
theorem xd_Mo_isUnlike_103 : decode xb_Mo_isUnlike 103 = .ok (.goto (-71), 3) := by decide +kernel
theorem xd_Mo_isUnlike_106 : decode xb_Mo_isUnlike 106 = .ok (.iload_n 3, 1) := by decide +kernel
theorem xd_Mo_isUnlike_107 : decode xb_Mo_isUnlike 107 = .ok (.ireturn, 1) := by decide +kernel
theorem xd_Mo_dry_0 : decode xb_Mo_dry 0 = .ok (.aload_n 0, 1) := by decide +kernel
theorem xd_Mo_dry_1 : decode xb_Mo_dry 1 = .ok (.iconst 0, 1) := by decide +kernel
theorem xd_Mo_dry_2 : decode xb_Mo_dry 2 = .ok (.putfield 41, 3) := by decide +kernel
theorem xd_Mo_dry_5 : decode xb_Mo_dry 5 = .ok (.aload_n 0, 1) := by decide +kernel
theorem xd_Mo_dry_6 : decode xb_Mo_dry 6 = .ok (.iload_n 1, 1) := by decide +kernel
theorem xd_Mo_dry_7 : decode xb_Mo_dry 7 = .ok (.invokevirtual 138, 3) := by decide +kernel
theorem xd_Mo_dry_10 : decode xb_Mo_dry 10 = .ok (.istore_n 2, 1) := by decide +kernel
theorem xd_Mo_dry_11 : decode xb_Mo_dry 11 = .ok (.iload_n 2, 1) := by decide +kernel
theorem xd_Mo_dry_12 : decode xb_Mo_dry 12 = .ok (.ifCond .le 7, 3) := by decide +kernel
theorem xd_Mo_dry_15 : decode xb_Mo_dry 15 = .ok (.iconst (-1), 1) := by decide +kernel
theorem xd_Mo_dry_16 : decode xb_Mo_dry 16 = .ok (.iload_n 2, 1) := by decide +kernel
theorem xd_Mo_dry_17 : decode xb_Mo_dry 17 = .ok (.isub, 1) := by decide +kernel
theorem xd_Mo_dry_18 : decode xb_Mo_dry 18 = .ok (.ireturn, 1) := by decide +kernel
theorem xd_Mo_dry_19 : decode xb_Mo_dry 19 = .ok (.aload_n 0, 1) := by decide +kernel
theorem xd_Mo_dry_20 : decode xb_Mo_dry 20 = .ok (.invokevirtual 153, 3) := by decide +kernel
theorem xd_Mo_dry_23 : decode xb_Mo_dry 23 = .ok (.istore_n 3, 1) := by decide +kernel
theorem xd_Mo_dry_24 : decode xb_Mo_dry 24 = .ok (.aload_n 0, 1) := by decide +kernel
theorem xd_Mo_dry_25 : decode xb_Mo_dry 25 = .ok (.iconst 1, 1) := by decide +kernel
theorem xd_Mo_dry_26 : decode xb_Mo_dry 26 = .ok (.iconst 0, 1) := by decide +kernel
theorem xd_Mo_dry_27 : decode xb_Mo_dry 27 = .ok (.invokevirtual 55, 3) := by decide +kernel
theorem xd_Mo_dry_30 : decode xb_Mo_dry 30 = .ok (.iload_n 3, 1) := by decide +kernel
theorem xd_Mo_dry_31 : decode xb_Mo_dry 31 = .ok (.ireturn, 1) := by decide +kernel
theorem xd_Mo_countUnlike_0 : decode xb_Mo_countUnlike 0 = .ok (.iconst 0, 1) := by decide +kernel
theorem xd_Mo_countUnlike_1 : decode xb_Mo_countUnlike 1 = .ok (.istore_n 1, 1) := by decide +kernel
theorem xd_Mo_countUnlike_2 : decode xb_Mo_countUnlike 2 = .ok (.iconst 0, 1) := by decide +kernel
theorem xd_Mo_countUnlike_3 : decode xb_Mo_countUnlike 3 = .ok (.istore_n 2, 1) := by decide +kernel
theorem xd_Mo_countUnlike_4 : decode xb_Mo_countUnlike 4 = .ok (.iload_n 2, 1) := by decide +kernel
theorem xd_Mo_countUnlike_5 : decode xb_Mo_countUnlike 5 = .ok (.bipush 40, 2) := by decide +kernel
theorem xd_Mo_countUnlike_7 : decode xb_Mo_countUnlike 7 = .ok (.if_icmp .ge 26, 3) := by decide +kernel
theorem xd_Mo_countUnlike_10 : decode xb_Mo_countUnlike 10 = .ok (.aload_n 0, 1) := by decide +kernel
theorem xd_Mo_countUnlike_11 : decode xb_Mo_countUnlike 11 = .ok (.iconst 1, 1) := by decide +kernel
theorem xd_Mo_countUnlike_12 : decode xb_Mo_countUnlike 12 = .ok (.iload_n 2, 1) := by decide +kernel
theorem xd_Mo_countUnlike_13 : decode xb_Mo_countUnlike 13 = .ok (.invokevirtual 45, 3) := by decide +kernel
theorem xd_Mo_countUnlike_16 : decode xb_Mo_countUnlike 16 = .ok (.ifCond .eq 9, 3) := by decide +kernel
theorem xd_Mo_countUnlike_19 : decode xb_Mo_countUnlike 19 = .ok (.iload_n 1, 1) := by decide +kernel
theorem xd_Mo_countUnlike_20 : decode xb_Mo_countUnlike 20 = .ok (.iconst 1, 1) := by decide +kernel
theorem xd_Mo_countUnlike_21 : decode xb_Mo_countUnlike 21 = .ok (.iadd, 1) := by decide +kernel
theorem xd_Mo_countUnlike_22 : decode xb_Mo_countUnlike 22 = .ok (.goto 4, 3) := by decide +kernel
theorem xd_Mo_countUnlike_25 : decode xb_Mo_countUnlike 25 = .ok (.iload_n 1, 1) := by decide +kernel
theorem xd_Mo_countUnlike_26 : decode xb_Mo_countUnlike 26 = .ok (.istore_n 1, 1) := by decide +kernel
theorem xd_Mo_countUnlike_27 : decode xb_Mo_countUnlike 27 = .ok (.iinc 2 1, 3) := by decide +kernel
theorem xd_Mo_countUnlike_30 : decode xb_Mo_countUnlike 30 = .ok (.goto (-26), 3) := by decide +kernel
theorem xd_Mo_countUnlike_33 : decode xb_Mo_countUnlike 33 = .ok (.iload_n 1, 1) := by decide +kernel
theorem xd_Mo_countUnlike_34 : decode xb_Mo_countUnlike 34 = .ok (.ireturn, 1) := by decide +kernel
theorem xd_Mo_changed_0 : decode xb_Mo_changed 0 = .ok (.aload_n 0, 1) := by decide +kernel
theorem xd_Mo_changed_1 : decode xb_Mo_changed 1 = .ok (.iload_n 1, 1) := by decide +kernel
theorem xd_Mo_changed_2 : decode xb_Mo_changed 2 = .ok (.iconst 0, 1) := by decide +kernel
theorem xd_Mo_changed_3 : decode xb_Mo_changed 3 = .ok (.aload_n 0, 1) := by decide +kernel
theorem xd_Mo_changed_4 : decode xb_Mo_changed 4 = .ok (.getfield 49, 3) := by decide +kernel
theorem xd_Mo_changed_7 : decode xb_Mo_changed 7 = .ok (.iconst 1, 1) := by decide +kernel
theorem xd_Mo_changed_8 : decode xb_Mo_changed 8 = .ok (.isub, 1) := by decide +kernel
theorem xd_Mo_changed_9 : decode xb_Mo_changed 9 = .ok (.invokestatic 134, 3) := by decide +kernel
theorem xd_Mo_changed_12 : decode xb_Mo_changed 12 = .ok (.invokevirtual 156, 3) := by decide +kernel
theorem xd_Mo_changed_15 : decode xb_Mo_changed 15 = .ok (.ifCond .eq 12, 3) := by decide +kernel
theorem xd_Mo_changed_18 : decode xb_Mo_changed 18 = .ok (.aload_n 0, 1) := by decide +kernel
theorem xd_Mo_changed_19 : decode xb_Mo_changed 19 = .ok (.getfield 22, 3) := by decide +kernel
theorem xd_Mo_changed_22 : decode xb_Mo_changed 22 = .ok (.iload_n 1, 1) := by decide +kernel
theorem xd_Mo_changed_23 : decode xb_Mo_changed 23 = .ok (.iaload, 1) := by decide +kernel
theorem xd_Mo_changed_24 : decode xb_Mo_changed 24 = .ok (.goto 4, 3) := by decide +kernel
theorem xd_Mo_changed_27 : decode xb_Mo_changed 27 = .ok (.iconst 0, 1) := by decide +kernel
theorem xd_Mo_changed_28 : decode xb_Mo_changed 28 = .ok (.ireturn, 1) := by decide +kernel
theorem xd_Mo_goes_0 : decode xb_Mo_goes 0 = .ok (.aload_n 0, 1) := by decide +kernel
theorem xd_Mo_goes_1 : decode xb_Mo_goes 1 = .ok (.iload_n 1, 1) := by decide +kernel
theorem xd_Mo_goes_2 : decode xb_Mo_goes 2 = .ok (.ifCond .eq 7, 3) := by decide +kernel
theorem xd_Mo_goes_5 : decode xb_Mo_goes 5 = .ok (.iconst 0, 1) := by decide +kernel
theorem xd_Mo_goes_6 : decode xb_Mo_goes 6 = .ok (.goto 4, 3) := by decide +kernel
theorem xd_Mo_goes_9 : decode xb_Mo_goes 9 = .ok (.iconst 1, 1) := by decide +kernel
theorem xd_Mo_goes_10 : decode xb_Mo_goes 10 = .ok (.putfield 41, 3) := by decide +kernel
theorem xd_Mo_goes_13 : decode xb_Mo_goes 13 = .ok (.iload_n 1, 1) := by decide +kernel
theorem xd_Mo_goes_14 : decode xb_Mo_goes 14 = .ok (.ireturn, 1) := by decide +kernel
theorem xd_Mo_undo_0 : decode xb_Mo_undo 0 = .ok (.aload_n 0, 1) := by decide +kernel
theorem xd_Mo_undo_1 : decode xb_Mo_undo 1 = .ok (.iconst 0, 1) := by decide +kernel
theorem xd_Mo_undo_2 : decode xb_Mo_undo 2 = .ok (.putfield 41, 3) := by decide +kernel
theorem xd_Mo_undo_5 : decode xb_Mo_undo 5 = .ok (.aload_n 0, 1) := by decide +kernel
theorem xd_Mo_undo_6 : decode xb_Mo_undo 6 = .ok (.getfield 59, 3) := by decide +kernel
theorem xd_Mo_undo_9 : decode xb_Mo_undo 9 = .ok (.ifCond .ne 5, 3) := by decide +kernel
theorem xd_Mo_undo_12 : decode xb_Mo_undo 12 = .ok (.iconst (-1), 1) := by decide +kernel
theorem xd_Mo_undo_13 : decode xb_Mo_undo 13 = .ok (.ireturn, 1) := by decide +kernel
theorem xd_Mo_undo_14 : decode xb_Mo_undo 14 = .ok (.aload_n 0, 1) := by decide +kernel
theorem xd_Mo_undo_15 : decode xb_Mo_undo 15 = .ok (.iconst 0, 1) := by decide +kernel
theorem xd_Mo_undo_16 : decode xb_Mo_undo 16 = .ok (.iconst 1, 1) := by decide +kernel
theorem xd_Mo_undo_17 : decode xb_Mo_undo 17 = .ok (.invokevirtual 55, 3) := by decide +kernel
theorem xd_Mo_undo_20 : decode xb_Mo_undo 20 = .ok (.aload_n 0, 1) := by decide +kernel
theorem xd_Mo_undo_21 : decode xb_Mo_undo 21 = .ok (.iconst 2, 1) := by decide +kernel
theorem xd_Mo_undo_22 : decode xb_Mo_undo 22 = .ok (.aload_n 0, 1) := by decide +kernel
theorem xd_Mo_undo_23 : decode xb_Mo_undo 23 = .ok (.getfield 52, 3) := by decide +kernel
theorem xd_Mo_undo_26 : decode xb_Mo_undo 26 = .ok (.iadd, 1) := by decide +kernel
theorem xd_Mo_undo_27 : decode xb_Mo_undo 27 = .ok (.iconst 0, 1) := by decide +kernel
theorem xd_Mo_undo_28 : decode xb_Mo_undo 28 = .ok (.invokevirtual 55, 3) := by decide +kernel
theorem xd_Mo_undo_31 : decode xb_Mo_undo 31 = .ok (.aload_n 0, 1) := by decide +kernel
theorem xd_Mo_undo_32 : decode xb_Mo_undo 32 = .ok (.aload_n 0, 1) := by decide +kernel
theorem xd_Mo_undo_33 : decode xb_Mo_undo 33 = .ok (.getfield 52, 3) := by decide +kernel
theorem xd_Mo_undo_36 : decode xb_Mo_undo 36 = .ok (.bipush 16, 2) := by decide +kernel
theorem xd_Mo_undo_38 : decode xb_Mo_undo 38 = .ok (.iadd, 1) := by decide +kernel
theorem xd_Mo_undo_39 : decode xb_Mo_undo 39 = .ok (.iconst 1, 1) := by decide +kernel
theorem xd_Mo_undo_40 : decode xb_Mo_undo 40 = .ok (.isub, 1) := by decide +kernel
theorem xd_Mo_undo_41 : decode xb_Mo_undo 41 = .ok (.bipush 16, 2) := by decide +kernel
theorem xd_Mo_undo_43 : decode xb_Mo_undo 43 = .ok (.irem, 1) := by decide +kernel
theorem xd_Mo_undo_44 : decode xb_Mo_undo 44 = .ok (.putfield 52, 3) := by decide +kernel
theorem xd_Mo_undo_47 : decode xb_Mo_undo 47 = .ok (.aload_n 0, 1) := by decide +kernel
theorem xd_Mo_undo_48 : decode xb_Mo_undo 48 = .ok (.dup, 1) := by decide +kernel
theorem xd_Mo_undo_49 : decode xb_Mo_undo 49 = .ok (.getfield 59, 3) := by decide +kernel
theorem xd_Mo_undo_52 : decode xb_Mo_undo 52 = .ok (.iconst 1, 1) := by decide +kernel
theorem xd_Mo_undo_53 : decode xb_Mo_undo 53 = .ok (.isub, 1) := by decide +kernel
theorem xd_Mo_undo_54 : decode xb_Mo_undo 54 = .ok (.putfield 59, 3) := by decide +kernel
theorem xd_Mo_undo_57 : decode xb_Mo_undo 57 = .ok (.aload_n 0, 1) := by decide +kernel
theorem xd_Mo_undo_58 : decode xb_Mo_undo 58 = .ok (.invokevirtual 150, 3) := by decide +kernel
theorem xd_Mo_undo_61 : decode xb_Mo_undo 61 = .ok (.ireturn, 1) := by decide +kernel
theorem xd_Mo_drop_0 : decode xb_Mo_drop 0 = .ok (.aload_n 0, 1) := by decide +kernel
theorem xd_Mo_drop_1 : decode xb_Mo_drop 1 = .ok (.iconst 0, 1) := by decide +kernel
theorem xd_Mo_drop_2 : decode xb_Mo_drop 2 = .ok (.putfield 41, 3) := by decide +kernel
theorem xd_Mo_drop_5 : decode xb_Mo_drop 5 = .ok (.aload_n 0, 1) := by decide +kernel
theorem xd_Mo_drop_6 : decode xb_Mo_drop 6 = .ok (.iconst 0, 1) := by decide +kernel
theorem xd_Mo_drop_7 : decode xb_Mo_drop 7 = .ok (.iconst 1, 1) := by decide +kernel
theorem xd_Mo_drop_8 : decode xb_Mo_drop 8 = .ok (.invokevirtual 55, 3) := by decide +kernel
theorem xd_Mo_drop_11 : decode xb_Mo_drop 11 = .ok (.aload_n 0, 1) := by decide +kernel
theorem xd_Mo_drop_12 : decode xb_Mo_drop 12 = .ok (.invokevirtual 141, 3) := by decide +kernel
theorem xd_Mo_drop_15 : decode xb_Mo_drop 15 = .ok (.aload_n 0, 1) := by decide +kernel
theorem xd_Mo_drop_16 : decode xb_Mo_drop 16 = .ok (.invokevirtual 160, 3) := by decide +kernel
theorem xd_Mo_drop_19 : decode xb_Mo_drop 19 = .ok (.iconst 0, 1) := by decide +kernel
theorem xd_Mo_drop_20 : decode xb_Mo_drop 20 = .ok (.istore_n 1, 1) := by decide +kernel
theorem xd_Mo_drop_21 : decode xb_Mo_drop 21 = .ok (.iconst 0, 1) := by decide +kernel
theorem xd_Mo_drop_22 : decode xb_Mo_drop 22 = .ok (.istore_n 2, 1) := by decide +kernel
theorem xd_Mo_drop_23 : decode xb_Mo_drop 23 = .ok (.iload_n 2, 1) := by decide +kernel
theorem xd_Mo_drop_24 : decode xb_Mo_drop 24 = .ok (.bipush 40, 2) := by decide +kernel
theorem xd_Mo_drop_26 : decode xb_Mo_drop 26 = .ok (.if_icmp .ge 42, 3) := by decide +kernel
theorem xd_Mo_drop_29 : decode xb_Mo_drop 29 = .ok (.aload_n 0, 1) := by decide +kernel
theorem xd_Mo_drop_30 : decode xb_Mo_drop 30 = .ok (.getfield 7, 3) := by decide +kernel
theorem xd_Mo_drop_33 : decode xb_Mo_drop 33 = .ok (.iload_n 2, 1) := by decide +kernel
theorem xd_Mo_drop_34 : decode xb_Mo_drop 34 = .ok (.iaload, 1) := by decide +kernel
theorem xd_Mo_drop_35 : decode xb_Mo_drop 35 = .ok (.ifCond .eq 27, 3) := by decide +kernel
theorem xd_Mo_drop_38 : decode xb_Mo_drop 38 = .ok (.aload_n 0, 1) := by decide +kernel
theorem xd_Mo_drop_39 : decode xb_Mo_drop 39 = .ok (.getfield 37, 3) := by decide +kernel
theorem xd_Mo_drop_42 : decode xb_Mo_drop 42 = .ok (.iload_n 2, 1) := by decide +kernel
theorem xd_Mo_drop_43 : decode xb_Mo_drop 43 = .ok (.baload, 1) := by decide +kernel
theorem xd_Mo_drop_44 : decode xb_Mo_drop 44 = .ok (.ifCond .ne 18, 3) := by decide +kernel
theorem xd_Mo_drop_47 : decode xb_Mo_drop 47 = .ok (.aload_n 0, 1) := by decide +kernel
theorem xd_Mo_drop_48 : decode xb_Mo_drop 48 = .ok (.getfield 7, 3) := by decide +kernel
theorem xd_Mo_drop_51 : decode xb_Mo_drop 51 = .ok (.iload_n 2, 1) := by decide +kernel
theorem xd_Mo_drop_52 : decode xb_Mo_drop 52 = .ok (.iconst 0, 1) := by decide +kernel
theorem xd_Mo_drop_53 : decode xb_Mo_drop 53 = .ok (.iastore, 1) := by decide +kernel
theorem xd_Mo_drop_54 : decode xb_Mo_drop 54 = .ok (.aload_n 0, 1) := by decide +kernel
theorem xd_Mo_drop_55 : decode xb_Mo_drop 55 = .ok (.iload_n 2, 1) := by decide +kernel
theorem xd_Mo_drop_56 : decode xb_Mo_drop 56 = .ok (.invokevirtual 104, 3) := by decide +kernel
theorem xd_Mo_drop_59 : decode xb_Mo_drop 59 = .ok (.iinc 1 1, 3) := by decide +kernel
theorem xd_Mo_drop_62 : decode xb_Mo_drop 62 = .ok (.iinc 2 1, 3) := by decide +kernel
theorem xd_Mo_drop_65 : decode xb_Mo_drop 65 = .ok (.goto (-42), 3) := by decide +kernel
theorem xd_Mo_drop_68 : decode xb_Mo_drop 68 = .ok (.aload_n 0, 1) := by decide +kernel
theorem xd_Mo_drop_69 : decode xb_Mo_drop 69 = .ok (.invokevirtual 150, 3) := by decide +kernel
theorem xd_Mo_drop_72 : decode xb_Mo_drop 72 = .ok (.pop, 1) := by decide +kernel
theorem xd_Mo_drop_73 : decode xb_Mo_drop 73 = .ok (.iload_n 1, 1) := by decide +kernel
theorem xd_Mo_drop_74 : decode xb_Mo_drop 74 = .ok (.ireturn, 1) := by decide +kernel
theorem xd_Mo_reach_0 : decode xb_Mo_reach 0 = .ok (.iconst 0, 1) := by decide +kernel
theorem xd_Mo_reach_1 : decode xb_Mo_reach 1 = .ok (.istore_n 1, 1) := by decide +kernel
theorem xd_Mo_reach_2 : decode xb_Mo_reach 2 = .ok (.iload_n 1, 1) := by decide +kernel
theorem xd_Mo_reach_3 : decode xb_Mo_reach 3 = .ok (.bipush 40, 2) := by decide +kernel
theorem xd_Mo_reach_5 : decode xb_Mo_reach 5 = .ok (.if_icmp .ge 24, 3) := by decide +kernel
theorem xd_Mo_reach_8 : decode xb_Mo_reach 8 = .ok (.aload_n 0, 1) := by decide +kernel
theorem xd_Mo_reach_9 : decode xb_Mo_reach 9 = .ok (.getfield 37, 3) := by decide +kernel
theorem xd_Mo_reach_12 : decode xb_Mo_reach 12 = .ok (.iload_n 1, 1) := by decide +kernel
theorem xd_Mo_reach_13 : decode xb_Mo_reach 13 = .ok (.iload_n 1, 1) := by decide +kernel
theorem xd_Mo_reach_14 : decode xb_Mo_reach 14 = .ok (.ifCond .ne 7, 3) := by decide +kernel
theorem xd_Mo_reach_17 : decode xb_Mo_reach 17 = .ok (.iconst 1, 1) := by decide +kernel
theorem xd_Mo_reach_18 : decode xb_Mo_reach 18 = .ok (.goto 4, 3) := by decide +kernel
theorem xd_Mo_reach_21 : decode xb_Mo_reach 21 = .ok (.iconst 0, 1) := by decide +kernel
theorem xd_Mo_reach_22 : decode xb_Mo_reach 22 = .ok (.bastore, 1) := by decide +kernel
theorem xd_Mo_reach_23 : decode xb_Mo_reach 23 = .ok (.iinc 1 1, 3) := by decide +kernel
theorem xd_Mo_reach_26 : decode xb_Mo_reach 26 = .ok (.goto (-24), 3) := by decide +kernel
theorem xd_Mo_reach_29 : decode xb_Mo_reach 29 = .ok (.iconst 1, 1) := by decide +kernel
theorem xd_Mo_reach_30 : decode xb_Mo_reach 30 = .ok (.istore_n 1, 1) := by decide +kernel
theorem xd_Mo_reach_31 : decode xb_Mo_reach 31 = .ok (.iload_n 1, 1) := by decide +kernel
theorem xd_Mo_reach_32 : decode xb_Mo_reach 32 = .ok (.ifCond .eq 87, 3) := by decide +kernel
theorem xd_Mo_reach_35 : decode xb_Mo_reach 35 = .ok (.iconst 0, 1) := by decide +kernel
theorem xd_Mo_reach_36 : decode xb_Mo_reach 36 = .ok (.istore_n 1, 1) := by decide +kernel
theorem xd_Mo_reach_37 : decode xb_Mo_reach 37 = .ok (.iconst 0, 1) := by decide +kernel
theorem xd_Mo_reach_38 : decode xb_Mo_reach 38 = .ok (.istore_n 2, 1) := by decide +kernel
theorem xd_Mo_reach_39 : decode xb_Mo_reach 39 = .ok (.iload_n 2, 1) := by decide +kernel
theorem xd_Mo_reach_40 : decode xb_Mo_reach 40 = .ok (.sipush 1040, 3) := by decide +kernel
theorem xd_Mo_reach_43 : decode xb_Mo_reach 43 = .ok (.if_icmp .ge 73, 3) := by decide +kernel
theorem xd_Mo_reach_46 : decode xb_Mo_reach 46 = .ok (.aload_n 0, 1) := by decide +kernel
theorem xd_Mo_reach_47 : decode xb_Mo_reach 47 = .ok (.getfield 37, 3) := by decide +kernel
theorem xd_Mo_reach_50 : decode xb_Mo_reach 50 = .ok (.iload_n 2, 1) := by decide +kernel
theorem xd_Mo_reach_51 : decode xb_Mo_reach 51 = .ok (.bipush 26, 2) := by decide +kernel
theorem xd_Mo_reach_53 : decode xb_Mo_reach 53 = .ok (.idiv, 1) := by decide +kernel
theorem xd_Mo_reach_54 : decode xb_Mo_reach 54 = .ok (.baload, 1) := by decide +kernel
theorem xd_Mo_reach_55 : decode xb_Mo_reach 55 = .ok (.ifCond .eq 55, 3) := by decide +kernel
theorem xd_Mo_reach_58 : decode xb_Mo_reach 58 = .ok (.aload_n 0, 1) := by decide +kernel
theorem xd_Mo_reach_59 : decode xb_Mo_reach 59 = .ok (.getfield 13, 3) := by decide +kernel
theorem xd_Mo_reach_62 : decode xb_Mo_reach 62 = .ok (.iload_n 2, 1) := by decide +kernel
theorem xd_Mo_reach_63 : decode xb_Mo_reach 63 = .ok (.iaload, 1) := by decide +kernel
theorem xd_Mo_reach_64 : decode xb_Mo_reach 64 = .ok (.iconst 2, 1) := by decide +kernel
theorem xd_Mo_reach_65 : decode xb_Mo_reach 65 = .ok (.if_icmp .ne 45, 3) := by decide +kernel
theorem xd_Mo_reach_68 : decode xb_Mo_reach 68 = .ok (.aload_n 0, 1) := by decide +kernel
theorem xd_Mo_reach_69 : decode xb_Mo_reach 69 = .ok (.getfield 7, 3) := by decide +kernel
theorem xd_Mo_reach_72 : decode xb_Mo_reach 72 = .ok (.aload_n 0, 1) := by decide +kernel
theorem xd_Mo_reach_73 : decode xb_Mo_reach 73 = .ok (.getfield 16, 3) := by decide +kernel
theorem xd_Mo_reach_76 : decode xb_Mo_reach 76 = .ok (.iload_n 2, 1) := by decide +kernel
theorem xd_Mo_reach_77 : decode xb_Mo_reach 77 = .ok (.iaload, 1) := by decide +kernel
theorem xd_Mo_reach_78 : decode xb_Mo_reach 78 = .ok (.iaload, 1) := by decide +kernel
theorem xd_Mo_reach_79 : decode xb_Mo_reach 79 = .ok (.ifCond .eq 31, 3) := by decide +kernel
theorem xd_Mo_reach_82 : decode xb_Mo_reach 82 = .ok (.aload_n 0, 1) := by decide +kernel
theorem xd_Mo_reach_83 : decode xb_Mo_reach 83 = .ok (.getfield 37, 3) := by decide +kernel
theorem xd_Mo_reach_86 : decode xb_Mo_reach 86 = .ok (.aload_n 0, 1) := by decide +kernel
theorem xd_Mo_reach_87 : decode xb_Mo_reach 87 = .ok (.getfield 16, 3) := by decide +kernel
theorem xd_Mo_reach_90 : decode xb_Mo_reach 90 = .ok (.iload_n 2, 1) := by decide +kernel
theorem xd_Mo_reach_91 : decode xb_Mo_reach 91 = .ok (.iaload, 1) := by decide +kernel
theorem xd_Mo_reach_92 : decode xb_Mo_reach 92 = .ok (.baload, 1) := by decide +kernel
theorem xd_Mo_reach_93 : decode xb_Mo_reach 93 = .ok (.ifCond .ne 17, 3) := by decide +kernel
theorem xd_Mo_reach_96 : decode xb_Mo_reach 96 = .ok (.aload_n 0, 1) := by decide +kernel
theorem xd_Mo_reach_97 : decode xb_Mo_reach 97 = .ok (.getfield 37, 3) := by decide +kernel
theorem xd_Mo_reach_100 : decode xb_Mo_reach 100 = .ok (.aload_n 0, 1) := by decide +kernel
theorem xd_Mo_reach_101 : decode xb_Mo_reach 101 = .ok (.getfield 16, 3) := by decide +kernel
theorem xd_Mo_reach_104 : decode xb_Mo_reach 104 = .ok (.iload_n 2, 1) := by decide +kernel
theorem xd_Mo_reach_105 : decode xb_Mo_reach 105 = .ok (.iaload, 1) := by decide +kernel
theorem xd_Mo_reach_106 : decode xb_Mo_reach 106 = .ok (.iconst 1, 1) := by decide +kernel
theorem xd_Mo_reach_107 : decode xb_Mo_reach 107 = .ok (.bastore, 1) := by decide +kernel
theorem xd_Mo_reach_108 : decode xb_Mo_reach 108 = .ok (.iconst 1, 1) := by decide +kernel
theorem xd_Mo_reach_109 : decode xb_Mo_reach 109 = .ok (.istore_n 1, 1) := by decide +kernel
theorem xd_Mo_reach_110 : decode xb_Mo_reach 110 = .ok (.iinc 2 1, 3) := by decide +kernel
theorem xd_Mo_reach_113 : decode xb_Mo_reach 113 = .ok (.goto (-74), 3) := by decide +kernel
theorem xd_Mo_reach_116 : decode xb_Mo_reach 116 = .ok (.goto (-85), 3) := by decide +kernel
theorem xd_Mo_reach_119 : decode xb_Mo_reach 119 = .ok (.return_, 1) := by decide +kernel
theorem xd_Mo_join_0 : decode xb_Mo_join 0 = .ok (.aload_n 0, 1) := by decide +kernel
theorem xd_Mo_join_1 : decode xb_Mo_join 1 = .ok (.iconst 0, 1) := by decide +kernel
theorem xd_Mo_join_2 : decode xb_Mo_join 2 = .ok (.putfield 41, 3) := by decide +kernel
theorem xd_Mo_join_5 : decode xb_Mo_join 5 = .ok (.aload_n 0, 1) := by decide +kernel
theorem xd_Mo_join_6 : decode xb_Mo_join 6 = .ok (.iconst 0, 1) := by decide +kernel
theorem xd_Mo_join_7 : decode xb_Mo_join 7 = .ok (.iconst 1, 1) := by decide +kernel
theorem xd_Mo_join_8 : decode xb_Mo_join 8 = .ok (.invokevirtual 55, 3) := by decide +kernel
theorem xd_Mo_join_11 : decode xb_Mo_join 11 = .ok (.aload_n 0, 1) := by decide +kernel
theorem xd_Mo_join_12 : decode xb_Mo_join 12 = .ok (.invokevirtual 141, 3) := by decide +kernel
theorem xd_Mo_join_15 : decode xb_Mo_join 15 = .ok (.iconst 0, 1) := by decide +kernel
theorem xd_Mo_join_16 : decode xb_Mo_join 16 = .ok (.istore_n 1, 1) := by decide +kernel
theorem xd_Mo_join_17 : decode xb_Mo_join 17 = .ok (.aload_n 0, 1) := by decide +kernel
theorem xd_Mo_join_18 : decode xb_Mo_join 18 = .ok (.invokevirtual 166, 3) := by decide +kernel
theorem xd_Mo_join_21 : decode xb_Mo_join 21 = .ok (.ifCond .eq 9, 3) := by decide +kernel
theorem xd_Mo_join_24 : decode xb_Mo_join 24 = .ok (.iinc 1 1, 3) := by decide +kernel
theorem xd_Mo_join_27 : decode xb_Mo_join 27 = .ok (.goto (-10), 3) := by decide +kernel
theorem xd_Mo_join_30 : decode xb_Mo_join 30 = .ok (.aload_n 0, 1) := by decide +kernel
theorem xd_Mo_join_31 : decode xb_Mo_join 31 = .ok (.invokevirtual 150, 3) := by decide +kernel
theorem xd_Mo_join_34 : decode xb_Mo_join 34 = .ok (.pop, 1) := by decide +kernel
theorem xd_Mo_join_35 : decode xb_Mo_join 35 = .ok (.iload_n 1, 1) := by decide +kernel
theorem xd_Mo_join_36 : decode xb_Mo_join 36 = .ok (.ireturn, 1) := by decide +kernel
theorem xd_Mo_joins_0 : decode xb_Mo_joins 0 = .ok (.iconst 1, 1) := by decide +kernel
theorem xd_Mo_joins_1 : decode xb_Mo_joins 1 = .ok (.istore_n 1, 1) := by decide +kernel
theorem xd_Mo_joins_2 : decode xb_Mo_joins 2 = .ok (.iload_n 1, 1) := by decide +kernel
theorem xd_Mo_joins_3 : decode xb_Mo_joins 3 = .ok (.bipush 40, 2) := by decide +kernel
theorem xd_Mo_joins_5 : decode xb_Mo_joins 5 = .ok (.if_icmp .ge 99, 3) := by decide +kernel
theorem xd_Mo_joins_8 : decode xb_Mo_joins 8 = .ok (.iload_n 1, 1) := by decide +kernel
theorem xd_Mo_joins_9 : decode xb_Mo_joins 9 = .ok (.iconst 1, 1) := by decide +kernel
theorem xd_Mo_joins_10 : decode xb_Mo_joins 10 = .ok (.iadd, 1) := by decide +kernel
theorem xd_Mo_joins_11 : decode xb_Mo_joins 11 = .ok (.istore_n 2, 1) := by decide +kernel
theorem xd_Mo_joins_12 : decode xb_Mo_joins 12 = .ok (.iload_n 2, 1) := by decide +kernel
theorem xd_Mo_joins_13 : decode xb_Mo_joins 13 = .ok (.bipush 40, 2) := by decide +kernel
theorem xd_Mo_joins_15 : decode xb_Mo_joins 15 = .ok (.if_icmp .ge 83, 3) := by decide +kernel
theorem xd_Mo_joins_18 : decode xb_Mo_joins 18 = .ok (.aload_n 0, 1) := by decide +kernel
theorem xd_Mo_joins_19 : decode xb_Mo_joins 19 = .ok (.iload_n 1, 1) := by decide +kernel
theorem xd_Mo_joins_20 : decode xb_Mo_joins 20 = .ok (.iload_n 2, 1) := by decide +kernel
theorem xd_Mo_joins_21 : decode xb_Mo_joins 21 = .ok (.invokevirtual 163, 3) := by decide +kernel
theorem xd_Mo_joins_24 : decode xb_Mo_joins 24 = .ok (.ifCond .eq 68, 3) := by decide +kernel
theorem xd_Mo_joins_27 : decode xb_Mo_joins 27 = .ok (.aload_n 0, 1) := by decide +kernel
theorem xd_Mo_joins_28 : decode xb_Mo_joins 28 = .ok (.getfield 7, 3) := by decide +kernel
theorem xd_Mo_joins_31 : decode xb_Mo_joins 31 = .ok (.iload_n 2, 1) := by decide +kernel
theorem xd_Mo_joins_32 : decode xb_Mo_joins 32 = .ok (.iconst 0, 1) := by decide +kernel
theorem xd_Mo_joins_33 : decode xb_Mo_joins 33 = .ok (.iastore, 1) := by decide +kernel
theorem xd_Mo_joins_34 : decode xb_Mo_joins 34 = .ok (.aload_n 0, 1) := by decide +kernel
theorem xd_Mo_joins_35 : decode xb_Mo_joins 35 = .ok (.iload_n 2, 1) := by decide +kernel
theorem xd_Mo_joins_36 : decode xb_Mo_joins 36 = .ok (.invokevirtual 104, 3) := by decide +kernel
theorem xd_Mo_joins_39 : decode xb_Mo_joins 39 = .ok (.iconst 0, 1) := by decide +kernel
theorem xd_Mo_joins_40 : decode xb_Mo_joins 40 = .ok (.istore_n 3, 1) := by decide +kernel
theorem xd_Mo_joins_41 : decode xb_Mo_joins 41 = .ok (.iload_n 3, 1) := by decide +kernel
theorem xd_Mo_joins_42 : decode xb_Mo_joins 42 = .ok (.sipush 1040, 3) := by decide +kernel
theorem xd_Mo_joins_45 : decode xb_Mo_joins 45 = .ok (.if_icmp .ge 45, 3) := by decide +kernel
theorem xd_Mo_joins_48 : decode xb_Mo_joins 48 = .ok (.aload_n 0, 1) := by decide +kernel
theorem xd_Mo_joins_49 : decode xb_Mo_joins 49 = .ok (.getfield 16, 3) := by decide +kernel
theorem xd_Mo_joins_52 : decode xb_Mo_joins 52 = .ok (.iload_n 3, 1) := by decide +kernel
theorem xd_Mo_joins_53 : decode xb_Mo_joins 53 = .ok (.aload_n 0, 1) := by decide +kernel
theorem xd_Mo_joins_54 : decode xb_Mo_joins 54 = .ok (.getfield 13, 3) := by decide +kernel
theorem xd_Mo_joins_57 : decode xb_Mo_joins 57 = .ok (.iload_n 3, 1) := by decide +kernel
theorem xd_Mo_joins_58 : decode xb_Mo_joins 58 = .ok (.iaload, 1) := by decide +kernel
theorem xd_Mo_joins_59 : decode xb_Mo_joins 59 = .ok (.iconst 2, 1) := by decide +kernel
theorem xd_Mo_joins_60 : decode xb_Mo_joins 60 = .ok (.if_icmp .ne 17, 3) := by decide +kernel
theorem xd_Mo_joins_63 : decode xb_Mo_joins 63 = .ok (.aload_n 0, 1) := by decide +kernel
theorem xd_Mo_joins_64 : decode xb_Mo_joins 64 = .ok (.getfield 16, 3) := by decide +kernel
theorem xd_Mo_joins_67 : decode xb_Mo_joins 67 = .ok (.iload_n 3, 1) := by decide +kernel
theorem xd_Mo_joins_68 : decode xb_Mo_joins 68 = .ok (.iaload, 1) := by decide +kernel
theorem xd_Mo_joins_69 : decode xb_Mo_joins 69 = .ok (.iload_n 2, 1) := by decide +kernel
theorem xd_Mo_joins_70 : decode xb_Mo_joins 70 = .ok (.if_icmp .ne 7, 3) := by decide +kernel
theorem xd_Mo_joins_73 : decode xb_Mo_joins 73 = .ok (.iload_n 1, 1) := by decide +kernel
theorem xd_Mo_joins_74 : decode xb_Mo_joins 74 = .ok (.goto 9, 3) := by decide +kernel
theorem xd_Mo_joins_77 : decode xb_Mo_joins 77 = .ok (.aload_n 0, 1) := by decide +kernel
theorem xd_Mo_joins_78 : decode xb_Mo_joins 78 = .ok (.getfield 16, 3) := by decide +kernel
theorem xd_Mo_joins_81 : decode xb_Mo_joins 81 = .ok (.iload_n 3, 1) := by decide +kernel
theorem xd_Mo_joins_82 : decode xb_Mo_joins 82 = .ok (.iaload, 1) := by decide +kernel
theorem xd_Mo_joins_83 : decode xb_Mo_joins 83 = .ok (.iastore, 1) := by decide +kernel
theorem xd_Mo_joins_84 : decode xb_Mo_joins 84 = .ok (.iinc 3 1, 3) := by decide +kernel
theorem xd_Mo_joins_87 : decode xb_Mo_joins 87 = .ok (.goto (-46), 3) := by decide +kernel
theorem xd_Mo_joins_90 : decode xb_Mo_joins 90 = .ok (.iconst 1, 1) := by decide +kernel
theorem xd_Mo_joins_91 : decode xb_Mo_joins 91 = .ok (.ireturn, 1) := by decide +kernel
theorem xd_Mo_joins_92 : decode xb_Mo_joins 92 = .ok (.iinc 2 1, 3) := by decide +kernel
theorem xd_Mo_joins_95 : decode xb_Mo_joins 95 = .ok (.goto (-83), 3) := by decide +kernel
theorem xd_Mo_joins_98 : decode xb_Mo_joins 98 = .ok (.iinc 1 1, 3) := by decide +kernel
theorem xd_Mo_joins_101 : decode xb_Mo_joins 101 = .ok (.goto (-99), 3) := by decide +kernel
theorem xd_Mo_joins_104 : decode xb_Mo_joins 104 = .ok (.iconst 0, 1) := by decide +kernel
theorem xd_Mo_joins_105 : decode xb_Mo_joins 105 = .ok (.ireturn, 1) := by decide +kernel
theorem xd_Mo_areAlike_0 : decode xb_Mo_areAlike 0 = .ok (.aload_n 0, 1) := by decide +kernel
theorem xd_Mo_areAlike_1 : decode xb_Mo_areAlike 1 = .ok (.getfield 7, 3) := by decide +kernel
theorem xd_Mo_areAlike_4 : decode xb_Mo_areAlike 4 = .ok (.iload_n 1, 1) := by decide +kernel
theorem xd_Mo_areAlike_5 : decode xb_Mo_areAlike 5 = .ok (.iaload, 1) := by decide +kernel
theorem xd_Mo_areAlike_6 : decode xb_Mo_areAlike 6 = .ok (.iconst 1, 1) := by decide +kernel
theorem xd_Mo_areAlike_7 : decode xb_Mo_areAlike 7 = .ok (.if_icmp .ne 13, 3) := by decide +kernel
theorem xd_Mo_areAlike_10 : decode xb_Mo_areAlike 10 = .ok (.aload_n 0, 1) := by decide +kernel
theorem xd_Mo_areAlike_11 : decode xb_Mo_areAlike 11 = .ok (.getfield 7, 3) := by decide +kernel
theorem xd_Mo_areAlike_14 : decode xb_Mo_areAlike 14 = .ok (.iload_n 2, 1) := by decide +kernel
theorem xd_Mo_areAlike_15 : decode xb_Mo_areAlike 15 = .ok (.iaload, 1) := by decide +kernel
theorem xd_Mo_areAlike_16 : decode xb_Mo_areAlike 16 = .ok (.iconst 1, 1) := by decide +kernel
theorem xd_Mo_areAlike_17 : decode xb_Mo_areAlike 17 = .ok (.if_icmp .eq 5, 3) := by decide +kernel
theorem xd_Mo_areAlike_20 : decode xb_Mo_areAlike 20 = .ok (.iconst 0, 1) := by decide +kernel
theorem xd_Mo_areAlike_21 : decode xb_Mo_areAlike 21 = .ok (.ireturn, 1) := by decide +kernel
theorem xd_Mo_areAlike_22 : decode xb_Mo_areAlike 22 = .ok (.iconst 1, 1) := by decide +kernel
theorem xd_Mo_areAlike_23 : decode xb_Mo_areAlike 23 = .ok (.istore_n 3, 1) := by decide +kernel
theorem xd_Mo_areAlike_24 : decode xb_Mo_areAlike 24 = .ok (.iconst 0, 1) := by decide +kernel
theorem xd_Mo_areAlike_25 : decode xb_Mo_areAlike 25 = .ok (.istore 4, 2) := by decide +kernel
theorem xd_Mo_areAlike_27 : decode xb_Mo_areAlike 27 = .ok (.iload 4, 2) := by decide +kernel
theorem xd_Mo_areAlike_29 : decode xb_Mo_areAlike 29 = .ok (.bipush 26, 2) := by decide +kernel
theorem xd_Mo_areAlike_31 : decode xb_Mo_areAlike 31 = .ok (.if_icmp .ge 116, 3) := by decide +kernel
theorem xd_Mo_areAlike_34 : decode xb_Mo_areAlike 34 = .ok (.iload_n 3, 1) := by decide +kernel
theorem xd_Mo_areAlike_35 : decode xb_Mo_areAlike 35 = .ok (.ifCond .eq 112, 3) := by decide +kernel
theorem xd_Mo_areAlike_38 : decode xb_Mo_areAlike 38 = .ok (.bipush 26, 2) := by decide +kernel
theorem xd_Mo_areAlike_40 : decode xb_Mo_areAlike 40 = .ok (.iload_n 1, 1) := by decide +kernel
theorem xd_Mo_areAlike_41 : decode xb_Mo_areAlike 41 = .ok (.imul, 1) := by decide +kernel
theorem xd_Mo_areAlike_42 : decode xb_Mo_areAlike 42 = .ok (.iload 4, 2) := by decide +kernel
theorem xd_Mo_areAlike_44 : decode xb_Mo_areAlike 44 = .ok (.iadd, 1) := by decide +kernel
theorem xd_Mo_areAlike_45 : decode xb_Mo_areAlike 45 = .ok (.istore 5, 2) := by decide +kernel
theorem xd_Mo_areAlike_47 : decode xb_Mo_areAlike 47 = .ok (.bipush 26, 2) := by decide +kernel
theorem xd_Mo_areAlike_49 : decode xb_Mo_areAlike 49 = .ok (.iload_n 2, 1) := by decide +kernel
theorem xd_Mo_areAlike_50 : decode xb_Mo_areAlike 50 = .ok (.imul, 1) := by decide +kernel
theorem xd_Mo_areAlike_51 : decode xb_Mo_areAlike 51 = .ok (.iload 4, 2) := by decide +kernel
theorem xd_Mo_areAlike_53 : decode xb_Mo_areAlike 53 = .ok (.iadd, 1) := by decide +kernel
theorem xd_Mo_areAlike_54 : decode xb_Mo_areAlike 54 = .ok (.istore 6, 2) := by decide +kernel
theorem xd_Mo_areAlike_56 : decode xb_Mo_areAlike 56 = .ok (.aload_n 0, 1) := by decide +kernel
theorem xd_Mo_areAlike_57 : decode xb_Mo_areAlike 57 = .ok (.getfield 13, 3) := by decide +kernel
theorem xd_Mo_areAlike_60 : decode xb_Mo_areAlike 60 = .ok (.iload 5, 2) := by decide +kernel
theorem xd_Mo_areAlike_62 : decode xb_Mo_areAlike 62 = .ok (.iaload, 1) := by decide +kernel
theorem xd_Mo_areAlike_63 : decode xb_Mo_areAlike 63 = .ok (.iconst 2, 1) := by decide +kernel
theorem xd_Mo_areAlike_64 : decode xb_Mo_areAlike 64 = .ok (.if_icmp .ne 29, 3) := by decide +kernel
theorem xd_Mo_areAlike_67 : decode xb_Mo_areAlike 67 = .ok (.aload_n 0, 1) := by decide +kernel
theorem xd_Mo_areAlike_68 : decode xb_Mo_areAlike 68 = .ok (.getfield 16, 3) := by decide +kernel
theorem xd_Mo_areAlike_71 : decode xb_Mo_areAlike 71 = .ok (.iload 5, 2) := by decide +kernel
theorem xd_Mo_areAlike_73 : decode xb_Mo_areAlike 73 = .ok (.iaload, 1) := by decide +kernel
theorem xd_Mo_areAlike_74 : decode xb_Mo_areAlike 74 = .ok (.iload_n 1, 1) := by decide +kernel
theorem xd_Mo_areAlike_75 : decode xb_Mo_areAlike 75 = .ok (.if_icmp .ne 18, 3) := by decide +kernel
theorem xd_Mo_areAlike_78 : decode xb_Mo_areAlike 78 = .ok (.aload_n 0, 1) := by decide +kernel
theorem xd_Mo_areAlike_79 : decode xb_Mo_areAlike 79 = .ok (.getfield 16, 3) := by decide +kernel
theorem xd_Mo_areAlike_82 : decode xb_Mo_areAlike 82 = .ok (.iload 6, 2) := by decide +kernel
theorem xd_Mo_areAlike_84 : decode xb_Mo_areAlike 84 = .ok (.iaload, 1) := by decide +kernel
theorem xd_Mo_areAlike_85 : decode xb_Mo_areAlike 85 = .ok (.iload_n 2, 1) := by decide +kernel
theorem xd_Mo_areAlike_86 : decode xb_Mo_areAlike 86 = .ok (.if_icmp .ne 7, 3) := by decide +kernel
theorem xd_Mo_areAlike_89 : decode xb_Mo_areAlike 89 = .ok (.iconst 1, 1) := by decide +kernel
theorem xd_Mo_areAlike_90 : decode xb_Mo_areAlike 90 = .ok (.goto 4, 3) := by decide +kernel
theorem xd_Mo_areAlike_93 : decode xb_Mo_areAlike 93 = .ok (.iconst 0, 1) := by decide +kernel
theorem xd_Mo_areAlike_94 : decode xb_Mo_areAlike 94 = .ok (.istore 7, 2) := by decide +kernel
theorem xd_Mo_areAlike_96 : decode xb_Mo_areAlike 96 = .ok (.aload_n 0, 1) := by decide +kernel
theorem xd_Mo_areAlike_97 : decode xb_Mo_areAlike 97 = .ok (.getfield 13, 3) := by decide +kernel
theorem xd_Mo_areAlike_100 : decode xb_Mo_areAlike 100 = .ok (.iload 5, 2) := by decide +kernel
theorem xd_Mo_areAlike_102 : decode xb_Mo_areAlike 102 = .ok (.iaload, 1) := by decide +kernel
theorem xd_Mo_areAlike_103 : decode xb_Mo_areAlike 103 = .ok (.aload_n 0, 1) := by decide +kernel
theorem xd_Mo_areAlike_104 : decode xb_Mo_areAlike 104 = .ok (.getfield 13, 3) := by decide +kernel
theorem xd_Mo_areAlike_107 : decode xb_Mo_areAlike 107 = .ok (.iload 6, 2) := by decide +kernel
theorem xd_Mo_areAlike_109 : decode xb_Mo_areAlike 109 = .ok (.iaload, 1) := by decide +kernel
theorem xd_Mo_areAlike_110 : decode xb_Mo_areAlike 110 = .ok (.if_icmp .ne 29, 3) := by decide +kernel
theorem xd_Mo_areAlike_113 : decode xb_Mo_areAlike 113 = .ok (.aload_n 0, 1) := by decide +kernel
theorem xd_Mo_areAlike_114 : decode xb_Mo_areAlike 114 = .ok (.getfield 16, 3) := by decide +kernel
theorem xd_Mo_areAlike_117 : decode xb_Mo_areAlike 117 = .ok (.iload 5, 2) := by decide +kernel
theorem xd_Mo_areAlike_119 : decode xb_Mo_areAlike 119 = .ok (.iaload, 1) := by decide +kernel
theorem xd_Mo_areAlike_120 : decode xb_Mo_areAlike 120 = .ok (.aload_n 0, 1) := by decide +kernel
theorem xd_Mo_areAlike_121 : decode xb_Mo_areAlike 121 = .ok (.getfield 16, 3) := by decide +kernel
theorem xd_Mo_areAlike_124 : decode xb_Mo_areAlike 124 = .ok (.iload 6, 2) := by decide +kernel
theorem xd_Mo_areAlike_126 : decode xb_Mo_areAlike 126 = .ok (.iaload, 1) := by decide +kernel
theorem xd_Mo_areAlike_127 : decode xb_Mo_areAlike 127 = .ok (.if_icmp .eq 8, 3) := by decide +kernel
theorem xd_Mo_areAlike_130 : decode xb_Mo_areAlike 130 = .ok (.iload 7, 2) := by decide +kernel
theorem xd_Mo_areAlike_132 : decode xb_Mo_areAlike 132 = .ok (.ifCond .eq 7, 3) := by decide +kernel
theorem xd_Mo_areAlike_135 : decode xb_Mo_areAlike 135 = .ok (.iconst 1, 1) := by decide +kernel
theorem xd_Mo_areAlike_136 : decode xb_Mo_areAlike 136 = .ok (.goto 4, 3) := by decide +kernel
theorem xd_Mo_areAlike_139 : decode xb_Mo_areAlike 139 = .ok (.iconst 0, 1) := by decide +kernel
theorem xd_Mo_areAlike_140 : decode xb_Mo_areAlike 140 = .ok (.istore_n 3, 1) := by decide +kernel
theorem xd_Mo_areAlike_141 : decode xb_Mo_areAlike 141 = .ok (.iinc 4 1, 3) := by decide +kernel
theorem xd_Mo_areAlike_144 : decode xb_Mo_areAlike 144 = .ok (.goto (-117), 3) := by decide +kernel
theorem xd_Mo_areAlike_147 : decode xb_Mo_areAlike 147 = .ok (.iload_n 3, 1) := by decide +kernel
theorem xd_Mo_areAlike_148 : decode xb_Mo_areAlike 148 = .ok (.ireturn, 1) := by decide +kernel
theorem xd_Mo_reached_0 : decode xb_Mo_reached 0 = .ok (.aload_n 0, 1) := by decide +kernel
theorem xd_Mo_reached_1 : decode xb_Mo_reached 1 = .ok (.iload_n 1, 1) := by decide +kernel
theorem xd_Mo_reached_2 : decode xb_Mo_reached 2 = .ok (.iconst 0, 1) := by decide +kernel
theorem xd_Mo_reached_3 : decode xb_Mo_reached 3 = .ok (.bipush 39, 2) := by decide +kernel
theorem xd_Mo_reached_5 : decode xb_Mo_reached 5 = .ok (.invokestatic 134, 3) := by decide +kernel
theorem xd_Mo_reached_8 : decode xb_Mo_reached 8 = .ok (.invokevirtual 156, 3) := by decide +kernel
theorem xd_Mo_reached_11 : decode xb_Mo_reached 11 = .ok (.ifCond .ne 5, 3) := by decide +kernel
theorem xd_Mo_reached_14 : decode xb_Mo_reached 14 = .ok (.iconst 0, 1) := by decide +kernel
theorem xd_Mo_reached_15 : decode xb_Mo_reached 15 = .ok (.ireturn, 1) := by decide +kernel
theorem xd_Mo_reached_16 : decode xb_Mo_reached 16 = .ok (.aload_n 0, 1) := by decide +kernel
theorem xd_Mo_reached_17 : decode xb_Mo_reached 17 = .ok (.invokevirtual 160, 3) := by decide +kernel
theorem xd_Mo_reached_20 : decode xb_Mo_reached 20 = .ok (.aload_n 0, 1) := by decide +kernel
theorem xd_Mo_reached_21 : decode xb_Mo_reached 21 = .ok (.getfield 37, 3) := by decide +kernel
theorem xd_Mo_reached_24 : decode xb_Mo_reached 24 = .ok (.iload_n 1, 1) := by decide +kernel
theorem xd_Mo_reached_25 : decode xb_Mo_reached 25 = .ok (.baload, 1) := by decide +kernel
theorem xd_Mo_reached_26 : decode xb_Mo_reached 26 = .ok (.ireturn, 1) := by decide +kernel
theorem xd_Mo_kind_0 : decode xb_Mo_kind 0 = .ok (.aload_n 0, 1) := by decide +kernel
theorem xd_Mo_kind_1 : decode xb_Mo_kind 1 = .ok (.iload_n 1, 1) := by decide +kernel
theorem xd_Mo_kind_2 : decode xb_Mo_kind 2 = .ok (.iconst 0, 1) := by decide +kernel
theorem xd_Mo_kind_3 : decode xb_Mo_kind 3 = .ok (.bipush 39, 2) := by decide +kernel
theorem xd_Mo_kind_5 : decode xb_Mo_kind 5 = .ok (.invokestatic 134, 3) := by decide +kernel
theorem xd_Mo_kind_8 : decode xb_Mo_kind 8 = .ok (.ifCond .eq 17, 3) := by decide +kernel
theorem xd_Mo_kind_11 : decode xb_Mo_kind 11 = .ok (.iload_n 2, 1) := by decide +kernel
theorem xd_Mo_kind_12 : decode xb_Mo_kind 12 = .ok (.iconst 0, 1) := by decide +kernel
theorem xd_Mo_kind_13 : decode xb_Mo_kind 13 = .ok (.bipush 25, 2) := by decide +kernel
theorem xd_Mo_kind_15 : decode xb_Mo_kind 15 = .ok (.invokestatic 134, 3) := by decide +kernel
theorem xd_Mo_kind_18 : decode xb_Mo_kind 18 = .ok (.ifCond .eq 7, 3) := by decide +kernel
theorem xd_Mo_kind_21 : decode xb_Mo_kind 21 = .ok (.iconst 1, 1) := by decide +kernel
theorem xd_Mo_kind_22 : decode xb_Mo_kind 22 = .ok (.goto 4, 3) := by decide +kernel
theorem xd_Mo_kind_25 : decode xb_Mo_kind 25 = .ok (.iconst 0, 1) := by decide +kernel
theorem xd_Mo_kind_26 : decode xb_Mo_kind 26 = .ok (.invokevirtual 156, 3) := by decide +kernel
theorem xd_Mo_kind_29 : decode xb_Mo_kind 29 = .ok (.ifCond .eq 17, 3) := by decide +kernel
theorem xd_Mo_kind_32 : decode xb_Mo_kind 32 = .ok (.aload_n 0, 1) := by decide +kernel
theorem xd_Mo_kind_33 : decode xb_Mo_kind 33 = .ok (.getfield 13, 3) := by decide +kernel
theorem xd_Mo_kind_36 : decode xb_Mo_kind 36 = .ok (.bipush 26, 2) := by decide +kernel
theorem xd_Mo_kind_38 : decode xb_Mo_kind 38 = .ok (.iload_n 1, 1) := by decide +kernel
theorem xd_Mo_kind_39 : decode xb_Mo_kind 39 = .ok (.imul, 1) := by decide +kernel
theorem xd_Mo_kind_40 : decode xb_Mo_kind 40 = .ok (.iload_n 2, 1) := by decide +kernel
theorem xd_Mo_kind_41 : decode xb_Mo_kind 41 = .ok (.iadd, 1) := by decide +kernel
theorem xd_Mo_kind_42 : decode xb_Mo_kind 42 = .ok (.iaload, 1) := by decide +kernel
theorem xd_Mo_kind_43 : decode xb_Mo_kind 43 = .ok (.goto 4, 3) := by decide +kernel
theorem xd_Mo_kind_46 : decode xb_Mo_kind 46 = .ok (.iconst 0, 1) := by decide +kernel
theorem xd_Mo_kind_47 : decode xb_Mo_kind 47 = .ok (.ireturn, 1) := by decide +kernel
theorem xd_Mo_value_1_0 : decode xb_Mo_value_1 0 = .ok (.aload_n 0, 1) := by decide +kernel
theorem xd_Mo_value_1_1 : decode xb_Mo_value_1 1 = .ok (.iload_n 1, 1) := by decide +kernel
theorem xd_Mo_value_1_2 : decode xb_Mo_value_1 2 = .ok (.iconst 0, 1) := by decide +kernel
theorem xd_Mo_value_1_3 : decode xb_Mo_value_1 3 = .ok (.bipush 39, 2) := by decide +kernel
theorem xd_Mo_value_1_5 : decode xb_Mo_value_1 5 = .ok (.invokestatic 134, 3) := by decide +kernel
theorem xd_Mo_value_1_8 : decode xb_Mo_value_1 8 = .ok (.ifCond .eq 17, 3) := by decide +kernel
theorem xd_Mo_value_1_11 : decode xb_Mo_value_1 11 = .ok (.iload_n 2, 1) := by decide +kernel
theorem xd_Mo_value_1_12 : decode xb_Mo_value_1 12 = .ok (.iconst 0, 1) := by decide +kernel
theorem xd_Mo_value_1_13 : decode xb_Mo_value_1 13 = .ok (.bipush 25, 2) := by decide +kernel
theorem xd_Mo_value_1_15 : decode xb_Mo_value_1 15 = .ok (.invokestatic 134, 3) := by decide +kernel
theorem xd_Mo_value_1_18 : decode xb_Mo_value_1 18 = .ok (.ifCond .eq 7, 3) := by decide +kernel
theorem xd_Mo_value_1_21 : decode xb_Mo_value_1 21 = .ok (.iconst 1, 1) := by decide +kernel
theorem xd_Mo_value_1_22 : decode xb_Mo_value_1 22 = .ok (.goto 4, 3) := by decide +kernel
theorem xd_Mo_value_1_25 : decode xb_Mo_value_1 25 = .ok (.iconst 0, 1) := by decide +kernel
theorem xd_Mo_value_1_26 : decode xb_Mo_value_1 26 = .ok (.invokevirtual 156, 3) := by decide +kernel
theorem xd_Mo_value_1_29 : decode xb_Mo_value_1 29 = .ok (.ifCond .eq 17, 3) := by decide +kernel
theorem xd_Mo_value_1_32 : decode xb_Mo_value_1 32 = .ok (.aload_n 0, 1) := by decide +kernel
theorem xd_Mo_value_1_33 : decode xb_Mo_value_1 33 = .ok (.getfield 16, 3) := by decide +kernel
theorem xd_Mo_value_1_36 : decode xb_Mo_value_1 36 = .ok (.bipush 26, 2) := by decide +kernel
theorem xd_Mo_value_1_38 : decode xb_Mo_value_1 38 = .ok (.iload_n 1, 1) := by decide +kernel
theorem xd_Mo_value_1_39 : decode xb_Mo_value_1 39 = .ok (.imul, 1) := by decide +kernel
theorem xd_Mo_value_1_40 : decode xb_Mo_value_1 40 = .ok (.iload_n 2, 1) := by decide +kernel
theorem xd_Mo_value_1_41 : decode xb_Mo_value_1 41 = .ok (.iadd, 1) := by decide +kernel
theorem xd_Mo_value_1_42 : decode xb_Mo_value_1 42 = .ok (.iaload, 1) := by decide +kernel
theorem xd_Mo_value_1_43 : decode xb_Mo_value_1 43 = .ok (.goto 4, 3) := by decide +kernel
theorem xd_Mo_value_1_46 : decode xb_Mo_value_1 46 = .ok (.iconst 0, 1) := by decide +kernel
theorem xd_Mo_value_1_47 : decode xb_Mo_value_1 47 = .ok (.ireturn, 1) := by decide +kernel
theorem xd_Mo_object_0 : decode xb_Mo_object 0 = .ok (.aload_n 0, 1) := by decide +kernel
theorem xd_Mo_object_1 : decode xb_Mo_object 1 = .ok (.iload_n 1, 1) := by decide +kernel
theorem xd_Mo_object_2 : decode xb_Mo_object 2 = .ok (.iconst 0, 1) := by decide +kernel
theorem xd_Mo_object_3 : decode xb_Mo_object 3 = .ok (.bipush 39, 2) := by decide +kernel
theorem xd_Mo_object_5 : decode xb_Mo_object 5 = .ok (.invokestatic 134, 3) := by decide +kernel
theorem xd_Mo_object_8 : decode xb_Mo_object 8 = .ok (.ifCond .eq 16, 3) := by decide +kernel
theorem xd_Mo_object_11 : decode xb_Mo_object 11 = .ok (.iload_n 2, 1) := by decide +kernel
theorem xd_Mo_object_12 : decode xb_Mo_object 12 = .ok (.iconst 0, 1) := by decide +kernel
theorem xd_Mo_object_13 : decode xb_Mo_object 13 = .ok (.iconst 3, 1) := by decide +kernel
theorem xd_Mo_object_14 : decode xb_Mo_object 14 = .ok (.invokestatic 134, 3) := by decide +kernel
theorem xd_Mo_object_17 : decode xb_Mo_object 17 = .ok (.ifCond .eq 7, 3) := by decide +kernel
theorem xd_Mo_object_20 : decode xb_Mo_object 20 = .ok (.iconst 1, 1) := by decide +kernel
theorem xd_Mo_object_21 : decode xb_Mo_object 21 = .ok (.goto 4, 3) := by decide +kernel
theorem xd_Mo_object_24 : decode xb_Mo_object 24 = .ok (.iconst 0, 1) := by decide +kernel
theorem xd_Mo_object_25 : decode xb_Mo_object 25 = .ok (.invokevirtual 156, 3) := by decide +kernel
theorem xd_Mo_object_28 : decode xb_Mo_object 28 = .ok (.ifCond .ne 5, 3) := by decide +kernel
theorem xd_Mo_object_31 : decode xb_Mo_object 31 = .ok (.iconst 0, 1) := by decide +kernel
theorem xd_Mo_object_32 : decode xb_Mo_object 32 = .ok (.ireturn, 1) := by decide +kernel
theorem xd_Mo_object_33 : decode xb_Mo_object 33 = .ok (.iconst 0, 1) := by decide +kernel
theorem xd_Mo_object_34 : decode xb_Mo_object 34 = .ok (.istore_n 3, 1) := by decide +kernel
theorem xd_Mo_object_35 : decode xb_Mo_object 35 = .ok (.iconst 0, 1) := by decide +kernel
theorem xd_Mo_object_36 : decode xb_Mo_object 36 = .ok (.istore 4, 2) := by decide +kernel
theorem xd_Mo_object_38 : decode xb_Mo_object 38 = .ok (.iconst 0, 1) := by decide +kernel
theorem xd_Mo_object_39 : decode xb_Mo_object 39 = .ok (.istore 5, 2) := by decide +kernel
theorem xd_Mo_object_41 : decode xb_Mo_object 41 = .ok (.iload 5, 2) := by decide +kernel
theorem xd_Mo_object_43 : decode xb_Mo_object 43 = .ok (.sipush 1040, 3) := by decide +kernel
theorem xd_Mo_object_46 : decode xb_Mo_object 46 = .ok (.if_icmp .ge 69, 3) := by decide +kernel
theorem xd_Mo_object_49 : decode xb_Mo_object 49 = .ok (.iload 5, 2) := by decide +kernel
theorem xd_Mo_object_51 : decode xb_Mo_object 51 = .ok (.bipush 26, 2) := by decide +kernel
theorem xd_Mo_object_53 : decode xb_Mo_object 53 = .ok (.idiv, 1) := by decide +kernel
theorem xd_Mo_object_54 : decode xb_Mo_object 54 = .ok (.iload_n 1, 1) := by decide +kernel
theorem xd_Mo_object_55 : decode xb_Mo_object 55 = .ok (.if_icmp .ne 19, 3) := by decide +kernel
theorem xd_Mo_object_58 : decode xb_Mo_object 58 = .ok (.aload_n 0, 1) := by decide +kernel
theorem xd_Mo_object_59 : decode xb_Mo_object 59 = .ok (.getfield 13, 3) := by decide +kernel
theorem xd_Mo_object_62 : decode xb_Mo_object 62 = .ok (.iload 5, 2) := by decide +kernel
theorem xd_Mo_object_64 : decode xb_Mo_object 64 = .ok (.iaload, 1) := by decide +kernel
theorem xd_Mo_object_65 : decode xb_Mo_object 65 = .ok (.ifCond .eq 9, 3) := by decide +kernel
theorem xd_Mo_object_68 : decode xb_Mo_object 68 = .ok (.iload_n 3, 1) := by decide +kernel
theorem xd_Mo_object_69 : decode xb_Mo_object 69 = .ok (.iconst 1, 1) := by decide +kernel
theorem xd_Mo_object_70 : decode xb_Mo_object 70 = .ok (.iadd, 1) := by decide +kernel
theorem xd_Mo_object_71 : decode xb_Mo_object 71 = .ok (.goto 4, 3) := by decide +kernel
theorem xd_Mo_object_74 : decode xb_Mo_object 74 = .ok (.iload_n 3, 1) := by decide +kernel
theorem xd_Mo_object_75 : decode xb_Mo_object 75 = .ok (.istore_n 3, 1) := by decide +kernel
theorem xd_Mo_object_76 : decode xb_Mo_object 76 = .ok (.aload_n 0, 1) := by decide +kernel
theorem xd_Mo_object_77 : decode xb_Mo_object 77 = .ok (.getfield 13, 3) := by decide +kernel
theorem xd_Mo_object_80 : decode xb_Mo_object 80 = .ok (.iload 5, 2) := by decide +kernel
theorem xd_Mo_object_82 : decode xb_Mo_object 82 = .ok (.iaload, 1) := by decide +kernel
theorem xd_Mo_object_83 : decode xb_Mo_object 83 = .ok (.iconst 2, 1) := by decide +kernel
theorem xd_Mo_object_84 : decode xb_Mo_object 84 = .ok (.if_icmp .ne 21, 3) := by decide +kernel
theorem xd_Mo_object_87 : decode xb_Mo_object 87 = .ok (.aload_n 0, 1) := by decide +kernel
theorem xd_Mo_object_88 : decode xb_Mo_object 88 = .ok (.getfield 16, 3) := by decide +kernel
theorem xd_Mo_object_91 : decode xb_Mo_object 91 = .ok (.iload 5, 2) := by decide +kernel
theorem xd_Mo_object_93 : decode xb_Mo_object 93 = .ok (.iaload, 1) := by decide +kernel
theorem xd_Mo_object_94 : decode xb_Mo_object 94 = .ok (.iload_n 1, 1) := by decide +kernel
theorem xd_Mo_object_95 : decode xb_Mo_object 95 = .ok (.if_icmp .ne 10, 3) := by decide +kernel
theorem xd_Mo_object_98 : decode xb_Mo_object 98 = .ok (.iload 4, 2) := by decide +kernel
theorem xd_Mo_object_100 : decode xb_Mo_object 100 = .ok (.iconst 1, 1) := by decide +kernel
theorem xd_Mo_object_101 : decode xb_Mo_object 101 = .ok (.iadd, 1) := by decide +kernel
theorem xd_Mo_object_102 : decode xb_Mo_object 102 = .ok (.goto 5, 3) := by decide +kernel
theorem xd_Mo_object_105 : decode xb_Mo_object 105 = .ok (.iload 4, 2) := by decide +kernel
theorem xd_Mo_object_107 : decode xb_Mo_object 107 = .ok (.istore 4, 2) := by decide +kernel
theorem xd_Mo_object_109 : decode xb_Mo_object 109 = .ok (.iinc 5 1, 3) := by decide +kernel
theorem xd_Mo_object_112 : decode xb_Mo_object 112 = .ok (.goto (-71), 3) := by decide +kernel
theorem xd_Mo_object_115 : decode xb_Mo_object 115 = .ok (.iload_n 2, 1) := by decide +kernel
theorem xd_Mo_object_116 : decode xb_Mo_object 116 = .ok (.ifCond .ne 20, 3) := by decide +kernel
theorem xd_Mo_object_119 : decode xb_Mo_object 119 = .ok (.aload_n 0, 1) := by decide +kernel
theorem xd_Mo_object_120 : decode xb_Mo_object 120 = .ok (.getfield 7, 3) := by decide +kernel
theorem xd_Mo_object_123 : decode xb_Mo_object 123 = .ok (.iload_n 1, 1) := by decide +kernel
theorem xd_Mo_object_124 : decode xb_Mo_object 124 = .ok (.iaload, 1) := by decide +kernel
theorem xd_Mo_object_125 : decode xb_Mo_object 125 = .ok (.ifCond .le 7, 3) := by decide +kernel
theorem xd_Mo_object_128 : decode xb_Mo_object 128 = .ok (.iconst 1, 1) := by decide +kernel
theorem xd_Mo_object_129 : decode xb_Mo_object 129 = .ok (.goto 41, 3) := by decide +kernel
theorem xd_Mo_object_132 : decode xb_Mo_object 132 = .ok (.iconst 0, 1) := by decide +kernel
theorem xd_Mo_object_133 : decode xb_Mo_object 133 = .ok (.goto 37, 3) := by decide +kernel
theorem xd_Mo_object_136 : decode xb_Mo_object 136 = .ok (.iload_n 2, 1) := by decide +kernel
theorem xd_Mo_object_137 : decode xb_Mo_object 137 = .ok (.iconst 1, 1) := by decide +kernel
theorem xd_Mo_object_138 : decode xb_Mo_object 138 = .ok (.if_icmp .ne 21, 3) := by decide +kernel
theorem xd_Mo_object_141 : decode xb_Mo_object 141 = .ok (.aload_n 0, 1) := by decide +kernel
theorem xd_Mo_object_142 : decode xb_Mo_object 142 = .ok (.getfield 7, 3) := by decide +kernel
theorem xd_Mo_object_145 : decode xb_Mo_object 145 = .ok (.iload_n 1, 1) := by decide +kernel
theorem xd_Mo_object_146 : decode xb_Mo_object 146 = .ok (.iaload, 1) := by decide +kernel
theorem xd_Mo_object_147 : decode xb_Mo_object 147 = .ok (.iconst 2, 1) := by decide +kernel
theorem xd_Mo_object_148 : decode xb_Mo_object 148 = .ok (.if_icmp .ne 7, 3) := by decide +kernel
theorem xd_Mo_object_151 : decode xb_Mo_object 151 = .ok (.iconst 1, 1) := by decide +kernel
theorem xd_Mo_object_152 : decode xb_Mo_object 152 = .ok (.goto 18, 3) := by decide +kernel
theorem xd_Mo_object_155 : decode xb_Mo_object 155 = .ok (.iconst 0, 1) := by decide +kernel
theorem xd_Mo_object_156 : decode xb_Mo_object 156 = .ok (.goto 14, 3) := by decide +kernel
theorem xd_Mo_object_159 : decode xb_Mo_object 159 = .ok (.iload_n 2, 1) := by decide +kernel
theorem xd_Mo_object_160 : decode xb_Mo_object 160 = .ok (.iconst 2, 1) := by decide +kernel
theorem xd_Mo_object_161 : decode xb_Mo_object 161 = .ok (.if_icmp .ne 7, 3) := by decide +kernel
theorem xd_Mo_object_164 : decode xb_Mo_object 164 = .ok (.iload_n 3, 1) := by decide +kernel
theorem xd_Mo_object_165 : decode xb_Mo_object 165 = .ok (.goto 5, 3) := by decide +kernel
theorem xd_Mo_object_168 : decode xb_Mo_object 168 = .ok (.iload 4, 2) := by decide +kernel
theorem xd_Mo_object_170 : decode xb_Mo_object 170 = .ok (.ireturn, 1) := by decide +kernel
theorem xd_Mo_told_0 : decode xb_Mo_told 0 = .ok (.aload_n 0, 1) := by decide +kernel
theorem xd_Mo_told_1 : decode xb_Mo_told 1 = .ok (.iconst 0, 1) := by decide +kernel
theorem xd_Mo_told_2 : decode xb_Mo_told 2 = .ok (.putfield 41, 3) := by decide +kernel
theorem xd_Mo_told_5 : decode xb_Mo_told 5 = .ok (.iconst 0, 1) := by decide +kernel
theorem xd_Mo_told_6 : decode xb_Mo_told 6 = .ok (.istore_n 2, 1) := by decide +kernel
theorem xd_Mo_told_7 : decode xb_Mo_told 7 = .ok (.iconst 0, 1) := by decide +kernel
theorem xd_Mo_told_8 : decode xb_Mo_told 8 = .ok (.istore_n 3, 1) := by decide +kernel
theorem xd_Mo_told_9 : decode xb_Mo_told 9 = .ok (.iload_n 3, 1) := by decide +kernel
theorem xd_Mo_told_10 : decode xb_Mo_told 10 = .ok (.bipush 40, 2) := by decide +kernel
theorem xd_Mo_told_12 : decode xb_Mo_told 12 = .ok (.if_icmp .ge 26, 3) := by decide +kernel
theorem xd_Mo_told_15 : decode xb_Mo_told 15 = .ok (.aload_n 0, 1) := by decide +kernel
theorem xd_Mo_told_16 : decode xb_Mo_told 16 = .ok (.getfield 7, 3) := by decide +kernel
theorem xd_Mo_told_19 : decode xb_Mo_told 19 = .ok (.iload_n 3, 1) := by decide +kernel
theorem xd_Mo_told_20 : decode xb_Mo_told 20 = .ok (.iaload, 1) := by decide +kernel
theorem xd_Mo_told_21 : decode xb_Mo_told 21 = .ok (.ifCond .le 9, 3) := by decide +kernel
theorem xd_Mo_told_24 : decode xb_Mo_told 24 = .ok (.iload_n 2, 1) := by decide +kernel
theorem xd_Mo_told_25 : decode xb_Mo_told 25 = .ok (.iconst 1, 1) := by decide +kernel
theorem xd_Mo_told_26 : decode xb_Mo_told 26 = .ok (.iadd, 1) := by decide +kernel
theorem xd_Mo_told_27 : decode xb_Mo_told 27 = .ok (.goto 4, 3) := by decide +kernel
theorem xd_Mo_told_30 : decode xb_Mo_told 30 = .ok (.iload_n 2, 1) := by decide +kernel
theorem xd_Mo_told_31 : decode xb_Mo_told 31 = .ok (.istore_n 2, 1) := by decide +kernel
theorem xd_Mo_told_32 : decode xb_Mo_told 32 = .ok (.iinc 3 1, 3) := by decide +kernel
theorem xd_Mo_told_35 : decode xb_Mo_told 35 = .ok (.goto (-26), 3) := by decide +kernel
theorem xd_Mo_told_38 : decode xb_Mo_told 38 = .ok (.iload_n 1, 1) := by decide +kernel
theorem xd_Mo_told_39 : decode xb_Mo_told 39 = .ok (.ifCond .ne 10, 3) := by decide +kernel
theorem xd_Mo_told_42 : decode xb_Mo_told 42 = .ok (.aload_n 0, 1) := by decide +kernel
theorem xd_Mo_told_43 : decode xb_Mo_told 43 = .ok (.getfield 65, 3) := by decide +kernel
theorem xd_Mo_told_46 : decode xb_Mo_told 46 = .ok (.goto 49, 3) := by decide +kernel
theorem xd_Mo_told_49 : decode xb_Mo_told 49 = .ok (.iload_n 1, 1) := by decide +kernel
theorem xd_Mo_told_50 : decode xb_Mo_told 50 = .ok (.iconst 1, 1) := by decide +kernel
theorem xd_Mo_told_51 : decode xb_Mo_told 51 = .ok (.if_icmp .ne 7, 3) := by decide +kernel
theorem xd_Mo_told_54 : decode xb_Mo_told 54 = .ok (.iload_n 2, 1) := by decide +kernel
theorem xd_Mo_told_55 : decode xb_Mo_told 55 = .ok (.goto 40, 3) := by decide +kernel
theorem xd_Mo_told_58 : decode xb_Mo_told 58 = .ok (.iload_n 1, 1) := by decide +kernel
theorem xd_Mo_told_59 : decode xb_Mo_told 59 = .ok (.iconst 2, 1) := by decide +kernel
theorem xd_Mo_told_60 : decode xb_Mo_told 60 = .ok (.if_icmp .ne 10, 3) := by decide +kernel
theorem xd_Mo_told_63 : decode xb_Mo_told 63 = .ok (.aload_n 0, 1) := by decide +kernel
theorem xd_Mo_told_64 : decode xb_Mo_told 64 = .ok (.getfield 59, 3) := by decide +kernel
theorem xd_Mo_told_67 : decode xb_Mo_told 67 = .ok (.goto 28, 3) := by decide +kernel
theorem xd_Mo_told_70 : decode xb_Mo_told 70 = .ok (.iload_n 1, 1) := by decide +kernel
theorem xd_Mo_told_71 : decode xb_Mo_told 71 = .ok (.iconst 3, 1) := by decide +kernel
theorem xd_Mo_told_72 : decode xb_Mo_told 72 = .ok (.if_icmp .ne 10, 3) := by decide +kernel
theorem xd_Mo_told_75 : decode xb_Mo_told 75 = .ok (.aload_n 0, 1) := by decide +kernel
theorem xd_Mo_told_76 : decode xb_Mo_told 76 = .ok (.getfield 144, 3) := by decide +kernel
theorem xd_Mo_told_79 : decode xb_Mo_told 79 = .ok (.goto 16, 3) := by decide +kernel
theorem xd_Mo_told_82 : decode xb_Mo_told 82 = .ok (.iload_n 1, 1) := by decide +kernel
theorem xd_Mo_told_83 : decode xb_Mo_told 83 = .ok (.iconst 4, 1) := by decide +kernel
theorem xd_Mo_told_84 : decode xb_Mo_told 84 = .ok (.if_icmp .ne 10, 3) := by decide +kernel
theorem xd_Mo_told_87 : decode xb_Mo_told 87 = .ok (.aload_n 0, 1) := by decide +kernel
theorem xd_Mo_told_88 : decode xb_Mo_told 88 = .ok (.getfield 147, 3) := by decide +kernel
theorem xd_Mo_told_91 : decode xb_Mo_told 91 = .ok (.goto 4, 3) := by decide +kernel
theorem xd_Mo_told_94 : decode xb_Mo_told 94 = .ok (.iconst (-1), 1) := by decide +kernel
theorem xd_Mo_told_95 : decode xb_Mo_told 95 = .ok (.ireturn, 1) := by decide +kernel
