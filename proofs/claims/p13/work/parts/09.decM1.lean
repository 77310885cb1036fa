theorem xd_Mo_init_0 : decode xb_Mo_init 0 = .ok (.aload_n 0, 1) := by decide +kernel
theorem xd_Mo_init_1 : decode xb_Mo_init 1 = .ok (.invokespecial 1, 3) := by decide +kernel
theorem xd_Mo_init_4 : decode xb_Mo_init 4 = .ok (.aload_n 0, 1) := by decide +kernel
theorem xd_Mo_init_5 : decode xb_Mo_init 5 = .ok (.sipush 720, 3) := by decide +kernel
theorem xd_Mo_init_8 : decode xb_Mo_init 8 = .ok (.newarray .int, 2) := by decide +kernel
theorem xd_Mo_init_10 : decode xb_Mo_init 10 = .ok (.putfield 7, 3) := by decide +kernel
theorem xd_Mo_init_13 : decode xb_Mo_init 13 = .ok (.aload_n 0, 1) := by decide +kernel
theorem xd_Mo_init_14 : decode xb_Mo_init 14 = .ok (.sipush 18720, 3) := by decide +kernel
theorem xd_Mo_init_17 : decode xb_Mo_init 17 = .ok (.newarray .int, 2) := by decide +kernel
theorem xd_Mo_init_19 : decode xb_Mo_init 19 = .ok (.putfield 13, 3) := by decide +kernel
theorem xd_Mo_init_22 : decode xb_Mo_init 22 = .ok (.aload_n 0, 1) := by decide +kernel
theorem xd_Mo_init_23 : decode xb_Mo_init 23 = .ok (.sipush 18720, 3) := by decide +kernel
theorem xd_Mo_init_26 : decode xb_Mo_init 26 = .ok (.newarray .int, 2) := by decide +kernel
theorem xd_Mo_init_28 : decode xb_Mo_init 28 = .ok (.putfield 16, 3) := by decide +kernel
theorem xd_Mo_init_31 : decode xb_Mo_init 31 = .ok (.aload_n 0, 1) := by decide +kernel
theorem xd_Mo_init_32 : decode xb_Mo_init 32 = .ok (.sipush 300, 3) := by decide +kernel
theorem xd_Mo_init_35 : decode xb_Mo_init 35 = .ok (.newarray .int, 2) := by decide +kernel
theorem xd_Mo_init_37 : decode xb_Mo_init 37 = .ok (.putfield 19, 3) := by decide +kernel
theorem xd_Mo_init_40 : decode xb_Mo_init 40 = .ok (.aload_n 0, 1) := by decide +kernel
theorem xd_Mo_init_41 : decode xb_Mo_init 41 = .ok (.bipush 40, 2) := by decide +kernel
theorem xd_Mo_init_43 : decode xb_Mo_init 43 = .ok (.newarray .int, 2) := by decide +kernel
theorem xd_Mo_init_45 : decode xb_Mo_init 45 = .ok (.putfield 22, 3) := by decide +kernel
theorem xd_Mo_init_48 : decode xb_Mo_init 48 = .ok (.aload_n 0, 1) := by decide +kernel
theorem xd_Mo_init_49 : decode xb_Mo_init 49 = .ok (.iconst 2, 1) := by decide +kernel
theorem xd_Mo_init_50 : decode xb_Mo_init 50 = .ok (.newarray .int, 2) := by decide +kernel
theorem xd_Mo_init_52 : decode xb_Mo_init 52 = .ok (.putfield 25, 3) := by decide +kernel
theorem xd_Mo_init_55 : decode xb_Mo_init 55 = .ok (.aload_n 0, 1) := by decide +kernel
theorem xd_Mo_init_56 : decode xb_Mo_init 56 = .ok (.iconst 2, 1) := by decide +kernel
theorem xd_Mo_init_57 : decode xb_Mo_init 57 = .ok (.newarray .int, 2) := by decide +kernel
theorem xd_Mo_init_59 : decode xb_Mo_init 59 = .ok (.putfield 28, 3) := by decide +kernel
theorem xd_Mo_init_62 : decode xb_Mo_init 62 = .ok (.aload_n 0, 1) := by decide +kernel
theorem xd_Mo_init_63 : decode xb_Mo_init 63 = .ok (.iconst 2, 1) := by decide +kernel
theorem xd_Mo_init_64 : decode xb_Mo_init 64 = .ok (.newarray .int, 2) := by decide +kernel
theorem xd_Mo_init_66 : decode xb_Mo_init 66 = .ok (.putfield 31, 3) := by decide +kernel
theorem xd_Mo_init_69 : decode xb_Mo_init 69 = .ok (.aload_n 0, 1) := by decide +kernel
theorem xd_Mo_init_70 : decode xb_Mo_init 70 = .ok (.iconst 2, 1) := by decide +kernel
theorem xd_Mo_init_71 : decode xb_Mo_init 71 = .ok (.newarray .int, 2) := by decide +kernel
theorem xd_Mo_init_73 : decode xb_Mo_init 73 = .ok (.putfield 34, 3) := by decide +kernel
theorem xd_Mo_init_76 : decode xb_Mo_init 76 = .ok (.aload_n 0, 1) := by decide +kernel
theorem xd_Mo_init_77 : decode xb_Mo_init 77 = .ok (.bipush 40, 2) := by decide +kernel
theorem xd_Mo_init_79 : decode xb_Mo_init 79 = .ok (.newarray .boolean, 2) := by decide +kernel
theorem xd_Mo_init_81 : decode xb_Mo_init 81 = .ok (.putfield 37, 3) := by decide +kernel
theorem xd_Mo_init_84 : decode xb_Mo_init 84 = .ok (.aload_n 0, 1) := by decide +kernel
theorem xd_Mo_init_85 : decode xb_Mo_init 85 = .ok (.getfield 7, 3) := by decide +kernel
theorem xd_Mo_init_88 : decode xb_Mo_init 88 = .ok (.iconst 0, 1) := by decide +kernel
theorem xd_Mo_init_89 : decode xb_Mo_init 89 = .ok (.iconst 1, 1) := by decide +kernel
theorem xd_Mo_init_90 : decode xb_Mo_init 90 = .ok (.iastore, 1) := by decide +kernel
theorem xd_Mo_init_91 : decode xb_Mo_init 91 = .ok (.return_, 1) := by decide +kernel
theorem xd_Mo_sign_0 : decode xb_Mo_sign 0 = .ok (.aload_n 0, 1) := by decide +kernel
theorem xd_Mo_sign_1 : decode xb_Mo_sign 1 = .ok (.iconst 0, 1) := by decide +kernel
theorem xd_Mo_sign_2 : decode xb_Mo_sign 2 = .ok (.putfield 41, 3) := by decide +kernel
theorem xd_Mo_sign_5 : decode xb_Mo_sign 5 = .ok (.iload_n 1, 1) := by decide +kernel
theorem xd_Mo_sign_6 : decode xb_Mo_sign 6 = .ok (.bipush 32, 2) := by decide +kernel
theorem xd_Mo_sign_8 : decode xb_Mo_sign 8 = .ok (.bipush 126, 2) := by decide +kernel
theorem xd_Mo_sign_10 : decode xb_Mo_sign 10 = .ok (.invokestatic 134, 3) := by decide +kernel
theorem xd_Mo_sign_13 : decode xb_Mo_sign 13 = .ok (.ifCond .eq 13, 3) := by decide +kernel
theorem xd_Mo_sign_16 : decode xb_Mo_sign 16 = .ok (.aload_n 0, 1) := by decide +kernel
theorem xd_Mo_sign_17 : decode xb_Mo_sign 17 = .ok (.getfield 65, 3) := by decide +kernel
theorem xd_Mo_sign_20 : decode xb_Mo_sign 20 = .ok (.sipush 300, 3) := by decide +kernel
theorem xd_Mo_sign_23 : decode xb_Mo_sign 23 = .ok (.if_icmp .ne 5, 3) := by decide +kernel
theorem xd_Mo_sign_26 : decode xb_Mo_sign 26 = .ok (.iconst 0, 1) := by decide +kernel
theorem xd_Mo_sign_27 : decode xb_Mo_sign 27 = .ok (.ireturn, 1) := by decide +kernel
theorem xd_Mo_sign_28 : decode xb_Mo_sign 28 = .ok (.aload_n 0, 1) := by decide +kernel
theorem xd_Mo_sign_29 : decode xb_Mo_sign 29 = .ok (.getfield 19, 3) := by decide +kernel
theorem xd_Mo_sign_32 : decode xb_Mo_sign 32 = .ok (.aload_n 0, 1) := by decide +kernel
theorem xd_Mo_sign_33 : decode xb_Mo_sign 33 = .ok (.getfield 65, 3) := by decide +kernel
theorem xd_Mo_sign_36 : decode xb_Mo_sign 36 = .ok (.iload_n 1, 1) := by decide +kernel
theorem xd_Mo_sign_37 : decode xb_Mo_sign 37 = .ok (.iastore, 1) := by decide +kernel
theorem xd_Mo_sign_38 : decode xb_Mo_sign 38 = .ok (.aload_n 0, 1) := by decide +kernel
theorem xd_Mo_sign_39 : decode xb_Mo_sign 39 = .ok (.dup, 1) := by decide +kernel
theorem xd_Mo_sign_40 : decode xb_Mo_sign 40 = .ok (.getfield 65, 3) := by decide +kernel
theorem xd_Mo_sign_43 : decode xb_Mo_sign 43 = .ok (.iconst 1, 1) := by decide +kernel
theorem xd_Mo_sign_44 : decode xb_Mo_sign 44 = .ok (.iadd, 1) := by decide +kernel
theorem xd_Mo_sign_45 : decode xb_Mo_sign 45 = .ok (.putfield 65, 3) := by decide +kernel
theorem xd_Mo_sign_48 : decode xb_Mo_sign 48 = .ok (.iconst 1, 1) := by decide +kernel
theorem xd_Mo_sign_49 : decode xb_Mo_sign 49 = .ok (.ireturn, 1) := by decide +kernel
theorem xd_Mo_in_0 : decode xb_Mo_in 0 = .ok (.iload_n 0, 1) := by decide +kernel
theorem xd_Mo_in_1 : decode xb_Mo_in 1 = .ok (.iload_n 1, 1) := by decide +kernel
theorem xd_Mo_in_2 : decode xb_Mo_in 2 = .ok (.if_icmp .lt 12, 3) := by decide +kernel
theorem xd_Mo_in_5 : decode xb_Mo_in 5 = .ok (.iload_n 0, 1) := by decide +kernel
theorem xd_Mo_in_6 : decode xb_Mo_in 6 = .ok (.iload_n 2, 1) := by decide +kernel
theorem xd_Mo_in_7 : decode xb_Mo_in 7 = .ok (.if_icmp .gt 7, 3) := by decide +kernel
theorem xd_Mo_in_10 : decode xb_Mo_in 10 = .ok (.iconst 1, 1) := by decide +kernel
theorem xd_Mo_in_11 : decode xb_Mo_in 11 = .ok (.goto 4, 3) := by decide +kernel
theorem xd_Mo_in_14 : decode xb_Mo_in 14 = .ok (.iconst 0, 1) := by decide +kernel
theorem xd_Mo_in_15 : decode xb_Mo_in 15 = .ok (.ireturn, 1) := by decide +kernel
theorem xd_Mo_run_0 : decode xb_Mo_run 0 = .ok (.aload_n 0, 1) := by decide +kernel
theorem xd_Mo_run_1 : decode xb_Mo_run 1 = .ok (.iconst 0, 1) := by decide +kernel
theorem xd_Mo_run_2 : decode xb_Mo_run 2 = .ok (.putfield 41, 3) := by decide +kernel
theorem xd_Mo_run_5 : decode xb_Mo_run 5 = .ok (.aload_n 0, 1) := by decide +kernel
theorem xd_Mo_run_6 : decode xb_Mo_run 6 = .ok (.iload_n 1, 1) := by decide +kernel
theorem xd_Mo_run_7 : decode xb_Mo_run 7 = .ok (.invokevirtual 138, 3) := by decide +kernel
theorem xd_Mo_run_10 : decode xb_Mo_run 10 = .ok (.istore_n 2, 1) := by decide +kernel
theorem xd_Mo_run_11 : decode xb_Mo_run 11 = .ok (.aload_n 0, 1) := by decide +kernel
theorem xd_Mo_run_12 : decode xb_Mo_run 12 = .ok (.iconst 0, 1) := by decide +kernel
theorem xd_Mo_run_13 : decode xb_Mo_run 13 = .ok (.putfield 65, 3) := by decide +kernel
theorem xd_Mo_run_16 : decode xb_Mo_run 16 = .ok (.iload_n 2, 1) := by decide +kernel
theorem xd_Mo_run_17 : decode xb_Mo_run 17 = .ok (.ifCond .le 7, 3) := by decide +kernel
theorem xd_Mo_run_20 : decode xb_Mo_run 20 = .ok (.iconst (-1), 1) := by decide +kernel
theorem xd_Mo_run_21 : decode xb_Mo_run 21 = .ok (.iload_n 2, 1) := by decide +kernel
theorem xd_Mo_run_22 : decode xb_Mo_run 22 = .ok (.isub, 1) := by decide +kernel
theorem xd_Mo_run_23 : decode xb_Mo_run 23 = .ok (.ireturn, 1) := by decide +kernel
theorem xd_Mo_run_24 : decode xb_Mo_run 24 = .ok (.aload_n 0, 1) := by decide +kernel
theorem xd_Mo_run_25 : decode xb_Mo_run 25 = .ok (.invokevirtual 141, 3) := by decide +kernel
theorem xd_Mo_run_28 : decode xb_Mo_run 28 = .ok (.aload_n 0, 1) := by decide +kernel
theorem xd_Mo_run_29 : decode xb_Mo_run 29 = .ok (.aload_n 0, 1) := by decide +kernel
theorem xd_Mo_run_30 : decode xb_Mo_run 30 = .ok (.getfield 113, 3) := by decide +kernel
theorem xd_Mo_run_33 : decode xb_Mo_run 33 = .ok (.putfield 144, 3) := by decide +kernel
theorem xd_Mo_run_36 : decode xb_Mo_run 36 = .ok (.aload_n 0, 1) := by decide +kernel
theorem xd_Mo_run_37 : decode xb_Mo_run 37 = .ok (.aload_n 0, 1) := by decide +kernel
theorem xd_Mo_run_38 : decode xb_Mo_run 38 = .ok (.getfield 120, 3) := by decide +kernel
theorem xd_Mo_run_41 : decode xb_Mo_run 41 = .ok (.putfield 147, 3) := by decide +kernel
theorem xd_Mo_run_44 : decode xb_Mo_run 44 = .ok (.aload_n 0, 1) := by decide +kernel
theorem xd_Mo_run_45 : decode xb_Mo_run 45 = .ok (.invokevirtual 150, 3) := by decide +kernel
theorem xd_Mo_run_48 : decode xb_Mo_run 48 = .ok (.ireturn, 1) := by decide +kernel
theorem xd_Mo_work_0 : decode xb_Mo_work 0 = .ok (.aload_n 0, 1) := by decide +kernel
theorem xd_Mo_work_1 : decode xb_Mo_work 1 = .ok (.iconst 0, 1) := by decide +kernel
theorem xd_Mo_work_2 : decode xb_Mo_work 2 = .ok (.iconst 1, 1) := by decide +kernel
theorem xd_Mo_work_3 : decode xb_Mo_work 3 = .ok (.invokevirtual 55, 3) := by decide +kernel
theorem xd_Mo_work_6 : decode xb_Mo_work 6 = .ok (.aload_n 0, 1) := by decide +kernel
theorem xd_Mo_work_7 : decode xb_Mo_work 7 = .ok (.iconst 0, 1) := by decide +kernel
theorem xd_Mo_work_8 : decode xb_Mo_work 8 = .ok (.putfield 62, 3) := by decide +kernel
theorem xd_Mo_work_11 : decode xb_Mo_work 11 = .ok (.aload_n 0, 1) := by decide +kernel
theorem xd_Mo_work_12 : decode xb_Mo_work 12 = .ok (.iconst 0, 1) := by decide +kernel
theorem xd_Mo_work_13 : decode xb_Mo_work 13 = .ok (.putfield 120, 3) := by decide +kernel
theorem xd_Mo_work_16 : decode xb_Mo_work 16 = .ok (.aload_n 0, 1) := by decide +kernel
theorem xd_Mo_work_17 : decode xb_Mo_work 17 = .ok (.iconst 0, 1) := by decide +kernel
theorem xd_Mo_work_18 : decode xb_Mo_work 18 = .ok (.putfield 113, 3) := by decide +kernel
theorem xd_Mo_work_21 : decode xb_Mo_work 21 = .ok (.aload_n 0, 1) := by decide +kernel
theorem xd_Mo_work_22 : decode xb_Mo_work 22 = .ok (.invokevirtual 72, 3) := by decide +kernel
theorem xd_Mo_work_25 : decode xb_Mo_work 25 = .ok (.bipush 32, 2) := by decide +kernel
theorem xd_Mo_work_27 : decode xb_Mo_work 27 = .ok (.if_icmp .ne 16, 3) := by decide +kernel
theorem xd_Mo_work_30 : decode xb_Mo_work 30 = .ok (.aload_n 0, 1) := by decide +kernel
theorem xd_Mo_work_31 : decode xb_Mo_work 31 = .ok (.dup, 1) := by decide +kernel
theorem xd_Mo_work_32 : decode xb_Mo_work 32 = .ok (.getfield 62, 3) := by decide +kernel
theorem xd_Mo_work_35 : decode xb_Mo_work 35 = .ok (.iconst 1, 1) := by decide +kernel
theorem xd_Mo_work_36 : decode xb_Mo_work 36 = .ok (.iadd, 1) := by decide +kernel
theorem xd_Mo_work_37 : decode xb_Mo_work 37 = .ok (.putfield 62, 3) := by decide +kernel
theorem xd_Mo_work_40 : decode xb_Mo_work 40 = .ok (.goto (-19), 3) := by decide +kernel
theorem xd_Mo_work_43 : decode xb_Mo_work 43 = .ok (.aload_n 0, 1) := by decide +kernel
theorem xd_Mo_work_44 : decode xb_Mo_work 44 = .ok (.getfield 62, 3) := by decide +kernel
theorem xd_Mo_work_47 : decode xb_Mo_work 47 = .ok (.aload_n 0, 1) := by decide +kernel
theorem xd_Mo_work_48 : decode xb_Mo_work 48 = .ok (.getfield 65, 3) := by decide +kernel
theorem xd_Mo_work_51 : decode xb_Mo_work 51 = .ok (.if_icmp .lt 5, 3) := by decide +kernel
theorem xd_Mo_work_54 : decode xb_Mo_work 54 = .ok (.iconst 0, 1) := by decide +kernel
theorem xd_Mo_work_55 : decode xb_Mo_work 55 = .ok (.ireturn, 1) := by decide +kernel
theorem xd_Mo_work_56 : decode xb_Mo_work 56 = .ok (.aload_n 0, 1) := by decide +kernel
theorem xd_Mo_work_57 : decode xb_Mo_work 57 = .ok (.invokevirtual 123, 3) := by decide +kernel
theorem xd_Mo_work_60 : decode xb_Mo_work 60 = .ok (.ifCond .ne 7, 3) := by decide +kernel
theorem xd_Mo_work_63 : decode xb_Mo_work 63 = .ok (.iconst 1, 1) := by decide +kernel
theorem xd_Mo_work_64 : decode xb_Mo_work 64 = .ok (.goto 43, 3) := by decide +kernel
theorem xd_Mo_work_67 : decode xb_Mo_work 67 = .ok (.aload_n 0, 1) := by decide +kernel
theorem xd_Mo_work_68 : decode xb_Mo_work 68 = .ok (.getfield 88, 3) := by decide +kernel
theorem xd_Mo_work_71 : decode xb_Mo_work 71 = .ok (.bipush 65, 2) := by decide +kernel
theorem xd_Mo_work_73 : decode xb_Mo_work 73 = .ok (.if_icmp .eq 21, 3) := by decide +kernel
theorem xd_Mo_work_76 : decode xb_Mo_work 76 = .ok (.aload_n 0, 1) := by decide +kernel
theorem xd_Mo_work_77 : decode xb_Mo_work 77 = .ok (.getfield 88, 3) := by decide +kernel
theorem xd_Mo_work_80 : decode xb_Mo_work 80 = .ok (.bipush 82, 2) := by decide +kernel
theorem xd_Mo_work_82 : decode xb_Mo_work 82 = .ok (.if_icmp .eq 12, 3) := by decide +kernel
theorem xd_Mo_work_85 : decode xb_Mo_work 85 = .ok (.aload_n 0, 1) := by decide +kernel
theorem xd_Mo_work_86 : decode xb_Mo_work 86 = .ok (.getfield 88, 3) := by decide +kernel
theorem xd_Mo_work_89 : decode xb_Mo_work 89 = .ok (.bipush 71, 2) := by decide +kernel
theorem xd_Mo_work_91 : decode xb_Mo_work 91 = .ok (.if_icmp .ne 11, 3) := by decide +kernel
theorem xd_Mo_work_94 : decode xb_Mo_work 94 = .ok (.aload_n 0, 1) := by decide +kernel
theorem xd_Mo_work_95 : decode xb_Mo_work 95 = .ok (.iload_n 1, 1) := by decide +kernel
theorem xd_Mo_work_96 : decode xb_Mo_work 96 = .ok (.invokevirtual 127, 3) := by decide +kernel
theorem xd_Mo_work_99 : decode xb_Mo_work 99 = .ok (.goto 8, 3) := by decide +kernel
theorem xd_Mo_work_102 : decode xb_Mo_work 102 = .ok (.aload_n 0, 1) := by decide +kernel
theorem xd_Mo_work_103 : decode xb_Mo_work 103 = .ok (.iload_n 1, 1) := by decide +kernel
theorem xd_Mo_work_104 : decode xb_Mo_work 104 = .ok (.invokevirtual 131, 3) := by decide +kernel
theorem xd_Mo_work_107 : decode xb_Mo_work 107 = .ok (.istore_n 2, 1) := by decide +kernel
theorem xd_Mo_work_108 : decode xb_Mo_work 108 = .ok (.iload_n 2, 1) := by decide +kernel
theorem xd_Mo_work_109 : decode xb_Mo_work 109 = .ok (.ifCond .le 19, 3) := by decide +kernel
theorem xd_Mo_work_112 : decode xb_Mo_work 112 = .ok (.aload_n 0, 1) := by decide +kernel
theorem xd_Mo_work_113 : decode xb_Mo_work 113 = .ok (.iconst 1, 1) := by decide +kernel
theorem xd_Mo_work_114 : decode xb_Mo_work 114 = .ok (.iconst 0, 1) := by decide +kernel
theorem xd_Mo_work_115 : decode xb_Mo_work 115 = .ok (.invokevirtual 55, 3) := by decide +kernel
theorem xd_Mo_work_118 : decode xb_Mo_work 118 = .ok (.bipush 10, 2) := by decide +kernel
theorem xd_Mo_work_120 : decode xb_Mo_work 120 = .ok (.aload_n 0, 1) := by decide +kernel
theorem xd_Mo_work_121 : decode xb_Mo_work 121 = .ok (.getfield 120, 3) := by decide +kernel
theorem xd_Mo_work_124 : decode xb_Mo_work 124 = .ok (.imul, 1) := by decide +kernel
theorem xd_Mo_work_125 : decode xb_Mo_work 125 = .ok (.iload_n 2, 1) := by decide +kernel
theorem xd_Mo_work_126 : decode xb_Mo_work 126 = .ok (.iadd, 1) := by decide +kernel
theorem xd_Mo_work_127 : decode xb_Mo_work 127 = .ok (.ireturn, 1) := by decide +kernel
theorem xd_Mo_work_128 : decode xb_Mo_work 128 = .ok (.aload_n 0, 1) := by decide +kernel
theorem xd_Mo_work_129 : decode xb_Mo_work 129 = .ok (.dup, 1) := by decide +kernel
theorem xd_Mo_work_130 : decode xb_Mo_work 130 = .ok (.getfield 120, 3) := by decide +kernel
theorem xd_Mo_work_133 : decode xb_Mo_work 133 = .ok (.iconst 1, 1) := by decide +kernel
theorem xd_Mo_work_134 : decode xb_Mo_work 134 = .ok (.iadd, 1) := by decide +kernel
theorem xd_Mo_work_135 : decode xb_Mo_work 135 = .ok (.putfield 120, 3) := by decide +kernel
theorem xd_Mo_work_138 : decode xb_Mo_work 138 = .ok (.goto (-117), 3) := by decide +kernel
theorem xd_Mo_copy_0 : decode xb_Mo_copy 0 = .ok (.iconst 0, 1) := by decide +kernel
theorem xd_Mo_copy_1 : decode xb_Mo_copy 1 = .ok (.istore_n 3, 1) := by decide +kernel
theorem xd_Mo_copy_2 : decode xb_Mo_copy 2 = .ok (.iload_n 3, 1) := by decide +kernel
theorem xd_Mo_copy_3 : decode xb_Mo_copy 3 = .ok (.bipush 40, 2) := by decide +kernel
theorem xd_Mo_copy_5 : decode xb_Mo_copy 5 = .ok (.if_icmp .ge 31, 3) := by decide +kernel
theorem xd_Mo_copy_8 : decode xb_Mo_copy 8 = .ok (.aload_n 0, 1) := by decide +kernel
theorem xd_Mo_copy_9 : decode xb_Mo_copy 9 = .ok (.getfield 7, 3) := by decide +kernel
theorem xd_Mo_copy_12 : decode xb_Mo_copy 12 = .ok (.bipush 40, 2) := by decide +kernel
theorem xd_Mo_copy_14 : decode xb_Mo_copy 14 = .ok (.iload_n 2, 1) := by decide +kernel
theorem xd_Mo_copy_15 : decode xb_Mo_copy 15 = .ok (.imul, 1) := by decide +kernel
theorem xd_Mo_copy_16 : decode xb_Mo_copy 16 = .ok (.iload_n 3, 1) := by decide +kernel
theorem xd_Mo_copy_17 : decode xb_Mo_copy 17 = .ok (.iadd, 1) := by decide +kernel
theorem xd_Mo_copy_18 : decode xb_Mo_copy 18 = .ok (.aload_n 0, 1) := by decide +kernel
theorem xd_Mo_copy_19 : decode xb_Mo_copy 19 = .ok (.getfield 7, 3) := by decide +kernel
theorem xd_Mo_copy_22 : decode xb_Mo_copy 22 = .ok (.bipush 40, 2) := by decide +kernel
theorem xd_Mo_copy_24 : decode xb_Mo_copy 24 = .ok (.iload_n 1, 1) := by decide +kernel
theorem xd_Mo_copy_25 : decode xb_Mo_copy 25 = .ok (.imul, 1) := by decide +kernel
theorem xd_Mo_copy_26 : decode xb_Mo_copy 26 = .ok (.iload_n 3, 1) := by decide +kernel
theorem xd_Mo_copy_27 : decode xb_Mo_copy 27 = .ok (.iadd, 1) := by decide +kernel
theorem xd_Mo_copy_28 : decode xb_Mo_copy 28 = .ok (.iaload, 1) := by decide +kernel
theorem xd_Mo_copy_29 : decode xb_Mo_copy 29 = .ok (.iastore, 1) := by decide +kernel
theorem xd_Mo_copy_30 : decode xb_Mo_copy 30 = .ok (.iinc 3 1, 3) := by decide +kernel
theorem xd_Mo_copy_33 : decode xb_Mo_copy 33 = .ok (.goto (-31), 3) := by decide +kernel
theorem xd_Mo_copy_36 : decode xb_Mo_copy 36 = .ok (.iconst 0, 1) := by decide +kernel
theorem xd_Mo_copy_37 : decode xb_Mo_copy 37 = .ok (.istore_n 3, 1) := by decide +kernel
theorem xd_Mo_copy_38 : decode xb_Mo_copy 38 = .ok (.iload_n 3, 1) := by decide +kernel
theorem xd_Mo_copy_39 : decode xb_Mo_copy 39 = .ok (.sipush 1040, 3) := by decide +kernel
theorem xd_Mo_copy_42 : decode xb_Mo_copy 42 = .ok (.if_icmp .ge 57, 3) := by decide +kernel
theorem xd_Mo_copy_45 : decode xb_Mo_copy 45 = .ok (.aload_n 0, 1) := by decide +kernel
theorem xd_Mo_copy_46 : decode xb_Mo_copy 46 = .ok (.getfield 13, 3) := by decide +kernel
theorem xd_Mo_copy_49 : decode xb_Mo_copy 49 = .ok (.sipush 1040, 3) := by decide +kernel
theorem xd_Mo_copy_52 : decode xb_Mo_copy 52 = .ok (.iload_n 2, 1) := by decide +kernel
theorem xd_Mo_copy_53 : decode xb_Mo_copy 53 = .ok (.imul, 1) := by decide +kernel
theorem xd_Mo_copy_54 : decode xb_Mo_copy 54 = .ok (.iload_n 3, 1) := by decide +kernel
theorem xd_Mo_copy_55 : decode xb_Mo_copy 55 = .ok (.iadd, 1) := by decide +kernel
theorem xd_Mo_copy_56 : decode xb_Mo_copy 56 = .ok (.aload_n 0, 1) := by decide +kernel
theorem xd_Mo_copy_57 : decode xb_Mo_copy 57 = .ok (.getfield 13, 3) := by decide +kernel
theorem xd_Mo_copy_60 : decode xb_Mo_copy 60 = .ok (.sipush 1040, 3) := by decide +kernel
theorem xd_Mo_copy_63 : decode xb_Mo_copy 63 = .ok (.iload_n 1, 1) := by decide +kernel
theorem xd_Mo_copy_64 : decode xb_Mo_copy 64 = .ok (.imul, 1) := by decide +kernel
theorem xd_Mo_copy_65 : decode xb_Mo_copy 65 = .ok (.iload_n 3, 1) := by decide +kernel
theorem xd_Mo_copy_66 : decode xb_Mo_copy 66 = .ok (.iadd, 1) := by decide +kernel
theorem xd_Mo_copy_67 : decode xb_Mo_copy 67 = .ok (.iaload, 1) := by decide +kernel
theorem xd_Mo_copy_68 : decode xb_Mo_copy 68 = .ok (.iastore, 1) := by decide +kernel
theorem xd_Mo_copy_69 : decode xb_Mo_copy 69 = .ok (.aload_n 0, 1) := by decide +kernel
theorem xd_Mo_copy_70 : decode xb_Mo_copy 70 = .ok (.getfield 16, 3) := by decide +kernel
theorem xd_Mo_copy_73 : decode xb_Mo_copy 73 = .ok (.sipush 1040, 3) := by decide +kernel
theorem xd_Mo_copy_76 : decode xb_Mo_copy 76 = .ok (.iload_n 2, 1) := by decide +kernel
theorem xd_Mo_copy_77 : decode xb_Mo_copy 77 = .ok (.imul, 1) := by decide +kernel
theorem xd_Mo_copy_78 : decode xb_Mo_copy 78 = .ok (.iload_n 3, 1) := by decide +kernel
theorem xd_Mo_copy_79 : decode xb_Mo_copy 79 = .ok (.iadd, 1) := by decide +kernel
theorem xd_Mo_copy_80 : decode xb_Mo_copy 80 = .ok (.aload_n 0, 1) := by decide +kernel
theorem xd_Mo_copy_81 : decode xb_Mo_copy 81 = .ok (.getfield 16, 3) := by decide +kernel
theorem xd_Mo_copy_84 : decode xb_Mo_copy 84 = .ok (.sipush 1040, 3) := by decide +kernel
theorem xd_Mo_copy_87 : decode xb_Mo_copy 87 = .ok (.iload_n 1, 1) := by decide +kernel
theorem xd_Mo_copy_88 : decode xb_Mo_copy 88 = .ok (.imul, 1) := by decide +kernel
theorem xd_Mo_copy_89 : decode xb_Mo_copy 89 = .ok (.iload_n 3, 1) := by decide +kernel
theorem xd_Mo_copy_90 : decode xb_Mo_copy 90 = .ok (.iadd, 1) := by decide +kernel
theorem xd_Mo_copy_91 : decode xb_Mo_copy 91 = .ok (.iaload, 1) := by decide +kernel
theorem xd_Mo_copy_92 : decode xb_Mo_copy 92 = .ok (.iastore, 1) := by decide +kernel
theorem xd_Mo_copy_93 : decode xb_Mo_copy 93 = .ok (.iinc 3 1, 3) := by decide +kernel
theorem xd_Mo_copy_96 : decode xb_Mo_copy 96 = .ok (.goto (-58), 3) := by decide +kernel
theorem xd_Mo_copy_99 : decode xb_Mo_copy 99 = .ok (.return_, 1) := by decide +kernel
theorem xd_Mo_look_0 : decode xb_Mo_look 0 = .ok (.aload_n 0, 1) := by decide +kernel
theorem xd_Mo_look_1 : decode xb_Mo_look 1 = .ok (.getfield 62, 3) := by decide +kernel
theorem xd_Mo_look_4 : decode xb_Mo_look 4 = .ok (.aload_n 0, 1) := by decide +kernel
theorem xd_Mo_look_5 : decode xb_Mo_look 5 = .ok (.getfield 65, 3) := by decide +kernel
theorem xd_Mo_look_8 : decode xb_Mo_look 8 = .ok (.if_icmp .ge 15, 3) := by decide +kernel
theorem xd_Mo_look_11 : decode xb_Mo_look 11 = .ok (.aload_n 0, 1) := by decide +kernel
theorem xd_Mo_look_12 : decode xb_Mo_look 12 = .ok (.getfield 19, 3) := by decide +kernel
theorem xd_Mo_look_15 : decode xb_Mo_look 15 = .ok (.aload_n 0, 1) := by decide +kernel
theorem xd_Mo_look_16 : decode xb_Mo_look 16 = .ok (.getfield 62, 3) := by decide +kernel
theorem xd_Mo_look_19 : decode xb_Mo_look 19 = .ok (.iaload, 1) := by decide +kernel
theorem xd_Mo_look_20 : decode xb_Mo_look 20 = .ok (.goto 4, 3) := by decide +kernel
theorem xd_Mo_look_23 : decode xb_Mo_look 23 = .ok (.iconst (-1), 1) := by decide +kernel
theorem xd_Mo_look_24 : decode xb_Mo_look 24 = .ok (.ireturn, 1) := by decide +kernel
theorem xd_Mo_reads_0 : decode xb_Mo_reads 0 = .ok (.aload_n 0, 1) := by decide +kernel
theorem xd_Mo_reads_1 : decode xb_Mo_reads 1 = .ok (.iconst 0, 1) := by decide +kernel
theorem xd_Mo_reads_2 : decode xb_Mo_reads 2 = .ok (.putfield 68, 3) := by decide +kernel
theorem xd_Mo_reads_5 : decode xb_Mo_reads 5 = .ok (.aload_n 0, 1) := by decide +kernel
theorem xd_Mo_reads_6 : decode xb_Mo_reads 6 = .ok (.aload_n 0, 1) := by decide +kernel
theorem xd_Mo_reads_7 : decode xb_Mo_reads 7 = .ok (.invokevirtual 72, 3) := by decide +kernel
theorem xd_Mo_reads_10 : decode xb_Mo_reads 10 = .ok (.putfield 88, 3) := by decide +kernel
theorem xd_Mo_reads_13 : decode xb_Mo_reads 13 = .ok (.aload_n 0, 1) := by decide +kernel
theorem xd_Mo_reads_14 : decode xb_Mo_reads 14 = .ok (.dup, 1) := by decide +kernel
theorem xd_Mo_reads_15 : decode xb_Mo_reads 15 = .ok (.getfield 62, 3) := by decide +kernel
theorem xd_Mo_reads_18 : decode xb_Mo_reads 18 = .ok (.iconst 1, 1) := by decide +kernel
theorem xd_Mo_reads_19 : decode xb_Mo_reads 19 = .ok (.iadd, 1) := by decide +kernel
theorem xd_Mo_reads_20 : decode xb_Mo_reads 20 = .ok (.putfield 62, 3) := by decide +kernel
theorem xd_Mo_reads_23 : decode xb_Mo_reads 23 = .ok (.aload_n 0, 1) := by decide +kernel
theorem xd_Mo_reads_24 : decode xb_Mo_reads 24 = .ok (.getfield 31, 3) := by decide +kernel
theorem xd_Mo_reads_27 : decode xb_Mo_reads 27 = .ok (.iconst 0, 1) := by decide +kernel
theorem xd_Mo_reads_28 : decode xb_Mo_reads 28 = .ok (.iconst 0, 1) := by decide +kernel
theorem xd_Mo_reads_29 : decode xb_Mo_reads 29 = .ok (.iastore, 1) := by decide +kernel
theorem xd_Mo_reads_30 : decode xb_Mo_reads 30 = .ok (.aload_n 0, 1) := by decide +kernel
theorem xd_Mo_reads_31 : decode xb_Mo_reads 31 = .ok (.getfield 31, 3) := by decide +kernel
theorem xd_Mo_reads_34 : decode xb_Mo_reads 34 = .ok (.iconst 1, 1) := by decide +kernel
theorem xd_Mo_reads_35 : decode xb_Mo_reads 35 = .ok (.iconst 0, 1) := by decide +kernel
theorem xd_Mo_reads_36 : decode xb_Mo_reads 36 = .ok (.iastore, 1) := by decide +kernel
theorem xd_Mo_reads_37 : decode xb_Mo_reads 37 = .ok (.aload_n 0, 1) := by decide +kernel
theorem xd_Mo_reads_38 : decode xb_Mo_reads 38 = .ok (.getfield 88, 3) := by decide +kernel
theorem xd_Mo_reads_41 : decode xb_Mo_reads 41 = .ok (.bipush 65, 2) := by decide +kernel
theorem xd_Mo_reads_43 : decode xb_Mo_reads 43 = .ok (.if_icmp .eq 21, 3) := by decide +kernel
theorem xd_Mo_reads_46 : decode xb_Mo_reads 46 = .ok (.aload_n 0, 1) := by decide +kernel
theorem xd_Mo_reads_47 : decode xb_Mo_reads 47 = .ok (.getfield 88, 3) := by decide +kernel
theorem xd_Mo_reads_50 : decode xb_Mo_reads 50 = .ok (.bipush 82, 2) := by decide +kernel
theorem xd_Mo_reads_52 : decode xb_Mo_reads 52 = .ok (.if_icmp .eq 12, 3) := by decide +kernel
theorem xd_Mo_reads_55 : decode xb_Mo_reads 55 = .ok (.aload_n 0, 1) := by decide +kernel
theorem xd_Mo_reads_56 : decode xb_Mo_reads 56 = .ok (.getfield 88, 3) := by decide +kernel
theorem xd_Mo_reads_59 : decode xb_Mo_reads 59 = .ok (.bipush 71, 2) := by decide +kernel
theorem xd_Mo_reads_61 : decode xb_Mo_reads 61 = .ok (.if_icmp .ne 32, 3) := by decide +kernel
theorem xd_Mo_reads_64 : decode xb_Mo_reads 64 = .ok (.aload_n 0, 1) := by decide +kernel
theorem xd_Mo_reads_65 : decode xb_Mo_reads 65 = .ok (.bipush 32, 2) := by decide +kernel
theorem xd_Mo_reads_67 : decode xb_Mo_reads 67 = .ok (.invokevirtual 80, 3) := by decide +kernel
theorem xd_Mo_reads_70 : decode xb_Mo_reads 70 = .ok (.aload_n 0, 1) := by decide +kernel
theorem xd_Mo_reads_71 : decode xb_Mo_reads 71 = .ok (.aload_n 0, 1) := by decide +kernel
theorem xd_Mo_reads_72 : decode xb_Mo_reads 72 = .ok (.getfield 68, 3) := by decide +kernel
theorem xd_Mo_reads_75 : decode xb_Mo_reads 75 = .ok (.ifCond .eq 7, 3) := by decide +kernel
theorem xd_Mo_reads_78 : decode xb_Mo_reads 78 = .ok (.iconst 0, 1) := by decide +kernel
theorem xd_Mo_reads_79 : decode xb_Mo_reads 79 = .ok (.goto 8, 3) := by decide +kernel
theorem xd_Mo_reads_82 : decode xb_Mo_reads 82 = .ok (.aload_n 0, 1) := by decide +kernel
theorem xd_Mo_reads_83 : decode xb_Mo_reads 83 = .ok (.iconst 2, 1) := by decide +kernel
theorem xd_Mo_reads_84 : decode xb_Mo_reads 84 = .ok (.invokevirtual 84, 3) := by decide +kernel
theorem xd_Mo_reads_87 : decode xb_Mo_reads 87 = .ok (.putfield 91, 3) := by decide +kernel
theorem xd_Mo_reads_90 : decode xb_Mo_reads 90 = .ok (.goto 94, 3) := by decide +kernel
theorem xd_Mo_reads_93 : decode xb_Mo_reads 93 = .ok (.aload_n 0, 1) := by decide +kernel
theorem xd_Mo_reads_94 : decode xb_Mo_reads 94 = .ok (.getfield 88, 3) := by decide +kernel
theorem xd_Mo_reads_97 : decode xb_Mo_reads 97 = .ok (.bipush 83, 2) := by decide +kernel
theorem xd_Mo_reads_99 : decode xb_Mo_reads 99 = .ok (.if_icmp .eq 30, 3) := by decide +kernel
theorem xd_Mo_reads_102 : decode xb_Mo_reads 102 = .ok (.aload_n 0, 1) := by decide +kernel
theorem xd_Mo_reads_103 : decode xb_Mo_reads 103 = .ok (.getfield 88, 3) := by decide +kernel
theorem xd_Mo_reads_106 : decode xb_Mo_reads 106 = .ok (.bipush 68, 2) := by decide +kernel
theorem xd_Mo_reads_108 : decode xb_Mo_reads 108 = .ok (.if_icmp .eq 21, 3) := by decide +kernel
theorem xd_Mo_reads_111 : decode xb_Mo_reads 111 = .ok (.aload_n 0, 1) := by decide +kernel
theorem xd_Mo_reads_112 : decode xb_Mo_reads 112 = .ok (.getfield 88, 3) := by decide +kernel
theorem xd_Mo_reads_115 : decode xb_Mo_reads 115 = .ok (.bipush 77, 2) := by decide +kernel
theorem xd_Mo_reads_117 : decode xb_Mo_reads 117 = .ok (.if_icmp .eq 12, 3) := by decide +kernel
theorem xd_Mo_reads_120 : decode xb_Mo_reads 120 = .ok (.aload_n 0, 1) := by decide +kernel
theorem xd_Mo_reads_121 : decode xb_Mo_reads 121 = .ok (.getfield 88, 3) := by decide +kernel
theorem xd_Mo_reads_124 : decode xb_Mo_reads 124 = .ok (.bipush 67, 2) := by decide +kernel
theorem xd_Mo_reads_126 : decode xb_Mo_reads 126 = .ok (.if_icmp .ne 56, 3) := by decide +kernel
theorem xd_Mo_reads_129 : decode xb_Mo_reads 129 = .ok (.aload_n 0, 1) := by decide +kernel
theorem xd_Mo_reads_130 : decode xb_Mo_reads 130 = .ok (.iconst 0, 1) := by decide +kernel
theorem xd_Mo_reads_131 : decode xb_Mo_reads 131 = .ok (.invokevirtual 94, 3) := by decide +kernel
theorem xd_Mo_reads_134 : decode xb_Mo_reads 134 = .ok (.aload_n 0, 1) := by decide +kernel
theorem xd_Mo_reads_135 : decode xb_Mo_reads 135 = .ok (.getfield 88, 3) := by decide +kernel
theorem xd_Mo_reads_138 : decode xb_Mo_reads 138 = .ok (.bipush 77, 2) := by decide +kernel
theorem xd_Mo_reads_140 : decode xb_Mo_reads 140 = .ok (.if_icmp .ne 11, 3) := by decide +kernel
theorem xd_Mo_reads_143 : decode xb_Mo_reads 143 = .ok (.aload_n 0, 1) := by decide +kernel
theorem xd_Mo_reads_144 : decode xb_Mo_reads 144 = .ok (.iconst 1, 1) := by decide +kernel
theorem xd_Mo_reads_145 : decode xb_Mo_reads 145 = .ok (.invokevirtual 94, 3) := by decide +kernel
theorem xd_Mo_reads_148 : decode xb_Mo_reads 148 = .ok (.goto 36, 3) := by decide +kernel
theorem xd_Mo_reads_151 : decode xb_Mo_reads 151 = .ok (.aload_n 0, 1) := by decide +kernel
theorem xd_Mo_reads_152 : decode xb_Mo_reads 152 = .ok (.getfield 88, 3) := by decide +kernel
theorem xd_Mo_reads_155 : decode xb_Mo_reads 155 = .ok (.bipush 68, 2) := by decide +kernel
theorem xd_Mo_reads_157 : decode xb_Mo_reads 157 = .ok (.if_icmp .eq 27, 3) := by decide +kernel
theorem xd_Mo_reads_160 : decode xb_Mo_reads 160 = .ok (.aload_n 0, 1) := by decide +kernel
theorem xd_Mo_reads_161 : decode xb_Mo_reads 161 = .ok (.iconst 0, 1) := by decide +kernel
theorem xd_Mo_reads_162 : decode xb_Mo_reads 162 = .ok (.invokevirtual 97, 3) := by decide +kernel
theorem xd_Mo_reads_165 : decode xb_Mo_reads 165 = .ok (.aload_n 0, 1) := by decide +kernel
theorem xd_Mo_reads_166 : decode xb_Mo_reads 166 = .ok (.getfield 88, 3) := by decide +kernel
theorem xd_Mo_reads_169 : decode xb_Mo_reads 169 = .ok (.bipush 67, 2) := by decide +kernel
theorem xd_Mo_reads_171 : decode xb_Mo_reads 171 = .ok (.if_icmp .ne 13, 3) := by decide +kernel
theorem xd_Mo_reads_174 : decode xb_Mo_reads 174 = .ok (.aload_n 0, 1) := by decide +kernel
theorem xd_Mo_reads_175 : decode xb_Mo_reads 175 = .ok (.iconst 1, 1) := by decide +kernel
theorem xd_Mo_reads_176 : decode xb_Mo_reads 176 = .ok (.invokevirtual 97, 3) := by decide +kernel
theorem xd_Mo_reads_179 : decode xb_Mo_reads 179 = .ok (.goto 5, 3) := by decide +kernel
theorem xd_Mo_reads_182 : decode xb_Mo_reads 182 = .ok (.iconst 0, 1) := by decide +kernel
theorem xd_Mo_reads_183 : decode xb_Mo_reads 183 = .ok (.ireturn, 1) := by decide +kernel
theorem xd_Mo_reads_184 : decode xb_Mo_reads 184 = .ok (.aload_n 0, 1) := by decide +kernel
theorem xd_Mo_reads_185 : decode xb_Mo_reads 185 = .ok (.bipush 59, 2) := by decide +kernel
theorem xd_Mo_reads_187 : decode xb_Mo_reads 187 = .ok (.invokevirtual 80, 3) := by decide +kernel
theorem xd_Mo_reads_190 : decode xb_Mo_reads 190 = .ok (.aload_n 0, 1) := by decide +kernel
theorem xd_Mo_reads_191 : decode xb_Mo_reads 191 = .ok (.getfield 68, 3) := by decide +kernel
theorem xd_Mo_reads_194 : decode xb_Mo_reads 194 = .ok (.ifCond .ne 7, 3) := by decide +kernel
theorem xd_Mo_reads_197 : decode xb_Mo_reads 197 = .ok (.iconst 1, 1) := by decide +kernel
theorem xd_Mo_reads_198 : decode xb_Mo_reads 198 = .ok (.goto 4, 3) := by decide +kernel
theorem xd_Mo_reads_201 : decode xb_Mo_reads 201 = .ok (.iconst 0, 1) := by decide +kernel
theorem xd_Mo_reads_202 : decode xb_Mo_reads 202 = .ok (.ireturn, 1) := by decide +kernel
theorem xd_Mo_eat_0 : decode xb_Mo_eat 0 = .ok (.aload_n 0, 1) := by decide +kernel
theorem xd_Mo_eat_1 : decode xb_Mo_eat 1 = .ok (.aload_n 0, 1) := by decide +kernel
theorem xd_Mo_eat_2 : decode xb_Mo_eat 2 = .ok (.getfield 68, 3) := by decide +kernel
theorem xd_Mo_eat_5 : decode xb_Mo_eat 5 = .ok (.ifCond .ne 11, 3) := by decide +kernel
theorem xd_Mo_eat_8 : decode xb_Mo_eat 8 = .ok (.aload_n 0, 1) := by decide +kernel
theorem xd_Mo_eat_9 : decode xb_Mo_eat 9 = .ok (.invokevirtual 72, 3) := by decide +kernel
theorem xd_Mo_eat_12 : decode xb_Mo_eat 12 = .ok (.iload_n 1, 1) := by decide +kernel
theorem xd_Mo_eat_13 : decode xb_Mo_eat 13 = .ok (.if_icmp .eq 7, 3) := by decide +kernel
theorem xd_Mo_eat_16 : decode xb_Mo_eat 16 = .ok (.iconst 1, 1) := by decide +kernel
theorem xd_Mo_eat_17 : decode xb_Mo_eat 17 = .ok (.goto 4, 3) := by decide +kernel
theorem xd_Mo_eat_20 : decode xb_Mo_eat 20 = .ok (.iconst 0, 1) := by decide +kernel
theorem xd_Mo_eat_21 : decode xb_Mo_eat 21 = .ok (.putfield 68, 3) := by decide +kernel
theorem xd_Mo_eat_24 : decode xb_Mo_eat 24 = .ok (.aload_n 0, 1) := by decide +kernel
theorem xd_Mo_eat_25 : decode xb_Mo_eat 25 = .ok (.aload_n 0, 1) := by decide +kernel
theorem xd_Mo_eat_26 : decode xb_Mo_eat 26 = .ok (.getfield 68, 3) := by decide +kernel
theorem xd_Mo_eat_29 : decode xb_Mo_eat 29 = .ok (.ifCond .eq 10, 3) := by decide +kernel
theorem xd_Mo_eat_32 : decode xb_Mo_eat 32 = .ok (.aload_n 0, 1) := by decide +kernel
theorem xd_Mo_eat_33 : decode xb_Mo_eat 33 = .ok (.getfield 62, 3) := by decide +kernel
theorem xd_Mo_eat_36 : decode xb_Mo_eat 36 = .ok (.goto 9, 3) := by decide +kernel
theorem xd_Mo_eat_39 : decode xb_Mo_eat 39 = .ok (.aload_n 0, 1) := by decide +kernel
theorem xd_Mo_eat_40 : decode xb_Mo_eat 40 = .ok (.getfield 62, 3) := by decide +kernel
theorem xd_Mo_eat_43 : decode xb_Mo_eat 43 = .ok (.iconst 1, 1) := by decide +kernel
theorem xd_Mo_eat_44 : decode xb_Mo_eat 44 = .ok (.iadd, 1) := by decide +kernel
theorem xd_Mo_eat_45 : decode xb_Mo_eat 45 = .ok (.putfield 62, 3) := by decide +kernel
theorem xd_Mo_eat_48 : decode xb_Mo_eat 48 = .ok (.return_, 1) := by decide +kernel
theorem xd_Mo_number_0 : decode xb_Mo_number 0 = .ok (.iconst 0, 1) := by decide +kernel
theorem xd_Mo_number_1 : decode xb_Mo_number 1 = .ok (.istore_n 2, 1) := by decide +kernel
theorem xd_Mo_number_2 : decode xb_Mo_number 2 = .ok (.iconst 0, 1) := by decide +kernel
theorem xd_Mo_number_3 : decode xb_Mo_number 3 = .ok (.istore_n 3, 1) := by decide +kernel
theorem xd_Mo_number_4 : decode xb_Mo_number 4 = .ok (.iload_n 2, 1) := by decide +kernel
theorem xd_Mo_number_5 : decode xb_Mo_number 5 = .ok (.iload_n 1, 1) := by decide +kernel
theorem xd_Mo_number_6 : decode xb_Mo_number 6 = .ok (.if_icmp .ge 42, 3) := by decide +kernel
theorem xd_Mo_number_9 : decode xb_Mo_number 9 = .ok (.aload_n 0, 1) := by decide +kernel
theorem xd_Mo_number_10 : decode xb_Mo_number 10 = .ok (.invokevirtual 72, 3) := by decide +kernel
theorem xd_Mo_number_13 : decode xb_Mo_number 13 = .ok (.invokestatic 76, 3) := by decide +kernel
theorem xd_Mo_number_16 : decode xb_Mo_number 16 = .ok (.ifCond .eq 32, 3) := by decide +kernel
theorem xd_Mo_number_19 : decode xb_Mo_number 19 = .ok (.bipush 10, 2) := by decide +kernel
theorem xd_Mo_number_21 : decode xb_Mo_number 21 = .ok (.iload_n 3, 1) := by decide +kernel
theorem xd_Mo_number_22 : decode xb_Mo_number 22 = .ok (.imul, 1) := by decide +kernel
theorem xd_Mo_number_23 : decode xb_Mo_number 23 = .ok (.aload_n 0, 1) := by decide +kernel
theorem xd_Mo_number_24 : decode xb_Mo_number 24 = .ok (.invokevirtual 72, 3) := by decide +kernel
theorem xd_Mo_number_27 : decode xb_Mo_number 27 = .ok (.iadd, 1) := by decide +kernel
theorem xd_Mo_number_28 : decode xb_Mo_number 28 = .ok (.bipush 48, 2) := by decide +kernel
theorem xd_Mo_number_30 : decode xb_Mo_number 30 = .ok (.isub, 1) := by decide +kernel
theorem xd_Mo_number_31 : decode xb_Mo_number 31 = .ok (.istore_n 3, 1) := by decide +kernel
theorem xd_Mo_number_32 : decode xb_Mo_number 32 = .ok (.aload_n 0, 1) := by decide +kernel
theorem xd_Mo_number_33 : decode xb_Mo_number 33 = .ok (.dup, 1) := by decide +kernel
theorem xd_Mo_number_34 : decode xb_Mo_number 34 = .ok (.getfield 62, 3) := by decide +kernel
theorem xd_Mo_number_37 : decode xb_Mo_number 37 = .ok (.iconst 1, 1) := by decide +kernel
theorem xd_Mo_number_38 : decode xb_Mo_number 38 = .ok (.iadd, 1) := by decide +kernel
theorem xd_Mo_number_39 : decode xb_Mo_number 39 = .ok (.putfield 62, 3) := by decide +kernel
theorem xd_Mo_number_42 : decode xb_Mo_number 42 = .ok (.iinc 2 1, 3) := by decide +kernel
theorem xd_Mo_number_45 : decode xb_Mo_number 45 = .ok (.goto (-41), 3) := by decide +kernel
theorem xd_Mo_number_48 : decode xb_Mo_number 48 = .ok (.aload_n 0, 1) := by decide +kernel
theorem xd_Mo_number_49 : decode xb_Mo_number 49 = .ok (.aload_n 0, 1) := by decide +kernel
theorem xd_Mo_number_50 : decode xb_Mo_number 50 = .ok (.getfield 68, 3) := by decide +kernel
theorem xd_Mo_number_53 : decode xb_Mo_number 53 = .ok (.ifCond .ne 7, 3) := by decide +kernel
theorem xd_Mo_number_56 : decode xb_Mo_number 56 = .ok (.iload_n 2, 1) := by decide +kernel
theorem xd_Mo_number_57 : decode xb_Mo_number 57 = .ok (.ifCond .ne 7, 3) := by decide +kernel
theorem xd_Mo_number_60 : decode xb_Mo_number 60 = .ok (.iconst 1, 1) := by decide +kernel
theorem xd_Mo_number_61 : decode xb_Mo_number 61 = .ok (.goto 4, 3) := by decide +kernel
theorem xd_Mo_number_64 : decode xb_Mo_number 64 = .ok (.iconst 0, 1) := by decide +kernel
theorem xd_Mo_number_65 : decode xb_Mo_number 65 = .ok (.putfield 68, 3) := by decide +kernel
theorem xd_Mo_number_68 : decode xb_Mo_number 68 = .ok (.iload_n 3, 1) := by decide +kernel
theorem xd_Mo_number_69 : decode xb_Mo_number 69 = .ok (.ireturn, 1) := by decide +kernel
theorem xd_Mo_isDigit_0 : decode xb_Mo_isDigit 0 = .ok (.iload_n 0, 1) := by decide +kernel
theorem xd_Mo_isDigit_1 : decode xb_Mo_isDigit 1 = .ok (.bipush 48, 2) := by decide +kernel
theorem xd_Mo_isDigit_3 : decode xb_Mo_isDigit 3 = .ok (.if_icmp .lt 13, 3) := by decide +kernel
theorem xd_Mo_isDigit_6 : decode xb_Mo_isDigit 6 = .ok (.iload_n 0, 1) := by decide +kernel
theorem xd_Mo_isDigit_7 : decode xb_Mo_isDigit 7 = .ok (.bipush 57, 2) := by decide +kernel
theorem xd_Mo_isDigit_9 : decode xb_Mo_isDigit 9 = .ok (.if_icmp .gt 7, 3) := by decide +kernel
theorem xd_Mo_isDigit_12 : decode xb_Mo_isDigit 12 = .ok (.iconst 1, 1) := by decide +kernel
theorem xd_Mo_isDigit_13 : decode xb_Mo_isDigit 13 = .ok (.goto 4, 3) := by decide +kernel
theorem xd_Mo_isDigit_16 : decode xb_Mo_isDigit 16 = .ok (.iconst 0, 1) := by decide +kernel
theorem xd_Mo_isDigit_17 : decode xb_Mo_isDigit 17 = .ok (.ireturn, 1) := by decide +kernel
theorem xd_Mo_path_0 : decode xb_Mo_path 0 = .ok (.aload_n 0, 1) := by decide +kernel
theorem xd_Mo_path_1 : decode xb_Mo_path 1 = .ok (.bipush 32, 2) := by decide +kernel
theorem xd_Mo_path_3 : decode xb_Mo_path 3 = .ok (.invokevirtual 80, 3) := by decide +kernel
theorem xd_Mo_path_6 : decode xb_Mo_path 6 = .ok (.aload_n 0, 1) := by decide +kernel
theorem xd_Mo_path_7 : decode xb_Mo_path 7 = .ok (.getfield 25, 3) := by decide +kernel
theorem xd_Mo_path_10 : decode xb_Mo_path 10 = .ok (.iload_n 1, 1) := by decide +kernel
theorem xd_Mo_path_11 : decode xb_Mo_path 11 = .ok (.aload_n 0, 1) := by decide +kernel
theorem xd_Mo_path_12 : decode xb_Mo_path 12 = .ok (.getfield 62, 3) := by decide +kernel
theorem xd_Mo_path_15 : decode xb_Mo_path 15 = .ok (.iastore, 1) := by decide +kernel
theorem xd_Mo_path_16 : decode xb_Mo_path 16 = .ok (.aload_n 0, 1) := by decide +kernel
theorem xd_Mo_path_17 : decode xb_Mo_path 17 = .ok (.getfield 68, 3) := by decide +kernel
theorem xd_Mo_path_20 : decode xb_Mo_path 20 = .ok (.ifCond .ne 50, 3) := by decide +kernel
theorem xd_Mo_path_23 : decode xb_Mo_path 23 = .ok (.aload_n 0, 1) := by decide +kernel
theorem xd_Mo_path_24 : decode xb_Mo_path 24 = .ok (.invokevirtual 72, 3) := by decide +kernel
theorem xd_Mo_path_27 : decode xb_Mo_path 27 = .ok (.bipush 97, 2) := by decide +kernel
theorem xd_Mo_path_29 : decode xb_Mo_path 29 = .ok (.if_icmp .lt 41, 3) := by decide +kernel
theorem xd_Mo_path_32 : decode xb_Mo_path 32 = .ok (.aload_n 0, 1) := by decide +kernel
theorem xd_Mo_path_33 : decode xb_Mo_path 33 = .ok (.invokevirtual 72, 3) := by decide +kernel
theorem xd_Mo_path_36 : decode xb_Mo_path 36 = .ok (.bipush 122, 2) := by decide +kernel
theorem xd_Mo_path_38 : decode xb_Mo_path 38 = .ok (.if_icmp .gt 32, 3) := by decide +kernel
theorem xd_Mo_path_41 : decode xb_Mo_path 41 = .ok (.aload_n 0, 1) := by decide +kernel
theorem xd_Mo_path_42 : decode xb_Mo_path 42 = .ok (.getfield 62, 3) := by decide +kernel
theorem xd_Mo_path_45 : decode xb_Mo_path 45 = .ok (.aload_n 0, 1) := by decide +kernel
theorem xd_Mo_path_46 : decode xb_Mo_path 46 = .ok (.getfield 25, 3) := by decide +kernel
theorem xd_Mo_path_49 : decode xb_Mo_path 49 = .ok (.iload_n 1, 1) := by decide +kernel
theorem xd_Mo_path_50 : decode xb_Mo_path 50 = .ok (.iaload, 1) := by decide +kernel
theorem xd_Mo_path_51 : decode xb_Mo_path 51 = .ok (.isub, 1) := by decide +kernel
theorem xd_Mo_path_52 : decode xb_Mo_path 52 = .ok (.bipush 8, 2) := by decide +kernel
theorem xd_Mo_path_54 : decode xb_Mo_path 54 = .ok (.if_icmp .ge 16, 3) := by decide +kernel
theorem xd_Mo_path_57 : decode xb_Mo_path 57 = .ok (.aload_n 0, 1) := by decide +kernel
theorem xd_Mo_path_58 : decode xb_Mo_path 58 = .ok (.dup, 1) := by decide +kernel
theorem xd_Mo_path_59 : decode xb_Mo_path 59 = .ok (.getfield 62, 3) := by decide +kernel
theorem xd_Mo_path_62 : decode xb_Mo_path 62 = .ok (.iconst 1, 1) := by decide +kernel
theorem xd_Mo_path_63 : decode xb_Mo_path 63 = .ok (.iadd, 1) := by decide +kernel
theorem xd_Mo_path_64 : decode xb_Mo_path 64 = .ok (.putfield 62, 3) := by decide +kernel
theorem xd_Mo_path_67 : decode xb_Mo_path 67 = .ok (.goto (-51), 3) := by decide +kernel
theorem xd_Mo_path_70 : decode xb_Mo_path 70 = .ok (.aload_n 0, 1) := by decide +kernel
theorem xd_Mo_path_71 : decode xb_Mo_path 71 = .ok (.getfield 28, 3) := by decide +kernel
theorem xd_Mo_path_74 : decode xb_Mo_path 74 = .ok (.iload_n 1, 1) := by decide +kernel
theorem xd_Mo_path_75 : decode xb_Mo_path 75 = .ok (.aload_n 0, 1) := by decide +kernel
theorem xd_Mo_path_76 : decode xb_Mo_path 76 = .ok (.getfield 62, 3) := by decide +kernel
theorem xd_Mo_path_79 : decode xb_Mo_path 79 = .ok (.aload_n 0, 1) := by decide +kernel
theorem xd_Mo_path_80 : decode xb_Mo_path 80 = .ok (.getfield 25, 3) := by decide +kernel
theorem xd_Mo_path_83 : decode xb_Mo_path 83 = .ok (.iload_n 1, 1) := by decide +kernel
theorem xd_Mo_path_84 : decode xb_Mo_path 84 = .ok (.iaload, 1) := by decide +kernel
theorem xd_Mo_path_85 : decode xb_Mo_path 85 = .ok (.isub, 1) := by decide +kernel
theorem xd_Mo_path_86 : decode xb_Mo_path 86 = .ok (.iastore, 1) := by decide +kernel
theorem xd_Mo_path_87 : decode xb_Mo_path 87 = .ok (.aload_n 0, 1) := by decide +kernel
theorem xd_Mo_path_88 : decode xb_Mo_path 88 = .ok (.aload_n 0, 1) := by decide +kernel
theorem xd_Mo_path_89 : decode xb_Mo_path 89 = .ok (.getfield 68, 3) := by decide +kernel
theorem xd_Mo_path_92 : decode xb_Mo_path 92 = .ok (.ifCond .ne 12, 3) := by decide +kernel
theorem xd_Mo_path_95 : decode xb_Mo_path 95 = .ok (.aload_n 0, 1) := by decide +kernel
theorem xd_Mo_path_96 : decode xb_Mo_path 96 = .ok (.getfield 28, 3) := by decide +kernel
theorem xd_Mo_path_99 : decode xb_Mo_path 99 = .ok (.iload_n 1, 1) := by decide +kernel
theorem xd_Mo_path_100 : decode xb_Mo_path 100 = .ok (.iaload, 1) := by decide +kernel
theorem xd_Mo_path_101 : decode xb_Mo_path 101 = .ok (.ifCond .ne 7, 3) := by decide +kernel
theorem xd_Mo_path_104 : decode xb_Mo_path 104 = .ok (.iconst 1, 1) := by decide +kernel
theorem xd_Mo_path_105 : decode xb_Mo_path 105 = .ok (.goto 4, 3) := by decide +kernel
theorem xd_Mo_path_108 : decode xb_Mo_path 108 = .ok (.iconst 0, 1) := by decide +kernel
theorem xd_Mo_path_109 : decode xb_Mo_path 109 = .ok (.putfield 68, 3) := by decide +kernel
theorem xd_Mo_path_112 : decode xb_Mo_path 112 = .ok (.return_, 1) := by decide +kernel
theorem xd_Mo_value_0_0 : decode xb_Mo_value_0 0 = .ok (.aload_n 0, 1) := by decide +kernel
theorem xd_Mo_value_0_1 : decode xb_Mo_value_0 1 = .ok (.bipush 32, 2) := by decide +kernel
theorem xd_Mo_value_0_3 : decode xb_Mo_value_0 3 = .ok (.invokevirtual 80, 3) := by decide +kernel
theorem xd_Mo_value_0_6 : decode xb_Mo_value_0 6 = .ok (.aload_n 0, 1) := by decide +kernel
theorem xd_Mo_value_0_7 : decode xb_Mo_value_0 7 = .ok (.invokevirtual 72, 3) := by decide +kernel
theorem xd_Mo_value_0_10 : decode xb_Mo_value_0 10 = .ok (.bipush 35, 2) := by decide +kernel
theorem xd_Mo_value_0_12 : decode xb_Mo_value_0 12 = .ok (.if_icmp .ne 7, 3) := by decide +kernel
theorem xd_Mo_value_0_15 : decode xb_Mo_value_0 15 = .ok (.iconst 1, 1) := by decide +kernel
theorem xd_Mo_value_0_16 : decode xb_Mo_value_0 16 = .ok (.goto 4, 3) := by decide +kernel
theorem xd_Mo_value_0_19 : decode xb_Mo_value_0 19 = .ok (.iconst 0, 1) := by decide +kernel
theorem xd_Mo_value_0_20 : decode xb_Mo_value_0 20 = .ok (.istore_n 2, 1) := by decide +kernel
theorem xd_Mo_value_0_21 : decode xb_Mo_value_0 21 = .ok (.aload_n 0, 1) := by decide +kernel
theorem xd_Mo_value_0_22 : decode xb_Mo_value_0 22 = .ok (.invokevirtual 72, 3) := by decide +kernel
theorem xd_Mo_value_0_25 : decode xb_Mo_value_0 25 = .ok (.bipush 45, 2) := by decide +kernel
theorem xd_Mo_value_0_27 : decode xb_Mo_value_0 27 = .ok (.if_icmp .ne 7, 3) := by decide +kernel
theorem xd_Mo_value_0_30 : decode xb_Mo_value_0 30 = .ok (.iconst 1, 1) := by decide +kernel
theorem xd_Mo_value_0_31 : decode xb_Mo_value_0 31 = .ok (.goto 4, 3) := by decide +kernel
theorem xd_Mo_value_0_34 : decode xb_Mo_value_0 34 = .ok (.iconst 0, 1) := by decide +kernel
theorem xd_Mo_value_0_35 : decode xb_Mo_value_0 35 = .ok (.istore_n 3, 1) := by decide +kernel
theorem xd_Mo_value_0_36 : decode xb_Mo_value_0 36 = .ok (.aload_n 0, 1) := by decide +kernel
theorem xd_Mo_value_0_37 : decode xb_Mo_value_0 37 = .ok (.aload_n 0, 1) := by decide +kernel
theorem xd_Mo_value_0_38 : decode xb_Mo_value_0 38 = .ok (.getfield 68, 3) := by decide +kernel
theorem xd_Mo_value_0_41 : decode xb_Mo_value_0 41 = .ok (.ifCond .ne 20, 3) := by decide +kernel
theorem xd_Mo_value_0_44 : decode xb_Mo_value_0 44 = .ok (.iload_n 2, 1) := by decide +kernel
theorem xd_Mo_value_0_45 : decode xb_Mo_value_0 45 = .ok (.ifCond .ne 7, 3) := by decide +kernel
theorem xd_Mo_value_0_48 : decode xb_Mo_value_0 48 = .ok (.iload_n 3, 1) := by decide +kernel
theorem xd_Mo_value_0_49 : decode xb_Mo_value_0 49 = .ok (.ifCond .eq 12, 3) := by decide +kernel
theorem xd_Mo_value_0_52 : decode xb_Mo_value_0 52 = .ok (.aload_n 0, 1) := by decide +kernel
theorem xd_Mo_value_0_53 : decode xb_Mo_value_0 53 = .ok (.getfield 62, 3) := by decide +kernel
theorem xd_Mo_value_0_56 : decode xb_Mo_value_0 56 = .ok (.iconst 1, 1) := by decide +kernel
theorem xd_Mo_value_0_57 : decode xb_Mo_value_0 57 = .ok (.iadd, 1) := by decide +kernel
theorem xd_Mo_value_0_58 : decode xb_Mo_value_0 58 = .ok (.goto 7, 3) := by decide +kernel
theorem xd_Mo_value_0_61 : decode xb_Mo_value_0 61 = .ok (.aload_n 0, 1) := by decide +kernel
theorem xd_Mo_value_0_62 : decode xb_Mo_value_0 62 = .ok (.getfield 62, 3) := by decide +kernel
theorem xd_Mo_value_0_65 : decode xb_Mo_value_0 65 = .ok (.putfield 62, 3) := by decide +kernel
theorem xd_Mo_value_0_68 : decode xb_Mo_value_0 68 = .ok (.aload_n 0, 1) := by decide +kernel
theorem xd_Mo_value_0_69 : decode xb_Mo_value_0 69 = .ok (.getfield 68, 3) := by decide +kernel
theorem xd_Mo_value_0_72 : decode xb_Mo_value_0 72 = .ok (.ifCond .eq 7, 3) := by decide +kernel
theorem xd_Mo_value_0_75 : decode xb_Mo_value_0 75 = .ok (.iconst 0, 1) := by decide +kernel
theorem xd_Mo_value_0_76 : decode xb_Mo_value_0 76 = .ok (.goto 16, 3) := by decide +kernel
theorem xd_Mo_value_0_79 : decode xb_Mo_value_0 79 = .ok (.aload_n 0, 1) := by decide +kernel
theorem xd_Mo_value_0_80 : decode xb_Mo_value_0 80 = .ok (.iload_n 2, 1) := by decide +kernel
theorem xd_Mo_value_0_81 : decode xb_Mo_value_0 81 = .ok (.ifCond .eq 7, 3) := by decide +kernel
theorem xd_Mo_value_0_84 : decode xb_Mo_value_0 84 = .ok (.iconst 2, 1) := by decide +kernel
theorem xd_Mo_value_0_85 : decode xb_Mo_value_0 85 = .ok (.goto 4, 3) := by decide +kernel
theorem xd_Mo_value_0_88 : decode xb_Mo_value_0 88 = .ok (.iconst 5, 1) := by decide +kernel
theorem xd_Mo_value_0_89 : decode xb_Mo_value_0 89 = .ok (.invokevirtual 84, 3) := by decide +kernel
theorem xd_Mo_value_0_92 : decode xb_Mo_value_0 92 = .ok (.istore 4, 2) := by decide +kernel
theorem xd_Mo_value_0_94 : decode xb_Mo_value_0 94 = .ok (.aload_n 0, 1) := by decide +kernel
theorem xd_Mo_value_0_95 : decode xb_Mo_value_0 95 = .ok (.getfield 31, 3) := by decide +kernel
theorem xd_Mo_value_0_98 : decode xb_Mo_value_0 98 = .ok (.iload_n 1, 1) := by decide +kernel
theorem xd_Mo_value_0_99 : decode xb_Mo_value_0 99 = .ok (.iload_n 2, 1) := by decide +kernel
theorem xd_Mo_value_0_100 : decode xb_Mo_value_0 100 = .ok (.ifCond .eq 7, 3) := by decide +kernel
theorem xd_Mo_value_0_103 : decode xb_Mo_value_0 103 = .ok (.iconst 2, 1) := by decide +kernel
theorem xd_Mo_value_0_104 : decode xb_Mo_value_0 104 = .ok (.goto 4, 3) := by decide +kernel
theorem xd_Mo_value_0_107 : decode xb_Mo_value_0 107 = .ok (.iconst 1, 1) := by decide +kernel
theorem xd_Mo_value_0_108 : decode xb_Mo_value_0 108 = .ok (.iastore, 1) := by decide +kernel
theorem xd_Mo_value_0_109 : decode xb_Mo_value_0 109 = .ok (.aload_n 0, 1) := by decide +kernel
theorem xd_Mo_value_0_110 : decode xb_Mo_value_0 110 = .ok (.getfield 34, 3) := by decide +kernel
theorem xd_Mo_value_0_113 : decode xb_Mo_value_0 113 = .ok (.iload_n 1, 1) := by decide +kernel
theorem xd_Mo_value_0_114 : decode xb_Mo_value_0 114 = .ok (.iload_n 3, 1) := by decide +kernel
theorem xd_Mo_value_0_115 : decode xb_Mo_value_0 115 = .ok (.ifCond .eq 9, 3) := by decide +kernel
theorem xd_Mo_value_0_118 : decode xb_Mo_value_0 118 = .ok (.iload 4, 2) := by decide +kernel
theorem xd_Mo_value_0_120 : decode xb_Mo_value_0 120 = .ok (.ineg, 1) := by decide +kernel
theorem xd_Mo_value_0_121 : decode xb_Mo_value_0 121 = .ok (.goto 5, 3) := by decide +kernel
theorem xd_Mo_value_0_124 : decode xb_Mo_value_0 124 = .ok (.iload 4, 2) := by decide +kernel
theorem xd_Mo_value_0_126 : decode xb_Mo_value_0 126 = .ok (.iastore, 1) := by decide +kernel
theorem xd_Mo_value_0_127 : decode xb_Mo_value_0 127 = .ok (.return_, 1) := by decide +kernel
theorem xd_Mo_doObject_0 : decode xb_Mo_doObject 0 = .ok (.aload_n 0, 1) := by decide +kernel
theorem xd_Mo_doObject_1 : decode xb_Mo_doObject 1 = .ok (.getfield 91, 3) := by decide +kernel
theorem xd_Mo_doObject_4 : decode xb_Mo_doObject 4 = .ok (.bipush 40, 2) := by decide +kernel
theorem xd_Mo_doObject_6 : decode xb_Mo_doObject 6 = .ok (.if_icmp .ge 19, 3) := by decide +kernel
theorem xd_Mo_doObject_9 : decode xb_Mo_doObject 9 = .ok (.aload_n 0, 1) := by decide +kernel
theorem xd_Mo_doObject_10 : decode xb_Mo_doObject 10 = .ok (.getfield 88, 3) := by decide +kernel
theorem xd_Mo_doObject_13 : decode xb_Mo_doObject 13 = .ok (.bipush 82, 2) := by decide +kernel
theorem xd_Mo_doObject_15 : decode xb_Mo_doObject 15 = .ok (.if_icmp .ne 12, 3) := by decide +kernel
theorem xd_Mo_doObject_18 : decode xb_Mo_doObject 18 = .ok (.aload_n 0, 1) := by decide +kernel
theorem xd_Mo_doObject_19 : decode xb_Mo_doObject 19 = .ok (.getfield 91, 3) := by decide +kernel
theorem xd_Mo_doObject_22 : decode xb_Mo_doObject 22 = .ok (.ifCond .ne 5, 3) := by decide +kernel
theorem xd_Mo_doObject_25 : decode xb_Mo_doObject 25 = .ok (.iconst 2, 1) := by decide +kernel
theorem xd_Mo_doObject_26 : decode xb_Mo_doObject 26 = .ok (.ireturn, 1) := by decide +kernel
theorem xd_Mo_doObject_27 : decode xb_Mo_doObject 27 = .ok (.aload_n 0, 1) := by decide +kernel
theorem xd_Mo_doObject_28 : decode xb_Mo_doObject 28 = .ok (.getfield 88, 3) := by decide +kernel
theorem xd_Mo_doObject_31 : decode xb_Mo_doObject 31 = .ok (.bipush 65, 2) := by decide +kernel
theorem xd_Mo_doObject_33 : decode xb_Mo_doObject 33 = .ok (.if_icmp .ne 18, 3) := by decide +kernel
theorem xd_Mo_doObject_36 : decode xb_Mo_doObject 36 = .ok (.aload_n 0, 1) := by decide +kernel
theorem xd_Mo_doObject_37 : decode xb_Mo_doObject 37 = .ok (.getfield 7, 3) := by decide +kernel
theorem xd_Mo_doObject_40 : decode xb_Mo_doObject 40 = .ok (.aload_n 0, 1) := by decide +kernel
theorem xd_Mo_doObject_41 : decode xb_Mo_doObject 41 = .ok (.getfield 91, 3) := by decide +kernel
theorem xd_Mo_doObject_44 : decode xb_Mo_doObject 44 = .ok (.iaload, 1) := by decide +kernel
theorem xd_Mo_doObject_45 : decode xb_Mo_doObject 45 = .ok (.ifCond .eq 20, 3) := by decide +kernel
theorem xd_Mo_doObject_48 : decode xb_Mo_doObject 48 = .ok (.goto 15, 3) := by decide +kernel
theorem xd_Mo_doObject_51 : decode xb_Mo_doObject 51 = .ok (.aload_n 0, 1) := by decide +kernel
theorem xd_Mo_doObject_52 : decode xb_Mo_doObject 52 = .ok (.getfield 7, 3) := by decide +kernel
theorem xd_Mo_doObject_55 : decode xb_Mo_doObject 55 = .ok (.aload_n 0, 1) := by decide +kernel
theorem xd_Mo_doObject_56 : decode xb_Mo_doObject 56 = .ok (.getfield 91, 3) := by decide +kernel
theorem xd_Mo_doObject_59 : decode xb_Mo_doObject 59 = .ok (.iaload, 1) := by decide +kernel
theorem xd_Mo_doObject_60 : decode xb_Mo_doObject 60 = .ok (.ifCond .ne 5, 3) := by decide +kernel
theorem xd_Mo_doObject_63 : decode xb_Mo_doObject 63 = .ok (.iconst 3, 1) := by decide +kernel
theorem xd_Mo_doObject_64 : decode xb_Mo_doObject 64 = .ok (.ireturn, 1) := by decide +kernel
theorem xd_Mo_doObject_65 : decode xb_Mo_doObject 65 = .ok (.aload_n 0, 1) := by decide +kernel
theorem xd_Mo_doObject_66 : decode xb_Mo_doObject 66 = .ok (.getfield 88, 3) := by decide +kernel
theorem xd_Mo_doObject_69 : decode xb_Mo_doObject 69 = .ok (.bipush 82, 2) := by decide +kernel
theorem xd_Mo_doObject_71 : decode xb_Mo_doObject 71 = .ok (.if_icmp .ne 18, 3) := by decide +kernel
theorem xd_Mo_doObject_74 : decode xb_Mo_doObject 74 = .ok (.aload_n 0, 1) := by decide +kernel
theorem xd_Mo_doObject_75 : decode xb_Mo_doObject 75 = .ok (.aload_n 0, 1) := by decide +kernel
theorem xd_Mo_doObject_76 : decode xb_Mo_doObject 76 = .ok (.getfield 91, 3) := by decide +kernel
theorem xd_Mo_doObject_79 : decode xb_Mo_doObject 79 = .ok (.iload_n 1, 1) := by decide +kernel
theorem xd_Mo_doObject_80 : decode xb_Mo_doObject 80 = .ok (.invokevirtual 100, 3) := by decide +kernel
theorem xd_Mo_doObject_83 : decode xb_Mo_doObject 83 = .ok (.ifCond .eq 6, 3) := by decide +kernel
theorem xd_Mo_doObject_86 : decode xb_Mo_doObject 86 = .ok (.bipush 6, 2) := by decide +kernel
theorem xd_Mo_doObject_88 : decode xb_Mo_doObject 88 = .ok (.ireturn, 1) := by decide +kernel
theorem xd_Mo_doObject_89 : decode xb_Mo_doObject 89 = .ok (.aload_n 0, 1) := by decide +kernel
theorem xd_Mo_doObject_90 : decode xb_Mo_doObject 90 = .ok (.getfield 7, 3) := by decide +kernel
theorem xd_Mo_doObject_93 : decode xb_Mo_doObject 93 = .ok (.aload_n 0, 1) := by decide +kernel
theorem xd_Mo_doObject_94 : decode xb_Mo_doObject 94 = .ok (.getfield 91, 3) := by decide +kernel
theorem xd_Mo_doObject_97 : decode xb_Mo_doObject 97 = .ok (.aload_n 0, 1) := by decide +kernel
theorem xd_Mo_doObject_98 : decode xb_Mo_doObject 98 = .ok (.getfield 88, 3) := by decide +kernel
theorem xd_Mo_doObject_101 : decode xb_Mo_doObject 101 = .ok (.bipush 65, 2) := by decide +kernel
theorem xd_Mo_doObject_103 : decode xb_Mo_doObject 103 = .ok (.if_icmp .ne 7, 3) := by decide +kernel
theorem xd_Mo_doObject_106 : decode xb_Mo_doObject 106 = .ok (.iconst 1, 1) := by decide +kernel
theorem xd_Mo_doObject_107 : decode xb_Mo_doObject 107 = .ok (.goto 17, 3) := by decide +kernel
theorem xd_Mo_doObject_110 : decode xb_Mo_doObject 110 = .ok (.aload_n 0, 1) := by decide +kernel
theorem xd_Mo_doObject_111 : decode xb_Mo_doObject 111 = .ok (.getfield 88, 3) := by decide +kernel
theorem xd_Mo_doObject_114 : decode xb_Mo_doObject 114 = .ok (.bipush 71, 2) := by decide +kernel
theorem xd_Mo_doObject_116 : decode xb_Mo_doObject 116 = .ok (.if_icmp .ne 7, 3) := by decide +kernel
theorem xd_Mo_doObject_119 : decode xb_Mo_doObject 119 = .ok (.iconst 2, 1) := by decide +kernel
theorem xd_Mo_doObject_120 : decode xb_Mo_doObject 120 = .ok (.goto 4, 3) := by decide +kernel
theorem xd_Mo_doObject_123 : decode xb_Mo_doObject 123 = .ok (.iconst 0, 1) := by decide +kernel
theorem xd_Mo_doObject_124 : decode xb_Mo_doObject 124 = .ok (.iastore, 1) := by decide +kernel
theorem xd_Mo_doObject_125 : decode xb_Mo_doObject 125 = .ok (.aload_n 0, 1) := by decide +kernel
theorem xd_Mo_doObject_126 : decode xb_Mo_doObject 126 = .ok (.getfield 88, 3) := by decide +kernel
theorem xd_Mo_doObject_129 : decode xb_Mo_doObject 129 = .ok (.bipush 82, 2) := by decide +kernel
theorem xd_Mo_doObject_131 : decode xb_Mo_doObject 131 = .ok (.if_icmp .ne 11, 3) := by decide +kernel
theorem xd_Mo_doObject_134 : decode xb_Mo_doObject 134 = .ok (.aload_n 0, 1) := by decide +kernel
theorem xd_Mo_doObject_135 : decode xb_Mo_doObject 135 = .ok (.aload_n 0, 1) := by decide +kernel
theorem xd_Mo_doObject_136 : decode xb_Mo_doObject 136 = .ok (.getfield 91, 3) := by decide +kernel
theorem xd_Mo_doObject_139 : decode xb_Mo_doObject 139 = .ok (.invokevirtual 104, 3) := by decide +kernel
theorem xd_Mo_doObject_142 : decode xb_Mo_doObject 142 = .ok (.iconst 0, 1) := by decide +kernel
theorem xd_Mo_doObject_143 : decode xb_Mo_doObject 143 = .ok (.ireturn, 1) := by decide +kernel
theorem xd_Mo_isShut_0 : decode xb_Mo_isShut 0 = .ok (.aload_n 0, 1) := by decide +kernel
theorem xd_Mo_isShut_1 : decode xb_Mo_isShut 1 = .ok (.getfield 7, 3) := by decide +kernel
theorem xd_Mo_isShut_4 : decode xb_Mo_isShut 4 = .ok (.iload_n 1, 1) := by decide +kernel
theorem xd_Mo_isShut_5 : decode xb_Mo_isShut 5 = .ok (.iaload, 1) := by decide +kernel
theorem xd_Mo_isShut_6 : decode xb_Mo_isShut 6 = .ok (.iconst 2, 1) := by decide +kernel
theorem xd_Mo_isShut_7 : decode xb_Mo_isShut 7 = .ok (.if_icmp .ne 11, 3) := by decide +kernel
theorem xd_Mo_isShut_10 : decode xb_Mo_isShut 10 = .ok (.iload_n 2, 1) := by decide +kernel
theorem xd_Mo_isShut_11 : decode xb_Mo_isShut 11 = .ok (.ifCond .ne 7, 3) := by decide +kernel
theorem xd_Mo_isShut_14 : decode xb_Mo_isShut 14 = .ok (.iconst 1, 1) := by decide +kernel
theorem xd_Mo_isShut_15 : decode xb_Mo_isShut 15 = .ok (.goto 4, 3) := by decide +kernel
theorem xd_Mo_isShut_18 : decode xb_Mo_isShut 18 = .ok (.iconst 0, 1) := by decide +kernel
theorem xd_Mo_isShut_19 : decode xb_Mo_isShut 19 = .ok (.ireturn, 1) := by decide +kernel
theorem xd_Mo_empty_0 : decode xb_Mo_empty 0 = .ok (.bipush 26, 2) := by decide +kernel
theorem xd_Mo_empty_2 : decode xb_Mo_empty 2 = .ok (.iload_n 1, 1) := by decide +kernel
theorem xd_Mo_empty_3 : decode xb_Mo_empty 3 = .ok (.imul, 1) := by decide +kernel
theorem xd_Mo_empty_4 : decode xb_Mo_empty 4 = .ok (.istore_n 2, 1) := by decide +kernel
theorem xd_Mo_empty_5 : decode xb_Mo_empty 5 = .ok (.iload_n 2, 1) := by decide +kernel
theorem xd_Mo_empty_6 : decode xb_Mo_empty 6 = .ok (.bipush 26, 2) := by decide +kernel
theorem xd_Mo_empty_8 : decode xb_Mo_empty 8 = .ok (.iload_n 1, 1) := by decide +kernel
theorem xd_Mo_empty_9 : decode xb_Mo_empty 9 = .ok (.imul, 1) := by decide +kernel
theorem xd_Mo_empty_10 : decode xb_Mo_empty 10 = .ok (.bipush 26, 2) := by decide +kernel
theorem xd_Mo_empty_12 : decode xb_Mo_empty 12 = .ok (.iadd, 1) := by decide +kernel
theorem xd_Mo_empty_13 : decode xb_Mo_empty 13 = .ok (.if_icmp .ge 23, 3) := by decide +kernel
theorem xd_Mo_empty_16 : decode xb_Mo_empty 16 = .ok (.aload_n 0, 1) := by decide +kernel
theorem xd_Mo_empty_17 : decode xb_Mo_empty 17 = .ok (.getfield 13, 3) := by decide +kernel
theorem xd_Mo_empty_20 : decode xb_Mo_empty 20 = .ok (.iload_n 2, 1) := by decide +kernel
theorem xd_Mo_empty_21 : decode xb_Mo_empty 21 = .ok (.iconst 0, 1) := by decide +kernel
theorem xd_Mo_empty_22 : decode xb_Mo_empty 22 = .ok (.iastore, 1) := by decide +kernel
theorem xd_Mo_empty_23 : decode xb_Mo_empty 23 = .ok (.aload_n 0, 1) := by decide +kernel
theorem xd_Mo_empty_24 : decode xb_Mo_empty 24 = .ok (.getfield 16, 3) := by decide +kernel
theorem xd_Mo_empty_27 : decode xb_Mo_empty 27 = .ok (.iload_n 2, 1) := by decide +kernel
theorem xd_Mo_empty_28 : decode xb_Mo_empty 28 = .ok (.iconst 0, 1) := by decide +kernel
theorem xd_Mo_empty_29 : decode xb_Mo_empty 29 = .ok (.iastore, 1) := by decide +kernel
theorem xd_Mo_empty_30 : decode xb_Mo_empty 30 = .ok (.iinc 2 1, 3) := by decide +kernel
theorem xd_Mo_empty_33 : decode xb_Mo_empty 33 = .ok (.goto (-28), 3) := by decide +kernel
theorem xd_Mo_empty_36 : decode xb_Mo_empty 36 = .ok (.return_, 1) := by decide +kernel
theorem xd_Mo_doPath_0 : decode xb_Mo_doPath 0 = .ok (.aload_n 0, 1) := by decide +kernel
theorem xd_Mo_doPath_1 : decode xb_Mo_doPath 1 = .ok (.iconst 0, 1) := by decide +kernel
theorem xd_Mo_doPath_2 : decode xb_Mo_doPath 2 = .ok (.invokevirtual 107, 3) := by decide +kernel
theorem xd_Mo_doPath_5 : decode xb_Mo_doPath 5 = .ok (.ifCond .ne 11, 3) := by decide +kernel
theorem xd_Mo_doPath_8 : decode xb_Mo_doPath 8 = .ok (.aload_n 0, 1) := by decide +kernel
theorem xd_Mo_doPath_9 : decode xb_Mo_doPath 9 = .ok (.iconst 1, 1) := by decide +kernel
theorem xd_Mo_doPath_10 : decode xb_Mo_doPath 10 = .ok (.invokevirtual 107, 3) := by decide +kernel
theorem xd_Mo_doPath_13 : decode xb_Mo_doPath 13 = .ok (.ifCond .eq 5, 3) := by decide +kernel
theorem xd_Mo_doPath_16 : decode xb_Mo_doPath 16 = .ok (.iconst 2, 1) := by decide +kernel
theorem xd_Mo_doPath_17 : decode xb_Mo_doPath 17 = .ok (.ireturn, 1) := by decide +kernel
theorem xd_Mo_doPath_18 : decode xb_Mo_doPath 18 = .ok (.aload_n 0, 1) := by decide +kernel
theorem xd_Mo_doPath_19 : decode xb_Mo_doPath 19 = .ok (.iconst 0, 1) := by decide +kernel
theorem xd_Mo_doPath_20 : decode xb_Mo_doPath 20 = .ok (.invokevirtual 110, 3) := by decide +kernel
theorem xd_Mo_doPath_23 : decode xb_Mo_doPath 23 = .ok (.istore_n 2, 1) := by decide +kernel
theorem xd_Mo_doPath_24 : decode xb_Mo_doPath 24 = .ok (.aload_n 0, 1) := by decide +kernel
theorem xd_Mo_doPath_25 : decode xb_Mo_doPath 25 = .ok (.getfield 88, 3) := by decide +kernel
theorem xd_Mo_doPath_28 : decode xb_Mo_doPath 28 = .ok (.bipush 77, 2) := by decide +kernel
theorem xd_Mo_doPath_30 : decode xb_Mo_doPath 30 = .ok (.if_icmp .ne 11, 3) := by decide +kernel
theorem xd_Mo_doPath_33 : decode xb_Mo_doPath 33 = .ok (.aload_n 0, 1) := by decide +kernel
theorem xd_Mo_doPath_34 : decode xb_Mo_doPath 34 = .ok (.iconst 1, 1) := by decide +kernel
theorem xd_Mo_doPath_35 : decode xb_Mo_doPath 35 = .ok (.invokevirtual 110, 3) := by decide +kernel
theorem xd_Mo_doPath_38 : decode xb_Mo_doPath 38 = .ok (.goto 4, 3) := by decide +kernel
theorem xd_Mo_doPath_41 : decode xb_Mo_doPath 41 = .ok (.iload_n 2, 1) := by decide +kernel
theorem xd_Mo_doPath_42 : decode xb_Mo_doPath 42 = .ok (.istore_n 3, 1) := by decide +kernel
theorem xd_Mo_doPath_43 : decode xb_Mo_doPath 43 = .ok (.iload_n 2, 1) := by decide +kernel
theorem xd_Mo_doPath_44 : decode xb_Mo_doPath 44 = .ok (.iconst (-1), 1) := by decide +kernel
theorem xd_Mo_doPath_45 : decode xb_Mo_doPath 45 = .ok (.if_icmp .eq 8, 3) := by decide +kernel
theorem xd_Mo_doPath_48 : decode xb_Mo_doPath 48 = .ok (.iload_n 3, 1) := by decide +kernel
theorem xd_Mo_doPath_49 : decode xb_Mo_doPath 49 = .ok (.iconst (-1), 1) := by decide +kernel
theorem xd_Mo_doPath_50 : decode xb_Mo_doPath 50 = .ok (.if_icmp .ne 5, 3) := by decide +kernel
theorem xd_Mo_doPath_53 : decode xb_Mo_doPath 53 = .ok (.iconst 4, 1) := by decide +kernel
theorem xd_Mo_doPath_54 : decode xb_Mo_doPath 54 = .ok (.ireturn, 1) := by decide +kernel
theorem xd_Mo_doPath_55 : decode xb_Mo_doPath 55 = .ok (.aload_n 0, 1) := by decide +kernel
theorem xd_Mo_doPath_56 : decode xb_Mo_doPath 56 = .ok (.getfield 88, 3) := by decide +kernel
theorem xd_Mo_doPath_59 : decode xb_Mo_doPath 59 = .ok (.bipush 83, 2) := by decide +kernel
theorem xd_Mo_doPath_61 : decode xb_Mo_doPath 61 = .ok (.if_icmp .eq 14, 3) := by decide +kernel
theorem xd_Mo_doPath_64 : decode xb_Mo_doPath 64 = .ok (.aload_n 0, 1) := by decide +kernel
theorem xd_Mo_doPath_65 : decode xb_Mo_doPath 65 = .ok (.getfield 13, 3) := by decide +kernel
theorem xd_Mo_doPath_68 : decode xb_Mo_doPath 68 = .ok (.iload_n 2, 1) := by decide +kernel
theorem xd_Mo_doPath_69 : decode xb_Mo_doPath 69 = .ok (.iaload, 1) := by decide +kernel
theorem xd_Mo_doPath_70 : decode xb_Mo_doPath 70 = .ok (.ifCond .ne 5, 3) := by decide +kernel
theorem xd_Mo_doPath_73 : decode xb_Mo_doPath 73 = .ok (.iconst 5, 1) := by decide +kernel
theorem xd_Mo_doPath_74 : decode xb_Mo_doPath 74 = .ok (.ireturn, 1) := by decide +kernel
theorem xd_Mo_doPath_75 : decode xb_Mo_doPath 75 = .ok (.aload_n 0, 1) := by decide +kernel
theorem xd_Mo_doPath_76 : decode xb_Mo_doPath 76 = .ok (.getfield 88, 3) := by decide +kernel
theorem xd_Mo_doPath_79 : decode xb_Mo_doPath 79 = .ok (.bipush 67, 2) := by decide +kernel
theorem xd_Mo_doPath_81 : decode xb_Mo_doPath 81 = .ok (.if_icmp .ne 45, 3) := by decide +kernel
theorem xd_Mo_doPath_84 : decode xb_Mo_doPath 84 = .ok (.aload_n 0, 1) := by decide +kernel
theorem xd_Mo_doPath_85 : decode xb_Mo_doPath 85 = .ok (.getfield 13, 3) := by decide +kernel
theorem xd_Mo_doPath_88 : decode xb_Mo_doPath 88 = .ok (.iload_n 2, 1) := by decide +kernel
theorem xd_Mo_doPath_89 : decode xb_Mo_doPath 89 = .ok (.iaload, 1) := by decide +kernel
theorem xd_Mo_doPath_90 : decode xb_Mo_doPath 90 = .ok (.aload_n 0, 1) := by decide +kernel
theorem xd_Mo_doPath_91 : decode xb_Mo_doPath 91 = .ok (.getfield 31, 3) := by decide +kernel
theorem xd_Mo_doPath_94 : decode xb_Mo_doPath 94 = .ok (.iconst 0, 1) := by decide +kernel
theorem xd_Mo_doPath_95 : decode xb_Mo_doPath 95 = .ok (.iaload, 1) := by decide +kernel
theorem xd_Mo_doPath_96 : decode xb_Mo_doPath 96 = .ok (.if_icmp .ne 18, 3) := by decide +kernel
theorem xd_Mo_doPath_99 : decode xb_Mo_doPath 99 = .ok (.aload_n 0, 1) := by decide +kernel
theorem xd_Mo_doPath_100 : decode xb_Mo_doPath 100 = .ok (.getfield 16, 3) := by decide +kernel
theorem xd_Mo_doPath_103 : decode xb_Mo_doPath 103 = .ok (.iload_n 2, 1) := by decide +kernel
theorem xd_Mo_doPath_104 : decode xb_Mo_doPath 104 = .ok (.iaload, 1) := by decide +kernel
theorem xd_Mo_doPath_105 : decode xb_Mo_doPath 105 = .ok (.aload_n 0, 1) := by decide +kernel
theorem xd_Mo_doPath_106 : decode xb_Mo_doPath 106 = .ok (.getfield 34, 3) := by decide +kernel
theorem xd_Mo_doPath_109 : decode xb_Mo_doPath 109 = .ok (.iconst 0, 1) := by decide +kernel
theorem xd_Mo_doPath_110 : decode xb_Mo_doPath 110 = .ok (.iaload, 1) := by decide +kernel
theorem xd_Mo_doPath_111 : decode xb_Mo_doPath 111 = .ok (.if_icmp .eq 15, 3) := by decide +kernel
theorem xd_Mo_doPath_114 : decode xb_Mo_doPath 114 = .ok (.aload_n 0, 1) := by decide +kernel
theorem xd_Mo_doPath_115 : decode xb_Mo_doPath 115 = .ok (.dup, 1) := by decide +kernel
theorem xd_Mo_doPath_116 : decode xb_Mo_doPath 116 = .ok (.getfield 113, 3) := by decide +kernel
theorem xd_Mo_doPath_119 : decode xb_Mo_doPath 119 = .ok (.iconst 1, 1) := by decide +kernel
theorem xd_Mo_doPath_120 : decode xb_Mo_doPath 120 = .ok (.iadd, 1) := by decide +kernel
theorem xd_Mo_doPath_121 : decode xb_Mo_doPath 121 = .ok (.putfield 113, 3) := by decide +kernel
theorem xd_Mo_doPath_124 : decode xb_Mo_doPath 124 = .ok (.iconst 0, 1) := by decide +kernel
theorem xd_Mo_doPath_125 : decode xb_Mo_doPath 125 = .ok (.ireturn, 1) := by decide +kernel
theorem xd_Mo_doPath_126 : decode xb_Mo_doPath 126 = .ok (.aload_n 0, 1) := by decide +kernel
theorem xd_Mo_doPath_127 : decode xb_Mo_doPath 127 = .ok (.iload_n 2, 1) := by decide +kernel
theorem xd_Mo_doPath_128 : decode xb_Mo_doPath 128 = .ok (.bipush 26, 2) := by decide +kernel
theorem xd_Mo_doPath_130 : decode xb_Mo_doPath 130 = .ok (.idiv, 1) := by decide +kernel
theorem xd_Mo_doPath_131 : decode xb_Mo_doPath 131 = .ok (.iload_n 1, 1) := by decide +kernel
theorem xd_Mo_doPath_132 : decode xb_Mo_doPath 132 = .ok (.invokevirtual 100, 3) := by decide +kernel
theorem xd_Mo_doPath_135 : decode xb_Mo_doPath 135 = .ok (.ifCond .ne 15, 3) := by decide +kernel
theorem xd_Mo_doPath_138 : decode xb_Mo_doPath 138 = .ok (.aload_n 0, 1) := by decide +kernel
theorem xd_Mo_doPath_139 : decode xb_Mo_doPath 139 = .ok (.iload_n 3, 1) := by decide +kernel
theorem xd_Mo_doPath_140 : decode xb_Mo_doPath 140 = .ok (.bipush 26, 2) := by decide +kernel
theorem xd_Mo_doPath_142 : decode xb_Mo_doPath 142 = .ok (.idiv, 1) := by decide +kernel
theorem xd_Mo_doPath_143 : decode xb_Mo_doPath 143 = .ok (.iload_n 1, 1) := by decide +kernel
theorem xd_Mo_doPath_144 : decode xb_Mo_doPath 144 = .ok (.invokevirtual 100, 3) := by decide +kernel
theorem xd_Mo_doPath_147 : decode xb_Mo_doPath 147 = .ok (.ifCond .eq 6, 3) := by decide +kernel
theorem xd_Mo_doPath_150 : decode xb_Mo_doPath 150 = .ok (.bipush 6, 2) := by decide +kernel
theorem xd_Mo_doPath_152 : decode xb_Mo_doPath 152 = .ok (.ireturn, 1) := by decide +kernel
theorem xd_Mo_doPath_153 : decode xb_Mo_doPath 153 = .ok (.aload_n 0, 1) := by decide +kernel
theorem xd_Mo_doPath_154 : decode xb_Mo_doPath 154 = .ok (.getfield 88, 3) := by decide +kernel
theorem xd_Mo_doPath_157 : decode xb_Mo_doPath 157 = .ok (.bipush 83, 2) := by decide +kernel
theorem xd_Mo_doPath_159 : decode xb_Mo_doPath 159 = .ok (.if_icmp .ne 23, 3) := by decide +kernel
theorem xd_Mo_doPath_162 : decode xb_Mo_doPath 162 = .ok (.aload_n 0, 1) := by decide +kernel
theorem xd_Mo_doPath_163 : decode xb_Mo_doPath 163 = .ok (.iload_n 2, 1) := by decide +kernel
theorem xd_Mo_doPath_164 : decode xb_Mo_doPath 164 = .ok (.aload_n 0, 1) := by decide +kernel
theorem xd_Mo_doPath_165 : decode xb_Mo_doPath 165 = .ok (.getfield 31, 3) := by decide +kernel
theorem xd_Mo_doPath_168 : decode xb_Mo_doPath 168 = .ok (.iconst 0, 1) := by decide +kernel
theorem xd_Mo_doPath_169 : decode xb_Mo_doPath 169 = .ok (.iaload, 1) := by decide +kernel
theorem xd_Mo_doPath_170 : decode xb_Mo_doPath 170 = .ok (.aload_n 0, 1) := by decide +kernel
theorem xd_Mo_doPath_171 : decode xb_Mo_doPath 171 = .ok (.getfield 34, 3) := by decide +kernel
theorem xd_Mo_doPath_174 : decode xb_Mo_doPath 174 = .ok (.iconst 0, 1) := by decide +kernel
theorem xd_Mo_doPath_175 : decode xb_Mo_doPath 175 = .ok (.iaload, 1) := by decide +kernel
theorem xd_Mo_doPath_176 : decode xb_Mo_doPath 176 = .ok (.invokevirtual 116, 3) := by decide +kernel
theorem xd_Mo_doPath_179 : decode xb_Mo_doPath 179 = .ok (.goto 73, 3) := by decide +kernel
theorem xd_Mo_doPath_182 : decode xb_Mo_doPath 182 = .ok (.aload_n 0, 1) := by decide +kernel
theorem xd_Mo_doPath_183 : decode xb_Mo_doPath 183 = .ok (.getfield 88, 3) := by decide +kernel
theorem xd_Mo_doPath_186 : decode xb_Mo_doPath 186 = .ok (.bipush 67, 2) := by decide +kernel
theorem xd_Mo_doPath_188 : decode xb_Mo_doPath 188 = .ok (.if_icmp .ne 23, 3) := by decide +kernel
theorem xd_Mo_doPath_191 : decode xb_Mo_doPath 191 = .ok (.aload_n 0, 1) := by decide +kernel
theorem xd_Mo_doPath_192 : decode xb_Mo_doPath 192 = .ok (.iload_n 2, 1) := by decide +kernel
theorem xd_Mo_doPath_193 : decode xb_Mo_doPath 193 = .ok (.aload_n 0, 1) := by decide +kernel
theorem xd_Mo_doPath_194 : decode xb_Mo_doPath 194 = .ok (.getfield 31, 3) := by decide +kernel
theorem xd_Mo_doPath_197 : decode xb_Mo_doPath 197 = .ok (.iconst 1, 1) := by decide +kernel
theorem xd_Mo_doPath_198 : decode xb_Mo_doPath 198 = .ok (.iaload, 1) := by decide +kernel
theorem xd_Mo_doPath_199 : decode xb_Mo_doPath 199 = .ok (.aload_n 0, 1) := by decide +kernel
theorem xd_Mo_doPath_200 : decode xb_Mo_doPath 200 = .ok (.getfield 34, 3) := by decide +kernel
theorem xd_Mo_doPath_203 : decode xb_Mo_doPath 203 = .ok (.iconst 1, 1) := by decide +kernel
theorem xd_Mo_doPath_204 : decode xb_Mo_doPath 204 = .ok (.iaload, 1) := by decide +kernel
theorem xd_Mo_doPath_205 : decode xb_Mo_doPath 205 = .ok (.invokevirtual 116, 3) := by decide +kernel
theorem xd_Mo_doPath_208 : decode xb_Mo_doPath 208 = .ok (.goto 44, 3) := by decide +kernel
theorem xd_Mo_doPath_211 : decode xb_Mo_doPath 211 = .ok (.aload_n 0, 1) := by decide +kernel
theorem xd_Mo_doPath_212 : decode xb_Mo_doPath 212 = .ok (.getfield 13, 3) := by decide +kernel
theorem xd_Mo_doPath_215 : decode xb_Mo_doPath 215 = .ok (.iload_n 2, 1) := by decide +kernel
theorem xd_Mo_doPath_216 : decode xb_Mo_doPath 216 = .ok (.iaload, 1) := by decide +kernel
theorem xd_Mo_doPath_217 : decode xb_Mo_doPath 217 = .ok (.istore 4, 2) := by decide +kernel
theorem xd_Mo_doPath_219 : decode xb_Mo_doPath 219 = .ok (.aload_n 0, 1) := by decide +kernel
theorem xd_Mo_doPath_220 : decode xb_Mo_doPath 220 = .ok (.getfield 16, 3) := by decide +kernel
theorem xd_Mo_doPath_223 : decode xb_Mo_doPath 223 = .ok (.iload_n 2, 1) := by decide +kernel
theorem xd_Mo_doPath_224 : decode xb_Mo_doPath 224 = .ok (.iaload, 1) := by decide +kernel
theorem xd_Mo_doPath_225 : decode xb_Mo_doPath 225 = .ok (.istore 5, 2) := by decide +kernel
theorem xd_Mo_doPath_227 : decode xb_Mo_doPath 227 = .ok (.aload_n 0, 1) := by decide +kernel
theorem xd_Mo_doPath_228 : decode xb_Mo_doPath 228 = .ok (.iload_n 2, 1) := by decide +kernel
theorem xd_Mo_doPath_229 : decode xb_Mo_doPath 229 = .ok (.iconst 0, 1) := by decide +kernel
theorem xd_Mo_doPath_230 : decode xb_Mo_doPath 230 = .ok (.iconst 0, 1) := by decide +kernel
theorem xd_Mo_doPath_231 : decode xb_Mo_doPath 231 = .ok (.invokevirtual 116, 3) := by decide +kernel
theorem xd_Mo_doPath_234 : decode xb_Mo_doPath 234 = .ok (.aload_n 0, 1) := by decide +kernel
theorem xd_Mo_doPath_235 : decode xb_Mo_doPath 235 = .ok (.getfield 88, 3) := by decide +kernel
theorem xd_Mo_doPath_238 : decode xb_Mo_doPath 238 = .ok (.bipush 77, 2) := by decide +kernel
theorem xd_Mo_doPath_240 : decode xb_Mo_doPath 240 = .ok (.if_icmp .ne 12, 3) := by decide +kernel
theorem xd_Mo_doPath_243 : decode xb_Mo_doPath 243 = .ok (.aload_n 0, 1) := by decide +kernel
theorem xd_Mo_doPath_244 : decode xb_Mo_doPath 244 = .ok (.iload_n 3, 1) := by decide +kernel
theorem xd_Mo_doPath_245 : decode xb_Mo_doPath 245 = .ok (.iload 4, 2) := by decide +kernel
theorem xd_Mo_doPath_247 : decode xb_Mo_doPath 247 = .ok (.iload 5, 2) := by decide +kernel
theorem xd_Mo_doPath_249 : decode xb_Mo_doPath 249 = .ok (.invokevirtual 116, 3) := by decide +kernel
theorem xd_Mo_doPath_252 : decode xb_Mo_doPath 252 = .ok (.iconst 0, 1) := by decide +kernel
theorem xd_Mo_doPath_253 : decode xb_Mo_doPath 253 = .ok (.ireturn, 1) := by decide +kernel
theorem xd_Mo_isFar_0 : decode xb_Mo_isFar 0 = .ok (.aload_n 0, 1) := by decide +kernel
theorem xd_Mo_isFar_1 : decode xb_Mo_isFar 1 = .ok (.getfield 31, 3) := by decide +kernel
theorem xd_Mo_isFar_4 : decode xb_Mo_isFar 4 = .ok (.iload_n 1, 1) := by decide +kernel
theorem xd_Mo_isFar_5 : decode xb_Mo_isFar 5 = .ok (.iaload, 1) := by decide +kernel
theorem xd_Mo_isFar_6 : decode xb_Mo_isFar 6 = .ok (.iconst 2, 1) := by decide +kernel
theorem xd_Mo_isFar_7 : decode xb_Mo_isFar 7 = .ok (.if_icmp .ne 18, 3) := by decide +kernel
theorem xd_Mo_isFar_10 : decode xb_Mo_isFar 10 = .ok (.aload_n 0, 1) := by decide +kernel
theorem xd_Mo_isFar_11 : decode xb_Mo_isFar 11 = .ok (.getfield 34, 3) := by decide +kernel
theorem xd_Mo_isFar_14 : decode xb_Mo_isFar 14 = .ok (.iload_n 1, 1) := by decide +kernel
theorem xd_Mo_isFar_15 : decode xb_Mo_isFar 15 = .ok (.iaload, 1) := by decide +kernel
theorem xd_Mo_isFar_16 : decode xb_Mo_isFar 16 = .ok (.bipush 40, 2) := by decide +kernel
theorem xd_Mo_isFar_18 : decode xb_Mo_isFar 18 = .ok (.if_icmp .lt 7, 3) := by decide +kernel
theorem xd_Mo_isFar_21 : decode xb_Mo_isFar 21 = .ok (.iconst 1, 1) := by decide +kernel
theorem xd_Mo_isFar_22 : decode xb_Mo_isFar 22 = .ok (.goto 4, 3) := by decide +kernel
theorem xd_Mo_isFar_25 : decode xb_Mo_isFar 25 = .ok (.iconst 0, 1) := by decide +kernel
theorem xd_Mo_isFar_26 : decode xb_Mo_isFar 26 = .ok (.ireturn, 1) := by decide +kernel
theorem xd_Mo_follow_0 : decode xb_Mo_follow 0 = .ok (.iconst 0, 1) := by decide +kernel
theorem xd_Mo_follow_1 : decode xb_Mo_follow 1 = .ok (.istore_n 2, 1) := by decide +kernel
theorem xd_Mo_follow_2 : decode xb_Mo_follow 2 = .ok (.iconst 0, 1) := by decide +kernel
theorem xd_Mo_follow_3 : decode xb_Mo_follow 3 = .ok (.istore_n 3, 1) := by decide +kernel
theorem xd_Mo_follow_4 : decode xb_Mo_follow 4 = .ok (.iload_n 3, 1) := by decide +kernel
theorem xd_Mo_follow_5 : decode xb_Mo_follow 5 = .ok (.aload_n 0, 1) := by decide +kernel
theorem xd_Mo_follow_6 : decode xb_Mo_follow 6 = .ok (.getfield 28, 3) := by decide +kernel
theorem xd_Mo_follow_9 : decode xb_Mo_follow 9 = .ok (.iload_n 1, 1) := by decide +kernel
theorem xd_Mo_follow_10 : decode xb_Mo_follow 10 = .ok (.iaload, 1) := by decide +kernel
theorem xd_Mo_follow_11 : decode xb_Mo_follow 11 = .ok (.iconst 1, 1) := by decide +kernel
theorem xd_Mo_follow_12 : decode xb_Mo_follow 12 = .ok (.isub, 1) := by decide +kernel
theorem xd_Mo_follow_13 : decode xb_Mo_follow 13 = .ok (.if_icmp .ge 68, 3) := by decide +kernel
theorem xd_Mo_follow_16 : decode xb_Mo_follow 16 = .ok (.bipush 26, 2) := by decide +kernel
theorem xd_Mo_follow_18 : decode xb_Mo_follow 18 = .ok (.iload_n 2, 1) := by decide +kernel
theorem xd_Mo_follow_19 : decode xb_Mo_follow 19 = .ok (.imul, 1) := by decide +kernel
theorem xd_Mo_follow_20 : decode xb_Mo_follow 20 = .ok (.aload_n 0, 1) := by decide +kernel
theorem xd_Mo_follow_21 : decode xb_Mo_follow 21 = .ok (.getfield 19, 3) := by decide +kernel
theorem xd_Mo_follow_24 : decode xb_Mo_follow 24 = .ok (.aload_n 0, 1) := by decide +kernel
theorem xd_Mo_follow_25 : decode xb_Mo_follow 25 = .ok (.getfield 25, 3) := by decide +kernel
theorem xd_Mo_follow_28 : decode xb_Mo_follow 28 = .ok (.iload_n 1, 1) := by decide +kernel
theorem xd_Mo_follow_29 : decode xb_Mo_follow 29 = .ok (.iaload, 1) := by decide +kernel
theorem xd_Mo_follow_30 : decode xb_Mo_follow 30 = .ok (.iload_n 3, 1) := by decide +kernel
theorem xd_Mo_follow_31 : decode xb_Mo_follow 31 = .ok (.iadd, 1) := by decide +kernel
theorem xd_Mo_follow_32 : decode xb_Mo_follow 32 = .ok (.iaload, 1) := by decide +kernel
theorem xd_Mo_follow_33 : decode xb_Mo_follow 33 = .ok (.iadd, 1) := by decide +kernel
theorem xd_Mo_follow_34 : decode xb_Mo_follow 34 = .ok (.bipush 97, 2) := by decide +kernel
theorem xd_Mo_follow_36 : decode xb_Mo_follow 36 = .ok (.isub, 1) := by decide +kernel
theorem xd_Mo_follow_37 : decode xb_Mo_follow 37 = .ok (.istore 4, 2) := by decide +kernel
theorem xd_Mo_follow_39 : decode xb_Mo_follow 39 = .ok (.aload_n 0, 1) := by decide +kernel
theorem xd_Mo_follow_40 : decode xb_Mo_follow 40 = .ok (.getfield 13, 3) := by decide +kernel
theorem xd_Mo_follow_43 : decode xb_Mo_follow 43 = .ok (.iload 4, 2) := by decide +kernel
theorem xd_Mo_follow_45 : decode xb_Mo_follow 45 = .ok (.iaload, 1) := by decide +kernel
theorem xd_Mo_follow_46 : decode xb_Mo_follow 46 = .ok (.iconst 2, 1) := by decide +kernel
theorem xd_Mo_follow_47 : decode xb_Mo_follow 47 = .ok (.if_icmp .ne 18, 3) := by decide +kernel
theorem xd_Mo_follow_50 : decode xb_Mo_follow 50 = .ok (.aload_n 0, 1) := by decide +kernel
theorem xd_Mo_follow_51 : decode xb_Mo_follow 51 = .ok (.getfield 7, 3) := by decide +kernel
theorem xd_Mo_follow_54 : decode xb_Mo_follow 54 = .ok (.aload_n 0, 1) := by decide +kernel
theorem xd_Mo_follow_55 : decode xb_Mo_follow 55 = .ok (.getfield 16, 3) := by decide +kernel
theorem xd_Mo_follow_58 : decode xb_Mo_follow 58 = .ok (.iload 4, 2) := by decide +kernel
theorem xd_Mo_follow_60 : decode xb_Mo_follow 60 = .ok (.iaload, 1) := by decide +kernel
theorem xd_Mo_follow_61 : decode xb_Mo_follow 61 = .ok (.iaload, 1) := by decide +kernel
theorem xd_Mo_follow_62 : decode xb_Mo_follow 62 = .ok (.ifCond .ne 5, 3) := by decide +kernel
theorem xd_Mo_follow_65 : decode xb_Mo_follow 65 = .ok (.iconst (-1), 1) := by decide +kernel
theorem xd_Mo_follow_66 : decode xb_Mo_follow 66 = .ok (.ireturn, 1) := by decide +kernel
theorem xd_Mo_follow_67 : decode xb_Mo_follow 67 = .ok (.aload_n 0, 1) := by decide +kernel
theorem xd_Mo_follow_68 : decode xb_Mo_follow 68 = .ok (.getfield 16, 3) := by decide +kernel
theorem xd_Mo_follow_71 : decode xb_Mo_follow 71 = .ok (.iload 4, 2) := by decide +kernel
theorem xd_Mo_follow_73 : decode xb_Mo_follow 73 = .ok (.iaload, 1) := by decide +kernel
theorem xd_Mo_follow_74 : decode xb_Mo_follow 74 = .ok (.istore_n 2, 1) := by decide +kernel
theorem xd_Mo_follow_75 : decode xb_Mo_follow 75 = .ok (.iinc 3 1, 3) := by decide +kernel
theorem xd_Mo_follow_78 : decode xb_Mo_follow 78 = .ok (.goto (-74), 3) := by decide +kernel
theorem xd_Mo_follow_81 : decode xb_Mo_follow 81 = .ok (.bipush 26, 2) := by decide +kernel
theorem xd_Mo_follow_83 : decode xb_Mo_follow 83 = .ok (.iload_n 2, 1) := by decide +kernel
theorem xd_Mo_follow_84 : decode xb_Mo_follow 84 = .ok (.imul, 1) := by decide +kernel
theorem xd_Mo_follow_85 : decode xb_Mo_follow 85 = .ok (.aload_n 0, 1) := by decide +kernel
theorem xd_Mo_follow_86 : decode xb_Mo_follow 86 = .ok (.getfield 19, 3) := by decide +kernel
theorem xd_Mo_follow_89 : decode xb_Mo_follow 89 = .ok (.aload_n 0, 1) := by decide +kernel
theorem xd_Mo_follow_90 : decode xb_Mo_follow 90 = .ok (.getfield 25, 3) := by decide +kernel
theorem xd_Mo_follow_93 : decode xb_Mo_follow 93 = .ok (.iload_n 1, 1) := by decide +kernel
theorem xd_Mo_follow_94 : decode xb_Mo_follow 94 = .ok (.iaload, 1) := by decide +kernel
theorem xd_Mo_follow_95 : decode xb_Mo_follow 95 = .ok (.aload_n 0, 1) := by decide +kernel
theorem xd_Mo_follow_96 : decode xb_Mo_follow 96 = .ok (.getfield 28, 3) := by decide +kernel
theorem xd_Mo_follow_99 : decode xb_Mo_follow 99 = .ok (.iload_n 1, 1) := by decide +kernel
theorem xd_Mo_follow_100 : decode xb_Mo_follow 100 = .ok (.iaload, 1) := by decide +kernel
theorem xd_Mo_follow_101 : decode xb_Mo_follow 101 = .ok (.iadd, 1) := by decide +kernel
theorem xd_Mo_follow_102 : decode xb_Mo_follow 102 = .ok (.iconst 1, 1) := by decide +kernel
theorem xd_Mo_follow_103 : decode xb_Mo_follow 103 = .ok (.isub, 1) := by decide +kernel
theorem xd_Mo_follow_104 : decode xb_Mo_follow 104 = .ok (.iaload, 1) := by decide +kernel
theorem xd_Mo_follow_105 : decode xb_Mo_follow 105 = .ok (.iadd, 1) := by decide +kernel
theorem xd_Mo_follow_106 : decode xb_Mo_follow 106 = .ok (.bipush 97, 2) := by decide +kernel
theorem xd_Mo_follow_108 : decode xb_Mo_follow 108 = .ok (.isub, 1) := by decide +kernel
theorem xd_Mo_follow_109 : decode xb_Mo_follow 109 = .ok (.ireturn, 1) := by decide +kernel
