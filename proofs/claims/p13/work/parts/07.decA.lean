theorem xd_X_init_0 : decode xb_X_init 0 = .ok (.aload_n 0, 1) := by decide +kernel
theorem xd_X_init_1 : decode xb_X_init 1 = .ok (.invokespecial 1, 3) := by decide +kernel
theorem xd_X_init_4 : decode xb_X_init 4 = .ok (.aload_n 0, 1) := by decide +kernel
theorem xd_X_init_5 : decode xb_X_init 5 = .ok (.new 7, 3) := by decide +kernel
theorem xd_X_init_8 : decode xb_X_init 8 = .ok (.dup, 1) := by decide +kernel
theorem xd_X_init_9 : decode xb_X_init 9 = .ok (.invokespecial 9, 3) := by decide +kernel
theorem xd_X_init_12 : decode xb_X_init 12 = .ok (.putfield 10, 3) := by decide +kernel
theorem xd_X_init_15 : decode xb_X_init 15 = .ok (.aload_n 0, 1) := by decide +kernel
theorem xd_X_init_16 : decode xb_X_init 16 = .ok (.new 16, 3) := by decide +kernel
theorem xd_X_init_19 : decode xb_X_init 19 = .ok (.dup, 1) := by decide +kernel
theorem xd_X_init_20 : decode xb_X_init 20 = .ok (.invokespecial 18, 3) := by decide +kernel
theorem xd_X_init_23 : decode xb_X_init 23 = .ok (.putfield 19, 3) := by decide +kernel
theorem xd_X_init_26 : decode xb_X_init 26 = .ok (.aload_n 0, 1) := by decide +kernel
theorem xd_X_init_27 : decode xb_X_init 27 = .ok (.new 16, 3) := by decide +kernel
theorem xd_X_init_30 : decode xb_X_init 30 = .ok (.dup, 1) := by decide +kernel
theorem xd_X_init_31 : decode xb_X_init 31 = .ok (.invokespecial 18, 3) := by decide +kernel
theorem xd_X_init_34 : decode xb_X_init 34 = .ok (.putfield 23, 3) := by decide +kernel
theorem xd_X_init_37 : decode xb_X_init 37 = .ok (.aload_n 0, 1) := by decide +kernel
theorem xd_X_init_38 : decode xb_X_init 38 = .ok (.new 26, 3) := by decide +kernel
theorem xd_X_init_41 : decode xb_X_init 41 = .ok (.dup, 1) := by decide +kernel
theorem xd_X_init_42 : decode xb_X_init 42 = .ok (.aload_n 0, 1) := by decide +kernel
theorem xd_X_init_43 : decode xb_X_init 43 = .ok (.getfield 19, 3) := by decide +kernel
theorem xd_X_init_46 : decode xb_X_init 46 = .ok (.invokespecial 28, 3) := by decide +kernel
theorem xd_X_init_49 : decode xb_X_init 49 = .ok (.putfield 31, 3) := by decide +kernel
theorem xd_X_init_52 : decode xb_X_init 52 = .ok (.aload_n 0, 1) := by decide +kernel
theorem xd_X_init_53 : decode xb_X_init 53 = .ok (.new 35, 3) := by decide +kernel
theorem xd_X_init_56 : decode xb_X_init 56 = .ok (.dup, 1) := by decide +kernel
theorem xd_X_init_57 : decode xb_X_init 57 = .ok (.invokespecial 37, 3) := by decide +kernel
theorem xd_X_init_60 : decode xb_X_init 60 = .ok (.putfield 38, 3) := by decide +kernel
theorem xd_X_init_63 : decode xb_X_init 63 = .ok (.aload_n 0, 1) := by decide +kernel
theorem xd_X_init_64 : decode xb_X_init 64 = .ok (.new 42, 3) := by decide +kernel
theorem xd_X_init_67 : decode xb_X_init 67 = .ok (.dup, 1) := by decide +kernel
theorem xd_X_init_68 : decode xb_X_init 68 = .ok (.invokespecial 44, 3) := by decide +kernel
theorem xd_X_init_71 : decode xb_X_init 71 = .ok (.putfield 45, 3) := by decide +kernel
theorem xd_X_init_74 : decode xb_X_init 74 = .ok (.aload_n 0, 1) := by decide +kernel
theorem xd_X_init_75 : decode xb_X_init 75 = .ok (.bipush 40, 2) := by decide +kernel
theorem xd_X_init_77 : decode xb_X_init 77 = .ok (.newarray .int, 2) := by decide +kernel
theorem xd_X_init_79 : decode xb_X_init 79 = .ok (.putfield 49, 3) := by decide +kernel
theorem xd_X_init_82 : decode xb_X_init 82 = .ok (.return_, 1) := by decide +kernel
theorem xd_Te_init_0 : decode xb_Te_init 0 = .ok (.aload_n 0, 1) := by decide +kernel
theorem xd_Te_init_1 : decode xb_Te_init 1 = .ok (.invokespecial 3, 3) := by decide +kernel
theorem xd_Te_init_4 : decode xb_Te_init 4 = .ok (.aload_n 0, 1) := by decide +kernel
theorem xd_Te_init_5 : decode xb_Te_init 5 = .ok (.sipush 300, 3) := by decide +kernel
theorem xd_Te_init_8 : decode xb_Te_init 8 = .ok (.newarray .char, 2) := by decide +kernel
theorem xd_Te_init_10 : decode xb_Te_init 10 = .ok (.putfield 9, 3) := by decide +kernel
theorem xd_Te_init_13 : decode xb_Te_init 13 = .ok (.return_, 1) := by decide +kernel
theorem xd_Pa_init_0 : decode xb_Pa_init 0 = .ok (.aload_n 0, 1) := by decide +kernel
theorem xd_Pa_init_1 : decode xb_Pa_init 1 = .ok (.invokespecial 3, 3) := by decide +kernel
theorem xd_Pa_init_4 : decode xb_Pa_init 4 = .ok (.aload_n 0, 1) := by decide +kernel
theorem xd_Pa_init_5 : decode xb_Pa_init 5 = .ok (.bipush 8, 2) := by decide +kernel
theorem xd_Pa_init_7 : decode xb_Pa_init 7 = .ok (.newarray .int, 2) := by decide +kernel
theorem xd_Pa_init_9 : decode xb_Pa_init 9 = .ok (.putfield 9, 3) := by decide +kernel
theorem xd_Pa_init_12 : decode xb_Pa_init 12 = .ok (.return_, 1) := by decide +kernel
theorem xd_Hi_init_0 : decode xb_Hi_init 0 = .ok (.aload_n 0, 1) := by decide +kernel
theorem xd_Hi_init_1 : decode xb_Hi_init 1 = .ok (.invokespecial 3, 3) := by decide +kernel
theorem xd_Hi_init_4 : decode xb_Hi_init 4 = .ok (.aload_n 0, 1) := by decide +kernel
theorem xd_Hi_init_5 : decode xb_Hi_init 5 = .ok (.bipush 16, 2) := by decide +kernel
theorem xd_Hi_init_7 : decode xb_Hi_init 7 = .ok (.anewarray 9, 3) := by decide +kernel
theorem xd_Hi_init_10 : decode xb_Hi_init 10 = .ok (.putfield 11, 3) := by decide +kernel
theorem xd_Hi_init_13 : decode xb_Hi_init 13 = .ok (.return_, 1) := by decide +kernel
theorem xd_Re_init_0 : decode xb_Re_init 0 = .ok (.aload_n 0, 1) := by decide +kernel
theorem xd_Re_init_1 : decode xb_Re_init 1 = .ok (.invokespecial 3, 3) := by decide +kernel
theorem xd_Re_init_4 : decode xb_Re_init 4 = .ok (.aload_n 0, 1) := by decide +kernel
theorem xd_Re_init_5 : decode xb_Re_init 5 = .ok (.bipush 40, 2) := by decide +kernel
theorem xd_Re_init_7 : decode xb_Re_init 7 = .ok (.newarray .boolean, 2) := by decide +kernel
theorem xd_Re_init_9 : decode xb_Re_init 9 = .ok (.putfield 9, 3) := by decide +kernel
theorem xd_Re_init_12 : decode xb_Re_init 12 = .ok (.aload_n 0, 1) := by decide +kernel
theorem xd_Re_init_13 : decode xb_Re_init 13 = .ok (.bipush 40, 2) := by decide +kernel
theorem xd_Re_init_15 : decode xb_Re_init 15 = .ok (.newarray .int, 2) := by decide +kernel
theorem xd_Re_init_17 : decode xb_Re_init 17 = .ok (.putfield 15, 3) := by decide +kernel
theorem xd_Re_init_20 : decode xb_Re_init 20 = .ok (.return_, 1) := by decide +kernel
theorem xd_X_sign_0 : decode xb_X_sign 0 = .ok (.aload_n 0, 1) := by decide +kernel
theorem xd_X_sign_1 : decode xb_X_sign 1 = .ok (.getfield 10, 3) := by decide +kernel
theorem xd_X_sign_4 : decode xb_X_sign 4 = .ok (.iload_n 1, 1) := by decide +kernel
theorem xd_X_sign_5 : decode xb_X_sign 5 = .ok (.invokevirtual 53, 3) := by decide +kernel
theorem xd_X_sign_8 : decode xb_X_sign 8 = .ok (.ireturn, 1) := by decide +kernel
theorem xd_Te_append_0 : decode xb_Te_append 0 = .ok (.iload_n 1, 1) := by decide +kernel
theorem xd_Te_append_1 : decode xb_Te_append 1 = .ok (.bipush 32, 2) := by decide +kernel
theorem xd_Te_append_3 : decode xb_Te_append 3 = .ok (.if_icmp .lt 28, 3) := by decide +kernel
theorem xd_Te_append_6 : decode xb_Te_append 6 = .ok (.iload_n 1, 1) := by decide +kernel
theorem xd_Te_append_7 : decode xb_Te_append 7 = .ok (.bipush 126, 2) := by decide +kernel
theorem xd_Te_append_9 : decode xb_Te_append 9 = .ok (.if_icmp .gt 22, 3) := by decide +kernel
theorem xd_Te_append_12 : decode xb_Te_append 12 = .ok (.aload_n 0, 1) := by decide +kernel
theorem xd_Te_append_13 : decode xb_Te_append 13 = .ok (.getfield 15, 3) := by decide +kernel
theorem xd_Te_append_16 : decode xb_Te_append 16 = .ok (.ifCond .lt 15, 3) := by decide +kernel
theorem xd_Te_append_19 : decode xb_Te_append 19 = .ok (.aload_n 0, 1) := by decide +kernel
theorem xd_Te_append_20 : decode xb_Te_append 20 = .ok (.getfield 15, 3) := by decide +kernel
theorem xd_Te_append_23 : decode xb_Te_append 23 = .ok (.aload_n 0, 1) := by decide +kernel
theorem xd_Te_append_24 : decode xb_Te_append 24 = .ok (.getfield 9, 3) := by decide +kernel
theorem xd_Te_append_27 : decode xb_Te_append 27 = .ok (.arraylength, 1) := by decide +kernel
theorem xd_Te_append_28 : decode xb_Te_append 28 = .ok (.if_icmp .lt 5, 3) := by decide +kernel
theorem xd_Te_append_31 : decode xb_Te_append 31 = .ok (.iconst 0, 1) := by decide +kernel
theorem xd_Te_append_32 : decode xb_Te_append 32 = .ok (.ireturn, 1) := by decide +kernel
theorem xd_Te_append_33 : decode xb_Te_append 33 = .ok (.aload_n 0, 1) := by decide +kernel
theorem xd_Te_append_34 : decode xb_Te_append 34 = .ok (.getfield 9, 3) := by decide +kernel
theorem xd_Te_append_37 : decode xb_Te_append 37 = .ok (.aload_n 0, 1) := by decide +kernel
theorem xd_Te_append_38 : decode xb_Te_append 38 = .ok (.getfield 15, 3) := by decide +kernel
theorem xd_Te_append_41 : decode xb_Te_append 41 = .ok (.iload_n 1, 1) := by decide +kernel
theorem xd_Te_append_42 : decode xb_Te_append 42 = .ok (.i2c, 1) := by decide +kernel
theorem xd_Te_append_43 : decode xb_Te_append 43 = .ok (.castore, 1) := by decide +kernel
theorem xd_Te_append_44 : decode xb_Te_append 44 = .ok (.aload_n 0, 1) := by decide +kernel
theorem xd_Te_append_45 : decode xb_Te_append 45 = .ok (.dup, 1) := by decide +kernel
theorem xd_Te_append_46 : decode xb_Te_append 46 = .ok (.getfield 15, 3) := by decide +kernel
theorem xd_Te_append_49 : decode xb_Te_append 49 = .ok (.iconst 1, 1) := by decide +kernel
theorem xd_Te_append_50 : decode xb_Te_append 50 = .ok (.iadd, 1) := by decide +kernel
theorem xd_Te_append_51 : decode xb_Te_append 51 = .ok (.putfield 15, 3) := by decide +kernel
theorem xd_Te_append_54 : decode xb_Te_append 54 = .ok (.iconst 1, 1) := by decide +kernel
theorem xd_Te_append_55 : decode xb_Te_append 55 = .ok (.ireturn, 1) := by decide +kernel
theorem xd_X_run_0 : decode xb_X_run 0 = .ok (.aload_n 0, 1) := by decide +kernel
theorem xd_X_run_1 : decode xb_X_run 1 = .ok (.getfield 23, 3) := by decide +kernel
theorem xd_X_run_4 : decode xb_X_run 4 = .ok (.aload_n 0, 1) := by decide +kernel
theorem xd_X_run_5 : decode xb_X_run 5 = .ok (.getfield 19, 3) := by decide +kernel
theorem xd_X_run_8 : decode xb_X_run 8 = .ok (.invokevirtual 57, 3) := by decide +kernel
theorem xd_X_run_11 : decode xb_X_run 11 = .ok (.aload_n 0, 1) := by decide +kernel
theorem xd_X_run_12 : decode xb_X_run 12 = .ok (.getfield 31, 3) := by decide +kernel
theorem xd_X_run_15 : decode xb_X_run 15 = .ok (.aload_n 0, 1) := by decide +kernel
theorem xd_X_run_16 : decode xb_X_run 16 = .ok (.getfield 10, 3) := by decide +kernel
theorem xd_X_run_19 : decode xb_X_run 19 = .ok (.iload_n 1, 1) := by decide +kernel
theorem xd_X_run_20 : decode xb_X_run 20 = .ok (.invokevirtual 60, 3) := by decide +kernel
theorem xd_X_run_23 : decode xb_X_run 23 = .ok (.istore_n 2, 1) := by decide +kernel
theorem xd_X_run_24 : decode xb_X_run 24 = .ok (.aload_n 0, 1) := by decide +kernel
theorem xd_X_run_25 : decode xb_X_run 25 = .ok (.getfield 10, 3) := by decide +kernel
theorem xd_X_run_28 : decode xb_X_run 28 = .ok (.invokevirtual 64, 3) := by decide +kernel
theorem xd_X_run_31 : decode xb_X_run 31 = .ok (.iload_n 2, 1) := by decide +kernel
theorem xd_X_run_32 : decode xb_X_run 32 = .ok (.ifCond .ge 16, 3) := by decide +kernel
theorem xd_X_run_35 : decode xb_X_run 35 = .ok (.aload_n 0, 1) := by decide +kernel
theorem xd_X_run_36 : decode xb_X_run 36 = .ok (.getfield 19, 3) := by decide +kernel
theorem xd_X_run_39 : decode xb_X_run 39 = .ok (.aload_n 0, 1) := by decide +kernel
theorem xd_X_run_40 : decode xb_X_run 40 = .ok (.getfield 23, 3) := by decide +kernel
theorem xd_X_run_43 : decode xb_X_run 43 = .ok (.invokevirtual 57, 3) := by decide +kernel
theorem xd_X_run_46 : decode xb_X_run 46 = .ok (.iload_n 2, 1) := by decide +kernel
theorem xd_X_run_47 : decode xb_X_run 47 = .ok (.ireturn, 1) := by decide +kernel
theorem xd_X_run_48 : decode xb_X_run 48 = .ok (.aload_n 0, 1) := by decide +kernel
theorem xd_X_run_49 : decode xb_X_run 49 = .ok (.aload_n 0, 1) := by decide +kernel
theorem xd_X_run_50 : decode xb_X_run 50 = .ok (.getfield 31, 3) := by decide +kernel
theorem xd_X_run_53 : decode xb_X_run 53 = .ok (.invokevirtual 67, 3) := by decide +kernel
theorem xd_X_run_56 : decode xb_X_run 56 = .ok (.putfield 71, 3) := by decide +kernel
theorem xd_X_run_59 : decode xb_X_run 59 = .ok (.aload_n 0, 1) := by decide +kernel
theorem xd_X_run_60 : decode xb_X_run 60 = .ok (.aload_n 0, 1) := by decide +kernel
theorem xd_X_run_61 : decode xb_X_run 61 = .ok (.getfield 31, 3) := by decide +kernel
theorem xd_X_run_64 : decode xb_X_run 64 = .ok (.invokevirtual 74, 3) := by decide +kernel
theorem xd_X_run_67 : decode xb_X_run 67 = .ok (.putfield 77, 3) := by decide +kernel
theorem xd_X_run_70 : decode xb_X_run 70 = .ok (.aload_n 0, 1) := by decide +kernel
theorem xd_X_run_71 : decode xb_X_run 71 = .ok (.getfield 38, 3) := by decide +kernel
theorem xd_X_run_74 : decode xb_X_run 74 = .ok (.aload_n 0, 1) := by decide +kernel
theorem xd_X_run_75 : decode xb_X_run 75 = .ok (.getfield 23, 3) := by decide +kernel
theorem xd_X_run_78 : decode xb_X_run 78 = .ok (.invokevirtual 80, 3) := by decide +kernel
theorem xd_X_run_81 : decode xb_X_run 81 = .ok (.aload_n 0, 1) := by decide +kernel
theorem xd_X_run_82 : decode xb_X_run 82 = .ok (.invokevirtual 83, 3) := by decide +kernel
theorem xd_X_run_85 : decode xb_X_run 85 = .ok (.ireturn, 1) := by decide +kernel
theorem xd_Te_rewind_0 : decode xb_Te_rewind 0 = .ok (.aload_n 0, 1) := by decide +kernel
theorem xd_Te_rewind_1 : decode xb_Te_rewind 1 = .ok (.iconst 0, 1) := by decide +kernel
theorem xd_Te_rewind_2 : decode xb_Te_rewind 2 = .ok (.putfield 19, 3) := by decide +kernel
theorem xd_Te_rewind_5 : decode xb_Te_rewind 5 = .ok (.return_, 1) := by decide +kernel
theorem xd_Te_hasLine_0 : decode xb_Te_hasLine 0 = .ok (.aload_n 0, 1) := by decide +kernel
theorem xd_Te_hasLine_1 : decode xb_Te_hasLine 1 = .ok (.getfield 19, 3) := by decide +kernel
theorem xd_Te_hasLine_4 : decode xb_Te_hasLine 4 = .ok (.aload_n 0, 1) := by decide +kernel
theorem xd_Te_hasLine_5 : decode xb_Te_hasLine 5 = .ok (.getfield 15, 3) := by decide +kernel
theorem xd_Te_hasLine_8 : decode xb_Te_hasLine 8 = .ok (.if_icmp .ge 25, 3) := by decide +kernel
theorem xd_Te_hasLine_11 : decode xb_Te_hasLine 11 = .ok (.aload_n 0, 1) := by decide +kernel
theorem xd_Te_hasLine_12 : decode xb_Te_hasLine 12 = .ok (.invokevirtual 22, 3) := by decide +kernel
theorem xd_Te_hasLine_15 : decode xb_Te_hasLine 15 = .ok (.bipush 32, 2) := by decide +kernel
theorem xd_Te_hasLine_17 : decode xb_Te_hasLine 17 = .ok (.if_icmp .ne 16, 3) := by decide +kernel
theorem xd_Te_hasLine_20 : decode xb_Te_hasLine 20 = .ok (.aload_n 0, 1) := by decide +kernel
theorem xd_Te_hasLine_21 : decode xb_Te_hasLine 21 = .ok (.dup, 1) := by decide +kernel
theorem xd_Te_hasLine_22 : decode xb_Te_hasLine 22 = .ok (.getfield 19, 3) := by decide +kernel
theorem xd_Te_hasLine_25 : decode xb_Te_hasLine 25 = .ok (.iconst 1, 1) := by decide +kernel
theorem xd_Te_hasLine_26 : decode xb_Te_hasLine 26 = .ok (.iadd, 1) := by decide +kernel
theorem xd_Te_hasLine_27 : decode xb_Te_hasLine 27 = .ok (.putfield 19, 3) := by decide +kernel
theorem xd_Te_hasLine_30 : decode xb_Te_hasLine 30 = .ok (.goto (-30), 3) := by decide +kernel
theorem xd_Te_hasLine_33 : decode xb_Te_hasLine 33 = .ok (.aload_n 0, 1) := by decide +kernel
theorem xd_Te_hasLine_34 : decode xb_Te_hasLine 34 = .ok (.getfield 19, 3) := by decide +kernel
theorem xd_Te_hasLine_37 : decode xb_Te_hasLine 37 = .ok (.aload_n 0, 1) := by decide +kernel
theorem xd_Te_hasLine_38 : decode xb_Te_hasLine 38 = .ok (.getfield 15, 3) := by decide +kernel
theorem xd_Te_hasLine_41 : decode xb_Te_hasLine 41 = .ok (.if_icmp .ge 7, 3) := by decide +kernel
theorem xd_Te_hasLine_44 : decode xb_Te_hasLine 44 = .ok (.iconst 1, 1) := by decide +kernel
theorem xd_Te_hasLine_45 : decode xb_Te_hasLine 45 = .ok (.goto 4, 3) := by decide +kernel
theorem xd_Te_hasLine_48 : decode xb_Te_hasLine 48 = .ok (.iconst 0, 1) := by decide +kernel
theorem xd_Te_hasLine_49 : decode xb_Te_hasLine 49 = .ok (.ireturn, 1) := by decide +kernel
theorem xd_Te_peek_0 : decode xb_Te_peek 0 = .ok (.aload_n 0, 1) := by decide +kernel
theorem xd_Te_peek_1 : decode xb_Te_peek 1 = .ok (.getfield 19, 3) := by decide +kernel
theorem xd_Te_peek_4 : decode xb_Te_peek 4 = .ok (.ifCond .lt 38, 3) := by decide +kernel
theorem xd_Te_peek_7 : decode xb_Te_peek 7 = .ok (.aload_n 0, 1) := by decide +kernel
theorem xd_Te_peek_8 : decode xb_Te_peek 8 = .ok (.getfield 19, 3) := by decide +kernel
theorem xd_Te_peek_11 : decode xb_Te_peek 11 = .ok (.aload_n 0, 1) := by decide +kernel
theorem xd_Te_peek_12 : decode xb_Te_peek 12 = .ok (.getfield 15, 3) := by decide +kernel
theorem xd_Te_peek_15 : decode xb_Te_peek 15 = .ok (.if_icmp .ge 27, 3) := by decide +kernel
theorem xd_Te_peek_18 : decode xb_Te_peek 18 = .ok (.aload_n 0, 1) := by decide +kernel
theorem xd_Te_peek_19 : decode xb_Te_peek 19 = .ok (.getfield 19, 3) := by decide +kernel
theorem xd_Te_peek_22 : decode xb_Te_peek 22 = .ok (.aload_n 0, 1) := by decide +kernel
theorem xd_Te_peek_23 : decode xb_Te_peek 23 = .ok (.getfield 9, 3) := by decide +kernel
theorem xd_Te_peek_26 : decode xb_Te_peek 26 = .ok (.arraylength, 1) := by decide +kernel
theorem xd_Te_peek_27 : decode xb_Te_peek 27 = .ok (.if_icmp .ge 15, 3) := by decide +kernel
theorem xd_Te_peek_30 : decode xb_Te_peek 30 = .ok (.aload_n 0, 1) := by decide +kernel
theorem xd_Te_peek_31 : decode xb_Te_peek 31 = .ok (.getfield 9, 3) := by decide +kernel
theorem xd_Te_peek_34 : decode xb_Te_peek 34 = .ok (.aload_n 0, 1) := by decide +kernel
theorem xd_Te_peek_35 : decode xb_Te_peek 35 = .ok (.getfield 19, 3) := by decide +kernel
theorem xd_Te_peek_38 : decode xb_Te_peek 38 = .ok (.caload, 1) := by decide +kernel
theorem xd_Te_peek_39 : decode xb_Te_peek 39 = .ok (.goto 4, 3) := by decide +kernel
theorem xd_Te_peek_42 : decode xb_Te_peek 42 = .ok (.iconst (-1), 1) := by decide +kernel
theorem xd_Te_peek_43 : decode xb_Te_peek 43 = .ok (.ireturn, 1) := by decide +kernel
theorem xd_Te_takeAny_0 : decode xb_Te_takeAny 0 = .ok (.aload_n 0, 1) := by decide +kernel
theorem xd_Te_takeAny_1 : decode xb_Te_takeAny 1 = .ok (.invokevirtual 22, 3) := by decide +kernel
theorem xd_Te_takeAny_4 : decode xb_Te_takeAny 4 = .ok (.istore_n 1, 1) := by decide +kernel
theorem xd_Te_takeAny_5 : decode xb_Te_takeAny 5 = .ok (.iload_n 1, 1) := by decide +kernel
theorem xd_Te_takeAny_6 : decode xb_Te_takeAny 6 = .ok (.iconst (-1), 1) := by decide +kernel
theorem xd_Te_takeAny_7 : decode xb_Te_takeAny 7 = .ok (.if_icmp .eq 13, 3) := by decide +kernel
theorem xd_Te_takeAny_10 : decode xb_Te_takeAny 10 = .ok (.aload_n 0, 1) := by decide +kernel
theorem xd_Te_takeAny_11 : decode xb_Te_takeAny 11 = .ok (.dup, 1) := by decide +kernel
theorem xd_Te_takeAny_12 : decode xb_Te_takeAny 12 = .ok (.getfield 19, 3) := by decide +kernel
theorem xd_Te_takeAny_15 : decode xb_Te_takeAny 15 = .ok (.iconst 1, 1) := by decide +kernel
theorem xd_Te_takeAny_16 : decode xb_Te_takeAny 16 = .ok (.iadd, 1) := by decide +kernel
theorem xd_Te_takeAny_17 : decode xb_Te_takeAny 17 = .ok (.putfield 19, 3) := by decide +kernel
theorem xd_Te_takeAny_20 : decode xb_Te_takeAny 20 = .ok (.iload_n 1, 1) := by decide +kernel
theorem xd_Te_takeAny_21 : decode xb_Te_takeAny 21 = .ok (.ireturn, 1) := by decide +kernel
theorem xd_Te_take_0 : decode xb_Te_take 0 = .ok (.aload_n 0, 1) := by decide +kernel
theorem xd_Te_take_1 : decode xb_Te_take 1 = .ok (.invokevirtual 22, 3) := by decide +kernel
theorem xd_Te_take_4 : decode xb_Te_take 4 = .ok (.iload_n 1, 1) := by decide +kernel
theorem xd_Te_take_5 : decode xb_Te_take 5 = .ok (.if_icmp .eq 5, 3) := by decide +kernel
theorem xd_Te_take_8 : decode xb_Te_take 8 = .ok (.iconst 0, 1) := by decide +kernel
theorem xd_Te_take_9 : decode xb_Te_take 9 = .ok (.ireturn, 1) := by decide +kernel
theorem xd_Te_take_10 : decode xb_Te_take 10 = .ok (.aload_n 0, 1) := by decide +kernel
theorem xd_Te_take_11 : decode xb_Te_take 11 = .ok (.dup, 1) := by decide +kernel
theorem xd_Te_take_12 : decode xb_Te_take 12 = .ok (.getfield 19, 3) := by decide +kernel
theorem xd_Te_take_15 : decode xb_Te_take 15 = .ok (.iconst 1, 1) := by decide +kernel
theorem xd_Te_take_16 : decode xb_Te_take 16 = .ok (.iadd, 1) := by decide +kernel
theorem xd_Te_take_17 : decode xb_Te_take 17 = .ok (.putfield 19, 3) := by decide +kernel
theorem xd_Te_take_20 : decode xb_Te_take 20 = .ok (.iconst 1, 1) := by decide +kernel
theorem xd_Te_take_21 : decode xb_Te_take 21 = .ok (.ireturn, 1) := by decide +kernel
theorem xd_Te_takeDigits_0 : decode xb_Te_takeDigits 0 = .ok (.iconst (-1), 1) := by decide +kernel
theorem xd_Te_takeDigits_1 : decode xb_Te_takeDigits 1 = .ok (.istore_n 2, 1) := by decide +kernel
theorem xd_Te_takeDigits_2 : decode xb_Te_takeDigits 2 = .ok (.iconst 0, 1) := by decide +kernel
theorem xd_Te_takeDigits_3 : decode xb_Te_takeDigits 3 = .ok (.istore_n 3, 1) := by decide +kernel
theorem xd_Te_takeDigits_4 : decode xb_Te_takeDigits 4 = .ok (.iload_n 3, 1) := by decide +kernel
theorem xd_Te_takeDigits_5 : decode xb_Te_takeDigits 5 = .ok (.iload_n 1, 1) := by decide +kernel
theorem xd_Te_takeDigits_6 : decode xb_Te_takeDigits 6 = .ok (.if_icmp .ge 62, 3) := by decide +kernel
theorem xd_Te_takeDigits_9 : decode xb_Te_takeDigits 9 = .ok (.aload_n 0, 1) := by decide +kernel
theorem xd_Te_takeDigits_10 : decode xb_Te_takeDigits 10 = .ok (.invokevirtual 22, 3) := by decide +kernel
theorem xd_Te_takeDigits_13 : decode xb_Te_takeDigits 13 = .ok (.istore 4, 2) := by decide +kernel
theorem xd_Te_takeDigits_15 : decode xb_Te_takeDigits 15 = .ok (.iload 4, 2) := by decide +kernel
theorem xd_Te_takeDigits_17 : decode xb_Te_takeDigits 17 = .ok (.bipush 48, 2) := by decide +kernel
theorem xd_Te_takeDigits_19 : decode xb_Te_takeDigits 19 = .ok (.if_icmp .lt 49, 3) := by decide +kernel
theorem xd_Te_takeDigits_22 : decode xb_Te_takeDigits 22 = .ok (.iload 4, 2) := by decide +kernel
theorem xd_Te_takeDigits_24 : decode xb_Te_takeDigits 24 = .ok (.bipush 57, 2) := by decide +kernel
theorem xd_Te_takeDigits_26 : decode xb_Te_takeDigits 26 = .ok (.if_icmp .le 6, 3) := by decide +kernel
theorem xd_Te_takeDigits_29 : decode xb_Te_takeDigits 29 = .ok (.goto 39, 3) := by decide +kernel
theorem xd_Te_takeDigits_32 : decode xb_Te_takeDigits 32 = .ok (.iload_n 2, 1) := by decide +kernel
theorem xd_Te_takeDigits_33 : decode xb_Te_takeDigits 33 = .ok (.iconst (-1), 1) := by decide +kernel
theorem xd_Te_takeDigits_34 : decode xb_Te_takeDigits 34 = .ok (.if_icmp .ne 7, 3) := by decide +kernel
theorem xd_Te_takeDigits_37 : decode xb_Te_takeDigits 37 = .ok (.iconst 0, 1) := by decide +kernel
theorem xd_Te_takeDigits_38 : decode xb_Te_takeDigits 38 = .ok (.goto 7, 3) := by decide +kernel
theorem xd_Te_takeDigits_41 : decode xb_Te_takeDigits 41 = .ok (.iload_n 2, 1) := by decide +kernel
theorem xd_Te_takeDigits_42 : decode xb_Te_takeDigits 42 = .ok (.bipush 10, 2) := by decide +kernel
theorem xd_Te_takeDigits_44 : decode xb_Te_takeDigits 44 = .ok (.imul, 1) := by decide +kernel
theorem xd_Te_takeDigits_45 : decode xb_Te_takeDigits 45 = .ok (.iload 4, 2) := by decide +kernel
theorem xd_Te_takeDigits_47 : decode xb_Te_takeDigits 47 = .ok (.bipush 48, 2) := by decide +kernel
theorem xd_Te_takeDigits_49 : decode xb_Te_takeDigits 49 = .ok (.isub, 1) := by decide +kernel
theorem xd_Te_takeDigits_50 : decode xb_Te_takeDigits 50 = .ok (.iadd, 1) := by decide +kernel
theorem xd_Te_takeDigits_51 : decode xb_Te_takeDigits 51 = .ok (.istore_n 2, 1) := by decide +kernel
theorem xd_Te_takeDigits_52 : decode xb_Te_takeDigits 52 = .ok (.aload_n 0, 1) := by decide +kernel
theorem xd_Te_takeDigits_53 : decode xb_Te_takeDigits 53 = .ok (.dup, 1) := by decide +kernel
theorem xd_Te_takeDigits_54 : decode xb_Te_takeDigits 54 = .ok (.getfield 19, 3) := by decide +kernel
theorem xd_Te_takeDigits_57 : decode xb_Te_takeDigits 57 = .ok (.iconst 1, 1) := by decide +kernel
theorem xd_Te_takeDigits_58 : decode xb_Te_takeDigits 58 = .ok (.iadd, 1) := by decide +kernel
theorem xd_Te_takeDigits_59 : decode xb_Te_takeDigits 59 = .ok (.putfield 19, 3) := by decide +kernel
theorem xd_Te_takeDigits_62 : decode xb_Te_takeDigits 62 = .ok (.iinc 3 1, 3) := by decide +kernel
theorem xd_Te_takeDigits_65 : decode xb_Te_takeDigits 65 = .ok (.goto (-61), 3) := by decide +kernel
theorem xd_Te_takeDigits_68 : decode xb_Te_takeDigits 68 = .ok (.iload_n 2, 1) := by decide +kernel
theorem xd_Te_takeDigits_69 : decode xb_Te_takeDigits 69 = .ok (.ireturn, 1) := by decide +kernel
theorem xd_Pa_readFrom_0 : decode xb_Pa_readFrom 0 = .ok (.aload_n 0, 1) := by decide +kernel
theorem xd_Pa_readFrom_1 : decode xb_Pa_readFrom 1 = .ok (.iconst 0, 1) := by decide +kernel
theorem xd_Pa_readFrom_2 : decode xb_Pa_readFrom 2 = .ok (.putfield 15, 3) := by decide +kernel
theorem xd_Pa_readFrom_5 : decode xb_Pa_readFrom 5 = .ok (.iconst 0, 1) := by decide +kernel
theorem xd_Pa_readFrom_6 : decode xb_Pa_readFrom 6 = .ok (.istore_n 2, 1) := by decide +kernel
theorem xd_Pa_readFrom_7 : decode xb_Pa_readFrom 7 = .ok (.iload_n 2, 1) := by decide +kernel
theorem xd_Pa_readFrom_8 : decode xb_Pa_readFrom 8 = .ok (.aload_n 0, 1) := by decide +kernel
theorem xd_Pa_readFrom_9 : decode xb_Pa_readFrom 9 = .ok (.getfield 9, 3) := by decide +kernel
theorem xd_Pa_readFrom_12 : decode xb_Pa_readFrom 12 = .ok (.arraylength, 1) := by decide +kernel
theorem xd_Pa_readFrom_13 : decode xb_Pa_readFrom 13 = .ok (.if_icmp .ge 39, 3) := by decide +kernel
theorem xd_Pa_readFrom_16 : decode xb_Pa_readFrom 16 = .ok (.aload_n 1, 1) := by decide +kernel
theorem xd_Pa_readFrom_17 : decode xb_Pa_readFrom 17 = .ok (.invokevirtual 19, 3) := by decide +kernel
theorem xd_Pa_readFrom_20 : decode xb_Pa_readFrom 20 = .ok (.istore_n 3, 1) := by decide +kernel
theorem xd_Pa_readFrom_21 : decode xb_Pa_readFrom 21 = .ok (.iload_n 3, 1) := by decide +kernel
theorem xd_Pa_readFrom_22 : decode xb_Pa_readFrom 22 = .ok (.iconst (-1), 1) := by decide +kernel
theorem xd_Pa_readFrom_23 : decode xb_Pa_readFrom 23 = .ok (.if_icmp .ne 6, 3) := by decide +kernel
theorem xd_Pa_readFrom_26 : decode xb_Pa_readFrom 26 = .ok (.goto 26, 3) := by decide +kernel
theorem xd_Pa_readFrom_29 : decode xb_Pa_readFrom 29 = .ok (.aload_n 0, 1) := by decide +kernel
theorem xd_Pa_readFrom_30 : decode xb_Pa_readFrom 30 = .ok (.getfield 9, 3) := by decide +kernel
theorem xd_Pa_readFrom_33 : decode xb_Pa_readFrom 33 = .ok (.iload_n 2, 1) := by decide +kernel
theorem xd_Pa_readFrom_34 : decode xb_Pa_readFrom 34 = .ok (.iload_n 3, 1) := by decide +kernel
theorem xd_Pa_readFrom_35 : decode xb_Pa_readFrom 35 = .ok (.iastore, 1) := by decide +kernel
theorem xd_Pa_readFrom_36 : decode xb_Pa_readFrom 36 = .ok (.aload_n 0, 1) := by decide +kernel
theorem xd_Pa_readFrom_37 : decode xb_Pa_readFrom 37 = .ok (.dup, 1) := by decide +kernel
theorem xd_Pa_readFrom_38 : decode xb_Pa_readFrom 38 = .ok (.getfield 15, 3) := by decide +kernel
theorem xd_Pa_readFrom_41 : decode xb_Pa_readFrom 41 = .ok (.iconst 1, 1) := by decide +kernel
theorem xd_Pa_readFrom_42 : decode xb_Pa_readFrom 42 = .ok (.iadd, 1) := by decide +kernel
theorem xd_Pa_readFrom_43 : decode xb_Pa_readFrom 43 = .ok (.putfield 15, 3) := by decide +kernel
theorem xd_Pa_readFrom_46 : decode xb_Pa_readFrom 46 = .ok (.iinc 2 1, 3) := by decide +kernel
theorem xd_Pa_readFrom_49 : decode xb_Pa_readFrom 49 = .ok (.goto (-42), 3) := by decide +kernel
theorem xd_Pa_readFrom_52 : decode xb_Pa_readFrom 52 = .ok (.aload_n 0, 1) := by decide +kernel
theorem xd_Pa_readFrom_53 : decode xb_Pa_readFrom 53 = .ok (.getfield 15, 3) := by decide +kernel
theorem xd_Pa_readFrom_56 : decode xb_Pa_readFrom 56 = .ok (.ifCond .le 7, 3) := by decide +kernel
theorem xd_Pa_readFrom_59 : decode xb_Pa_readFrom 59 = .ok (.iconst 1, 1) := by decide +kernel
theorem xd_Pa_readFrom_60 : decode xb_Pa_readFrom 60 = .ok (.goto 4, 3) := by decide +kernel
theorem xd_Pa_readFrom_63 : decode xb_Pa_readFrom 63 = .ok (.iconst 0, 1) := by decide +kernel
theorem xd_Pa_readFrom_64 : decode xb_Pa_readFrom 64 = .ok (.ireturn, 1) := by decide +kernel
theorem xd_Te_takeLetter_0 : decode xb_Te_takeLetter 0 = .ok (.aload_n 0, 1) := by decide +kernel
theorem xd_Te_takeLetter_1 : decode xb_Te_takeLetter 1 = .ok (.invokevirtual 22, 3) := by decide +kernel
theorem xd_Te_takeLetter_4 : decode xb_Te_takeLetter 4 = .ok (.istore_n 1, 1) := by decide +kernel
theorem xd_Te_takeLetter_5 : decode xb_Te_takeLetter 5 = .ok (.iload_n 1, 1) := by decide +kernel
theorem xd_Te_takeLetter_6 : decode xb_Te_takeLetter 6 = .ok (.bipush 97, 2) := by decide +kernel
theorem xd_Te_takeLetter_8 : decode xb_Te_takeLetter 8 = .ok (.if_icmp .lt 9, 3) := by decide +kernel
theorem xd_Te_takeLetter_11 : decode xb_Te_takeLetter 11 = .ok (.iload_n 1, 1) := by decide +kernel
theorem xd_Te_takeLetter_12 : decode xb_Te_takeLetter 12 = .ok (.bipush 122, 2) := by decide +kernel
theorem xd_Te_takeLetter_14 : decode xb_Te_takeLetter 14 = .ok (.if_icmp .le 5, 3) := by decide +kernel
theorem xd_Te_takeLetter_17 : decode xb_Te_takeLetter 17 = .ok (.iconst (-1), 1) := by decide +kernel
theorem xd_Te_takeLetter_18 : decode xb_Te_takeLetter 18 = .ok (.ireturn, 1) := by decide +kernel
theorem xd_Te_takeLetter_19 : decode xb_Te_takeLetter 19 = .ok (.aload_n 0, 1) := by decide +kernel
theorem xd_Te_takeLetter_20 : decode xb_Te_takeLetter 20 = .ok (.dup, 1) := by decide +kernel
theorem xd_Te_takeLetter_21 : decode xb_Te_takeLetter 21 = .ok (.getfield 19, 3) := by decide +kernel
theorem xd_Te_takeLetter_24 : decode xb_Te_takeLetter 24 = .ok (.iconst 1, 1) := by decide +kernel
theorem xd_Te_takeLetter_25 : decode xb_Te_takeLetter 25 = .ok (.iadd, 1) := by decide +kernel
theorem xd_Te_takeLetter_26 : decode xb_Te_takeLetter 26 = .ok (.putfield 19, 3) := by decide +kernel
theorem xd_Te_takeLetter_29 : decode xb_Te_takeLetter 29 = .ok (.iload_n 1, 1) := by decide +kernel
theorem xd_Te_takeLetter_30 : decode xb_Te_takeLetter 30 = .ok (.bipush 97, 2) := by decide +kernel
theorem xd_Te_takeLetter_32 : decode xb_Te_takeLetter 32 = .ok (.isub, 1) := by decide +kernel
theorem xd_Te_takeLetter_33 : decode xb_Te_takeLetter 33 = .ok (.ireturn, 1) := by decide +kernel
theorem xd_Te_takeCell_0 : decode xb_Te_takeCell 0 = .ok (.aload_n 0, 1) := by decide +kernel
theorem xd_Te_takeCell_1 : decode xb_Te_takeCell 1 = .ok (.bipush 35, 2) := by decide +kernel
theorem xd_Te_takeCell_3 : decode xb_Te_takeCell 3 = .ok (.invokevirtual 26, 3) := by decide +kernel
theorem xd_Te_takeCell_6 : decode xb_Te_takeCell 6 = .ok (.ifCond .eq 24, 3) := by decide +kernel
theorem xd_Te_takeCell_9 : decode xb_Te_takeCell 9 = .ok (.aload_n 0, 1) := by decide +kernel
theorem xd_Te_takeCell_10 : decode xb_Te_takeCell 10 = .ok (.iconst 2, 1) := by decide +kernel
theorem xd_Te_takeCell_11 : decode xb_Te_takeCell 11 = .ok (.invokevirtual 30, 3) := by decide +kernel
theorem xd_Te_takeCell_14 : decode xb_Te_takeCell 14 = .ok (.istore_n 1, 1) := by decide +kernel
theorem xd_Te_takeCell_15 : decode xb_Te_takeCell 15 = .ok (.iload_n 1, 1) := by decide +kernel
theorem xd_Te_takeCell_16 : decode xb_Te_takeCell 16 = .ok (.iconst (-1), 1) := by decide +kernel
theorem xd_Te_takeCell_17 : decode xb_Te_takeCell 17 = .ok (.if_icmp .ne 7, 3) := by decide +kernel
theorem xd_Te_takeCell_20 : decode xb_Te_takeCell 20 = .ok (.iconst 0, 1) := by decide +kernel
theorem xd_Te_takeCell_21 : decode xb_Te_takeCell 21 = .ok (.goto 8, 3) := by decide +kernel
theorem xd_Te_takeCell_24 : decode xb_Te_takeCell 24 = .ok (.iconst 2, 1) := by decide +kernel
theorem xd_Te_takeCell_25 : decode xb_Te_takeCell 25 = .ok (.iload_n 1, 1) := by decide +kernel
theorem xd_Te_takeCell_26 : decode xb_Te_takeCell 26 = .ok (.invokestatic 34, 3) := by decide +kernel
theorem xd_Te_takeCell_29 : decode xb_Te_takeCell 29 = .ok (.ireturn, 1) := by decide +kernel
theorem xd_Te_takeCell_30 : decode xb_Te_takeCell 30 = .ok (.aload_n 0, 1) := by decide +kernel
theorem xd_Te_takeCell_31 : decode xb_Te_takeCell 31 = .ok (.bipush 45, 2) := by decide +kernel
theorem xd_Te_takeCell_33 : decode xb_Te_takeCell 33 = .ok (.invokevirtual 26, 3) := by decide +kernel
theorem xd_Te_takeCell_36 : decode xb_Te_takeCell 36 = .ok (.istore_n 1, 1) := by decide +kernel
theorem xd_Te_takeCell_37 : decode xb_Te_takeCell 37 = .ok (.aload_n 0, 1) := by decide +kernel
theorem xd_Te_takeCell_38 : decode xb_Te_takeCell 38 = .ok (.iconst 5, 1) := by decide +kernel
theorem xd_Te_takeCell_39 : decode xb_Te_takeCell 39 = .ok (.invokevirtual 30, 3) := by decide +kernel
theorem xd_Te_takeCell_42 : decode xb_Te_takeCell 42 = .ok (.istore_n 2, 1) := by decide +kernel
theorem xd_Te_takeCell_43 : decode xb_Te_takeCell 43 = .ok (.iload_n 2, 1) := by decide +kernel
theorem xd_Te_takeCell_44 : decode xb_Te_takeCell 44 = .ok (.iconst (-1), 1) := by decide +kernel
theorem xd_Te_takeCell_45 : decode xb_Te_takeCell 45 = .ok (.if_icmp .ne 5, 3) := by decide +kernel
theorem xd_Te_takeCell_48 : decode xb_Te_takeCell 48 = .ok (.iconst 0, 1) := by decide +kernel
theorem xd_Te_takeCell_49 : decode xb_Te_takeCell 49 = .ok (.ireturn, 1) := by decide +kernel
theorem xd_Te_takeCell_50 : decode xb_Te_takeCell 50 = .ok (.iconst 1, 1) := by decide +kernel
theorem xd_Te_takeCell_51 : decode xb_Te_takeCell 51 = .ok (.iload_n 1, 1) := by decide +kernel
theorem xd_Te_takeCell_52 : decode xb_Te_takeCell 52 = .ok (.ifCond .eq 8, 3) := by decide +kernel
theorem xd_Te_takeCell_55 : decode xb_Te_takeCell 55 = .ok (.iload_n 2, 1) := by decide +kernel
theorem xd_Te_takeCell_56 : decode xb_Te_takeCell 56 = .ok (.ineg, 1) := by decide +kernel
theorem xd_Te_takeCell_57 : decode xb_Te_takeCell 57 = .ok (.goto 4, 3) := by decide +kernel
theorem xd_Te_takeCell_60 : decode xb_Te_takeCell 60 = .ok (.iload_n 2, 1) := by decide +kernel
theorem xd_Te_takeCell_61 : decode xb_Te_takeCell 61 = .ok (.invokestatic 34, 3) := by decide +kernel
theorem xd_Te_takeCell_64 : decode xb_Te_takeCell 64 = .ok (.ireturn, 1) := by decide +kernel
theorem xd_X_cellOf_0 : decode xb_X_cellOf 0 = .ok (.iload_n 1, 1) := by decide +kernel
theorem xd_X_cellOf_1 : decode xb_X_cellOf 1 = .ok (.iconst 2, 1) := by decide +kernel
theorem xd_X_cellOf_2 : decode xb_X_cellOf 2 = .ok (.ishl, 1) := by decide +kernel
theorem xd_X_cellOf_3 : decode xb_X_cellOf 3 = .ok (.iload_n 0, 1) := by decide +kernel
theorem xd_X_cellOf_4 : decode xb_X_cellOf 4 = .ok (.ior, 1) := by decide +kernel
theorem xd_X_cellOf_5 : decode xb_X_cellOf 5 = .ok (.ireturn, 1) := by decide +kernel
theorem xd_X_isObject_0 : decode xb_X_isObject 0 = .ok (.iload_n 0, 1) := by decide +kernel
theorem xd_X_isObject_1 : decode xb_X_isObject 1 = .ok (.ifCond .lt 13, 3) := by decide +kernel
theorem xd_X_isObject_4 : decode xb_X_isObject 4 = .ok (.iload_n 0, 1) := by decide +kernel
theorem xd_X_isObject_5 : decode xb_X_isObject 5 = .ok (.bipush 40, 2) := by decide +kernel
theorem xd_X_isObject_7 : decode xb_X_isObject 7 = .ok (.if_icmp .ge 7, 3) := by decide +kernel
theorem xd_X_isObject_10 : decode xb_X_isObject 10 = .ok (.iconst 1, 1) := by decide +kernel
theorem xd_X_isObject_11 : decode xb_X_isObject 11 = .ok (.goto 4, 3) := by decide +kernel
theorem xd_X_isObject_14 : decode xb_X_isObject 14 = .ok (.iconst 0, 1) := by decide +kernel
theorem xd_X_isObject_15 : decode xb_X_isObject 15 = .ok (.ireturn, 1) := by decide +kernel
theorem xd_X_kindOf_0 : decode xb_X_kindOf 0 = .ok (.iload_n 0, 1) := by decide +kernel
theorem xd_X_kindOf_1 : decode xb_X_kindOf 1 = .ok (.iconst 3, 1) := by decide +kernel
theorem xd_X_kindOf_2 : decode xb_X_kindOf 2 = .ok (.iand, 1) := by decide +kernel
theorem xd_X_kindOf_3 : decode xb_X_kindOf 3 = .ok (.ireturn, 1) := by decide +kernel
theorem xd_X_contentOf_0 : decode xb_X_contentOf 0 = .ok (.iload_n 0, 1) := by decide +kernel
theorem xd_X_contentOf_1 : decode xb_X_contentOf 1 = .ok (.iconst 2, 1) := by decide +kernel
theorem xd_X_contentOf_2 : decode xb_X_contentOf 2 = .ok (.ishr, 1) := by decide +kernel
theorem xd_X_contentOf_3 : decode xb_X_contentOf 3 = .ok (.ireturn, 1) := by decide +kernel
theorem xd_X_isKey_0 : decode xb_X_isKey 0 = .ok (.iload_n 0, 1) := by decide +kernel
theorem xd_X_isKey_1 : decode xb_X_isKey 1 = .ok (.ifCond .lt 13, 3) := by decide +kernel
theorem xd_X_isKey_4 : decode xb_X_isKey 4 = .ok (.iload_n 0, 1) := by decide +kernel
theorem xd_X_isKey_5 : decode xb_X_isKey 5 = .ok (.bipush 26, 2) := by decide +kernel
theorem xd_X_isKey_7 : decode xb_X_isKey 7 = .ok (.if_icmp .ge 7, 3) := by decide +kernel
theorem xd_X_isKey_10 : decode xb_X_isKey 10 = .ok (.iconst 1, 1) := by decide +kernel
theorem xd_X_isKey_11 : decode xb_X_isKey 11 = .ok (.goto 4, 3) := by decide +kernel
theorem xd_X_isKey_14 : decode xb_X_isKey 14 = .ok (.iconst 0, 1) := by decide +kernel
theorem xd_X_isKey_15 : decode xb_X_isKey 15 = .ok (.ireturn, 1) := by decide +kernel
theorem xd_Pa_length_0 : decode xb_Pa_length 0 = .ok (.aload_n 0, 1) := by decide +kernel
theorem xd_Pa_length_1 : decode xb_Pa_length 1 = .ok (.getfield 15, 3) := by decide +kernel
theorem xd_Pa_length_4 : decode xb_Pa_length 4 = .ok (.ireturn, 1) := by decide +kernel
theorem xd_Pa_keyAt_0 : decode xb_Pa_keyAt 0 = .ok (.iload_n 1, 1) := by decide +kernel
theorem xd_Pa_keyAt_1 : decode xb_Pa_keyAt 1 = .ok (.ifCond .lt 29, 3) := by decide +kernel
theorem xd_Pa_keyAt_4 : decode xb_Pa_keyAt 4 = .ok (.iload_n 1, 1) := by decide +kernel
theorem xd_Pa_keyAt_5 : decode xb_Pa_keyAt 5 = .ok (.aload_n 0, 1) := by decide +kernel
theorem xd_Pa_keyAt_6 : decode xb_Pa_keyAt 6 = .ok (.getfield 15, 3) := by decide +kernel
theorem xd_Pa_keyAt_9 : decode xb_Pa_keyAt 9 = .ok (.if_icmp .ge 21, 3) := by decide +kernel
theorem xd_Pa_keyAt_12 : decode xb_Pa_keyAt 12 = .ok (.iload_n 1, 1) := by decide +kernel
theorem xd_Pa_keyAt_13 : decode xb_Pa_keyAt 13 = .ok (.aload_n 0, 1) := by decide +kernel
theorem xd_Pa_keyAt_14 : decode xb_Pa_keyAt 14 = .ok (.getfield 9, 3) := by decide +kernel
theorem xd_Pa_keyAt_17 : decode xb_Pa_keyAt 17 = .ok (.arraylength, 1) := by decide +kernel
theorem xd_Pa_keyAt_18 : decode xb_Pa_keyAt 18 = .ok (.if_icmp .ge 12, 3) := by decide +kernel
theorem xd_Pa_keyAt_21 : decode xb_Pa_keyAt 21 = .ok (.aload_n 0, 1) := by decide +kernel
theorem xd_Pa_keyAt_22 : decode xb_Pa_keyAt 22 = .ok (.getfield 9, 3) := by decide +kernel
theorem xd_Pa_keyAt_25 : decode xb_Pa_keyAt 25 = .ok (.iload_n 1, 1) := by decide +kernel
theorem xd_Pa_keyAt_26 : decode xb_Pa_keyAt 26 = .ok (.iaload, 1) := by decide +kernel
theorem xd_Pa_keyAt_27 : decode xb_Pa_keyAt 27 = .ok (.goto 4, 3) := by decide +kernel
theorem xd_Pa_keyAt_30 : decode xb_Pa_keyAt 30 = .ok (.iconst (-1), 1) := by decide +kernel
theorem xd_Pa_keyAt_31 : decode xb_Pa_keyAt 31 = .ok (.ireturn, 1) := by decide +kernel
theorem xd_Pa_lastKey_0 : decode xb_Pa_lastKey 0 = .ok (.aload_n 0, 1) := by decide +kernel
theorem xd_Pa_lastKey_1 : decode xb_Pa_lastKey 1 = .ok (.aload_n 0, 1) := by decide +kernel
theorem xd_Pa_lastKey_2 : decode xb_Pa_lastKey 2 = .ok (.getfield 15, 3) := by decide +kernel
theorem xd_Pa_lastKey_5 : decode xb_Pa_lastKey 5 = .ok (.iconst 1, 1) := by decide +kernel
theorem xd_Pa_lastKey_6 : decode xb_Pa_lastKey 6 = .ok (.isub, 1) := by decide +kernel
theorem xd_Pa_lastKey_7 : decode xb_Pa_lastKey 7 = .ok (.invokevirtual 25, 3) := by decide +kernel
theorem xd_Pa_lastKey_10 : decode xb_Pa_lastKey 10 = .ok (.ireturn, 1) := by decide +kernel
theorem xd_Te_clear_0 : decode xb_Te_clear 0 = .ok (.aload_n 0, 1) := by decide +kernel
theorem xd_Te_clear_1 : decode xb_Te_clear 1 = .ok (.iconst 0, 1) := by decide +kernel
theorem xd_Te_clear_2 : decode xb_Te_clear 2 = .ok (.putfield 15, 3) := by decide +kernel
theorem xd_Te_clear_5 : decode xb_Te_clear 5 = .ok (.aload_n 0, 1) := by decide +kernel
theorem xd_Te_clear_6 : decode xb_Te_clear 6 = .ok (.iconst 0, 1) := by decide +kernel
theorem xd_Te_clear_7 : decode xb_Te_clear 7 = .ok (.putfield 19, 3) := by decide +kernel
theorem xd_Te_clear_10 : decode xb_Te_clear 10 = .ok (.return_, 1) := by decide +kernel
theorem xd_Hi_keep_0 : decode xb_Hi_keep 0 = .ok (.aload_n 0, 1) := by decide +kernel
theorem xd_Hi_keep_1 : decode xb_Hi_keep 1 = .ok (.getfield 21, 3) := by decide +kernel
theorem xd_Hi_keep_4 : decode xb_Hi_keep 4 = .ok (.aload_n 0, 1) := by decide +kernel
theorem xd_Hi_keep_5 : decode xb_Hi_keep 5 = .ok (.getfield 17, 3) := by decide +kernel
theorem xd_Hi_keep_8 : decode xb_Hi_keep 8 = .ok (.iadd, 1) := by decide +kernel
theorem xd_Hi_keep_9 : decode xb_Hi_keep 9 = .ok (.bipush 16, 2) := by decide +kernel
theorem xd_Hi_keep_11 : decode xb_Hi_keep 11 = .ok (.invokestatic 24, 3) := by decide +kernel
theorem xd_Hi_keep_14 : decode xb_Hi_keep 14 = .ok (.istore_n 2, 1) := by decide +kernel
theorem xd_Hi_keep_15 : decode xb_Hi_keep 15 = .ok (.aload_n 0, 1) := by decide +kernel
theorem xd_Hi_keep_16 : decode xb_Hi_keep 16 = .ok (.getfield 11, 3) := by decide +kernel
theorem xd_Hi_keep_19 : decode xb_Hi_keep 19 = .ok (.iload_n 2, 1) := by decide +kernel
theorem xd_Hi_keep_20 : decode xb_Hi_keep 20 = .ok (.aaload, 1) := by decide +kernel
theorem xd_Hi_keep_21 : decode xb_Hi_keep 21 = .ok (.ifnonnull 16, 3) := by decide +kernel
theorem xd_Hi_keep_24 : decode xb_Hi_keep 24 = .ok (.aload_n 0, 1) := by decide +kernel
theorem xd_Hi_keep_25 : decode xb_Hi_keep 25 = .ok (.getfield 11, 3) := by decide +kernel
theorem xd_Hi_keep_28 : decode xb_Hi_keep 28 = .ok (.iload_n 2, 1) := by decide +kernel
theorem xd_Hi_keep_29 : decode xb_Hi_keep 29 = .ok (.new 9, 3) := by decide +kernel
theorem xd_Hi_keep_32 : decode xb_Hi_keep 32 = .ok (.dup, 1) := by decide +kernel
theorem xd_Hi_keep_33 : decode xb_Hi_keep 33 = .ok (.invokespecial 30, 3) := by decide +kernel
theorem xd_Hi_keep_36 : decode xb_Hi_keep 36 = .ok (.aastore, 1) := by decide +kernel
theorem xd_Hi_keep_37 : decode xb_Hi_keep 37 = .ok (.aload_n 0, 1) := by decide +kernel
theorem xd_Hi_keep_38 : decode xb_Hi_keep 38 = .ok (.getfield 11, 3) := by decide +kernel
theorem xd_Hi_keep_41 : decode xb_Hi_keep 41 = .ok (.iload_n 2, 1) := by decide +kernel
theorem xd_Hi_keep_42 : decode xb_Hi_keep 42 = .ok (.aaload, 1) := by decide +kernel
theorem xd_Hi_keep_43 : decode xb_Hi_keep 43 = .ok (.aload_n 1, 1) := by decide +kernel
theorem xd_Hi_keep_44 : decode xb_Hi_keep 44 = .ok (.invokevirtual 31, 3) := by decide +kernel
theorem xd_Hi_keep_47 : decode xb_Hi_keep 47 = .ok (.aload_n 0, 1) := by decide +kernel
theorem xd_Hi_keep_48 : decode xb_Hi_keep 48 = .ok (.getfield 17, 3) := by decide +kernel
theorem xd_Hi_keep_51 : decode xb_Hi_keep 51 = .ok (.bipush 16, 2) := by decide +kernel
theorem xd_Hi_keep_53 : decode xb_Hi_keep 53 = .ok (.if_icmp .ge 16, 3) := by decide +kernel
theorem xd_Hi_keep_56 : decode xb_Hi_keep 56 = .ok (.aload_n 0, 1) := by decide +kernel
theorem xd_Hi_keep_57 : decode xb_Hi_keep 57 = .ok (.dup, 1) := by decide +kernel
theorem xd_Hi_keep_58 : decode xb_Hi_keep 58 = .ok (.getfield 17, 3) := by decide +kernel
theorem xd_Hi_keep_61 : decode xb_Hi_keep 61 = .ok (.iconst 1, 1) := by decide +kernel
theorem xd_Hi_keep_62 : decode xb_Hi_keep 62 = .ok (.iadd, 1) := by decide +kernel
theorem xd_Hi_keep_63 : decode xb_Hi_keep 63 = .ok (.putfield 17, 3) := by decide +kernel
theorem xd_Hi_keep_66 : decode xb_Hi_keep 66 = .ok (.goto 18, 3) := by decide +kernel
theorem xd_Hi_keep_69 : decode xb_Hi_keep 69 = .ok (.aload_n 0, 1) := by decide +kernel
theorem xd_Hi_keep_70 : decode xb_Hi_keep 70 = .ok (.aload_n 0, 1) := by decide +kernel
theorem xd_Hi_keep_71 : decode xb_Hi_keep 71 = .ok (.getfield 21, 3) := by decide +kernel
theorem xd_Hi_keep_74 : decode xb_Hi_keep 74 = .ok (.iconst 1, 1) := by decide +kernel
theorem xd_Hi_keep_75 : decode xb_Hi_keep 75 = .ok (.iadd, 1) := by decide +kernel
theorem xd_Hi_keep_76 : decode xb_Hi_keep 76 = .ok (.bipush 16, 2) := by decide +kernel
theorem xd_Hi_keep_78 : decode xb_Hi_keep 78 = .ok (.invokestatic 24, 3) := by decide +kernel
theorem xd_Hi_keep_81 : decode xb_Hi_keep 81 = .ok (.putfield 21, 3) := by decide +kernel
theorem xd_Hi_keep_84 : decode xb_Hi_keep 84 = .ok (.return_, 1) := by decide +kernel
theorem xd_X_noteUnlike_0 : decode xb_X_noteUnlike 0 = .ok (.aload_n 0, 1) := by decide +kernel
theorem xd_X_noteUnlike_1 : decode xb_X_noteUnlike 1 = .ok (.iconst 0, 1) := by decide +kernel
theorem xd_X_noteUnlike_2 : decode xb_X_noteUnlike 2 = .ok (.putfield 89, 3) := by decide +kernel
theorem xd_X_noteUnlike_5 : decode xb_X_noteUnlike 5 = .ok (.iconst 0, 1) := by decide +kernel
theorem xd_X_noteUnlike_6 : decode xb_X_noteUnlike 6 = .ok (.istore_n 1, 1) := by decide +kernel
theorem xd_X_noteUnlike_7 : decode xb_X_noteUnlike 7 = .ok (.iload_n 1, 1) := by decide +kernel
theorem xd_X_noteUnlike_8 : decode xb_X_noteUnlike 8 = .ok (.bipush 40, 2) := by decide +kernel
theorem xd_X_noteUnlike_10 : decode xb_X_noteUnlike 10 = .ok (.if_icmp .ge 56, 3) := by decide +kernel
theorem xd_X_noteUnlike_13 : decode xb_X_noteUnlike 13 = .ok (.aload_n 0, 1) := by decide +kernel
theorem xd_X_noteUnlike_14 : decode xb_X_noteUnlike 14 = .ok (.getfield 19, 3) := by decide +kernel
theorem xd_X_noteUnlike_17 : decode xb_X_noteUnlike 17 = .ok (.aload_n 0, 1) := by decide +kernel
theorem xd_X_noteUnlike_18 : decode xb_X_noteUnlike 18 = .ok (.getfield 23, 3) := by decide +kernel
theorem xd_X_noteUnlike_21 : decode xb_X_noteUnlike 21 = .ok (.iload_n 1, 1) := by decide +kernel
theorem xd_X_noteUnlike_22 : decode xb_X_noteUnlike 22 = .ok (.invokevirtual 157, 3) := by decide +kernel
theorem xd_X_noteUnlike_25 : decode xb_X_noteUnlike 25 = .ok (.ifCond .eq 35, 3) := by decide +kernel
theorem xd_X_noteUnlike_28 : decode xb_X_noteUnlike 28 = .ok (.aload_n 0, 1) := by decide +kernel
theorem xd_X_noteUnlike_29 : decode xb_X_noteUnlike 29 = .ok (.getfield 89, 3) := by decide +kernel
theorem xd_X_noteUnlike_32 : decode xb_X_noteUnlike 32 = .ok (.aload_n 0, 1) := by decide +kernel
theorem xd_X_noteUnlike_33 : decode xb_X_noteUnlike 33 = .ok (.getfield 49, 3) := by decide +kernel
theorem xd_X_noteUnlike_36 : decode xb_X_noteUnlike 36 = .ok (.arraylength, 1) := by decide +kernel
theorem xd_X_noteUnlike_37 : decode xb_X_noteUnlike 37 = .ok (.if_icmp .ge 23, 3) := by decide +kernel
theorem xd_X_noteUnlike_40 : decode xb_X_noteUnlike 40 = .ok (.aload_n 0, 1) := by decide +kernel
theorem xd_X_noteUnlike_41 : decode xb_X_noteUnlike 41 = .ok (.getfield 49, 3) := by decide +kernel
theorem xd_X_noteUnlike_44 : decode xb_X_noteUnlike 44 = .ok (.aload_n 0, 1) := by decide +kernel
theorem xd_X_noteUnlike_45 : decode xb_X_noteUnlike 45 = .ok (.getfield 89, 3) := by decide +kernel
theorem xd_X_noteUnlike_48 : decode xb_X_noteUnlike 48 = .ok (.iload_n 1, 1) := by decide +kernel
theorem xd_X_noteUnlike_49 : decode xb_X_noteUnlike 49 = .ok (.iastore, 1) := by decide +kernel
theorem xd_X_noteUnlike_50 : decode xb_X_noteUnlike 50 = .ok (.aload_n 0, 1) := by decide +kernel
theorem xd_X_noteUnlike_51 : decode xb_X_noteUnlike 51 = .ok (.dup, 1) := by decide +kernel
theorem xd_X_noteUnlike_52 : decode xb_X_noteUnlike 52 = .ok (.getfield 89, 3) := by decide +kernel
theorem xd_X_noteUnlike_55 : decode xb_X_noteUnlike 55 = .ok (.iconst 1, 1) := by decide +kernel
theorem xd_X_noteUnlike_56 : decode xb_X_noteUnlike 56 = .ok (.iadd, 1) := by decide +kernel
theorem xd_X_noteUnlike_57 : decode xb_X_noteUnlike 57 = .ok (.putfield 89, 3) := by decide +kernel
theorem xd_X_noteUnlike_60 : decode xb_X_noteUnlike 60 = .ok (.iinc 1 1, 3) := by decide +kernel
theorem xd_X_noteUnlike_63 : decode xb_X_noteUnlike 63 = .ok (.goto (-56), 3) := by decide +kernel
theorem xd_X_noteUnlike_66 : decode xb_X_noteUnlike 66 = .ok (.aload_n 0, 1) := by decide +kernel
theorem xd_X_noteUnlike_67 : decode xb_X_noteUnlike 67 = .ok (.getfield 89, 3) := by decide +kernel
theorem xd_X_noteUnlike_70 : decode xb_X_noteUnlike 70 = .ok (.ireturn, 1) := by decide +kernel
theorem xd_X_dry_0 : decode xb_X_dry 0 = .ok (.aload_n 0, 1) := by decide +kernel
theorem xd_X_dry_1 : decode xb_X_dry 1 = .ok (.getfield 23, 3) := by decide +kernel
theorem xd_X_dry_4 : decode xb_X_dry 4 = .ok (.aload_n 0, 1) := by decide +kernel
theorem xd_X_dry_5 : decode xb_X_dry 5 = .ok (.getfield 19, 3) := by decide +kernel
theorem xd_X_dry_8 : decode xb_X_dry 8 = .ok (.invokevirtual 57, 3) := by decide +kernel
theorem xd_X_dry_11 : decode xb_X_dry 11 = .ok (.aload_n 0, 1) := by decide +kernel
theorem xd_X_dry_12 : decode xb_X_dry 12 = .ok (.getfield 31, 3) := by decide +kernel
theorem xd_X_dry_15 : decode xb_X_dry 15 = .ok (.aload_n 0, 1) := by decide +kernel
theorem xd_X_dry_16 : decode xb_X_dry 16 = .ok (.getfield 10, 3) := by decide +kernel
theorem xd_X_dry_19 : decode xb_X_dry 19 = .ok (.iload_n 1, 1) := by decide +kernel
theorem xd_X_dry_20 : decode xb_X_dry 20 = .ok (.invokevirtual 60, 3) := by decide +kernel
theorem xd_X_dry_23 : decode xb_X_dry 23 = .ok (.istore_n 2, 1) := by decide +kernel
theorem xd_X_dry_24 : decode xb_X_dry 24 = .ok (.iload_n 2, 1) := by decide +kernel
theorem xd_X_dry_25 : decode xb_X_dry 25 = .ok (.ifCond .lt 8, 3) := by decide +kernel
theorem xd_X_dry_28 : decode xb_X_dry 28 = .ok (.aload_n 0, 1) := by decide +kernel
theorem xd_X_dry_29 : decode xb_X_dry 29 = .ok (.invokevirtual 86, 3) := by decide +kernel
theorem xd_X_dry_32 : decode xb_X_dry 32 = .ok (.istore_n 2, 1) := by decide +kernel
theorem xd_X_dry_33 : decode xb_X_dry 33 = .ok (.aload_n 0, 1) := by decide +kernel
theorem xd_X_dry_34 : decode xb_X_dry 34 = .ok (.getfield 19, 3) := by decide +kernel
theorem xd_X_dry_37 : decode xb_X_dry 37 = .ok (.aload_n 0, 1) := by decide +kernel
theorem xd_X_dry_38 : decode xb_X_dry 38 = .ok (.getfield 23, 3) := by decide +kernel
theorem xd_X_dry_41 : decode xb_X_dry 41 = .ok (.invokevirtual 57, 3) := by decide +kernel
theorem xd_X_dry_44 : decode xb_X_dry 44 = .ok (.iload_n 2, 1) := by decide +kernel
theorem xd_X_dry_45 : decode xb_X_dry 45 = .ok (.ireturn, 1) := by decide +kernel
theorem xd_X_countUnlike_0 : decode xb_X_countUnlike 0 = .ok (.iconst 0, 1) := by decide +kernel
theorem xd_X_countUnlike_1 : decode xb_X_countUnlike 1 = .ok (.istore_n 1, 1) := by decide +kernel
theorem xd_X_countUnlike_2 : decode xb_X_countUnlike 2 = .ok (.iconst 0, 1) := by decide +kernel
theorem xd_X_countUnlike_3 : decode xb_X_countUnlike 3 = .ok (.istore_n 2, 1) := by decide +kernel
theorem xd_X_countUnlike_4 : decode xb_X_countUnlike 4 = .ok (.iload_n 2, 1) := by decide +kernel
theorem xd_X_countUnlike_5 : decode xb_X_countUnlike 5 = .ok (.bipush 40, 2) := by decide +kernel
theorem xd_X_countUnlike_7 : decode xb_X_countUnlike 7 = .ok (.if_icmp .ge 27, 3) := by decide +kernel
theorem xd_X_countUnlike_10 : decode xb_X_countUnlike 10 = .ok (.aload_n 0, 1) := by decide +kernel
theorem xd_X_countUnlike_11 : decode xb_X_countUnlike 11 = .ok (.getfield 19, 3) := by decide +kernel
theorem xd_X_countUnlike_14 : decode xb_X_countUnlike 14 = .ok (.aload_n 0, 1) := by decide +kernel
theorem xd_X_countUnlike_15 : decode xb_X_countUnlike 15 = .ok (.getfield 23, 3) := by decide +kernel
theorem xd_X_countUnlike_18 : decode xb_X_countUnlike 18 = .ok (.iload_n 2, 1) := by decide +kernel
theorem xd_X_countUnlike_19 : decode xb_X_countUnlike 19 = .ok (.invokevirtual 157, 3) := by decide +kernel
theorem xd_X_countUnlike_22 : decode xb_X_countUnlike 22 = .ok (.ifCond .eq 6, 3) := by decide +kernel
theorem xd_X_countUnlike_25 : decode xb_X_countUnlike 25 = .ok (.iinc 1 1, 3) := by decide +kernel
theorem xd_X_countUnlike_28 : decode xb_X_countUnlike 28 = .ok (.iinc 2 1, 3) := by decide +kernel
theorem xd_X_countUnlike_31 : decode xb_X_countUnlike 31 = .ok (.goto (-27), 3) := by decide +kernel
theorem xd_X_countUnlike_34 : decode xb_X_countUnlike 34 = .ok (.iload_n 1, 1) := by decide +kernel
theorem xd_X_countUnlike_35 : decode xb_X_countUnlike 35 = .ok (.ireturn, 1) := by decide +kernel
theorem xd_X_undo_0 : decode xb_X_undo 0 = .ok (.aload_n 0, 1) := by decide +kernel
theorem xd_X_undo_1 : decode xb_X_undo 1 = .ok (.getfield 38, 3) := by decide +kernel
theorem xd_X_undo_4 : decode xb_X_undo 4 = .ok (.invokevirtual 99, 3) := by decide +kernel
theorem xd_X_undo_7 : decode xb_X_undo 7 = .ok (.astore_n 1, 1) := by decide +kernel
theorem xd_X_undo_8 : decode xb_X_undo 8 = .ok (.aload_n 1, 1) := by decide +kernel
theorem xd_X_undo_9 : decode xb_X_undo 9 = .ok (.ifnonnull 10, 3) := by decide +kernel
theorem xd_X_undo_12 : decode xb_X_undo 12 = .ok (.aload_n 0, 1) := by decide +kernel
theorem xd_X_undo_13 : decode xb_X_undo 13 = .ok (.iconst 0, 1) := by decide +kernel
theorem xd_X_undo_14 : decode xb_X_undo 14 = .ok (.putfield 89, 3) := by decide +kernel
theorem xd_X_undo_17 : decode xb_X_undo 17 = .ok (.iconst (-1), 1) := by decide +kernel
theorem xd_X_undo_18 : decode xb_X_undo 18 = .ok (.ireturn, 1) := by decide +kernel
theorem xd_X_undo_19 : decode xb_X_undo 19 = .ok (.aload_n 0, 1) := by decide +kernel
theorem xd_X_undo_20 : decode xb_X_undo 20 = .ok (.getfield 23, 3) := by decide +kernel
theorem xd_X_undo_23 : decode xb_X_undo 23 = .ok (.aload_n 0, 1) := by decide +kernel
theorem xd_X_undo_24 : decode xb_X_undo 24 = .ok (.getfield 19, 3) := by decide +kernel
theorem xd_X_undo_27 : decode xb_X_undo 27 = .ok (.invokevirtual 57, 3) := by decide +kernel
theorem xd_X_undo_30 : decode xb_X_undo 30 = .ok (.aload_n 0, 1) := by decide +kernel
theorem xd_X_undo_31 : decode xb_X_undo 31 = .ok (.getfield 19, 3) := by decide +kernel
theorem xd_X_undo_34 : decode xb_X_undo 34 = .ok (.aload_n 1, 1) := by decide +kernel
theorem xd_X_undo_35 : decode xb_X_undo 35 = .ok (.invokevirtual 57, 3) := by decide +kernel
theorem xd_X_undo_38 : decode xb_X_undo 38 = .ok (.aload_n 0, 1) := by decide +kernel
theorem xd_X_undo_39 : decode xb_X_undo 39 = .ok (.invokevirtual 83, 3) := by decide +kernel
theorem xd_X_undo_42 : decode xb_X_undo 42 = .ok (.ireturn, 1) := by decide +kernel
theorem xd_Hi_takeLatest_0 : decode xb_Hi_takeLatest 0 = .ok (.aload_n 0, 1) := by decide +kernel
theorem xd_Hi_takeLatest_1 : decode xb_Hi_takeLatest 1 = .ok (.getfield 17, 3) := by decide +kernel
theorem xd_Hi_takeLatest_4 : decode xb_Hi_takeLatest 4 = .ok (.ifCond .gt 5, 3) := by decide +kernel
theorem xd_Hi_takeLatest_7 : decode xb_Hi_takeLatest 7 = .ok (.aconst_null, 1) := by decide +kernel
theorem xd_Hi_takeLatest_8 : decode xb_Hi_takeLatest 8 = .ok (.areturn, 1) := by decide +kernel
theorem xd_Hi_takeLatest_9 : decode xb_Hi_takeLatest 9 = .ok (.aload_n 0, 1) := by decide +kernel
theorem xd_Hi_takeLatest_10 : decode xb_Hi_takeLatest 10 = .ok (.dup, 1) := by decide +kernel
theorem xd_Hi_takeLatest_11 : decode xb_Hi_takeLatest 11 = .ok (.getfield 17, 3) := by decide +kernel
theorem xd_Hi_takeLatest_14 : decode xb_Hi_takeLatest 14 = .ok (.iconst 1, 1) := by decide +kernel
theorem xd_Hi_takeLatest_15 : decode xb_Hi_takeLatest 15 = .ok (.isub, 1) := by decide +kernel
theorem xd_Hi_takeLatest_16 : decode xb_Hi_takeLatest 16 = .ok (.putfield 17, 3) := by decide +kernel
theorem xd_Hi_takeLatest_19 : decode xb_Hi_takeLatest 19 = .ok (.aload_n 0, 1) := by decide +kernel
theorem xd_Hi_takeLatest_20 : decode xb_Hi_takeLatest 20 = .ok (.getfield 11, 3) := by decide +kernel
theorem xd_Hi_takeLatest_23 : decode xb_Hi_takeLatest 23 = .ok (.aload_n 0, 1) := by decide +kernel
theorem xd_Hi_takeLatest_24 : decode xb_Hi_takeLatest 24 = .ok (.getfield 21, 3) := by decide +kernel
theorem xd_Hi_takeLatest_27 : decode xb_Hi_takeLatest 27 = .ok (.aload_n 0, 1) := by decide +kernel
theorem xd_Hi_takeLatest_28 : decode xb_Hi_takeLatest 28 = .ok (.getfield 17, 3) := by decide +kernel
theorem xd_Hi_takeLatest_31 : decode xb_Hi_takeLatest 31 = .ok (.iadd, 1) := by decide +kernel
theorem xd_Hi_takeLatest_32 : decode xb_Hi_takeLatest 32 = .ok (.bipush 16, 2) := by decide +kernel
theorem xd_Hi_takeLatest_34 : decode xb_Hi_takeLatest 34 = .ok (.invokestatic 24, 3) := by decide +kernel
theorem xd_Hi_takeLatest_37 : decode xb_Hi_takeLatest 37 = .ok (.aaload, 1) := by decide +kernel
theorem xd_Hi_takeLatest_38 : decode xb_Hi_takeLatest 38 = .ok (.areturn, 1) := by decide +kernel
theorem xd_X_drop_0 : decode xb_X_drop 0 = .ok (.aload_n 0, 1) := by decide +kernel
theorem xd_X_drop_1 : decode xb_X_drop 1 = .ok (.getfield 23, 3) := by decide +kernel
theorem xd_X_drop_4 : decode xb_X_drop 4 = .ok (.aload_n 0, 1) := by decide +kernel
theorem xd_X_drop_5 : decode xb_X_drop 5 = .ok (.getfield 19, 3) := by decide +kernel
theorem xd_X_drop_8 : decode xb_X_drop 8 = .ok (.invokevirtual 57, 3) := by decide +kernel
theorem xd_X_drop_11 : decode xb_X_drop 11 = .ok (.aload_n 0, 1) := by decide +kernel
theorem xd_X_drop_12 : decode xb_X_drop 12 = .ok (.getfield 45, 3) := by decide +kernel
theorem xd_X_drop_15 : decode xb_X_drop 15 = .ok (.aload_n 0, 1) := by decide +kernel
theorem xd_X_drop_16 : decode xb_X_drop 16 = .ok (.getfield 19, 3) := by decide +kernel
theorem xd_X_drop_19 : decode xb_X_drop 19 = .ok (.invokevirtual 103, 3) := by decide +kernel
theorem xd_X_drop_22 : decode xb_X_drop 22 = .ok (.iconst 0, 1) := by decide +kernel
theorem xd_X_drop_23 : decode xb_X_drop 23 = .ok (.istore_n 1, 1) := by decide +kernel
theorem xd_X_drop_24 : decode xb_X_drop 24 = .ok (.iconst 0, 1) := by decide +kernel
theorem xd_X_drop_25 : decode xb_X_drop 25 = .ok (.istore_n 2, 1) := by decide +kernel
theorem xd_X_drop_26 : decode xb_X_drop 26 = .ok (.iload_n 2, 1) := by decide +kernel
theorem xd_X_drop_27 : decode xb_X_drop 27 = .ok (.bipush 40, 2) := by decide +kernel
theorem xd_X_drop_29 : decode xb_X_drop 29 = .ok (.if_icmp .ge 42, 3) := by decide +kernel
theorem xd_X_drop_32 : decode xb_X_drop 32 = .ok (.aload_n 0, 1) := by decide +kernel
theorem xd_X_drop_33 : decode xb_X_drop 33 = .ok (.getfield 19, 3) := by decide +kernel
theorem xd_X_drop_36 : decode xb_X_drop 36 = .ok (.iload_n 2, 1) := by decide +kernel
theorem xd_X_drop_37 : decode xb_X_drop 37 = .ok (.invokevirtual 106, 3) := by decide +kernel
theorem xd_X_drop_40 : decode xb_X_drop 40 = .ok (.ifCond .eq 25, 3) := by decide +kernel
theorem xd_X_drop_43 : decode xb_X_drop 43 = .ok (.aload_n 0, 1) := by decide +kernel
theorem xd_X_drop_44 : decode xb_X_drop 44 = .ok (.getfield 45, 3) := by decide +kernel
theorem xd_X_drop_47 : decode xb_X_drop 47 = .ok (.iload_n 2, 1) := by decide +kernel
theorem xd_X_drop_48 : decode xb_X_drop 48 = .ok (.invokevirtual 109, 3) := by decide +kernel
theorem xd_X_drop_51 : decode xb_X_drop 51 = .ok (.ifCond .ne 14, 3) := by decide +kernel
theorem xd_X_drop_54 : decode xb_X_drop 54 = .ok (.aload_n 0, 1) := by decide +kernel
theorem xd_X_drop_55 : decode xb_X_drop 55 = .ok (.getfield 19, 3) := by decide +kernel
theorem xd_X_drop_58 : decode xb_X_drop 58 = .ok (.iload_n 2, 1) := by decide +kernel
theorem xd_X_drop_59 : decode xb_X_drop 59 = .ok (.invokevirtual 112, 3) := by decide +kernel
theorem xd_X_drop_62 : decode xb_X_drop 62 = .ok (.iinc 1 1, 3) := by decide +kernel
theorem xd_X_drop_65 : decode xb_X_drop 65 = .ok (.iinc 2 1, 3) := by decide +kernel
theorem xd_X_drop_68 : decode xb_X_drop 68 = .ok (.goto (-42), 3) := by decide +kernel
theorem xd_X_drop_71 : decode xb_X_drop 71 = .ok (.aload_n 0, 1) := by decide +kernel
theorem xd_X_drop_72 : decode xb_X_drop 72 = .ok (.getfield 38, 3) := by decide +kernel
theorem xd_X_drop_75 : decode xb_X_drop 75 = .ok (.aload_n 0, 1) := by decide +kernel
theorem xd_X_drop_76 : decode xb_X_drop 76 = .ok (.getfield 23, 3) := by decide +kernel
theorem xd_X_drop_79 : decode xb_X_drop 79 = .ok (.invokevirtual 80, 3) := by decide +kernel
theorem xd_X_drop_82 : decode xb_X_drop 82 = .ok (.aload_n 0, 1) := by decide +kernel
theorem xd_X_drop_83 : decode xb_X_drop 83 = .ok (.invokevirtual 83, 3) := by decide +kernel
theorem xd_X_drop_86 : decode xb_X_drop 86 = .ok (.pop, 1) := by decide +kernel
theorem xd_X_drop_87 : decode xb_X_drop 87 = .ok (.iload_n 1, 1) := by decide +kernel
theorem xd_X_drop_88 : decode xb_X_drop 88 = .ok (.ireturn, 1) := by decide +kernel
theorem xd_Re_walk_0 : decode xb_Re_walk 0 = .ok (.iconst 0, 1) := by decide +kernel
theorem xd_Re_walk_1 : decode xb_Re_walk 1 = .ok (.istore_n 2, 1) := by decide +kernel
theorem xd_Re_walk_2 : decode xb_Re_walk 2 = .ok (.iload_n 2, 1) := by decide +kernel
theorem xd_Re_walk_3 : decode xb_Re_walk 3 = .ok (.bipush 40, 2) := by decide +kernel
theorem xd_Re_walk_5 : decode xb_Re_walk 5 = .ok (.if_icmp .ge 16, 3) := by decide +kernel
theorem xd_Re_walk_8 : decode xb_Re_walk 8 = .ok (.aload_n 0, 1) := by decide +kernel
theorem xd_Re_walk_9 : decode xb_Re_walk 9 = .ok (.getfield 9, 3) := by decide +kernel
theorem xd_Re_walk_12 : decode xb_Re_walk 12 = .ok (.iload_n 2, 1) := by decide +kernel
theorem xd_Re_walk_13 : decode xb_Re_walk 13 = .ok (.iconst 0, 1) := by decide +kernel
theorem xd_Re_walk_14 : decode xb_Re_walk 14 = .ok (.bastore, 1) := by decide +kernel
theorem xd_Re_walk_15 : decode xb_Re_walk 15 = .ok (.iinc 2 1, 3) := by decide +kernel
theorem xd_Re_walk_18 : decode xb_Re_walk 18 = .ok (.goto (-16), 3) := by decide +kernel
theorem xd_Re_walk_21 : decode xb_Re_walk 21 = .ok (.aload_n 0, 1) := by decide +kernel
theorem xd_Re_walk_22 : decode xb_Re_walk 22 = .ok (.iconst 0, 1) := by decide +kernel
theorem xd_Re_walk_23 : decode xb_Re_walk 23 = .ok (.putfield 23, 3) := by decide +kernel
theorem xd_Re_walk_26 : decode xb_Re_walk 26 = .ok (.aload_n 0, 1) := by decide +kernel
theorem xd_Re_walk_27 : decode xb_Re_walk 27 = .ok (.iconst 0, 1) := by decide +kernel
theorem xd_Re_walk_28 : decode xb_Re_walk 28 = .ok (.invokevirtual 27, 3) := by decide +kernel
theorem xd_Re_walk_31 : decode xb_Re_walk 31 = .ok (.iconst 0, 1) := by decide +kernel
theorem xd_Re_walk_32 : decode xb_Re_walk 32 = .ok (.istore_n 2, 1) := by decide +kernel
theorem xd_Re_walk_33 : decode xb_Re_walk 33 = .ok (.iload_n 2, 1) := by decide +kernel
theorem xd_Re_walk_34 : decode xb_Re_walk 34 = .ok (.aload_n 0, 1) := by decide +kernel
theorem xd_Re_walk_35 : decode xb_Re_walk 35 = .ok (.getfield 23, 3) := by decide +kernel
theorem xd_Re_walk_38 : decode xb_Re_walk 38 = .ok (.if_icmp .ge 29, 3) := by decide +kernel
theorem xd_Re_walk_41 : decode xb_Re_walk 41 = .ok (.iload_n 2, 1) := by decide +kernel
theorem xd_Re_walk_42 : decode xb_Re_walk 42 = .ok (.aload_n 0, 1) := by decide +kernel
theorem xd_Re_walk_43 : decode xb_Re_walk 43 = .ok (.getfield 15, 3) := by decide +kernel
theorem xd_Re_walk_46 : decode xb_Re_walk 46 = .ok (.arraylength, 1) := by decide +kernel
theorem xd_Re_walk_47 : decode xb_Re_walk 47 = .ok (.if_icmp .ge 20, 3) := by decide +kernel
theorem xd_Re_walk_50 : decode xb_Re_walk 50 = .ok (.aload_n 0, 1) := by decide +kernel
theorem xd_Re_walk_51 : decode xb_Re_walk 51 = .ok (.aload_n 1, 1) := by decide +kernel
theorem xd_Re_walk_52 : decode xb_Re_walk 52 = .ok (.aload_n 0, 1) := by decide +kernel
theorem xd_Re_walk_53 : decode xb_Re_walk 53 = .ok (.getfield 15, 3) := by decide +kernel
theorem xd_Re_walk_56 : decode xb_Re_walk 56 = .ok (.iload_n 2, 1) := by decide +kernel
theorem xd_Re_walk_57 : decode xb_Re_walk 57 = .ok (.iaload, 1) := by decide +kernel
theorem xd_Re_walk_58 : decode xb_Re_walk 58 = .ok (.invokevirtual 31, 3) := by decide +kernel
theorem xd_Re_walk_61 : decode xb_Re_walk 61 = .ok (.iinc 2 1, 3) := by decide +kernel
theorem xd_Re_walk_64 : decode xb_Re_walk 64 = .ok (.goto (-31), 3) := by decide +kernel
theorem xd_Re_walk_67 : decode xb_Re_walk 67 = .ok (.return_, 1) := by decide +kernel
theorem xd_Re_meet_0 : decode xb_Re_meet 0 = .ok (.iload_n 1, 1) := by decide +kernel
theorem xd_Re_meet_1 : decode xb_Re_meet 1 = .ok (.invokestatic 19, 3) := by decide +kernel
theorem xd_Re_meet_4 : decode xb_Re_meet 4 = .ok (.ifCond .eq 58, 3) := by decide +kernel
theorem xd_Re_meet_7 : decode xb_Re_meet 7 = .ok (.aload_n 0, 1) := by decide +kernel
theorem xd_Re_meet_8 : decode xb_Re_meet 8 = .ok (.getfield 9, 3) := by decide +kernel
theorem xd_Re_meet_11 : decode xb_Re_meet 11 = .ok (.iload_n 1, 1) := by decide +kernel
theorem xd_Re_meet_12 : decode xb_Re_meet 12 = .ok (.baload, 1) := by decide +kernel
theorem xd_Re_meet_13 : decode xb_Re_meet 13 = .ok (.ifCond .ne 49, 3) := by decide +kernel
theorem xd_Re_meet_16 : decode xb_Re_meet 16 = .ok (.aload_n 0, 1) := by decide +kernel
theorem xd_Re_meet_17 : decode xb_Re_meet 17 = .ok (.getfield 23, 3) := by decide +kernel
theorem xd_Re_meet_20 : decode xb_Re_meet 20 = .ok (.ifCond .lt 42, 3) := by decide +kernel
theorem xd_Re_meet_23 : decode xb_Re_meet 23 = .ok (.aload_n 0, 1) := by decide +kernel
theorem xd_Re_meet_24 : decode xb_Re_meet 24 = .ok (.getfield 23, 3) := by decide +kernel
theorem xd_Re_meet_27 : decode xb_Re_meet 27 = .ok (.aload_n 0, 1) := by decide +kernel
theorem xd_Re_meet_28 : decode xb_Re_meet 28 = .ok (.getfield 15, 3) := by decide +kernel
theorem xd_Re_meet_31 : decode xb_Re_meet 31 = .ok (.arraylength, 1) := by decide +kernel
theorem xd_Re_meet_32 : decode xb_Re_meet 32 = .ok (.if_icmp .ge 30, 3) := by decide +kernel
theorem xd_Re_meet_35 : decode xb_Re_meet 35 = .ok (.aload_n 0, 1) := by decide +kernel
theorem xd_Re_meet_36 : decode xb_Re_meet 36 = .ok (.getfield 9, 3) := by decide +kernel
theorem xd_Re_meet_39 : decode xb_Re_meet 39 = .ok (.iload_n 1, 1) := by decide +kernel
theorem xd_Re_meet_40 : decode xb_Re_meet 40 = .ok (.iconst 1, 1) := by decide +kernel
theorem xd_Re_meet_41 : decode xb_Re_meet 41 = .ok (.bastore, 1) := by decide +kernel
theorem xd_Re_meet_42 : decode xb_Re_meet 42 = .ok (.aload_n 0, 1) := by decide +kernel
theorem xd_Re_meet_43 : decode xb_Re_meet 43 = .ok (.getfield 15, 3) := by decide +kernel
theorem xd_Re_meet_46 : decode xb_Re_meet 46 = .ok (.aload_n 0, 1) := by decide +kernel
theorem xd_Re_meet_47 : decode xb_Re_meet 47 = .ok (.getfield 23, 3) := by decide +kernel
theorem xd_Re_meet_50 : decode xb_Re_meet 50 = .ok (.iload_n 1, 1) := by decide +kernel
theorem xd_Re_meet_51 : decode xb_Re_meet 51 = .ok (.iastore, 1) := by decide +kernel
theorem xd_Re_meet_52 : decode xb_Re_meet 52 = .ok (.aload_n 0, 1) := by decide +kernel
theorem xd_Re_meet_53 : decode xb_Re_meet 53 = .ok (.dup, 1) := by decide +kernel
theorem xd_Re_meet_54 : decode xb_Re_meet 54 = .ok (.getfield 23, 3) := by decide +kernel
theorem xd_Re_meet_57 : decode xb_Re_meet 57 = .ok (.iconst 1, 1) := by decide +kernel
theorem xd_Re_meet_58 : decode xb_Re_meet 58 = .ok (.iadd, 1) := by decide +kernel
theorem xd_Re_meet_59 : decode xb_Re_meet 59 = .ok (.putfield 23, 3) := by decide +kernel
theorem xd_Re_meet_62 : decode xb_Re_meet 62 = .ok (.return_, 1) := by decide +kernel
theorem xd_Re_walkKeys_0 : decode xb_Re_walkKeys 0 = .ok (.iconst 0, 1) := by decide +kernel
theorem xd_Re_walkKeys_1 : decode xb_Re_walkKeys 1 = .ok (.istore_n 3, 1) := by decide +kernel
theorem xd_Re_walkKeys_2 : decode xb_Re_walkKeys 2 = .ok (.iload_n 3, 1) := by decide +kernel
theorem xd_Re_walkKeys_3 : decode xb_Re_walkKeys 3 = .ok (.bipush 26, 2) := by decide +kernel
theorem xd_Re_walkKeys_5 : decode xb_Re_walkKeys 5 = .ok (.if_icmp .ge 47, 3) := by decide +kernel
theorem xd_Re_walkKeys_8 : decode xb_Re_walkKeys 8 = .ok (.aload_n 1, 1) := by decide +kernel
theorem xd_Re_walkKeys_9 : decode xb_Re_walkKeys 9 = .ok (.iload_n 2, 1) := by decide +kernel
theorem xd_Re_walkKeys_10 : decode xb_Re_walkKeys 10 = .ok (.iload_n 3, 1) := by decide +kernel
theorem xd_Re_walkKeys_11 : decode xb_Re_walkKeys 11 = .ok (.invokevirtual 35, 3) := by decide +kernel
theorem xd_Re_walkKeys_14 : decode xb_Re_walkKeys 14 = .ok (.istore 4, 2) := by decide +kernel
theorem xd_Re_walkKeys_16 : decode xb_Re_walkKeys 16 = .ok (.iload 4, 2) := by decide +kernel
theorem xd_Re_walkKeys_18 : decode xb_Re_walkKeys 18 = .ok (.invokestatic 41, 3) := by decide +kernel
theorem xd_Re_walkKeys_21 : decode xb_Re_walkKeys 21 = .ok (.iconst 2, 1) := by decide +kernel
theorem xd_Re_walkKeys_22 : decode xb_Re_walkKeys 22 = .ok (.if_icmp .ne 24, 3) := by decide +kernel
theorem xd_Re_walkKeys_25 : decode xb_Re_walkKeys 25 = .ok (.aload_n 1, 1) := by decide +kernel
theorem xd_Re_walkKeys_26 : decode xb_Re_walkKeys 26 = .ok (.iload 4, 2) := by decide +kernel
theorem xd_Re_walkKeys_28 : decode xb_Re_walkKeys 28 = .ok (.invokestatic 45, 3) := by decide +kernel
theorem xd_Re_walkKeys_31 : decode xb_Re_walkKeys 31 = .ok (.invokevirtual 48, 3) := by decide +kernel
theorem xd_Re_walkKeys_34 : decode xb_Re_walkKeys 34 = .ok (.ifCond .eq 12, 3) := by decide +kernel
theorem xd_Re_walkKeys_37 : decode xb_Re_walkKeys 37 = .ok (.aload_n 0, 1) := by decide +kernel
theorem xd_Re_walkKeys_38 : decode xb_Re_walkKeys 38 = .ok (.iload 4, 2) := by decide +kernel
theorem xd_Re_walkKeys_40 : decode xb_Re_walkKeys 40 = .ok (.invokestatic 45, 3) := by decide +kernel
theorem xd_Re_walkKeys_43 : decode xb_Re_walkKeys 43 = .ok (.invokevirtual 27, 3) := by decide +kernel
theorem xd_Re_walkKeys_46 : decode xb_Re_walkKeys 46 = .ok (.iinc 3 1, 3) := by decide +kernel
theorem xd_Re_walkKeys_49 : decode xb_Re_walkKeys 49 = .ok (.goto (-47), 3) := by decide +kernel
theorem xd_Re_walkKeys_52 : decode xb_Re_walkKeys 52 = .ok (.return_, 1) := by decide +kernel
theorem xd_Re_has_0 : decode xb_Re_has 0 = .ok (.iload_n 1, 1) := by decide +kernel
theorem xd_Re_has_1 : decode xb_Re_has 1 = .ok (.invokestatic 19, 3) := by decide +kernel
theorem xd_Re_has_4 : decode xb_Re_has 4 = .ok (.ifCond .eq 16, 3) := by decide +kernel
theorem xd_Re_has_7 : decode xb_Re_has 7 = .ok (.aload_n 0, 1) := by decide +kernel
theorem xd_Re_has_8 : decode xb_Re_has 8 = .ok (.getfield 9, 3) := by decide +kernel
theorem xd_Re_has_11 : decode xb_Re_has 11 = .ok (.iload_n 1, 1) := by decide +kernel
theorem xd_Re_has_12 : decode xb_Re_has 12 = .ok (.baload, 1) := by decide +kernel
theorem xd_Re_has_13 : decode xb_Re_has 13 = .ok (.ifCond .eq 7, 3) := by decide +kernel
theorem xd_Re_has_16 : decode xb_Re_has 16 = .ok (.iconst 1, 1) := by decide +kernel
theorem xd_Re_has_17 : decode xb_Re_has 17 = .ok (.goto 4, 3) := by decide +kernel
theorem xd_Re_has_20 : decode xb_Re_has 20 = .ok (.iconst 0, 1) := by decide +kernel
theorem xd_Re_has_21 : decode xb_Re_has 21 = .ok (.ireturn, 1) := by decide +kernel
theorem xd_X_join_0 : decode xb_X_join 0 = .ok (.aload_n 0, 1) := by decide +kernel
theorem xd_X_join_1 : decode xb_X_join 1 = .ok (.getfield 23, 3) := by decide +kernel
theorem xd_X_join_4 : decode xb_X_join 4 = .ok (.aload_n 0, 1) := by decide +kernel
theorem xd_X_join_5 : decode xb_X_join 5 = .ok (.getfield 19, 3) := by decide +kernel
theorem xd_X_join_8 : decode xb_X_join 8 = .ok (.invokevirtual 57, 3) := by decide +kernel
theorem xd_X_join_11 : decode xb_X_join 11 = .ok (.iconst 0, 1) := by decide +kernel
theorem xd_X_join_12 : decode xb_X_join 12 = .ok (.istore_n 1, 1) := by decide +kernel
theorem xd_X_join_13 : decode xb_X_join 13 = .ok (.iload_n 1, 1) := by decide +kernel
theorem xd_X_join_14 : decode xb_X_join 14 = .ok (.bipush 40, 2) := by decide +kernel
theorem xd_X_join_16 : decode xb_X_join 16 = .ok (.if_icmp .ge 19, 3) := by decide +kernel
theorem xd_X_join_19 : decode xb_X_join 19 = .ok (.aload_n 0, 1) := by decide +kernel
theorem xd_X_join_20 : decode xb_X_join 20 = .ok (.getfield 19, 3) := by decide +kernel
theorem xd_X_join_23 : decode xb_X_join 23 = .ok (.invokevirtual 116, 3) := by decide +kernel
theorem xd_X_join_26 : decode xb_X_join 26 = .ok (.ifCond .eq 9, 3) := by decide +kernel
theorem xd_X_join_29 : decode xb_X_join 29 = .ok (.iinc 1 1, 3) := by decide +kernel
theorem xd_X_join_32 : decode xb_X_join 32 = .ok (.goto (-19), 3) := by decide +kernel
theorem xd_X_join_35 : decode xb_X_join 35 = .ok (.aload_n 0, 1) := by decide +kernel
theorem xd_X_join_36 : decode xb_X_join 36 = .ok (.getfield 38, 3) := by decide +kernel
theorem xd_X_join_39 : decode xb_X_join 39 = .ok (.aload_n 0, 1) := by decide +kernel
theorem xd_X_join_40 : decode xb_X_join 40 = .ok (.getfield 23, 3) := by decide +kernel
theorem xd_X_join_43 : decode xb_X_join 43 = .ok (.invokevirtual 80, 3) := by decide +kernel
theorem xd_X_join_46 : decode xb_X_join 46 = .ok (.aload_n 0, 1) := by decide +kernel
theorem xd_X_join_47 : decode xb_X_join 47 = .ok (.invokevirtual 83, 3) := by decide +kernel
theorem xd_X_join_50 : decode xb_X_join 50 = .ok (.pop, 1) := by decide +kernel
theorem xd_X_join_51 : decode xb_X_join 51 = .ok (.iload_n 1, 1) := by decide +kernel
theorem xd_X_join_52 : decode xb_X_join 52 = .ok (.ireturn, 1) := by decide +kernel
theorem xd_X_told_0 : decode xb_X_told 0 = .ok (.iload_n 1, 1) := by decide +kernel
theorem xd_X_told_1 : decode xb_X_told 1 = .ok (.tableswitch 69 0 4 #[35, 43, 51, 59, 64], 35) := by decide +kernel
theorem xd_X_told_36 : decode xb_X_told 36 = .ok (.aload_n 0, 1) := by decide +kernel
theorem xd_X_told_37 : decode xb_X_told 37 = .ok (.getfield 10, 3) := by decide +kernel
theorem xd_X_told_40 : decode xb_X_told 40 = .ok (.invokevirtual 148, 3) := by decide +kernel
theorem xd_X_told_43 : decode xb_X_told 43 = .ok (.ireturn, 1) := by decide +kernel
theorem xd_X_told_44 : decode xb_X_told 44 = .ok (.aload_n 0, 1) := by decide +kernel
theorem xd_X_told_45 : decode xb_X_told 45 = .ok (.getfield 19, 3) := by decide +kernel
theorem xd_X_told_48 : decode xb_X_told 48 = .ok (.invokevirtual 151, 3) := by decide +kernel
theorem xd_X_told_51 : decode xb_X_told 51 = .ok (.ireturn, 1) := by decide +kernel
theorem xd_X_told_52 : decode xb_X_told 52 = .ok (.aload_n 0, 1) := by decide +kernel
theorem xd_X_told_53 : decode xb_X_told 53 = .ok (.getfield 38, 3) := by decide +kernel
theorem xd_X_told_56 : decode xb_X_told 56 = .ok (.invokevirtual 154, 3) := by decide +kernel
theorem xd_X_told_59 : decode xb_X_told 59 = .ok (.ireturn, 1) := by decide +kernel
theorem xd_X_told_60 : decode xb_X_told 60 = .ok (.aload_n 0, 1) := by decide +kernel
theorem xd_X_told_61 : decode xb_X_told 61 = .ok (.getfield 71, 3) := by decide +kernel
theorem xd_X_told_64 : decode xb_X_told 64 = .ok (.ireturn, 1) := by decide +kernel
theorem xd_X_told_65 : decode xb_X_told 65 = .ok (.aload_n 0, 1) := by decide +kernel
theorem xd_X_told_66 : decode xb_X_told 66 = .ok (.getfield 77, 3) := by decide +kernel
theorem xd_X_told_69 : decode xb_X_told 69 = .ok (.ireturn, 1) := by decide +kernel
theorem xd_X_told_70 : decode xb_X_told 70 = .ok (.iconst (-1), 1) := by decide +kernel
theorem xd_X_told_71 : decode xb_X_told 71 = .ok (.ireturn, 1) := by decide +kernel
theorem xd_Te_length_0 : decode xb_Te_length 0 = .ok (.aload_n 0, 1) := by decide +kernel
theorem xd_Te_length_1 : decode xb_Te_length 1 = .ok (.getfield 15, 3) := by decide +kernel
theorem xd_Te_length_4 : decode xb_Te_length 4 = .ok (.ireturn, 1) := by decide +kernel
theorem xd_Hi_count_0 : decode xb_Hi_count 0 = .ok (.aload_n 0, 1) := by decide +kernel
theorem xd_Hi_count_1 : decode xb_Hi_count 1 = .ok (.getfield 17, 3) := by decide +kernel
theorem xd_Hi_count_4 : decode xb_Hi_count 4 = .ok (.ireturn, 1) := by decide +kernel
theorem xd_X_changed_0 : decode xb_X_changed 0 = .ok (.iload_n 1, 1) := by decide +kernel
theorem xd_X_changed_1 : decode xb_X_changed 1 = .ok (.ifCond .lt 20, 3) := by decide +kernel
theorem xd_X_changed_4 : decode xb_X_changed 4 = .ok (.iload_n 1, 1) := by decide +kernel
theorem xd_X_changed_5 : decode xb_X_changed 5 = .ok (.aload_n 0, 1) := by decide +kernel
theorem xd_X_changed_6 : decode xb_X_changed 6 = .ok (.getfield 89, 3) := by decide +kernel
theorem xd_X_changed_9 : decode xb_X_changed 9 = .ok (.if_icmp .ge 12, 3) := by decide +kernel
theorem xd_X_changed_12 : decode xb_X_changed 12 = .ok (.iload_n 1, 1) := by decide +kernel
theorem xd_X_changed_13 : decode xb_X_changed 13 = .ok (.aload_n 0, 1) := by decide +kernel
theorem xd_X_changed_14 : decode xb_X_changed 14 = .ok (.getfield 49, 3) := by decide +kernel
theorem xd_X_changed_17 : decode xb_X_changed 17 = .ok (.arraylength, 1) := by decide +kernel
theorem xd_X_changed_18 : decode xb_X_changed 18 = .ok (.if_icmp .lt 13, 3) := by decide +kernel
theorem xd_X_changed_21 : decode xb_X_changed 21 = .ok (.new 92, 3) := by decide +kernel
theorem xd_X_changed_24 : decode xb_X_changed 24 = .ok (.dup, 1) := by decide +kernel
theorem xd_X_changed_25 : decode xb_X_changed 25 = .ok (.ldc 94, 2) := by decide +kernel
theorem xd_X_changed_27 : decode xb_X_changed 27 = .ok (.invokespecial 96, 3) := by decide +kernel
theorem xd_X_changed_30 : decode xb_X_changed 30 = .ok (.athrow, 1) := by decide +kernel
theorem xd_X_changed_31 : decode xb_X_changed 31 = .ok (.aload_n 0, 1) := by decide +kernel
theorem xd_X_changed_32 : decode xb_X_changed 32 = .ok (.getfield 49, 3) := by decide +kernel
theorem xd_X_changed_35 : decode xb_X_changed 35 = .ok (.iload_n 1, 1) := by decide +kernel
theorem xd_X_changed_36 : decode xb_X_changed 36 = .ok (.iaload, 1) := by decide +kernel
theorem xd_X_changed_37 : decode xb_X_changed 37 = .ok (.ireturn, 1) := by decide +kernel
theorem xd_X_reached_0 : decode xb_X_reached 0 = .ok (.iload_n 1, 1) := by decide +kernel
theorem xd_X_reached_1 : decode xb_X_reached 1 = .ok (.invokestatic 120, 3) := by decide +kernel
theorem xd_X_reached_4 : decode xb_X_reached 4 = .ok (.aload_n 0, 1) := by decide +kernel
theorem xd_X_reached_5 : decode xb_X_reached 5 = .ok (.getfield 45, 3) := by decide +kernel
theorem xd_X_reached_8 : decode xb_X_reached 8 = .ok (.aload_n 0, 1) := by decide +kernel
theorem xd_X_reached_9 : decode xb_X_reached 9 = .ok (.getfield 19, 3) := by decide +kernel
theorem xd_X_reached_12 : decode xb_X_reached 12 = .ok (.invokevirtual 103, 3) := by decide +kernel
theorem xd_X_reached_15 : decode xb_X_reached 15 = .ok (.aload_n 0, 1) := by decide +kernel
theorem xd_X_reached_16 : decode xb_X_reached 16 = .ok (.getfield 45, 3) := by decide +kernel
theorem xd_X_reached_19 : decode xb_X_reached 19 = .ok (.iload_n 1, 1) := by decide +kernel
theorem xd_X_reached_20 : decode xb_X_reached 20 = .ok (.invokevirtual 109, 3) := by decide +kernel
theorem xd_X_reached_23 : decode xb_X_reached 23 = .ok (.ireturn, 1) := by decide +kernel
theorem xd_X_requireObject_0 : decode xb_X_requireObject 0 = .ok (.iload_n 0, 1) := by decide +kernel
theorem xd_X_requireObject_1 : decode xb_X_requireObject 1 = .ok (.invokestatic 161, 3) := by decide +kernel
theorem xd_X_requireObject_4 : decode xb_X_requireObject 4 = .ok (.ifCond .ne 13, 3) := by decide +kernel
theorem xd_X_requireObject_7 : decode xb_X_requireObject 7 = .ok (.new 92, 3) := by decide +kernel
theorem xd_X_requireObject_10 : decode xb_X_requireObject 10 = .ok (.dup, 1) := by decide +kernel
theorem xd_X_requireObject_11 : decode xb_X_requireObject 11 = .ok (.ldc 164, 2) := by decide +kernel
theorem xd_X_requireObject_13 : decode xb_X_requireObject 13 = .ok (.invokespecial 96, 3) := by decide +kernel
theorem xd_X_requireObject_16 : decode xb_X_requireObject 16 = .ok (.athrow, 1) := by decide +kernel
theorem xd_X_requireObject_17 : decode xb_X_requireObject 17 = .ok (.return_, 1) := by decide +kernel
theorem xd_X_kind_0 : decode xb_X_kind 0 = .ok (.iload_n 1, 1) := by decide +kernel
theorem xd_X_kind_1 : decode xb_X_kind 1 = .ok (.invokestatic 120, 3) := by decide +kernel
theorem xd_X_kind_4 : decode xb_X_kind 4 = .ok (.iload_n 2, 1) := by decide +kernel
theorem xd_X_kind_5 : decode xb_X_kind 5 = .ok (.invokestatic 123, 3) := by decide +kernel
theorem xd_X_kind_8 : decode xb_X_kind 8 = .ok (.aload_n 0, 1) := by decide +kernel
theorem xd_X_kind_9 : decode xb_X_kind 9 = .ok (.getfield 19, 3) := by decide +kernel
theorem xd_X_kind_12 : decode xb_X_kind 12 = .ok (.iload_n 1, 1) := by decide +kernel
theorem xd_X_kind_13 : decode xb_X_kind 13 = .ok (.iload_n 2, 1) := by decide +kernel
theorem xd_X_kind_14 : decode xb_X_kind 14 = .ok (.invokevirtual 126, 3) := by decide +kernel
theorem xd_X_kind_17 : decode xb_X_kind 17 = .ok (.invokestatic 130, 3) := by decide +kernel
theorem xd_X_kind_20 : decode xb_X_kind 20 = .ok (.ireturn, 1) := by decide +kernel
theorem xd_X_requireKey_0 : decode xb_X_requireKey 0 = .ok (.iload_n 0, 1) := by decide +kernel
theorem xd_X_requireKey_1 : decode xb_X_requireKey 1 = .ok (.invokestatic 166, 3) := by decide +kernel
theorem xd_X_requireKey_4 : decode xb_X_requireKey 4 = .ok (.ifCond .ne 13, 3) := by decide +kernel
theorem xd_X_requireKey_7 : decode xb_X_requireKey 7 = .ok (.new 92, 3) := by decide +kernel
theorem xd_X_requireKey_10 : decode xb_X_requireKey 10 = .ok (.dup, 1) := by decide +kernel
theorem xd_X_requireKey_11 : decode xb_X_requireKey 11 = .ok (.ldc 169, 2) := by decide +kernel
theorem xd_X_requireKey_13 : decode xb_X_requireKey 13 = .ok (.invokespecial 96, 3) := by decide +kernel
theorem xd_X_requireKey_16 : decode xb_X_requireKey 16 = .ok (.athrow, 1) := by decide +kernel
theorem xd_X_requireKey_17 : decode xb_X_requireKey 17 = .ok (.return_, 1) := by decide +kernel
theorem xd_X_value_0 : decode xb_X_value 0 = .ok (.iload_n 1, 1) := by decide +kernel
theorem xd_X_value_1 : decode xb_X_value 1 = .ok (.invokestatic 120, 3) := by decide +kernel
theorem xd_X_value_4 : decode xb_X_value 4 = .ok (.iload_n 2, 1) := by decide +kernel
theorem xd_X_value_5 : decode xb_X_value 5 = .ok (.invokestatic 123, 3) := by decide +kernel
theorem xd_X_value_8 : decode xb_X_value 8 = .ok (.aload_n 0, 1) := by decide +kernel
theorem xd_X_value_9 : decode xb_X_value 9 = .ok (.getfield 19, 3) := by decide +kernel
theorem xd_X_value_12 : decode xb_X_value 12 = .ok (.iload_n 1, 1) := by decide +kernel
theorem xd_X_value_13 : decode xb_X_value 13 = .ok (.iload_n 2, 1) := by decide +kernel
theorem xd_X_value_14 : decode xb_X_value 14 = .ok (.invokevirtual 126, 3) := by decide +kernel
theorem xd_X_value_17 : decode xb_X_value 17 = .ok (.invokestatic 134, 3) := by decide +kernel
theorem xd_X_value_20 : decode xb_X_value 20 = .ok (.ireturn, 1) := by decide +kernel
theorem xd_X_object_0 : decode xb_X_object 0 = .ok (.iload_n 1, 1) := by decide +kernel
theorem xd_X_object_1 : decode xb_X_object 1 = .ok (.invokestatic 120, 3) := by decide +kernel
theorem xd_X_object_4 : decode xb_X_object 4 = .ok (.iload_n 2, 1) := by decide +kernel
theorem xd_X_object_5 : decode xb_X_object 5 = .ok (.tableswitch 83 0 3 #[31, 48, 65, 74], 31) := by decide +kernel
theorem xd_X_object_36 : decode xb_X_object 36 = .ok (.aload_n 0, 1) := by decide +kernel
theorem xd_X_object_37 : decode xb_X_object 37 = .ok (.getfield 19, 3) := by decide +kernel
theorem xd_X_object_40 : decode xb_X_object 40 = .ok (.iload_n 1, 1) := by decide +kernel
theorem xd_X_object_41 : decode xb_X_object 41 = .ok (.invokevirtual 106, 3) := by decide +kernel
theorem xd_X_object_44 : decode xb_X_object 44 = .ok (.ifCond .eq 7, 3) := by decide +kernel
theorem xd_X_object_47 : decode xb_X_object 47 = .ok (.iconst 1, 1) := by decide +kernel
theorem xd_X_object_48 : decode xb_X_object 48 = .ok (.goto 4, 3) := by decide +kernel
theorem xd_X_object_51 : decode xb_X_object 51 = .ok (.iconst 0, 1) := by decide +kernel
theorem xd_X_object_52 : decode xb_X_object 52 = .ok (.ireturn, 1) := by decide +kernel
theorem xd_X_object_53 : decode xb_X_object 53 = .ok (.aload_n 0, 1) := by decide +kernel
theorem xd_X_object_54 : decode xb_X_object 54 = .ok (.getfield 19, 3) := by decide +kernel
theorem xd_X_object_57 : decode xb_X_object 57 = .ok (.iload_n 1, 1) := by decide +kernel
theorem xd_X_object_58 : decode xb_X_object 58 = .ok (.invokevirtual 137, 3) := by decide +kernel
theorem xd_X_object_61 : decode xb_X_object 61 = .ok (.ifCond .eq 7, 3) := by decide +kernel
theorem xd_X_object_64 : decode xb_X_object 64 = .ok (.iconst 1, 1) := by decide +kernel
theorem xd_X_object_65 : decode xb_X_object 65 = .ok (.goto 4, 3) := by decide +kernel
theorem xd_X_object_68 : decode xb_X_object 68 = .ok (.iconst 0, 1) := by decide +kernel
theorem xd_X_object_69 : decode xb_X_object 69 = .ok (.ireturn, 1) := by decide +kernel
theorem xd_X_object_70 : decode xb_X_object 70 = .ok (.aload_n 0, 1) := by decide +kernel
theorem xd_X_object_71 : decode xb_X_object 71 = .ok (.getfield 19, 3) := by decide +kernel
theorem xd_X_object_74 : decode xb_X_object 74 = .ok (.iload_n 1, 1) := by decide +kernel
theorem xd_X_object_75 : decode xb_X_object 75 = .ok (.invokevirtual 140, 3) := by decide +kernel
theorem xd_X_object_78 : decode xb_X_object 78 = .ok (.ireturn, 1) := by decide +kernel
theorem xd_X_object_79 : decode xb_X_object 79 = .ok (.aload_n 0, 1) := by decide +kernel
theorem xd_X_object_80 : decode xb_X_object 80 = .ok (.getfield 19, 3) := by decide +kernel
theorem xd_X_object_83 : decode xb_X_object 83 = .ok (.iload_n 1, 1) := by decide +kernel
theorem xd_X_object_84 : decode xb_X_object 84 = .ok (.invokevirtual 143, 3) := by decide +kernel
theorem xd_X_object_87 : decode xb_X_object 87 = .ok (.ireturn, 1) := by decide +kernel
theorem xd_X_object_88 : decode xb_X_object 88 = .ok (.new 92, 3) := by decide +kernel
theorem xd_X_object_91 : decode xb_X_object 91 = .ok (.dup, 1) := by decide +kernel
theorem xd_X_object_92 : decode xb_X_object 92 = .ok (.ldc 146, 2) := by decide +kernel
theorem xd_X_object_94 : decode xb_X_object 94 = .ok (.invokespecial 96, 3) := by decide +kernel
theorem xd_X_object_97 : decode xb_X_object 97 = .ok (.athrow, 1) := by decide +kernel
