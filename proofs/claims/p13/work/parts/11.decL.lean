theorem xd_La_changed_0 : decode xb_La_changed 0 = .ok (.aload_n 2, 1) := by decide +kernel
theorem xd_La_changed_1 : decode xb_La_changed 1 = .ok (.iconst 0, 1) := by decide +kernel
theorem xd_La_changed_2 : decode xb_La_changed 2 = .ok (.aload_n 0, 1) := by decide +kernel
theorem xd_La_changed_3 : decode xb_La_changed 3 = .ok (.iload_n 1, 1) := by decide +kernel
theorem xd_La_changed_4 : decode xb_La_changed 4 = .ok (.invokevirtual 7, 3) := by decide +kernel
theorem xd_La_changed_7 : decode xb_La_changed 7 = .ok (.i2l, 1) := by decide +kernel
theorem xd_La_changed_8 : decode xb_La_changed 8 = .ok (.lastore, 1) := by decide +kernel
theorem xd_La_changed_9 : decode xb_La_changed 9 = .ok (.goto 6, 3) := by decide +kernel
theorem xd_La_changed_12 : decode xb_La_changed 12 = .ok (.astore_n 3, 1) := by decide +kernel
theorem xd_La_changed_13 : decode xb_La_changed 13 = .ok (.iconst 1, 1) := by decide +kernel
theorem xd_La_changed_14 : decode xb_La_changed 14 = .ok (.ireturn, 1) := by decide +kernel
theorem xd_La_changed_15 : decode xb_La_changed 15 = .ok (.iconst 0, 1) := by decide +kernel
theorem xd_La_changed_16 : decode xb_La_changed 16 = .ok (.ireturn, 1) := by decide +kernel
theorem xd_La_reached_0 : decode xb_La_reached 0 = .ok (.aload_n 2, 1) := by decide +kernel
theorem xd_La_reached_1 : decode xb_La_reached 1 = .ok (.iconst 0, 1) := by decide +kernel
theorem xd_La_reached_2 : decode xb_La_reached 2 = .ok (.aload_n 0, 1) := by decide +kernel
theorem xd_La_reached_3 : decode xb_La_reached 3 = .ok (.iload_n 1, 1) := by decide +kernel
theorem xd_La_reached_4 : decode xb_La_reached 4 = .ok (.invokevirtual 15, 3) := by decide +kernel
theorem xd_La_reached_7 : decode xb_La_reached 7 = .ok (.ifCond .eq 7, 3) := by decide +kernel
theorem xd_La_reached_10 : decode xb_La_reached 10 = .ok (.lconst 1, 1) := by decide +kernel
theorem xd_La_reached_11 : decode xb_La_reached 11 = .ok (.goto 4, 3) := by decide +kernel
theorem xd_La_reached_14 : decode xb_La_reached 14 = .ok (.lconst 0, 1) := by decide +kernel
theorem xd_La_reached_15 : decode xb_La_reached 15 = .ok (.lastore, 1) := by decide +kernel
theorem xd_La_reached_16 : decode xb_La_reached 16 = .ok (.goto 6, 3) := by decide +kernel
theorem xd_La_reached_19 : decode xb_La_reached 19 = .ok (.astore_n 3, 1) := by decide +kernel
theorem xd_La_reached_20 : decode xb_La_reached 20 = .ok (.iconst 1, 1) := by decide +kernel
theorem xd_La_reached_21 : decode xb_La_reached 21 = .ok (.ireturn, 1) := by decide +kernel
theorem xd_La_reached_22 : decode xb_La_reached 22 = .ok (.iconst 0, 1) := by decide +kernel
theorem xd_La_reached_23 : decode xb_La_reached 23 = .ok (.ireturn, 1) := by decide +kernel
theorem xd_La_kind_0 : decode xb_La_kind 0 = .ok (.aload_n 3, 1) := by decide +kernel
theorem xd_La_kind_1 : decode xb_La_kind 1 = .ok (.iconst 0, 1) := by decide +kernel
theorem xd_La_kind_2 : decode xb_La_kind 2 = .ok (.aload_n 0, 1) := by decide +kernel
theorem xd_La_kind_3 : decode xb_La_kind 3 = .ok (.iload_n 1, 1) := by decide +kernel
theorem xd_La_kind_4 : decode xb_La_kind 4 = .ok (.iload_n 2, 1) := by decide +kernel
theorem xd_La_kind_5 : decode xb_La_kind 5 = .ok (.invokevirtual 19, 3) := by decide +kernel
theorem xd_La_kind_8 : decode xb_La_kind 8 = .ok (.i2l, 1) := by decide +kernel
theorem xd_La_kind_9 : decode xb_La_kind 9 = .ok (.lastore, 1) := by decide +kernel
theorem xd_La_kind_10 : decode xb_La_kind 10 = .ok (.goto 7, 3) := by decide +kernel
theorem xd_La_kind_13 : decode xb_La_kind 13 = .ok (.astore 4, 2) := by decide +kernel
theorem xd_La_kind_15 : decode xb_La_kind 15 = .ok (.iconst 1, 1) := by decide +kernel
theorem xd_La_kind_16 : decode xb_La_kind 16 = .ok (.ireturn, 1) := by decide +kernel
theorem xd_La_kind_17 : decode xb_La_kind 17 = .ok (.iconst 0, 1) := by decide +kernel
theorem xd_La_kind_18 : decode xb_La_kind 18 = .ok (.ireturn, 1) := by decide +kernel
theorem xd_La_value_0 : decode xb_La_value 0 = .ok (.aload_n 3, 1) := by decide +kernel
theorem xd_La_value_1 : decode xb_La_value 1 = .ok (.iconst 0, 1) := by decide +kernel
theorem xd_La_value_2 : decode xb_La_value 2 = .ok (.aload_n 0, 1) := by decide +kernel
theorem xd_La_value_3 : decode xb_La_value 3 = .ok (.iload_n 1, 1) := by decide +kernel
theorem xd_La_value_4 : decode xb_La_value 4 = .ok (.iload_n 2, 1) := by decide +kernel
theorem xd_La_value_5 : decode xb_La_value 5 = .ok (.invokevirtual 23, 3) := by decide +kernel
theorem xd_La_value_8 : decode xb_La_value 8 = .ok (.i2l, 1) := by decide +kernel
theorem xd_La_value_9 : decode xb_La_value 9 = .ok (.lastore, 1) := by decide +kernel
theorem xd_La_value_10 : decode xb_La_value 10 = .ok (.goto 7, 3) := by decide +kernel
theorem xd_La_value_13 : decode xb_La_value 13 = .ok (.astore 4, 2) := by decide +kernel
theorem xd_La_value_15 : decode xb_La_value 15 = .ok (.iconst 1, 1) := by decide +kernel
theorem xd_La_value_16 : decode xb_La_value 16 = .ok (.ireturn, 1) := by decide +kernel
theorem xd_La_value_17 : decode xb_La_value 17 = .ok (.iconst 0, 1) := by decide +kernel
theorem xd_La_value_18 : decode xb_La_value 18 = .ok (.ireturn, 1) := by decide +kernel
theorem xd_La_object_0 : decode xb_La_object 0 = .ok (.aload_n 3, 1) := by decide +kernel
theorem xd_La_object_1 : decode xb_La_object 1 = .ok (.iconst 0, 1) := by decide +kernel
theorem xd_La_object_2 : decode xb_La_object 2 = .ok (.aload_n 0, 1) := by decide +kernel
theorem xd_La_object_3 : decode xb_La_object 3 = .ok (.iload_n 1, 1) := by decide +kernel
theorem xd_La_object_4 : decode xb_La_object 4 = .ok (.iload_n 2, 1) := by decide +kernel
theorem xd_La_object_5 : decode xb_La_object 5 = .ok (.invokevirtual 26, 3) := by decide +kernel
theorem xd_La_object_8 : decode xb_La_object 8 = .ok (.i2l, 1) := by decide +kernel
theorem xd_La_object_9 : decode xb_La_object 9 = .ok (.lastore, 1) := by decide +kernel
theorem xd_La_object_10 : decode xb_La_object 10 = .ok (.goto 7, 3) := by decide +kernel
theorem xd_La_object_13 : decode xb_La_object 13 = .ok (.astore 4, 2) := by decide +kernel
theorem xd_La_object_15 : decode xb_La_object 15 = .ok (.iconst 1, 1) := by decide +kernel
theorem xd_La_object_16 : decode xb_La_object 16 = .ok (.ireturn, 1) := by decide +kernel
theorem xd_La_object_17 : decode xb_La_object 17 = .ok (.iconst 0, 1) := by decide +kernel
theorem xd_La_object_18 : decode xb_La_object 18 = .ok (.ireturn, 1) := by decide +kernel
