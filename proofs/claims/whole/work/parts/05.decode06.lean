theorem dL_state_8 : decode cL_state 8 = .ok (.lastore, 1) := by decide +kernel
theorem dL_state_9 : decode cL_state 9 = .ok (.goto 6, 3) := by decide +kernel
theorem dL_state_12 : decode cL_state 12 = .ok (.astore_n 3, 1) := by decide +kernel
theorem dL_state_13 : decode cL_state 13 = .ok (.iconst 1, 1) := by decide +kernel
theorem dL_state_14 : decode cL_state 14 = .ok (.ireturn, 1) := by decide +kernel
theorem dL_state_15 : decode cL_state 15 = .ok (.iconst 0, 1) := by decide +kernel
theorem dL_state_16 : decode cL_state 16 = .ok (.ireturn, 1) := by decide +kernel
theorem dL_left_0 : decode cL_left 0 = .ok (.aload_n 2, 1) := by decide +kernel
theorem dL_left_1 : decode cL_left 1 = .ok (.iconst 0, 1) := by decide +kernel
theorem dL_left_2 : decode cL_left 2 = .ok (.aload_n 0, 1) := by decide +kernel
theorem dL_left_3 : decode cL_left 3 = .ok (.iload_n 1, 1) := by decide +kernel
theorem dL_left_4 : decode cL_left 4 = .ok (.invokevirtual 63, 3) := by decide +kernel
theorem dL_left_7 : decode cL_left 7 = .ok (.i2l, 1) := by decide +kernel
theorem dL_left_8 : decode cL_left 8 = .ok (.lastore, 1) := by decide +kernel
theorem dL_left_9 : decode cL_left 9 = .ok (.goto 6, 3) := by decide +kernel
theorem dL_left_12 : decode cL_left 12 = .ok (.astore_n 3, 1) := by decide +kernel
theorem dL_left_13 : decode cL_left 13 = .ok (.iconst 1, 1) := by decide +kernel
theorem dL_left_14 : decode cL_left 14 = .ok (.ireturn, 1) := by decide +kernel
theorem dL_left_15 : decode cL_left 15 = .ok (.iconst 0, 1) := by decide +kernel
theorem dL_left_16 : decode cL_left 16 = .ok (.ireturn, 1) := by decide +kernel
