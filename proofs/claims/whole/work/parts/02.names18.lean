theorem dL_loudestQuiet_2 : decode cL_loudestQuiet 2 = .ok (.aload_n 0, 1) := by decide +kernel
theorem dL_loudestQuiet_3 : decode cL_loudestQuiet 3 = .ok (.iload_n 1, 1) := by decide +kernel
theorem dL_loudestQuiet_4 : decode cL_loudestQuiet 4 = .ok (.invokevirtual 79, 3) := by decide +kernel
theorem dL_loudestQuiet_7 : decode cL_loudestQuiet 7 = .ok (.i2l, 1) := by decide +kernel
theorem dL_loudestQuiet_8 : decode cL_loudestQuiet 8 = .ok (.lastore, 1) := by decide +kernel
theorem dL_loudestQuiet_9 : decode cL_loudestQuiet 9 = .ok (.goto 6, 3) := by decide +kernel
theorem dL_loudestQuiet_12 : decode cL_loudestQuiet 12 = .ok (.astore_n 3, 1) := by decide +kernel
theorem dL_loudestQuiet_13 : decode cL_loudestQuiet 13 = .ok (.iconst 1, 1) := by decide +kernel
theorem dL_loudestQuiet_14 : decode cL_loudestQuiet 14 = .ok (.ireturn, 1) := by decide +kernel
theorem dL_loudestQuiet_15 : decode cL_loudestQuiet 15 = .ok (.iconst 0, 1) := by decide +kernel
theorem dL_loudestQuiet_16 : decode cL_loudestQuiet 16 = .ok (.ireturn, 1) := by decide +kernel
