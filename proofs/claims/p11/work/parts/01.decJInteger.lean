theorem d_JInteger_bitCount_II_0 : decode b_JInteger_bitCount_II 0 = .ok ((.iload_n 0), 1) := by decide +kernel
theorem d_JInteger_bitCount_II_1 : decode b_JInteger_bitCount_II 1 = .ok ((.iload_n 0), 1) := by decide +kernel
theorem d_JInteger_bitCount_II_2 : decode b_JInteger_bitCount_II 2 = .ok ((.iconst 1), 1) := by decide +kernel
theorem d_JInteger_bitCount_II_3 : decode b_JInteger_bitCount_II 3 = .ok (.iushr, 1) := by decide +kernel
theorem d_JInteger_bitCount_II_4 : decode b_JInteger_bitCount_II 4 = .ok ((.ldc_w 265), 3) := by decide +kernel
theorem d_JInteger_bitCount_II_7 : decode b_JInteger_bitCount_II 7 = .ok (.iand, 1) := by decide +kernel
theorem d_JInteger_bitCount_II_8 : decode b_JInteger_bitCount_II 8 = .ok (.isub, 1) := by decide +kernel
theorem d_JInteger_bitCount_II_9 : decode b_JInteger_bitCount_II 9 = .ok ((.istore_n 0), 1) := by decide +kernel
theorem d_JInteger_bitCount_II_10 : decode b_JInteger_bitCount_II 10 = .ok ((.iload_n 0), 1) := by decide +kernel
theorem d_JInteger_bitCount_II_11 : decode b_JInteger_bitCount_II 11 = .ok ((.ldc_w 266), 3) := by decide +kernel
theorem d_JInteger_bitCount_II_14 : decode b_JInteger_bitCount_II 14 = .ok (.iand, 1) := by decide +kernel
theorem d_JInteger_bitCount_II_15 : decode b_JInteger_bitCount_II 15 = .ok ((.iload_n 0), 1) := by decide +kernel
theorem d_JInteger_bitCount_II_16 : decode b_JInteger_bitCount_II 16 = .ok ((.iconst 2), 1) := by decide +kernel
theorem d_JInteger_bitCount_II_17 : decode b_JInteger_bitCount_II 17 = .ok (.iushr, 1) := by decide +kernel
theorem d_JInteger_bitCount_II_18 : decode b_JInteger_bitCount_II 18 = .ok ((.ldc_w 266), 3) := by decide +kernel
theorem d_JInteger_bitCount_II_21 : decode b_JInteger_bitCount_II 21 = .ok (.iand, 1) := by decide +kernel
theorem d_JInteger_bitCount_II_22 : decode b_JInteger_bitCount_II 22 = .ok (.iadd, 1) := by decide +kernel
theorem d_JInteger_bitCount_II_23 : decode b_JInteger_bitCount_II 23 = .ok ((.istore_n 0), 1) := by decide +kernel
theorem d_JInteger_bitCount_II_24 : decode b_JInteger_bitCount_II 24 = .ok ((.iload_n 0), 1) := by decide +kernel
theorem d_JInteger_bitCount_II_25 : decode b_JInteger_bitCount_II 25 = .ok ((.iload_n 0), 1) := by decide +kernel
theorem d_JInteger_bitCount_II_26 : decode b_JInteger_bitCount_II 26 = .ok ((.iconst 4), 1) := by decide +kernel
theorem d_JInteger_bitCount_II_27 : decode b_JInteger_bitCount_II 27 = .ok (.iushr, 1) := by decide +kernel
theorem d_JInteger_bitCount_II_28 : decode b_JInteger_bitCount_II 28 = .ok (.iadd, 1) := by decide +kernel
theorem d_JInteger_bitCount_II_29 : decode b_JInteger_bitCount_II 29 = .ok ((.ldc_w 267), 3) := by decide +kernel
theorem d_JInteger_bitCount_II_32 : decode b_JInteger_bitCount_II 32 = .ok (.iand, 1) := by decide +kernel
theorem d_JInteger_bitCount_II_33 : decode b_JInteger_bitCount_II 33 = .ok ((.istore_n 0), 1) := by decide +kernel
theorem d_JInteger_bitCount_II_34 : decode b_JInteger_bitCount_II 34 = .ok ((.iload_n 0), 1) := by decide +kernel
theorem d_JInteger_bitCount_II_35 : decode b_JInteger_bitCount_II 35 = .ok ((.iload_n 0), 1) := by decide +kernel
theorem d_JInteger_bitCount_II_36 : decode b_JInteger_bitCount_II 36 = .ok ((.bipush 8), 2) := by decide +kernel
theorem d_JInteger_bitCount_II_38 : decode b_JInteger_bitCount_II 38 = .ok (.iushr, 1) := by decide +kernel
theorem d_JInteger_bitCount_II_39 : decode b_JInteger_bitCount_II 39 = .ok (.iadd, 1) := by decide +kernel
theorem d_JInteger_bitCount_II_40 : decode b_JInteger_bitCount_II 40 = .ok ((.istore_n 0), 1) := by decide +kernel
theorem d_JInteger_bitCount_II_41 : decode b_JInteger_bitCount_II 41 = .ok ((.iload_n 0), 1) := by decide +kernel
theorem d_JInteger_bitCount_II_42 : decode b_JInteger_bitCount_II 42 = .ok ((.iload_n 0), 1) := by decide +kernel
theorem d_JInteger_bitCount_II_43 : decode b_JInteger_bitCount_II 43 = .ok ((.bipush 16), 2) := by decide +kernel
theorem d_JInteger_bitCount_II_45 : decode b_JInteger_bitCount_II 45 = .ok (.iushr, 1) := by decide +kernel
theorem d_JInteger_bitCount_II_46 : decode b_JInteger_bitCount_II 46 = .ok (.iadd, 1) := by decide +kernel
theorem d_JInteger_bitCount_II_47 : decode b_JInteger_bitCount_II 47 = .ok ((.istore_n 0), 1) := by decide +kernel
theorem d_JInteger_bitCount_II_48 : decode b_JInteger_bitCount_II 48 = .ok ((.iload_n 0), 1) := by decide +kernel
theorem d_JInteger_bitCount_II_49 : decode b_JInteger_bitCount_II 49 = .ok ((.bipush 63), 2) := by decide +kernel
theorem d_JInteger_bitCount_II_51 : decode b_JInteger_bitCount_II 51 = .ok (.iand, 1) := by decide +kernel
theorem d_JInteger_bitCount_II_52 : decode b_JInteger_bitCount_II 52 = .ok (.ireturn, 1) := by decide +kernel
