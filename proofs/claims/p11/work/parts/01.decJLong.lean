theorem d_JLong_bitCount_JI_0 : decode b_JLong_bitCount_JI 0 = .ok ((.lload_n 0), 1) := by decide +kernel
theorem d_JLong_bitCount_JI_1 : decode b_JLong_bitCount_JI 1 = .ok ((.lload_n 0), 1) := by decide +kernel
theorem d_JLong_bitCount_JI_2 : decode b_JLong_bitCount_JI 2 = .ok ((.iconst 1), 1) := by decide +kernel
theorem d_JLong_bitCount_JI_3 : decode b_JLong_bitCount_JI 3 = .ok (.lushr, 1) := by decide +kernel
theorem d_JLong_bitCount_JI_4 : decode b_JLong_bitCount_JI 4 = .ok ((.ldc2_w 314), 3) := by decide +kernel
theorem d_JLong_bitCount_JI_7 : decode b_JLong_bitCount_JI 7 = .ok (.land, 1) := by decide +kernel
theorem d_JLong_bitCount_JI_8 : decode b_JLong_bitCount_JI 8 = .ok (.lsub, 1) := by decide +kernel
theorem d_JLong_bitCount_JI_9 : decode b_JLong_bitCount_JI 9 = .ok ((.lstore_n 0), 1) := by decide +kernel
theorem d_JLong_bitCount_JI_10 : decode b_JLong_bitCount_JI 10 = .ok ((.lload_n 0), 1) := by decide +kernel
theorem d_JLong_bitCount_JI_11 : decode b_JLong_bitCount_JI 11 = .ok ((.ldc2_w 316), 3) := by decide +kernel
theorem d_JLong_bitCount_JI_14 : decode b_JLong_bitCount_JI 14 = .ok (.land, 1) := by decide +kernel
theorem d_JLong_bitCount_JI_15 : decode b_JLong_bitCount_JI 15 = .ok ((.lload_n 0), 1) := by decide +kernel
theorem d_JLong_bitCount_JI_16 : decode b_JLong_bitCount_JI 16 = .ok ((.iconst 2), 1) := by decide +kernel
theorem d_JLong_bitCount_JI_17 : decode b_JLong_bitCount_JI 17 = .ok (.lushr, 1) := by decide +kernel
theorem d_JLong_bitCount_JI_18 : decode b_JLong_bitCount_JI 18 = .ok ((.ldc2_w 316), 3) := by decide +kernel
theorem d_JLong_bitCount_JI_21 : decode b_JLong_bitCount_JI 21 = .ok (.land, 1) := by decide +kernel
theorem d_JLong_bitCount_JI_22 : decode b_JLong_bitCount_JI 22 = .ok (.ladd, 1) := by decide +kernel
theorem d_JLong_bitCount_JI_23 : decode b_JLong_bitCount_JI 23 = .ok ((.lstore_n 0), 1) := by decide +kernel
theorem d_JLong_bitCount_JI_24 : decode b_JLong_bitCount_JI 24 = .ok ((.lload_n 0), 1) := by decide +kernel
theorem d_JLong_bitCount_JI_25 : decode b_JLong_bitCount_JI 25 = .ok ((.lload_n 0), 1) := by decide +kernel
theorem d_JLong_bitCount_JI_26 : decode b_JLong_bitCount_JI 26 = .ok ((.iconst 4), 1) := by decide +kernel
theorem d_JLong_bitCount_JI_27 : decode b_JLong_bitCount_JI 27 = .ok (.lushr, 1) := by decide +kernel
theorem d_JLong_bitCount_JI_28 : decode b_JLong_bitCount_JI 28 = .ok (.ladd, 1) := by decide +kernel
theorem d_JLong_bitCount_JI_29 : decode b_JLong_bitCount_JI 29 = .ok ((.ldc2_w 318), 3) := by decide +kernel
theorem d_JLong_bitCount_JI_32 : decode b_JLong_bitCount_JI 32 = .ok (.land, 1) := by decide +kernel
theorem d_JLong_bitCount_JI_33 : decode b_JLong_bitCount_JI 33 = .ok ((.lstore_n 0), 1) := by decide +kernel
theorem d_JLong_bitCount_JI_34 : decode b_JLong_bitCount_JI 34 = .ok ((.lload_n 0), 1) := by decide +kernel
theorem d_JLong_bitCount_JI_35 : decode b_JLong_bitCount_JI 35 = .ok ((.lload_n 0), 1) := by decide +kernel
theorem d_JLong_bitCount_JI_36 : decode b_JLong_bitCount_JI 36 = .ok ((.bipush 8), 2) := by decide +kernel
theorem d_JLong_bitCount_JI_38 : decode b_JLong_bitCount_JI 38 = .ok (.lushr, 1) := by decide +kernel
theorem d_JLong_bitCount_JI_39 : decode b_JLong_bitCount_JI 39 = .ok (.ladd, 1) := by decide +kernel
theorem d_JLong_bitCount_JI_40 : decode b_JLong_bitCount_JI 40 = .ok ((.lstore_n 0), 1) := by decide +kernel
theorem d_JLong_bitCount_JI_41 : decode b_JLong_bitCount_JI 41 = .ok ((.lload_n 0), 1) := by decide +kernel
theorem d_JLong_bitCount_JI_42 : decode b_JLong_bitCount_JI 42 = .ok ((.lload_n 0), 1) := by decide +kernel
theorem d_JLong_bitCount_JI_43 : decode b_JLong_bitCount_JI 43 = .ok ((.bipush 16), 2) := by decide +kernel
theorem d_JLong_bitCount_JI_45 : decode b_JLong_bitCount_JI 45 = .ok (.lushr, 1) := by decide +kernel
theorem d_JLong_bitCount_JI_46 : decode b_JLong_bitCount_JI 46 = .ok (.ladd, 1) := by decide +kernel
theorem d_JLong_bitCount_JI_47 : decode b_JLong_bitCount_JI 47 = .ok ((.lstore_n 0), 1) := by decide +kernel
theorem d_JLong_bitCount_JI_48 : decode b_JLong_bitCount_JI 48 = .ok ((.lload_n 0), 1) := by decide +kernel
theorem d_JLong_bitCount_JI_49 : decode b_JLong_bitCount_JI 49 = .ok ((.lload_n 0), 1) := by decide +kernel
theorem d_JLong_bitCount_JI_50 : decode b_JLong_bitCount_JI 50 = .ok ((.bipush 32), 2) := by decide +kernel
theorem d_JLong_bitCount_JI_52 : decode b_JLong_bitCount_JI 52 = .ok (.lushr, 1) := by decide +kernel
theorem d_JLong_bitCount_JI_53 : decode b_JLong_bitCount_JI 53 = .ok (.ladd, 1) := by decide +kernel
theorem d_JLong_bitCount_JI_54 : decode b_JLong_bitCount_JI 54 = .ok ((.lstore_n 0), 1) := by decide +kernel
theorem d_JLong_bitCount_JI_55 : decode b_JLong_bitCount_JI 55 = .ok ((.lload_n 0), 1) := by decide +kernel
theorem d_JLong_bitCount_JI_56 : decode b_JLong_bitCount_JI 56 = .ok (.l2i, 1) := by decide +kernel
theorem d_JLong_bitCount_JI_57 : decode b_JLong_bitCount_JI 57 = .ok ((.bipush 127), 2) := by decide +kernel
theorem d_JLong_bitCount_JI_59 : decode b_JLong_bitCount_JI 59 = .ok (.iand, 1) := by decide +kernel
theorem d_JLong_bitCount_JI_60 : decode b_JLong_bitCount_JI 60 = .ok (.ireturn, 1) := by decide +kernel
