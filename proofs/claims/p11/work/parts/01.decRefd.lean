theorem d_Ref_clear_16 : decode b_Ref_clear 16 = .ok ((.iconst 0), 1) := by decide +kernel
theorem d_Ref_clear_17 : decode b_Ref_clear 17 = .ok ((.putfield 110), 3) := by decide +kernel
theorem d_Ref_clear_20 : decode b_Ref_clear 20 = .ok ((.aload_n 0), 1) := by decide +kernel
theorem d_Ref_clear_21 : decode b_Ref_clear 21 = .ok ((.iconst 0), 1) := by decide +kernel
theorem d_Ref_clear_22 : decode b_Ref_clear 22 = .ok ((.putfield 117), 3) := by decide +kernel
theorem d_Ref_clear_25 : decode b_Ref_clear 25 = .ok (.return_, 1) := by decide +kernel
