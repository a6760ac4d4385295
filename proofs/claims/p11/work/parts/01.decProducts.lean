theorem d_Products_init_0 : decode b_Products_init 0 = .ok ((.aload_n 0), 1) := by decide +kernel
theorem d_Products_init_1 : decode b_Products_init 1 = .ok ((.invokespecial 3), 3) := by decide +kernel
theorem d_Products_init_4 : decode b_Products_init 4 = .ok ((.aload_n 0), 1) := by decide +kernel
theorem d_Products_init_5 : decode b_Products_init 5 = .ok ((.bipush 81), 2) := by decide +kernel
theorem d_Products_init_7 : decode b_Products_init 7 = .ok ((.newarray .int), 2) := by decide +kernel
theorem d_Products_init_9 : decode b_Products_init 9 = .ok ((.putfield 9), 3) := by decide +kernel
theorem d_Products_init_12 : decode b_Products_init 12 = .ok ((.aload_n 0), 1) := by decide +kernel
theorem d_Products_init_13 : decode b_Products_init 13 = .ok ((.bipush 81), 2) := by decide +kernel
theorem d_Products_init_15 : decode b_Products_init 15 = .ok ((.newarray .int), 2) := by decide +kernel
theorem d_Products_init_17 : decode b_Products_init 17 = .ok ((.putfield 15), 3) := by decide +kernel
theorem d_Products_init_20 : decode b_Products_init 20 = .ok ((.aload_n 0), 1) := by decide +kernel
theorem d_Products_init_21 : decode b_Products_init 21 = .ok ((.bipush 81), 2) := by decide +kernel
theorem d_Products_init_23 : decode b_Products_init 23 = .ok ((.newarray .int), 2) := by decide +kernel
theorem d_Products_init_25 : decode b_Products_init 25 = .ok ((.putfield 18), 3) := by decide +kernel
theorem d_Products_init_28 : decode b_Products_init 28 = .ok ((.aload_n 0), 1) := by decide +kernel
theorem d_Products_init_29 : decode b_Products_init 29 = .ok ((.iload_n 1), 1) := by decide +kernel
theorem d_Products_init_30 : decode b_Products_init 30 = .ok ((.putfield 21), 3) := by decide +kernel
theorem d_Products_init_33 : decode b_Products_init 33 = .ok ((.iconst 1), 1) := by decide +kernel
theorem d_Products_init_34 : decode b_Products_init 34 = .ok ((.istore_n 2), 1) := by decide +kernel
theorem d_Products_init_35 : decode b_Products_init 35 = .ok ((.iconst 0), 1) := by decide +kernel
theorem d_Products_init_36 : decode b_Products_init 36 = .ok ((.istore_n 3), 1) := by decide +kernel
theorem d_Products_init_37 : decode b_Products_init 37 = .ok ((.iload_n 3), 1) := by decide +kernel
theorem d_Products_init_38 : decode b_Products_init 38 = .ok ((.iload_n 1), 1) := by decide +kernel
theorem d_Products_init_39 : decode b_Products_init 39 = .ok ((.if_icmp .ge 13), 3) := by decide +kernel
theorem d_Products_init_42 : decode b_Products_init 42 = .ok ((.iload_n 2), 1) := by decide +kernel
theorem d_Products_init_43 : decode b_Products_init 43 = .ok ((.iconst 3), 1) := by decide +kernel
theorem d_Products_init_44 : decode b_Products_init 44 = .ok (.imul, 1) := by decide +kernel
theorem d_Products_init_45 : decode b_Products_init 45 = .ok ((.istore_n 2), 1) := by decide +kernel
theorem d_Products_init_46 : decode b_Products_init 46 = .ok ((.iinc 3 1), 3) := by decide +kernel
theorem d_Products_init_49 : decode b_Products_init 49 = .ok ((.goto (-12)), 3) := by decide +kernel
theorem d_Products_init_52 : decode b_Products_init 52 = .ok ((.aload_n 0), 1) := by decide +kernel
theorem d_Products_init_53 : decode b_Products_init 53 = .ok ((.iload_n 2), 1) := by decide +kernel
theorem d_Products_init_54 : decode b_Products_init 54 = .ok ((.bipush 81), 2) := by decide +kernel
theorem d_Products_init_56 : decode b_Products_init 56 = .ok ((.invokestatic 25), 3) := by decide +kernel
theorem d_Products_init_59 : decode b_Products_init 59 = .ok ((.putfield 31), 3) := by decide +kernel
theorem d_Products_init_62 : decode b_Products_init 62 = .ok ((.iconst 0), 1) := by decide +kernel
theorem d_Products_init_63 : decode b_Products_init 63 = .ok ((.istore_n 3), 1) := by decide +kernel
theorem d_Products_init_64 : decode b_Products_init 64 = .ok ((.iload_n 3), 1) := by decide +kernel
theorem d_Products_init_65 : decode b_Products_init 65 = .ok ((.aload_n 0), 1) := by decide +kernel
theorem d_Products_init_66 : decode b_Products_init 66 = .ok ((.getfield 31), 3) := by decide +kernel
theorem d_Products_init_69 : decode b_Products_init 69 = .ok ((.if_icmp .ge 19), 3) := by decide +kernel
theorem d_Products_init_72 : decode b_Products_init 72 = .ok ((.aload_n 0), 1) := by decide +kernel
theorem d_Products_init_73 : decode b_Products_init 73 = .ok ((.iload_n 3), 1) := by decide +kernel
theorem d_Products_init_74 : decode b_Products_init 74 = .ok ((.invokevirtual 34), 3) := by decide +kernel
theorem d_Products_init_77 : decode b_Products_init 77 = .ok ((.aload_n 0), 1) := by decide +kernel
theorem d_Products_init_78 : decode b_Products_init 78 = .ok ((.iload_n 3), 1) := by decide +kernel
theorem d_Products_init_79 : decode b_Products_init 79 = .ok ((.invokevirtual 38), 3) := by decide +kernel
theorem d_Products_init_82 : decode b_Products_init 82 = .ok ((.iinc 3 1), 3) := by decide +kernel
theorem d_Products_init_85 : decode b_Products_init 85 = .ok ((.goto (-21)), 3) := by decide +kernel
theorem d_Products_init_88 : decode b_Products_init 88 = .ok (.return_, 1) := by decide +kernel
theorem d_Products_fillDigits_0 : decode b_Products_fillDigits 0 = .ok ((.iload_n 1), 1) := by decide +kernel
theorem d_Products_fillDigits_1 : decode b_Products_fillDigits 1 = .ok ((.istore_n 2), 1) := by decide +kernel
theorem d_Products_fillDigits_2 : decode b_Products_fillDigits 2 = .ok ((.aload_n 0), 1) := by decide +kernel
theorem d_Products_fillDigits_3 : decode b_Products_fillDigits 3 = .ok ((.getfield 21), 3) := by decide +kernel
theorem d_Products_fillDigits_6 : decode b_Products_fillDigits 6 = .ok ((.iconst 1), 1) := by decide +kernel
theorem d_Products_fillDigits_7 : decode b_Products_fillDigits 7 = .ok (.isub, 1) := by decide +kernel
theorem d_Products_fillDigits_8 : decode b_Products_fillDigits 8 = .ok ((.istore_n 3), 1) := by decide +kernel
theorem d_Products_fillDigits_9 : decode b_Products_fillDigits 9 = .ok ((.iload_n 3), 1) := by decide +kernel
theorem d_Products_fillDigits_10 : decode b_Products_fillDigits 10 = .ok ((.ifCond .lt 49), 3) := by decide +kernel
theorem d_Products_fillDigits_13 : decode b_Products_fillDigits 13 = .ok ((.iload_n 2), 1) := by decide +kernel
theorem d_Products_fillDigits_14 : decode b_Products_fillDigits 14 = .ok ((.iconst 3), 1) := by decide +kernel
theorem d_Products_fillDigits_15 : decode b_Products_fillDigits 15 = .ok (.irem, 1) := by decide +kernel
theorem d_Products_fillDigits_16 : decode b_Products_fillDigits 16 = .ok ((.istore 4), 2) := by decide +kernel
theorem d_Products_fillDigits_18 : decode b_Products_fillDigits 18 = .ok ((.iload_n 2), 1) := by decide +kernel
theorem d_Products_fillDigits_19 : decode b_Products_fillDigits 19 = .ok ((.iconst 3), 1) := by decide +kernel
theorem d_Products_fillDigits_20 : decode b_Products_fillDigits 20 = .ok (.idiv, 1) := by decide +kernel
theorem d_Products_fillDigits_21 : decode b_Products_fillDigits 21 = .ok ((.istore_n 2), 1) := by decide +kernel
theorem d_Products_fillDigits_22 : decode b_Products_fillDigits 22 = .ok ((.iload 4), 2) := by decide +kernel
theorem d_Products_fillDigits_24 : decode b_Products_fillDigits 24 = .ok ((.iconst 2), 1) := by decide +kernel
theorem d_Products_fillDigits_25 : decode b_Products_fillDigits 25 = .ok ((.if_icmp .eq 28), 3) := by decide +kernel
theorem d_Products_fillDigits_28 : decode b_Products_fillDigits 28 = .ok ((.aload_n 0), 1) := by decide +kernel
theorem d_Products_fillDigits_29 : decode b_Products_fillDigits 29 = .ok ((.getfield 9), 3) := by decide +kernel
theorem d_Products_fillDigits_32 : decode b_Products_fillDigits 32 = .ok ((.iload_n 1), 1) := by decide +kernel
theorem d_Products_fillDigits_33 : decode b_Products_fillDigits 33 = .ok (.dup2, 1) := by decide +kernel
theorem d_Products_fillDigits_34 : decode b_Products_fillDigits 34 = .ok (.iaload, 1) := by decide +kernel
theorem d_Products_fillDigits_35 : decode b_Products_fillDigits 35 = .ok ((.iconst 1), 1) := by decide +kernel
theorem d_Products_fillDigits_36 : decode b_Products_fillDigits 36 = .ok ((.iload_n 3), 1) := by decide +kernel
theorem d_Products_fillDigits_37 : decode b_Products_fillDigits 37 = .ok (.ishl, 1) := by decide +kernel
theorem d_Products_fillDigits_38 : decode b_Products_fillDigits 38 = .ok (.ior, 1) := by decide +kernel
theorem d_Products_fillDigits_39 : decode b_Products_fillDigits 39 = .ok (.iastore, 1) := by decide +kernel
theorem d_Products_fillDigits_40 : decode b_Products_fillDigits 40 = .ok ((.aload_n 0), 1) := by decide +kernel
theorem d_Products_fillDigits_41 : decode b_Products_fillDigits 41 = .ok ((.getfield 15), 3) := by decide +kernel
theorem d_Products_fillDigits_44 : decode b_Products_fillDigits 44 = .ok ((.iload_n 1), 1) := by decide +kernel
theorem d_Products_fillDigits_45 : decode b_Products_fillDigits 45 = .ok (.dup2, 1) := by decide +kernel
theorem d_Products_fillDigits_46 : decode b_Products_fillDigits 46 = .ok (.iaload, 1) := by decide +kernel
theorem d_Products_fillDigits_47 : decode b_Products_fillDigits 47 = .ok ((.iload 4), 2) := by decide +kernel
theorem d_Products_fillDigits_49 : decode b_Products_fillDigits 49 = .ok ((.iload_n 3), 1) := by decide +kernel
theorem d_Products_fillDigits_50 : decode b_Products_fillDigits 50 = .ok (.ishl, 1) := by decide +kernel
theorem d_Products_fillDigits_51 : decode b_Products_fillDigits 51 = .ok (.ior, 1) := by decide +kernel
theorem d_Products_fillDigits_52 : decode b_Products_fillDigits 52 = .ok (.iastore, 1) := by decide +kernel
theorem d_Products_fillDigits_53 : decode b_Products_fillDigits 53 = .ok ((.iinc 3 (-1)), 3) := by decide +kernel
theorem d_Products_fillDigits_56 : decode b_Products_fillDigits 56 = .ok ((.goto (-47)), 3) := by decide +kernel
theorem d_Products_fillDigits_59 : decode b_Products_fillDigits 59 = .ok (.return_, 1) := by decide +kernel
theorem d_Products_fillHad_0 : decode b_Products_fillHad 0 = .ok ((.iconst 0), 1) := by decide +kernel
theorem d_Products_fillHad_1 : decode b_Products_fillHad 1 = .ok ((.istore_n 2), 1) := by decide +kernel
theorem d_Products_fillHad_2 : decode b_Products_fillHad 2 = .ok ((.iload_n 2), 1) := by decide +kernel
theorem d_Products_fillHad_3 : decode b_Products_fillHad 3 = .ok ((.iconst 1), 1) := by decide +kernel
theorem d_Products_fillHad_4 : decode b_Products_fillHad 4 = .ok ((.aload_n 0), 1) := by decide +kernel
theorem d_Products_fillHad_5 : decode b_Products_fillHad 5 = .ok ((.getfield 21), 3) := by decide +kernel
theorem d_Products_fillHad_8 : decode b_Products_fillHad 8 = .ok (.ishl, 1) := by decide +kernel
theorem d_Products_fillHad_9 : decode b_Products_fillHad 9 = .ok ((.if_icmp .ge 38), 3) := by decide +kernel
theorem d_Products_fillHad_12 : decode b_Products_fillHad 12 = .ok ((.iload_n 2), 1) := by decide +kernel
theorem d_Products_fillHad_13 : decode b_Products_fillHad 13 = .ok ((.aload_n 0), 1) := by decide +kernel
theorem d_Products_fillHad_14 : decode b_Products_fillHad 14 = .ok ((.getfield 9), 3) := by decide +kernel
theorem d_Products_fillHad_17 : decode b_Products_fillHad 17 = .ok ((.iload_n 1), 1) := by decide +kernel
theorem d_Products_fillHad_18 : decode b_Products_fillHad 18 = .ok (.iaload, 1) := by decide +kernel
theorem d_Products_fillHad_19 : decode b_Products_fillHad 19 = .ok (.iand, 1) := by decide +kernel
theorem d_Products_fillHad_20 : decode b_Products_fillHad 20 = .ok ((.aload_n 0), 1) := by decide +kernel
theorem d_Products_fillHad_21 : decode b_Products_fillHad 21 = .ok ((.getfield 15), 3) := by decide +kernel
theorem d_Products_fillHad_24 : decode b_Products_fillHad 24 = .ok ((.iload_n 1), 1) := by decide +kernel
theorem d_Products_fillHad_25 : decode b_Products_fillHad 25 = .ok (.iaload, 1) := by decide +kernel
theorem d_Products_fillHad_26 : decode b_Products_fillHad 26 = .ok ((.if_icmp .ne 15), 3) := by decide +kernel
theorem d_Products_fillHad_29 : decode b_Products_fillHad 29 = .ok ((.aload_n 0), 1) := by decide +kernel
theorem d_Products_fillHad_30 : decode b_Products_fillHad 30 = .ok ((.getfield 18), 3) := by decide +kernel
theorem d_Products_fillHad_33 : decode b_Products_fillHad 33 = .ok ((.iload_n 1), 1) := by decide +kernel
theorem d_Products_fillHad_34 : decode b_Products_fillHad 34 = .ok (.dup2, 1) := by decide +kernel
theorem d_Products_fillHad_35 : decode b_Products_fillHad 35 = .ok (.iaload, 1) := by decide +kernel
theorem d_Products_fillHad_36 : decode b_Products_fillHad 36 = .ok ((.iconst 1), 1) := by decide +kernel
theorem d_Products_fillHad_37 : decode b_Products_fillHad 37 = .ok ((.iload_n 2), 1) := by decide +kernel
theorem d_Products_fillHad_38 : decode b_Products_fillHad 38 = .ok (.ishl, 1) := by decide +kernel
theorem d_Products_fillHad_39 : decode b_Products_fillHad 39 = .ok (.ior, 1) := by decide +kernel
theorem d_Products_fillHad_40 : decode b_Products_fillHad 40 = .ok (.iastore, 1) := by decide +kernel
theorem d_Products_fillHad_41 : decode b_Products_fillHad 41 = .ok ((.iinc 2 1), 3) := by decide +kernel
theorem d_Products_fillHad_44 : decode b_Products_fillHad 44 = .ok ((.goto (-42)), 3) := by decide +kernel
theorem d_Products_fillHad_47 : decode b_Products_fillHad 47 = .ok (.return_, 1) := by decide +kernel
theorem d_Products_size_0 : decode b_Products_size 0 = .ok ((.aload_n 0), 1) := by decide +kernel
theorem d_Products_size_1 : decode b_Products_size 1 = .ok ((.getfield 31), 3) := by decide +kernel
theorem d_Products_size_4 : decode b_Products_size 4 = .ok (.ireturn, 1) := by decide +kernel
theorem d_Products_had_0 : decode b_Products_had 0 = .ok ((.aload_n 0), 1) := by decide +kernel
theorem d_Products_had_1 : decode b_Products_had 1 = .ok ((.getfield 18), 3) := by decide +kernel
theorem d_Products_had_4 : decode b_Products_had 4 = .ok ((.iload_n 1), 1) := by decide +kernel
theorem d_Products_had_5 : decode b_Products_had 5 = .ok (.iaload, 1) := by decide +kernel
theorem d_Products_had_6 : decode b_Products_had 6 = .ok (.ireturn, 1) := by decide +kernel
theorem d_Products_inputs_0 : decode b_Products_inputs 0 = .ok ((.aload_n 0), 1) := by decide +kernel
theorem d_Products_inputs_1 : decode b_Products_inputs 1 = .ok ((.getfield 21), 3) := by decide +kernel
theorem d_Products_inputs_4 : decode b_Products_inputs 4 = .ok (.ireturn, 1) := by decide +kernel
theorem d_Products_digit_0 : decode b_Products_digit 0 = .ok ((.aload_n 0), 1) := by decide +kernel
theorem d_Products_digit_1 : decode b_Products_digit 1 = .ok ((.getfield 9), 3) := by decide +kernel
theorem d_Products_digit_4 : decode b_Products_digit 4 = .ok ((.iload_n 1), 1) := by decide +kernel
theorem d_Products_digit_5 : decode b_Products_digit 5 = .ok (.iaload, 1) := by decide +kernel
theorem d_Products_digit_6 : decode b_Products_digit 6 = .ok ((.iload_n 2), 1) := by decide +kernel
theorem d_Products_digit_7 : decode b_Products_digit 7 = .ok (.ishr, 1) := by decide +kernel
theorem d_Products_digit_8 : decode b_Products_digit 8 = .ok ((.iconst 1), 1) := by decide +kernel
theorem d_Products_digit_9 : decode b_Products_digit 9 = .ok (.iand, 1) := by decide +kernel
theorem d_Products_digit_10 : decode b_Products_digit 10 = .ok ((.ifCond .ne 7), 3) := by decide +kernel
theorem d_Products_digit_13 : decode b_Products_digit 13 = .ok ((.iconst 2), 1) := by decide +kernel
theorem d_Products_digit_14 : decode b_Products_digit 14 = .ok ((.goto 13), 3) := by decide +kernel
theorem d_Products_digit_17 : decode b_Products_digit 17 = .ok ((.aload_n 0), 1) := by decide +kernel
theorem d_Products_digit_18 : decode b_Products_digit 18 = .ok ((.getfield 15), 3) := by decide +kernel
theorem d_Products_digit_21 : decode b_Products_digit 21 = .ok ((.iload_n 1), 1) := by decide +kernel
theorem d_Products_digit_22 : decode b_Products_digit 22 = .ok (.iaload, 1) := by decide +kernel
theorem d_Products_digit_23 : decode b_Products_digit 23 = .ok ((.iload_n 2), 1) := by decide +kernel
theorem d_Products_digit_24 : decode b_Products_digit 24 = .ok (.ishr, 1) := by decide +kernel
theorem d_Products_digit_25 : decode b_Products_digit 25 = .ok ((.iconst 1), 1) := by decide +kernel
theorem d_Products_digit_26 : decode b_Products_digit 26 = .ok (.iand, 1) := by decide +kernel
theorem d_Products_digit_27 : decode b_Products_digit 27 = .ok (.ireturn, 1) := by decide +kernel
theorem d_Products_withDigit_0 : decode b_Products_withDigit 0 = .ok ((.iconst 1), 1) := by decide +kernel
theorem d_Products_withDigit_1 : decode b_Products_withDigit 1 = .ok ((.iload_n 2), 1) := by decide +kernel
theorem d_Products_withDigit_2 : decode b_Products_withDigit 2 = .ok (.ishl, 1) := by decide +kernel
theorem d_Products_withDigit_3 : decode b_Products_withDigit 3 = .ok ((.istore 4), 2) := by decide +kernel
theorem d_Products_withDigit_5 : decode b_Products_withDigit 5 = .ok ((.iload_n 3), 1) := by decide +kernel
theorem d_Products_withDigit_6 : decode b_Products_withDigit 6 = .ok ((.iconst 2), 1) := by decide +kernel
theorem d_Products_withDigit_7 : decode b_Products_withDigit 7 = .ok ((.if_icmp .ne 17), 3) := by decide +kernel
theorem d_Products_withDigit_10 : decode b_Products_withDigit 10 = .ok ((.aload_n 0), 1) := by decide +kernel
theorem d_Products_withDigit_11 : decode b_Products_withDigit 11 = .ok ((.getfield 9), 3) := by decide +kernel
theorem d_Products_withDigit_14 : decode b_Products_withDigit 14 = .ok ((.iload_n 1), 1) := by decide +kernel
theorem d_Products_withDigit_15 : decode b_Products_withDigit 15 = .ok (.iaload, 1) := by decide +kernel
theorem d_Products_withDigit_16 : decode b_Products_withDigit 16 = .ok ((.iload 4), 2) := by decide +kernel
theorem d_Products_withDigit_18 : decode b_Products_withDigit 18 = .ok ((.iconst (-1)), 1) := by decide +kernel
theorem d_Products_withDigit_19 : decode b_Products_withDigit 19 = .ok (.ixor, 1) := by decide +kernel
theorem d_Products_withDigit_20 : decode b_Products_withDigit 20 = .ok (.iand, 1) := by decide +kernel
theorem d_Products_withDigit_21 : decode b_Products_withDigit 21 = .ok ((.goto 12), 3) := by decide +kernel
theorem d_Products_withDigit_24 : decode b_Products_withDigit 24 = .ok ((.aload_n 0), 1) := by decide +kernel
theorem d_Products_withDigit_25 : decode b_Products_withDigit 25 = .ok ((.getfield 9), 3) := by decide +kernel
theorem d_Products_withDigit_28 : decode b_Products_withDigit 28 = .ok ((.iload_n 1), 1) := by decide +kernel
theorem d_Products_withDigit_29 : decode b_Products_withDigit 29 = .ok (.iaload, 1) := by decide +kernel
theorem d_Products_withDigit_30 : decode b_Products_withDigit 30 = .ok ((.iload 4), 2) := by decide +kernel
theorem d_Products_withDigit_32 : decode b_Products_withDigit 32 = .ok (.ior, 1) := by decide +kernel
theorem d_Products_withDigit_33 : decode b_Products_withDigit 33 = .ok ((.istore 5), 2) := by decide +kernel
theorem d_Products_withDigit_35 : decode b_Products_withDigit 35 = .ok ((.iload_n 3), 1) := by decide +kernel
theorem d_Products_withDigit_36 : decode b_Products_withDigit 36 = .ok ((.iconst 1), 1) := by decide +kernel
theorem d_Products_withDigit_37 : decode b_Products_withDigit 37 = .ok ((.if_icmp .ne 15), 3) := by decide +kernel
theorem d_Products_withDigit_40 : decode b_Products_withDigit 40 = .ok ((.aload_n 0), 1) := by decide +kernel
theorem d_Products_withDigit_41 : decode b_Products_withDigit 41 = .ok ((.getfield 15), 3) := by decide +kernel
theorem d_Products_withDigit_44 : decode b_Products_withDigit 44 = .ok ((.iload_n 1), 1) := by decide +kernel
theorem d_Products_withDigit_45 : decode b_Products_withDigit 45 = .ok (.iaload, 1) := by decide +kernel
theorem d_Products_withDigit_46 : decode b_Products_withDigit 46 = .ok ((.iload 4), 2) := by decide +kernel
theorem d_Products_withDigit_48 : decode b_Products_withDigit 48 = .ok (.ior, 1) := by decide +kernel
theorem d_Products_withDigit_49 : decode b_Products_withDigit 49 = .ok ((.goto 14), 3) := by decide +kernel
theorem d_Products_withDigit_52 : decode b_Products_withDigit 52 = .ok ((.aload_n 0), 1) := by decide +kernel
theorem d_Products_withDigit_53 : decode b_Products_withDigit 53 = .ok ((.getfield 15), 3) := by decide +kernel
theorem d_Products_withDigit_56 : decode b_Products_withDigit 56 = .ok ((.iload_n 1), 1) := by decide +kernel
theorem d_Products_withDigit_57 : decode b_Products_withDigit 57 = .ok (.iaload, 1) := by decide +kernel
theorem d_Products_withDigit_58 : decode b_Products_withDigit 58 = .ok ((.iload 4), 2) := by decide +kernel
theorem d_Products_withDigit_60 : decode b_Products_withDigit 60 = .ok ((.iconst (-1)), 1) := by decide +kernel
theorem d_Products_withDigit_61 : decode b_Products_withDigit 61 = .ok (.ixor, 1) := by decide +kernel
theorem d_Products_withDigit_62 : decode b_Products_withDigit 62 = .ok (.iand, 1) := by decide +kernel
theorem d_Products_withDigit_63 : decode b_Products_withDigit 63 = .ok ((.istore 6), 2) := by decide +kernel
theorem d_Products_withDigit_65 : decode b_Products_withDigit 65 = .ok ((.aload_n 0), 1) := by decide +kernel
theorem d_Products_withDigit_66 : decode b_Products_withDigit 66 = .ok ((.iload 5), 2) := by decide +kernel
theorem d_Products_withDigit_68 : decode b_Products_withDigit 68 = .ok ((.iload 6), 2) := by decide +kernel
theorem d_Products_withDigit_70 : decode b_Products_withDigit 70 = .ok ((.invokevirtual 41), 3) := by decide +kernel
theorem d_Products_withDigit_73 : decode b_Products_withDigit 73 = .ok (.ireturn, 1) := by decide +kernel
theorem d_Products_numberOf_0 : decode b_Products_numberOf 0 = .ok ((.iconst 0), 1) := by decide +kernel
theorem d_Products_numberOf_1 : decode b_Products_numberOf 1 = .ok ((.istore_n 3), 1) := by decide +kernel
theorem d_Products_numberOf_2 : decode b_Products_numberOf 2 = .ok ((.iconst 0), 1) := by decide +kernel
theorem d_Products_numberOf_3 : decode b_Products_numberOf 3 = .ok ((.istore 4), 2) := by decide +kernel
theorem d_Products_numberOf_5 : decode b_Products_numberOf 5 = .ok ((.iload 4), 2) := by decide +kernel
theorem d_Products_numberOf_7 : decode b_Products_numberOf 7 = .ok ((.aload_n 0), 1) := by decide +kernel
theorem d_Products_numberOf_8 : decode b_Products_numberOf 8 = .ok ((.getfield 21), 3) := by decide +kernel
theorem d_Products_numberOf_11 : decode b_Products_numberOf 11 = .ok ((.if_icmp .ge 37), 3) := by decide +kernel
theorem d_Products_numberOf_14 : decode b_Products_numberOf 14 = .ok ((.iload_n 1), 1) := by decide +kernel
theorem d_Products_numberOf_15 : decode b_Products_numberOf 15 = .ok ((.iload 4), 2) := by decide +kernel
theorem d_Products_numberOf_17 : decode b_Products_numberOf 17 = .ok (.ishr, 1) := by decide +kernel
theorem d_Products_numberOf_18 : decode b_Products_numberOf 18 = .ok ((.iconst 1), 1) := by decide +kernel
theorem d_Products_numberOf_19 : decode b_Products_numberOf 19 = .ok (.iand, 1) := by decide +kernel
theorem d_Products_numberOf_20 : decode b_Products_numberOf 20 = .ok ((.ifCond .ne 7), 3) := by decide +kernel
theorem d_Products_numberOf_23 : decode b_Products_numberOf 23 = .ok ((.iconst 2), 1) := by decide +kernel
theorem d_Products_numberOf_24 : decode b_Products_numberOf 24 = .ok ((.goto 9), 3) := by decide +kernel
theorem d_Products_numberOf_27 : decode b_Products_numberOf 27 = .ok ((.iload_n 2), 1) := by decide +kernel
theorem d_Products_numberOf_28 : decode b_Products_numberOf 28 = .ok ((.iload 4), 2) := by decide +kernel
theorem d_Products_numberOf_30 : decode b_Products_numberOf 30 = .ok (.ishr, 1) := by decide +kernel
theorem d_Products_numberOf_31 : decode b_Products_numberOf 31 = .ok ((.iconst 1), 1) := by decide +kernel
theorem d_Products_numberOf_32 : decode b_Products_numberOf 32 = .ok (.iand, 1) := by decide +kernel
theorem d_Products_numberOf_33 : decode b_Products_numberOf 33 = .ok ((.istore 5), 2) := by decide +kernel
theorem d_Products_numberOf_35 : decode b_Products_numberOf 35 = .ok ((.iload_n 3), 1) := by decide +kernel
theorem d_Products_numberOf_36 : decode b_Products_numberOf 36 = .ok ((.iconst 3), 1) := by decide +kernel
theorem d_Products_numberOf_37 : decode b_Products_numberOf 37 = .ok (.imul, 1) := by decide +kernel
theorem d_Products_numberOf_38 : decode b_Products_numberOf 38 = .ok ((.iload 5), 2) := by decide +kernel
theorem d_Products_numberOf_40 : decode b_Products_numberOf 40 = .ok (.iadd, 1) := by decide +kernel
theorem d_Products_numberOf_41 : decode b_Products_numberOf 41 = .ok ((.istore_n 3), 1) := by decide +kernel
theorem d_Products_numberOf_42 : decode b_Products_numberOf 42 = .ok ((.iinc 4 1), 3) := by decide +kernel
theorem d_Products_numberOf_45 : decode b_Products_numberOf 45 = .ok ((.goto (-40)), 3) := by decide +kernel
theorem d_Products_numberOf_48 : decode b_Products_numberOf 48 = .ok ((.iload_n 3), 1) := by decide +kernel
theorem d_Products_numberOf_49 : decode b_Products_numberOf 49 = .ok (.ireturn, 1) := by decide +kernel
theorem d_Products_allFree_0 : decode b_Products_allFree 0 = .ok ((.aload_n 0), 1) := by decide +kernel
theorem d_Products_allFree_1 : decode b_Products_allFree 1 = .ok ((.getfield 31), 3) := by decide +kernel
theorem d_Products_allFree_4 : decode b_Products_allFree 4 = .ok ((.iconst 1), 1) := by decide +kernel
theorem d_Products_allFree_5 : decode b_Products_allFree 5 = .ok (.isub, 1) := by decide +kernel
theorem d_Products_allFree_6 : decode b_Products_allFree 6 = .ok (.ireturn, 1) := by decide +kernel
theorem d_Products_care_0 : decode b_Products_care 0 = .ok ((.aload_n 0), 1) := by decide +kernel
theorem d_Products_care_1 : decode b_Products_care 1 = .ok ((.getfield 9), 3) := by decide +kernel
theorem d_Products_care_4 : decode b_Products_care 4 = .ok ((.iload_n 1), 1) := by decide +kernel
theorem d_Products_care_5 : decode b_Products_care 5 = .ok (.iaload, 1) := by decide +kernel
theorem d_Products_care_6 : decode b_Products_care 6 = .ok (.ireturn, 1) := by decide +kernel
theorem d_Products_bits_0 : decode b_Products_bits 0 = .ok ((.aload_n 0), 1) := by decide +kernel
theorem d_Products_bits_1 : decode b_Products_bits 1 = .ok ((.getfield 15), 3) := by decide +kernel
theorem d_Products_bits_4 : decode b_Products_bits 4 = .ok ((.iload_n 1), 1) := by decide +kernel
theorem d_Products_bits_5 : decode b_Products_bits 5 = .ok (.iaload, 1) := by decide +kernel
theorem d_Products_bits_6 : decode b_Products_bits 6 = .ok (.ireturn, 1) := by decide +kernel
