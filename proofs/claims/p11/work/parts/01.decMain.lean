theorem d_Main_init_0 : decode b_Main_init 0 = .ok ((.aload_n 0), 1) := by decide +kernel
theorem d_Main_init_1 : decode b_Main_init 1 = .ok ((.invokespecial 1), 3) := by decide +kernel
theorem d_Main_init_4 : decode b_Main_init 4 = .ok ((.aload_n 0), 1) := by decide +kernel
theorem d_Main_init_5 : decode b_Main_init 5 = .ok ((.iconst 1), 1) := by decide +kernel
theorem d_Main_init_6 : decode b_Main_init 6 = .ok ((.iconst 4), 1) := by decide +kernel
theorem d_Main_init_7 : decode b_Main_init 7 = .ok ((.iload_n 1), 1) := by decide +kernel
theorem d_Main_init_8 : decode b_Main_init 8 = .ok ((.invokestatic 9), 3) := by decide +kernel
theorem d_Main_init_11 : decode b_Main_init 11 = .ok ((.invokestatic 15), 3) := by decide +kernel
theorem d_Main_init_14 : decode b_Main_init 14 = .ok ((.putfield 18), 3) := by decide +kernel
theorem d_Main_init_17 : decode b_Main_init 17 = .ok ((.aload_n 0), 1) := by decide +kernel
theorem d_Main_init_18 : decode b_Main_init 18 = .ok ((.iconst 1), 1) := by decide +kernel
theorem d_Main_init_19 : decode b_Main_init 19 = .ok ((.iconst 2), 1) := by decide +kernel
theorem d_Main_init_20 : decode b_Main_init 20 = .ok ((.iload_n 2), 1) := by decide +kernel
theorem d_Main_init_21 : decode b_Main_init 21 = .ok ((.invokestatic 9), 3) := by decide +kernel
theorem d_Main_init_24 : decode b_Main_init 24 = .ok ((.invokestatic 15), 3) := by decide +kernel
theorem d_Main_init_27 : decode b_Main_init 27 = .ok ((.putfield 22), 3) := by decide +kernel
theorem d_Main_init_30 : decode b_Main_init 30 = .ok ((.new 25), 3) := by decide +kernel
theorem d_Main_init_33 : decode b_Main_init 33 = .ok (.dup, 1) := by decide +kernel
theorem d_Main_init_34 : decode b_Main_init 34 = .ok ((.aload_n 0), 1) := by decide +kernel
theorem d_Main_init_35 : decode b_Main_init 35 = .ok ((.getfield 18), 3) := by decide +kernel
theorem d_Main_init_38 : decode b_Main_init 38 = .ok ((.invokespecial 27), 3) := by decide +kernel
theorem d_Main_init_41 : decode b_Main_init 41 = .ok ((.astore_n 3), 1) := by decide +kernel
theorem d_Main_init_42 : decode b_Main_init 42 = .ok ((.aload_n 0), 1) := by decide +kernel
theorem d_Main_init_43 : decode b_Main_init 43 = .ok ((.new 30), 3) := by decide +kernel
theorem d_Main_init_46 : decode b_Main_init 46 = .ok (.dup, 1) := by decide +kernel
theorem d_Main_init_47 : decode b_Main_init 47 = .ok ((.aload_n 3), 1) := by decide +kernel
theorem d_Main_init_48 : decode b_Main_init 48 = .ok ((.aload_n 0), 1) := by decide +kernel
theorem d_Main_init_49 : decode b_Main_init 49 = .ok ((.getfield 22), 3) := by decide +kernel
theorem d_Main_init_52 : decode b_Main_init 52 = .ok ((.invokespecial 32), 3) := by decide +kernel
theorem d_Main_init_55 : decode b_Main_init 55 = .ok ((.putfield 35), 3) := by decide +kernel
theorem d_Main_init_58 : decode b_Main_init 58 = .ok ((.aload_n 0), 1) := by decide +kernel
theorem d_Main_init_59 : decode b_Main_init 59 = .ok ((.new 39), 3) := by decide +kernel
theorem d_Main_init_62 : decode b_Main_init 62 = .ok (.dup, 1) := by decide +kernel
theorem d_Main_init_63 : decode b_Main_init 63 = .ok ((.aload_n 3), 1) := by decide +kernel
theorem d_Main_init_64 : decode b_Main_init 64 = .ok ((.invokespecial 41), 3) := by decide +kernel
theorem d_Main_init_67 : decode b_Main_init 67 = .ok ((.putfield 44), 3) := by decide +kernel
theorem d_Main_init_70 : decode b_Main_init 70 = .ok ((.aload_n 0), 1) := by decide +kernel
theorem d_Main_init_71 : decode b_Main_init 71 = .ok ((.new 48), 3) := by decide +kernel
theorem d_Main_init_74 : decode b_Main_init 74 = .ok (.dup, 1) := by decide +kernel
theorem d_Main_init_75 : decode b_Main_init 75 = .ok ((.aload_n 3), 1) := by decide +kernel
theorem d_Main_init_76 : decode b_Main_init 76 = .ok ((.aload_n 0), 1) := by decide +kernel
theorem d_Main_init_77 : decode b_Main_init 77 = .ok ((.getfield 22), 3) := by decide +kernel
theorem d_Main_init_80 : decode b_Main_init 80 = .ok ((.invokespecial 50), 3) := by decide +kernel
theorem d_Main_init_83 : decode b_Main_init 83 = .ok ((.putfield 51), 3) := by decide +kernel
theorem d_Main_init_86 : decode b_Main_init 86 = .ok ((.aload_n 0), 1) := by decide +kernel
theorem d_Main_init_87 : decode b_Main_init 87 = .ok ((.new 55), 3) := by decide +kernel
theorem d_Main_init_90 : decode b_Main_init 90 = .ok (.dup, 1) := by decide +kernel
theorem d_Main_init_91 : decode b_Main_init 91 = .ok ((.aload_n 0), 1) := by decide +kernel
theorem d_Main_init_92 : decode b_Main_init 92 = .ok ((.getfield 22), 3) := by decide +kernel
theorem d_Main_init_95 : decode b_Main_init 95 = .ok ((.invokespecial 57), 3) := by decide +kernel
theorem d_Main_init_98 : decode b_Main_init 98 = .ok ((.putfield 58), 3) := by decide +kernel
theorem d_Main_init_101 : decode b_Main_init 101 = .ok ((.aload_n 0), 1) := by decide +kernel
theorem d_Main_init_102 : decode b_Main_init 102 = .ok ((.new 39), 3) := by decide +kernel
theorem d_Main_init_105 : decode b_Main_init 105 = .ok (.dup, 1) := by decide +kernel
theorem d_Main_init_106 : decode b_Main_init 106 = .ok ((.aload_n 3), 1) := by decide +kernel
theorem d_Main_init_107 : decode b_Main_init 107 = .ok ((.invokespecial 41), 3) := by decide +kernel
theorem d_Main_init_110 : decode b_Main_init 110 = .ok ((.putfield 62), 3) := by decide +kernel
theorem d_Main_init_113 : decode b_Main_init 113 = .ok ((.aload_n 0), 1) := by decide +kernel
theorem d_Main_init_114 : decode b_Main_init 114 = .ok ((.new 65), 3) := by decide +kernel
theorem d_Main_init_117 : decode b_Main_init 117 = .ok (.dup, 1) := by decide +kernel
theorem d_Main_init_118 : decode b_Main_init 118 = .ok ((.aload_n 3), 1) := by decide +kernel
theorem d_Main_init_119 : decode b_Main_init 119 = .ok ((.invokespecial 67), 3) := by decide +kernel
theorem d_Main_init_122 : decode b_Main_init 122 = .ok ((.putfield 68), 3) := by decide +kernel
theorem d_Main_init_125 : decode b_Main_init 125 = .ok ((.aload_n 0), 1) := by decide +kernel
theorem d_Main_init_126 : decode b_Main_init 126 = .ok ((.new 72), 3) := by decide +kernel
theorem d_Main_init_129 : decode b_Main_init 129 = .ok (.dup, 1) := by decide +kernel
theorem d_Main_init_130 : decode b_Main_init 130 = .ok ((.aload_n 0), 1) := by decide +kernel
theorem d_Main_init_131 : decode b_Main_init 131 = .ok ((.getfield 18), 3) := by decide +kernel
theorem d_Main_init_134 : decode b_Main_init 134 = .ok ((.aload_n 0), 1) := by decide +kernel
theorem d_Main_init_135 : decode b_Main_init 135 = .ok ((.getfield 22), 3) := by decide +kernel
theorem d_Main_init_138 : decode b_Main_init 138 = .ok ((.invokespecial 74), 3) := by decide +kernel
theorem d_Main_init_141 : decode b_Main_init 141 = .ok ((.putfield 77), 3) := by decide +kernel
theorem d_Main_init_144 : decode b_Main_init 144 = .ok ((.aload_n 0), 1) := by decide +kernel
theorem d_Main_init_145 : decode b_Main_init 145 = .ok ((.iconst 0), 1) := by decide +kernel
theorem d_Main_init_146 : decode b_Main_init 146 = .ok ((.putfield 81), 3) := by decide +kernel
theorem d_Main_init_149 : decode b_Main_init 149 = .ok ((.aload_n 0), 1) := by decide +kernel
theorem d_Main_init_150 : decode b_Main_init 150 = .ok ((.iconst 0), 1) := by decide +kernel
theorem d_Main_init_151 : decode b_Main_init 151 = .ok ((.putfield 85), 3) := by decide +kernel
theorem d_Main_init_154 : decode b_Main_init 154 = .ok (.return_, 1) := by decide +kernel
theorem d_Main_primes_0 : decode b_Main_primes 0 = .ok ((.aload_n 0), 1) := by decide +kernel
theorem d_Main_primes_1 : decode b_Main_primes 1 = .ok ((.invokevirtual 128), 3) := by decide +kernel
theorem d_Main_primes_4 : decode b_Main_primes 4 = .ok ((.aload_n 0), 1) := by decide +kernel
theorem d_Main_primes_5 : decode b_Main_primes 5 = .ok ((.getfield 44), 3) := by decide +kernel
theorem d_Main_primes_8 : decode b_Main_primes 8 = .ok ((.invokevirtual 131), 3) := by decide +kernel
theorem d_Main_primes_11 : decode b_Main_primes 11 = .ok (.ireturn, 1) := by decide +kernel
theorem d_Main_renewPrimes_0 : decode b_Main_renewPrimes 0 = .ok ((.aload_n 0), 1) := by decide +kernel
theorem d_Main_renewPrimes_1 : decode b_Main_renewPrimes 1 = .ok ((.getfield 85), 3) := by decide +kernel
theorem d_Main_renewPrimes_4 : decode b_Main_renewPrimes 4 = .ok ((.ifCond .eq 23), 3) := by decide +kernel
theorem d_Main_renewPrimes_7 : decode b_Main_renewPrimes 7 = .ok ((.aload_n 0), 1) := by decide +kernel
theorem d_Main_renewPrimes_8 : decode b_Main_renewPrimes 8 = .ok ((.getfield 51), 3) := by decide +kernel
theorem d_Main_renewPrimes_11 : decode b_Main_renewPrimes 11 = .ok ((.aload_n 0), 1) := by decide +kernel
theorem d_Main_renewPrimes_12 : decode b_Main_renewPrimes 12 = .ok ((.getfield 35), 3) := by decide +kernel
theorem d_Main_renewPrimes_15 : decode b_Main_renewPrimes 15 = .ok ((.aload_n 0), 1) := by decide +kernel
theorem d_Main_renewPrimes_16 : decode b_Main_renewPrimes 16 = .ok ((.getfield 44), 3) := by decide +kernel
theorem d_Main_renewPrimes_19 : decode b_Main_renewPrimes 19 = .ok ((.invokevirtual 222), 3) := by decide +kernel
theorem d_Main_renewPrimes_22 : decode b_Main_renewPrimes 22 = .ok ((.aload_n 0), 1) := by decide +kernel
theorem d_Main_renewPrimes_23 : decode b_Main_renewPrimes 23 = .ok ((.iconst 0), 1) := by decide +kernel
theorem d_Main_renewPrimes_24 : decode b_Main_renewPrimes 24 = .ok ((.putfield 85), 3) := by decide +kernel
theorem d_Main_renewPrimes_27 : decode b_Main_renewPrimes 27 = .ok (.return_, 1) := by decide +kernel
theorem d_Main_tautology_0 : decode b_Main_tautology 0 = .ok ((.iconst 1), 1) := by decide +kernel
theorem d_Main_tautology_1 : decode b_Main_tautology 1 = .ok ((.iconst 1), 1) := by decide +kernel
theorem d_Main_tautology_2 : decode b_Main_tautology 2 = .ok ((.aload_n 0), 1) := by decide +kernel
theorem d_Main_tautology_3 : decode b_Main_tautology 3 = .ok ((.getfield 18), 3) := by decide +kernel
theorem d_Main_tautology_6 : decode b_Main_tautology 6 = .ok (.ishl, 1) := by decide +kernel
theorem d_Main_tautology_7 : decode b_Main_tautology 7 = .ok (.ishl, 1) := by decide +kernel
theorem d_Main_tautology_8 : decode b_Main_tautology 8 = .ok ((.iconst 1), 1) := by decide +kernel
theorem d_Main_tautology_9 : decode b_Main_tautology 9 = .ok (.isub, 1) := by decide +kernel
theorem d_Main_tautology_10 : decode b_Main_tautology 10 = .ok ((.istore_n 1), 1) := by decide +kernel
theorem d_Main_tautology_11 : decode b_Main_tautology 11 = .ok ((.iconst 0), 1) := by decide +kernel
theorem d_Main_tautology_12 : decode b_Main_tautology 12 = .ok ((.istore_n 2), 1) := by decide +kernel
theorem d_Main_tautology_13 : decode b_Main_tautology 13 = .ok ((.iload_n 2), 1) := by decide +kernel
theorem d_Main_tautology_14 : decode b_Main_tautology 14 = .ok ((.aload_n 0), 1) := by decide +kernel
theorem d_Main_tautology_15 : decode b_Main_tautology 15 = .ok ((.getfield 22), 3) := by decide +kernel
theorem d_Main_tautology_18 : decode b_Main_tautology 18 = .ok ((.if_icmp .ge 23), 3) := by decide +kernel
theorem d_Main_tautology_21 : decode b_Main_tautology 21 = .ok ((.aload_n 0), 1) := by decide +kernel
theorem d_Main_tautology_22 : decode b_Main_tautology 22 = .ok ((.getfield 35), 3) := by decide +kernel
theorem d_Main_tautology_25 : decode b_Main_tautology 25 = .ok ((.iload_n 2), 1) := by decide +kernel
theorem d_Main_tautology_26 : decode b_Main_tautology 26 = .ok ((.invokevirtual 165), 3) := by decide +kernel
theorem d_Main_tautology_29 : decode b_Main_tautology 29 = .ok ((.iload_n 1), 1) := by decide +kernel
theorem d_Main_tautology_30 : decode b_Main_tautology 30 = .ok ((.if_icmp .eq 5), 3) := by decide +kernel
theorem d_Main_tautology_33 : decode b_Main_tautology 33 = .ok ((.iconst 0), 1) := by decide +kernel
theorem d_Main_tautology_34 : decode b_Main_tautology 34 = .ok (.ireturn, 1) := by decide +kernel
theorem d_Main_tautology_35 : decode b_Main_tautology 35 = .ok ((.iinc 2 1), 3) := by decide +kernel
theorem d_Main_tautology_38 : decode b_Main_tautology 38 = .ok ((.goto (-25)), 3) := by decide +kernel
theorem d_Main_tautology_41 : decode b_Main_tautology 41 = .ok ((.iconst 1), 1) := by decide +kernel
theorem d_Main_tautology_42 : decode b_Main_tautology 42 = .ok (.ireturn, 1) := by decide +kernel
theorem d_Main_order_0 : decode b_Main_order 0 = .ok ((.iconst 0), 1) := by decide +kernel
theorem d_Main_order_1 : decode b_Main_order 1 = .ok ((.istore_n 1), 1) := by decide +kernel
theorem d_Main_order_2 : decode b_Main_order 2 = .ok ((.aload_n 0), 1) := by decide +kernel
theorem d_Main_order_3 : decode b_Main_order 3 = .ok ((.getfield 77), 3) := by decide +kernel
theorem d_Main_order_6 : decode b_Main_order 6 = .ok ((.iconst 0), 1) := by decide +kernel
theorem d_Main_order_7 : decode b_Main_order 7 = .ok ((.aload_n 0), 1) := by decide +kernel
theorem d_Main_order_8 : decode b_Main_order 8 = .ok ((.getfield 35), 3) := by decide +kernel
theorem d_Main_order_11 : decode b_Main_order 11 = .ok ((.invokevirtual 197), 3) := by decide +kernel
theorem d_Main_order_14 : decode b_Main_order 14 = .ok ((.istore_n 2), 1) := by decide +kernel
theorem d_Main_order_15 : decode b_Main_order 15 = .ok ((.iconst 1), 1) := by decide +kernel
theorem d_Main_order_16 : decode b_Main_order 16 = .ok ((.istore_n 3), 1) := by decide +kernel
theorem d_Main_order_17 : decode b_Main_order 17 = .ok ((.iload_n 3), 1) := by decide +kernel
theorem d_Main_order_18 : decode b_Main_order 18 = .ok ((.aload_n 0), 1) := by decide +kernel
theorem d_Main_order_19 : decode b_Main_order 19 = .ok ((.getfield 77), 3) := by decide +kernel
theorem d_Main_order_22 : decode b_Main_order 22 = .ok ((.invokevirtual 192), 3) := by decide +kernel
theorem d_Main_order_25 : decode b_Main_order 25 = .ok ((.if_icmp .ge 34), 3) := by decide +kernel
theorem d_Main_order_28 : decode b_Main_order 28 = .ok ((.aload_n 0), 1) := by decide +kernel
theorem d_Main_order_29 : decode b_Main_order 29 = .ok ((.getfield 77), 3) := by decide +kernel
theorem d_Main_order_32 : decode b_Main_order 32 = .ok ((.iload_n 3), 1) := by decide +kernel
theorem d_Main_order_33 : decode b_Main_order 33 = .ok ((.aload_n 0), 1) := by decide +kernel
theorem d_Main_order_34 : decode b_Main_order 34 = .ok ((.getfield 35), 3) := by decide +kernel
theorem d_Main_order_37 : decode b_Main_order 37 = .ok ((.invokevirtual 197), 3) := by decide +kernel
theorem d_Main_order_40 : decode b_Main_order 40 = .ok ((.istore 4), 2) := by decide +kernel
theorem d_Main_order_42 : decode b_Main_order 42 = .ok ((.iload 4), 2) := by decide +kernel
theorem d_Main_order_44 : decode b_Main_order 44 = .ok ((.iload_n 2), 1) := by decide +kernel
theorem d_Main_order_45 : decode b_Main_order 45 = .ok ((.if_icmp .ge 8), 3) := by decide +kernel
theorem d_Main_order_48 : decode b_Main_order 48 = .ok ((.iload 4), 2) := by decide +kernel
theorem d_Main_order_50 : decode b_Main_order 50 = .ok ((.istore_n 2), 1) := by decide +kernel
theorem d_Main_order_51 : decode b_Main_order 51 = .ok ((.iload_n 3), 1) := by decide +kernel
theorem d_Main_order_52 : decode b_Main_order 52 = .ok ((.istore_n 1), 1) := by decide +kernel
theorem d_Main_order_53 : decode b_Main_order 53 = .ok ((.iinc 3 1), 3) := by decide +kernel
theorem d_Main_order_56 : decode b_Main_order 56 = .ok ((.goto (-39)), 3) := by decide +kernel
theorem d_Main_order_59 : decode b_Main_order 59 = .ok ((.iload_n 1), 1) := by decide +kernel
theorem d_Main_order_60 : decode b_Main_order 60 = .ok (.ireturn, 1) := by decide +kernel
theorem d_Main_clear_0 : decode b_Main_clear 0 = .ok ((.aload_n 0), 1) := by decide +kernel
theorem d_Main_clear_1 : decode b_Main_clear 1 = .ok ((.getfield 35), 3) := by decide +kernel
theorem d_Main_clear_4 : decode b_Main_clear 4 = .ok ((.invokevirtual 211), 3) := by decide +kernel
theorem d_Main_clear_7 : decode b_Main_clear 7 = .ok ((.aload_n 0), 1) := by decide +kernel
theorem d_Main_clear_8 : decode b_Main_clear 8 = .ok ((.iconst 1), 1) := by decide +kernel
theorem d_Main_clear_9 : decode b_Main_clear 9 = .ok ((.putfield 85), 3) := by decide +kernel
theorem d_Main_clear_12 : decode b_Main_clear 12 = .ok ((.aload_n 0), 1) := by decide +kernel
theorem d_Main_clear_13 : decode b_Main_clear 13 = .ok ((.getfield 62), 3) := by decide +kernel
theorem d_Main_clear_16 : decode b_Main_clear 16 = .ok ((.invokevirtual 214), 3) := by decide +kernel
theorem d_Main_clear_19 : decode b_Main_clear 19 = .ok ((.aload_n 0), 1) := by decide +kernel
theorem d_Main_clear_20 : decode b_Main_clear 20 = .ok ((.iconst 0), 1) := by decide +kernel
theorem d_Main_clear_21 : decode b_Main_clear 21 = .ok ((.putfield 81), 3) := by decide +kernel
theorem d_Main_clear_24 : decode b_Main_clear 24 = .ok (.return_, 1) := by decide +kernel
theorem d_Main_cube_0 : decode b_Main_cube 0 = .ok ((.aload_n 0), 1) := by decide +kernel
theorem d_Main_cube_1 : decode b_Main_cube 1 = .ok ((.getfield 35), 3) := by decide +kernel
theorem d_Main_cube_4 : decode b_Main_cube 4 = .ok ((.invokevirtual 88), 3) := by decide +kernel
theorem d_Main_cube_7 : decode b_Main_cube 7 = .ok ((.ifCond .eq 13), 3) := by decide +kernel
theorem d_Main_cube_10 : decode b_Main_cube 10 = .ok ((.new 92), 3) := by decide +kernel
theorem d_Main_cube_13 : decode b_Main_cube 13 = .ok (.dup, 1) := by decide +kernel
theorem d_Main_cube_14 : decode b_Main_cube 14 = .ok ((.ldc 94), 2) := by decide +kernel
theorem d_Main_cube_16 : decode b_Main_cube 16 = .ok ((.invokespecial 96), 3) := by decide +kernel
theorem d_Main_cube_19 : decode b_Main_cube 19 = .ok (.athrow, 1) := by decide +kernel
theorem d_Main_cube_20 : decode b_Main_cube 20 = .ok ((.aload_n 0), 1) := by decide +kernel
theorem d_Main_cube_21 : decode b_Main_cube 21 = .ok ((.getfield 35), 3) := by decide +kernel
theorem d_Main_cube_24 : decode b_Main_cube 24 = .ok ((.invokevirtual 99), 3) := by decide +kernel
theorem d_Main_cube_27 : decode b_Main_cube 27 = .ok (.ireturn, 1) := by decide +kernel
theorem d_Main_literal_0 : decode b_Main_literal 0 = .ok ((.aload_n 0), 1) := by decide +kernel
theorem d_Main_literal_1 : decode b_Main_literal 1 = .ok ((.getfield 35), 3) := by decide +kernel
theorem d_Main_literal_4 : decode b_Main_literal 4 = .ok ((.iload_n 1), 1) := by decide +kernel
theorem d_Main_literal_5 : decode b_Main_literal 5 = .ok ((.invokevirtual 103), 3) := by decide +kernel
theorem d_Main_literal_8 : decode b_Main_literal 8 = .ok ((.ifCond .eq 15), 3) := by decide +kernel
theorem d_Main_literal_11 : decode b_Main_literal 11 = .ok ((.iload_n 2), 1) := by decide +kernel
theorem d_Main_literal_12 : decode b_Main_literal 12 = .ok ((.ifCond .lt 11), 3) := by decide +kernel
theorem d_Main_literal_15 : decode b_Main_literal 15 = .ok ((.iload_n 2), 1) := by decide +kernel
theorem d_Main_literal_16 : decode b_Main_literal 16 = .ok ((.aload_n 0), 1) := by decide +kernel
theorem d_Main_literal_17 : decode b_Main_literal 17 = .ok ((.getfield 18), 3) := by decide +kernel
theorem d_Main_literal_20 : decode b_Main_literal 20 = .ok ((.if_icmp .lt 13), 3) := by decide +kernel
theorem d_Main_literal_23 : decode b_Main_literal 23 = .ok ((.new 107), 3) := by decide +kernel
theorem d_Main_literal_26 : decode b_Main_literal 26 = .ok (.dup, 1) := by decide +kernel
theorem d_Main_literal_27 : decode b_Main_literal 27 = .ok ((.ldc 109), 2) := by decide +kernel
theorem d_Main_literal_29 : decode b_Main_literal 29 = .ok ((.invokespecial 111), 3) := by decide +kernel
theorem d_Main_literal_32 : decode b_Main_literal 32 = .ok (.athrow, 1) := by decide +kernel
theorem d_Main_literal_33 : decode b_Main_literal 33 = .ok ((.iload_n 3), 1) := by decide +kernel
theorem d_Main_literal_34 : decode b_Main_literal 34 = .ok ((.ifCond .lt 8), 3) := by decide +kernel
theorem d_Main_literal_37 : decode b_Main_literal 37 = .ok ((.iload_n 3), 1) := by decide +kernel
theorem d_Main_literal_38 : decode b_Main_literal 38 = .ok ((.iconst 2), 1) := by decide +kernel
theorem d_Main_literal_39 : decode b_Main_literal 39 = .ok ((.if_icmp .le 13), 3) := by decide +kernel
theorem d_Main_literal_42 : decode b_Main_literal 42 = .ok ((.new 112), 3) := by decide +kernel
theorem d_Main_literal_45 : decode b_Main_literal 45 = .ok (.dup, 1) := by decide +kernel
theorem d_Main_literal_46 : decode b_Main_literal 46 = .ok ((.ldc 114), 2) := by decide +kernel
theorem d_Main_literal_48 : decode b_Main_literal 48 = .ok ((.invokespecial 116), 3) := by decide +kernel
theorem d_Main_literal_51 : decode b_Main_literal 51 = .ok (.athrow, 1) := by decide +kernel
theorem d_Main_literal_52 : decode b_Main_literal 52 = .ok ((.aload_n 0), 1) := by decide +kernel
theorem d_Main_literal_53 : decode b_Main_literal 53 = .ok ((.getfield 35), 3) := by decide +kernel
theorem d_Main_literal_56 : decode b_Main_literal 56 = .ok ((.iload_n 1), 1) := by decide +kernel
theorem d_Main_literal_57 : decode b_Main_literal 57 = .ok ((.iload_n 2), 1) := by decide +kernel
theorem d_Main_literal_58 : decode b_Main_literal 58 = .ok ((.iload_n 3), 1) := by decide +kernel
theorem d_Main_literal_59 : decode b_Main_literal 59 = .ok ((.invokevirtual 117), 3) := by decide +kernel
theorem d_Main_literal_62 : decode b_Main_literal 62 = .ok ((.istore 4), 2) := by decide +kernel
theorem d_Main_literal_64 : decode b_Main_literal 64 = .ok ((.aload_n 0), 1) := by decide +kernel
theorem d_Main_literal_65 : decode b_Main_literal 65 = .ok ((.aload_n 0), 1) := by decide +kernel
theorem d_Main_literal_66 : decode b_Main_literal 66 = .ok ((.getfield 85), 3) := by decide +kernel
theorem d_Main_literal_69 : decode b_Main_literal 69 = .ok ((.ifCond .ne 8), 3) := by decide +kernel
theorem d_Main_literal_72 : decode b_Main_literal 72 = .ok ((.iload 4), 2) := by decide +kernel
theorem d_Main_literal_74 : decode b_Main_literal 74 = .ok ((.ifCond .eq 7), 3) := by decide +kernel
theorem d_Main_literal_77 : decode b_Main_literal 77 = .ok ((.iconst 1), 1) := by decide +kernel
theorem d_Main_literal_78 : decode b_Main_literal 78 = .ok ((.goto 4), 3) := by decide +kernel
theorem d_Main_literal_81 : decode b_Main_literal 81 = .ok ((.iconst 0), 1) := by decide +kernel
theorem d_Main_literal_82 : decode b_Main_literal 82 = .ok ((.putfield 85), 3) := by decide +kernel
theorem d_Main_literal_85 : decode b_Main_literal 85 = .ok ((.iload 4), 2) := by decide +kernel
theorem d_Main_literal_87 : decode b_Main_literal 87 = .ok (.ireturn, 1) := by decide +kernel
theorem d_Main_to_0 : decode b_Main_to 0 = .ok ((.aload_n 0), 1) := by decide +kernel
theorem d_Main_to_1 : decode b_Main_to 1 = .ok ((.getfield 35), 3) := by decide +kernel
theorem d_Main_to_4 : decode b_Main_to 4 = .ok ((.iload_n 1), 1) := by decide +kernel
theorem d_Main_to_5 : decode b_Main_to 5 = .ok ((.invokevirtual 103), 3) := by decide +kernel
theorem d_Main_to_8 : decode b_Main_to 8 = .ok ((.ifCond .eq 15), 3) := by decide +kernel
theorem d_Main_to_11 : decode b_Main_to 11 = .ok ((.iload_n 2), 1) := by decide +kernel
theorem d_Main_to_12 : decode b_Main_to 12 = .ok ((.ifCond .lt 11), 3) := by decide +kernel
theorem d_Main_to_15 : decode b_Main_to 15 = .ok ((.iload_n 2), 1) := by decide +kernel
theorem d_Main_to_16 : decode b_Main_to 16 = .ok ((.aload_n 0), 1) := by decide +kernel
theorem d_Main_to_17 : decode b_Main_to 17 = .ok ((.getfield 22), 3) := by decide +kernel
theorem d_Main_to_20 : decode b_Main_to 20 = .ok ((.if_icmp .lt 13), 3) := by decide +kernel
theorem d_Main_to_23 : decode b_Main_to 23 = .ok ((.new 107), 3) := by decide +kernel
theorem d_Main_to_26 : decode b_Main_to 26 = .ok (.dup, 1) := by decide +kernel
theorem d_Main_to_27 : decode b_Main_to 27 = .ok ((.ldc 121), 2) := by decide +kernel
theorem d_Main_to_29 : decode b_Main_to 29 = .ok ((.invokespecial 111), 3) := by decide +kernel
theorem d_Main_to_32 : decode b_Main_to 32 = .ok (.athrow, 1) := by decide +kernel
theorem d_Main_to_33 : decode b_Main_to 33 = .ok ((.iload_n 3), 1) := by decide +kernel
theorem d_Main_to_34 : decode b_Main_to 34 = .ok ((.ifCond .lt 8), 3) := by decide +kernel
theorem d_Main_to_37 : decode b_Main_to 37 = .ok ((.iload_n 3), 1) := by decide +kernel
theorem d_Main_to_38 : decode b_Main_to 38 = .ok ((.iconst 2), 1) := by decide +kernel
theorem d_Main_to_39 : decode b_Main_to 39 = .ok ((.if_icmp .le 13), 3) := by decide +kernel
theorem d_Main_to_42 : decode b_Main_to 42 = .ok ((.new 112), 3) := by decide +kernel
theorem d_Main_to_45 : decode b_Main_to 45 = .ok (.dup, 1) := by decide +kernel
theorem d_Main_to_46 : decode b_Main_to 46 = .ok ((.ldc 123), 2) := by decide +kernel
theorem d_Main_to_48 : decode b_Main_to 48 = .ok ((.invokespecial 116), 3) := by decide +kernel
theorem d_Main_to_51 : decode b_Main_to 51 = .ok (.athrow, 1) := by decide +kernel
theorem d_Main_to_52 : decode b_Main_to 52 = .ok ((.aload_n 0), 1) := by decide +kernel
theorem d_Main_to_53 : decode b_Main_to 53 = .ok ((.getfield 35), 3) := by decide +kernel
theorem d_Main_to_56 : decode b_Main_to 56 = .ok ((.iload_n 1), 1) := by decide +kernel
theorem d_Main_to_57 : decode b_Main_to 57 = .ok ((.iload_n 2), 1) := by decide +kernel
theorem d_Main_to_58 : decode b_Main_to 58 = .ok ((.iload_n 3), 1) := by decide +kernel
theorem d_Main_to_59 : decode b_Main_to 59 = .ok ((.invokevirtual 125), 3) := by decide +kernel
theorem d_Main_to_62 : decode b_Main_to 62 = .ok ((.istore 4), 2) := by decide +kernel
theorem d_Main_to_64 : decode b_Main_to 64 = .ok ((.aload_n 0), 1) := by decide +kernel
theorem d_Main_to_65 : decode b_Main_to 65 = .ok ((.aload_n 0), 1) := by decide +kernel
theorem d_Main_to_66 : decode b_Main_to 66 = .ok ((.getfield 85), 3) := by decide +kernel
theorem d_Main_to_69 : decode b_Main_to 69 = .ok ((.ifCond .ne 8), 3) := by decide +kernel
theorem d_Main_to_72 : decode b_Main_to 72 = .ok ((.iload 4), 2) := by decide +kernel
theorem d_Main_to_74 : decode b_Main_to 74 = .ok ((.ifCond .eq 7), 3) := by decide +kernel
theorem d_Main_to_77 : decode b_Main_to 77 = .ok ((.iconst 1), 1) := by decide +kernel
theorem d_Main_to_78 : decode b_Main_to 78 = .ok ((.goto 4), 3) := by decide +kernel
theorem d_Main_to_81 : decode b_Main_to 81 = .ok ((.iconst 0), 1) := by decide +kernel
theorem d_Main_to_82 : decode b_Main_to 82 = .ok ((.putfield 85), 3) := by decide +kernel
theorem d_Main_to_85 : decode b_Main_to 85 = .ok ((.iload 4), 2) := by decide +kernel
theorem d_Main_to_87 : decode b_Main_to 87 = .ok (.ireturn, 1) := by decide +kernel
theorem d_Main_prime_0 : decode b_Main_prime 0 = .ok ((.aload_n 0), 1) := by decide +kernel
theorem d_Main_prime_1 : decode b_Main_prime 1 = .ok ((.invokevirtual 128), 3) := by decide +kernel
theorem d_Main_prime_4 : decode b_Main_prime 4 = .ok ((.aload_n 0), 1) := by decide +kernel
theorem d_Main_prime_5 : decode b_Main_prime 5 = .ok ((.getfield 44), 3) := by decide +kernel
theorem d_Main_prime_8 : decode b_Main_prime 8 = .ok ((.iload_n 1), 1) := by decide +kernel
theorem d_Main_prime_9 : decode b_Main_prime 9 = .ok ((.invokevirtual 134), 3) := by decide +kernel
theorem d_Main_prime_12 : decode b_Main_prime 12 = .ok ((.ifCond .eq 11), 3) := by decide +kernel
theorem d_Main_prime_15 : decode b_Main_prime 15 = .ok ((.aload_n 0), 1) := by decide +kernel
theorem d_Main_prime_16 : decode b_Main_prime 16 = .ok ((.iload_n 2), 1) := by decide +kernel
theorem d_Main_prime_17 : decode b_Main_prime 17 = .ok ((.invokevirtual 135), 3) := by decide +kernel
theorem d_Main_prime_20 : decode b_Main_prime 20 = .ok ((.ifCond .ne 13), 3) := by decide +kernel
theorem d_Main_prime_23 : decode b_Main_prime 23 = .ok ((.new 107), 3) := by decide +kernel
theorem d_Main_prime_26 : decode b_Main_prime 26 = .ok (.dup, 1) := by decide +kernel
theorem d_Main_prime_27 : decode b_Main_prime 27 = .ok ((.ldc 138), 2) := by decide +kernel
theorem d_Main_prime_29 : decode b_Main_prime 29 = .ok ((.invokespecial 111), 3) := by decide +kernel
theorem d_Main_prime_32 : decode b_Main_prime 32 = .ok (.athrow, 1) := by decide +kernel
theorem d_Main_prime_33 : decode b_Main_prime 33 = .ok ((.aload_n 0), 1) := by decide +kernel
theorem d_Main_prime_34 : decode b_Main_prime 34 = .ok ((.getfield 44), 3) := by decide +kernel
theorem d_Main_prime_37 : decode b_Main_prime 37 = .ok ((.iload_n 1), 1) := by decide +kernel
theorem d_Main_prime_38 : decode b_Main_prime 38 = .ok ((.iload_n 2), 1) := by decide +kernel
theorem d_Main_prime_39 : decode b_Main_prime 39 = .ok ((.invokevirtual 140), 3) := by decide +kernel
theorem d_Main_prime_42 : decode b_Main_prime 42 = .ok (.ireturn, 1) := by decide +kernel
theorem d_Main_isColumn_0 : decode b_Main_isColumn 0 = .ok ((.iload_n 1), 1) := by decide +kernel
theorem d_Main_isColumn_1 : decode b_Main_isColumn 1 = .ok ((.ifCond .lt 20), 3) := by decide +kernel
theorem d_Main_isColumn_4 : decode b_Main_isColumn 4 = .ok ((.iload_n 1), 1) := by decide +kernel
theorem d_Main_isColumn_5 : decode b_Main_isColumn 5 = .ok ((.aload_n 0), 1) := by decide +kernel
theorem d_Main_isColumn_6 : decode b_Main_isColumn 6 = .ok ((.getfield 18), 3) := by decide +kernel
theorem d_Main_isColumn_9 : decode b_Main_isColumn 9 = .ok ((.aload_n 0), 1) := by decide +kernel
theorem d_Main_isColumn_10 : decode b_Main_isColumn 10 = .ok ((.getfield 22), 3) := by decide +kernel
theorem d_Main_isColumn_13 : decode b_Main_isColumn 13 = .ok (.iadd, 1) := by decide +kernel
theorem d_Main_isColumn_14 : decode b_Main_isColumn 14 = .ok ((.if_icmp .ge 7), 3) := by decide +kernel
theorem d_Main_isColumn_17 : decode b_Main_isColumn 17 = .ok ((.iconst 1), 1) := by decide +kernel
theorem d_Main_isColumn_18 : decode b_Main_isColumn 18 = .ok ((.goto 4), 3) := by decide +kernel
theorem d_Main_isColumn_21 : decode b_Main_isColumn 21 = .ok ((.iconst 0), 1) := by decide +kernel
theorem d_Main_isColumn_22 : decode b_Main_isColumn 22 = .ok (.ireturn, 1) := by decide +kernel
theorem d_Main_run_0 : decode b_Main_run 0 = .ok ((.lload_n 2), 1) := by decide +kernel
theorem d_Main_run_1 : decode b_Main_run 1 = .ok ((.lconst 0), 1) := by decide +kernel
theorem d_Main_run_2 : decode b_Main_run 2 = .ok (.lcmp, 1) := by decide +kernel
theorem d_Main_run_3 : decode b_Main_run 3 = .ok ((.ifCond .ge 13), 3) := by decide +kernel
theorem d_Main_run_6 : decode b_Main_run 6 = .ok ((.new 112), 3) := by decide +kernel
theorem d_Main_run_9 : decode b_Main_run 9 = .ok (.dup, 1) := by decide +kernel
theorem d_Main_run_10 : decode b_Main_run 10 = .ok ((.ldc 143), 2) := by decide +kernel
theorem d_Main_run_12 : decode b_Main_run 12 = .ok ((.invokespecial 116), 3) := by decide +kernel
theorem d_Main_run_15 : decode b_Main_run 15 = .ok (.athrow, 1) := by decide +kernel
theorem d_Main_run_16 : decode b_Main_run 16 = .ok ((.aload_n 0), 1) := by decide +kernel
theorem d_Main_run_17 : decode b_Main_run 17 = .ok ((.invokevirtual 128), 3) := by decide +kernel
theorem d_Main_run_20 : decode b_Main_run 20 = .ok ((.aload_n 0), 1) := by decide +kernel
theorem d_Main_run_21 : decode b_Main_run 21 = .ok ((.getfield 44), 3) := by decide +kernel
theorem d_Main_run_24 : decode b_Main_run 24 = .ok ((.invokevirtual 131), 3) := by decide +kernel
theorem d_Main_run_27 : decode b_Main_run 27 = .ok (.i2l, 1) := by decide +kernel
theorem d_Main_run_28 : decode b_Main_run 28 = .ok ((.lload_n 2), 1) := by decide +kernel
theorem d_Main_run_29 : decode b_Main_run 29 = .ok (.lcmp, 1) := by decide +kernel
theorem d_Main_run_30 : decode b_Main_run 30 = .ok ((.ifCond .le 5), 3) := by decide +kernel
theorem d_Main_run_33 : decode b_Main_run 33 = .ok ((.iconst (-1)), 1) := by decide +kernel
theorem d_Main_run_34 : decode b_Main_run 34 = .ok (.ireturn, 1) := by decide +kernel
theorem d_Main_run_35 : decode b_Main_run 35 = .ok ((.aload_n 0), 1) := by decide +kernel
theorem d_Main_run_36 : decode b_Main_run 36 = .ok ((.getfield 58), 3) := by decide +kernel
theorem d_Main_run_39 : decode b_Main_run 39 = .ok ((.aload_n 0), 1) := by decide +kernel
theorem d_Main_run_40 : decode b_Main_run 40 = .ok ((.getfield 44), 3) := by decide +kernel
theorem d_Main_run_43 : decode b_Main_run 43 = .ok ((.aload_n 0), 1) := by decide +kernel
theorem d_Main_run_44 : decode b_Main_run 44 = .ok ((.getfield 35), 3) := by decide +kernel
theorem d_Main_run_47 : decode b_Main_run 47 = .ok ((.iload_n 1), 1) := by decide +kernel
theorem d_Main_run_48 : decode b_Main_run 48 = .ok ((.invokevirtual 145), 3) := by decide +kernel
theorem d_Main_run_51 : decode b_Main_run 51 = .ok ((.aload_n 0), 1) := by decide +kernel
theorem d_Main_run_52 : decode b_Main_run 52 = .ok ((.getfield 62), 3) := by decide +kernel
theorem d_Main_run_55 : decode b_Main_run 55 = .ok ((.aload_n 0), 1) := by decide +kernel
theorem d_Main_run_56 : decode b_Main_run 56 = .ok ((.getfield 44), 3) := by decide +kernel
theorem d_Main_run_59 : decode b_Main_run 59 = .ok ((.aload_n 0), 1) := by decide +kernel
theorem d_Main_run_60 : decode b_Main_run 60 = .ok ((.getfield 58), 3) := by decide +kernel
theorem d_Main_run_63 : decode b_Main_run 63 = .ok ((.invokevirtual 149), 3) := by decide +kernel
theorem d_Main_run_66 : decode b_Main_run 66 = .ok ((.invokevirtual 153), 3) := by decide +kernel
theorem d_Main_run_69 : decode b_Main_run 69 = .ok ((.aload_n 0), 1) := by decide +kernel
theorem d_Main_run_70 : decode b_Main_run 70 = .ok ((.iconst 1), 1) := by decide +kernel
theorem d_Main_run_71 : decode b_Main_run 71 = .ok ((.putfield 81), 3) := by decide +kernel
theorem d_Main_run_74 : decode b_Main_run 74 = .ok ((.aload_n 0), 1) := by decide +kernel
theorem d_Main_run_75 : decode b_Main_run 75 = .ok ((.getfield 68), 3) := by decide +kernel
theorem d_Main_run_78 : decode b_Main_run 78 = .ok ((.invokevirtual 157), 3) := by decide +kernel
theorem d_Main_run_81 : decode b_Main_run 81 = .ok ((.aload_n 0), 1) := by decide +kernel
theorem d_Main_run_82 : decode b_Main_run 82 = .ok ((.getfield 62), 3) := by decide +kernel
theorem d_Main_run_85 : decode b_Main_run 85 = .ok ((.invokevirtual 131), 3) := by decide +kernel
theorem d_Main_run_88 : decode b_Main_run 88 = .ok (.ireturn, 1) := by decide +kernel
theorem d_Main_at_0 : decode b_Main_at 0 = .ok ((.aload_n 0), 1) := by decide +kernel
theorem d_Main_at_1 : decode b_Main_at 1 = .ok ((.invokevirtual 160), 3) := by decide +kernel
theorem d_Main_at_4 : decode b_Main_at 4 = .ok ((.aload_n 0), 1) := by decide +kernel
theorem d_Main_at_5 : decode b_Main_at 5 = .ok ((.getfield 62), 3) := by decide +kernel
theorem d_Main_at_8 : decode b_Main_at 8 = .ok ((.iload_n 1), 1) := by decide +kernel
theorem d_Main_at_9 : decode b_Main_at 9 = .ok ((.invokevirtual 134), 3) := by decide +kernel
theorem d_Main_at_12 : decode b_Main_at 12 = .ok ((.ifCond .eq 11), 3) := by decide +kernel
theorem d_Main_at_15 : decode b_Main_at 15 = .ok ((.aload_n 0), 1) := by decide +kernel
theorem d_Main_at_16 : decode b_Main_at 16 = .ok ((.iload_n 2), 1) := by decide +kernel
theorem d_Main_at_17 : decode b_Main_at 17 = .ok ((.invokevirtual 135), 3) := by decide +kernel
theorem d_Main_at_20 : decode b_Main_at 20 = .ok ((.ifCond .ne 13), 3) := by decide +kernel
theorem d_Main_at_23 : decode b_Main_at 23 = .ok ((.new 107), 3) := by decide +kernel
theorem d_Main_at_26 : decode b_Main_at 26 = .ok (.dup, 1) := by decide +kernel
theorem d_Main_at_27 : decode b_Main_at 27 = .ok ((.ldc 163), 2) := by decide +kernel
theorem d_Main_at_29 : decode b_Main_at 29 = .ok ((.invokespecial 111), 3) := by decide +kernel
theorem d_Main_at_32 : decode b_Main_at 32 = .ok (.athrow, 1) := by decide +kernel
theorem d_Main_at_33 : decode b_Main_at 33 = .ok ((.aload_n 0), 1) := by decide +kernel
theorem d_Main_at_34 : decode b_Main_at 34 = .ok ((.getfield 62), 3) := by decide +kernel
theorem d_Main_at_37 : decode b_Main_at 37 = .ok ((.iload_n 1), 1) := by decide +kernel
theorem d_Main_at_38 : decode b_Main_at 38 = .ok ((.iload_n 2), 1) := by decide +kernel
theorem d_Main_at_39 : decode b_Main_at 39 = .ok ((.invokevirtual 140), 3) := by decide +kernel
theorem d_Main_at_42 : decode b_Main_at 42 = .ok (.ireturn, 1) := by decide +kernel
theorem d_Main_needKept_0 : decode b_Main_needKept 0 = .ok ((.aload_n 0), 1) := by decide +kernel
theorem d_Main_needKept_1 : decode b_Main_needKept 1 = .ok ((.getfield 81), 3) := by decide +kernel
theorem d_Main_needKept_4 : decode b_Main_needKept 4 = .ok ((.ifCond .ne 13), 3) := by decide +kernel
theorem d_Main_needKept_7 : decode b_Main_needKept 7 = .ok ((.new 215), 3) := by decide +kernel
theorem d_Main_needKept_10 : decode b_Main_needKept 10 = .ok (.dup, 1) := by decide +kernel
theorem d_Main_needKept_11 : decode b_Main_needKept 11 = .ok ((.ldc 217), 2) := by decide +kernel
theorem d_Main_needKept_13 : decode b_Main_needKept 13 = .ok ((.invokespecial 219), 3) := by decide +kernel
theorem d_Main_needKept_16 : decode b_Main_needKept 16 = .ok (.athrow, 1) := by decide +kernel
theorem d_Main_needKept_17 : decode b_Main_needKept 17 = .ok (.return_, 1) := by decide +kernel
theorem d_Main_cost_0 : decode b_Main_cost 0 = .ok ((.aload_n 0), 1) := by decide +kernel
theorem d_Main_cost_1 : decode b_Main_cost 1 = .ok ((.invokevirtual 160), 3) := by decide +kernel
theorem d_Main_cost_4 : decode b_Main_cost 4 = .ok ((.lconst 0), 1) := by decide +kernel
theorem d_Main_cost_5 : decode b_Main_cost 5 = .ok ((.lstore_n 1), 1) := by decide +kernel
theorem d_Main_cost_6 : decode b_Main_cost 6 = .ok ((.iconst 0), 1) := by decide +kernel
theorem d_Main_cost_7 : decode b_Main_cost 7 = .ok ((.istore_n 3), 1) := by decide +kernel
theorem d_Main_cost_8 : decode b_Main_cost 8 = .ok ((.iload_n 3), 1) := by decide +kernel
theorem d_Main_cost_9 : decode b_Main_cost 9 = .ok ((.aload_n 0), 1) := by decide +kernel
theorem d_Main_cost_10 : decode b_Main_cost 10 = .ok ((.getfield 62), 3) := by decide +kernel
theorem d_Main_cost_13 : decode b_Main_cost 13 = .ok ((.invokevirtual 131), 3) := by decide +kernel
theorem d_Main_cost_16 : decode b_Main_cost 16 = .ok ((.if_icmp .ge 21), 3) := by decide +kernel
theorem d_Main_cost_19 : decode b_Main_cost 19 = .ok ((.lload_n 1), 1) := by decide +kernel
theorem d_Main_cost_20 : decode b_Main_cost 20 = .ok ((.aload_n 0), 1) := by decide +kernel
theorem d_Main_cost_21 : decode b_Main_cost 21 = .ok ((.getfield 62), 3) := by decide +kernel
theorem d_Main_cost_24 : decode b_Main_cost 24 = .ok ((.iload_n 3), 1) := by decide +kernel
theorem d_Main_cost_25 : decode b_Main_cost 25 = .ok ((.invokevirtual 169), 3) := by decide +kernel
theorem d_Main_cost_28 : decode b_Main_cost 28 = .ok (.i2l, 1) := by decide +kernel
theorem d_Main_cost_29 : decode b_Main_cost 29 = .ok (.ladd, 1) := by decide +kernel
theorem d_Main_cost_30 : decode b_Main_cost 30 = .ok ((.lstore_n 1), 1) := by decide +kernel
theorem d_Main_cost_31 : decode b_Main_cost 31 = .ok ((.iinc 3 1), 3) := by decide +kernel
theorem d_Main_cost_34 : decode b_Main_cost 34 = .ok ((.goto (-26)), 3) := by decide +kernel
theorem d_Main_cost_37 : decode b_Main_cost 37 = .ok ((.lload_n 1), 1) := by decide +kernel
theorem d_Main_cost_38 : decode b_Main_cost 38 = .ok (.lreturn, 1) := by decide +kernel
theorem d_Main_kernels_0 : decode b_Main_kernels 0 = .ok ((.aload_n 0), 1) := by decide +kernel
theorem d_Main_kernels_1 : decode b_Main_kernels 1 = .ok ((.invokevirtual 160), 3) := by decide +kernel
theorem d_Main_kernels_4 : decode b_Main_kernels 4 = .ok ((.aload_n 0), 1) := by decide +kernel
theorem d_Main_kernels_5 : decode b_Main_kernels 5 = .ok ((.getfield 68), 3) := by decide +kernel
theorem d_Main_kernels_8 : decode b_Main_kernels 8 = .ok ((.aload_n 0), 1) := by decide +kernel
theorem d_Main_kernels_9 : decode b_Main_kernels 9 = .ok ((.getfield 62), 3) := by decide +kernel
theorem d_Main_kernels_12 : decode b_Main_kernels 12 = .ok ((.invokevirtual 172), 3) := by decide +kernel
theorem d_Main_kernels_15 : decode b_Main_kernels 15 = .ok (.ireturn, 1) := by decide +kernel
theorem d_Main_divide_0 : decode b_Main_divide 0 = .ok ((.aload_n 0), 1) := by decide +kernel
theorem d_Main_divide_1 : decode b_Main_divide 1 = .ok ((.invokevirtual 160), 3) := by decide +kernel
theorem d_Main_divide_4 : decode b_Main_divide 4 = .ok ((.iload_n 1), 1) := by decide +kernel
theorem d_Main_divide_5 : decode b_Main_divide 5 = .ok ((.ifCond .eq 17), 3) := by decide +kernel
theorem d_Main_divide_8 : decode b_Main_divide 8 = .ok ((.iload_n 1), 1) := by decide +kernel
theorem d_Main_divide_9 : decode b_Main_divide 9 = .ok ((.aload_n 0), 1) := by decide +kernel
theorem d_Main_divide_10 : decode b_Main_divide 10 = .ok ((.getfield 62), 3) := by decide +kernel
theorem d_Main_divide_13 : decode b_Main_divide 13 = .ok ((.invokevirtual 131), 3) := by decide +kernel
theorem d_Main_divide_16 : decode b_Main_divide 16 = .ok ((.invokestatic 176), 3) := by decide +kernel
theorem d_Main_divide_19 : decode b_Main_divide 19 = .ok ((.ifCond .eq 13), 3) := by decide +kernel
theorem d_Main_divide_22 : decode b_Main_divide 22 = .ok ((.new 112), 3) := by decide +kernel
theorem d_Main_divide_25 : decode b_Main_divide 25 = .ok (.dup, 1) := by decide +kernel
theorem d_Main_divide_26 : decode b_Main_divide 26 = .ok ((.ldc 180), 2) := by decide +kernel
theorem d_Main_divide_28 : decode b_Main_divide 28 = .ok ((.invokespecial 116), 3) := by decide +kernel
theorem d_Main_divide_31 : decode b_Main_divide 31 = .ok (.athrow, 1) := by decide +kernel
theorem d_Main_divide_32 : decode b_Main_divide 32 = .ok ((.aload_n 0), 1) := by decide +kernel
theorem d_Main_divide_33 : decode b_Main_divide 33 = .ok ((.getfield 68), 3) := by decide +kernel
theorem d_Main_divide_36 : decode b_Main_divide 36 = .ok ((.aload_n 0), 1) := by decide +kernel
theorem d_Main_divide_37 : decode b_Main_divide 37 = .ok ((.getfield 62), 3) := by decide +kernel
theorem d_Main_divide_40 : decode b_Main_divide 40 = .ok ((.iload_n 1), 1) := by decide +kernel
theorem d_Main_divide_41 : decode b_Main_divide 41 = .ok ((.invokevirtual 182), 3) := by decide +kernel
theorem d_Main_divide_44 : decode b_Main_divide 44 = .ok (.ireturn, 1) := by decide +kernel
theorem d_Main_hasBitFrom_0 : decode b_Main_hasBitFrom 0 = .ok ((.iload_n 1), 1) := by decide +kernel
theorem d_Main_hasBitFrom_1 : decode b_Main_hasBitFrom 1 = .ok ((.bipush 32), 2) := by decide +kernel
theorem d_Main_hasBitFrom_3 : decode b_Main_hasBitFrom 3 = .ok ((.if_icmp .ge 13), 3) := by decide +kernel
theorem d_Main_hasBitFrom_6 : decode b_Main_hasBitFrom 6 = .ok ((.iload_n 0), 1) := by decide +kernel
theorem d_Main_hasBitFrom_7 : decode b_Main_hasBitFrom 7 = .ok ((.iload_n 1), 1) := by decide +kernel
theorem d_Main_hasBitFrom_8 : decode b_Main_hasBitFrom 8 = .ok (.iushr, 1) := by decide +kernel
theorem d_Main_hasBitFrom_9 : decode b_Main_hasBitFrom 9 = .ok ((.ifCond .eq 7), 3) := by decide +kernel
theorem d_Main_hasBitFrom_12 : decode b_Main_hasBitFrom 12 = .ok ((.iconst 1), 1) := by decide +kernel
theorem d_Main_hasBitFrom_13 : decode b_Main_hasBitFrom 13 = .ok ((.goto 4), 3) := by decide +kernel
theorem d_Main_hasBitFrom_16 : decode b_Main_hasBitFrom 16 = .ok ((.iconst 0), 1) := by decide +kernel
theorem d_Main_hasBitFrom_17 : decode b_Main_hasBitFrom 17 = .ok (.ireturn, 1) := by decide +kernel
theorem d_Main_quotient_0 : decode b_Main_quotient 0 = .ok ((.aload_n 0), 1) := by decide +kernel
theorem d_Main_quotient_1 : decode b_Main_quotient 1 = .ok ((.getfield 68), 3) := by decide +kernel
theorem d_Main_quotient_4 : decode b_Main_quotient 4 = .ok ((.iload_n 1), 1) := by decide +kernel
theorem d_Main_quotient_5 : decode b_Main_quotient 5 = .ok ((.invokevirtual 186), 3) := by decide +kernel
theorem d_Main_quotient_8 : decode b_Main_quotient 8 = .ok ((.ifCond .ne 13), 3) := by decide +kernel
theorem d_Main_quotient_11 : decode b_Main_quotient 11 = .ok ((.new 107), 3) := by decide +kernel
theorem d_Main_quotient_14 : decode b_Main_quotient 14 = .ok (.dup, 1) := by decide +kernel
theorem d_Main_quotient_15 : decode b_Main_quotient 15 = .ok ((.ldc 187), 2) := by decide +kernel
theorem d_Main_quotient_17 : decode b_Main_quotient 17 = .ok ((.invokespecial 111), 3) := by decide +kernel
theorem d_Main_quotient_20 : decode b_Main_quotient 20 = .ok (.athrow, 1) := by decide +kernel
theorem d_Main_quotient_21 : decode b_Main_quotient 21 = .ok ((.aload_n 0), 1) := by decide +kernel
theorem d_Main_quotient_22 : decode b_Main_quotient 22 = .ok ((.getfield 68), 3) := by decide +kernel
theorem d_Main_quotient_25 : decode b_Main_quotient 25 = .ok ((.iload_n 1), 1) := by decide +kernel
theorem d_Main_quotient_26 : decode b_Main_quotient 26 = .ok ((.invokevirtual 189), 3) := by decide +kernel
theorem d_Main_quotient_29 : decode b_Main_quotient 29 = .ok (.ireturn, 1) := by decide +kernel
theorem d_Main_diagram_0 : decode b_Main_diagram 0 = .ok ((.iload_n 1), 1) := by decide +kernel
theorem d_Main_diagram_1 : decode b_Main_diagram 1 = .ok ((.ifCond .lt 14), 3) := by decide +kernel
theorem d_Main_diagram_4 : decode b_Main_diagram 4 = .ok ((.iload_n 1), 1) := by decide +kernel
theorem d_Main_diagram_5 : decode b_Main_diagram 5 = .ok ((.aload_n 0), 1) := by decide +kernel
theorem d_Main_diagram_6 : decode b_Main_diagram 6 = .ok ((.getfield 77), 3) := by decide +kernel
theorem d_Main_diagram_9 : decode b_Main_diagram 9 = .ok ((.invokevirtual 192), 3) := by decide +kernel
theorem d_Main_diagram_12 : decode b_Main_diagram 12 = .ok ((.if_icmp .lt 13), 3) := by decide +kernel
theorem d_Main_diagram_15 : decode b_Main_diagram 15 = .ok ((.new 112), 3) := by decide +kernel
theorem d_Main_diagram_18 : decode b_Main_diagram 18 = .ok (.dup, 1) := by decide +kernel
theorem d_Main_diagram_19 : decode b_Main_diagram 19 = .ok ((.ldc 195), 2) := by decide +kernel
theorem d_Main_diagram_21 : decode b_Main_diagram 21 = .ok ((.invokespecial 116), 3) := by decide +kernel
theorem d_Main_diagram_24 : decode b_Main_diagram 24 = .ok (.athrow, 1) := by decide +kernel
theorem d_Main_diagram_25 : decode b_Main_diagram 25 = .ok ((.aload_n 0), 1) := by decide +kernel
theorem d_Main_diagram_26 : decode b_Main_diagram 26 = .ok ((.getfield 77), 3) := by decide +kernel
theorem d_Main_diagram_29 : decode b_Main_diagram 29 = .ok ((.iload_n 1), 1) := by decide +kernel
theorem d_Main_diagram_30 : decode b_Main_diagram 30 = .ok ((.aload_n 0), 1) := by decide +kernel
theorem d_Main_diagram_31 : decode b_Main_diagram 31 = .ok ((.getfield 35), 3) := by decide +kernel
theorem d_Main_diagram_34 : decode b_Main_diagram 34 = .ok ((.invokevirtual 197), 3) := by decide +kernel
theorem d_Main_diagram_37 : decode b_Main_diagram 37 = .ok (.ireturn, 1) := by decide +kernel
theorem d_Main_equal_0 : decode b_Main_equal 0 = .ok ((.aload_n 0), 1) := by decide +kernel
theorem d_Main_equal_1 : decode b_Main_equal 1 = .ok ((.invokevirtual 160), 3) := by decide +kernel
theorem d_Main_equal_4 : decode b_Main_equal 4 = .ok ((.iconst 0), 1) := by decide +kernel
theorem d_Main_equal_5 : decode b_Main_equal 5 = .ok ((.istore_n 1), 1) := by decide +kernel
theorem d_Main_equal_6 : decode b_Main_equal 6 = .ok ((.iload_n 1), 1) := by decide +kernel
theorem d_Main_equal_7 : decode b_Main_equal 7 = .ok ((.aload_n 0), 1) := by decide +kernel
theorem d_Main_equal_8 : decode b_Main_equal 8 = .ok ((.getfield 22), 3) := by decide +kernel
theorem d_Main_equal_11 : decode b_Main_equal 11 = .ok ((.if_icmp .ge 50), 3) := by decide +kernel
theorem d_Main_equal_14 : decode b_Main_equal 14 = .ok ((.aload_n 0), 1) := by decide +kernel
theorem d_Main_equal_15 : decode b_Main_equal 15 = .ok ((.getfield 62), 3) := by decide +kernel
theorem d_Main_equal_18 : decode b_Main_equal 18 = .ok ((.iload_n 1), 1) := by decide +kernel
theorem d_Main_equal_19 : decode b_Main_equal 19 = .ok ((.invokevirtual 201), 3) := by decide +kernel
theorem d_Main_equal_22 : decode b_Main_equal 22 = .ok ((.istore_n 2), 1) := by decide +kernel
theorem d_Main_equal_23 : decode b_Main_equal 23 = .ok ((.aload_n 0), 1) := by decide +kernel
theorem d_Main_equal_24 : decode b_Main_equal 24 = .ok ((.getfield 35), 3) := by decide +kernel
theorem d_Main_equal_27 : decode b_Main_equal 27 = .ok ((.iload_n 1), 1) := by decide +kernel
theorem d_Main_equal_28 : decode b_Main_equal 28 = .ok ((.invokevirtual 204), 3) := by decide +kernel
theorem d_Main_equal_31 : decode b_Main_equal 31 = .ok ((.iload_n 2), 1) := by decide +kernel
theorem d_Main_equal_32 : decode b_Main_equal 32 = .ok ((.iconst (-1)), 1) := by decide +kernel
theorem d_Main_equal_33 : decode b_Main_equal 33 = .ok (.ixor, 1) := by decide +kernel
theorem d_Main_equal_34 : decode b_Main_equal 34 = .ok (.iand, 1) := by decide +kernel
theorem d_Main_equal_35 : decode b_Main_equal 35 = .ok ((.ifCond .ne 18), 3) := by decide +kernel
theorem d_Main_equal_38 : decode b_Main_equal 38 = .ok ((.iload_n 2), 1) := by decide +kernel
theorem d_Main_equal_39 : decode b_Main_equal 39 = .ok ((.aload_n 0), 1) := by decide +kernel
theorem d_Main_equal_40 : decode b_Main_equal 40 = .ok ((.getfield 35), 3) := by decide +kernel
theorem d_Main_equal_43 : decode b_Main_equal 43 = .ok ((.iload_n 1), 1) := by decide +kernel
theorem d_Main_equal_44 : decode b_Main_equal 44 = .ok ((.invokevirtual 165), 3) := by decide +kernel
theorem d_Main_equal_47 : decode b_Main_equal 47 = .ok ((.iconst (-1)), 1) := by decide +kernel
theorem d_Main_equal_48 : decode b_Main_equal 48 = .ok (.ixor, 1) := by decide +kernel
theorem d_Main_equal_49 : decode b_Main_equal 49 = .ok (.iand, 1) := by decide +kernel
theorem d_Main_equal_50 : decode b_Main_equal 50 = .ok ((.ifCond .eq 5), 3) := by decide +kernel
theorem d_Main_equal_53 : decode b_Main_equal 53 = .ok ((.iconst 0), 1) := by decide +kernel
theorem d_Main_equal_54 : decode b_Main_equal 54 = .ok (.ireturn, 1) := by decide +kernel
theorem d_Main_equal_55 : decode b_Main_equal 55 = .ok ((.iinc 1 1), 3) := by decide +kernel
theorem d_Main_equal_58 : decode b_Main_equal 58 = .ok ((.goto (-52)), 3) := by decide +kernel
theorem d_Main_equal_61 : decode b_Main_equal 61 = .ok ((.iconst 1), 1) := by decide +kernel
theorem d_Main_equal_62 : decode b_Main_equal 62 = .ok (.ireturn, 1) := by decide +kernel
theorem d_Main_value_0 : decode b_Main_value 0 = .ok ((.aload_n 0), 1) := by decide +kernel
theorem d_Main_value_1 : decode b_Main_value 1 = .ok ((.invokevirtual 160), 3) := by decide +kernel
theorem d_Main_value_4 : decode b_Main_value 4 = .ok ((.iload_n 3), 1) := by decide +kernel
theorem d_Main_value_5 : decode b_Main_value 5 = .ok ((.ifCond .lt 11), 3) := by decide +kernel
theorem d_Main_value_8 : decode b_Main_value 8 = .ok ((.iload_n 3), 1) := by decide +kernel
theorem d_Main_value_9 : decode b_Main_value 9 = .ok ((.aload_n 0), 1) := by decide +kernel
theorem d_Main_value_10 : decode b_Main_value 10 = .ok ((.getfield 22), 3) := by decide +kernel
theorem d_Main_value_13 : decode b_Main_value 13 = .ok ((.if_icmp .lt 13), 3) := by decide +kernel
theorem d_Main_value_16 : decode b_Main_value 16 = .ok ((.new 107), 3) := by decide +kernel
theorem d_Main_value_19 : decode b_Main_value 19 = .ok (.dup, 1) := by decide +kernel
theorem d_Main_value_20 : decode b_Main_value 20 = .ok ((.ldc 207), 2) := by decide +kernel
theorem d_Main_value_22 : decode b_Main_value 22 = .ok ((.invokespecial 111), 3) := by decide +kernel
theorem d_Main_value_25 : decode b_Main_value 25 = .ok (.athrow, 1) := by decide +kernel
theorem d_Main_value_26 : decode b_Main_value 26 = .ok ((.lload_n 1), 1) := by decide +kernel
theorem d_Main_value_27 : decode b_Main_value 27 = .ok ((.lconst 0), 1) := by decide +kernel
theorem d_Main_value_28 : decode b_Main_value 28 = .ok (.lcmp, 1) := by decide +kernel
theorem d_Main_value_29 : decode b_Main_value 29 = .ok ((.ifCond .lt 15), 3) := by decide +kernel
theorem d_Main_value_32 : decode b_Main_value 32 = .ok ((.lload_n 1), 1) := by decide +kernel
theorem d_Main_value_33 : decode b_Main_value 33 = .ok ((.iconst 1), 1) := by decide +kernel
theorem d_Main_value_34 : decode b_Main_value 34 = .ok ((.aload_n 0), 1) := by decide +kernel
theorem d_Main_value_35 : decode b_Main_value 35 = .ok ((.getfield 18), 3) := by decide +kernel
theorem d_Main_value_38 : decode b_Main_value 38 = .ok (.ishl, 1) := by decide +kernel
theorem d_Main_value_39 : decode b_Main_value 39 = .ok (.i2l, 1) := by decide +kernel
theorem d_Main_value_40 : decode b_Main_value 40 = .ok (.lcmp, 1) := by decide +kernel
theorem d_Main_value_41 : decode b_Main_value 41 = .ok ((.ifCond .lt 13), 3) := by decide +kernel
theorem d_Main_value_44 : decode b_Main_value 44 = .ok ((.new 112), 3) := by decide +kernel
theorem d_Main_value_47 : decode b_Main_value 47 = .ok (.dup, 1) := by decide +kernel
theorem d_Main_value_48 : decode b_Main_value 48 = .ok ((.ldc 209), 2) := by decide +kernel
theorem d_Main_value_50 : decode b_Main_value 50 = .ok ((.invokespecial 116), 3) := by decide +kernel
theorem d_Main_value_53 : decode b_Main_value 53 = .ok (.athrow, 1) := by decide +kernel
theorem d_Main_value_54 : decode b_Main_value 54 = .ok ((.aload_n 0), 1) := by decide +kernel
theorem d_Main_value_55 : decode b_Main_value 55 = .ok ((.getfield 62), 3) := by decide +kernel
theorem d_Main_value_58 : decode b_Main_value 58 = .ok ((.iload_n 3), 1) := by decide +kernel
theorem d_Main_value_59 : decode b_Main_value 59 = .ok ((.invokevirtual 201), 3) := by decide +kernel
theorem d_Main_value_62 : decode b_Main_value 62 = .ok ((.lload_n 1), 1) := by decide +kernel
theorem d_Main_value_63 : decode b_Main_value 63 = .ok (.l2i, 1) := by decide +kernel
theorem d_Main_value_64 : decode b_Main_value 64 = .ok (.ishr, 1) := by decide +kernel
theorem d_Main_value_65 : decode b_Main_value 65 = .ok ((.iconst 1), 1) := by decide +kernel
theorem d_Main_value_66 : decode b_Main_value 66 = .ok (.iand, 1) := by decide +kernel
theorem d_Main_value_67 : decode b_Main_value 67 = .ok ((.iconst 1), 1) := by decide +kernel
theorem d_Main_value_68 : decode b_Main_value 68 = .ok ((.if_icmp .ne 7), 3) := by decide +kernel
theorem d_Main_value_71 : decode b_Main_value 71 = .ok ((.iconst 1), 1) := by decide +kernel
theorem d_Main_value_72 : decode b_Main_value 72 = .ok ((.goto 4), 3) := by decide +kernel
theorem d_Main_value_75 : decode b_Main_value 75 = .ok ((.iconst 0), 1) := by decide +kernel
theorem d_Main_value_76 : decode b_Main_value 76 = .ok (.ireturn, 1) := by decide +kernel
