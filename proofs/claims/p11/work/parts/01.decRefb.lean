theorem d_Ref_run_2 : decode b_Ref_run 2 = .ok ((.lconst 0), 1) := by decide +kernel
theorem d_Ref_run_3 : decode b_Ref_run 3 = .ok (.lcmp, 1) := by decide +kernel
theorem d_Ref_run_4 : decode b_Ref_run 4 = .ok ((.ifCond .ge 7), 3) := by decide +kernel
theorem d_Ref_run_7 : decode b_Ref_run 7 = .ok ((.iconst 1), 1) := by decide +kernel
theorem d_Ref_run_8 : decode b_Ref_run 8 = .ok ((.goto 4), 3) := by decide +kernel
theorem d_Ref_run_11 : decode b_Ref_run 11 = .ok ((.iconst 0), 1) := by decide +kernel
theorem d_Ref_run_12 : decode b_Ref_run 12 = .ok ((.putfield 65), 3) := by decide +kernel
theorem d_Ref_run_15 : decode b_Ref_run 15 = .ok ((.aload_n 0), 1) := by decide +kernel
theorem d_Ref_run_16 : decode b_Ref_run 16 = .ok ((.getfield 65), 3) := by decide +kernel
theorem d_Ref_run_19 : decode b_Ref_run 19 = .ok ((.ifCond .le 5), 3) := by decide +kernel
theorem d_Ref_run_22 : decode b_Ref_run 22 = .ok ((.iconst 0), 1) := by decide +kernel
theorem d_Ref_run_23 : decode b_Ref_run 23 = .ok (.ireturn, 1) := by decide +kernel
theorem d_Ref_run_24 : decode b_Ref_run 24 = .ok ((.aload_n 0), 1) := by decide +kernel
theorem d_Ref_run_25 : decode b_Ref_run 25 = .ok ((.invokevirtual 91), 3) := by decide +kernel
theorem d_Ref_run_28 : decode b_Ref_run 28 = .ok ((.aload_n 0), 1) := by decide +kernel
theorem d_Ref_run_29 : decode b_Ref_run 29 = .ok ((.getfield 82), 3) := by decide +kernel
theorem d_Ref_run_32 : decode b_Ref_run 32 = .ok (.i2l, 1) := by decide +kernel
theorem d_Ref_run_33 : decode b_Ref_run 33 = .ok ((.lload_n 2), 1) := by decide +kernel
theorem d_Ref_run_34 : decode b_Ref_run 34 = .ok (.lcmp, 1) := by decide +kernel
theorem d_Ref_run_35 : decode b_Ref_run 35 = .ok ((.ifCond .le 5), 3) := by decide +kernel
theorem d_Ref_run_38 : decode b_Ref_run 38 = .ok ((.iconst (-1)), 1) := by decide +kernel
theorem d_Ref_run_39 : decode b_Ref_run 39 = .ok (.ireturn, 1) := by decide +kernel
theorem d_Ref_run_40 : decode b_Ref_run 40 = .ok ((.aload_n 0), 1) := by decide +kernel
theorem d_Ref_run_41 : decode b_Ref_run 41 = .ok ((.getfield 16), 3) := by decide +kernel
theorem d_Ref_run_44 : decode b_Ref_run 44 = .ok ((.iconst 0), 1) := by decide +kernel
theorem d_Ref_run_45 : decode b_Ref_run 45 = .ok (.iaload, 1) := by decide +kernel
theorem d_Ref_run_46 : decode b_Ref_run 46 = .ok ((.aload_n 0), 1) := by decide +kernel
theorem d_Ref_run_47 : decode b_Ref_run 47 = .ok ((.getfield 59), 3) := by decide +kernel
theorem d_Ref_run_50 : decode b_Ref_run 50 = .ok ((.iconst 2), 1) := by decide +kernel
theorem d_Ref_run_51 : decode b_Ref_run 51 = .ok ((.if_icmp .ne 15), 3) := by decide +kernel
theorem d_Ref_run_54 : decode b_Ref_run 54 = .ok ((.aload_n 0), 1) := by decide +kernel
theorem d_Ref_run_55 : decode b_Ref_run 55 = .ok ((.getfield 16), 3) := by decide +kernel
theorem d_Ref_run_58 : decode b_Ref_run 58 = .ok ((.iconst 1), 1) := by decide +kernel
theorem d_Ref_run_59 : decode b_Ref_run 59 = .ok (.iaload, 1) := by decide +kernel
theorem d_Ref_run_60 : decode b_Ref_run 60 = .ok ((.bipush 16), 2) := by decide +kernel
theorem d_Ref_run_62 : decode b_Ref_run 62 = .ok (.ishl, 1) := by decide +kernel
theorem d_Ref_run_63 : decode b_Ref_run 63 = .ok ((.goto 4), 3) := by decide +kernel
theorem d_Ref_run_66 : decode b_Ref_run 66 = .ok ((.iconst 0), 1) := by decide +kernel
theorem d_Ref_run_67 : decode b_Ref_run 67 = .ok (.ior, 1) := by decide +kernel
theorem d_Ref_run_68 : decode b_Ref_run 68 = .ok ((.istore 4), 2) := by decide +kernel
theorem d_Ref_run_70 : decode b_Ref_run 70 = .ok ((.aload_n 0), 1) := by decide +kernel
theorem d_Ref_run_71 : decode b_Ref_run 71 = .ok ((.iload_n 1), 1) := by decide +kernel
theorem d_Ref_run_72 : decode b_Ref_run 72 = .ok ((.ifCond .eq 12), 3) := by decide +kernel
theorem d_Ref_run_75 : decode b_Ref_run 75 = .ok ((.aload_n 0), 1) := by decide +kernel
theorem d_Ref_run_76 : decode b_Ref_run 76 = .ok ((.iload 4), 2) := by decide +kernel
theorem d_Ref_run_78 : decode b_Ref_run 78 = .ok ((.invokevirtual 104), 3) := by decide +kernel
theorem d_Ref_run_81 : decode b_Ref_run 81 = .ok ((.goto 9), 3) := by decide +kernel
theorem d_Ref_run_84 : decode b_Ref_run 84 = .ok ((.aload_n 0), 1) := by decide +kernel
theorem d_Ref_run_85 : decode b_Ref_run 85 = .ok ((.iload 4), 2) := by decide +kernel
theorem d_Ref_run_87 : decode b_Ref_run 87 = .ok ((.invokevirtual 107), 3) := by decide +kernel
theorem d_Ref_run_90 : decode b_Ref_run 90 = .ok ((.putfield 110), 3) := by decide +kernel
theorem d_Ref_run_93 : decode b_Ref_run 93 = .ok ((.iconst 0), 1) := by decide +kernel
theorem d_Ref_run_94 : decode b_Ref_run 94 = .ok ((.istore 5), 2) := by decide +kernel
theorem d_Ref_run_96 : decode b_Ref_run 96 = .ok ((.iload 5), 2) := by decide +kernel
theorem d_Ref_run_98 : decode b_Ref_run 98 = .ok ((.aload_n 0), 1) := by decide +kernel
theorem d_Ref_run_99 : decode b_Ref_run 99 = .ok ((.getfield 110), 3) := by decide +kernel
theorem d_Ref_run_102 : decode b_Ref_run 102 = .ok ((.if_icmp .ge 47), 3) := by decide +kernel
theorem d_Ref_run_105 : decode b_Ref_run 105 = .ok ((.aload_n 0), 1) := by decide +kernel
theorem d_Ref_run_106 : decode b_Ref_run 106 = .ok ((.getfield 37), 3) := by decide +kernel
theorem d_Ref_run_109 : decode b_Ref_run 109 = .ok ((.iload 5), 2) := by decide +kernel
theorem d_Ref_run_111 : decode b_Ref_run 111 = .ok ((.aload_n 0), 1) := by decide +kernel
theorem d_Ref_run_112 : decode b_Ref_run 112 = .ok ((.getfield 22), 3) := by decide +kernel
theorem d_Ref_run_115 : decode b_Ref_run 115 = .ok ((.aload_n 0), 1) := by decide +kernel
theorem d_Ref_run_116 : decode b_Ref_run 116 = .ok ((.getfield 49), 3) := by decide +kernel
theorem d_Ref_run_119 : decode b_Ref_run 119 = .ok ((.iload 5), 2) := by decide +kernel
theorem d_Ref_run_121 : decode b_Ref_run 121 = .ok (.iaload, 1) := by decide +kernel
theorem d_Ref_run_122 : decode b_Ref_run 122 = .ok (.iaload, 1) := by decide +kernel
theorem d_Ref_run_123 : decode b_Ref_run 123 = .ok (.iastore, 1) := by decide +kernel
theorem d_Ref_run_124 : decode b_Ref_run 124 = .ok ((.aload_n 0), 1) := by decide +kernel
theorem d_Ref_run_125 : decode b_Ref_run 125 = .ok ((.getfield 40), 3) := by decide +kernel
theorem d_Ref_run_128 : decode b_Ref_run 128 = .ok ((.iload 5), 2) := by decide +kernel
theorem d_Ref_run_130 : decode b_Ref_run 130 = .ok ((.aload_n 0), 1) := by decide +kernel
theorem d_Ref_run_131 : decode b_Ref_run 131 = .ok ((.getfield 25), 3) := by decide +kernel
theorem d_Ref_run_134 : decode b_Ref_run 134 = .ok ((.aload_n 0), 1) := by decide +kernel
theorem d_Ref_run_135 : decode b_Ref_run 135 = .ok ((.getfield 49), 3) := by decide +kernel
theorem d_Ref_run_138 : decode b_Ref_run 138 = .ok ((.iload 5), 2) := by decide +kernel
theorem d_Ref_run_140 : decode b_Ref_run 140 = .ok (.iaload, 1) := by decide +kernel
theorem d_Ref_run_141 : decode b_Ref_run 141 = .ok (.iaload, 1) := by decide +kernel
theorem d_Ref_run_142 : decode b_Ref_run 142 = .ok (.iastore, 1) := by decide +kernel
theorem d_Ref_run_143 : decode b_Ref_run 143 = .ok ((.iinc 5 1), 3) := by decide +kernel
theorem d_Ref_run_146 : decode b_Ref_run 146 = .ok ((.goto (-50)), 3) := by decide +kernel
theorem d_Ref_run_149 : decode b_Ref_run 149 = .ok ((.aload_n 0), 1) := by decide +kernel
theorem d_Ref_run_150 : decode b_Ref_run 150 = .ok ((.iconst 1), 1) := by decide +kernel
theorem d_Ref_run_151 : decode b_Ref_run 151 = .ok ((.putfield 113), 3) := by decide +kernel
theorem d_Ref_run_154 : decode b_Ref_run 154 = .ok ((.aload_n 0), 1) := by decide +kernel
theorem d_Ref_run_155 : decode b_Ref_run 155 = .ok ((.iconst 0), 1) := by decide +kernel
theorem d_Ref_run_156 : decode b_Ref_run 156 = .ok ((.putfield 117), 3) := by decide +kernel
theorem d_Ref_run_159 : decode b_Ref_run 159 = .ok ((.aload_n 0), 1) := by decide +kernel
theorem d_Ref_run_160 : decode b_Ref_run 160 = .ok ((.getfield 110), 3) := by decide +kernel
theorem d_Ref_run_163 : decode b_Ref_run 163 = .ok (.ireturn, 1) := by decide +kernel
theorem d_Ref_exact_0 : decode b_Ref_exact 0 = .ok ((.aload_n 0), 1) := by decide +kernel
theorem d_Ref_exact_1 : decode b_Ref_exact 1 = .ok ((.getfield 34), 3) := by decide +kernel
theorem d_Ref_exact_4 : decode b_Ref_exact 4 = .ok ((.aload_n 0), 1) := by decide +kernel
theorem d_Ref_exact_5 : decode b_Ref_exact 5 = .ok ((.getfield 82), 3) := by decide +kernel
theorem d_Ref_exact_8 : decode b_Ref_exact 8 = .ok ((.iconst 0), 1) := by decide +kernel
theorem d_Ref_exact_9 : decode b_Ref_exact 9 = .ok (.iastore, 1) := by decide +kernel
theorem d_Ref_exact_10 : decode b_Ref_exact 10 = .ok ((.aload_n 0), 1) := by decide +kernel
theorem d_Ref_exact_11 : decode b_Ref_exact 11 = .ok ((.getfield 82), 3) := by decide +kernel
theorem d_Ref_exact_14 : decode b_Ref_exact 14 = .ok ((.iconst 1), 1) := by decide +kernel
theorem d_Ref_exact_15 : decode b_Ref_exact 15 = .ok (.isub, 1) := by decide +kernel
theorem d_Ref_exact_16 : decode b_Ref_exact 16 = .ok ((.istore_n 2), 1) := by decide +kernel
theorem d_Ref_exact_17 : decode b_Ref_exact 17 = .ok ((.iload_n 2), 1) := by decide +kernel
theorem d_Ref_exact_18 : decode b_Ref_exact 18 = .ok ((.ifCond .lt 30), 3) := by decide +kernel
theorem d_Ref_exact_21 : decode b_Ref_exact 21 = .ok ((.aload_n 0), 1) := by decide +kernel
theorem d_Ref_exact_22 : decode b_Ref_exact 22 = .ok ((.getfield 34), 3) := by decide +kernel
theorem d_Ref_exact_25 : decode b_Ref_exact 25 = .ok ((.iload_n 2), 1) := by decide +kernel
theorem d_Ref_exact_26 : decode b_Ref_exact 26 = .ok ((.aload_n 0), 1) := by decide +kernel
theorem d_Ref_exact_27 : decode b_Ref_exact 27 = .ok ((.getfield 34), 3) := by decide +kernel
theorem d_Ref_exact_30 : decode b_Ref_exact 30 = .ok ((.iload_n 2), 1) := by decide +kernel
theorem d_Ref_exact_31 : decode b_Ref_exact 31 = .ok ((.iconst 1), 1) := by decide +kernel
theorem d_Ref_exact_32 : decode b_Ref_exact 32 = .ok (.iadd, 1) := by decide +kernel
theorem d_Ref_exact_33 : decode b_Ref_exact 33 = .ok (.iaload, 1) := by decide +kernel
theorem d_Ref_exact_34 : decode b_Ref_exact 34 = .ok ((.aload_n 0), 1) := by decide +kernel
theorem d_Ref_exact_35 : decode b_Ref_exact 35 = .ok ((.getfield 31), 3) := by decide +kernel
theorem d_Ref_exact_38 : decode b_Ref_exact 38 = .ok ((.iload_n 2), 1) := by decide +kernel
theorem d_Ref_exact_39 : decode b_Ref_exact 39 = .ok (.iaload, 1) := by decide +kernel
theorem d_Ref_exact_40 : decode b_Ref_exact 40 = .ok (.ior, 1) := by decide +kernel
theorem d_Ref_exact_41 : decode b_Ref_exact 41 = .ok (.iastore, 1) := by decide +kernel
theorem d_Ref_exact_42 : decode b_Ref_exact 42 = .ok ((.iinc 2 (-1)), 3) := by decide +kernel
theorem d_Ref_exact_45 : decode b_Ref_exact 45 = .ok ((.goto (-28)), 3) := by decide +kernel
theorem d_Ref_exact_48 : decode b_Ref_exact 48 = .ok ((.iconst 0), 1) := by decide +kernel
theorem d_Ref_exact_49 : decode b_Ref_exact 49 = .ok ((.istore_n 2), 1) := by decide +kernel
theorem d_Ref_exact_50 : decode b_Ref_exact 50 = .ok ((.aload_n 0), 1) := by decide +kernel
theorem d_Ref_exact_51 : decode b_Ref_exact 51 = .ok ((.iload_n 2), 1) := by decide +kernel
theorem d_Ref_exact_52 : decode b_Ref_exact 52 = .ok ((.iload_n 1), 1) := by decide +kernel
theorem d_Ref_exact_53 : decode b_Ref_exact 53 = .ok ((.invokevirtual 97), 3) := by decide +kernel
theorem d_Ref_exact_56 : decode b_Ref_exact 56 = .ok ((.ifCond .ne 9), 3) := by decide +kernel
theorem d_Ref_exact_59 : decode b_Ref_exact 59 = .ok ((.iinc 2 1), 3) := by decide +kernel
theorem d_Ref_exact_62 : decode b_Ref_exact 62 = .ok ((.goto (-12)), 3) := by decide +kernel
theorem d_Ref_exact_65 : decode b_Ref_exact 65 = .ok ((.iload_n 2), 1) := by decide +kernel
theorem d_Ref_exact_66 : decode b_Ref_exact 66 = .ok (.ireturn, 1) := by decide +kernel
theorem d_Ref_tryAll_0 : decode b_Ref_tryAll 0 = .ok ((.iconst 0), 1) := by decide +kernel
theorem d_Ref_tryAll_1 : decode b_Ref_tryAll 1 = .ok ((.istore_n 3), 1) := by decide +kernel
theorem d_Ref_tryAll_2 : decode b_Ref_tryAll 2 = .ok ((.iconst 0), 1) := by decide +kernel
theorem d_Ref_tryAll_3 : decode b_Ref_tryAll 3 = .ok ((.istore 4), 2) := by decide +kernel
theorem d_Ref_tryAll_5 : decode b_Ref_tryAll 5 = .ok ((.aload_n 0), 1) := by decide +kernel
theorem d_Ref_tryAll_6 : decode b_Ref_tryAll 6 = .ok ((.getfield 46), 3) := by decide +kernel
theorem d_Ref_tryAll_9 : decode b_Ref_tryAll 9 = .ok ((.iconst 0), 1) := by decide +kernel
theorem d_Ref_tryAll_10 : decode b_Ref_tryAll 10 = .ok ((.iconst (-1)), 1) := by decide +kernel
theorem d_Ref_tryAll_11 : decode b_Ref_tryAll 11 = .ok (.iastore, 1) := by decide +kernel
theorem d_Ref_tryAll_12 : decode b_Ref_tryAll 12 = .ok ((.iload 4), 2) := by decide +kernel
theorem d_Ref_tryAll_14 : decode b_Ref_tryAll 14 = .ok ((.ifCond .lt 255), 3) := by decide +kernel
theorem d_Ref_tryAll_17 : decode b_Ref_tryAll 17 = .ok ((.iconst 0), 1) := by decide +kernel
theorem d_Ref_tryAll_18 : decode b_Ref_tryAll 18 = .ok ((.istore 5), 2) := by decide +kernel
theorem d_Ref_tryAll_20 : decode b_Ref_tryAll 20 = .ok ((.iconst 0), 1) := by decide +kernel
theorem d_Ref_tryAll_21 : decode b_Ref_tryAll 21 = .ok ((.istore 6), 2) := by decide +kernel
theorem d_Ref_tryAll_23 : decode b_Ref_tryAll 23 = .ok ((.iconst 0), 1) := by decide +kernel
theorem d_Ref_tryAll_24 : decode b_Ref_tryAll 24 = .ok ((.istore 7), 2) := by decide +kernel
theorem d_Ref_tryAll_26 : decode b_Ref_tryAll 26 = .ok ((.iload 7), 2) := by decide +kernel
theorem d_Ref_tryAll_28 : decode b_Ref_tryAll 28 = .ok ((.iload 4), 2) := by decide +kernel
theorem d_Ref_tryAll_30 : decode b_Ref_tryAll 30 = .ok ((.if_icmp .ge 43), 3) := by decide +kernel
theorem d_Ref_tryAll_33 : decode b_Ref_tryAll 33 = .ok ((.iload 5), 2) := by decide +kernel
theorem d_Ref_tryAll_35 : decode b_Ref_tryAll 35 = .ok ((.aload_n 0), 1) := by decide +kernel
theorem d_Ref_tryAll_36 : decode b_Ref_tryAll 36 = .ok ((.getfield 31), 3) := by decide +kernel
theorem d_Ref_tryAll_39 : decode b_Ref_tryAll 39 = .ok ((.aload_n 0), 1) := by decide +kernel
theorem d_Ref_tryAll_40 : decode b_Ref_tryAll 40 = .ok ((.getfield 46), 3) := by decide +kernel
theorem d_Ref_tryAll_43 : decode b_Ref_tryAll 43 = .ok ((.iload 7), 2) := by decide +kernel
theorem d_Ref_tryAll_45 : decode b_Ref_tryAll 45 = .ok (.iaload, 1) := by decide +kernel
theorem d_Ref_tryAll_46 : decode b_Ref_tryAll 46 = .ok (.iaload, 1) := by decide +kernel
theorem d_Ref_tryAll_47 : decode b_Ref_tryAll 47 = .ok (.ior, 1) := by decide +kernel
theorem d_Ref_tryAll_48 : decode b_Ref_tryAll 48 = .ok ((.istore 5), 2) := by decide +kernel
theorem d_Ref_tryAll_50 : decode b_Ref_tryAll 50 = .ok ((.iload 6), 2) := by decide +kernel
theorem d_Ref_tryAll_52 : decode b_Ref_tryAll 52 = .ok ((.aload_n 0), 1) := by decide +kernel
theorem d_Ref_tryAll_53 : decode b_Ref_tryAll 53 = .ok ((.getfield 28), 3) := by decide +kernel
theorem d_Ref_tryAll_56 : decode b_Ref_tryAll 56 = .ok ((.aload_n 0), 1) := by decide +kernel
theorem d_Ref_tryAll_57 : decode b_Ref_tryAll 57 = .ok ((.getfield 46), 3) := by decide +kernel
theorem d_Ref_tryAll_60 : decode b_Ref_tryAll 60 = .ok ((.iload 7), 2) := by decide +kernel
theorem d_Ref_tryAll_62 : decode b_Ref_tryAll 62 = .ok (.iaload, 1) := by decide +kernel
theorem d_Ref_tryAll_63 : decode b_Ref_tryAll 63 = .ok (.iaload, 1) := by decide +kernel
theorem d_Ref_tryAll_64 : decode b_Ref_tryAll 64 = .ok (.iadd, 1) := by decide +kernel
theorem d_Ref_tryAll_65 : decode b_Ref_tryAll 65 = .ok ((.istore 6), 2) := by decide +kernel
theorem d_Ref_tryAll_67 : decode b_Ref_tryAll 67 = .ok ((.iinc 7 1), 3) := by decide +kernel
theorem d_Ref_tryAll_70 : decode b_Ref_tryAll 70 = .ok ((.goto (-44)), 3) := by decide +kernel
theorem d_Ref_tryAll_73 : decode b_Ref_tryAll 73 = .ok ((.iload 4), 2) := by decide +kernel
theorem d_Ref_tryAll_75 : decode b_Ref_tryAll 75 = .ok ((.iload_n 1), 1) := by decide +kernel
theorem d_Ref_tryAll_76 : decode b_Ref_tryAll 76 = .ok ((.if_icmp .ne 68), 3) := by decide +kernel
theorem d_Ref_tryAll_79 : decode b_Ref_tryAll 79 = .ok ((.iload_n 2), 1) := by decide +kernel
theorem d_Ref_tryAll_80 : decode b_Ref_tryAll 80 = .ok ((.iload 5), 2) := by decide +kernel
theorem d_Ref_tryAll_82 : decode b_Ref_tryAll 82 = .ok ((.iconst (-1)), 1) := by decide +kernel
theorem d_Ref_tryAll_83 : decode b_Ref_tryAll 83 = .ok (.ixor, 1) := by decide +kernel
theorem d_Ref_tryAll_84 : decode b_Ref_tryAll 84 = .ok (.iand, 1) := by decide +kernel
theorem d_Ref_tryAll_85 : decode b_Ref_tryAll 85 = .ok ((.ifCond .ne 53), 3) := by decide +kernel
theorem d_Ref_tryAll_88 : decode b_Ref_tryAll 88 = .ok ((.iload_n 3), 1) := by decide +kernel
theorem d_Ref_tryAll_89 : decode b_Ref_tryAll 89 = .ok ((.ifCond .eq 12), 3) := by decide +kernel
theorem d_Ref_tryAll_92 : decode b_Ref_tryAll 92 = .ok ((.iload 6), 2) := by decide +kernel
theorem d_Ref_tryAll_94 : decode b_Ref_tryAll 94 = .ok ((.aload_n 0), 1) := by decide +kernel
theorem d_Ref_tryAll_95 : decode b_Ref_tryAll 95 = .ok ((.getfield 94), 3) := by decide +kernel
theorem d_Ref_tryAll_98 : decode b_Ref_tryAll 98 = .ok ((.if_icmp .ge 40), 3) := by decide +kernel
theorem d_Ref_tryAll_101 : decode b_Ref_tryAll 101 = .ok ((.iconst 1), 1) := by decide +kernel
theorem d_Ref_tryAll_102 : decode b_Ref_tryAll 102 = .ok ((.istore_n 3), 1) := by decide +kernel
theorem d_Ref_tryAll_103 : decode b_Ref_tryAll 103 = .ok ((.aload_n 0), 1) := by decide +kernel
theorem d_Ref_tryAll_104 : decode b_Ref_tryAll 104 = .ok ((.iload 6), 2) := by decide +kernel
theorem d_Ref_tryAll_106 : decode b_Ref_tryAll 106 = .ok ((.putfield 94), 3) := by decide +kernel
theorem d_Ref_tryAll_109 : decode b_Ref_tryAll 109 = .ok ((.iconst 0), 1) := by decide +kernel
theorem d_Ref_tryAll_110 : decode b_Ref_tryAll 110 = .ok ((.istore 7), 2) := by decide +kernel
theorem d_Ref_tryAll_112 : decode b_Ref_tryAll 112 = .ok ((.iload 7), 2) := by decide +kernel
theorem d_Ref_tryAll_114 : decode b_Ref_tryAll 114 = .ok ((.iload_n 1), 1) := by decide +kernel
theorem d_Ref_tryAll_115 : decode b_Ref_tryAll 115 = .ok ((.if_icmp .ge 23), 3) := by decide +kernel
theorem d_Ref_tryAll_118 : decode b_Ref_tryAll 118 = .ok ((.aload_n 0), 1) := by decide +kernel
theorem d_Ref_tryAll_119 : decode b_Ref_tryAll 119 = .ok ((.getfield 49), 3) := by decide +kernel
theorem d_Ref_tryAll_122 : decode b_Ref_tryAll 122 = .ok ((.iload 7), 2) := by decide +kernel
theorem d_Ref_tryAll_124 : decode b_Ref_tryAll 124 = .ok ((.aload_n 0), 1) := by decide +kernel
theorem d_Ref_tryAll_125 : decode b_Ref_tryAll 125 = .ok ((.getfield 46), 3) := by decide +kernel
theorem d_Ref_tryAll_128 : decode b_Ref_tryAll 128 = .ok ((.iload 7), 2) := by decide +kernel
theorem d_Ref_tryAll_130 : decode b_Ref_tryAll 130 = .ok (.iaload, 1) := by decide +kernel
theorem d_Ref_tryAll_131 : decode b_Ref_tryAll 131 = .ok (.iastore, 1) := by decide +kernel
theorem d_Ref_tryAll_132 : decode b_Ref_tryAll 132 = .ok ((.iinc 7 1), 3) := by decide +kernel
theorem d_Ref_tryAll_135 : decode b_Ref_tryAll 135 = .ok ((.goto (-23)), 3) := by decide +kernel
theorem d_Ref_tryAll_138 : decode b_Ref_tryAll 138 = .ok ((.iinc 4 (-1)), 3) := by decide +kernel
theorem d_Ref_tryAll_141 : decode b_Ref_tryAll 141 = .ok ((.goto 125), 3) := by decide +kernel
theorem d_Ref_tryAll_144 : decode b_Ref_tryAll 144 = .ok ((.aload_n 0), 1) := by decide +kernel
theorem d_Ref_tryAll_145 : decode b_Ref_tryAll 145 = .ok ((.getfield 46), 3) := by decide +kernel
theorem d_Ref_tryAll_148 : decode b_Ref_tryAll 148 = .ok ((.iload 4), 2) := by decide +kernel
theorem d_Ref_tryAll_150 : decode b_Ref_tryAll 150 = .ok (.dup2, 1) := by decide +kernel
theorem d_Ref_tryAll_151 : decode b_Ref_tryAll 151 = .ok (.iaload, 1) := by decide +kernel
theorem d_Ref_tryAll_152 : decode b_Ref_tryAll 152 = .ok ((.iconst 1), 1) := by decide +kernel
theorem d_Ref_tryAll_153 : decode b_Ref_tryAll 153 = .ok (.iadd, 1) := by decide +kernel
theorem d_Ref_tryAll_154 : decode b_Ref_tryAll 154 = .ok (.iastore, 1) := by decide +kernel
theorem d_Ref_tryAll_155 : decode b_Ref_tryAll 155 = .ok ((.aload_n 0), 1) := by decide +kernel
theorem d_Ref_tryAll_156 : decode b_Ref_tryAll 156 = .ok ((.getfield 46), 3) := by decide +kernel
theorem d_Ref_tryAll_159 : decode b_Ref_tryAll 159 = .ok ((.iload 4), 2) := by decide +kernel
theorem d_Ref_tryAll_161 : decode b_Ref_tryAll 161 = .ok (.iaload, 1) := by decide +kernel
theorem d_Ref_tryAll_162 : decode b_Ref_tryAll 162 = .ok ((.istore 7), 2) := by decide +kernel
theorem d_Ref_tryAll_164 : decode b_Ref_tryAll 164 = .ok ((.iload 7), 2) := by decide +kernel
theorem d_Ref_tryAll_166 : decode b_Ref_tryAll 166 = .ok ((.aload_n 0), 1) := by decide +kernel
theorem d_Ref_tryAll_167 : decode b_Ref_tryAll 167 = .ok ((.getfield 82), 3) := by decide +kernel
theorem d_Ref_tryAll_170 : decode b_Ref_tryAll 170 = .ok ((.if_icmp .ge 20), 3) := by decide +kernel
theorem d_Ref_tryAll_173 : decode b_Ref_tryAll 173 = .ok ((.iload_n 2), 1) := by decide +kernel
theorem d_Ref_tryAll_174 : decode b_Ref_tryAll 174 = .ok ((.iload 5), 2) := by decide +kernel
theorem d_Ref_tryAll_176 : decode b_Ref_tryAll 176 = .ok ((.aload_n 0), 1) := by decide +kernel
theorem d_Ref_tryAll_177 : decode b_Ref_tryAll 177 = .ok ((.getfield 34), 3) := by decide +kernel
theorem d_Ref_tryAll_180 : decode b_Ref_tryAll 180 = .ok ((.iload 7), 2) := by decide +kernel
theorem d_Ref_tryAll_182 : decode b_Ref_tryAll 182 = .ok (.iaload, 1) := by decide +kernel
theorem d_Ref_tryAll_183 : decode b_Ref_tryAll 183 = .ok (.ior, 1) := by decide +kernel
theorem d_Ref_tryAll_184 : decode b_Ref_tryAll 184 = .ok ((.iconst (-1)), 1) := by decide +kernel
theorem d_Ref_tryAll_185 : decode b_Ref_tryAll 185 = .ok (.ixor, 1) := by decide +kernel
theorem d_Ref_tryAll_186 : decode b_Ref_tryAll 186 = .ok (.iand, 1) := by decide +kernel
theorem d_Ref_tryAll_187 : decode b_Ref_tryAll 187 = .ok ((.ifCond .eq 9), 3) := by decide +kernel
theorem d_Ref_tryAll_190 : decode b_Ref_tryAll 190 = .ok ((.iinc 4 (-1)), 3) := by decide +kernel
theorem d_Ref_tryAll_193 : decode b_Ref_tryAll 193 = .ok ((.goto 73), 3) := by decide +kernel
theorem d_Ref_tryAll_196 : decode b_Ref_tryAll 196 = .ok ((.iload_n 2), 1) := by decide +kernel
theorem d_Ref_tryAll_197 : decode b_Ref_tryAll 197 = .ok ((.iload 5), 2) := by decide +kernel
theorem d_Ref_tryAll_199 : decode b_Ref_tryAll 199 = .ok ((.aload_n 0), 1) := by decide +kernel
theorem d_Ref_tryAll_200 : decode b_Ref_tryAll 200 = .ok ((.getfield 31), 3) := by decide +kernel
theorem d_Ref_tryAll_203 : decode b_Ref_tryAll 203 = .ok ((.iload 7), 2) := by decide +kernel
theorem d_Ref_tryAll_205 : decode b_Ref_tryAll 205 = .ok (.iaload, 1) := by decide +kernel
theorem d_Ref_tryAll_206 : decode b_Ref_tryAll 206 = .ok (.ior, 1) := by decide +kernel
theorem d_Ref_tryAll_207 : decode b_Ref_tryAll 207 = .ok ((.iconst (-1)), 1) := by decide +kernel
theorem d_Ref_tryAll_208 : decode b_Ref_tryAll 208 = .ok (.ixor, 1) := by decide +kernel
theorem d_Ref_tryAll_209 : decode b_Ref_tryAll 209 = .ok (.iand, 1) := by decide +kernel
theorem d_Ref_tryAll_210 : decode b_Ref_tryAll 210 = .ok ((.istore 8), 2) := by decide +kernel
theorem d_Ref_tryAll_212 : decode b_Ref_tryAll 212 = .ok ((.iload 8), 2) := by decide +kernel
theorem d_Ref_tryAll_214 : decode b_Ref_tryAll 214 = .ok ((.ifCond .eq 11), 3) := by decide +kernel
theorem d_Ref_tryAll_217 : decode b_Ref_tryAll 217 = .ok ((.iload 4), 2) := by decide +kernel
theorem d_Ref_tryAll_219 : decode b_Ref_tryAll 219 = .ok ((.iconst 1), 1) := by decide +kernel
theorem d_Ref_tryAll_220 : decode b_Ref_tryAll 220 = .ok (.iadd, 1) := by decide +kernel
theorem d_Ref_tryAll_221 : decode b_Ref_tryAll 221 = .ok ((.iload_n 1), 1) := by decide +kernel
theorem d_Ref_tryAll_222 : decode b_Ref_tryAll 222 = .ok ((.if_icmp .eq 20), 3) := by decide +kernel
theorem d_Ref_tryAll_225 : decode b_Ref_tryAll 225 = .ok ((.iload 8), 2) := by decide +kernel
theorem d_Ref_tryAll_227 : decode b_Ref_tryAll 227 = .ok ((.aload_n 0), 1) := by decide +kernel
theorem d_Ref_tryAll_228 : decode b_Ref_tryAll 228 = .ok ((.getfield 34), 3) := by decide +kernel
theorem d_Ref_tryAll_231 : decode b_Ref_tryAll 231 = .ok ((.iload 7), 2) := by decide +kernel
theorem d_Ref_tryAll_233 : decode b_Ref_tryAll 233 = .ok ((.iconst 1), 1) := by decide +kernel
theorem d_Ref_tryAll_234 : decode b_Ref_tryAll 234 = .ok (.iadd, 1) := by decide +kernel
theorem d_Ref_tryAll_235 : decode b_Ref_tryAll 235 = .ok (.iaload, 1) := by decide +kernel
theorem d_Ref_tryAll_236 : decode b_Ref_tryAll 236 = .ok ((.iconst (-1)), 1) := by decide +kernel
theorem d_Ref_tryAll_237 : decode b_Ref_tryAll 237 = .ok (.ixor, 1) := by decide +kernel
theorem d_Ref_tryAll_238 : decode b_Ref_tryAll 238 = .ok (.iand, 1) := by decide +kernel
theorem d_Ref_tryAll_239 : decode b_Ref_tryAll 239 = .ok ((.ifCond .eq 7), 3) := by decide +kernel
theorem d_Ref_tryAll_242 : decode b_Ref_tryAll 242 = .ok ((.iconst 1), 1) := by decide +kernel
theorem d_Ref_tryAll_243 : decode b_Ref_tryAll 243 = .ok ((.goto 4), 3) := by decide +kernel
theorem d_Ref_tryAll_246 : decode b_Ref_tryAll 246 = .ok ((.iconst 0), 1) := by decide +kernel
theorem d_Ref_tryAll_247 : decode b_Ref_tryAll 247 = .ok ((.istore 9), 2) := by decide +kernel
theorem d_Ref_tryAll_249 : decode b_Ref_tryAll 249 = .ok ((.iload 9), 2) := by decide +kernel
theorem d_Ref_tryAll_251 : decode b_Ref_tryAll 251 = .ok ((.ifCond .ne 15), 3) := by decide +kernel
theorem d_Ref_tryAll_254 : decode b_Ref_tryAll 254 = .ok ((.iinc 4 1), 3) := by decide +kernel
theorem d_Ref_tryAll_257 : decode b_Ref_tryAll 257 = .ok ((.aload_n 0), 1) := by decide +kernel
theorem d_Ref_tryAll_258 : decode b_Ref_tryAll 258 = .ok ((.getfield 46), 3) := by decide +kernel
theorem d_Ref_tryAll_261 : decode b_Ref_tryAll 261 = .ok ((.iload 4), 2) := by decide +kernel
theorem d_Ref_tryAll_263 : decode b_Ref_tryAll 263 = .ok ((.iload 7), 2) := by decide +kernel
theorem d_Ref_tryAll_265 : decode b_Ref_tryAll 265 = .ok (.iastore, 1) := by decide +kernel
theorem d_Ref_tryAll_266 : decode b_Ref_tryAll 266 = .ok ((.goto (-254)), 3) := by decide +kernel
theorem d_Ref_tryAll_269 : decode b_Ref_tryAll 269 = .ok ((.iload_n 3), 1) := by decide +kernel
theorem d_Ref_tryAll_270 : decode b_Ref_tryAll 270 = .ok (.ireturn, 1) := by decide +kernel
theorem d_Ref_quick_0 : decode b_Ref_quick 0 = .ok ((.iconst 0), 1) := by decide +kernel
theorem d_Ref_quick_1 : decode b_Ref_quick 1 = .ok ((.istore_n 2), 1) := by decide +kernel
theorem d_Ref_quick_2 : decode b_Ref_quick 2 = .ok ((.iconst 0), 1) := by decide +kernel
theorem d_Ref_quick_3 : decode b_Ref_quick 3 = .ok ((.istore_n 3), 1) := by decide +kernel
theorem d_Ref_quick_4 : decode b_Ref_quick 4 = .ok ((.iload_n 1), 1) := by decide +kernel
theorem d_Ref_quick_5 : decode b_Ref_quick 5 = .ok ((.iload_n 3), 1) := by decide +kernel
theorem d_Ref_quick_6 : decode b_Ref_quick 6 = .ok ((.iconst (-1)), 1) := by decide +kernel
theorem d_Ref_quick_7 : decode b_Ref_quick 7 = .ok (.ixor, 1) := by decide +kernel
theorem d_Ref_quick_8 : decode b_Ref_quick 8 = .ok (.iand, 1) := by decide +kernel
theorem d_Ref_quick_9 : decode b_Ref_quick 9 = .ok ((.ifCond .eq 146), 3) := by decide +kernel
theorem d_Ref_quick_12 : decode b_Ref_quick 12 = .ok ((.iconst (-1)), 1) := by decide +kernel
theorem d_Ref_quick_13 : decode b_Ref_quick 13 = .ok ((.istore 4), 2) := by decide +kernel
theorem d_Ref_quick_15 : decode b_Ref_quick 15 = .ok ((.iconst 0), 1) := by decide +kernel
theorem d_Ref_quick_16 : decode b_Ref_quick 16 = .ok ((.istore 5), 2) := by decide +kernel
theorem d_Ref_quick_18 : decode b_Ref_quick 18 = .ok ((.iload 5), 2) := by decide +kernel
theorem d_Ref_quick_20 : decode b_Ref_quick 20 = .ok ((.aload_n 0), 1) := by decide +kernel
theorem d_Ref_quick_21 : decode b_Ref_quick 21 = .ok ((.getfield 82), 3) := by decide +kernel
theorem d_Ref_quick_24 : decode b_Ref_quick 24 = .ok ((.if_icmp .ge 107), 3) := by decide +kernel
theorem d_Ref_quick_27 : decode b_Ref_quick 27 = .ok ((.aload_n 0), 1) := by decide +kernel
theorem d_Ref_quick_28 : decode b_Ref_quick 28 = .ok ((.getfield 31), 3) := by decide +kernel
theorem d_Ref_quick_31 : decode b_Ref_quick 31 = .ok ((.iload 5), 2) := by decide +kernel
theorem d_Ref_quick_33 : decode b_Ref_quick 33 = .ok (.iaload, 1) := by decide +kernel
theorem d_Ref_quick_34 : decode b_Ref_quick 34 = .ok ((.iload_n 3), 1) := by decide +kernel
theorem d_Ref_quick_35 : decode b_Ref_quick 35 = .ok ((.iconst (-1)), 1) := by decide +kernel
theorem d_Ref_quick_36 : decode b_Ref_quick 36 = .ok (.ixor, 1) := by decide +kernel
theorem d_Ref_quick_37 : decode b_Ref_quick 37 = .ok (.iand, 1) := by decide +kernel
theorem d_Ref_quick_38 : decode b_Ref_quick 38 = .ok ((.invokestatic 101), 3) := by decide +kernel
theorem d_Ref_quick_41 : decode b_Ref_quick 41 = .ok ((.istore 6), 2) := by decide +kernel
theorem d_Ref_quick_43 : decode b_Ref_quick 43 = .ok ((.iload 4), 2) := by decide +kernel
theorem d_Ref_quick_45 : decode b_Ref_quick 45 = .ok ((.ifCond .ge 7), 3) := by decide +kernel
theorem d_Ref_quick_48 : decode b_Ref_quick 48 = .ok ((.iconst 0), 1) := by decide +kernel
theorem d_Ref_quick_49 : decode b_Ref_quick 49 = .ok ((.goto 17), 3) := by decide +kernel
theorem d_Ref_quick_52 : decode b_Ref_quick 52 = .ok ((.aload_n 0), 1) := by decide +kernel
theorem d_Ref_quick_53 : decode b_Ref_quick 53 = .ok ((.getfield 31), 3) := by decide +kernel
theorem d_Ref_quick_56 : decode b_Ref_quick 56 = .ok ((.iload 4), 2) := by decide +kernel
theorem d_Ref_quick_58 : decode b_Ref_quick 58 = .ok (.iaload, 1) := by decide +kernel
theorem d_Ref_quick_59 : decode b_Ref_quick 59 = .ok ((.iload_n 3), 1) := by decide +kernel
theorem d_Ref_quick_60 : decode b_Ref_quick 60 = .ok ((.iconst (-1)), 1) := by decide +kernel
theorem d_Ref_quick_61 : decode b_Ref_quick 61 = .ok (.ixor, 1) := by decide +kernel
theorem d_Ref_quick_62 : decode b_Ref_quick 62 = .ok (.iand, 1) := by decide +kernel
theorem d_Ref_quick_63 : decode b_Ref_quick 63 = .ok ((.invokestatic 101), 3) := by decide +kernel
theorem d_Ref_quick_66 : decode b_Ref_quick 66 = .ok ((.istore 7), 2) := by decide +kernel
theorem d_Ref_quick_68 : decode b_Ref_quick 68 = .ok ((.iload 6), 2) := by decide +kernel
theorem d_Ref_quick_70 : decode b_Ref_quick 70 = .ok ((.iload 7), 2) := by decide +kernel
theorem d_Ref_quick_72 : decode b_Ref_quick 72 = .ok ((.if_icmp .gt 32), 3) := by decide +kernel
theorem d_Ref_quick_75 : decode b_Ref_quick 75 = .ok ((.iload 4), 2) := by decide +kernel
theorem d_Ref_quick_77 : decode b_Ref_quick 77 = .ok ((.ifCond .lt 31), 3) := by decide +kernel
theorem d_Ref_quick_80 : decode b_Ref_quick 80 = .ok ((.iload 6), 2) := by decide +kernel
theorem d_Ref_quick_82 : decode b_Ref_quick 82 = .ok ((.iload 7), 2) := by decide +kernel
theorem d_Ref_quick_84 : decode b_Ref_quick 84 = .ok ((.if_icmp .ne 24), 3) := by decide +kernel
theorem d_Ref_quick_87 : decode b_Ref_quick 87 = .ok ((.aload_n 0), 1) := by decide +kernel
theorem d_Ref_quick_88 : decode b_Ref_quick 88 = .ok ((.getfield 28), 3) := by decide +kernel
theorem d_Ref_quick_91 : decode b_Ref_quick 91 = .ok ((.iload 5), 2) := by decide +kernel
theorem d_Ref_quick_93 : decode b_Ref_quick 93 = .ok (.iaload, 1) := by decide +kernel
theorem d_Ref_quick_94 : decode b_Ref_quick 94 = .ok ((.aload_n 0), 1) := by decide +kernel
theorem d_Ref_quick_95 : decode b_Ref_quick 95 = .ok ((.getfield 28), 3) := by decide +kernel
theorem d_Ref_quick_98 : decode b_Ref_quick 98 = .ok ((.iload 4), 2) := by decide +kernel
theorem d_Ref_quick_100 : decode b_Ref_quick 100 = .ok (.iaload, 1) := by decide +kernel
theorem d_Ref_quick_101 : decode b_Ref_quick 101 = .ok ((.if_icmp .ge 7), 3) := by decide +kernel
theorem d_Ref_quick_104 : decode b_Ref_quick 104 = .ok ((.iconst 1), 1) := by decide +kernel
theorem d_Ref_quick_105 : decode b_Ref_quick 105 = .ok ((.goto 4), 3) := by decide +kernel
theorem d_Ref_quick_108 : decode b_Ref_quick 108 = .ok ((.iconst 0), 1) := by decide +kernel
theorem d_Ref_quick_109 : decode b_Ref_quick 109 = .ok ((.istore 8), 2) := by decide +kernel
theorem d_Ref_quick_111 : decode b_Ref_quick 111 = .ok ((.iload 8), 2) := by decide +kernel
theorem d_Ref_quick_113 : decode b_Ref_quick 113 = .ok ((.ifCond .eq 8), 3) := by decide +kernel
theorem d_Ref_quick_116 : decode b_Ref_quick 116 = .ok ((.iload 5), 2) := by decide +kernel
theorem d_Ref_quick_118 : decode b_Ref_quick 118 = .ok ((.goto 5), 3) := by decide +kernel
theorem d_Ref_quick_121 : decode b_Ref_quick 121 = .ok ((.iload 4), 2) := by decide +kernel
theorem d_Ref_quick_123 : decode b_Ref_quick 123 = .ok ((.istore 4), 2) := by decide +kernel
theorem d_Ref_quick_125 : decode b_Ref_quick 125 = .ok ((.iinc 5 1), 3) := by decide +kernel
theorem d_Ref_quick_128 : decode b_Ref_quick 128 = .ok ((.goto (-110)), 3) := by decide +kernel
theorem d_Ref_quick_131 : decode b_Ref_quick 131 = .ok ((.aload_n 0), 1) := by decide +kernel
theorem d_Ref_quick_132 : decode b_Ref_quick 132 = .ok ((.getfield 46), 3) := by decide +kernel
theorem d_Ref_quick_135 : decode b_Ref_quick 135 = .ok ((.iload_n 2), 1) := by decide +kernel
theorem d_Ref_quick_136 : decode b_Ref_quick 136 = .ok ((.iload 4), 2) := by decide +kernel
theorem d_Ref_quick_138 : decode b_Ref_quick 138 = .ok (.iastore, 1) := by decide +kernel
theorem d_Ref_quick_139 : decode b_Ref_quick 139 = .ok ((.iinc 2 1), 3) := by decide +kernel
theorem d_Ref_quick_142 : decode b_Ref_quick 142 = .ok ((.iload_n 3), 1) := by decide +kernel
theorem d_Ref_quick_143 : decode b_Ref_quick 143 = .ok ((.aload_n 0), 1) := by decide +kernel
theorem d_Ref_quick_144 : decode b_Ref_quick 144 = .ok ((.getfield 31), 3) := by decide +kernel
theorem d_Ref_quick_147 : decode b_Ref_quick 147 = .ok ((.iload 4), 2) := by decide +kernel
theorem d_Ref_quick_149 : decode b_Ref_quick 149 = .ok (.iaload, 1) := by decide +kernel
theorem d_Ref_quick_150 : decode b_Ref_quick 150 = .ok (.ior, 1) := by decide +kernel
theorem d_Ref_quick_151 : decode b_Ref_quick 151 = .ok ((.istore_n 3), 1) := by decide +kernel
theorem d_Ref_quick_152 : decode b_Ref_quick 152 = .ok ((.goto (-148)), 3) := by decide +kernel
theorem d_Ref_quick_155 : decode b_Ref_quick 155 = .ok ((.iload_n 2), 1) := by decide +kernel
theorem d_Ref_quick_156 : decode b_Ref_quick 156 = .ok ((.iconst 1), 1) := by decide +kernel
theorem d_Ref_quick_157 : decode b_Ref_quick 157 = .ok (.isub, 1) := by decide +kernel
theorem d_Ref_quick_158 : decode b_Ref_quick 158 = .ok ((.istore 4), 2) := by decide +kernel
theorem d_Ref_quick_160 : decode b_Ref_quick 160 = .ok ((.iload 4), 2) := by decide +kernel
theorem d_Ref_quick_162 : decode b_Ref_quick 162 = .ok ((.ifCond .lt 93), 3) := by decide +kernel
theorem d_Ref_quick_165 : decode b_Ref_quick 165 = .ok ((.iconst 0), 1) := by decide +kernel
theorem d_Ref_quick_166 : decode b_Ref_quick 166 = .ok ((.istore 5), 2) := by decide +kernel
theorem d_Ref_quick_168 : decode b_Ref_quick 168 = .ok ((.iconst 0), 1) := by decide +kernel
theorem d_Ref_quick_169 : decode b_Ref_quick 169 = .ok ((.istore 6), 2) := by decide +kernel
theorem d_Ref_quick_171 : decode b_Ref_quick 171 = .ok ((.iload 6), 2) := by decide +kernel
theorem d_Ref_quick_173 : decode b_Ref_quick 173 = .ok ((.iload_n 2), 1) := by decide +kernel
theorem d_Ref_quick_174 : decode b_Ref_quick 174 = .ok ((.if_icmp .ge 48), 3) := by decide +kernel
theorem d_Ref_quick_177 : decode b_Ref_quick 177 = .ok ((.iload 6), 2) := by decide +kernel
theorem d_Ref_quick_179 : decode b_Ref_quick 179 = .ok ((.iload 4), 2) := by decide +kernel
theorem d_Ref_quick_181 : decode b_Ref_quick 181 = .ok ((.if_icmp .eq 13), 3) := by decide +kernel
theorem d_Ref_quick_184 : decode b_Ref_quick 184 = .ok ((.aload_n 0), 1) := by decide +kernel
theorem d_Ref_quick_185 : decode b_Ref_quick 185 = .ok ((.getfield 46), 3) := by decide +kernel
theorem d_Ref_quick_188 : decode b_Ref_quick 188 = .ok ((.iload 6), 2) := by decide +kernel
theorem d_Ref_quick_190 : decode b_Ref_quick 190 = .ok (.iaload, 1) := by decide +kernel
theorem d_Ref_quick_191 : decode b_Ref_quick 191 = .ok ((.ifCond .ge 8), 3) := by decide +kernel
theorem d_Ref_quick_194 : decode b_Ref_quick 194 = .ok ((.iload 5), 2) := by decide +kernel
theorem d_Ref_quick_196 : decode b_Ref_quick 196 = .ok ((.goto 18), 3) := by decide +kernel
theorem d_Ref_quick_199 : decode b_Ref_quick 199 = .ok ((.iload 5), 2) := by decide +kernel
theorem d_Ref_quick_201 : decode b_Ref_quick 201 = .ok ((.aload_n 0), 1) := by decide +kernel
theorem d_Ref_quick_202 : decode b_Ref_quick 202 = .ok ((.getfield 31), 3) := by decide +kernel
theorem d_Ref_quick_205 : decode b_Ref_quick 205 = .ok ((.aload_n 0), 1) := by decide +kernel
theorem d_Ref_quick_206 : decode b_Ref_quick 206 = .ok ((.getfield 46), 3) := by decide +kernel
theorem d_Ref_quick_209 : decode b_Ref_quick 209 = .ok ((.iload 6), 2) := by decide +kernel
theorem d_Ref_quick_211 : decode b_Ref_quick 211 = .ok (.iaload, 1) := by decide +kernel
theorem d_Ref_quick_212 : decode b_Ref_quick 212 = .ok (.iaload, 1) := by decide +kernel
theorem d_Ref_quick_213 : decode b_Ref_quick 213 = .ok (.ior, 1) := by decide +kernel
theorem d_Ref_quick_214 : decode b_Ref_quick 214 = .ok ((.istore 5), 2) := by decide +kernel
theorem d_Ref_quick_216 : decode b_Ref_quick 216 = .ok ((.iinc 6 1), 3) := by decide +kernel
theorem d_Ref_quick_219 : decode b_Ref_quick 219 = .ok ((.goto (-48)), 3) := by decide +kernel
theorem d_Ref_quick_222 : decode b_Ref_quick 222 = .ok ((.aload_n 0), 1) := by decide +kernel
theorem d_Ref_quick_223 : decode b_Ref_quick 223 = .ok ((.getfield 46), 3) := by decide +kernel
theorem d_Ref_quick_226 : decode b_Ref_quick 226 = .ok ((.iload 4), 2) := by decide +kernel
theorem d_Ref_quick_228 : decode b_Ref_quick 228 = .ok ((.iload_n 1), 1) := by decide +kernel
theorem d_Ref_quick_229 : decode b_Ref_quick 229 = .ok ((.iload 5), 2) := by decide +kernel
theorem d_Ref_quick_231 : decode b_Ref_quick 231 = .ok ((.iconst (-1)), 1) := by decide +kernel
theorem d_Ref_quick_232 : decode b_Ref_quick 232 = .ok (.ixor, 1) := by decide +kernel
theorem d_Ref_quick_233 : decode b_Ref_quick 233 = .ok (.iand, 1) := by decide +kernel
theorem d_Ref_quick_234 : decode b_Ref_quick 234 = .ok ((.ifCond .ne 7), 3) := by decide +kernel
theorem d_Ref_quick_237 : decode b_Ref_quick 237 = .ok ((.iconst (-1)), 1) := by decide +kernel
theorem d_Ref_quick_238 : decode b_Ref_quick 238 = .ok ((.goto 10), 3) := by decide +kernel
theorem d_Ref_quick_241 : decode b_Ref_quick 241 = .ok ((.aload_n 0), 1) := by decide +kernel
theorem d_Ref_quick_242 : decode b_Ref_quick 242 = .ok ((.getfield 46), 3) := by decide +kernel
theorem d_Ref_quick_245 : decode b_Ref_quick 245 = .ok ((.iload 4), 2) := by decide +kernel
theorem d_Ref_quick_247 : decode b_Ref_quick 247 = .ok (.iaload, 1) := by decide +kernel
theorem d_Ref_quick_248 : decode b_Ref_quick 248 = .ok (.iastore, 1) := by decide +kernel
theorem d_Ref_quick_249 : decode b_Ref_quick 249 = .ok ((.iinc 4 (-1)), 3) := by decide +kernel
theorem d_Ref_quick_252 : decode b_Ref_quick 252 = .ok ((.goto (-92)), 3) := by decide +kernel
theorem d_Ref_quick_255 : decode b_Ref_quick 255 = .ok ((.iconst 0), 1) := by decide +kernel
theorem d_Ref_quick_256 : decode b_Ref_quick 256 = .ok ((.istore 4), 2) := by decide +kernel
theorem d_Ref_quick_258 : decode b_Ref_quick 258 = .ok ((.iconst 0), 1) := by decide +kernel
theorem d_Ref_quick_259 : decode b_Ref_quick 259 = .ok ((.istore 5), 2) := by decide +kernel
theorem d_Ref_quick_261 : decode b_Ref_quick 261 = .ok ((.iload 5), 2) := by decide +kernel
theorem d_Ref_quick_263 : decode b_Ref_quick 263 = .ok ((.aload_n 0), 1) := by decide +kernel
theorem d_Ref_quick_264 : decode b_Ref_quick 264 = .ok ((.getfield 82), 3) := by decide +kernel
theorem d_Ref_quick_267 : decode b_Ref_quick 267 = .ok ((.if_icmp .ge 48), 3) := by decide +kernel
theorem d_Ref_quick_270 : decode b_Ref_quick 270 = .ok ((.iconst 0), 1) := by decide +kernel
theorem d_Ref_quick_271 : decode b_Ref_quick 271 = .ok ((.istore 6), 2) := by decide +kernel
theorem d_Ref_quick_273 : decode b_Ref_quick 273 = .ok ((.iload 6), 2) := by decide +kernel
theorem d_Ref_quick_275 : decode b_Ref_quick 275 = .ok ((.iload_n 2), 1) := by decide +kernel
theorem d_Ref_quick_276 : decode b_Ref_quick 276 = .ok ((.if_icmp .ge 33), 3) := by decide +kernel
theorem d_Ref_quick_279 : decode b_Ref_quick 279 = .ok ((.aload_n 0), 1) := by decide +kernel
theorem d_Ref_quick_280 : decode b_Ref_quick 280 = .ok ((.getfield 46), 3) := by decide +kernel
theorem d_Ref_quick_283 : decode b_Ref_quick 283 = .ok ((.iload 6), 2) := by decide +kernel
theorem d_Ref_quick_285 : decode b_Ref_quick 285 = .ok (.iaload, 1) := by decide +kernel
theorem d_Ref_quick_286 : decode b_Ref_quick 286 = .ok ((.iload 5), 2) := by decide +kernel
theorem d_Ref_quick_288 : decode b_Ref_quick 288 = .ok ((.if_icmp .ne 15), 3) := by decide +kernel
theorem d_Ref_quick_291 : decode b_Ref_quick 291 = .ok ((.aload_n 0), 1) := by decide +kernel
theorem d_Ref_quick_292 : decode b_Ref_quick 292 = .ok ((.getfield 49), 3) := by decide +kernel
theorem d_Ref_quick_295 : decode b_Ref_quick 295 = .ok ((.iload 4), 2) := by decide +kernel
theorem d_Ref_quick_297 : decode b_Ref_quick 297 = .ok ((.iload 5), 2) := by decide +kernel
theorem d_Ref_quick_299 : decode b_Ref_quick 299 = .ok (.iastore, 1) := by decide +kernel
theorem d_Ref_quick_300 : decode b_Ref_quick 300 = .ok ((.iinc 4 1), 3) := by decide +kernel
theorem d_Ref_quick_303 : decode b_Ref_quick 303 = .ok ((.iinc 6 1), 3) := by decide +kernel
theorem d_Ref_quick_306 : decode b_Ref_quick 306 = .ok ((.goto (-33)), 3) := by decide +kernel
theorem d_Ref_quick_309 : decode b_Ref_quick 309 = .ok ((.iinc 5 1), 3) := by decide +kernel
theorem d_Ref_quick_312 : decode b_Ref_quick 312 = .ok ((.goto (-51)), 3) := by decide +kernel
theorem d_Ref_quick_315 : decode b_Ref_quick 315 = .ok ((.iload 4), 2) := by decide +kernel
theorem d_Ref_quick_317 : decode b_Ref_quick 317 = .ok (.ireturn, 1) := by decide +kernel
theorem d_Ref_ones_0 : decode b_Ref_ones 0 = .ok ((.iconst 0), 1) := by decide +kernel
theorem d_Ref_ones_1 : decode b_Ref_ones 1 = .ok ((.istore_n 1), 1) := by decide +kernel
theorem d_Ref_ones_2 : decode b_Ref_ones 2 = .ok ((.iconst 0), 1) := by decide +kernel
theorem d_Ref_ones_3 : decode b_Ref_ones 3 = .ok ((.istore_n 2), 1) := by decide +kernel
theorem d_Ref_ones_4 : decode b_Ref_ones 4 = .ok ((.iload_n 2), 1) := by decide +kernel
theorem d_Ref_ones_5 : decode b_Ref_ones 5 = .ok ((.bipush 32), 2) := by decide +kernel
theorem d_Ref_ones_7 : decode b_Ref_ones 7 = .ok ((.if_icmp .ge 17), 3) := by decide +kernel
theorem d_Ref_ones_10 : decode b_Ref_ones 10 = .ok ((.iload_n 1), 1) := by decide +kernel
theorem d_Ref_ones_11 : decode b_Ref_ones 11 = .ok ((.iload_n 0), 1) := by decide +kernel
theorem d_Ref_ones_12 : decode b_Ref_ones 12 = .ok ((.iload_n 2), 1) := by decide +kernel
theorem d_Ref_ones_13 : decode b_Ref_ones 13 = .ok (.iushr, 1) := by decide +kernel
theorem d_Ref_ones_14 : decode b_Ref_ones 14 = .ok ((.iconst 1), 1) := by decide +kernel
theorem d_Ref_ones_15 : decode b_Ref_ones 15 = .ok (.iand, 1) := by decide +kernel
theorem d_Ref_ones_16 : decode b_Ref_ones 16 = .ok (.iadd, 1) := by decide +kernel
theorem d_Ref_ones_17 : decode b_Ref_ones 17 = .ok ((.istore_n 1), 1) := by decide +kernel
theorem d_Ref_ones_18 : decode b_Ref_ones 18 = .ok ((.iinc 2 1), 3) := by decide +kernel
theorem d_Ref_ones_21 : decode b_Ref_ones 21 = .ok ((.goto (-17)), 3) := by decide +kernel
theorem d_Ref_ones_24 : decode b_Ref_ones 24 = .ok ((.iload_n 1), 1) := by decide +kernel
theorem d_Ref_ones_25 : decode b_Ref_ones 25 = .ok (.ireturn, 1) := by decide +kernel
theorem d_Ref_at_0 : decode b_Ref_at 0 = .ok ((.aload_n 0), 1) := by decide +kernel
theorem d_Ref_at_1 : decode b_Ref_at 1 = .ok ((.aload_n 0), 1) := by decide +kernel
theorem d_Ref_at_2 : decode b_Ref_at 2 = .ok ((.getfield 113), 3) := by decide +kernel
theorem d_Ref_at_5 : decode b_Ref_at 5 = .ok ((.ifCond .ne 7), 3) := by decide +kernel
theorem d_Ref_at_8 : decode b_Ref_at 8 = .ok ((.iconst 1), 1) := by decide +kernel
theorem d_Ref_at_9 : decode b_Ref_at 9 = .ok ((.goto 37), 3) := by decide +kernel
theorem d_Ref_at_12 : decode b_Ref_at 12 = .ok ((.iload_n 1), 1) := by decide +kernel
theorem d_Ref_at_13 : decode b_Ref_at 13 = .ok ((.ifCond .lt 32), 3) := by decide +kernel
theorem d_Ref_at_16 : decode b_Ref_at 16 = .ok ((.iload_n 1), 1) := by decide +kernel
theorem d_Ref_at_17 : decode b_Ref_at 17 = .ok ((.aload_n 0), 1) := by decide +kernel
theorem d_Ref_at_18 : decode b_Ref_at 18 = .ok ((.getfield 110), 3) := by decide +kernel
theorem d_Ref_at_21 : decode b_Ref_at 21 = .ok ((.if_icmp .ge 24), 3) := by decide +kernel
theorem d_Ref_at_24 : decode b_Ref_at 24 = .ok ((.iload_n 2), 1) := by decide +kernel
theorem d_Ref_at_25 : decode b_Ref_at 25 = .ok ((.ifCond .lt 20), 3) := by decide +kernel
theorem d_Ref_at_28 : decode b_Ref_at 28 = .ok ((.iload_n 2), 1) := by decide +kernel
theorem d_Ref_at_29 : decode b_Ref_at 29 = .ok ((.aload_n 0), 1) := by decide +kernel
theorem d_Ref_at_30 : decode b_Ref_at 30 = .ok ((.getfield 55), 3) := by decide +kernel
theorem d_Ref_at_33 : decode b_Ref_at 33 = .ok ((.aload_n 0), 1) := by decide +kernel
theorem d_Ref_at_34 : decode b_Ref_at 34 = .ok ((.getfield 59), 3) := by decide +kernel
theorem d_Ref_at_37 : decode b_Ref_at 37 = .ok (.iadd, 1) := by decide +kernel
theorem d_Ref_at_38 : decode b_Ref_at 38 = .ok ((.if_icmp .ge 7), 3) := by decide +kernel
theorem d_Ref_at_41 : decode b_Ref_at 41 = .ok ((.iconst 0), 1) := by decide +kernel
theorem d_Ref_at_42 : decode b_Ref_at 42 = .ok ((.goto 4), 3) := by decide +kernel
theorem d_Ref_at_45 : decode b_Ref_at 45 = .ok ((.iconst 2), 1) := by decide +kernel
theorem d_Ref_at_46 : decode b_Ref_at 46 = .ok ((.putfield 65), 3) := by decide +kernel
theorem d_Ref_at_49 : decode b_Ref_at 49 = .ok ((.aload_n 0), 1) := by decide +kernel
theorem d_Ref_at_50 : decode b_Ref_at 50 = .ok ((.getfield 65), 3) := by decide +kernel
theorem d_Ref_at_53 : decode b_Ref_at 53 = .ok ((.ifCond .le 5), 3) := by decide +kernel
theorem d_Ref_at_56 : decode b_Ref_at 56 = .ok ((.iconst 0), 1) := by decide +kernel
theorem d_Ref_at_57 : decode b_Ref_at 57 = .ok (.ireturn, 1) := by decide +kernel
theorem d_Ref_at_58 : decode b_Ref_at 58 = .ok ((.iload_n 2), 1) := by decide +kernel
theorem d_Ref_at_59 : decode b_Ref_at 59 = .ok ((.aload_n 0), 1) := by decide +kernel
theorem d_Ref_at_60 : decode b_Ref_at 60 = .ok ((.getfield 55), 3) := by decide +kernel
theorem d_Ref_at_63 : decode b_Ref_at 63 = .ok ((.if_icmp .ge 17), 3) := by decide +kernel
theorem d_Ref_at_66 : decode b_Ref_at 66 = .ok ((.aload_n 0), 1) := by decide +kernel
theorem d_Ref_at_67 : decode b_Ref_at 67 = .ok ((.aload_n 0), 1) := by decide +kernel
theorem d_Ref_at_68 : decode b_Ref_at 68 = .ok ((.getfield 37), 3) := by decide +kernel
theorem d_Ref_at_71 : decode b_Ref_at 71 = .ok ((.iload_n 1), 1) := by decide +kernel
theorem d_Ref_at_72 : decode b_Ref_at 72 = .ok (.iaload, 1) := by decide +kernel
theorem d_Ref_at_73 : decode b_Ref_at 73 = .ok ((.iload_n 2), 1) := by decide +kernel
theorem d_Ref_at_74 : decode b_Ref_at 74 = .ok ((.invokevirtual 68), 3) := by decide +kernel
theorem d_Ref_at_77 : decode b_Ref_at 77 = .ok ((.goto 18), 3) := by decide +kernel
theorem d_Ref_at_80 : decode b_Ref_at 80 = .ok ((.aload_n 0), 1) := by decide +kernel
theorem d_Ref_at_81 : decode b_Ref_at 81 = .ok ((.getfield 40), 3) := by decide +kernel
theorem d_Ref_at_84 : decode b_Ref_at 84 = .ok ((.iload_n 1), 1) := by decide +kernel
theorem d_Ref_at_85 : decode b_Ref_at 85 = .ok (.iaload, 1) := by decide +kernel
theorem d_Ref_at_86 : decode b_Ref_at 86 = .ok ((.iload_n 2), 1) := by decide +kernel
theorem d_Ref_at_87 : decode b_Ref_at 87 = .ok ((.aload_n 0), 1) := by decide +kernel
theorem d_Ref_at_88 : decode b_Ref_at 88 = .ok ((.getfield 55), 3) := by decide +kernel
theorem d_Ref_at_91 : decode b_Ref_at 91 = .ok (.isub, 1) := by decide +kernel
theorem d_Ref_at_92 : decode b_Ref_at 92 = .ok (.ishr, 1) := by decide +kernel
theorem d_Ref_at_93 : decode b_Ref_at 93 = .ok ((.iconst 1), 1) := by decide +kernel
theorem d_Ref_at_94 : decode b_Ref_at 94 = .ok (.iand, 1) := by decide +kernel
theorem d_Ref_at_95 : decode b_Ref_at 95 = .ok (.ireturn, 1) := by decide +kernel
theorem d_Ref_tautology_0 : decode b_Ref_tautology 0 = .ok ((.aload_n 0), 1) := by decide +kernel
theorem d_Ref_tautology_1 : decode b_Ref_tautology 1 = .ok ((.iconst 0), 1) := by decide +kernel
theorem d_Ref_tautology_2 : decode b_Ref_tautology 2 = .ok ((.putfield 65), 3) := by decide +kernel
theorem d_Ref_tautology_5 : decode b_Ref_tautology 5 = .ok ((.aload_n 0), 1) := by decide +kernel
theorem d_Ref_tautology_6 : decode b_Ref_tautology 6 = .ok ((.invokevirtual 79), 3) := by decide +kernel
theorem d_Ref_tautology_9 : decode b_Ref_tautology 9 = .ok ((.iconst 1), 1) := by decide +kernel
theorem d_Ref_tautology_10 : decode b_Ref_tautology 10 = .ok ((.istore_n 1), 1) := by decide +kernel
theorem d_Ref_tautology_11 : decode b_Ref_tautology 11 = .ok ((.iconst 0), 1) := by decide +kernel
theorem d_Ref_tautology_12 : decode b_Ref_tautology 12 = .ok ((.istore_n 2), 1) := by decide +kernel
theorem d_Ref_tautology_13 : decode b_Ref_tautology 13 = .ok ((.iload_n 2), 1) := by decide +kernel
theorem d_Ref_tautology_14 : decode b_Ref_tautology 14 = .ok ((.aload_n 0), 1) := by decide +kernel
theorem d_Ref_tautology_15 : decode b_Ref_tautology 15 = .ok ((.getfield 59), 3) := by decide +kernel
theorem d_Ref_tautology_18 : decode b_Ref_tautology 18 = .ok ((.if_icmp .ge 38), 3) := by decide +kernel
theorem d_Ref_tautology_21 : decode b_Ref_tautology 21 = .ok ((.iload_n 1), 1) := by decide +kernel
theorem d_Ref_tautology_22 : decode b_Ref_tautology 22 = .ok ((.ifCond .eq 26), 3) := by decide +kernel
theorem d_Ref_tautology_25 : decode b_Ref_tautology 25 = .ok ((.aload_n 0), 1) := by decide +kernel
theorem d_Ref_tautology_26 : decode b_Ref_tautology 26 = .ok ((.getfield 19), 3) := by decide +kernel
theorem d_Ref_tautology_29 : decode b_Ref_tautology 29 = .ok ((.iload_n 2), 1) := by decide +kernel
theorem d_Ref_tautology_30 : decode b_Ref_tautology 30 = .ok (.iaload, 1) := by decide +kernel
theorem d_Ref_tautology_31 : decode b_Ref_tautology 31 = .ok ((.iconst 1), 1) := by decide +kernel
theorem d_Ref_tautology_32 : decode b_Ref_tautology 32 = .ok ((.iconst 1), 1) := by decide +kernel
theorem d_Ref_tautology_33 : decode b_Ref_tautology 33 = .ok ((.aload_n 0), 1) := by decide +kernel
theorem d_Ref_tautology_34 : decode b_Ref_tautology 34 = .ok ((.getfield 55), 3) := by decide +kernel
theorem d_Ref_tautology_37 : decode b_Ref_tautology 37 = .ok (.ishl, 1) := by decide +kernel
theorem d_Ref_tautology_38 : decode b_Ref_tautology 38 = .ok (.ishl, 1) := by decide +kernel
theorem d_Ref_tautology_39 : decode b_Ref_tautology 39 = .ok ((.iconst 1), 1) := by decide +kernel
theorem d_Ref_tautology_40 : decode b_Ref_tautology 40 = .ok (.isub, 1) := by decide +kernel
theorem d_Ref_tautology_41 : decode b_Ref_tautology 41 = .ok ((.if_icmp .ne 7), 3) := by decide +kernel
theorem d_Ref_tautology_44 : decode b_Ref_tautology 44 = .ok ((.iconst 1), 1) := by decide +kernel
theorem d_Ref_tautology_45 : decode b_Ref_tautology 45 = .ok ((.goto 4), 3) := by decide +kernel
theorem d_Ref_tautology_48 : decode b_Ref_tautology 48 = .ok ((.iconst 0), 1) := by decide +kernel
theorem d_Ref_tautology_49 : decode b_Ref_tautology 49 = .ok ((.istore_n 1), 1) := by decide +kernel
theorem d_Ref_tautology_50 : decode b_Ref_tautology 50 = .ok ((.iinc 2 1), 3) := by decide +kernel
theorem d_Ref_tautology_53 : decode b_Ref_tautology 53 = .ok ((.goto (-40)), 3) := by decide +kernel
theorem d_Ref_tautology_56 : decode b_Ref_tautology 56 = .ok ((.iload_n 1), 1) := by decide +kernel
theorem d_Ref_tautology_57 : decode b_Ref_tautology 57 = .ok (.ireturn, 1) := by decide +kernel
theorem d_Ref_cost_0 : decode b_Ref_cost 0 = .ok ((.aload_n 0), 1) := by decide +kernel
theorem d_Ref_cost_1 : decode b_Ref_cost 1 = .ok ((.aload_n 0), 1) := by decide +kernel
theorem d_Ref_cost_2 : decode b_Ref_cost 2 = .ok ((.getfield 113), 3) := by decide +kernel
theorem d_Ref_cost_5 : decode b_Ref_cost 5 = .ok ((.ifCond .eq 7), 3) := by decide +kernel
theorem d_Ref_cost_8 : decode b_Ref_cost 8 = .ok ((.iconst 0), 1) := by decide +kernel
theorem d_Ref_cost_9 : decode b_Ref_cost 9 = .ok ((.goto 4), 3) := by decide +kernel
theorem d_Ref_cost_12 : decode b_Ref_cost 12 = .ok ((.iconst 1), 1) := by decide +kernel
theorem d_Ref_cost_13 : decode b_Ref_cost 13 = .ok ((.putfield 65), 3) := by decide +kernel
theorem d_Ref_cost_16 : decode b_Ref_cost 16 = .ok ((.iconst 0), 1) := by decide +kernel
theorem d_Ref_cost_17 : decode b_Ref_cost 17 = .ok ((.istore_n 1), 1) := by decide +kernel
theorem d_Ref_cost_18 : decode b_Ref_cost 18 = .ok ((.iconst 0), 1) := by decide +kernel
theorem d_Ref_cost_19 : decode b_Ref_cost 19 = .ok ((.istore_n 2), 1) := by decide +kernel
theorem d_Ref_cost_20 : decode b_Ref_cost 20 = .ok ((.iload_n 2), 1) := by decide +kernel
theorem d_Ref_cost_21 : decode b_Ref_cost 21 = .ok ((.aload_n 0), 1) := by decide +kernel
theorem d_Ref_cost_22 : decode b_Ref_cost 22 = .ok ((.getfield 110), 3) := by decide +kernel
theorem d_Ref_cost_25 : decode b_Ref_cost 25 = .ok ((.if_icmp .ge 35), 3) := by decide +kernel
theorem d_Ref_cost_28 : decode b_Ref_cost 28 = .ok ((.aload_n 0), 1) := by decide +kernel
theorem d_Ref_cost_29 : decode b_Ref_cost 29 = .ok ((.getfield 113), 3) := by decide +kernel
theorem d_Ref_cost_32 : decode b_Ref_cost 32 = .ok ((.ifCond .eq 28), 3) := by decide +kernel
theorem d_Ref_cost_35 : decode b_Ref_cost 35 = .ok ((.iload_n 1), 1) := by decide +kernel
theorem d_Ref_cost_36 : decode b_Ref_cost 36 = .ok ((.aload_n 0), 1) := by decide +kernel
theorem d_Ref_cost_37 : decode b_Ref_cost 37 = .ok ((.aload_n 0), 1) := by decide +kernel
theorem d_Ref_cost_38 : decode b_Ref_cost 38 = .ok ((.getfield 37), 3) := by decide +kernel
theorem d_Ref_cost_41 : decode b_Ref_cost 41 = .ok ((.iload_n 2), 1) := by decide +kernel
theorem d_Ref_cost_42 : decode b_Ref_cost 42 = .ok (.iaload, 1) := by decide +kernel
theorem d_Ref_cost_43 : decode b_Ref_cost 43 = .ok ((.aload_n 0), 1) := by decide +kernel
theorem d_Ref_cost_44 : decode b_Ref_cost 44 = .ok ((.getfield 40), 3) := by decide +kernel
theorem d_Ref_cost_47 : decode b_Ref_cost 47 = .ok ((.iload_n 2), 1) := by decide +kernel
theorem d_Ref_cost_48 : decode b_Ref_cost 48 = .ok (.iaload, 1) := by decide +kernel
theorem d_Ref_cost_49 : decode b_Ref_cost 49 = .ok ((.invokevirtual 88), 3) := by decide +kernel
theorem d_Ref_cost_52 : decode b_Ref_cost 52 = .ok (.iadd, 1) := by decide +kernel
theorem d_Ref_cost_53 : decode b_Ref_cost 53 = .ok ((.istore_n 1), 1) := by decide +kernel
theorem d_Ref_cost_54 : decode b_Ref_cost 54 = .ok ((.iinc 2 1), 3) := by decide +kernel
theorem d_Ref_cost_57 : decode b_Ref_cost 57 = .ok ((.goto (-37)), 3) := by decide +kernel
theorem d_Ref_cost_60 : decode b_Ref_cost 60 = .ok ((.iload_n 1), 1) := by decide +kernel
theorem d_Ref_cost_61 : decode b_Ref_cost 61 = .ok (.i2l, 1) := by decide +kernel
theorem d_Ref_cost_62 : decode b_Ref_cost 62 = .ok (.lreturn, 1) := by decide +kernel
theorem d_Ref_equal_0 : decode b_Ref_equal 0 = .ok ((.aload_n 0), 1) := by decide +kernel
theorem d_Ref_equal_1 : decode b_Ref_equal 1 = .ok ((.aload_n 0), 1) := by decide +kernel
theorem d_Ref_equal_2 : decode b_Ref_equal 2 = .ok ((.getfield 113), 3) := by decide +kernel
theorem d_Ref_equal_5 : decode b_Ref_equal 5 = .ok ((.ifCond .eq 7), 3) := by decide +kernel
theorem d_Ref_equal_8 : decode b_Ref_equal 8 = .ok ((.iconst 0), 1) := by decide +kernel
theorem d_Ref_equal_9 : decode b_Ref_equal 9 = .ok ((.goto 4), 3) := by decide +kernel
theorem d_Ref_equal_12 : decode b_Ref_equal 12 = .ok ((.iconst 1), 1) := by decide +kernel
theorem d_Ref_equal_13 : decode b_Ref_equal 13 = .ok ((.putfield 65), 3) := by decide +kernel
theorem d_Ref_equal_16 : decode b_Ref_equal 16 = .ok ((.aload_n 0), 1) := by decide +kernel
theorem d_Ref_equal_17 : decode b_Ref_equal 17 = .ok ((.getfield 65), 3) := by decide +kernel
theorem d_Ref_equal_20 : decode b_Ref_equal 20 = .ok ((.ifCond .le 5), 3) := by decide +kernel
theorem d_Ref_equal_23 : decode b_Ref_equal 23 = .ok ((.iconst 0), 1) := by decide +kernel
theorem d_Ref_equal_24 : decode b_Ref_equal 24 = .ok (.ireturn, 1) := by decide +kernel
theorem d_Ref_equal_25 : decode b_Ref_equal 25 = .ok ((.aload_n 0), 1) := by decide +kernel
theorem d_Ref_equal_26 : decode b_Ref_equal 26 = .ok ((.invokevirtual 79), 3) := by decide +kernel
theorem d_Ref_equal_29 : decode b_Ref_equal 29 = .ok ((.iconst 1), 1) := by decide +kernel
theorem d_Ref_equal_30 : decode b_Ref_equal 30 = .ok ((.istore_n 1), 1) := by decide +kernel
theorem d_Ref_equal_31 : decode b_Ref_equal 31 = .ok ((.iconst 0), 1) := by decide +kernel
theorem d_Ref_equal_32 : decode b_Ref_equal 32 = .ok ((.istore_n 2), 1) := by decide +kernel
theorem d_Ref_equal_33 : decode b_Ref_equal 33 = .ok ((.iload_n 2), 1) := by decide +kernel
theorem d_Ref_equal_34 : decode b_Ref_equal 34 = .ok ((.aload_n 0), 1) := by decide +kernel
theorem d_Ref_equal_35 : decode b_Ref_equal 35 = .ok ((.getfield 59), 3) := by decide +kernel
theorem d_Ref_equal_38 : decode b_Ref_equal 38 = .ok ((.if_icmp .ge 51), 3) := by decide +kernel
theorem d_Ref_equal_41 : decode b_Ref_equal 41 = .ok ((.aload_n 0), 1) := by decide +kernel
theorem d_Ref_equal_42 : decode b_Ref_equal 42 = .ok ((.iload_n 2), 1) := by decide +kernel
theorem d_Ref_equal_43 : decode b_Ref_equal 43 = .ok ((.invokevirtual 120), 3) := by decide +kernel
theorem d_Ref_equal_46 : decode b_Ref_equal 46 = .ok ((.istore_n 3), 1) := by decide +kernel
theorem d_Ref_equal_47 : decode b_Ref_equal 47 = .ok ((.iload_n 1), 1) := by decide +kernel
theorem d_Ref_equal_48 : decode b_Ref_equal 48 = .ok ((.ifCond .eq 33), 3) := by decide +kernel
theorem d_Ref_equal_51 : decode b_Ref_equal 51 = .ok ((.aload_n 0), 1) := by decide +kernel
theorem d_Ref_equal_52 : decode b_Ref_equal 52 = .ok ((.getfield 16), 3) := by decide +kernel
theorem d_Ref_equal_55 : decode b_Ref_equal 55 = .ok ((.iload_n 2), 1) := by decide +kernel
theorem d_Ref_equal_56 : decode b_Ref_equal 56 = .ok (.iaload, 1) := by decide +kernel
theorem d_Ref_equal_57 : decode b_Ref_equal 57 = .ok ((.iload_n 3), 1) := by decide +kernel
theorem d_Ref_equal_58 : decode b_Ref_equal 58 = .ok ((.iconst (-1)), 1) := by decide +kernel
theorem d_Ref_equal_59 : decode b_Ref_equal 59 = .ok (.ixor, 1) := by decide +kernel
theorem d_Ref_equal_60 : decode b_Ref_equal 60 = .ok (.iand, 1) := by decide +kernel
theorem d_Ref_equal_61 : decode b_Ref_equal 61 = .ok ((.ifCond .ne 20), 3) := by decide +kernel
theorem d_Ref_equal_64 : decode b_Ref_equal 64 = .ok ((.iload_n 3), 1) := by decide +kernel
theorem d_Ref_equal_65 : decode b_Ref_equal 65 = .ok ((.aload_n 0), 1) := by decide +kernel
theorem d_Ref_equal_66 : decode b_Ref_equal 66 = .ok ((.getfield 19), 3) := by decide +kernel
theorem d_Ref_equal_69 : decode b_Ref_equal 69 = .ok ((.iload_n 2), 1) := by decide +kernel
theorem d_Ref_equal_70 : decode b_Ref_equal 70 = .ok (.iaload, 1) := by decide +kernel
theorem d_Ref_equal_71 : decode b_Ref_equal 71 = .ok ((.iconst (-1)), 1) := by decide +kernel
theorem d_Ref_equal_72 : decode b_Ref_equal 72 = .ok (.ixor, 1) := by decide +kernel
theorem d_Ref_equal_73 : decode b_Ref_equal 73 = .ok (.iand, 1) := by decide +kernel
theorem d_Ref_equal_74 : decode b_Ref_equal 74 = .ok ((.ifCond .ne 7), 3) := by decide +kernel
theorem d_Ref_equal_77 : decode b_Ref_equal 77 = .ok ((.iconst 1), 1) := by decide +kernel
theorem d_Ref_equal_78 : decode b_Ref_equal 78 = .ok ((.goto 4), 3) := by decide +kernel
theorem d_Ref_equal_81 : decode b_Ref_equal 81 = .ok ((.iconst 0), 1) := by decide +kernel
theorem d_Ref_equal_82 : decode b_Ref_equal 82 = .ok ((.istore_n 1), 1) := by decide +kernel
theorem d_Ref_equal_83 : decode b_Ref_equal 83 = .ok ((.iinc 2 1), 3) := by decide +kernel
theorem d_Ref_equal_86 : decode b_Ref_equal 86 = .ok ((.goto (-53)), 3) := by decide +kernel
theorem d_Ref_equal_89 : decode b_Ref_equal 89 = .ok ((.iload_n 1), 1) := by decide +kernel
theorem d_Ref_equal_90 : decode b_Ref_equal 90 = .ok (.ireturn, 1) := by decide +kernel
theorem d_Ref_keptPoints_0 : decode b_Ref_keptPoints 0 = .ok ((.iconst 0), 1) := by decide +kernel
theorem d_Ref_keptPoints_1 : decode b_Ref_keptPoints 1 = .ok ((.istore_n 2), 1) := by decide +kernel
theorem d_Ref_keptPoints_2 : decode b_Ref_keptPoints 2 = .ok ((.iconst 0), 1) := by decide +kernel
theorem d_Ref_keptPoints_3 : decode b_Ref_keptPoints 3 = .ok ((.istore_n 3), 1) := by decide +kernel
theorem d_Ref_keptPoints_4 : decode b_Ref_keptPoints 4 = .ok ((.iload_n 3), 1) := by decide +kernel
theorem d_Ref_keptPoints_5 : decode b_Ref_keptPoints 5 = .ok ((.aload_n 0), 1) := by decide +kernel
theorem d_Ref_keptPoints_6 : decode b_Ref_keptPoints 6 = .ok ((.getfield 110), 3) := by decide +kernel
theorem d_Ref_keptPoints_9 : decode b_Ref_keptPoints 9 = .ok ((.if_icmp .ge 40), 3) := by decide +kernel
theorem d_Ref_keptPoints_12 : decode b_Ref_keptPoints 12 = .ok ((.aload_n 0), 1) := by decide +kernel
theorem d_Ref_keptPoints_13 : decode b_Ref_keptPoints 13 = .ok ((.getfield 40), 3) := by decide +kernel
theorem d_Ref_keptPoints_16 : decode b_Ref_keptPoints 16 = .ok ((.iload_n 3), 1) := by decide +kernel
theorem d_Ref_keptPoints_17 : decode b_Ref_keptPoints 17 = .ok (.iaload, 1) := by decide +kernel
theorem d_Ref_keptPoints_18 : decode b_Ref_keptPoints 18 = .ok ((.iload_n 1), 1) := by decide +kernel
theorem d_Ref_keptPoints_19 : decode b_Ref_keptPoints 19 = .ok (.ishr, 1) := by decide +kernel
theorem d_Ref_keptPoints_20 : decode b_Ref_keptPoints 20 = .ok ((.iconst 1), 1) := by decide +kernel
theorem d_Ref_keptPoints_21 : decode b_Ref_keptPoints 21 = .ok (.iand, 1) := by decide +kernel
theorem d_Ref_keptPoints_22 : decode b_Ref_keptPoints 22 = .ok ((.iconst 1), 1) := by decide +kernel
theorem d_Ref_keptPoints_23 : decode b_Ref_keptPoints 23 = .ok ((.if_icmp .ne 18), 3) := by decide +kernel
theorem d_Ref_keptPoints_26 : decode b_Ref_keptPoints 26 = .ok ((.iload_n 2), 1) := by decide +kernel
theorem d_Ref_keptPoints_27 : decode b_Ref_keptPoints 27 = .ok ((.aload_n 0), 1) := by decide +kernel
theorem d_Ref_keptPoints_28 : decode b_Ref_keptPoints 28 = .ok ((.aload_n 0), 1) := by decide +kernel
theorem d_Ref_keptPoints_29 : decode b_Ref_keptPoints 29 = .ok ((.getfield 37), 3) := by decide +kernel
theorem d_Ref_keptPoints_32 : decode b_Ref_keptPoints 32 = .ok ((.iload_n 3), 1) := by decide +kernel
theorem d_Ref_keptPoints_33 : decode b_Ref_keptPoints 33 = .ok (.iaload, 1) := by decide +kernel
theorem d_Ref_keptPoints_34 : decode b_Ref_keptPoints 34 = .ok ((.invokevirtual 75), 3) := by decide +kernel
theorem d_Ref_keptPoints_37 : decode b_Ref_keptPoints 37 = .ok (.ior, 1) := by decide +kernel
theorem d_Ref_keptPoints_38 : decode b_Ref_keptPoints 38 = .ok ((.goto 4), 3) := by decide +kernel
theorem d_Ref_keptPoints_41 : decode b_Ref_keptPoints 41 = .ok ((.iload_n 2), 1) := by decide +kernel
theorem d_Ref_keptPoints_42 : decode b_Ref_keptPoints 42 = .ok ((.istore_n 2), 1) := by decide +kernel
theorem d_Ref_keptPoints_43 : decode b_Ref_keptPoints 43 = .ok ((.iinc 3 1), 3) := by decide +kernel
theorem d_Ref_keptPoints_46 : decode b_Ref_keptPoints 46 = .ok ((.goto (-42)), 3) := by decide +kernel
theorem d_Ref_keptPoints_49 : decode b_Ref_keptPoints 49 = .ok ((.iload_n 2), 1) := by decide +kernel
theorem d_Ref_keptPoints_50 : decode b_Ref_keptPoints 50 = .ok (.ireturn, 1) := by decide +kernel
theorem d_Ref_value_0 : decode b_Ref_value 0 = .ok ((.aload_n 0), 1) := by decide +kernel
theorem d_Ref_value_1 : decode b_Ref_value 1 = .ok ((.aload_n 0), 1) := by decide +kernel
theorem d_Ref_value_2 : decode b_Ref_value 2 = .ok ((.getfield 113), 3) := by decide +kernel
theorem d_Ref_value_5 : decode b_Ref_value 5 = .ok ((.ifCond .ne 7), 3) := by decide +kernel
theorem d_Ref_value_8 : decode b_Ref_value 8 = .ok ((.iconst 1), 1) := by decide +kernel
theorem d_Ref_value_9 : decode b_Ref_value 9 = .ok ((.goto 42), 3) := by decide +kernel
theorem d_Ref_value_12 : decode b_Ref_value 12 = .ok ((.iload_n 3), 1) := by decide +kernel
theorem d_Ref_value_13 : decode b_Ref_value 13 = .ok ((.ifCond .lt 11), 3) := by decide +kernel
theorem d_Ref_value_16 : decode b_Ref_value 16 = .ok ((.iload_n 3), 1) := by decide +kernel
theorem d_Ref_value_17 : decode b_Ref_value 17 = .ok ((.aload_n 0), 1) := by decide +kernel
theorem d_Ref_value_18 : decode b_Ref_value 18 = .ok ((.getfield 59), 3) := by decide +kernel
theorem d_Ref_value_21 : decode b_Ref_value 21 = .ok ((.if_icmp .lt 7), 3) := by decide +kernel
theorem d_Ref_value_24 : decode b_Ref_value 24 = .ok ((.iconst 2), 1) := by decide +kernel
