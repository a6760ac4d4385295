theorem d_Ref_init_0 : decode b_Ref_init 0 = .ok ((.aload_n 0), 1) := by decide +kernel
theorem d_Ref_init_1 : decode b_Ref_init 1 = .ok ((.invokespecial 1), 3) := by decide +kernel
theorem d_Ref_init_4 : decode b_Ref_init 4 = .ok ((.aload_n 0), 1) := by decide +kernel
theorem d_Ref_init_5 : decode b_Ref_init 5 = .ok ((.bipush 96), 2) := by decide +kernel
theorem d_Ref_init_7 : decode b_Ref_init 7 = .ok ((.newarray .int), 2) := by decide +kernel
theorem d_Ref_init_9 : decode b_Ref_init 9 = .ok ((.putfield 7), 3) := by decide +kernel
theorem d_Ref_init_12 : decode b_Ref_init 12 = .ok ((.aload_n 0), 1) := by decide +kernel
theorem d_Ref_init_13 : decode b_Ref_init 13 = .ok ((.bipush 48), 2) := by decide +kernel
theorem d_Ref_init_15 : decode b_Ref_init 15 = .ok ((.newarray .int), 2) := by decide +kernel
theorem d_Ref_init_17 : decode b_Ref_init 17 = .ok ((.putfield 13), 3) := by decide +kernel
theorem d_Ref_init_20 : decode b_Ref_init 20 = .ok ((.aload_n 0), 1) := by decide +kernel
theorem d_Ref_init_21 : decode b_Ref_init 21 = .ok ((.iconst 2), 1) := by decide +kernel
theorem d_Ref_init_22 : decode b_Ref_init 22 = .ok ((.newarray .int), 2) := by decide +kernel
theorem d_Ref_init_24 : decode b_Ref_init 24 = .ok ((.putfield 16), 3) := by decide +kernel
theorem d_Ref_init_27 : decode b_Ref_init 27 = .ok ((.aload_n 0), 1) := by decide +kernel
theorem d_Ref_init_28 : decode b_Ref_init 28 = .ok ((.iconst 2), 1) := by decide +kernel
theorem d_Ref_init_29 : decode b_Ref_init 29 = .ok ((.newarray .int), 2) := by decide +kernel
theorem d_Ref_init_31 : decode b_Ref_init 31 = .ok ((.putfield 19), 3) := by decide +kernel
theorem d_Ref_init_34 : decode b_Ref_init 34 = .ok ((.aload_n 0), 1) := by decide +kernel
theorem d_Ref_init_35 : decode b_Ref_init 35 = .ok ((.bipush 81), 2) := by decide +kernel
theorem d_Ref_init_37 : decode b_Ref_init 37 = .ok ((.newarray .int), 2) := by decide +kernel
theorem d_Ref_init_39 : decode b_Ref_init 39 = .ok ((.putfield 22), 3) := by decide +kernel
theorem d_Ref_init_42 : decode b_Ref_init 42 = .ok ((.aload_n 0), 1) := by decide +kernel
theorem d_Ref_init_43 : decode b_Ref_init 43 = .ok ((.bipush 81), 2) := by decide +kernel
theorem d_Ref_init_45 : decode b_Ref_init 45 = .ok ((.newarray .int), 2) := by decide +kernel
theorem d_Ref_init_47 : decode b_Ref_init 47 = .ok ((.putfield 25), 3) := by decide +kernel
theorem d_Ref_init_50 : decode b_Ref_init 50 = .ok ((.aload_n 0), 1) := by decide +kernel
theorem d_Ref_init_51 : decode b_Ref_init 51 = .ok ((.bipush 81), 2) := by decide +kernel
theorem d_Ref_init_53 : decode b_Ref_init 53 = .ok ((.newarray .int), 2) := by decide +kernel
theorem d_Ref_init_55 : decode b_Ref_init 55 = .ok ((.putfield 28), 3) := by decide +kernel
theorem d_Ref_init_58 : decode b_Ref_init 58 = .ok ((.aload_n 0), 1) := by decide +kernel
theorem d_Ref_init_59 : decode b_Ref_init 59 = .ok ((.bipush 81), 2) := by decide +kernel
theorem d_Ref_init_61 : decode b_Ref_init 61 = .ok ((.newarray .int), 2) := by decide +kernel
theorem d_Ref_init_63 : decode b_Ref_init 63 = .ok ((.putfield 31), 3) := by decide +kernel
theorem d_Ref_init_66 : decode b_Ref_init 66 = .ok ((.aload_n 0), 1) := by decide +kernel
theorem d_Ref_init_67 : decode b_Ref_init 67 = .ok ((.bipush 82), 2) := by decide +kernel
theorem d_Ref_init_69 : decode b_Ref_init 69 = .ok ((.newarray .int), 2) := by decide +kernel
theorem d_Ref_init_71 : decode b_Ref_init 71 = .ok ((.putfield 34), 3) := by decide +kernel
theorem d_Ref_init_74 : decode b_Ref_init 74 = .ok ((.aload_n 0), 1) := by decide +kernel
theorem d_Ref_init_75 : decode b_Ref_init 75 = .ok ((.bipush 81), 2) := by decide +kernel
theorem d_Ref_init_77 : decode b_Ref_init 77 = .ok ((.newarray .int), 2) := by decide +kernel
theorem d_Ref_init_79 : decode b_Ref_init 79 = .ok ((.putfield 37), 3) := by decide +kernel
theorem d_Ref_init_82 : decode b_Ref_init 82 = .ok ((.aload_n 0), 1) := by decide +kernel
theorem d_Ref_init_83 : decode b_Ref_init 83 = .ok ((.bipush 81), 2) := by decide +kernel
theorem d_Ref_init_85 : decode b_Ref_init 85 = .ok ((.newarray .int), 2) := by decide +kernel
theorem d_Ref_init_87 : decode b_Ref_init 87 = .ok ((.putfield 40), 3) := by decide +kernel
theorem d_Ref_init_90 : decode b_Ref_init 90 = .ok ((.aload_n 0), 1) := by decide +kernel
theorem d_Ref_init_91 : decode b_Ref_init 91 = .ok ((.bipush 81), 2) := by decide +kernel
theorem d_Ref_init_93 : decode b_Ref_init 93 = .ok ((.newarray .int), 2) := by decide +kernel
theorem d_Ref_init_95 : decode b_Ref_init 95 = .ok ((.putfield 43), 3) := by decide +kernel
theorem d_Ref_init_98 : decode b_Ref_init 98 = .ok ((.aload_n 0), 1) := by decide +kernel
theorem d_Ref_init_99 : decode b_Ref_init 99 = .ok ((.bipush 82), 2) := by decide +kernel
theorem d_Ref_init_101 : decode b_Ref_init 101 = .ok ((.newarray .int), 2) := by decide +kernel
theorem d_Ref_init_103 : decode b_Ref_init 103 = .ok ((.putfield 46), 3) := by decide +kernel
theorem d_Ref_init_106 : decode b_Ref_init 106 = .ok ((.aload_n 0), 1) := by decide +kernel
theorem d_Ref_init_107 : decode b_Ref_init 107 = .ok ((.bipush 82), 2) := by decide +kernel
theorem d_Ref_init_109 : decode b_Ref_init 109 = .ok ((.newarray .int), 2) := by decide +kernel
theorem d_Ref_init_111 : decode b_Ref_init 111 = .ok ((.putfield 49), 3) := by decide +kernel
theorem d_Ref_init_114 : decode b_Ref_init 114 = .ok ((.aload_n 0), 1) := by decide +kernel
theorem d_Ref_init_115 : decode b_Ref_init 115 = .ok ((.bipush 64), 2) := by decide +kernel
theorem d_Ref_init_117 : decode b_Ref_init 117 = .ok ((.newarray .int), 2) := by decide +kernel
theorem d_Ref_init_119 : decode b_Ref_init 119 = .ok ((.putfield 52), 3) := by decide +kernel
theorem d_Ref_init_122 : decode b_Ref_init 122 = .ok ((.aload_n 0), 1) := by decide +kernel
theorem d_Ref_init_123 : decode b_Ref_init 123 = .ok ((.iload_n 1), 1) := by decide +kernel
theorem d_Ref_init_124 : decode b_Ref_init 124 = .ok ((.iconst 1), 1) := by decide +kernel
theorem d_Ref_init_125 : decode b_Ref_init 125 = .ok ((.if_icmp .ge 7), 3) := by decide +kernel
theorem d_Ref_init_128 : decode b_Ref_init 128 = .ok ((.iconst 1), 1) := by decide +kernel
theorem d_Ref_init_129 : decode b_Ref_init 129 = .ok ((.goto 13), 3) := by decide +kernel
theorem d_Ref_init_132 : decode b_Ref_init 132 = .ok ((.iload_n 1), 1) := by decide +kernel
theorem d_Ref_init_133 : decode b_Ref_init 133 = .ok ((.iconst 4), 1) := by decide +kernel
theorem d_Ref_init_134 : decode b_Ref_init 134 = .ok ((.if_icmp .le 7), 3) := by decide +kernel
theorem d_Ref_init_137 : decode b_Ref_init 137 = .ok ((.iconst 4), 1) := by decide +kernel
theorem d_Ref_init_138 : decode b_Ref_init 138 = .ok ((.goto 4), 3) := by decide +kernel
theorem d_Ref_init_141 : decode b_Ref_init 141 = .ok ((.iload_n 1), 1) := by decide +kernel
theorem d_Ref_init_142 : decode b_Ref_init 142 = .ok ((.putfield 55), 3) := by decide +kernel
theorem d_Ref_init_145 : decode b_Ref_init 145 = .ok ((.aload_n 0), 1) := by decide +kernel
theorem d_Ref_init_146 : decode b_Ref_init 146 = .ok ((.iload_n 2), 1) := by decide +kernel
theorem d_Ref_init_147 : decode b_Ref_init 147 = .ok ((.iconst 1), 1) := by decide +kernel
theorem d_Ref_init_148 : decode b_Ref_init 148 = .ok ((.if_icmp .ge 7), 3) := by decide +kernel
theorem d_Ref_init_151 : decode b_Ref_init 151 = .ok ((.iconst 1), 1) := by decide +kernel
theorem d_Ref_init_152 : decode b_Ref_init 152 = .ok ((.goto 13), 3) := by decide +kernel
theorem d_Ref_init_155 : decode b_Ref_init 155 = .ok ((.iload_n 2), 1) := by decide +kernel
theorem d_Ref_init_156 : decode b_Ref_init 156 = .ok ((.iconst 2), 1) := by decide +kernel
theorem d_Ref_init_157 : decode b_Ref_init 157 = .ok ((.if_icmp .le 7), 3) := by decide +kernel
theorem d_Ref_init_160 : decode b_Ref_init 160 = .ok ((.iconst 2), 1) := by decide +kernel
theorem d_Ref_init_161 : decode b_Ref_init 161 = .ok ((.goto 4), 3) := by decide +kernel
theorem d_Ref_init_164 : decode b_Ref_init 164 = .ok ((.iload_n 2), 1) := by decide +kernel
theorem d_Ref_init_165 : decode b_Ref_init 165 = .ok ((.putfield 59), 3) := by decide +kernel
theorem d_Ref_init_168 : decode b_Ref_init 168 = .ok ((.iconst 1), 1) := by decide +kernel
theorem d_Ref_init_169 : decode b_Ref_init 169 = .ok ((.istore_n 3), 1) := by decide +kernel
theorem d_Ref_init_170 : decode b_Ref_init 170 = .ok ((.iconst 0), 1) := by decide +kernel
theorem d_Ref_init_171 : decode b_Ref_init 171 = .ok ((.istore 4), 2) := by decide +kernel
theorem d_Ref_init_173 : decode b_Ref_init 173 = .ok ((.iload 4), 2) := by decide +kernel
theorem d_Ref_init_175 : decode b_Ref_init 175 = .ok ((.aload_n 0), 1) := by decide +kernel
theorem d_Ref_init_176 : decode b_Ref_init 176 = .ok ((.getfield 55), 3) := by decide +kernel
theorem d_Ref_init_179 : decode b_Ref_init 179 = .ok ((.if_icmp .ge 13), 3) := by decide +kernel
theorem d_Ref_init_182 : decode b_Ref_init 182 = .ok ((.iconst 3), 1) := by decide +kernel
theorem d_Ref_init_183 : decode b_Ref_init 183 = .ok ((.iload_n 3), 1) := by decide +kernel
theorem d_Ref_init_184 : decode b_Ref_init 184 = .ok (.imul, 1) := by decide +kernel
theorem d_Ref_init_185 : decode b_Ref_init 185 = .ok ((.istore_n 3), 1) := by decide +kernel
theorem d_Ref_init_186 : decode b_Ref_init 186 = .ok ((.iinc 4 1), 3) := by decide +kernel
theorem d_Ref_init_189 : decode b_Ref_init 189 = .ok ((.goto (-16)), 3) := by decide +kernel
theorem d_Ref_init_192 : decode b_Ref_init 192 = .ok ((.aload_n 0), 1) := by decide +kernel
theorem d_Ref_init_193 : decode b_Ref_init 193 = .ok ((.iload_n 3), 1) := by decide +kernel
theorem d_Ref_init_194 : decode b_Ref_init 194 = .ok ((.putfield 62), 3) := by decide +kernel
theorem d_Ref_init_197 : decode b_Ref_init 197 = .ok (.return_, 1) := by decide +kernel
theorem d_Ref_thrown_0 : decode b_Ref_thrown 0 = .ok ((.aload_n 0), 1) := by decide +kernel
theorem d_Ref_thrown_1 : decode b_Ref_thrown 1 = .ok ((.getfield 65), 3) := by decide +kernel
theorem d_Ref_thrown_4 : decode b_Ref_thrown 4 = .ok (.ireturn, 1) := by decide +kernel
theorem d_Ref_cube_0 : decode b_Ref_cube 0 = .ok ((.aload_n 0), 1) := by decide +kernel
theorem d_Ref_cube_1 : decode b_Ref_cube 1 = .ok ((.aload_n 0), 1) := by decide +kernel
theorem d_Ref_cube_2 : decode b_Ref_cube 2 = .ok ((.getfield 72), 3) := by decide +kernel
theorem d_Ref_cube_5 : decode b_Ref_cube 5 = .ok ((.bipush 24), 2) := by decide +kernel
theorem d_Ref_cube_7 : decode b_Ref_cube 7 = .ok ((.if_icmp .ne 7), 3) := by decide +kernel
theorem d_Ref_cube_10 : decode b_Ref_cube 10 = .ok ((.iconst 1), 1) := by decide +kernel
theorem d_Ref_cube_11 : decode b_Ref_cube 11 = .ok ((.goto 4), 3) := by decide +kernel
theorem d_Ref_cube_14 : decode b_Ref_cube 14 = .ok ((.iconst 0), 1) := by decide +kernel
theorem d_Ref_cube_15 : decode b_Ref_cube 15 = .ok ((.putfield 65), 3) := by decide +kernel
theorem d_Ref_cube_18 : decode b_Ref_cube 18 = .ok ((.aload_n 0), 1) := by decide +kernel
theorem d_Ref_cube_19 : decode b_Ref_cube 19 = .ok ((.getfield 65), 3) := by decide +kernel
theorem d_Ref_cube_22 : decode b_Ref_cube 22 = .ok ((.ifCond .le 5), 3) := by decide +kernel
theorem d_Ref_cube_25 : decode b_Ref_cube 25 = .ok ((.iconst 0), 1) := by decide +kernel
theorem d_Ref_cube_26 : decode b_Ref_cube 26 = .ok (.ireturn, 1) := by decide +kernel
theorem d_Ref_cube_27 : decode b_Ref_cube 27 = .ok ((.iconst 0), 1) := by decide +kernel
theorem d_Ref_cube_28 : decode b_Ref_cube 28 = .ok ((.istore_n 1), 1) := by decide +kernel
theorem d_Ref_cube_29 : decode b_Ref_cube 29 = .ok ((.iload_n 1), 1) := by decide +kernel
theorem d_Ref_cube_30 : decode b_Ref_cube 30 = .ok ((.iconst 4), 1) := by decide +kernel
theorem d_Ref_cube_31 : decode b_Ref_cube 31 = .ok ((.if_icmp .ge 23), 3) := by decide +kernel
theorem d_Ref_cube_34 : decode b_Ref_cube 34 = .ok ((.aload_n 0), 1) := by decide +kernel
theorem d_Ref_cube_35 : decode b_Ref_cube 35 = .ok ((.getfield 7), 3) := by decide +kernel
theorem d_Ref_cube_38 : decode b_Ref_cube 38 = .ok ((.iconst 4), 1) := by decide +kernel
theorem d_Ref_cube_39 : decode b_Ref_cube 39 = .ok ((.aload_n 0), 1) := by decide +kernel
theorem d_Ref_cube_40 : decode b_Ref_cube 40 = .ok ((.getfield 72), 3) := by decide +kernel
theorem d_Ref_cube_43 : decode b_Ref_cube 43 = .ok (.imul, 1) := by decide +kernel
theorem d_Ref_cube_44 : decode b_Ref_cube 44 = .ok ((.iload_n 1), 1) := by decide +kernel
theorem d_Ref_cube_45 : decode b_Ref_cube 45 = .ok (.iadd, 1) := by decide +kernel
theorem d_Ref_cube_46 : decode b_Ref_cube 46 = .ok ((.iconst 2), 1) := by decide +kernel
theorem d_Ref_cube_47 : decode b_Ref_cube 47 = .ok (.iastore, 1) := by decide +kernel
theorem d_Ref_cube_48 : decode b_Ref_cube 48 = .ok ((.iinc 1 1), 3) := by decide +kernel
theorem d_Ref_cube_51 : decode b_Ref_cube 51 = .ok ((.goto (-22)), 3) := by decide +kernel
theorem d_Ref_cube_54 : decode b_Ref_cube 54 = .ok ((.aload_n 0), 1) := by decide +kernel
theorem d_Ref_cube_55 : decode b_Ref_cube 55 = .ok ((.getfield 13), 3) := by decide +kernel
theorem d_Ref_cube_58 : decode b_Ref_cube 58 = .ok ((.iconst 2), 1) := by decide +kernel
theorem d_Ref_cube_59 : decode b_Ref_cube 59 = .ok ((.aload_n 0), 1) := by decide +kernel
theorem d_Ref_cube_60 : decode b_Ref_cube 60 = .ok ((.getfield 72), 3) := by decide +kernel
theorem d_Ref_cube_63 : decode b_Ref_cube 63 = .ok (.imul, 1) := by decide +kernel
theorem d_Ref_cube_64 : decode b_Ref_cube 64 = .ok ((.iconst 0), 1) := by decide +kernel
theorem d_Ref_cube_65 : decode b_Ref_cube 65 = .ok (.iastore, 1) := by decide +kernel
theorem d_Ref_cube_66 : decode b_Ref_cube 66 = .ok ((.aload_n 0), 1) := by decide +kernel
theorem d_Ref_cube_67 : decode b_Ref_cube 67 = .ok ((.getfield 13), 3) := by decide +kernel
theorem d_Ref_cube_70 : decode b_Ref_cube 70 = .ok ((.iconst 2), 1) := by decide +kernel
theorem d_Ref_cube_71 : decode b_Ref_cube 71 = .ok ((.aload_n 0), 1) := by decide +kernel
theorem d_Ref_cube_72 : decode b_Ref_cube 72 = .ok ((.getfield 72), 3) := by decide +kernel
theorem d_Ref_cube_75 : decode b_Ref_cube 75 = .ok (.imul, 1) := by decide +kernel
theorem d_Ref_cube_76 : decode b_Ref_cube 76 = .ok ((.iconst 1), 1) := by decide +kernel
theorem d_Ref_cube_77 : decode b_Ref_cube 77 = .ok (.iadd, 1) := by decide +kernel
theorem d_Ref_cube_78 : decode b_Ref_cube 78 = .ok ((.iconst 0), 1) := by decide +kernel
theorem d_Ref_cube_79 : decode b_Ref_cube 79 = .ok (.iastore, 1) := by decide +kernel
theorem d_Ref_cube_80 : decode b_Ref_cube 80 = .ok ((.aload_n 0), 1) := by decide +kernel
theorem d_Ref_cube_81 : decode b_Ref_cube 81 = .ok (.dup, 1) := by decide +kernel
theorem d_Ref_cube_82 : decode b_Ref_cube 82 = .ok ((.getfield 72), 3) := by decide +kernel
theorem d_Ref_cube_85 : decode b_Ref_cube 85 = .ok ((.iconst 1), 1) := by decide +kernel
theorem d_Ref_cube_86 : decode b_Ref_cube 86 = .ok (.iadd, 1) := by decide +kernel
theorem d_Ref_cube_87 : decode b_Ref_cube 87 = .ok ((.putfield 72), 3) := by decide +kernel
theorem d_Ref_cube_90 : decode b_Ref_cube 90 = .ok ((.aload_n 0), 1) := by decide +kernel
theorem d_Ref_cube_91 : decode b_Ref_cube 91 = .ok ((.getfield 72), 3) := by decide +kernel
theorem d_Ref_cube_94 : decode b_Ref_cube 94 = .ok ((.iconst 1), 1) := by decide +kernel
theorem d_Ref_cube_95 : decode b_Ref_cube 95 = .ok (.isub, 1) := by decide +kernel
theorem d_Ref_cube_96 : decode b_Ref_cube 96 = .ok (.ireturn, 1) := by decide +kernel
theorem d_Ref_literal_0 : decode b_Ref_literal 0 = .ok ((.aload_n 0), 1) := by decide +kernel
theorem d_Ref_literal_1 : decode b_Ref_literal 1 = .ok ((.iload_n 1), 1) := by decide +kernel
theorem d_Ref_literal_2 : decode b_Ref_literal 2 = .ok ((.ifCond .lt 23), 3) := by decide +kernel
theorem d_Ref_literal_5 : decode b_Ref_literal 5 = .ok ((.iload_n 1), 1) := by decide +kernel
theorem d_Ref_literal_6 : decode b_Ref_literal 6 = .ok ((.aload_n 0), 1) := by decide +kernel
theorem d_Ref_literal_7 : decode b_Ref_literal 7 = .ok ((.getfield 72), 3) := by decide +kernel
theorem d_Ref_literal_10 : decode b_Ref_literal 10 = .ok ((.if_icmp .ge 15), 3) := by decide +kernel
theorem d_Ref_literal_13 : decode b_Ref_literal 13 = .ok ((.iload_n 2), 1) := by decide +kernel
theorem d_Ref_literal_14 : decode b_Ref_literal 14 = .ok ((.ifCond .lt 11), 3) := by decide +kernel
theorem d_Ref_literal_17 : decode b_Ref_literal 17 = .ok ((.iload_n 2), 1) := by decide +kernel
theorem d_Ref_literal_18 : decode b_Ref_literal 18 = .ok ((.aload_n 0), 1) := by decide +kernel
theorem d_Ref_literal_19 : decode b_Ref_literal 19 = .ok ((.getfield 55), 3) := by decide +kernel
theorem d_Ref_literal_22 : decode b_Ref_literal 22 = .ok ((.if_icmp .lt 7), 3) := by decide +kernel
theorem d_Ref_literal_25 : decode b_Ref_literal 25 = .ok ((.iconst 1), 1) := by decide +kernel
theorem d_Ref_literal_26 : decode b_Ref_literal 26 = .ok ((.goto 17), 3) := by decide +kernel
theorem d_Ref_literal_29 : decode b_Ref_literal 29 = .ok ((.iload_n 3), 1) := by decide +kernel
theorem d_Ref_literal_30 : decode b_Ref_literal 30 = .ok ((.ifCond .lt 8), 3) := by decide +kernel
theorem d_Ref_literal_33 : decode b_Ref_literal 33 = .ok ((.iload_n 3), 1) := by decide +kernel
theorem d_Ref_literal_34 : decode b_Ref_literal 34 = .ok ((.iconst 2), 1) := by decide +kernel
theorem d_Ref_literal_35 : decode b_Ref_literal 35 = .ok ((.if_icmp .le 7), 3) := by decide +kernel
theorem d_Ref_literal_38 : decode b_Ref_literal 38 = .ok ((.iconst 2), 1) := by decide +kernel
theorem d_Ref_literal_39 : decode b_Ref_literal 39 = .ok ((.goto 4), 3) := by decide +kernel
theorem d_Ref_literal_42 : decode b_Ref_literal 42 = .ok ((.iconst 0), 1) := by decide +kernel
theorem d_Ref_literal_43 : decode b_Ref_literal 43 = .ok ((.putfield 65), 3) := by decide +kernel
theorem d_Ref_literal_46 : decode b_Ref_literal 46 = .ok ((.aload_n 0), 1) := by decide +kernel
theorem d_Ref_literal_47 : decode b_Ref_literal 47 = .ok ((.getfield 65), 3) := by decide +kernel
theorem d_Ref_literal_50 : decode b_Ref_literal 50 = .ok ((.ifCond .le 5), 3) := by decide +kernel
theorem d_Ref_literal_53 : decode b_Ref_literal 53 = .ok ((.iconst 0), 1) := by decide +kernel
theorem d_Ref_literal_54 : decode b_Ref_literal 54 = .ok (.ireturn, 1) := by decide +kernel
theorem d_Ref_literal_55 : decode b_Ref_literal 55 = .ok ((.aload_n 0), 1) := by decide +kernel
theorem d_Ref_literal_56 : decode b_Ref_literal 56 = .ok ((.getfield 7), 3) := by decide +kernel
theorem d_Ref_literal_59 : decode b_Ref_literal 59 = .ok ((.iconst 4), 1) := by decide +kernel
theorem d_Ref_literal_60 : decode b_Ref_literal 60 = .ok ((.iload_n 1), 1) := by decide +kernel
theorem d_Ref_literal_61 : decode b_Ref_literal 61 = .ok (.imul, 1) := by decide +kernel
theorem d_Ref_literal_62 : decode b_Ref_literal 62 = .ok ((.iload_n 2), 1) := by decide +kernel
theorem d_Ref_literal_63 : decode b_Ref_literal 63 = .ok (.iadd, 1) := by decide +kernel
theorem d_Ref_literal_64 : decode b_Ref_literal 64 = .ok (.iaload, 1) := by decide +kernel
theorem d_Ref_literal_65 : decode b_Ref_literal 65 = .ok ((.iload_n 3), 1) := by decide +kernel
theorem d_Ref_literal_66 : decode b_Ref_literal 66 = .ok ((.if_icmp .eq 7), 3) := by decide +kernel
theorem d_Ref_literal_69 : decode b_Ref_literal 69 = .ok ((.iconst 1), 1) := by decide +kernel
theorem d_Ref_literal_70 : decode b_Ref_literal 70 = .ok ((.goto 4), 3) := by decide +kernel
theorem d_Ref_literal_73 : decode b_Ref_literal 73 = .ok ((.iconst 0), 1) := by decide +kernel
theorem d_Ref_literal_74 : decode b_Ref_literal 74 = .ok ((.istore 4), 2) := by decide +kernel
theorem d_Ref_literal_76 : decode b_Ref_literal 76 = .ok ((.aload_n 0), 1) := by decide +kernel
theorem d_Ref_literal_77 : decode b_Ref_literal 77 = .ok ((.getfield 7), 3) := by decide +kernel
theorem d_Ref_literal_80 : decode b_Ref_literal 80 = .ok ((.iconst 4), 1) := by decide +kernel
theorem d_Ref_literal_81 : decode b_Ref_literal 81 = .ok ((.iload_n 1), 1) := by decide +kernel
theorem d_Ref_literal_82 : decode b_Ref_literal 82 = .ok (.imul, 1) := by decide +kernel
theorem d_Ref_literal_83 : decode b_Ref_literal 83 = .ok ((.iload_n 2), 1) := by decide +kernel
theorem d_Ref_literal_84 : decode b_Ref_literal 84 = .ok (.iadd, 1) := by decide +kernel
theorem d_Ref_literal_85 : decode b_Ref_literal 85 = .ok ((.iload_n 3), 1) := by decide +kernel
theorem d_Ref_literal_86 : decode b_Ref_literal 86 = .ok (.iastore, 1) := by decide +kernel
theorem d_Ref_literal_87 : decode b_Ref_literal 87 = .ok ((.iload 4), 2) := by decide +kernel
theorem d_Ref_literal_89 : decode b_Ref_literal 89 = .ok (.ireturn, 1) := by decide +kernel
theorem d_Ref_to_0 : decode b_Ref_to 0 = .ok ((.aload_n 0), 1) := by decide +kernel
theorem d_Ref_to_1 : decode b_Ref_to 1 = .ok ((.iload_n 1), 1) := by decide +kernel
theorem d_Ref_to_2 : decode b_Ref_to 2 = .ok ((.ifCond .lt 23), 3) := by decide +kernel
theorem d_Ref_to_5 : decode b_Ref_to 5 = .ok ((.iload_n 1), 1) := by decide +kernel
theorem d_Ref_to_6 : decode b_Ref_to 6 = .ok ((.aload_n 0), 1) := by decide +kernel
theorem d_Ref_to_7 : decode b_Ref_to 7 = .ok ((.getfield 72), 3) := by decide +kernel
theorem d_Ref_to_10 : decode b_Ref_to 10 = .ok ((.if_icmp .ge 15), 3) := by decide +kernel
theorem d_Ref_to_13 : decode b_Ref_to 13 = .ok ((.iload_n 2), 1) := by decide +kernel
theorem d_Ref_to_14 : decode b_Ref_to 14 = .ok ((.ifCond .lt 11), 3) := by decide +kernel
theorem d_Ref_to_17 : decode b_Ref_to 17 = .ok ((.iload_n 2), 1) := by decide +kernel
theorem d_Ref_to_18 : decode b_Ref_to 18 = .ok ((.aload_n 0), 1) := by decide +kernel
theorem d_Ref_to_19 : decode b_Ref_to 19 = .ok ((.getfield 59), 3) := by decide +kernel
theorem d_Ref_to_22 : decode b_Ref_to 22 = .ok ((.if_icmp .lt 7), 3) := by decide +kernel
theorem d_Ref_to_25 : decode b_Ref_to 25 = .ok ((.iconst 1), 1) := by decide +kernel
theorem d_Ref_to_26 : decode b_Ref_to 26 = .ok ((.goto 17), 3) := by decide +kernel
theorem d_Ref_to_29 : decode b_Ref_to 29 = .ok ((.iload_n 3), 1) := by decide +kernel
theorem d_Ref_to_30 : decode b_Ref_to 30 = .ok ((.ifCond .lt 8), 3) := by decide +kernel
theorem d_Ref_to_33 : decode b_Ref_to 33 = .ok ((.iload_n 3), 1) := by decide +kernel
theorem d_Ref_to_34 : decode b_Ref_to 34 = .ok ((.iconst 2), 1) := by decide +kernel
theorem d_Ref_to_35 : decode b_Ref_to 35 = .ok ((.if_icmp .le 7), 3) := by decide +kernel
theorem d_Ref_to_38 : decode b_Ref_to 38 = .ok ((.iconst 2), 1) := by decide +kernel
theorem d_Ref_to_39 : decode b_Ref_to 39 = .ok ((.goto 4), 3) := by decide +kernel
theorem d_Ref_to_42 : decode b_Ref_to 42 = .ok ((.iconst 0), 1) := by decide +kernel
theorem d_Ref_to_43 : decode b_Ref_to 43 = .ok ((.putfield 65), 3) := by decide +kernel
theorem d_Ref_to_46 : decode b_Ref_to 46 = .ok ((.aload_n 0), 1) := by decide +kernel
theorem d_Ref_to_47 : decode b_Ref_to 47 = .ok ((.getfield 65), 3) := by decide +kernel
theorem d_Ref_to_50 : decode b_Ref_to 50 = .ok ((.ifCond .le 5), 3) := by decide +kernel
theorem d_Ref_to_53 : decode b_Ref_to 53 = .ok ((.iconst 0), 1) := by decide +kernel
theorem d_Ref_to_54 : decode b_Ref_to 54 = .ok (.ireturn, 1) := by decide +kernel
theorem d_Ref_to_55 : decode b_Ref_to 55 = .ok ((.aload_n 0), 1) := by decide +kernel
theorem d_Ref_to_56 : decode b_Ref_to 56 = .ok ((.getfield 13), 3) := by decide +kernel
theorem d_Ref_to_59 : decode b_Ref_to 59 = .ok ((.iconst 2), 1) := by decide +kernel
theorem d_Ref_to_60 : decode b_Ref_to 60 = .ok ((.iload_n 1), 1) := by decide +kernel
theorem d_Ref_to_61 : decode b_Ref_to 61 = .ok (.imul, 1) := by decide +kernel
theorem d_Ref_to_62 : decode b_Ref_to 62 = .ok ((.iload_n 2), 1) := by decide +kernel
theorem d_Ref_to_63 : decode b_Ref_to 63 = .ok (.iadd, 1) := by decide +kernel
theorem d_Ref_to_64 : decode b_Ref_to 64 = .ok (.iaload, 1) := by decide +kernel
theorem d_Ref_to_65 : decode b_Ref_to 65 = .ok ((.iload_n 3), 1) := by decide +kernel
theorem d_Ref_to_66 : decode b_Ref_to 66 = .ok ((.if_icmp .eq 7), 3) := by decide +kernel
theorem d_Ref_to_69 : decode b_Ref_to 69 = .ok ((.iconst 1), 1) := by decide +kernel
theorem d_Ref_to_70 : decode b_Ref_to 70 = .ok ((.goto 4), 3) := by decide +kernel
theorem d_Ref_to_73 : decode b_Ref_to 73 = .ok ((.iconst 0), 1) := by decide +kernel
theorem d_Ref_to_74 : decode b_Ref_to 74 = .ok ((.istore 4), 2) := by decide +kernel
theorem d_Ref_to_76 : decode b_Ref_to 76 = .ok ((.aload_n 0), 1) := by decide +kernel
theorem d_Ref_to_77 : decode b_Ref_to 77 = .ok ((.getfield 13), 3) := by decide +kernel
theorem d_Ref_to_80 : decode b_Ref_to 80 = .ok ((.iconst 2), 1) := by decide +kernel
theorem d_Ref_to_81 : decode b_Ref_to 81 = .ok ((.iload_n 1), 1) := by decide +kernel
theorem d_Ref_to_82 : decode b_Ref_to 82 = .ok (.imul, 1) := by decide +kernel
theorem d_Ref_to_83 : decode b_Ref_to 83 = .ok ((.iload_n 2), 1) := by decide +kernel
theorem d_Ref_to_84 : decode b_Ref_to 84 = .ok (.iadd, 1) := by decide +kernel
theorem d_Ref_to_85 : decode b_Ref_to 85 = .ok ((.iload_n 3), 1) := by decide +kernel
theorem d_Ref_to_86 : decode b_Ref_to 86 = .ok (.iastore, 1) := by decide +kernel
theorem d_Ref_to_87 : decode b_Ref_to 87 = .ok ((.iload 4), 2) := by decide +kernel
theorem d_Ref_to_89 : decode b_Ref_to 89 = .ok (.ireturn, 1) := by decide +kernel
theorem d_Ref_primes_0 : decode b_Ref_primes 0 = .ok ((.aload_n 0), 1) := by decide +kernel
theorem d_Ref_primes_1 : decode b_Ref_primes 1 = .ok ((.iconst 0), 1) := by decide +kernel
theorem d_Ref_primes_2 : decode b_Ref_primes 2 = .ok ((.putfield 65), 3) := by decide +kernel
theorem d_Ref_primes_5 : decode b_Ref_primes 5 = .ok ((.aload_n 0), 1) := by decide +kernel
theorem d_Ref_primes_6 : decode b_Ref_primes 6 = .ok ((.invokevirtual 91), 3) := by decide +kernel
theorem d_Ref_primes_9 : decode b_Ref_primes 9 = .ok ((.aload_n 0), 1) := by decide +kernel
theorem d_Ref_primes_10 : decode b_Ref_primes 10 = .ok ((.getfield 82), 3) := by decide +kernel
theorem d_Ref_primes_13 : decode b_Ref_primes 13 = .ok (.ireturn, 1) := by decide +kernel
theorem d_Ref_findPrimes_0 : decode b_Ref_findPrimes 0 = .ok ((.aload_n 0), 1) := by decide +kernel
theorem d_Ref_findPrimes_1 : decode b_Ref_findPrimes 1 = .ok ((.invokevirtual 79), 3) := by decide +kernel
theorem d_Ref_findPrimes_4 : decode b_Ref_findPrimes 4 = .ok ((.aload_n 0), 1) := by decide +kernel
theorem d_Ref_findPrimes_5 : decode b_Ref_findPrimes 5 = .ok ((.iconst 0), 1) := by decide +kernel
theorem d_Ref_findPrimes_6 : decode b_Ref_findPrimes 6 = .ok ((.putfield 82), 3) := by decide +kernel
theorem d_Ref_findPrimes_9 : decode b_Ref_findPrimes 9 = .ok ((.iconst 0), 1) := by decide +kernel
theorem d_Ref_findPrimes_10 : decode b_Ref_findPrimes 10 = .ok ((.istore_n 1), 1) := by decide +kernel
theorem d_Ref_findPrimes_11 : decode b_Ref_findPrimes 11 = .ok ((.iload_n 1), 1) := by decide +kernel
theorem d_Ref_findPrimes_12 : decode b_Ref_findPrimes 12 = .ok ((.aload_n 0), 1) := by decide +kernel
theorem d_Ref_findPrimes_13 : decode b_Ref_findPrimes 13 = .ok ((.getfield 62), 3) := by decide +kernel
theorem d_Ref_findPrimes_16 : decode b_Ref_findPrimes 16 = .ok ((.if_icmp .ge 193), 3) := by decide +kernel
theorem d_Ref_findPrimes_19 : decode b_Ref_findPrimes 19 = .ok ((.aload_n 0), 1) := by decide +kernel
theorem d_Ref_findPrimes_20 : decode b_Ref_findPrimes 20 = .ok ((.iload_n 1), 1) := by decide +kernel
theorem d_Ref_findPrimes_21 : decode b_Ref_findPrimes 21 = .ok ((.invokevirtual 85), 3) := by decide +kernel
theorem d_Ref_findPrimes_24 : decode b_Ref_findPrimes 24 = .ok ((.istore_n 2), 1) := by decide +kernel
theorem d_Ref_findPrimes_25 : decode b_Ref_findPrimes 25 = .ok ((.aload_n 0), 1) := by decide +kernel
theorem d_Ref_findPrimes_26 : decode b_Ref_findPrimes 26 = .ok ((.iload_n 1), 1) := by decide +kernel
theorem d_Ref_findPrimes_27 : decode b_Ref_findPrimes 27 = .ok ((.invokevirtual 75), 3) := by decide +kernel
theorem d_Ref_findPrimes_30 : decode b_Ref_findPrimes 30 = .ok ((.istore_n 3), 1) := by decide +kernel
theorem d_Ref_findPrimes_31 : decode b_Ref_findPrimes 31 = .ok ((.iload_n 2), 1) := by decide +kernel
theorem d_Ref_findPrimes_32 : decode b_Ref_findPrimes 32 = .ok ((.ifCond .le 7), 3) := by decide +kernel
theorem d_Ref_findPrimes_35 : decode b_Ref_findPrimes 35 = .ok ((.iconst 1), 1) := by decide +kernel
theorem d_Ref_findPrimes_36 : decode b_Ref_findPrimes 36 = .ok ((.goto 4), 3) := by decide +kernel
theorem d_Ref_findPrimes_39 : decode b_Ref_findPrimes 39 = .ok ((.iconst 0), 1) := by decide +kernel
theorem d_Ref_findPrimes_40 : decode b_Ref_findPrimes 40 = .ok ((.istore 4), 2) := by decide +kernel
theorem d_Ref_findPrimes_42 : decode b_Ref_findPrimes 42 = .ok ((.iconst 0), 1) := by decide +kernel
theorem d_Ref_findPrimes_43 : decode b_Ref_findPrimes 43 = .ok ((.istore 5), 2) := by decide +kernel
theorem d_Ref_findPrimes_45 : decode b_Ref_findPrimes 45 = .ok ((.iload 5), 2) := by decide +kernel
theorem d_Ref_findPrimes_47 : decode b_Ref_findPrimes 47 = .ok ((.aload_n 0), 1) := by decide +kernel
theorem d_Ref_findPrimes_48 : decode b_Ref_findPrimes 48 = .ok ((.getfield 62), 3) := by decide +kernel
theorem d_Ref_findPrimes_51 : decode b_Ref_findPrimes 51 = .ok ((.if_icmp .ge 53), 3) := by decide +kernel
theorem d_Ref_findPrimes_54 : decode b_Ref_findPrimes 54 = .ok ((.iload 4), 2) := by decide +kernel
theorem d_Ref_findPrimes_56 : decode b_Ref_findPrimes 56 = .ok ((.ifCond .eq 48), 3) := by decide +kernel
theorem d_Ref_findPrimes_59 : decode b_Ref_findPrimes 59 = .ok ((.iload 5), 2) := by decide +kernel
theorem d_Ref_findPrimes_61 : decode b_Ref_findPrimes 61 = .ok ((.iload_n 1), 1) := by decide +kernel
theorem d_Ref_findPrimes_62 : decode b_Ref_findPrimes 62 = .ok ((.if_icmp .eq 29), 3) := by decide +kernel
theorem d_Ref_findPrimes_65 : decode b_Ref_findPrimes 65 = .ok ((.iload_n 3), 1) := by decide +kernel
theorem d_Ref_findPrimes_66 : decode b_Ref_findPrimes 66 = .ok ((.aload_n 0), 1) := by decide +kernel
theorem d_Ref_findPrimes_67 : decode b_Ref_findPrimes 67 = .ok ((.iload 5), 2) := by decide +kernel
theorem d_Ref_findPrimes_69 : decode b_Ref_findPrimes 69 = .ok ((.invokevirtual 75), 3) := by decide +kernel
theorem d_Ref_findPrimes_72 : decode b_Ref_findPrimes 72 = .ok ((.iconst (-1)), 1) := by decide +kernel
theorem d_Ref_findPrimes_73 : decode b_Ref_findPrimes 73 = .ok (.ixor, 1) := by decide +kernel
theorem d_Ref_findPrimes_74 : decode b_Ref_findPrimes 74 = .ok (.iand, 1) := by decide +kernel
theorem d_Ref_findPrimes_75 : decode b_Ref_findPrimes 75 = .ok ((.ifCond .ne 16), 3) := by decide +kernel
theorem d_Ref_findPrimes_78 : decode b_Ref_findPrimes 78 = .ok ((.iload_n 2), 1) := by decide +kernel
theorem d_Ref_findPrimes_79 : decode b_Ref_findPrimes 79 = .ok ((.aload_n 0), 1) := by decide +kernel
theorem d_Ref_findPrimes_80 : decode b_Ref_findPrimes 80 = .ok ((.iload 5), 2) := by decide +kernel
theorem d_Ref_findPrimes_82 : decode b_Ref_findPrimes 82 = .ok ((.invokevirtual 85), 3) := by decide +kernel
theorem d_Ref_findPrimes_85 : decode b_Ref_findPrimes 85 = .ok ((.iconst (-1)), 1) := by decide +kernel
theorem d_Ref_findPrimes_86 : decode b_Ref_findPrimes 86 = .ok (.ixor, 1) := by decide +kernel
theorem d_Ref_findPrimes_87 : decode b_Ref_findPrimes 87 = .ok (.iand, 1) := by decide +kernel
theorem d_Ref_findPrimes_88 : decode b_Ref_findPrimes 88 = .ok ((.ifCond .eq 7), 3) := by decide +kernel
theorem d_Ref_findPrimes_91 : decode b_Ref_findPrimes 91 = .ok ((.iconst 1), 1) := by decide +kernel
theorem d_Ref_findPrimes_92 : decode b_Ref_findPrimes 92 = .ok ((.goto 4), 3) := by decide +kernel
theorem d_Ref_findPrimes_95 : decode b_Ref_findPrimes 95 = .ok ((.iconst 0), 1) := by decide +kernel
theorem d_Ref_findPrimes_96 : decode b_Ref_findPrimes 96 = .ok ((.istore 4), 2) := by decide +kernel
theorem d_Ref_findPrimes_98 : decode b_Ref_findPrimes 98 = .ok ((.iinc 5 1), 3) := by decide +kernel
theorem d_Ref_findPrimes_101 : decode b_Ref_findPrimes 101 = .ok ((.goto (-56)), 3) := by decide +kernel
theorem d_Ref_findPrimes_104 : decode b_Ref_findPrimes 104 = .ok ((.iload 4), 2) := by decide +kernel
theorem d_Ref_findPrimes_106 : decode b_Ref_findPrimes 106 = .ok ((.ifCond .eq 97), 3) := by decide +kernel
theorem d_Ref_findPrimes_109 : decode b_Ref_findPrimes 109 = .ok ((.aload_n 0), 1) := by decide +kernel
theorem d_Ref_findPrimes_110 : decode b_Ref_findPrimes 110 = .ok ((.getfield 22), 3) := by decide +kernel
theorem d_Ref_findPrimes_113 : decode b_Ref_findPrimes 113 = .ok ((.aload_n 0), 1) := by decide +kernel
theorem d_Ref_findPrimes_114 : decode b_Ref_findPrimes 114 = .ok ((.getfield 82), 3) := by decide +kernel
theorem d_Ref_findPrimes_117 : decode b_Ref_findPrimes 117 = .ok ((.iload_n 1), 1) := by decide +kernel
theorem d_Ref_findPrimes_118 : decode b_Ref_findPrimes 118 = .ok (.iastore, 1) := by decide +kernel
theorem d_Ref_findPrimes_119 : decode b_Ref_findPrimes 119 = .ok ((.aload_n 0), 1) := by decide +kernel
theorem d_Ref_findPrimes_120 : decode b_Ref_findPrimes 120 = .ok ((.getfield 25), 3) := by decide +kernel
theorem d_Ref_findPrimes_123 : decode b_Ref_findPrimes 123 = .ok ((.aload_n 0), 1) := by decide +kernel
theorem d_Ref_findPrimes_124 : decode b_Ref_findPrimes 124 = .ok ((.getfield 82), 3) := by decide +kernel
theorem d_Ref_findPrimes_127 : decode b_Ref_findPrimes 127 = .ok ((.iload_n 2), 1) := by decide +kernel
theorem d_Ref_findPrimes_128 : decode b_Ref_findPrimes 128 = .ok (.iastore, 1) := by decide +kernel
theorem d_Ref_findPrimes_129 : decode b_Ref_findPrimes 129 = .ok ((.aload_n 0), 1) := by decide +kernel
theorem d_Ref_findPrimes_130 : decode b_Ref_findPrimes 130 = .ok ((.getfield 28), 3) := by decide +kernel
theorem d_Ref_findPrimes_133 : decode b_Ref_findPrimes 133 = .ok ((.aload_n 0), 1) := by decide +kernel
theorem d_Ref_findPrimes_134 : decode b_Ref_findPrimes 134 = .ok ((.getfield 82), 3) := by decide +kernel
theorem d_Ref_findPrimes_137 : decode b_Ref_findPrimes 137 = .ok ((.aload_n 0), 1) := by decide +kernel
theorem d_Ref_findPrimes_138 : decode b_Ref_findPrimes 138 = .ok ((.iload_n 1), 1) := by decide +kernel
theorem d_Ref_findPrimes_139 : decode b_Ref_findPrimes 139 = .ok ((.iload_n 2), 1) := by decide +kernel
theorem d_Ref_findPrimes_140 : decode b_Ref_findPrimes 140 = .ok ((.invokevirtual 88), 3) := by decide +kernel
theorem d_Ref_findPrimes_143 : decode b_Ref_findPrimes 143 = .ok (.iastore, 1) := by decide +kernel
theorem d_Ref_findPrimes_144 : decode b_Ref_findPrimes 144 = .ok ((.aload_n 0), 1) := by decide +kernel
theorem d_Ref_findPrimes_145 : decode b_Ref_findPrimes 145 = .ok ((.getfield 31), 3) := by decide +kernel
theorem d_Ref_findPrimes_148 : decode b_Ref_findPrimes 148 = .ok ((.aload_n 0), 1) := by decide +kernel
theorem d_Ref_findPrimes_149 : decode b_Ref_findPrimes 149 = .ok ((.getfield 82), 3) := by decide +kernel
theorem d_Ref_findPrimes_152 : decode b_Ref_findPrimes 152 = .ok ((.iload_n 2), 1) := by decide +kernel
theorem d_Ref_findPrimes_153 : decode b_Ref_findPrimes 153 = .ok ((.iconst 1), 1) := by decide +kernel
theorem d_Ref_findPrimes_154 : decode b_Ref_findPrimes 154 = .ok (.iand, 1) := by decide +kernel
theorem d_Ref_findPrimes_155 : decode b_Ref_findPrimes 155 = .ok ((.iconst 1), 1) := by decide +kernel
theorem d_Ref_findPrimes_156 : decode b_Ref_findPrimes 156 = .ok ((.if_icmp .ne 14), 3) := by decide +kernel
theorem d_Ref_findPrimes_159 : decode b_Ref_findPrimes 159 = .ok ((.iload_n 3), 1) := by decide +kernel
theorem d_Ref_findPrimes_160 : decode b_Ref_findPrimes 160 = .ok ((.aload_n 0), 1) := by decide +kernel
theorem d_Ref_findPrimes_161 : decode b_Ref_findPrimes 161 = .ok ((.getfield 16), 3) := by decide +kernel
theorem d_Ref_findPrimes_164 : decode b_Ref_findPrimes 164 = .ok ((.iconst 0), 1) := by decide +kernel
theorem d_Ref_findPrimes_165 : decode b_Ref_findPrimes 165 = .ok (.iaload, 1) := by decide +kernel
theorem d_Ref_findPrimes_166 : decode b_Ref_findPrimes 166 = .ok (.iand, 1) := by decide +kernel
theorem d_Ref_findPrimes_167 : decode b_Ref_findPrimes 167 = .ok ((.goto 4), 3) := by decide +kernel
theorem d_Ref_findPrimes_170 : decode b_Ref_findPrimes 170 = .ok ((.iconst 0), 1) := by decide +kernel
theorem d_Ref_findPrimes_171 : decode b_Ref_findPrimes 171 = .ok ((.iload_n 2), 1) := by decide +kernel
theorem d_Ref_findPrimes_172 : decode b_Ref_findPrimes 172 = .ok ((.iconst 1), 1) := by decide +kernel
theorem d_Ref_findPrimes_173 : decode b_Ref_findPrimes 173 = .ok ((.if_icmp .le 17), 3) := by decide +kernel
theorem d_Ref_findPrimes_176 : decode b_Ref_findPrimes 176 = .ok ((.iload_n 3), 1) := by decide +kernel
theorem d_Ref_findPrimes_177 : decode b_Ref_findPrimes 177 = .ok ((.aload_n 0), 1) := by decide +kernel
theorem d_Ref_findPrimes_178 : decode b_Ref_findPrimes 178 = .ok ((.getfield 16), 3) := by decide +kernel
theorem d_Ref_findPrimes_181 : decode b_Ref_findPrimes 181 = .ok ((.iconst 1), 1) := by decide +kernel
theorem d_Ref_findPrimes_182 : decode b_Ref_findPrimes 182 = .ok (.iaload, 1) := by decide +kernel
theorem d_Ref_findPrimes_183 : decode b_Ref_findPrimes 183 = .ok (.iand, 1) := by decide +kernel
theorem d_Ref_findPrimes_184 : decode b_Ref_findPrimes 184 = .ok ((.bipush 16), 2) := by decide +kernel
theorem d_Ref_findPrimes_186 : decode b_Ref_findPrimes 186 = .ok (.ishl, 1) := by decide +kernel
theorem d_Ref_findPrimes_187 : decode b_Ref_findPrimes 187 = .ok ((.goto 4), 3) := by decide +kernel
theorem d_Ref_findPrimes_190 : decode b_Ref_findPrimes 190 = .ok ((.iconst 0), 1) := by decide +kernel
theorem d_Ref_findPrimes_191 : decode b_Ref_findPrimes 191 = .ok (.ior, 1) := by decide +kernel
theorem d_Ref_findPrimes_192 : decode b_Ref_findPrimes 192 = .ok (.iastore, 1) := by decide +kernel
theorem d_Ref_findPrimes_193 : decode b_Ref_findPrimes 193 = .ok ((.aload_n 0), 1) := by decide +kernel
theorem d_Ref_findPrimes_194 : decode b_Ref_findPrimes 194 = .ok (.dup, 1) := by decide +kernel
theorem d_Ref_findPrimes_195 : decode b_Ref_findPrimes 195 = .ok ((.getfield 82), 3) := by decide +kernel
theorem d_Ref_findPrimes_198 : decode b_Ref_findPrimes 198 = .ok ((.iconst 1), 1) := by decide +kernel
theorem d_Ref_findPrimes_199 : decode b_Ref_findPrimes 199 = .ok (.iadd, 1) := by decide +kernel
theorem d_Ref_findPrimes_200 : decode b_Ref_findPrimes 200 = .ok ((.putfield 82), 3) := by decide +kernel
theorem d_Ref_findPrimes_203 : decode b_Ref_findPrimes 203 = .ok ((.iinc 1 1), 3) := by decide +kernel
theorem d_Ref_findPrimes_206 : decode b_Ref_findPrimes 206 = .ok ((.goto (-195)), 3) := by decide +kernel
theorem d_Ref_findPrimes_209 : decode b_Ref_findPrimes 209 = .ok (.return_, 1) := by decide +kernel
theorem d_Ref_work_0 : decode b_Ref_work 0 = .ok ((.iconst 0), 1) := by decide +kernel
theorem d_Ref_work_1 : decode b_Ref_work 1 = .ok ((.istore_n 1), 1) := by decide +kernel
theorem d_Ref_work_2 : decode b_Ref_work 2 = .ok ((.iload_n 1), 1) := by decide +kernel
theorem d_Ref_work_3 : decode b_Ref_work 3 = .ok ((.iconst 2), 1) := by decide +kernel
theorem d_Ref_work_4 : decode b_Ref_work 4 = .ok ((.if_icmp .ge 157), 3) := by decide +kernel
theorem d_Ref_work_7 : decode b_Ref_work 7 = .ok ((.aload_n 0), 1) := by decide +kernel
theorem d_Ref_work_8 : decode b_Ref_work 8 = .ok ((.getfield 16), 3) := by decide +kernel
theorem d_Ref_work_11 : decode b_Ref_work 11 = .ok ((.iload_n 1), 1) := by decide +kernel
theorem d_Ref_work_12 : decode b_Ref_work 12 = .ok ((.iconst 0), 1) := by decide +kernel
theorem d_Ref_work_13 : decode b_Ref_work 13 = .ok (.iastore, 1) := by decide +kernel
theorem d_Ref_work_14 : decode b_Ref_work 14 = .ok ((.aload_n 0), 1) := by decide +kernel
theorem d_Ref_work_15 : decode b_Ref_work 15 = .ok ((.getfield 19), 3) := by decide +kernel
theorem d_Ref_work_18 : decode b_Ref_work 18 = .ok ((.iload_n 1), 1) := by decide +kernel
theorem d_Ref_work_19 : decode b_Ref_work 19 = .ok ((.iconst 0), 1) := by decide +kernel
theorem d_Ref_work_20 : decode b_Ref_work 20 = .ok (.iastore, 1) := by decide +kernel
theorem d_Ref_work_21 : decode b_Ref_work 21 = .ok ((.iconst 0), 1) := by decide +kernel
theorem d_Ref_work_22 : decode b_Ref_work 22 = .ok ((.istore_n 2), 1) := by decide +kernel
theorem d_Ref_work_23 : decode b_Ref_work 23 = .ok ((.iload_n 2), 1) := by decide +kernel
theorem d_Ref_work_24 : decode b_Ref_work 24 = .ok ((.aload_n 0), 1) := by decide +kernel
theorem d_Ref_work_25 : decode b_Ref_work 25 = .ok ((.getfield 72), 3) := by decide +kernel
theorem d_Ref_work_28 : decode b_Ref_work 28 = .ok ((.if_icmp .ge 127), 3) := by decide +kernel
theorem d_Ref_work_31 : decode b_Ref_work 31 = .ok ((.iconst 0), 1) := by decide +kernel
theorem d_Ref_work_32 : decode b_Ref_work 32 = .ok ((.istore_n 3), 1) := by decide +kernel
theorem d_Ref_work_33 : decode b_Ref_work 33 = .ok ((.iconst 0), 1) := by decide +kernel
theorem d_Ref_work_34 : decode b_Ref_work 34 = .ok ((.istore 4), 2) := by decide +kernel
theorem d_Ref_work_36 : decode b_Ref_work 36 = .ok ((.iload 4), 2) := by decide +kernel
theorem d_Ref_work_38 : decode b_Ref_work 38 = .ok ((.aload_n 0), 1) := by decide +kernel
theorem d_Ref_work_39 : decode b_Ref_work 39 = .ok ((.getfield 55), 3) := by decide +kernel
theorem d_Ref_work_42 : decode b_Ref_work 42 = .ok ((.if_icmp .ge 25), 3) := by decide +kernel
theorem d_Ref_work_45 : decode b_Ref_work 45 = .ok ((.iconst 3), 1) := by decide +kernel
theorem d_Ref_work_46 : decode b_Ref_work 46 = .ok ((.iload_n 3), 1) := by decide +kernel
theorem d_Ref_work_47 : decode b_Ref_work 47 = .ok (.imul, 1) := by decide +kernel
theorem d_Ref_work_48 : decode b_Ref_work 48 = .ok ((.aload_n 0), 1) := by decide +kernel
theorem d_Ref_work_49 : decode b_Ref_work 49 = .ok ((.getfield 7), 3) := by decide +kernel
theorem d_Ref_work_52 : decode b_Ref_work 52 = .ok ((.iconst 4), 1) := by decide +kernel
theorem d_Ref_work_53 : decode b_Ref_work 53 = .ok ((.iload_n 2), 1) := by decide +kernel
theorem d_Ref_work_54 : decode b_Ref_work 54 = .ok (.imul, 1) := by decide +kernel
theorem d_Ref_work_55 : decode b_Ref_work 55 = .ok ((.iload 4), 2) := by decide +kernel
theorem d_Ref_work_57 : decode b_Ref_work 57 = .ok (.iadd, 1) := by decide +kernel
theorem d_Ref_work_58 : decode b_Ref_work 58 = .ok (.iaload, 1) := by decide +kernel
theorem d_Ref_work_59 : decode b_Ref_work 59 = .ok (.iadd, 1) := by decide +kernel
theorem d_Ref_work_60 : decode b_Ref_work 60 = .ok ((.istore_n 3), 1) := by decide +kernel
theorem d_Ref_work_61 : decode b_Ref_work 61 = .ok ((.iinc 4 1), 3) := by decide +kernel
theorem d_Ref_work_64 : decode b_Ref_work 64 = .ok ((.goto (-28)), 3) := by decide +kernel
theorem d_Ref_work_67 : decode b_Ref_work 67 = .ok ((.aload_n 0), 1) := by decide +kernel
theorem d_Ref_work_68 : decode b_Ref_work 68 = .ok ((.iload_n 3), 1) := by decide +kernel
theorem d_Ref_work_69 : decode b_Ref_work 69 = .ok ((.invokevirtual 75), 3) := by decide +kernel
theorem d_Ref_work_72 : decode b_Ref_work 72 = .ok ((.istore 4), 2) := by decide +kernel
theorem d_Ref_work_74 : decode b_Ref_work 74 = .ok ((.aload_n 0), 1) := by decide +kernel
theorem d_Ref_work_75 : decode b_Ref_work 75 = .ok ((.getfield 16), 3) := by decide +kernel
theorem d_Ref_work_78 : decode b_Ref_work 78 = .ok ((.iload_n 1), 1) := by decide +kernel
theorem d_Ref_work_79 : decode b_Ref_work 79 = .ok ((.aload_n 0), 1) := by decide +kernel
theorem d_Ref_work_80 : decode b_Ref_work 80 = .ok ((.getfield 13), 3) := by decide +kernel
theorem d_Ref_work_83 : decode b_Ref_work 83 = .ok ((.iconst 2), 1) := by decide +kernel
theorem d_Ref_work_84 : decode b_Ref_work 84 = .ok ((.iload_n 2), 1) := by decide +kernel
theorem d_Ref_work_85 : decode b_Ref_work 85 = .ok (.imul, 1) := by decide +kernel
theorem d_Ref_work_86 : decode b_Ref_work 86 = .ok ((.iload_n 1), 1) := by decide +kernel
theorem d_Ref_work_87 : decode b_Ref_work 87 = .ok (.iadd, 1) := by decide +kernel
theorem d_Ref_work_88 : decode b_Ref_work 88 = .ok (.iaload, 1) := by decide +kernel
theorem d_Ref_work_89 : decode b_Ref_work 89 = .ok ((.iconst 1), 1) := by decide +kernel
theorem d_Ref_work_90 : decode b_Ref_work 90 = .ok ((.if_icmp .ne 15), 3) := by decide +kernel
theorem d_Ref_work_93 : decode b_Ref_work 93 = .ok ((.aload_n 0), 1) := by decide +kernel
theorem d_Ref_work_94 : decode b_Ref_work 94 = .ok ((.getfield 16), 3) := by decide +kernel
theorem d_Ref_work_97 : decode b_Ref_work 97 = .ok ((.iload_n 1), 1) := by decide +kernel
theorem d_Ref_work_98 : decode b_Ref_work 98 = .ok (.iaload, 1) := by decide +kernel
theorem d_Ref_work_99 : decode b_Ref_work 99 = .ok ((.iload 4), 2) := by decide +kernel
theorem d_Ref_work_101 : decode b_Ref_work 101 = .ok (.ior, 1) := by decide +kernel
theorem d_Ref_work_102 : decode b_Ref_work 102 = .ok ((.goto 9), 3) := by decide +kernel
theorem d_Ref_work_105 : decode b_Ref_work 105 = .ok ((.aload_n 0), 1) := by decide +kernel
theorem d_Ref_work_106 : decode b_Ref_work 106 = .ok ((.getfield 16), 3) := by decide +kernel
theorem d_Ref_work_109 : decode b_Ref_work 109 = .ok ((.iload_n 1), 1) := by decide +kernel
theorem d_Ref_work_110 : decode b_Ref_work 110 = .ok (.iaload, 1) := by decide +kernel
theorem d_Ref_work_111 : decode b_Ref_work 111 = .ok (.iastore, 1) := by decide +kernel
theorem d_Ref_work_112 : decode b_Ref_work 112 = .ok ((.aload_n 0), 1) := by decide +kernel
theorem d_Ref_work_113 : decode b_Ref_work 113 = .ok ((.getfield 19), 3) := by decide +kernel
theorem d_Ref_work_116 : decode b_Ref_work 116 = .ok ((.iload_n 1), 1) := by decide +kernel
theorem d_Ref_work_117 : decode b_Ref_work 117 = .ok ((.aload_n 0), 1) := by decide +kernel
theorem d_Ref_work_118 : decode b_Ref_work 118 = .ok ((.getfield 13), 3) := by decide +kernel
theorem d_Ref_work_121 : decode b_Ref_work 121 = .ok ((.iconst 2), 1) := by decide +kernel
theorem d_Ref_work_122 : decode b_Ref_work 122 = .ok ((.iload_n 2), 1) := by decide +kernel
theorem d_Ref_work_123 : decode b_Ref_work 123 = .ok (.imul, 1) := by decide +kernel
theorem d_Ref_work_124 : decode b_Ref_work 124 = .ok ((.iload_n 1), 1) := by decide +kernel
theorem d_Ref_work_125 : decode b_Ref_work 125 = .ok (.iadd, 1) := by decide +kernel
theorem d_Ref_work_126 : decode b_Ref_work 126 = .ok (.iaload, 1) := by decide +kernel
theorem d_Ref_work_127 : decode b_Ref_work 127 = .ok ((.ifCond .le 15), 3) := by decide +kernel
theorem d_Ref_work_130 : decode b_Ref_work 130 = .ok ((.aload_n 0), 1) := by decide +kernel
theorem d_Ref_work_131 : decode b_Ref_work 131 = .ok ((.getfield 19), 3) := by decide +kernel
theorem d_Ref_work_134 : decode b_Ref_work 134 = .ok ((.iload_n 1), 1) := by decide +kernel
theorem d_Ref_work_135 : decode b_Ref_work 135 = .ok (.iaload, 1) := by decide +kernel
theorem d_Ref_work_136 : decode b_Ref_work 136 = .ok ((.iload 4), 2) := by decide +kernel
theorem d_Ref_work_138 : decode b_Ref_work 138 = .ok (.ior, 1) := by decide +kernel
theorem d_Ref_work_139 : decode b_Ref_work 139 = .ok ((.goto 9), 3) := by decide +kernel
theorem d_Ref_work_142 : decode b_Ref_work 142 = .ok ((.aload_n 0), 1) := by decide +kernel
theorem d_Ref_work_143 : decode b_Ref_work 143 = .ok ((.getfield 19), 3) := by decide +kernel
theorem d_Ref_work_146 : decode b_Ref_work 146 = .ok ((.iload_n 1), 1) := by decide +kernel
theorem d_Ref_work_147 : decode b_Ref_work 147 = .ok (.iaload, 1) := by decide +kernel
theorem d_Ref_work_148 : decode b_Ref_work 148 = .ok (.iastore, 1) := by decide +kernel
theorem d_Ref_work_149 : decode b_Ref_work 149 = .ok ((.iinc 2 1), 3) := by decide +kernel
theorem d_Ref_work_152 : decode b_Ref_work 152 = .ok ((.goto (-129)), 3) := by decide +kernel
theorem d_Ref_work_155 : decode b_Ref_work 155 = .ok ((.iinc 1 1), 3) := by decide +kernel
theorem d_Ref_work_158 : decode b_Ref_work 158 = .ok ((.goto (-156)), 3) := by decide +kernel
theorem d_Ref_work_161 : decode b_Ref_work 161 = .ok (.return_, 1) := by decide +kernel
theorem d_Ref_points_0 : decode b_Ref_points 0 = .ok ((.iconst 0), 1) := by decide +kernel
theorem d_Ref_points_1 : decode b_Ref_points 1 = .ok ((.istore_n 2), 1) := by decide +kernel
theorem d_Ref_points_2 : decode b_Ref_points 2 = .ok ((.iconst 0), 1) := by decide +kernel
theorem d_Ref_points_3 : decode b_Ref_points 3 = .ok ((.istore_n 3), 1) := by decide +kernel
theorem d_Ref_points_4 : decode b_Ref_points 4 = .ok ((.iload_n 3), 1) := by decide +kernel
theorem d_Ref_points_5 : decode b_Ref_points 5 = .ok ((.iconst 1), 1) := by decide +kernel
theorem d_Ref_points_6 : decode b_Ref_points 6 = .ok ((.aload_n 0), 1) := by decide +kernel
theorem d_Ref_points_7 : decode b_Ref_points 7 = .ok ((.getfield 55), 3) := by decide +kernel
theorem d_Ref_points_10 : decode b_Ref_points 10 = .ok (.ishl, 1) := by decide +kernel
theorem d_Ref_points_11 : decode b_Ref_points 11 = .ok ((.if_icmp .ge 83), 3) := by decide +kernel
theorem d_Ref_points_14 : decode b_Ref_points 14 = .ok ((.iconst 1), 1) := by decide +kernel
theorem d_Ref_points_15 : decode b_Ref_points 15 = .ok ((.istore 4), 2) := by decide +kernel
theorem d_Ref_points_17 : decode b_Ref_points 17 = .ok ((.iconst 0), 1) := by decide +kernel
theorem d_Ref_points_18 : decode b_Ref_points 18 = .ok ((.istore 5), 2) := by decide +kernel
theorem d_Ref_points_20 : decode b_Ref_points 20 = .ok ((.iload 5), 2) := by decide +kernel
theorem d_Ref_points_22 : decode b_Ref_points 22 = .ok ((.aload_n 0), 1) := by decide +kernel
theorem d_Ref_points_23 : decode b_Ref_points 23 = .ok ((.getfield 55), 3) := by decide +kernel
theorem d_Ref_points_26 : decode b_Ref_points 26 = .ok ((.if_icmp .ge 47), 3) := by decide +kernel
theorem d_Ref_points_29 : decode b_Ref_points 29 = .ok ((.aload_n 0), 1) := by decide +kernel
theorem d_Ref_points_30 : decode b_Ref_points 30 = .ok ((.iload_n 1), 1) := by decide +kernel
theorem d_Ref_points_31 : decode b_Ref_points 31 = .ok ((.iload 5), 2) := by decide +kernel
theorem d_Ref_points_33 : decode b_Ref_points 33 = .ok ((.invokevirtual 68), 3) := by decide +kernel
theorem d_Ref_points_36 : decode b_Ref_points 36 = .ok ((.istore 6), 2) := by decide +kernel
theorem d_Ref_points_38 : decode b_Ref_points 38 = .ok ((.iload 4), 2) := by decide +kernel
theorem d_Ref_points_40 : decode b_Ref_points 40 = .ok ((.ifCond .eq 24), 3) := by decide +kernel
theorem d_Ref_points_43 : decode b_Ref_points 43 = .ok ((.iload 6), 2) := by decide +kernel
theorem d_Ref_points_45 : decode b_Ref_points 45 = .ok ((.iconst 2), 1) := by decide +kernel
theorem d_Ref_points_46 : decode b_Ref_points 46 = .ok ((.if_icmp .eq 14), 3) := by decide +kernel
theorem d_Ref_points_49 : decode b_Ref_points 49 = .ok ((.iload 6), 2) := by decide +kernel
theorem d_Ref_points_51 : decode b_Ref_points 51 = .ok ((.iload_n 3), 1) := by decide +kernel
theorem d_Ref_points_52 : decode b_Ref_points 52 = .ok ((.iload 5), 2) := by decide +kernel
theorem d_Ref_points_54 : decode b_Ref_points 54 = .ok (.ishr, 1) := by decide +kernel
theorem d_Ref_points_55 : decode b_Ref_points 55 = .ok ((.iconst 1), 1) := by decide +kernel
theorem d_Ref_points_56 : decode b_Ref_points 56 = .ok (.iand, 1) := by decide +kernel
theorem d_Ref_points_57 : decode b_Ref_points 57 = .ok ((.if_icmp .ne 7), 3) := by decide +kernel
theorem d_Ref_points_60 : decode b_Ref_points 60 = .ok ((.iconst 1), 1) := by decide +kernel
theorem d_Ref_points_61 : decode b_Ref_points 61 = .ok ((.goto 4), 3) := by decide +kernel
theorem d_Ref_points_64 : decode b_Ref_points 64 = .ok ((.iconst 0), 1) := by decide +kernel
theorem d_Ref_points_65 : decode b_Ref_points 65 = .ok ((.istore 4), 2) := by decide +kernel
theorem d_Ref_points_67 : decode b_Ref_points 67 = .ok ((.iinc 5 1), 3) := by decide +kernel
theorem d_Ref_points_70 : decode b_Ref_points 70 = .ok ((.goto (-50)), 3) := by decide +kernel
theorem d_Ref_points_73 : decode b_Ref_points 73 = .ok ((.iload 4), 2) := by decide +kernel
theorem d_Ref_points_75 : decode b_Ref_points 75 = .ok ((.ifCond .eq 11), 3) := by decide +kernel
theorem d_Ref_points_78 : decode b_Ref_points 78 = .ok ((.iload_n 2), 1) := by decide +kernel
theorem d_Ref_points_79 : decode b_Ref_points 79 = .ok ((.iconst 1), 1) := by decide +kernel
theorem d_Ref_points_80 : decode b_Ref_points 80 = .ok ((.iload_n 3), 1) := by decide +kernel
theorem d_Ref_points_81 : decode b_Ref_points 81 = .ok (.ishl, 1) := by decide +kernel
theorem d_Ref_points_82 : decode b_Ref_points 82 = .ok (.ior, 1) := by decide +kernel
theorem d_Ref_points_83 : decode b_Ref_points 83 = .ok ((.goto 4), 3) := by decide +kernel
theorem d_Ref_points_86 : decode b_Ref_points 86 = .ok ((.iload_n 2), 1) := by decide +kernel
theorem d_Ref_points_87 : decode b_Ref_points 87 = .ok ((.istore_n 2), 1) := by decide +kernel
theorem d_Ref_points_88 : decode b_Ref_points 88 = .ok ((.iinc 3 1), 3) := by decide +kernel
theorem d_Ref_points_91 : decode b_Ref_points 91 = .ok ((.goto (-87)), 3) := by decide +kernel
theorem d_Ref_points_94 : decode b_Ref_points 94 = .ok ((.iload_n 2), 1) := by decide +kernel
theorem d_Ref_points_95 : decode b_Ref_points 95 = .ok (.ireturn, 1) := by decide +kernel
theorem d_Ref_digit_0 : decode b_Ref_digit 0 = .ok ((.iload_n 1), 1) := by decide +kernel
theorem d_Ref_digit_1 : decode b_Ref_digit 1 = .ok ((.istore_n 3), 1) := by decide +kernel
theorem d_Ref_digit_2 : decode b_Ref_digit 2 = .ok ((.aload_n 0), 1) := by decide +kernel
theorem d_Ref_digit_3 : decode b_Ref_digit 3 = .ok ((.getfield 55), 3) := by decide +kernel
theorem d_Ref_digit_6 : decode b_Ref_digit 6 = .ok ((.iconst 1), 1) := by decide +kernel
theorem d_Ref_digit_7 : decode b_Ref_digit 7 = .ok (.isub, 1) := by decide +kernel
theorem d_Ref_digit_8 : decode b_Ref_digit 8 = .ok ((.istore 4), 2) := by decide +kernel
theorem d_Ref_digit_10 : decode b_Ref_digit 10 = .ok ((.iload 4), 2) := by decide +kernel
theorem d_Ref_digit_12 : decode b_Ref_digit 12 = .ok ((.iload_n 2), 1) := by decide +kernel
theorem d_Ref_digit_13 : decode b_Ref_digit 13 = .ok ((.if_icmp .le 13), 3) := by decide +kernel
theorem d_Ref_digit_16 : decode b_Ref_digit 16 = .ok ((.iload_n 3), 1) := by decide +kernel
theorem d_Ref_digit_17 : decode b_Ref_digit 17 = .ok ((.iconst 3), 1) := by decide +kernel
theorem d_Ref_digit_18 : decode b_Ref_digit 18 = .ok (.idiv, 1) := by decide +kernel
theorem d_Ref_digit_19 : decode b_Ref_digit 19 = .ok ((.istore_n 3), 1) := by decide +kernel
theorem d_Ref_digit_20 : decode b_Ref_digit 20 = .ok ((.iinc 4 (-1)), 3) := by decide +kernel
theorem d_Ref_digit_23 : decode b_Ref_digit 23 = .ok ((.goto (-13)), 3) := by decide +kernel
theorem d_Ref_digit_26 : decode b_Ref_digit 26 = .ok ((.iload_n 3), 1) := by decide +kernel
theorem d_Ref_digit_27 : decode b_Ref_digit 27 = .ok ((.iconst 3), 1) := by decide +kernel
theorem d_Ref_digit_28 : decode b_Ref_digit 28 = .ok (.irem, 1) := by decide +kernel
theorem d_Ref_digit_29 : decode b_Ref_digit 29 = .ok (.ireturn, 1) := by decide +kernel
theorem d_Ref_outputsOf_0 : decode b_Ref_outputsOf 0 = .ok ((.aload_n 0), 1) := by decide +kernel
theorem d_Ref_outputsOf_1 : decode b_Ref_outputsOf 1 = .ok ((.iload_n 1), 1) := by decide +kernel
theorem d_Ref_outputsOf_2 : decode b_Ref_outputsOf 2 = .ok ((.invokevirtual 75), 3) := by decide +kernel
theorem d_Ref_outputsOf_5 : decode b_Ref_outputsOf 5 = .ok ((.istore_n 2), 1) := by decide +kernel
theorem d_Ref_outputsOf_6 : decode b_Ref_outputsOf 6 = .ok ((.iconst 0), 1) := by decide +kernel
theorem d_Ref_outputsOf_7 : decode b_Ref_outputsOf 7 = .ok ((.istore_n 3), 1) := by decide +kernel
theorem d_Ref_outputsOf_8 : decode b_Ref_outputsOf 8 = .ok ((.iconst 0), 1) := by decide +kernel
theorem d_Ref_outputsOf_9 : decode b_Ref_outputsOf 9 = .ok ((.istore 4), 2) := by decide +kernel
theorem d_Ref_outputsOf_11 : decode b_Ref_outputsOf 11 = .ok ((.iload 4), 2) := by decide +kernel
theorem d_Ref_outputsOf_13 : decode b_Ref_outputsOf 13 = .ok ((.aload_n 0), 1) := by decide +kernel
theorem d_Ref_outputsOf_14 : decode b_Ref_outputsOf 14 = .ok ((.getfield 59), 3) := by decide +kernel
theorem d_Ref_outputsOf_17 : decode b_Ref_outputsOf 17 = .ok ((.if_icmp .ge 34), 3) := by decide +kernel
theorem d_Ref_outputsOf_20 : decode b_Ref_outputsOf 20 = .ok ((.iload_n 2), 1) := by decide +kernel
theorem d_Ref_outputsOf_21 : decode b_Ref_outputsOf 21 = .ok ((.aload_n 0), 1) := by decide +kernel
theorem d_Ref_outputsOf_22 : decode b_Ref_outputsOf 22 = .ok ((.getfield 19), 3) := by decide +kernel
theorem d_Ref_outputsOf_25 : decode b_Ref_outputsOf 25 = .ok ((.iload 4), 2) := by decide +kernel
theorem d_Ref_outputsOf_27 : decode b_Ref_outputsOf 27 = .ok (.iaload, 1) := by decide +kernel
theorem d_Ref_outputsOf_28 : decode b_Ref_outputsOf 28 = .ok ((.iconst (-1)), 1) := by decide +kernel
theorem d_Ref_outputsOf_29 : decode b_Ref_outputsOf 29 = .ok (.ixor, 1) := by decide +kernel
theorem d_Ref_outputsOf_30 : decode b_Ref_outputsOf 30 = .ok (.iand, 1) := by decide +kernel
theorem d_Ref_outputsOf_31 : decode b_Ref_outputsOf 31 = .ok ((.ifCond .ne 12), 3) := by decide +kernel
theorem d_Ref_outputsOf_34 : decode b_Ref_outputsOf 34 = .ok ((.iload_n 3), 1) := by decide +kernel
theorem d_Ref_outputsOf_35 : decode b_Ref_outputsOf 35 = .ok ((.iconst 1), 1) := by decide +kernel
theorem d_Ref_outputsOf_36 : decode b_Ref_outputsOf 36 = .ok ((.iload 4), 2) := by decide +kernel
theorem d_Ref_outputsOf_38 : decode b_Ref_outputsOf 38 = .ok (.ishl, 1) := by decide +kernel
theorem d_Ref_outputsOf_39 : decode b_Ref_outputsOf 39 = .ok (.ior, 1) := by decide +kernel
theorem d_Ref_outputsOf_40 : decode b_Ref_outputsOf 40 = .ok ((.goto 4), 3) := by decide +kernel
theorem d_Ref_outputsOf_43 : decode b_Ref_outputsOf 43 = .ok ((.iload_n 3), 1) := by decide +kernel
theorem d_Ref_outputsOf_44 : decode b_Ref_outputsOf 44 = .ok ((.istore_n 3), 1) := by decide +kernel
theorem d_Ref_outputsOf_45 : decode b_Ref_outputsOf 45 = .ok ((.iinc 4 1), 3) := by decide +kernel
theorem d_Ref_outputsOf_48 : decode b_Ref_outputsOf 48 = .ok ((.goto (-37)), 3) := by decide +kernel
theorem d_Ref_outputsOf_51 : decode b_Ref_outputsOf 51 = .ok ((.iload_n 3), 1) := by decide +kernel
theorem d_Ref_outputsOf_52 : decode b_Ref_outputsOf 52 = .ok (.ireturn, 1) := by decide +kernel
theorem d_Ref_costOf_0 : decode b_Ref_costOf 0 = .ok ((.iload_n 2), 1) := by decide +kernel
theorem d_Ref_costOf_1 : decode b_Ref_costOf 1 = .ok ((.iconst 1), 1) := by decide +kernel
theorem d_Ref_costOf_2 : decode b_Ref_costOf 2 = .ok (.iand, 1) := by decide +kernel
theorem d_Ref_costOf_3 : decode b_Ref_costOf 3 = .ok ((.iload_n 2), 1) := by decide +kernel
theorem d_Ref_costOf_4 : decode b_Ref_costOf 4 = .ok ((.iconst 1), 1) := by decide +kernel
theorem d_Ref_costOf_5 : decode b_Ref_costOf 5 = .ok (.ishr, 1) := by decide +kernel
theorem d_Ref_costOf_6 : decode b_Ref_costOf 6 = .ok (.iadd, 1) := by decide +kernel
theorem d_Ref_costOf_7 : decode b_Ref_costOf 7 = .ok ((.istore_n 3), 1) := by decide +kernel
theorem d_Ref_costOf_8 : decode b_Ref_costOf 8 = .ok ((.iconst 0), 1) := by decide +kernel
theorem d_Ref_costOf_9 : decode b_Ref_costOf 9 = .ok ((.istore 4), 2) := by decide +kernel
theorem d_Ref_costOf_11 : decode b_Ref_costOf 11 = .ok ((.iload 4), 2) := by decide +kernel
theorem d_Ref_costOf_13 : decode b_Ref_costOf 13 = .ok ((.aload_n 0), 1) := by decide +kernel
theorem d_Ref_costOf_14 : decode b_Ref_costOf 14 = .ok ((.getfield 55), 3) := by decide +kernel
theorem d_Ref_costOf_17 : decode b_Ref_costOf 17 = .ok ((.if_icmp .ge 28), 3) := by decide +kernel
theorem d_Ref_costOf_20 : decode b_Ref_costOf 20 = .ok ((.aload_n 0), 1) := by decide +kernel
theorem d_Ref_costOf_21 : decode b_Ref_costOf 21 = .ok ((.iload_n 1), 1) := by decide +kernel
theorem d_Ref_costOf_22 : decode b_Ref_costOf 22 = .ok ((.iload 4), 2) := by decide +kernel
theorem d_Ref_costOf_24 : decode b_Ref_costOf 24 = .ok ((.invokevirtual 68), 3) := by decide +kernel
theorem d_Ref_costOf_27 : decode b_Ref_costOf 27 = .ok ((.iconst 2), 1) := by decide +kernel
theorem d_Ref_costOf_28 : decode b_Ref_costOf 28 = .ok ((.if_icmp .ge 9), 3) := by decide +kernel
theorem d_Ref_costOf_31 : decode b_Ref_costOf 31 = .ok ((.iload_n 3), 1) := by decide +kernel
theorem d_Ref_costOf_32 : decode b_Ref_costOf 32 = .ok ((.iconst 1), 1) := by decide +kernel
theorem d_Ref_costOf_33 : decode b_Ref_costOf 33 = .ok (.iadd, 1) := by decide +kernel
theorem d_Ref_costOf_34 : decode b_Ref_costOf 34 = .ok ((.goto 4), 3) := by decide +kernel
theorem d_Ref_costOf_37 : decode b_Ref_costOf 37 = .ok ((.iload_n 3), 1) := by decide +kernel
theorem d_Ref_costOf_38 : decode b_Ref_costOf 38 = .ok ((.istore_n 3), 1) := by decide +kernel
theorem d_Ref_costOf_39 : decode b_Ref_costOf 39 = .ok ((.iinc 4 1), 3) := by decide +kernel
theorem d_Ref_costOf_42 : decode b_Ref_costOf 42 = .ok ((.goto (-31)), 3) := by decide +kernel
theorem d_Ref_costOf_45 : decode b_Ref_costOf 45 = .ok ((.iload_n 3), 1) := by decide +kernel
theorem d_Ref_costOf_46 : decode b_Ref_costOf 46 = .ok (.ireturn, 1) := by decide +kernel
theorem d_Ref_prime_0 : decode b_Ref_prime 0 = .ok ((.aload_n 0), 1) := by decide +kernel
theorem d_Ref_prime_1 : decode b_Ref_prime 1 = .ok ((.invokevirtual 91), 3) := by decide +kernel
theorem d_Ref_prime_4 : decode b_Ref_prime 4 = .ok ((.aload_n 0), 1) := by decide +kernel
theorem d_Ref_prime_5 : decode b_Ref_prime 5 = .ok ((.iload_n 1), 1) := by decide +kernel
theorem d_Ref_prime_6 : decode b_Ref_prime 6 = .ok ((.ifCond .lt 32), 3) := by decide +kernel
theorem d_Ref_prime_9 : decode b_Ref_prime 9 = .ok ((.iload_n 1), 1) := by decide +kernel
theorem d_Ref_prime_10 : decode b_Ref_prime 10 = .ok ((.aload_n 0), 1) := by decide +kernel
theorem d_Ref_prime_11 : decode b_Ref_prime 11 = .ok ((.getfield 82), 3) := by decide +kernel
theorem d_Ref_prime_14 : decode b_Ref_prime 14 = .ok ((.if_icmp .ge 24), 3) := by decide +kernel
theorem d_Ref_prime_17 : decode b_Ref_prime 17 = .ok ((.iload_n 2), 1) := by decide +kernel
theorem d_Ref_prime_18 : decode b_Ref_prime 18 = .ok ((.ifCond .lt 20), 3) := by decide +kernel
theorem d_Ref_prime_21 : decode b_Ref_prime 21 = .ok ((.iload_n 2), 1) := by decide +kernel
theorem d_Ref_prime_22 : decode b_Ref_prime 22 = .ok ((.aload_n 0), 1) := by decide +kernel
theorem d_Ref_prime_23 : decode b_Ref_prime 23 = .ok ((.getfield 55), 3) := by decide +kernel
theorem d_Ref_prime_26 : decode b_Ref_prime 26 = .ok ((.aload_n 0), 1) := by decide +kernel
theorem d_Ref_prime_27 : decode b_Ref_prime 27 = .ok ((.getfield 59), 3) := by decide +kernel
theorem d_Ref_prime_30 : decode b_Ref_prime 30 = .ok (.iadd, 1) := by decide +kernel
theorem d_Ref_prime_31 : decode b_Ref_prime 31 = .ok ((.if_icmp .ge 7), 3) := by decide +kernel
theorem d_Ref_prime_34 : decode b_Ref_prime 34 = .ok ((.iconst 0), 1) := by decide +kernel
theorem d_Ref_prime_35 : decode b_Ref_prime 35 = .ok ((.goto 4), 3) := by decide +kernel
theorem d_Ref_prime_38 : decode b_Ref_prime 38 = .ok ((.iconst 1), 1) := by decide +kernel
theorem d_Ref_prime_39 : decode b_Ref_prime 39 = .ok ((.putfield 65), 3) := by decide +kernel
theorem d_Ref_prime_42 : decode b_Ref_prime 42 = .ok ((.aload_n 0), 1) := by decide +kernel
theorem d_Ref_prime_43 : decode b_Ref_prime 43 = .ok ((.getfield 65), 3) := by decide +kernel
theorem d_Ref_prime_46 : decode b_Ref_prime 46 = .ok ((.ifCond .le 5), 3) := by decide +kernel
theorem d_Ref_prime_49 : decode b_Ref_prime 49 = .ok ((.iconst 0), 1) := by decide +kernel
theorem d_Ref_prime_50 : decode b_Ref_prime 50 = .ok (.ireturn, 1) := by decide +kernel
theorem d_Ref_prime_51 : decode b_Ref_prime 51 = .ok ((.iload_n 2), 1) := by decide +kernel
theorem d_Ref_prime_52 : decode b_Ref_prime 52 = .ok ((.aload_n 0), 1) := by decide +kernel
theorem d_Ref_prime_53 : decode b_Ref_prime 53 = .ok ((.getfield 55), 3) := by decide +kernel
theorem d_Ref_prime_56 : decode b_Ref_prime 56 = .ok ((.if_icmp .ge 17), 3) := by decide +kernel
theorem d_Ref_prime_59 : decode b_Ref_prime 59 = .ok ((.aload_n 0), 1) := by decide +kernel
theorem d_Ref_prime_60 : decode b_Ref_prime 60 = .ok ((.aload_n 0), 1) := by decide +kernel
theorem d_Ref_prime_61 : decode b_Ref_prime 61 = .ok ((.getfield 22), 3) := by decide +kernel
theorem d_Ref_prime_64 : decode b_Ref_prime 64 = .ok ((.iload_n 1), 1) := by decide +kernel
theorem d_Ref_prime_65 : decode b_Ref_prime 65 = .ok (.iaload, 1) := by decide +kernel
theorem d_Ref_prime_66 : decode b_Ref_prime 66 = .ok ((.iload_n 2), 1) := by decide +kernel
theorem d_Ref_prime_67 : decode b_Ref_prime 67 = .ok ((.invokevirtual 68), 3) := by decide +kernel
theorem d_Ref_prime_70 : decode b_Ref_prime 70 = .ok ((.goto 18), 3) := by decide +kernel
theorem d_Ref_prime_73 : decode b_Ref_prime 73 = .ok ((.aload_n 0), 1) := by decide +kernel
theorem d_Ref_prime_74 : decode b_Ref_prime 74 = .ok ((.getfield 25), 3) := by decide +kernel
theorem d_Ref_prime_77 : decode b_Ref_prime 77 = .ok ((.iload_n 1), 1) := by decide +kernel
theorem d_Ref_prime_78 : decode b_Ref_prime 78 = .ok (.iaload, 1) := by decide +kernel
theorem d_Ref_prime_79 : decode b_Ref_prime 79 = .ok ((.iload_n 2), 1) := by decide +kernel
theorem d_Ref_prime_80 : decode b_Ref_prime 80 = .ok ((.aload_n 0), 1) := by decide +kernel
theorem d_Ref_prime_81 : decode b_Ref_prime 81 = .ok ((.getfield 55), 3) := by decide +kernel
theorem d_Ref_prime_84 : decode b_Ref_prime 84 = .ok (.isub, 1) := by decide +kernel
theorem d_Ref_prime_85 : decode b_Ref_prime 85 = .ok (.ishr, 1) := by decide +kernel
theorem d_Ref_prime_86 : decode b_Ref_prime 86 = .ok ((.iconst 1), 1) := by decide +kernel
theorem d_Ref_prime_87 : decode b_Ref_prime 87 = .ok (.iand, 1) := by decide +kernel
theorem d_Ref_prime_88 : decode b_Ref_prime 88 = .ok (.ireturn, 1) := by decide +kernel
theorem d_Ref_run_0 : decode b_Ref_run 0 = .ok ((.aload_n 0), 1) := by decide +kernel
theorem d_Ref_run_1 : decode b_Ref_run 1 = .ok ((.lload_n 2), 1) := by decide +kernel
