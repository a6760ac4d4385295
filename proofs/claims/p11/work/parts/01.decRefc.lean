theorem d_Ref_value_25 : decode b_Ref_value 25 = .ok ((.goto 26), 3) := by decide +kernel
theorem d_Ref_value_28 : decode b_Ref_value 28 = .ok ((.lload_n 1), 1) := by decide +kernel
theorem d_Ref_value_29 : decode b_Ref_value 29 = .ok ((.lconst 0), 1) := by decide +kernel
theorem d_Ref_value_30 : decode b_Ref_value 30 = .ok (.lcmp, 1) := by decide +kernel
theorem d_Ref_value_31 : decode b_Ref_value 31 = .ok ((.ifCond .lt 15), 3) := by decide +kernel
theorem d_Ref_value_34 : decode b_Ref_value 34 = .ok ((.lload_n 1), 1) := by decide +kernel
theorem d_Ref_value_35 : decode b_Ref_value 35 = .ok ((.iconst 1), 1) := by decide +kernel
theorem d_Ref_value_36 : decode b_Ref_value 36 = .ok ((.aload_n 0), 1) := by decide +kernel
theorem d_Ref_value_37 : decode b_Ref_value 37 = .ok ((.getfield 55), 3) := by decide +kernel
theorem d_Ref_value_40 : decode b_Ref_value 40 = .ok (.ishl, 1) := by decide +kernel
theorem d_Ref_value_41 : decode b_Ref_value 41 = .ok (.i2l, 1) := by decide +kernel
theorem d_Ref_value_42 : decode b_Ref_value 42 = .ok (.lcmp, 1) := by decide +kernel
theorem d_Ref_value_43 : decode b_Ref_value 43 = .ok ((.ifCond .lt 7), 3) := by decide +kernel
theorem d_Ref_value_46 : decode b_Ref_value 46 = .ok ((.iconst 3), 1) := by decide +kernel
theorem d_Ref_value_47 : decode b_Ref_value 47 = .ok ((.goto 4), 3) := by decide +kernel
theorem d_Ref_value_50 : decode b_Ref_value 50 = .ok ((.iconst 0), 1) := by decide +kernel
theorem d_Ref_value_51 : decode b_Ref_value 51 = .ok ((.putfield 65), 3) := by decide +kernel
theorem d_Ref_value_54 : decode b_Ref_value 54 = .ok ((.aload_n 0), 1) := by decide +kernel
theorem d_Ref_value_55 : decode b_Ref_value 55 = .ok ((.getfield 65), 3) := by decide +kernel
theorem d_Ref_value_58 : decode b_Ref_value 58 = .ok ((.ifCond .ne 21), 3) := by decide +kernel
theorem d_Ref_value_61 : decode b_Ref_value 61 = .ok ((.aload_n 0), 1) := by decide +kernel
theorem d_Ref_value_62 : decode b_Ref_value 62 = .ok ((.iload_n 3), 1) := by decide +kernel
theorem d_Ref_value_63 : decode b_Ref_value 63 = .ok ((.invokevirtual 120), 3) := by decide +kernel
theorem d_Ref_value_66 : decode b_Ref_value 66 = .ok ((.lload_n 1), 1) := by decide +kernel
theorem d_Ref_value_67 : decode b_Ref_value 67 = .ok (.l2i, 1) := by decide +kernel
theorem d_Ref_value_68 : decode b_Ref_value 68 = .ok (.ishr, 1) := by decide +kernel
theorem d_Ref_value_69 : decode b_Ref_value 69 = .ok ((.iconst 1), 1) := by decide +kernel
theorem d_Ref_value_70 : decode b_Ref_value 70 = .ok (.iand, 1) := by decide +kernel
theorem d_Ref_value_71 : decode b_Ref_value 71 = .ok ((.iconst 1), 1) := by decide +kernel
theorem d_Ref_value_72 : decode b_Ref_value 72 = .ok ((.if_icmp .ne 7), 3) := by decide +kernel
theorem d_Ref_value_75 : decode b_Ref_value 75 = .ok ((.iconst 1), 1) := by decide +kernel
theorem d_Ref_value_76 : decode b_Ref_value 76 = .ok ((.goto 4), 3) := by decide +kernel
theorem d_Ref_value_79 : decode b_Ref_value 79 = .ok ((.iconst 0), 1) := by decide +kernel
theorem d_Ref_value_80 : decode b_Ref_value 80 = .ok (.ireturn, 1) := by decide +kernel
theorem d_Ref_divide_0 : decode b_Ref_divide 0 = .ok ((.aload_n 0), 1) := by decide +kernel
theorem d_Ref_divide_1 : decode b_Ref_divide 1 = .ok ((.aload_n 0), 1) := by decide +kernel
theorem d_Ref_divide_2 : decode b_Ref_divide 2 = .ok ((.getfield 113), 3) := by decide +kernel
theorem d_Ref_divide_5 : decode b_Ref_divide 5 = .ok ((.ifCond .ne 7), 3) := by decide +kernel
theorem d_Ref_divide_8 : decode b_Ref_divide 8 = .ok ((.iconst 1), 1) := by decide +kernel
theorem d_Ref_divide_9 : decode b_Ref_divide 9 = .ok ((.goto 30), 3) := by decide +kernel
theorem d_Ref_divide_12 : decode b_Ref_divide 12 = .ok ((.iload_n 1), 1) := by decide +kernel
theorem d_Ref_divide_13 : decode b_Ref_divide 13 = .ok ((.ifCond .le 21), 3) := by decide +kernel
theorem d_Ref_divide_16 : decode b_Ref_divide 16 = .ok ((.aload_n 0), 1) := by decide +kernel
theorem d_Ref_divide_17 : decode b_Ref_divide 17 = .ok ((.getfield 110), 3) := by decide +kernel
theorem d_Ref_divide_20 : decode b_Ref_divide 20 = .ok ((.bipush 31), 2) := by decide +kernel
theorem d_Ref_divide_22 : decode b_Ref_divide 22 = .ok ((.if_icmp .ge 16), 3) := by decide +kernel
theorem d_Ref_divide_25 : decode b_Ref_divide 25 = .ok ((.iload_n 1), 1) := by decide +kernel
theorem d_Ref_divide_26 : decode b_Ref_divide 26 = .ok ((.aload_n 0), 1) := by decide +kernel
theorem d_Ref_divide_27 : decode b_Ref_divide 27 = .ok ((.getfield 110), 3) := by decide +kernel
theorem d_Ref_divide_30 : decode b_Ref_divide 30 = .ok (.ishr, 1) := by decide +kernel
theorem d_Ref_divide_31 : decode b_Ref_divide 31 = .ok ((.ifCond .eq 7), 3) := by decide +kernel
theorem d_Ref_divide_34 : decode b_Ref_divide 34 = .ok ((.iconst 2), 1) := by decide +kernel
theorem d_Ref_divide_35 : decode b_Ref_divide 35 = .ok ((.goto 4), 3) := by decide +kernel
theorem d_Ref_divide_38 : decode b_Ref_divide 38 = .ok ((.iconst 0), 1) := by decide +kernel
theorem d_Ref_divide_39 : decode b_Ref_divide 39 = .ok ((.putfield 65), 3) := by decide +kernel
theorem d_Ref_divide_42 : decode b_Ref_divide 42 = .ok ((.aload_n 0), 1) := by decide +kernel
theorem d_Ref_divide_43 : decode b_Ref_divide 43 = .ok ((.getfield 65), 3) := by decide +kernel
theorem d_Ref_divide_46 : decode b_Ref_divide 46 = .ok ((.ifCond .le 5), 3) := by decide +kernel
theorem d_Ref_divide_49 : decode b_Ref_divide 49 = .ok ((.iconst 0), 1) := by decide +kernel
theorem d_Ref_divide_50 : decode b_Ref_divide 50 = .ok (.ireturn, 1) := by decide +kernel
theorem d_Ref_divide_51 : decode b_Ref_divide 51 = .ok ((.aload_n 0), 1) := by decide +kernel
theorem d_Ref_divide_52 : decode b_Ref_divide 52 = .ok ((.iconst 0), 1) := by decide +kernel
theorem d_Ref_divide_53 : decode b_Ref_divide 53 = .ok ((.putfield 117), 3) := by decide +kernel
theorem d_Ref_divide_56 : decode b_Ref_divide 56 = .ok ((.iconst 0), 1) := by decide +kernel
theorem d_Ref_divide_57 : decode b_Ref_divide 57 = .ok ((.istore_n 2), 1) := by decide +kernel
theorem d_Ref_divide_58 : decode b_Ref_divide 58 = .ok ((.iload_n 2), 1) := by decide +kernel
theorem d_Ref_divide_59 : decode b_Ref_divide 59 = .ok ((.aload_n 0), 1) := by decide +kernel
theorem d_Ref_divide_60 : decode b_Ref_divide 60 = .ok ((.getfield 62), 3) := by decide +kernel
theorem d_Ref_divide_63 : decode b_Ref_divide 63 = .ok ((.if_icmp .ge 87), 3) := by decide +kernel
theorem d_Ref_divide_66 : decode b_Ref_divide 66 = .ok ((.iconst 1), 1) := by decide +kernel
theorem d_Ref_divide_67 : decode b_Ref_divide 67 = .ok ((.istore_n 3), 1) := by decide +kernel
theorem d_Ref_divide_68 : decode b_Ref_divide 68 = .ok ((.iconst 0), 1) := by decide +kernel
theorem d_Ref_divide_69 : decode b_Ref_divide 69 = .ok ((.istore 4), 2) := by decide +kernel
theorem d_Ref_divide_71 : decode b_Ref_divide 71 = .ok ((.iload 4), 2) := by decide +kernel
theorem d_Ref_divide_73 : decode b_Ref_divide 73 = .ok ((.aload_n 0), 1) := by decide +kernel
theorem d_Ref_divide_74 : decode b_Ref_divide 74 = .ok ((.getfield 110), 3) := by decide +kernel
theorem d_Ref_divide_77 : decode b_Ref_divide 77 = .ok ((.if_icmp .ge 43), 3) := by decide +kernel
theorem d_Ref_divide_80 : decode b_Ref_divide 80 = .ok ((.iload_n 3), 1) := by decide +kernel
theorem d_Ref_divide_81 : decode b_Ref_divide 81 = .ok ((.ifCond .eq 31), 3) := by decide +kernel
theorem d_Ref_divide_84 : decode b_Ref_divide 84 = .ok ((.iload_n 1), 1) := by decide +kernel
theorem d_Ref_divide_85 : decode b_Ref_divide 85 = .ok ((.iload 4), 2) := by decide +kernel
theorem d_Ref_divide_87 : decode b_Ref_divide 87 = .ok (.ishr, 1) := by decide +kernel
theorem d_Ref_divide_88 : decode b_Ref_divide 88 = .ok ((.iconst 1), 1) := by decide +kernel
theorem d_Ref_divide_89 : decode b_Ref_divide 89 = .ok (.iand, 1) := by decide +kernel
theorem d_Ref_divide_90 : decode b_Ref_divide 90 = .ok ((.ifCond .eq 18), 3) := by decide +kernel
theorem d_Ref_divide_93 : decode b_Ref_divide 93 = .ok ((.aload_n 0), 1) := by decide +kernel
theorem d_Ref_divide_94 : decode b_Ref_divide 94 = .ok ((.iload_n 2), 1) := by decide +kernel
theorem d_Ref_divide_95 : decode b_Ref_divide 95 = .ok ((.aload_n 0), 1) := by decide +kernel
theorem d_Ref_divide_96 : decode b_Ref_divide 96 = .ok ((.getfield 37), 3) := by decide +kernel
theorem d_Ref_divide_99 : decode b_Ref_divide 99 = .ok ((.iload 4), 2) := by decide +kernel
theorem d_Ref_divide_101 : decode b_Ref_divide 101 = .ok (.iaload, 1) := by decide +kernel
theorem d_Ref_divide_102 : decode b_Ref_divide 102 = .ok ((.invokevirtual 126), 3) := by decide +kernel
theorem d_Ref_divide_105 : decode b_Ref_divide 105 = .ok ((.ifCond .eq 7), 3) := by decide +kernel
theorem d_Ref_divide_108 : decode b_Ref_divide 108 = .ok ((.iconst 1), 1) := by decide +kernel
theorem d_Ref_divide_109 : decode b_Ref_divide 109 = .ok ((.goto 4), 3) := by decide +kernel
theorem d_Ref_divide_112 : decode b_Ref_divide 112 = .ok ((.iconst 0), 1) := by decide +kernel
theorem d_Ref_divide_113 : decode b_Ref_divide 113 = .ok ((.istore_n 3), 1) := by decide +kernel
theorem d_Ref_divide_114 : decode b_Ref_divide 114 = .ok ((.iinc 4 1), 3) := by decide +kernel
theorem d_Ref_divide_117 : decode b_Ref_divide 117 = .ok ((.goto (-46)), 3) := by decide +kernel
theorem d_Ref_divide_120 : decode b_Ref_divide 120 = .ok ((.iload_n 3), 1) := by decide +kernel
theorem d_Ref_divide_121 : decode b_Ref_divide 121 = .ok ((.ifCond .eq 23), 3) := by decide +kernel
theorem d_Ref_divide_124 : decode b_Ref_divide 124 = .ok ((.aload_n 0), 1) := by decide +kernel
theorem d_Ref_divide_125 : decode b_Ref_divide 125 = .ok ((.getfield 43), 3) := by decide +kernel
theorem d_Ref_divide_128 : decode b_Ref_divide 128 = .ok ((.aload_n 0), 1) := by decide +kernel
theorem d_Ref_divide_129 : decode b_Ref_divide 129 = .ok ((.getfield 117), 3) := by decide +kernel
theorem d_Ref_divide_132 : decode b_Ref_divide 132 = .ok ((.iload_n 2), 1) := by decide +kernel
theorem d_Ref_divide_133 : decode b_Ref_divide 133 = .ok (.iastore, 1) := by decide +kernel
theorem d_Ref_divide_134 : decode b_Ref_divide 134 = .ok ((.aload_n 0), 1) := by decide +kernel
theorem d_Ref_divide_135 : decode b_Ref_divide 135 = .ok (.dup, 1) := by decide +kernel
theorem d_Ref_divide_136 : decode b_Ref_divide 136 = .ok ((.getfield 117), 3) := by decide +kernel
theorem d_Ref_divide_139 : decode b_Ref_divide 139 = .ok ((.iconst 1), 1) := by decide +kernel
theorem d_Ref_divide_140 : decode b_Ref_divide 140 = .ok (.iadd, 1) := by decide +kernel
theorem d_Ref_divide_141 : decode b_Ref_divide 141 = .ok ((.putfield 117), 3) := by decide +kernel
theorem d_Ref_divide_144 : decode b_Ref_divide 144 = .ok ((.iinc 2 1), 3) := by decide +kernel
theorem d_Ref_divide_147 : decode b_Ref_divide 147 = .ok ((.goto (-89)), 3) := by decide +kernel
theorem d_Ref_divide_150 : decode b_Ref_divide 150 = .ok ((.aload_n 0), 1) := by decide +kernel
theorem d_Ref_divide_151 : decode b_Ref_divide 151 = .ok ((.getfield 117), 3) := by decide +kernel
theorem d_Ref_divide_154 : decode b_Ref_divide 154 = .ok (.ireturn, 1) := by decide +kernel
theorem d_Ref_isIn_0 : decode b_Ref_isIn 0 = .ok ((.iconst 0), 1) := by decide +kernel
theorem d_Ref_isIn_1 : decode b_Ref_isIn 1 = .ok ((.istore_n 3), 1) := by decide +kernel
theorem d_Ref_isIn_2 : decode b_Ref_isIn 2 = .ok ((.iconst 0), 1) := by decide +kernel
theorem d_Ref_isIn_3 : decode b_Ref_isIn 3 = .ok ((.istore 4), 2) := by decide +kernel
theorem d_Ref_isIn_5 : decode b_Ref_isIn 5 = .ok ((.iload 4), 2) := by decide +kernel
theorem d_Ref_isIn_7 : decode b_Ref_isIn 7 = .ok ((.aload_n 0), 1) := by decide +kernel
theorem d_Ref_isIn_8 : decode b_Ref_isIn 8 = .ok ((.getfield 110), 3) := by decide +kernel
theorem d_Ref_isIn_11 : decode b_Ref_isIn 11 = .ok ((.if_icmp .ge 35), 3) := by decide +kernel
theorem d_Ref_isIn_14 : decode b_Ref_isIn 14 = .ok ((.iload_n 3), 1) := by decide +kernel
theorem d_Ref_isIn_15 : decode b_Ref_isIn 15 = .ok ((.ifCond .ne 19), 3) := by decide +kernel
theorem d_Ref_isIn_18 : decode b_Ref_isIn 18 = .ok ((.aload_n 0), 1) := by decide +kernel
theorem d_Ref_isIn_19 : decode b_Ref_isIn 19 = .ok ((.aload_n 0), 1) := by decide +kernel
theorem d_Ref_isIn_20 : decode b_Ref_isIn 20 = .ok ((.getfield 37), 3) := by decide +kernel
theorem d_Ref_isIn_23 : decode b_Ref_isIn 23 = .ok ((.iload 4), 2) := by decide +kernel
theorem d_Ref_isIn_25 : decode b_Ref_isIn 25 = .ok (.iaload, 1) := by decide +kernel
theorem d_Ref_isIn_26 : decode b_Ref_isIn 26 = .ok ((.iload_n 2), 1) := by decide +kernel
theorem d_Ref_isIn_27 : decode b_Ref_isIn 27 = .ok ((.invokevirtual 123), 3) := by decide +kernel
theorem d_Ref_isIn_30 : decode b_Ref_isIn 30 = .ok ((.iload_n 1), 1) := by decide +kernel
theorem d_Ref_isIn_31 : decode b_Ref_isIn 31 = .ok ((.if_icmp .ne 7), 3) := by decide +kernel
theorem d_Ref_isIn_34 : decode b_Ref_isIn 34 = .ok ((.iconst 1), 1) := by decide +kernel
theorem d_Ref_isIn_35 : decode b_Ref_isIn 35 = .ok ((.goto 4), 3) := by decide +kernel
theorem d_Ref_isIn_38 : decode b_Ref_isIn 38 = .ok ((.iconst 0), 1) := by decide +kernel
theorem d_Ref_isIn_39 : decode b_Ref_isIn 39 = .ok ((.istore_n 3), 1) := by decide +kernel
theorem d_Ref_isIn_40 : decode b_Ref_isIn 40 = .ok ((.iinc 4 1), 3) := by decide +kernel
theorem d_Ref_isIn_43 : decode b_Ref_isIn 43 = .ok ((.goto (-38)), 3) := by decide +kernel
theorem d_Ref_isIn_46 : decode b_Ref_isIn 46 = .ok ((.iload_n 3), 1) := by decide +kernel
theorem d_Ref_isIn_47 : decode b_Ref_isIn 47 = .ok (.ireturn, 1) := by decide +kernel
theorem d_Ref_divided_0 : decode b_Ref_divided 0 = .ok ((.iconst 0), 1) := by decide +kernel
theorem d_Ref_divided_1 : decode b_Ref_divided 1 = .ok ((.istore_n 3), 1) := by decide +kernel
theorem d_Ref_divided_2 : decode b_Ref_divided 2 = .ok ((.iconst 0), 1) := by decide +kernel
theorem d_Ref_divided_3 : decode b_Ref_divided 3 = .ok ((.istore 4), 2) := by decide +kernel
theorem d_Ref_divided_5 : decode b_Ref_divided 5 = .ok ((.iload 4), 2) := by decide +kernel
theorem d_Ref_divided_7 : decode b_Ref_divided 7 = .ok ((.aload_n 0), 1) := by decide +kernel
theorem d_Ref_divided_8 : decode b_Ref_divided 8 = .ok ((.getfield 55), 3) := by decide +kernel
theorem d_Ref_divided_11 : decode b_Ref_divided 11 = .ok ((.if_icmp .ge 59), 3) := by decide +kernel
theorem d_Ref_divided_14 : decode b_Ref_divided 14 = .ok ((.aload_n 0), 1) := by decide +kernel
theorem d_Ref_divided_15 : decode b_Ref_divided 15 = .ok ((.iload_n 1), 1) := by decide +kernel
theorem d_Ref_divided_16 : decode b_Ref_divided 16 = .ok ((.iload 4), 2) := by decide +kernel
theorem d_Ref_divided_18 : decode b_Ref_divided 18 = .ok ((.invokevirtual 68), 3) := by decide +kernel
theorem d_Ref_divided_21 : decode b_Ref_divided 21 = .ok ((.istore 5), 2) := by decide +kernel
theorem d_Ref_divided_23 : decode b_Ref_divided 23 = .ok ((.aload_n 0), 1) := by decide +kernel
theorem d_Ref_divided_24 : decode b_Ref_divided 24 = .ok ((.iload_n 2), 1) := by decide +kernel
theorem d_Ref_divided_25 : decode b_Ref_divided 25 = .ok ((.iload 4), 2) := by decide +kernel
theorem d_Ref_divided_27 : decode b_Ref_divided 27 = .ok ((.invokevirtual 68), 3) := by decide +kernel
theorem d_Ref_divided_30 : decode b_Ref_divided 30 = .ok ((.istore 6), 2) := by decide +kernel
theorem d_Ref_divided_32 : decode b_Ref_divided 32 = .ok ((.iload 6), 2) := by decide +kernel
theorem d_Ref_divided_34 : decode b_Ref_divided 34 = .ok ((.iconst 2), 1) := by decide +kernel
theorem d_Ref_divided_35 : decode b_Ref_divided 35 = .ok ((.if_icmp .eq 12), 3) := by decide +kernel
theorem d_Ref_divided_38 : decode b_Ref_divided 38 = .ok ((.iload 5), 2) := by decide +kernel
theorem d_Ref_divided_40 : decode b_Ref_divided 40 = .ok ((.iload 6), 2) := by decide +kernel
theorem d_Ref_divided_42 : decode b_Ref_divided 42 = .ok ((.if_icmp .eq 5), 3) := by decide +kernel
theorem d_Ref_divided_45 : decode b_Ref_divided 45 = .ok ((.iconst (-1)), 1) := by decide +kernel
theorem d_Ref_divided_46 : decode b_Ref_divided 46 = .ok (.ireturn, 1) := by decide +kernel
theorem d_Ref_divided_47 : decode b_Ref_divided 47 = .ok ((.iconst 3), 1) := by decide +kernel
theorem d_Ref_divided_48 : decode b_Ref_divided 48 = .ok ((.iload_n 3), 1) := by decide +kernel
theorem d_Ref_divided_49 : decode b_Ref_divided 49 = .ok (.imul, 1) := by decide +kernel
theorem d_Ref_divided_50 : decode b_Ref_divided 50 = .ok ((.iload 6), 2) := by decide +kernel
theorem d_Ref_divided_52 : decode b_Ref_divided 52 = .ok ((.iconst 2), 1) := by decide +kernel
theorem d_Ref_divided_53 : decode b_Ref_divided 53 = .ok ((.if_icmp .eq 7), 3) := by decide +kernel
theorem d_Ref_divided_56 : decode b_Ref_divided 56 = .ok ((.iconst 2), 1) := by decide +kernel
theorem d_Ref_divided_57 : decode b_Ref_divided 57 = .ok ((.goto 5), 3) := by decide +kernel
theorem d_Ref_divided_60 : decode b_Ref_divided 60 = .ok ((.iload 5), 2) := by decide +kernel
theorem d_Ref_divided_62 : decode b_Ref_divided 62 = .ok (.iadd, 1) := by decide +kernel
theorem d_Ref_divided_63 : decode b_Ref_divided 63 = .ok ((.istore_n 3), 1) := by decide +kernel
theorem d_Ref_divided_64 : decode b_Ref_divided 64 = .ok ((.iinc 4 1), 3) := by decide +kernel
theorem d_Ref_divided_67 : decode b_Ref_divided 67 = .ok ((.goto (-62)), 3) := by decide +kernel
theorem d_Ref_divided_70 : decode b_Ref_divided 70 = .ok ((.iload_n 3), 1) := by decide +kernel
theorem d_Ref_divided_71 : decode b_Ref_divided 71 = .ok (.ireturn, 1) := by decide +kernel
theorem d_Ref_quotient_0 : decode b_Ref_quotient 0 = .ok ((.aload_n 0), 1) := by decide +kernel
theorem d_Ref_quotient_1 : decode b_Ref_quotient 1 = .ok ((.iload_n 1), 1) := by decide +kernel
theorem d_Ref_quotient_2 : decode b_Ref_quotient 2 = .ok ((.ifCond .lt 15), 3) := by decide +kernel
theorem d_Ref_quotient_5 : decode b_Ref_quotient 5 = .ok ((.iload_n 1), 1) := by decide +kernel
theorem d_Ref_quotient_6 : decode b_Ref_quotient 6 = .ok ((.aload_n 0), 1) := by decide +kernel
theorem d_Ref_quotient_7 : decode b_Ref_quotient 7 = .ok ((.getfield 117), 3) := by decide +kernel
theorem d_Ref_quotient_10 : decode b_Ref_quotient 10 = .ok ((.if_icmp .ge 7), 3) := by decide +kernel
theorem d_Ref_quotient_13 : decode b_Ref_quotient 13 = .ok ((.iconst 0), 1) := by decide +kernel
theorem d_Ref_quotient_14 : decode b_Ref_quotient 14 = .ok ((.goto 4), 3) := by decide +kernel
theorem d_Ref_quotient_17 : decode b_Ref_quotient 17 = .ok ((.iconst 1), 1) := by decide +kernel
theorem d_Ref_quotient_18 : decode b_Ref_quotient 18 = .ok ((.putfield 65), 3) := by decide +kernel
theorem d_Ref_quotient_21 : decode b_Ref_quotient 21 = .ok ((.aload_n 0), 1) := by decide +kernel
theorem d_Ref_quotient_22 : decode b_Ref_quotient 22 = .ok ((.getfield 65), 3) := by decide +kernel
theorem d_Ref_quotient_25 : decode b_Ref_quotient 25 = .ok ((.ifCond .le 7), 3) := by decide +kernel
theorem d_Ref_quotient_28 : decode b_Ref_quotient 28 = .ok ((.iconst 0), 1) := by decide +kernel
theorem d_Ref_quotient_29 : decode b_Ref_quotient 29 = .ok ((.goto 9), 3) := by decide +kernel
theorem d_Ref_quotient_32 : decode b_Ref_quotient 32 = .ok ((.aload_n 0), 1) := by decide +kernel
theorem d_Ref_quotient_33 : decode b_Ref_quotient 33 = .ok ((.getfield 43), 3) := by decide +kernel
theorem d_Ref_quotient_36 : decode b_Ref_quotient 36 = .ok ((.iload_n 1), 1) := by decide +kernel
theorem d_Ref_quotient_37 : decode b_Ref_quotient 37 = .ok (.iaload, 1) := by decide +kernel
theorem d_Ref_quotient_38 : decode b_Ref_quotient 38 = .ok (.ireturn, 1) := by decide +kernel
theorem d_Ref_kernels_0 : decode b_Ref_kernels 0 = .ok ((.aload_n 0), 1) := by decide +kernel
theorem d_Ref_kernels_1 : decode b_Ref_kernels 1 = .ok ((.aload_n 0), 1) := by decide +kernel
theorem d_Ref_kernels_2 : decode b_Ref_kernels 2 = .ok ((.getfield 113), 3) := by decide +kernel
theorem d_Ref_kernels_5 : decode b_Ref_kernels 5 = .ok ((.ifCond .eq 7), 3) := by decide +kernel
theorem d_Ref_kernels_8 : decode b_Ref_kernels 8 = .ok ((.iconst 0), 1) := by decide +kernel
theorem d_Ref_kernels_9 : decode b_Ref_kernels 9 = .ok ((.goto 4), 3) := by decide +kernel
theorem d_Ref_kernels_12 : decode b_Ref_kernels 12 = .ok ((.iconst 1), 1) := by decide +kernel
theorem d_Ref_kernels_13 : decode b_Ref_kernels 13 = .ok ((.putfield 65), 3) := by decide +kernel
theorem d_Ref_kernels_16 : decode b_Ref_kernels 16 = .ok ((.iconst 0), 1) := by decide +kernel
theorem d_Ref_kernels_17 : decode b_Ref_kernels 17 = .ok ((.istore_n 1), 1) := by decide +kernel
theorem d_Ref_kernels_18 : decode b_Ref_kernels 18 = .ok ((.iconst 0), 1) := by decide +kernel
theorem d_Ref_kernels_19 : decode b_Ref_kernels 19 = .ok ((.istore_n 2), 1) := by decide +kernel
theorem d_Ref_kernels_20 : decode b_Ref_kernels 20 = .ok ((.iload_n 2), 1) := by decide +kernel
theorem d_Ref_kernels_21 : decode b_Ref_kernels 21 = .ok ((.aload_n 0), 1) := by decide +kernel
theorem d_Ref_kernels_22 : decode b_Ref_kernels 22 = .ok ((.getfield 62), 3) := by decide +kernel
theorem d_Ref_kernels_25 : decode b_Ref_kernels 25 = .ok ((.if_icmp .ge 120), 3) := by decide +kernel
theorem d_Ref_kernels_28 : decode b_Ref_kernels 28 = .ok ((.aload_n 0), 1) := by decide +kernel
theorem d_Ref_kernels_29 : decode b_Ref_kernels 29 = .ok ((.getfield 113), 3) := by decide +kernel
theorem d_Ref_kernels_32 : decode b_Ref_kernels 32 = .ok ((.ifCond .eq 113), 3) := by decide +kernel
theorem d_Ref_kernels_35 : decode b_Ref_kernels 35 = .ok ((.aload_n 0), 1) := by decide +kernel
theorem d_Ref_kernels_36 : decode b_Ref_kernels 36 = .ok ((.iload_n 2), 1) := by decide +kernel
theorem d_Ref_kernels_37 : decode b_Ref_kernels 37 = .ok ((.invokevirtual 129), 3) := by decide +kernel
theorem d_Ref_kernels_40 : decode b_Ref_kernels 40 = .ok ((.istore_n 3), 1) := by decide +kernel
theorem d_Ref_kernels_41 : decode b_Ref_kernels 41 = .ok ((.iconst 0), 1) := by decide +kernel
theorem d_Ref_kernels_42 : decode b_Ref_kernels 42 = .ok ((.istore 4), 2) := by decide +kernel
theorem d_Ref_kernels_44 : decode b_Ref_kernels 44 = .ok ((.iload 4), 2) := by decide +kernel
theorem d_Ref_kernels_46 : decode b_Ref_kernels 46 = .ok ((.iload_n 2), 1) := by decide +kernel
theorem d_Ref_kernels_47 : decode b_Ref_kernels 47 = .ok ((.if_icmp .ge 80), 3) := by decide +kernel
theorem d_Ref_kernels_50 : decode b_Ref_kernels 50 = .ok ((.iload_n 3), 1) := by decide +kernel
theorem d_Ref_kernels_51 : decode b_Ref_kernels 51 = .ok ((.ifCond .eq 76), 3) := by decide +kernel
theorem d_Ref_kernels_54 : decode b_Ref_kernels 54 = .ok ((.aload_n 0), 1) := by decide +kernel
theorem d_Ref_kernels_55 : decode b_Ref_kernels 55 = .ok ((.iload 4), 2) := by decide +kernel
theorem d_Ref_kernels_57 : decode b_Ref_kernels 57 = .ok ((.invokevirtual 129), 3) := by decide +kernel
theorem d_Ref_kernels_60 : decode b_Ref_kernels 60 = .ok ((.istore 5), 2) := by decide +kernel
theorem d_Ref_kernels_62 : decode b_Ref_kernels 62 = .ok ((.iconst 0), 1) := by decide +kernel
theorem d_Ref_kernels_63 : decode b_Ref_kernels 63 = .ok ((.istore 6), 2) := by decide +kernel
theorem d_Ref_kernels_65 : decode b_Ref_kernels 65 = .ok ((.iload 6), 2) := by decide +kernel
theorem d_Ref_kernels_67 : decode b_Ref_kernels 67 = .ok ((.aload_n 0), 1) := by decide +kernel
theorem d_Ref_kernels_68 : decode b_Ref_kernels 68 = .ok ((.getfield 62), 3) := by decide +kernel
theorem d_Ref_kernels_71 : decode b_Ref_kernels 71 = .ok ((.if_icmp .ge 39), 3) := by decide +kernel
theorem d_Ref_kernels_74 : decode b_Ref_kernels 74 = .ok ((.iload 5), 2) := by decide +kernel
theorem d_Ref_kernels_76 : decode b_Ref_kernels 76 = .ok ((.ifCond .eq 34), 3) := by decide +kernel
theorem d_Ref_kernels_79 : decode b_Ref_kernels 79 = .ok ((.aload_n 0), 1) := by decide +kernel
theorem d_Ref_kernels_80 : decode b_Ref_kernels 80 = .ok ((.iload 6), 2) := by decide +kernel
theorem d_Ref_kernels_82 : decode b_Ref_kernels 82 = .ok ((.iload_n 2), 1) := by decide +kernel
theorem d_Ref_kernels_83 : decode b_Ref_kernels 83 = .ok ((.invokevirtual 126), 3) := by decide +kernel
theorem d_Ref_kernels_86 : decode b_Ref_kernels 86 = .ok ((.aload_n 0), 1) := by decide +kernel
theorem d_Ref_kernels_87 : decode b_Ref_kernels 87 = .ok ((.iload 6), 2) := by decide +kernel
theorem d_Ref_kernels_89 : decode b_Ref_kernels 89 = .ok ((.iload 4), 2) := by decide +kernel
theorem d_Ref_kernels_91 : decode b_Ref_kernels 91 = .ok ((.invokevirtual 126), 3) := by decide +kernel
theorem d_Ref_kernels_94 : decode b_Ref_kernels 94 = .ok ((.if_icmp .ne 7), 3) := by decide +kernel
theorem d_Ref_kernels_97 : decode b_Ref_kernels 97 = .ok ((.iconst 1), 1) := by decide +kernel
theorem d_Ref_kernels_98 : decode b_Ref_kernels 98 = .ok ((.goto 4), 3) := by decide +kernel
theorem d_Ref_kernels_101 : decode b_Ref_kernels 101 = .ok ((.iconst 0), 1) := by decide +kernel
theorem d_Ref_kernels_102 : decode b_Ref_kernels 102 = .ok ((.istore 5), 2) := by decide +kernel
theorem d_Ref_kernels_104 : decode b_Ref_kernels 104 = .ok ((.iinc 6 1), 3) := by decide +kernel
theorem d_Ref_kernels_107 : decode b_Ref_kernels 107 = .ok ((.goto (-42)), 3) := by decide +kernel
theorem d_Ref_kernels_110 : decode b_Ref_kernels 110 = .ok ((.iload 5), 2) := by decide +kernel
theorem d_Ref_kernels_112 : decode b_Ref_kernels 112 = .ok ((.ifCond .ne 7), 3) := by decide +kernel
theorem d_Ref_kernels_115 : decode b_Ref_kernels 115 = .ok ((.iconst 1), 1) := by decide +kernel
theorem d_Ref_kernels_116 : decode b_Ref_kernels 116 = .ok ((.goto 4), 3) := by decide +kernel
theorem d_Ref_kernels_119 : decode b_Ref_kernels 119 = .ok ((.iconst 0), 1) := by decide +kernel
theorem d_Ref_kernels_120 : decode b_Ref_kernels 120 = .ok ((.istore_n 3), 1) := by decide +kernel
theorem d_Ref_kernels_121 : decode b_Ref_kernels 121 = .ok ((.iinc 4 1), 3) := by decide +kernel
theorem d_Ref_kernels_124 : decode b_Ref_kernels 124 = .ok ((.goto (-80)), 3) := by decide +kernel
theorem d_Ref_kernels_127 : decode b_Ref_kernels 127 = .ok ((.iload_n 3), 1) := by decide +kernel
theorem d_Ref_kernels_128 : decode b_Ref_kernels 128 = .ok ((.ifCond .eq 9), 3) := by decide +kernel
theorem d_Ref_kernels_131 : decode b_Ref_kernels 131 = .ok ((.iload_n 1), 1) := by decide +kernel
theorem d_Ref_kernels_132 : decode b_Ref_kernels 132 = .ok ((.iconst 1), 1) := by decide +kernel
theorem d_Ref_kernels_133 : decode b_Ref_kernels 133 = .ok (.iadd, 1) := by decide +kernel
theorem d_Ref_kernels_134 : decode b_Ref_kernels 134 = .ok ((.goto 4), 3) := by decide +kernel
theorem d_Ref_kernels_137 : decode b_Ref_kernels 137 = .ok ((.iload_n 1), 1) := by decide +kernel
theorem d_Ref_kernels_138 : decode b_Ref_kernels 138 = .ok ((.istore_n 1), 1) := by decide +kernel
theorem d_Ref_kernels_139 : decode b_Ref_kernels 139 = .ok ((.iinc 2 1), 3) := by decide +kernel
theorem d_Ref_kernels_142 : decode b_Ref_kernels 142 = .ok ((.goto (-122)), 3) := by decide +kernel
theorem d_Ref_kernels_145 : decode b_Ref_kernels 145 = .ok ((.iload_n 1), 1) := by decide +kernel
theorem d_Ref_kernels_146 : decode b_Ref_kernels 146 = .ok (.ireturn, 1) := by decide +kernel
theorem d_Ref_isKernel_0 : decode b_Ref_isKernel 0 = .ok ((.iconst 0), 1) := by decide +kernel
theorem d_Ref_isKernel_1 : decode b_Ref_isKernel 1 = .ok ((.istore_n 2), 1) := by decide +kernel
theorem d_Ref_isKernel_2 : decode b_Ref_isKernel 2 = .ok ((.iconst 0), 1) := by decide +kernel
theorem d_Ref_isKernel_3 : decode b_Ref_isKernel 3 = .ok ((.istore_n 3), 1) := by decide +kernel
theorem d_Ref_isKernel_4 : decode b_Ref_isKernel 4 = .ok ((.iload_n 3), 1) := by decide +kernel
theorem d_Ref_isKernel_5 : decode b_Ref_isKernel 5 = .ok ((.aload_n 0), 1) := by decide +kernel
theorem d_Ref_isKernel_6 : decode b_Ref_isKernel 6 = .ok ((.getfield 62), 3) := by decide +kernel
theorem d_Ref_isKernel_9 : decode b_Ref_isKernel 9 = .ok ((.if_icmp .ge 26), 3) := by decide +kernel
theorem d_Ref_isKernel_12 : decode b_Ref_isKernel 12 = .ok ((.aload_n 0), 1) := by decide +kernel
theorem d_Ref_isKernel_13 : decode b_Ref_isKernel 13 = .ok ((.iload_n 3), 1) := by decide +kernel
theorem d_Ref_isKernel_14 : decode b_Ref_isKernel 14 = .ok ((.iload_n 1), 1) := by decide +kernel
theorem d_Ref_isKernel_15 : decode b_Ref_isKernel 15 = .ok ((.invokevirtual 126), 3) := by decide +kernel
theorem d_Ref_isKernel_18 : decode b_Ref_isKernel 18 = .ok ((.ifCond .eq 9), 3) := by decide +kernel
theorem d_Ref_isKernel_21 : decode b_Ref_isKernel 21 = .ok ((.iload_n 2), 1) := by decide +kernel
theorem d_Ref_isKernel_22 : decode b_Ref_isKernel 22 = .ok ((.iconst 1), 1) := by decide +kernel
theorem d_Ref_isKernel_23 : decode b_Ref_isKernel 23 = .ok (.iadd, 1) := by decide +kernel
theorem d_Ref_isKernel_24 : decode b_Ref_isKernel 24 = .ok ((.goto 4), 3) := by decide +kernel
theorem d_Ref_isKernel_27 : decode b_Ref_isKernel 27 = .ok ((.iload_n 2), 1) := by decide +kernel
theorem d_Ref_isKernel_28 : decode b_Ref_isKernel 28 = .ok ((.istore_n 2), 1) := by decide +kernel
theorem d_Ref_isKernel_29 : decode b_Ref_isKernel 29 = .ok ((.iinc 3 1), 3) := by decide +kernel
theorem d_Ref_isKernel_32 : decode b_Ref_isKernel 32 = .ok ((.goto (-28)), 3) := by decide +kernel
theorem d_Ref_isKernel_35 : decode b_Ref_isKernel 35 = .ok ((.iload_n 2), 1) := by decide +kernel
theorem d_Ref_isKernel_36 : decode b_Ref_isKernel 36 = .ok ((.iconst 2), 1) := by decide +kernel
theorem d_Ref_isKernel_37 : decode b_Ref_isKernel 37 = .ok ((.if_icmp .lt 7), 3) := by decide +kernel
theorem d_Ref_isKernel_40 : decode b_Ref_isKernel 40 = .ok ((.iconst 1), 1) := by decide +kernel
theorem d_Ref_isKernel_41 : decode b_Ref_isKernel 41 = .ok ((.goto 4), 3) := by decide +kernel
theorem d_Ref_isKernel_44 : decode b_Ref_isKernel 44 = .ok ((.iconst 0), 1) := by decide +kernel
theorem d_Ref_isKernel_45 : decode b_Ref_isKernel 45 = .ok ((.istore_n 3), 1) := by decide +kernel
theorem d_Ref_isKernel_46 : decode b_Ref_isKernel 46 = .ok ((.iconst 0), 1) := by decide +kernel
theorem d_Ref_isKernel_47 : decode b_Ref_isKernel 47 = .ok ((.istore 4), 2) := by decide +kernel
theorem d_Ref_isKernel_49 : decode b_Ref_isKernel 49 = .ok ((.iload 4), 2) := by decide +kernel
theorem d_Ref_isKernel_51 : decode b_Ref_isKernel 51 = .ok ((.aload_n 0), 1) := by decide +kernel
theorem d_Ref_isKernel_52 : decode b_Ref_isKernel 52 = .ok ((.getfield 55), 3) := by decide +kernel
theorem d_Ref_isKernel_55 : decode b_Ref_isKernel 55 = .ok ((.if_icmp .ge 104), 3) := by decide +kernel
theorem d_Ref_isKernel_58 : decode b_Ref_isKernel 58 = .ok ((.iload_n 3), 1) := by decide +kernel
theorem d_Ref_isKernel_59 : decode b_Ref_isKernel 59 = .ok ((.ifCond .eq 100), 3) := by decide +kernel
theorem d_Ref_isKernel_62 : decode b_Ref_isKernel 62 = .ok ((.iconst (-1)), 1) := by decide +kernel
theorem d_Ref_isKernel_63 : decode b_Ref_isKernel 63 = .ok ((.istore 5), 2) := by decide +kernel
theorem d_Ref_isKernel_65 : decode b_Ref_isKernel 65 = .ok ((.iconst 1), 1) := by decide +kernel
theorem d_Ref_isKernel_66 : decode b_Ref_isKernel 66 = .ok ((.istore 6), 2) := by decide +kernel
theorem d_Ref_isKernel_68 : decode b_Ref_isKernel 68 = .ok ((.iconst 0), 1) := by decide +kernel
theorem d_Ref_isKernel_69 : decode b_Ref_isKernel 69 = .ok ((.istore 7), 2) := by decide +kernel
theorem d_Ref_isKernel_71 : decode b_Ref_isKernel 71 = .ok ((.iload 7), 2) := by decide +kernel
theorem d_Ref_isKernel_73 : decode b_Ref_isKernel 73 = .ok ((.aload_n 0), 1) := by decide +kernel
theorem d_Ref_isKernel_74 : decode b_Ref_isKernel 74 = .ok ((.getfield 62), 3) := by decide +kernel
theorem d_Ref_isKernel_77 : decode b_Ref_isKernel 77 = .ok ((.if_icmp .ge 59), 3) := by decide +kernel
theorem d_Ref_isKernel_80 : decode b_Ref_isKernel 80 = .ok ((.aload_n 0), 1) := by decide +kernel
theorem d_Ref_isKernel_81 : decode b_Ref_isKernel 81 = .ok ((.iload 7), 2) := by decide +kernel
theorem d_Ref_isKernel_83 : decode b_Ref_isKernel 83 = .ok ((.iload_n 1), 1) := by decide +kernel
theorem d_Ref_isKernel_84 : decode b_Ref_isKernel 84 = .ok ((.invokevirtual 126), 3) := by decide +kernel
theorem d_Ref_isKernel_87 : decode b_Ref_isKernel 87 = .ok ((.ifCond .eq 43), 3) := by decide +kernel
theorem d_Ref_isKernel_90 : decode b_Ref_isKernel 90 = .ok ((.iload 6), 2) := by decide +kernel
theorem d_Ref_isKernel_92 : decode b_Ref_isKernel 92 = .ok ((.ifCond .eq 25), 3) := by decide +kernel
theorem d_Ref_isKernel_95 : decode b_Ref_isKernel 95 = .ok ((.iload 5), 2) := by decide +kernel
theorem d_Ref_isKernel_97 : decode b_Ref_isKernel 97 = .ok ((.ifCond .lt 16), 3) := by decide +kernel
theorem d_Ref_isKernel_100 : decode b_Ref_isKernel 100 = .ok ((.iload 5), 2) := by decide +kernel
theorem d_Ref_isKernel_102 : decode b_Ref_isKernel 102 = .ok ((.aload_n 0), 1) := by decide +kernel
theorem d_Ref_isKernel_103 : decode b_Ref_isKernel 103 = .ok ((.iload 7), 2) := by decide +kernel
theorem d_Ref_isKernel_105 : decode b_Ref_isKernel 105 = .ok ((.iload 4), 2) := by decide +kernel
theorem d_Ref_isKernel_107 : decode b_Ref_isKernel 107 = .ok ((.invokevirtual 68), 3) := by decide +kernel
theorem d_Ref_isKernel_110 : decode b_Ref_isKernel 110 = .ok ((.if_icmp .ne 7), 3) := by decide +kernel
theorem d_Ref_isKernel_113 : decode b_Ref_isKernel 113 = .ok ((.iconst 1), 1) := by decide +kernel
theorem d_Ref_isKernel_114 : decode b_Ref_isKernel 114 = .ok ((.goto 4), 3) := by decide +kernel
theorem d_Ref_isKernel_117 : decode b_Ref_isKernel 117 = .ok ((.iconst 0), 1) := by decide +kernel
theorem d_Ref_isKernel_118 : decode b_Ref_isKernel 118 = .ok ((.istore 6), 2) := by decide +kernel
theorem d_Ref_isKernel_120 : decode b_Ref_isKernel 120 = .ok ((.aload_n 0), 1) := by decide +kernel
theorem d_Ref_isKernel_121 : decode b_Ref_isKernel 121 = .ok ((.iload 7), 2) := by decide +kernel
theorem d_Ref_isKernel_123 : decode b_Ref_isKernel 123 = .ok ((.iload 4), 2) := by decide +kernel
theorem d_Ref_isKernel_125 : decode b_Ref_isKernel 125 = .ok ((.invokevirtual 68), 3) := by decide +kernel
theorem d_Ref_isKernel_128 : decode b_Ref_isKernel 128 = .ok ((.istore 5), 2) := by decide +kernel
theorem d_Ref_isKernel_130 : decode b_Ref_isKernel 130 = .ok ((.iinc 7 1), 3) := by decide +kernel
theorem d_Ref_isKernel_133 : decode b_Ref_isKernel 133 = .ok ((.goto (-62)), 3) := by decide +kernel
theorem d_Ref_isKernel_136 : decode b_Ref_isKernel 136 = .ok ((.iload 6), 2) := by decide +kernel
theorem d_Ref_isKernel_138 : decode b_Ref_isKernel 138 = .ok ((.ifCond .eq 9), 3) := by decide +kernel
theorem d_Ref_isKernel_141 : decode b_Ref_isKernel 141 = .ok ((.iload 5), 2) := by decide +kernel
theorem d_Ref_isKernel_143 : decode b_Ref_isKernel 143 = .ok ((.iconst 2), 1) := by decide +kernel
theorem d_Ref_isKernel_144 : decode b_Ref_isKernel 144 = .ok ((.if_icmp .ne 7), 3) := by decide +kernel
theorem d_Ref_isKernel_147 : decode b_Ref_isKernel 147 = .ok ((.iconst 1), 1) := by decide +kernel
theorem d_Ref_isKernel_148 : decode b_Ref_isKernel 148 = .ok ((.goto 4), 3) := by decide +kernel
theorem d_Ref_isKernel_151 : decode b_Ref_isKernel 151 = .ok ((.iconst 0), 1) := by decide +kernel
theorem d_Ref_isKernel_152 : decode b_Ref_isKernel 152 = .ok ((.istore_n 3), 1) := by decide +kernel
theorem d_Ref_isKernel_153 : decode b_Ref_isKernel 153 = .ok ((.iinc 4 1), 3) := by decide +kernel
theorem d_Ref_isKernel_156 : decode b_Ref_isKernel 156 = .ok ((.goto (-107)), 3) := by decide +kernel
theorem d_Ref_isKernel_159 : decode b_Ref_isKernel 159 = .ok ((.iload_n 3), 1) := by decide +kernel
theorem d_Ref_isKernel_160 : decode b_Ref_isKernel 160 = .ok (.ireturn, 1) := by decide +kernel
theorem d_Ref_diagram_0 : decode b_Ref_diagram 0 = .ok ((.aload_n 0), 1) := by decide +kernel
theorem d_Ref_diagram_1 : decode b_Ref_diagram 1 = .ok ((.iload_n 1), 1) := by decide +kernel
theorem d_Ref_diagram_2 : decode b_Ref_diagram 2 = .ok ((.ifCond .lt 15), 3) := by decide +kernel
theorem d_Ref_diagram_5 : decode b_Ref_diagram 5 = .ok ((.iload_n 1), 1) := by decide +kernel
theorem d_Ref_diagram_6 : decode b_Ref_diagram 6 = .ok ((.aload_n 0), 1) := by decide +kernel
theorem d_Ref_diagram_7 : decode b_Ref_diagram 7 = .ok ((.invokevirtual 133), 3) := by decide +kernel
theorem d_Ref_diagram_10 : decode b_Ref_diagram 10 = .ok ((.if_icmp .ge 7), 3) := by decide +kernel
theorem d_Ref_diagram_13 : decode b_Ref_diagram 13 = .ok ((.iconst 0), 1) := by decide +kernel
theorem d_Ref_diagram_14 : decode b_Ref_diagram 14 = .ok ((.goto 4), 3) := by decide +kernel
theorem d_Ref_diagram_17 : decode b_Ref_diagram 17 = .ok ((.iconst 1), 1) := by decide +kernel
theorem d_Ref_diagram_18 : decode b_Ref_diagram 18 = .ok ((.putfield 65), 3) := by decide +kernel
theorem d_Ref_diagram_21 : decode b_Ref_diagram 21 = .ok ((.aload_n 0), 1) := by decide +kernel
theorem d_Ref_diagram_22 : decode b_Ref_diagram 22 = .ok ((.getfield 65), 3) := by decide +kernel
theorem d_Ref_diagram_25 : decode b_Ref_diagram 25 = .ok ((.ifCond .le 5), 3) := by decide +kernel
theorem d_Ref_diagram_28 : decode b_Ref_diagram 28 = .ok ((.iconst 0), 1) := by decide +kernel
theorem d_Ref_diagram_29 : decode b_Ref_diagram 29 = .ok (.ireturn, 1) := by decide +kernel
theorem d_Ref_diagram_30 : decode b_Ref_diagram 30 = .ok ((.aload_n 0), 1) := by decide +kernel
theorem d_Ref_diagram_31 : decode b_Ref_diagram 31 = .ok ((.invokevirtual 79), 3) := by decide +kernel
theorem d_Ref_diagram_34 : decode b_Ref_diagram 34 = .ok ((.aload_n 0), 1) := by decide +kernel
theorem d_Ref_diagram_35 : decode b_Ref_diagram 35 = .ok ((.iload_n 1), 1) := by decide +kernel
theorem d_Ref_diagram_36 : decode b_Ref_diagram 36 = .ok ((.invokevirtual 147), 3) := by decide +kernel
theorem d_Ref_diagram_39 : decode b_Ref_diagram 39 = .ok (.ireturn, 1) := by decide +kernel
theorem d_Ref_orders_0 : decode b_Ref_orders 0 = .ok ((.aload_n 0), 1) := by decide +kernel
theorem d_Ref_orders_1 : decode b_Ref_orders 1 = .ok ((.getfield 55), 3) := by decide +kernel
theorem d_Ref_orders_4 : decode b_Ref_orders 4 = .ok ((.iconst 3), 1) := by decide +kernel
theorem d_Ref_orders_5 : decode b_Ref_orders 5 = .ok ((.if_icmp .ge 10), 3) := by decide +kernel
theorem d_Ref_orders_8 : decode b_Ref_orders 8 = .ok ((.aload_n 0), 1) := by decide +kernel
theorem d_Ref_orders_9 : decode b_Ref_orders 9 = .ok ((.getfield 55), 3) := by decide +kernel
theorem d_Ref_orders_12 : decode b_Ref_orders 12 = .ok ((.goto 18), 3) := by decide +kernel
theorem d_Ref_orders_15 : decode b_Ref_orders 15 = .ok ((.aload_n 0), 1) := by decide +kernel
theorem d_Ref_orders_16 : decode b_Ref_orders 16 = .ok ((.getfield 55), 3) := by decide +kernel
theorem d_Ref_orders_19 : decode b_Ref_orders 19 = .ok ((.iconst 3), 1) := by decide +kernel
theorem d_Ref_orders_20 : decode b_Ref_orders 20 = .ok ((.if_icmp .ne 8), 3) := by decide +kernel
theorem d_Ref_orders_23 : decode b_Ref_orders 23 = .ok ((.bipush 6), 2) := by decide +kernel
theorem d_Ref_orders_25 : decode b_Ref_orders 25 = .ok ((.goto 5), 3) := by decide +kernel
theorem d_Ref_orders_28 : decode b_Ref_orders 28 = .ok ((.bipush 24), 2) := by decide +kernel
theorem d_Ref_orders_30 : decode b_Ref_orders 30 = .ok (.ireturn, 1) := by decide +kernel
theorem d_Ref_nodes_0 : decode b_Ref_nodes 0 = .ok ((.iconst 0), 1) := by decide +kernel
theorem d_Ref_nodes_1 : decode b_Ref_nodes 1 = .ok ((.istore_n 2), 1) := by decide +kernel
theorem d_Ref_nodes_2 : decode b_Ref_nodes 2 = .ok ((.iconst 0), 1) := by decide +kernel
theorem d_Ref_nodes_3 : decode b_Ref_nodes 3 = .ok ((.istore_n 3), 1) := by decide +kernel
theorem d_Ref_nodes_4 : decode b_Ref_nodes 4 = .ok ((.iload_n 3), 1) := by decide +kernel
theorem d_Ref_nodes_5 : decode b_Ref_nodes 5 = .ok ((.aload_n 0), 1) := by decide +kernel
theorem d_Ref_nodes_6 : decode b_Ref_nodes 6 = .ok ((.getfield 55), 3) := by decide +kernel
theorem d_Ref_nodes_9 : decode b_Ref_nodes 9 = .ok ((.if_icmp .ge 144), 3) := by decide +kernel
theorem d_Ref_nodes_12 : decode b_Ref_nodes 12 = .ok ((.iconst 0), 1) := by decide +kernel
theorem d_Ref_nodes_13 : decode b_Ref_nodes 13 = .ok ((.istore 4), 2) := by decide +kernel
theorem d_Ref_nodes_15 : decode b_Ref_nodes 15 = .ok ((.aload_n 0), 1) := by decide +kernel
theorem d_Ref_nodes_16 : decode b_Ref_nodes 16 = .ok ((.iload_n 1), 1) := by decide +kernel
theorem d_Ref_nodes_17 : decode b_Ref_nodes 17 = .ok ((.iload_n 3), 1) := by decide +kernel
theorem d_Ref_nodes_18 : decode b_Ref_nodes 18 = .ok ((.invokevirtual 137), 3) := by decide +kernel
theorem d_Ref_nodes_21 : decode b_Ref_nodes 21 = .ok ((.istore 5), 2) := by decide +kernel
theorem d_Ref_nodes_23 : decode b_Ref_nodes 23 = .ok ((.iconst 0), 1) := by decide +kernel
theorem d_Ref_nodes_24 : decode b_Ref_nodes 24 = .ok ((.istore 6), 2) := by decide +kernel
theorem d_Ref_nodes_26 : decode b_Ref_nodes 26 = .ok ((.iload 6), 2) := by decide +kernel
theorem d_Ref_nodes_28 : decode b_Ref_nodes 28 = .ok ((.aload_n 0), 1) := by decide +kernel
theorem d_Ref_nodes_29 : decode b_Ref_nodes 29 = .ok ((.getfield 59), 3) := by decide +kernel
theorem d_Ref_nodes_32 : decode b_Ref_nodes 32 = .ok ((.if_icmp .ge 110), 3) := by decide +kernel
theorem d_Ref_nodes_35 : decode b_Ref_nodes 35 = .ok ((.iconst 0), 1) := by decide +kernel
theorem d_Ref_nodes_36 : decode b_Ref_nodes 36 = .ok ((.istore 7), 2) := by decide +kernel
theorem d_Ref_nodes_38 : decode b_Ref_nodes 38 = .ok ((.iload 7), 2) := by decide +kernel
theorem d_Ref_nodes_40 : decode b_Ref_nodes 40 = .ok ((.iconst 1), 1) := by decide +kernel
theorem d_Ref_nodes_41 : decode b_Ref_nodes 41 = .ok ((.iload_n 3), 1) := by decide +kernel
theorem d_Ref_nodes_42 : decode b_Ref_nodes 42 = .ok (.ishl, 1) := by decide +kernel
theorem d_Ref_nodes_43 : decode b_Ref_nodes 43 = .ok ((.if_icmp .ge 93), 3) := by decide +kernel
theorem d_Ref_nodes_46 : decode b_Ref_nodes 46 = .ok ((.aload_n 0), 1) := by decide +kernel
theorem d_Ref_nodes_47 : decode b_Ref_nodes 47 = .ok ((.aload_n 0), 1) := by decide +kernel
theorem d_Ref_nodes_48 : decode b_Ref_nodes 48 = .ok ((.getfield 16), 3) := by decide +kernel
theorem d_Ref_nodes_51 : decode b_Ref_nodes 51 = .ok ((.iload 6), 2) := by decide +kernel
theorem d_Ref_nodes_53 : decode b_Ref_nodes 53 = .ok (.iaload, 1) := by decide +kernel
theorem d_Ref_nodes_54 : decode b_Ref_nodes 54 = .ok ((.iload_n 1), 1) := by decide +kernel
theorem d_Ref_nodes_55 : decode b_Ref_nodes 55 = .ok ((.iload_n 3), 1) := by decide +kernel
theorem d_Ref_nodes_56 : decode b_Ref_nodes 56 = .ok ((.iload 7), 2) := by decide +kernel
theorem d_Ref_nodes_58 : decode b_Ref_nodes 58 = .ok ((.invokevirtual 140), 3) := by decide +kernel
theorem d_Ref_nodes_61 : decode b_Ref_nodes 61 = .ok ((.istore 8), 2) := by decide +kernel
theorem d_Ref_nodes_63 : decode b_Ref_nodes 63 = .ok ((.aload_n 0), 1) := by decide +kernel
theorem d_Ref_nodes_64 : decode b_Ref_nodes 64 = .ok ((.iload 8), 2) := by decide +kernel
theorem d_Ref_nodes_66 : decode b_Ref_nodes 66 = .ok ((.iload 5), 2) := by decide +kernel
theorem d_Ref_nodes_68 : decode b_Ref_nodes 68 = .ok ((.invokevirtual 144), 3) := by decide +kernel
theorem d_Ref_nodes_71 : decode b_Ref_nodes 71 = .ok ((.istore 9), 2) := by decide +kernel
theorem d_Ref_nodes_73 : decode b_Ref_nodes 73 = .ok ((.iconst 0), 1) := by decide +kernel
theorem d_Ref_nodes_74 : decode b_Ref_nodes 74 = .ok ((.istore 10), 2) := by decide +kernel
theorem d_Ref_nodes_76 : decode b_Ref_nodes 76 = .ok ((.iload 10), 2) := by decide +kernel
theorem d_Ref_nodes_78 : decode b_Ref_nodes 78 = .ok ((.iload 4), 2) := by decide +kernel
theorem d_Ref_nodes_80 : decode b_Ref_nodes 80 = .ok ((.if_icmp .ge 33), 3) := by decide +kernel
theorem d_Ref_nodes_83 : decode b_Ref_nodes 83 = .ok ((.iload 9), 2) := by decide +kernel
theorem d_Ref_nodes_85 : decode b_Ref_nodes 85 = .ok ((.ifCond .eq 19), 3) := by decide +kernel
theorem d_Ref_nodes_88 : decode b_Ref_nodes 88 = .ok ((.aload_n 0), 1) := by decide +kernel
theorem d_Ref_nodes_89 : decode b_Ref_nodes 89 = .ok ((.getfield 52), 3) := by decide +kernel
theorem d_Ref_nodes_92 : decode b_Ref_nodes 92 = .ok ((.iload 10), 2) := by decide +kernel
theorem d_Ref_nodes_94 : decode b_Ref_nodes 94 = .ok (.iaload, 1) := by decide +kernel
theorem d_Ref_nodes_95 : decode b_Ref_nodes 95 = .ok ((.iload 8), 2) := by decide +kernel
theorem d_Ref_nodes_97 : decode b_Ref_nodes 97 = .ok ((.if_icmp .eq 7), 3) := by decide +kernel
theorem d_Ref_nodes_100 : decode b_Ref_nodes 100 = .ok ((.iconst 1), 1) := by decide +kernel
theorem d_Ref_nodes_101 : decode b_Ref_nodes 101 = .ok ((.goto 4), 3) := by decide +kernel
theorem d_Ref_nodes_104 : decode b_Ref_nodes 104 = .ok ((.iconst 0), 1) := by decide +kernel
theorem d_Ref_nodes_105 : decode b_Ref_nodes 105 = .ok ((.istore 9), 2) := by decide +kernel
theorem d_Ref_nodes_107 : decode b_Ref_nodes 107 = .ok ((.iinc 10 1), 3) := by decide +kernel
theorem d_Ref_nodes_110 : decode b_Ref_nodes 110 = .ok ((.goto (-34)), 3) := by decide +kernel
theorem d_Ref_nodes_113 : decode b_Ref_nodes 113 = .ok ((.iload 9), 2) := by decide +kernel
theorem d_Ref_nodes_115 : decode b_Ref_nodes 115 = .ok ((.ifCond .eq 15), 3) := by decide +kernel
theorem d_Ref_nodes_118 : decode b_Ref_nodes 118 = .ok ((.aload_n 0), 1) := by decide +kernel
theorem d_Ref_nodes_119 : decode b_Ref_nodes 119 = .ok ((.getfield 52), 3) := by decide +kernel
theorem d_Ref_nodes_122 : decode b_Ref_nodes 122 = .ok ((.iload 4), 2) := by decide +kernel
theorem d_Ref_nodes_124 : decode b_Ref_nodes 124 = .ok ((.iload 8), 2) := by decide +kernel
theorem d_Ref_nodes_126 : decode b_Ref_nodes 126 = .ok (.iastore, 1) := by decide +kernel
theorem d_Ref_nodes_127 : decode b_Ref_nodes 127 = .ok ((.iinc 4 1), 3) := by decide +kernel
theorem d_Ref_nodes_130 : decode b_Ref_nodes 130 = .ok ((.iinc 7 1), 3) := by decide +kernel
theorem d_Ref_nodes_133 : decode b_Ref_nodes 133 = .ok ((.goto (-95)), 3) := by decide +kernel
theorem d_Ref_nodes_136 : decode b_Ref_nodes 136 = .ok ((.iinc 6 1), 3) := by decide +kernel
theorem d_Ref_nodes_139 : decode b_Ref_nodes 139 = .ok ((.goto (-113)), 3) := by decide +kernel
theorem d_Ref_nodes_142 : decode b_Ref_nodes 142 = .ok ((.iload_n 2), 1) := by decide +kernel
theorem d_Ref_nodes_143 : decode b_Ref_nodes 143 = .ok ((.iload 4), 2) := by decide +kernel
theorem d_Ref_nodes_145 : decode b_Ref_nodes 145 = .ok (.iadd, 1) := by decide +kernel
theorem d_Ref_nodes_146 : decode b_Ref_nodes 146 = .ok ((.istore_n 2), 1) := by decide +kernel
theorem d_Ref_nodes_147 : decode b_Ref_nodes 147 = .ok ((.iinc 3 1), 3) := by decide +kernel
theorem d_Ref_nodes_150 : decode b_Ref_nodes 150 = .ok ((.goto (-146)), 3) := by decide +kernel
theorem d_Ref_nodes_153 : decode b_Ref_nodes 153 = .ok ((.iload_n 2), 1) := by decide +kernel
theorem d_Ref_nodes_154 : decode b_Ref_nodes 154 = .ok (.ireturn, 1) := by decide +kernel
theorem d_Ref_inputAt_0 : decode b_Ref_inputAt 0 = .ok ((.iload_n 1), 1) := by decide +kernel
theorem d_Ref_inputAt_1 : decode b_Ref_inputAt 1 = .ok ((.istore_n 3), 1) := by decide +kernel
theorem d_Ref_inputAt_2 : decode b_Ref_inputAt 2 = .ok ((.aload_n 0), 1) := by decide +kernel
theorem d_Ref_inputAt_3 : decode b_Ref_inputAt 3 = .ok ((.invokevirtual 133), 3) := by decide +kernel
theorem d_Ref_inputAt_6 : decode b_Ref_inputAt 6 = .ok ((.istore 4), 2) := by decide +kernel
theorem d_Ref_inputAt_8 : decode b_Ref_inputAt 8 = .ok ((.iconst 1), 1) := by decide +kernel
theorem d_Ref_inputAt_9 : decode b_Ref_inputAt 9 = .ok ((.aload_n 0), 1) := by decide +kernel
theorem d_Ref_inputAt_10 : decode b_Ref_inputAt 10 = .ok ((.getfield 55), 3) := by decide +kernel
theorem d_Ref_inputAt_13 : decode b_Ref_inputAt 13 = .ok (.ishl, 1) := by decide +kernel
theorem d_Ref_inputAt_14 : decode b_Ref_inputAt 14 = .ok ((.iconst 1), 1) := by decide +kernel
theorem d_Ref_inputAt_15 : decode b_Ref_inputAt 15 = .ok (.isub, 1) := by decide +kernel
theorem d_Ref_inputAt_16 : decode b_Ref_inputAt 16 = .ok ((.istore 5), 2) := by decide +kernel
theorem d_Ref_inputAt_18 : decode b_Ref_inputAt 18 = .ok ((.iconst 0), 1) := by decide +kernel
theorem d_Ref_inputAt_19 : decode b_Ref_inputAt 19 = .ok ((.istore 6), 2) := by decide +kernel
theorem d_Ref_inputAt_21 : decode b_Ref_inputAt 21 = .ok ((.iconst 0), 1) := by decide +kernel
theorem d_Ref_inputAt_22 : decode b_Ref_inputAt 22 = .ok ((.istore 7), 2) := by decide +kernel
theorem d_Ref_inputAt_24 : decode b_Ref_inputAt 24 = .ok ((.iload 7), 2) := by decide +kernel
theorem d_Ref_inputAt_26 : decode b_Ref_inputAt 26 = .ok ((.iload_n 2), 1) := by decide +kernel
theorem d_Ref_inputAt_27 : decode b_Ref_inputAt 27 = .ok ((.if_icmp .gt 87), 3) := by decide +kernel
theorem d_Ref_inputAt_30 : decode b_Ref_inputAt 30 = .ok ((.iload 4), 2) := by decide +kernel
theorem d_Ref_inputAt_32 : decode b_Ref_inputAt 32 = .ok ((.aload_n 0), 1) := by decide +kernel
theorem d_Ref_inputAt_33 : decode b_Ref_inputAt 33 = .ok ((.getfield 55), 3) := by decide +kernel
theorem d_Ref_inputAt_36 : decode b_Ref_inputAt 36 = .ok ((.iload 7), 2) := by decide +kernel
theorem d_Ref_inputAt_38 : decode b_Ref_inputAt 38 = .ok (.isub, 1) := by decide +kernel
theorem d_Ref_inputAt_39 : decode b_Ref_inputAt 39 = .ok (.idiv, 1) := by decide +kernel
theorem d_Ref_inputAt_40 : decode b_Ref_inputAt 40 = .ok ((.istore 4), 2) := by decide +kernel
theorem d_Ref_inputAt_42 : decode b_Ref_inputAt 42 = .ok ((.iload_n 3), 1) := by decide +kernel
theorem d_Ref_inputAt_43 : decode b_Ref_inputAt 43 = .ok ((.iload 4), 2) := by decide +kernel
theorem d_Ref_inputAt_45 : decode b_Ref_inputAt 45 = .ok (.idiv, 1) := by decide +kernel
theorem d_Ref_inputAt_46 : decode b_Ref_inputAt 46 = .ok ((.istore 8), 2) := by decide +kernel
theorem d_Ref_inputAt_48 : decode b_Ref_inputAt 48 = .ok ((.iload_n 3), 1) := by decide +kernel
theorem d_Ref_inputAt_49 : decode b_Ref_inputAt 49 = .ok ((.iload 4), 2) := by decide +kernel
theorem d_Ref_inputAt_51 : decode b_Ref_inputAt 51 = .ok (.irem, 1) := by decide +kernel
theorem d_Ref_inputAt_52 : decode b_Ref_inputAt 52 = .ok ((.istore_n 3), 1) := by decide +kernel
theorem d_Ref_inputAt_53 : decode b_Ref_inputAt 53 = .ok ((.iconst 0), 1) := by decide +kernel
theorem d_Ref_inputAt_54 : decode b_Ref_inputAt 54 = .ok ((.istore 6), 2) := by decide +kernel
theorem d_Ref_inputAt_56 : decode b_Ref_inputAt 56 = .ok ((.iload 5), 2) := by decide +kernel
theorem d_Ref_inputAt_58 : decode b_Ref_inputAt 58 = .ok ((.iload 6), 2) := by decide +kernel
theorem d_Ref_inputAt_60 : decode b_Ref_inputAt 60 = .ok (.ishr, 1) := by decide +kernel
theorem d_Ref_inputAt_61 : decode b_Ref_inputAt 61 = .ok ((.iconst 1), 1) := by decide +kernel
theorem d_Ref_inputAt_62 : decode b_Ref_inputAt 62 = .ok (.iand, 1) := by decide +kernel
theorem d_Ref_inputAt_63 : decode b_Ref_inputAt 63 = .ok ((.ifCond .eq 8), 3) := by decide +kernel
theorem d_Ref_inputAt_66 : decode b_Ref_inputAt 66 = .ok ((.iload 8), 2) := by decide +kernel
theorem d_Ref_inputAt_68 : decode b_Ref_inputAt 68 = .ok ((.ifCond .le 31), 3) := by decide +kernel
theorem d_Ref_inputAt_71 : decode b_Ref_inputAt 71 = .ok ((.iload 5), 2) := by decide +kernel
theorem d_Ref_inputAt_73 : decode b_Ref_inputAt 73 = .ok ((.iload 6), 2) := by decide +kernel
theorem d_Ref_inputAt_75 : decode b_Ref_inputAt 75 = .ok (.ishr, 1) := by decide +kernel
theorem d_Ref_inputAt_76 : decode b_Ref_inputAt 76 = .ok ((.iconst 1), 1) := by decide +kernel
theorem d_Ref_inputAt_77 : decode b_Ref_inputAt 77 = .ok (.iand, 1) := by decide +kernel
theorem d_Ref_inputAt_78 : decode b_Ref_inputAt 78 = .ok ((.iconst 1), 1) := by decide +kernel
theorem d_Ref_inputAt_79 : decode b_Ref_inputAt 79 = .ok ((.if_icmp .ne 10), 3) := by decide +kernel
theorem d_Ref_inputAt_82 : decode b_Ref_inputAt 82 = .ok ((.iload 8), 2) := by decide +kernel
theorem d_Ref_inputAt_84 : decode b_Ref_inputAt 84 = .ok ((.iconst 1), 1) := by decide +kernel
theorem d_Ref_inputAt_85 : decode b_Ref_inputAt 85 = .ok (.isub, 1) := by decide +kernel
theorem d_Ref_inputAt_86 : decode b_Ref_inputAt 86 = .ok ((.goto 5), 3) := by decide +kernel
theorem d_Ref_inputAt_89 : decode b_Ref_inputAt 89 = .ok ((.iload 8), 2) := by decide +kernel
theorem d_Ref_inputAt_91 : decode b_Ref_inputAt 91 = .ok ((.istore 8), 2) := by decide +kernel
theorem d_Ref_inputAt_93 : decode b_Ref_inputAt 93 = .ok ((.iinc 6 1), 3) := by decide +kernel
theorem d_Ref_inputAt_96 : decode b_Ref_inputAt 96 = .ok ((.goto (-40)), 3) := by decide +kernel
theorem d_Ref_inputAt_99 : decode b_Ref_inputAt 99 = .ok ((.iload 5), 2) := by decide +kernel
theorem d_Ref_inputAt_101 : decode b_Ref_inputAt 101 = .ok ((.iconst 1), 1) := by decide +kernel
theorem d_Ref_inputAt_102 : decode b_Ref_inputAt 102 = .ok ((.iload 6), 2) := by decide +kernel
theorem d_Ref_inputAt_104 : decode b_Ref_inputAt 104 = .ok (.ishl, 1) := by decide +kernel
theorem d_Ref_inputAt_105 : decode b_Ref_inputAt 105 = .ok (.ixor, 1) := by decide +kernel
theorem d_Ref_inputAt_106 : decode b_Ref_inputAt 106 = .ok ((.istore 5), 2) := by decide +kernel
theorem d_Ref_inputAt_108 : decode b_Ref_inputAt 108 = .ok ((.iinc 7 1), 3) := by decide +kernel
theorem d_Ref_inputAt_111 : decode b_Ref_inputAt 111 = .ok ((.goto (-87)), 3) := by decide +kernel
theorem d_Ref_inputAt_114 : decode b_Ref_inputAt 114 = .ok ((.iload 6), 2) := by decide +kernel
theorem d_Ref_inputAt_116 : decode b_Ref_inputAt 116 = .ok (.ireturn, 1) := by decide +kernel
theorem d_Ref_part_0 : decode b_Ref_part 0 = .ok ((.iconst 0), 1) := by decide +kernel
theorem d_Ref_part_1 : decode b_Ref_part 1 = .ok ((.istore 5), 2) := by decide +kernel
theorem d_Ref_part_3 : decode b_Ref_part 3 = .ok ((.iconst 0), 1) := by decide +kernel
theorem d_Ref_part_4 : decode b_Ref_part 4 = .ok ((.istore 6), 2) := by decide +kernel
theorem d_Ref_part_6 : decode b_Ref_part 6 = .ok ((.iload 6), 2) := by decide +kernel
theorem d_Ref_part_8 : decode b_Ref_part 8 = .ok ((.iconst 1), 1) := by decide +kernel
theorem d_Ref_part_9 : decode b_Ref_part 9 = .ok ((.aload_n 0), 1) := by decide +kernel
theorem d_Ref_part_10 : decode b_Ref_part 10 = .ok ((.getfield 55), 3) := by decide +kernel
theorem d_Ref_part_13 : decode b_Ref_part 13 = .ok (.ishl, 1) := by decide +kernel
theorem d_Ref_part_14 : decode b_Ref_part 14 = .ok ((.if_icmp .ge 83), 3) := by decide +kernel
theorem d_Ref_part_17 : decode b_Ref_part 17 = .ok ((.iload 6), 2) := by decide +kernel
theorem d_Ref_part_19 : decode b_Ref_part 19 = .ok ((.istore 7), 2) := by decide +kernel
theorem d_Ref_part_21 : decode b_Ref_part 21 = .ok ((.iconst 0), 1) := by decide +kernel
theorem d_Ref_part_22 : decode b_Ref_part 22 = .ok ((.istore 8), 2) := by decide +kernel
theorem d_Ref_part_24 : decode b_Ref_part 24 = .ok ((.iload 8), 2) := by decide +kernel
theorem d_Ref_part_26 : decode b_Ref_part 26 = .ok ((.iload_n 3), 1) := by decide +kernel
theorem d_Ref_part_27 : decode b_Ref_part 27 = .ok ((.if_icmp .ge 40), 3) := by decide +kernel
theorem d_Ref_part_30 : decode b_Ref_part 30 = .ok ((.aload_n 0), 1) := by decide +kernel
theorem d_Ref_part_31 : decode b_Ref_part 31 = .ok ((.iload_n 2), 1) := by decide +kernel
theorem d_Ref_part_32 : decode b_Ref_part 32 = .ok ((.iload 8), 2) := by decide +kernel
theorem d_Ref_part_34 : decode b_Ref_part 34 = .ok ((.invokevirtual 137), 3) := by decide +kernel
theorem d_Ref_part_37 : decode b_Ref_part 37 = .ok ((.istore 9), 2) := by decide +kernel
theorem d_Ref_part_39 : decode b_Ref_part 39 = .ok ((.iload 7), 2) := by decide +kernel
theorem d_Ref_part_41 : decode b_Ref_part 41 = .ok ((.iconst 1), 1) := by decide +kernel
theorem d_Ref_part_42 : decode b_Ref_part 42 = .ok ((.iload 9), 2) := by decide +kernel
theorem d_Ref_part_44 : decode b_Ref_part 44 = .ok (.ishl, 1) := by decide +kernel
theorem d_Ref_part_45 : decode b_Ref_part 45 = .ok ((.iconst (-1)), 1) := by decide +kernel
theorem d_Ref_part_46 : decode b_Ref_part 46 = .ok (.ixor, 1) := by decide +kernel
theorem d_Ref_part_47 : decode b_Ref_part 47 = .ok (.iand, 1) := by decide +kernel
theorem d_Ref_part_48 : decode b_Ref_part 48 = .ok ((.iload 4), 2) := by decide +kernel
theorem d_Ref_part_50 : decode b_Ref_part 50 = .ok ((.iload 8), 2) := by decide +kernel
theorem d_Ref_part_52 : decode b_Ref_part 52 = .ok (.ishr, 1) := by decide +kernel
theorem d_Ref_part_53 : decode b_Ref_part 53 = .ok ((.iconst 1), 1) := by decide +kernel
theorem d_Ref_part_54 : decode b_Ref_part 54 = .ok (.iand, 1) := by decide +kernel
theorem d_Ref_part_55 : decode b_Ref_part 55 = .ok ((.iload 9), 2) := by decide +kernel
theorem d_Ref_part_57 : decode b_Ref_part 57 = .ok (.ishl, 1) := by decide +kernel
theorem d_Ref_part_58 : decode b_Ref_part 58 = .ok (.ior, 1) := by decide +kernel
theorem d_Ref_part_59 : decode b_Ref_part 59 = .ok ((.istore 7), 2) := by decide +kernel
theorem d_Ref_part_61 : decode b_Ref_part 61 = .ok ((.iinc 8 1), 3) := by decide +kernel
theorem d_Ref_part_64 : decode b_Ref_part 64 = .ok ((.goto (-40)), 3) := by decide +kernel
theorem d_Ref_part_67 : decode b_Ref_part 67 = .ok ((.iload_n 1), 1) := by decide +kernel
theorem d_Ref_part_68 : decode b_Ref_part 68 = .ok ((.iload 7), 2) := by decide +kernel
theorem d_Ref_part_70 : decode b_Ref_part 70 = .ok (.ishr, 1) := by decide +kernel
theorem d_Ref_part_71 : decode b_Ref_part 71 = .ok ((.iconst 1), 1) := by decide +kernel
theorem d_Ref_part_72 : decode b_Ref_part 72 = .ok (.iand, 1) := by decide +kernel
theorem d_Ref_part_73 : decode b_Ref_part 73 = .ok ((.iconst 1), 1) := by decide +kernel
theorem d_Ref_part_74 : decode b_Ref_part 74 = .ok ((.if_icmp .ne 13), 3) := by decide +kernel
theorem d_Ref_part_77 : decode b_Ref_part 77 = .ok ((.iload 5), 2) := by decide +kernel
theorem d_Ref_part_79 : decode b_Ref_part 79 = .ok ((.iconst 1), 1) := by decide +kernel
theorem d_Ref_part_80 : decode b_Ref_part 80 = .ok ((.iload 6), 2) := by decide +kernel
theorem d_Ref_part_82 : decode b_Ref_part 82 = .ok (.ishl, 1) := by decide +kernel
theorem d_Ref_part_83 : decode b_Ref_part 83 = .ok (.ior, 1) := by decide +kernel
theorem d_Ref_part_84 : decode b_Ref_part 84 = .ok ((.goto 5), 3) := by decide +kernel
theorem d_Ref_part_87 : decode b_Ref_part 87 = .ok ((.iload 5), 2) := by decide +kernel
theorem d_Ref_part_89 : decode b_Ref_part 89 = .ok ((.istore 5), 2) := by decide +kernel
theorem d_Ref_part_91 : decode b_Ref_part 91 = .ok ((.iinc 6 1), 3) := by decide +kernel
theorem d_Ref_part_94 : decode b_Ref_part 94 = .ok ((.goto (-88)), 3) := by decide +kernel
theorem d_Ref_part_97 : decode b_Ref_part 97 = .ok ((.iload 5), 2) := by decide +kernel
theorem d_Ref_part_99 : decode b_Ref_part 99 = .ok (.ireturn, 1) := by decide +kernel
theorem d_Ref_asks_0 : decode b_Ref_asks 0 = .ok ((.iconst 0), 1) := by decide +kernel
theorem d_Ref_asks_1 : decode b_Ref_asks 1 = .ok ((.istore_n 3), 1) := by decide +kernel
theorem d_Ref_asks_2 : decode b_Ref_asks 2 = .ok ((.iconst 0), 1) := by decide +kernel
theorem d_Ref_asks_3 : decode b_Ref_asks 3 = .ok ((.istore 4), 2) := by decide +kernel
theorem d_Ref_asks_5 : decode b_Ref_asks 5 = .ok ((.iload 4), 2) := by decide +kernel
theorem d_Ref_asks_7 : decode b_Ref_asks 7 = .ok ((.iconst 1), 1) := by decide +kernel
theorem d_Ref_asks_8 : decode b_Ref_asks 8 = .ok ((.aload_n 0), 1) := by decide +kernel
theorem d_Ref_asks_9 : decode b_Ref_asks 9 = .ok ((.getfield 55), 3) := by decide +kernel
theorem d_Ref_asks_12 : decode b_Ref_asks 12 = .ok (.ishl, 1) := by decide +kernel
theorem d_Ref_asks_13 : decode b_Ref_asks 13 = .ok ((.if_icmp .ge 38), 3) := by decide +kernel
theorem d_Ref_asks_16 : decode b_Ref_asks 16 = .ok ((.iload_n 3), 1) := by decide +kernel
theorem d_Ref_asks_17 : decode b_Ref_asks 17 = .ok ((.ifCond .ne 22), 3) := by decide +kernel
theorem d_Ref_asks_20 : decode b_Ref_asks 20 = .ok ((.iload_n 1), 1) := by decide +kernel
theorem d_Ref_asks_21 : decode b_Ref_asks 21 = .ok ((.iload 4), 2) := by decide +kernel
theorem d_Ref_asks_23 : decode b_Ref_asks 23 = .ok (.ishr, 1) := by decide +kernel
theorem d_Ref_asks_24 : decode b_Ref_asks 24 = .ok ((.iconst 1), 1) := by decide +kernel
theorem d_Ref_asks_25 : decode b_Ref_asks 25 = .ok (.iand, 1) := by decide +kernel
theorem d_Ref_asks_26 : decode b_Ref_asks 26 = .ok ((.iload_n 1), 1) := by decide +kernel
theorem d_Ref_asks_27 : decode b_Ref_asks 27 = .ok ((.iload 4), 2) := by decide +kernel
theorem d_Ref_asks_29 : decode b_Ref_asks 29 = .ok ((.iconst 1), 1) := by decide +kernel
theorem d_Ref_asks_30 : decode b_Ref_asks 30 = .ok ((.iload_n 2), 1) := by decide +kernel
theorem d_Ref_asks_31 : decode b_Ref_asks 31 = .ok (.ishl, 1) := by decide +kernel
theorem d_Ref_asks_32 : decode b_Ref_asks 32 = .ok (.ixor, 1) := by decide +kernel
theorem d_Ref_asks_33 : decode b_Ref_asks 33 = .ok (.ishr, 1) := by decide +kernel
theorem d_Ref_asks_34 : decode b_Ref_asks 34 = .ok ((.iconst 1), 1) := by decide +kernel
theorem d_Ref_asks_35 : decode b_Ref_asks 35 = .ok (.iand, 1) := by decide +kernel
theorem d_Ref_asks_36 : decode b_Ref_asks 36 = .ok ((.if_icmp .eq 7), 3) := by decide +kernel
theorem d_Ref_asks_39 : decode b_Ref_asks 39 = .ok ((.iconst 1), 1) := by decide +kernel
theorem d_Ref_asks_40 : decode b_Ref_asks 40 = .ok ((.goto 4), 3) := by decide +kernel
theorem d_Ref_asks_43 : decode b_Ref_asks 43 = .ok ((.iconst 0), 1) := by decide +kernel
theorem d_Ref_asks_44 : decode b_Ref_asks 44 = .ok ((.istore_n 3), 1) := by decide +kernel
theorem d_Ref_asks_45 : decode b_Ref_asks 45 = .ok ((.iinc 4 1), 3) := by decide +kernel
theorem d_Ref_asks_48 : decode b_Ref_asks 48 = .ok ((.goto (-43)), 3) := by decide +kernel
theorem d_Ref_asks_51 : decode b_Ref_asks 51 = .ok ((.iload_n 3), 1) := by decide +kernel
theorem d_Ref_asks_52 : decode b_Ref_asks 52 = .ok (.ireturn, 1) := by decide +kernel
theorem d_Ref_order_0 : decode b_Ref_order 0 = .ok ((.aload_n 0), 1) := by decide +kernel
theorem d_Ref_order_1 : decode b_Ref_order 1 = .ok ((.iconst 0), 1) := by decide +kernel
theorem d_Ref_order_2 : decode b_Ref_order 2 = .ok ((.putfield 65), 3) := by decide +kernel
theorem d_Ref_order_5 : decode b_Ref_order 5 = .ok ((.aload_n 0), 1) := by decide +kernel
theorem d_Ref_order_6 : decode b_Ref_order 6 = .ok ((.invokevirtual 79), 3) := by decide +kernel
theorem d_Ref_order_9 : decode b_Ref_order 9 = .ok ((.iconst 0), 1) := by decide +kernel
theorem d_Ref_order_10 : decode b_Ref_order 10 = .ok ((.istore_n 1), 1) := by decide +kernel
theorem d_Ref_order_11 : decode b_Ref_order 11 = .ok ((.aload_n 0), 1) := by decide +kernel
theorem d_Ref_order_12 : decode b_Ref_order 12 = .ok ((.iconst 0), 1) := by decide +kernel
theorem d_Ref_order_13 : decode b_Ref_order 13 = .ok ((.invokevirtual 147), 3) := by decide +kernel
theorem d_Ref_order_16 : decode b_Ref_order 16 = .ok ((.istore_n 2), 1) := by decide +kernel
theorem d_Ref_order_17 : decode b_Ref_order 17 = .ok ((.iconst 1), 1) := by decide +kernel
theorem d_Ref_order_18 : decode b_Ref_order 18 = .ok ((.istore_n 3), 1) := by decide +kernel
theorem d_Ref_order_19 : decode b_Ref_order 19 = .ok ((.iload_n 3), 1) := by decide +kernel
theorem d_Ref_order_20 : decode b_Ref_order 20 = .ok ((.aload_n 0), 1) := by decide +kernel
theorem d_Ref_order_21 : decode b_Ref_order 21 = .ok ((.invokevirtual 133), 3) := by decide +kernel
theorem d_Ref_order_24 : decode b_Ref_order 24 = .ok ((.if_icmp .ge 41), 3) := by decide +kernel
theorem d_Ref_order_27 : decode b_Ref_order 27 = .ok ((.aload_n 0), 1) := by decide +kernel
theorem d_Ref_order_28 : decode b_Ref_order 28 = .ok ((.iload_n 3), 1) := by decide +kernel
theorem d_Ref_order_29 : decode b_Ref_order 29 = .ok ((.invokevirtual 147), 3) := by decide +kernel
theorem d_Ref_order_32 : decode b_Ref_order 32 = .ok ((.istore 4), 2) := by decide +kernel
theorem d_Ref_order_34 : decode b_Ref_order 34 = .ok ((.iload 4), 2) := by decide +kernel
theorem d_Ref_order_36 : decode b_Ref_order 36 = .ok ((.iload_n 2), 1) := by decide +kernel
theorem d_Ref_order_37 : decode b_Ref_order 37 = .ok ((.if_icmp .ge 7), 3) := by decide +kernel
theorem d_Ref_order_40 : decode b_Ref_order 40 = .ok ((.iload_n 3), 1) := by decide +kernel
theorem d_Ref_order_41 : decode b_Ref_order 41 = .ok ((.goto 4), 3) := by decide +kernel
theorem d_Ref_order_44 : decode b_Ref_order 44 = .ok ((.iload_n 1), 1) := by decide +kernel
theorem d_Ref_order_45 : decode b_Ref_order 45 = .ok ((.istore_n 1), 1) := by decide +kernel
theorem d_Ref_order_46 : decode b_Ref_order 46 = .ok ((.iload 4), 2) := by decide +kernel
theorem d_Ref_order_48 : decode b_Ref_order 48 = .ok ((.iload_n 2), 1) := by decide +kernel
theorem d_Ref_order_49 : decode b_Ref_order 49 = .ok ((.if_icmp .ge 8), 3) := by decide +kernel
theorem d_Ref_order_52 : decode b_Ref_order 52 = .ok ((.iload 4), 2) := by decide +kernel
theorem d_Ref_order_54 : decode b_Ref_order 54 = .ok ((.goto 4), 3) := by decide +kernel
theorem d_Ref_order_57 : decode b_Ref_order 57 = .ok ((.iload_n 2), 1) := by decide +kernel
theorem d_Ref_order_58 : decode b_Ref_order 58 = .ok ((.istore_n 2), 1) := by decide +kernel
theorem d_Ref_order_59 : decode b_Ref_order 59 = .ok ((.iinc 3 1), 3) := by decide +kernel
theorem d_Ref_order_62 : decode b_Ref_order 62 = .ok ((.goto (-43)), 3) := by decide +kernel
theorem d_Ref_order_65 : decode b_Ref_order 65 = .ok ((.iload_n 1), 1) := by decide +kernel
theorem d_Ref_order_66 : decode b_Ref_order 66 = .ok (.ireturn, 1) := by decide +kernel
theorem d_Ref_clear_0 : decode b_Ref_clear 0 = .ok ((.aload_n 0), 1) := by decide +kernel
theorem d_Ref_clear_1 : decode b_Ref_clear 1 = .ok ((.iconst 0), 1) := by decide +kernel
theorem d_Ref_clear_2 : decode b_Ref_clear 2 = .ok ((.putfield 65), 3) := by decide +kernel
theorem d_Ref_clear_5 : decode b_Ref_clear 5 = .ok ((.aload_n 0), 1) := by decide +kernel
theorem d_Ref_clear_6 : decode b_Ref_clear 6 = .ok ((.iconst 0), 1) := by decide +kernel
theorem d_Ref_clear_7 : decode b_Ref_clear 7 = .ok ((.putfield 72), 3) := by decide +kernel
theorem d_Ref_clear_10 : decode b_Ref_clear 10 = .ok ((.aload_n 0), 1) := by decide +kernel
theorem d_Ref_clear_11 : decode b_Ref_clear 11 = .ok ((.iconst 0), 1) := by decide +kernel
theorem d_Ref_clear_12 : decode b_Ref_clear 12 = .ok ((.putfield 113), 3) := by decide +kernel
theorem d_Ref_clear_15 : decode b_Ref_clear 15 = .ok ((.aload_n 0), 1) := by decide +kernel
