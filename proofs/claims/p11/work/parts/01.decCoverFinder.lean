theorem d_CoverFinder_init_0 : decode b_CoverFinder_init 0 = .ok ((.aload_n 0), 1) := by decide +kernel
theorem d_CoverFinder_init_1 : decode b_CoverFinder_init 1 = .ok ((.invokespecial 3), 3) := by decide +kernel
theorem d_CoverFinder_init_4 : decode b_CoverFinder_init 4 = .ok ((.aload_n 0), 1) := by decide +kernel
theorem d_CoverFinder_init_5 : decode b_CoverFinder_init 5 = .ok ((.bipush 81), 2) := by decide +kernel
theorem d_CoverFinder_init_7 : decode b_CoverFinder_init 7 = .ok ((.newarray .int), 2) := by decide +kernel
theorem d_CoverFinder_init_9 : decode b_CoverFinder_init 9 = .ok ((.putfield 9), 3) := by decide +kernel
theorem d_CoverFinder_init_12 : decode b_CoverFinder_init 12 = .ok ((.aload_n 0), 1) := by decide +kernel
theorem d_CoverFinder_init_13 : decode b_CoverFinder_init 13 = .ok ((.bipush 81), 2) := by decide +kernel
theorem d_CoverFinder_init_15 : decode b_CoverFinder_init 15 = .ok ((.newarray .int), 2) := by decide +kernel
theorem d_CoverFinder_init_17 : decode b_CoverFinder_init 17 = .ok ((.putfield 15), 3) := by decide +kernel
theorem d_CoverFinder_init_20 : decode b_CoverFinder_init 20 = .ok ((.aload_n 0), 1) := by decide +kernel
theorem d_CoverFinder_init_21 : decode b_CoverFinder_init 21 = .ok ((.bipush 81), 2) := by decide +kernel
theorem d_CoverFinder_init_23 : decode b_CoverFinder_init 23 = .ok ((.newarray .long), 2) := by decide +kernel
theorem d_CoverFinder_init_25 : decode b_CoverFinder_init 25 = .ok ((.putfield 18), 3) := by decide +kernel
theorem d_CoverFinder_init_28 : decode b_CoverFinder_init 28 = .ok ((.aload_n 0), 1) := by decide +kernel
theorem d_CoverFinder_init_29 : decode b_CoverFinder_init 29 = .ok ((.bipush 32), 2) := by decide +kernel
theorem d_CoverFinder_init_31 : decode b_CoverFinder_init 31 = .ok ((.newarray .long), 2) := by decide +kernel
theorem d_CoverFinder_init_33 : decode b_CoverFinder_init 33 = .ok ((.putfield 22), 3) := by decide +kernel
theorem d_CoverFinder_init_36 : decode b_CoverFinder_init 36 = .ok ((.aload_n 0), 1) := by decide +kernel
theorem d_CoverFinder_init_37 : decode b_CoverFinder_init 37 = .ok ((.bipush 32), 2) := by decide +kernel
theorem d_CoverFinder_init_39 : decode b_CoverFinder_init 39 = .ok ((.newarray .int), 2) := by decide +kernel
theorem d_CoverFinder_init_41 : decode b_CoverFinder_init 41 = .ok ((.putfield 25), 3) := by decide +kernel
theorem d_CoverFinder_init_44 : decode b_CoverFinder_init 44 = .ok ((.aload_n 0), 1) := by decide +kernel
theorem d_CoverFinder_init_45 : decode b_CoverFinder_init 45 = .ok ((.iload_n 1), 1) := by decide +kernel
theorem d_CoverFinder_init_46 : decode b_CoverFinder_init 46 = .ok ((.putfield 28), 3) := by decide +kernel
theorem d_CoverFinder_init_49 : decode b_CoverFinder_init 49 = .ok (.return_, 1) := by decide +kernel
theorem d_CoverFinder_find_0 : decode b_CoverFinder_find 0 = .ok ((.aload_n 0), 1) := by decide +kernel
theorem d_CoverFinder_find_1 : decode b_CoverFinder_find 1 = .ok ((.aload_n 1), 1) := by decide +kernel
theorem d_CoverFinder_find_2 : decode b_CoverFinder_find 2 = .ok ((.aload_n 2), 1) := by decide +kernel
theorem d_CoverFinder_find_3 : decode b_CoverFinder_find 3 = .ok ((.invokevirtual 36), 3) := by decide +kernel
theorem d_CoverFinder_find_6 : decode b_CoverFinder_find 6 = .ok ((.aload_n 0), 1) := by decide +kernel
theorem d_CoverFinder_find_7 : decode b_CoverFinder_find 7 = .ok ((.aload_n 0), 1) := by decide +kernel
theorem d_CoverFinder_find_8 : decode b_CoverFinder_find 8 = .ok ((.invokevirtual 40), 3) := by decide +kernel
theorem d_CoverFinder_find_11 : decode b_CoverFinder_find 11 = .ok ((.putfield 32), 3) := by decide +kernel
theorem d_CoverFinder_find_14 : decode b_CoverFinder_find 14 = .ok ((.iload_n 3), 1) := by decide +kernel
theorem d_CoverFinder_find_15 : decode b_CoverFinder_find 15 = .ok ((.ifCond .eq 53), 3) := by decide +kernel
theorem d_CoverFinder_find_18 : decode b_CoverFinder_find 18 = .ok ((.aload_n 0), 1) := by decide +kernel
theorem d_CoverFinder_find_19 : decode b_CoverFinder_find 19 = .ok ((.aload_n 0), 1) := by decide +kernel
theorem d_CoverFinder_find_20 : decode b_CoverFinder_find 20 = .ok ((.aload_n 0), 1) := by decide +kernel
theorem d_CoverFinder_find_21 : decode b_CoverFinder_find 21 = .ok ((.getfield 32), 3) := by decide +kernel
theorem d_CoverFinder_find_24 : decode b_CoverFinder_find 24 = .ok ((.invokevirtual 44), 3) := by decide +kernel
theorem d_CoverFinder_find_27 : decode b_CoverFinder_find 27 = .ok ((.putfield 48), 3) := by decide +kernel
theorem d_CoverFinder_find_30 : decode b_CoverFinder_find 30 = .ok ((.aload_n 0), 1) := by decide +kernel
theorem d_CoverFinder_find_31 : decode b_CoverFinder_find 31 = .ok ((.getfield 51), 3) := by decide +kernel
theorem d_CoverFinder_find_34 : decode b_CoverFinder_find 34 = .ok ((.bipush 64), 2) := by decide +kernel
theorem d_CoverFinder_find_36 : decode b_CoverFinder_find 36 = .ok ((.if_icmp .ge 14), 3) := by decide +kernel
theorem d_CoverFinder_find_39 : decode b_CoverFinder_find 39 = .ok ((.lconst 1), 1) := by decide +kernel
theorem d_CoverFinder_find_40 : decode b_CoverFinder_find 40 = .ok ((.aload_n 0), 1) := by decide +kernel
theorem d_CoverFinder_find_41 : decode b_CoverFinder_find 41 = .ok ((.getfield 51), 3) := by decide +kernel
theorem d_CoverFinder_find_44 : decode b_CoverFinder_find 44 = .ok (.lshl, 1) := by decide +kernel
theorem d_CoverFinder_find_45 : decode b_CoverFinder_find 45 = .ok ((.lconst 1), 1) := by decide +kernel
theorem d_CoverFinder_find_46 : decode b_CoverFinder_find 46 = .ok (.lsub, 1) := by decide +kernel
theorem d_CoverFinder_find_47 : decode b_CoverFinder_find 47 = .ok ((.goto 6), 3) := by decide +kernel
theorem d_CoverFinder_find_50 : decode b_CoverFinder_find 50 = .ok ((.ldc2_w 56), 3) := by decide +kernel
theorem d_CoverFinder_find_53 : decode b_CoverFinder_find 53 = .ok ((.lstore 4), 2) := by decide +kernel
theorem d_CoverFinder_find_55 : decode b_CoverFinder_find 55 = .ok ((.aload_n 0), 1) := by decide +kernel
theorem d_CoverFinder_find_56 : decode b_CoverFinder_find 56 = .ok ((.aload_n 0), 1) := by decide +kernel
theorem d_CoverFinder_find_57 : decode b_CoverFinder_find 57 = .ok ((.getfield 58), 3) := by decide +kernel
theorem d_CoverFinder_find_60 : decode b_CoverFinder_find 60 = .ok ((.lload 4), 2) := by decide +kernel
theorem d_CoverFinder_find_62 : decode b_CoverFinder_find 62 = .ok ((.lconst 0), 1) := by decide +kernel
theorem d_CoverFinder_find_63 : decode b_CoverFinder_find 63 = .ok ((.lconst 0), 1) := by decide +kernel
theorem d_CoverFinder_find_64 : decode b_CoverFinder_find 64 = .ok ((.iconst 0), 1) := by decide +kernel
theorem d_CoverFinder_find_65 : decode b_CoverFinder_find 65 = .ok ((.invokevirtual 61), 3) := by decide +kernel
theorem d_CoverFinder_find_68 : decode b_CoverFinder_find 68 = .ok (.return_, 1) := by decide +kernel
theorem d_CoverFinder_fillRows_0 : decode b_CoverFinder_fillRows 0 = .ok ((.aload_n 0), 1) := by decide +kernel
theorem d_CoverFinder_fillRows_1 : decode b_CoverFinder_fillRows 1 = .ok ((.aload_n 1), 1) := by decide +kernel
theorem d_CoverFinder_fillRows_2 : decode b_CoverFinder_fillRows 2 = .ok ((.invokevirtual 65), 3) := by decide +kernel
theorem d_CoverFinder_fillRows_5 : decode b_CoverFinder_fillRows 5 = .ok ((.putfield 51), 3) := by decide +kernel
theorem d_CoverFinder_fillRows_8 : decode b_CoverFinder_fillRows 8 = .ok ((.aload_n 0), 1) := by decide +kernel
theorem d_CoverFinder_fillRows_9 : decode b_CoverFinder_fillRows 9 = .ok ((.iconst 0), 1) := by decide +kernel
theorem d_CoverFinder_fillRows_10 : decode b_CoverFinder_fillRows 10 = .ok ((.putfield 58), 3) := by decide +kernel
theorem d_CoverFinder_fillRows_13 : decode b_CoverFinder_fillRows 13 = .ok ((.iconst 0), 1) := by decide +kernel
theorem d_CoverFinder_fillRows_14 : decode b_CoverFinder_fillRows 14 = .ok ((.istore_n 3), 1) := by decide +kernel
theorem d_CoverFinder_fillRows_15 : decode b_CoverFinder_fillRows 15 = .ok ((.iload_n 3), 1) := by decide +kernel
theorem d_CoverFinder_fillRows_16 : decode b_CoverFinder_fillRows 16 = .ok ((.aload_n 0), 1) := by decide +kernel
theorem d_CoverFinder_fillRows_17 : decode b_CoverFinder_fillRows 17 = .ok ((.getfield 28), 3) := by decide +kernel
theorem d_CoverFinder_fillRows_20 : decode b_CoverFinder_fillRows 20 = .ok ((.if_icmp .ge 28), 3) := by decide +kernel
theorem d_CoverFinder_fillRows_23 : decode b_CoverFinder_fillRows 23 = .ok ((.aload_n 0), 1) := by decide +kernel
theorem d_CoverFinder_fillRows_24 : decode b_CoverFinder_fillRows 24 = .ok (.dup, 1) := by decide +kernel
theorem d_CoverFinder_fillRows_25 : decode b_CoverFinder_fillRows 25 = .ok ((.getfield 58), 3) := by decide +kernel
theorem d_CoverFinder_fillRows_28 : decode b_CoverFinder_fillRows 28 = .ok ((.aload_n 2), 1) := by decide +kernel
theorem d_CoverFinder_fillRows_29 : decode b_CoverFinder_fillRows 29 = .ok ((.iload_n 3), 1) := by decide +kernel
theorem d_CoverFinder_fillRows_30 : decode b_CoverFinder_fillRows 30 = .ok ((.invokevirtual 70), 3) := by decide +kernel
theorem d_CoverFinder_fillRows_33 : decode b_CoverFinder_fillRows 33 = .ok ((.iload_n 3), 1) := by decide +kernel
theorem d_CoverFinder_fillRows_34 : decode b_CoverFinder_fillRows 34 = .ok ((.bipush 16), 2) := by decide +kernel
theorem d_CoverFinder_fillRows_36 : decode b_CoverFinder_fillRows 36 = .ok (.imul, 1) := by decide +kernel
theorem d_CoverFinder_fillRows_37 : decode b_CoverFinder_fillRows 37 = .ok (.ishl, 1) := by decide +kernel
theorem d_CoverFinder_fillRows_38 : decode b_CoverFinder_fillRows 38 = .ok (.ior, 1) := by decide +kernel
theorem d_CoverFinder_fillRows_39 : decode b_CoverFinder_fillRows 39 = .ok ((.putfield 58), 3) := by decide +kernel
theorem d_CoverFinder_fillRows_42 : decode b_CoverFinder_fillRows 42 = .ok ((.iinc 3 1), 3) := by decide +kernel
theorem d_CoverFinder_fillRows_45 : decode b_CoverFinder_fillRows 45 = .ok ((.goto (-30)), 3) := by decide +kernel
theorem d_CoverFinder_fillRows_48 : decode b_CoverFinder_fillRows 48 = .ok ((.iconst 0), 1) := by decide +kernel
theorem d_CoverFinder_fillRows_49 : decode b_CoverFinder_fillRows 49 = .ok ((.istore_n 3), 1) := by decide +kernel
theorem d_CoverFinder_fillRows_50 : decode b_CoverFinder_fillRows 50 = .ok ((.iload_n 3), 1) := by decide +kernel
theorem d_CoverFinder_fillRows_51 : decode b_CoverFinder_fillRows 51 = .ok ((.aload_n 0), 1) := by decide +kernel
theorem d_CoverFinder_fillRows_52 : decode b_CoverFinder_fillRows 52 = .ok ((.getfield 51), 3) := by decide +kernel
theorem d_CoverFinder_fillRows_55 : decode b_CoverFinder_fillRows 55 = .ok ((.if_icmp .ge 83), 3) := by decide +kernel
theorem d_CoverFinder_fillRows_58 : decode b_CoverFinder_fillRows 58 = .ok ((.iconst 0), 1) := by decide +kernel
theorem d_CoverFinder_fillRows_59 : decode b_CoverFinder_fillRows 59 = .ok ((.istore 4), 2) := by decide +kernel
theorem d_CoverFinder_fillRows_61 : decode b_CoverFinder_fillRows 61 = .ok ((.iconst 0), 1) := by decide +kernel
theorem d_CoverFinder_fillRows_62 : decode b_CoverFinder_fillRows 62 = .ok ((.istore 5), 2) := by decide +kernel
theorem d_CoverFinder_fillRows_64 : decode b_CoverFinder_fillRows 64 = .ok ((.iload 5), 2) := by decide +kernel
theorem d_CoverFinder_fillRows_66 : decode b_CoverFinder_fillRows 66 = .ok ((.aload_n 0), 1) := by decide +kernel
theorem d_CoverFinder_fillRows_67 : decode b_CoverFinder_fillRows 67 = .ok ((.getfield 28), 3) := by decide +kernel
theorem d_CoverFinder_fillRows_70 : decode b_CoverFinder_fillRows 70 = .ok ((.if_icmp .ge 27), 3) := by decide +kernel
theorem d_CoverFinder_fillRows_73 : decode b_CoverFinder_fillRows 73 = .ok ((.iload 4), 2) := by decide +kernel
theorem d_CoverFinder_fillRows_75 : decode b_CoverFinder_fillRows 75 = .ok ((.aload_n 1), 1) := by decide +kernel
theorem d_CoverFinder_fillRows_76 : decode b_CoverFinder_fillRows 76 = .ok ((.iload_n 3), 1) := by decide +kernel
theorem d_CoverFinder_fillRows_77 : decode b_CoverFinder_fillRows 77 = .ok ((.iload 5), 2) := by decide +kernel
theorem d_CoverFinder_fillRows_79 : decode b_CoverFinder_fillRows 79 = .ok ((.invokevirtual 76), 3) := by decide +kernel
theorem d_CoverFinder_fillRows_82 : decode b_CoverFinder_fillRows 82 = .ok ((.iload 5), 2) := by decide +kernel
theorem d_CoverFinder_fillRows_84 : decode b_CoverFinder_fillRows 84 = .ok ((.bipush 16), 2) := by decide +kernel
theorem d_CoverFinder_fillRows_86 : decode b_CoverFinder_fillRows 86 = .ok (.imul, 1) := by decide +kernel
theorem d_CoverFinder_fillRows_87 : decode b_CoverFinder_fillRows 87 = .ok (.ishl, 1) := by decide +kernel
theorem d_CoverFinder_fillRows_88 : decode b_CoverFinder_fillRows 88 = .ok (.ior, 1) := by decide +kernel
theorem d_CoverFinder_fillRows_89 : decode b_CoverFinder_fillRows 89 = .ok ((.istore 4), 2) := by decide +kernel
theorem d_CoverFinder_fillRows_91 : decode b_CoverFinder_fillRows 91 = .ok ((.iinc 5 1), 3) := by decide +kernel
theorem d_CoverFinder_fillRows_94 : decode b_CoverFinder_fillRows 94 = .ok ((.goto (-30)), 3) := by decide +kernel
theorem d_CoverFinder_fillRows_97 : decode b_CoverFinder_fillRows 97 = .ok ((.aload_n 0), 1) := by decide +kernel
theorem d_CoverFinder_fillRows_98 : decode b_CoverFinder_fillRows 98 = .ok ((.getfield 9), 3) := by decide +kernel
theorem d_CoverFinder_fillRows_101 : decode b_CoverFinder_fillRows 101 = .ok ((.iload_n 3), 1) := by decide +kernel
theorem d_CoverFinder_fillRows_102 : decode b_CoverFinder_fillRows 102 = .ok ((.iload 4), 2) := by decide +kernel
theorem d_CoverFinder_fillRows_104 : decode b_CoverFinder_fillRows 104 = .ok ((.aload_n 0), 1) := by decide +kernel
theorem d_CoverFinder_fillRows_105 : decode b_CoverFinder_fillRows 105 = .ok ((.getfield 58), 3) := by decide +kernel
theorem d_CoverFinder_fillRows_108 : decode b_CoverFinder_fillRows 108 = .ok (.iand, 1) := by decide +kernel
theorem d_CoverFinder_fillRows_109 : decode b_CoverFinder_fillRows 109 = .ok (.iastore, 1) := by decide +kernel
theorem d_CoverFinder_fillRows_110 : decode b_CoverFinder_fillRows 110 = .ok ((.aload_n 0), 1) := by decide +kernel
theorem d_CoverFinder_fillRows_111 : decode b_CoverFinder_fillRows 111 = .ok ((.getfield 15), 3) := by decide +kernel
theorem d_CoverFinder_fillRows_114 : decode b_CoverFinder_fillRows 114 = .ok ((.iload_n 3), 1) := by decide +kernel
theorem d_CoverFinder_fillRows_115 : decode b_CoverFinder_fillRows 115 = .ok ((.aload_n 1), 1) := by decide +kernel
theorem d_CoverFinder_fillRows_116 : decode b_CoverFinder_fillRows 116 = .ok ((.iload_n 3), 1) := by decide +kernel
theorem d_CoverFinder_fillRows_117 : decode b_CoverFinder_fillRows 117 = .ok ((.invokevirtual 80), 3) := by decide +kernel
theorem d_CoverFinder_fillRows_120 : decode b_CoverFinder_fillRows 120 = .ok (.iastore, 1) := by decide +kernel
theorem d_CoverFinder_fillRows_121 : decode b_CoverFinder_fillRows 121 = .ok ((.aload_n 0), 1) := by decide +kernel
theorem d_CoverFinder_fillRows_122 : decode b_CoverFinder_fillRows 122 = .ok ((.getfield 18), 3) := by decide +kernel
theorem d_CoverFinder_fillRows_125 : decode b_CoverFinder_fillRows 125 = .ok ((.iload_n 3), 1) := by decide +kernel
theorem d_CoverFinder_fillRows_126 : decode b_CoverFinder_fillRows 126 = .ok ((.aload_n 0), 1) := by decide +kernel
theorem d_CoverFinder_fillRows_127 : decode b_CoverFinder_fillRows 127 = .ok ((.iload_n 3), 1) := by decide +kernel
theorem d_CoverFinder_fillRows_128 : decode b_CoverFinder_fillRows 128 = .ok ((.invokevirtual 83), 3) := by decide +kernel
theorem d_CoverFinder_fillRows_131 : decode b_CoverFinder_fillRows 131 = .ok (.lastore, 1) := by decide +kernel
theorem d_CoverFinder_fillRows_132 : decode b_CoverFinder_fillRows 132 = .ok ((.iinc 3 1), 3) := by decide +kernel
theorem d_CoverFinder_fillRows_135 : decode b_CoverFinder_fillRows 135 = .ok ((.goto (-85)), 3) := by decide +kernel
theorem d_CoverFinder_fillRows_138 : decode b_CoverFinder_fillRows 138 = .ok ((.iconst 0), 1) := by decide +kernel
theorem d_CoverFinder_fillRows_139 : decode b_CoverFinder_fillRows 139 = .ok ((.istore_n 3), 1) := by decide +kernel
theorem d_CoverFinder_fillRows_140 : decode b_CoverFinder_fillRows 140 = .ok ((.iload_n 3), 1) := by decide +kernel
theorem d_CoverFinder_fillRows_141 : decode b_CoverFinder_fillRows 141 = .ok ((.bipush 32), 2) := by decide +kernel
theorem d_CoverFinder_fillRows_143 : decode b_CoverFinder_fillRows 143 = .ok ((.if_icmp .ge 20), 3) := by decide +kernel
theorem d_CoverFinder_fillRows_146 : decode b_CoverFinder_fillRows 146 = .ok ((.aload_n 0), 1) := by decide +kernel
theorem d_CoverFinder_fillRows_147 : decode b_CoverFinder_fillRows 147 = .ok ((.getfield 22), 3) := by decide +kernel
theorem d_CoverFinder_fillRows_150 : decode b_CoverFinder_fillRows 150 = .ok ((.iload_n 3), 1) := by decide +kernel
theorem d_CoverFinder_fillRows_151 : decode b_CoverFinder_fillRows 151 = .ok ((.aload_n 0), 1) := by decide +kernel
theorem d_CoverFinder_fillRows_152 : decode b_CoverFinder_fillRows 152 = .ok ((.iload_n 3), 1) := by decide +kernel
theorem d_CoverFinder_fillRows_153 : decode b_CoverFinder_fillRows 153 = .ok ((.invokevirtual 87), 3) := by decide +kernel
theorem d_CoverFinder_fillRows_156 : decode b_CoverFinder_fillRows 156 = .ok (.lastore, 1) := by decide +kernel
theorem d_CoverFinder_fillRows_157 : decode b_CoverFinder_fillRows 157 = .ok ((.iinc 3 1), 3) := by decide +kernel
theorem d_CoverFinder_fillRows_160 : decode b_CoverFinder_fillRows 160 = .ok ((.goto (-20)), 3) := by decide +kernel
theorem d_CoverFinder_fillRows_163 : decode b_CoverFinder_fillRows 163 = .ok (.return_, 1) := by decide +kernel
theorem d_CoverFinder_weigh_0 : decode b_CoverFinder_weigh 0 = .ok ((.ldc2_w 90), 3) := by decide +kernel
theorem d_CoverFinder_weigh_3 : decode b_CoverFinder_weigh 3 = .ok ((.aload_n 0), 1) := by decide +kernel
theorem d_CoverFinder_weigh_4 : decode b_CoverFinder_weigh 4 = .ok ((.getfield 15), 3) := by decide +kernel
theorem d_CoverFinder_weigh_7 : decode b_CoverFinder_weigh 7 = .ok ((.iload_n 1), 1) := by decide +kernel
theorem d_CoverFinder_weigh_8 : decode b_CoverFinder_weigh 8 = .ok (.iaload, 1) := by decide +kernel
theorem d_CoverFinder_weigh_9 : decode b_CoverFinder_weigh 9 = .ok (.i2l, 1) := by decide +kernel
theorem d_CoverFinder_weigh_10 : decode b_CoverFinder_weigh 10 = .ok ((.bipush 48), 2) := by decide +kernel
theorem d_CoverFinder_weigh_12 : decode b_CoverFinder_weigh 12 = .ok (.lshl, 1) := by decide +kernel
theorem d_CoverFinder_weigh_13 : decode b_CoverFinder_weigh 13 = .ok (.ladd, 1) := by decide +kernel
theorem d_CoverFinder_weigh_14 : decode b_CoverFinder_weigh 14 = .ok ((.lconst 1), 1) := by decide +kernel
theorem d_CoverFinder_weigh_15 : decode b_CoverFinder_weigh 15 = .ok ((.bipush 47), 2) := by decide +kernel
theorem d_CoverFinder_weigh_17 : decode b_CoverFinder_weigh 17 = .ok ((.iload_n 1), 1) := by decide +kernel
theorem d_CoverFinder_weigh_18 : decode b_CoverFinder_weigh 18 = .ok (.isub, 1) := by decide +kernel
theorem d_CoverFinder_weigh_19 : decode b_CoverFinder_weigh 19 = .ok (.lshl, 1) := by decide +kernel
theorem d_CoverFinder_weigh_20 : decode b_CoverFinder_weigh 20 = .ok (.lsub, 1) := by decide +kernel
theorem d_CoverFinder_weigh_21 : decode b_CoverFinder_weigh 21 = .ok (.lreturn, 1) := by decide +kernel
theorem d_CoverFinder_haversOf_0 : decode b_CoverFinder_haversOf 0 = .ok ((.lconst 0), 1) := by decide +kernel
theorem d_CoverFinder_haversOf_1 : decode b_CoverFinder_haversOf 1 = .ok ((.lstore_n 2), 1) := by decide +kernel
theorem d_CoverFinder_haversOf_2 : decode b_CoverFinder_haversOf 2 = .ok ((.iconst 0), 1) := by decide +kernel
theorem d_CoverFinder_haversOf_3 : decode b_CoverFinder_haversOf 3 = .ok ((.istore 4), 2) := by decide +kernel
theorem d_CoverFinder_haversOf_5 : decode b_CoverFinder_haversOf 5 = .ok ((.iload 4), 2) := by decide +kernel
theorem d_CoverFinder_haversOf_7 : decode b_CoverFinder_haversOf 7 = .ok ((.aload_n 0), 1) := by decide +kernel
theorem d_CoverFinder_haversOf_8 : decode b_CoverFinder_haversOf 8 = .ok ((.getfield 51), 3) := by decide +kernel
theorem d_CoverFinder_haversOf_11 : decode b_CoverFinder_haversOf 11 = .ok ((.if_icmp .ge 31), 3) := by decide +kernel
theorem d_CoverFinder_haversOf_14 : decode b_CoverFinder_haversOf 14 = .ok ((.aload_n 0), 1) := by decide +kernel
theorem d_CoverFinder_haversOf_15 : decode b_CoverFinder_haversOf 15 = .ok ((.getfield 9), 3) := by decide +kernel
theorem d_CoverFinder_haversOf_18 : decode b_CoverFinder_haversOf 18 = .ok ((.iload 4), 2) := by decide +kernel
theorem d_CoverFinder_haversOf_20 : decode b_CoverFinder_haversOf 20 = .ok (.iaload, 1) := by decide +kernel
theorem d_CoverFinder_haversOf_21 : decode b_CoverFinder_haversOf 21 = .ok ((.iload_n 1), 1) := by decide +kernel
theorem d_CoverFinder_haversOf_22 : decode b_CoverFinder_haversOf 22 = .ok (.ishr, 1) := by decide +kernel
theorem d_CoverFinder_haversOf_23 : decode b_CoverFinder_haversOf 23 = .ok ((.iconst 1), 1) := by decide +kernel
theorem d_CoverFinder_haversOf_24 : decode b_CoverFinder_haversOf 24 = .ok (.iand, 1) := by decide +kernel
theorem d_CoverFinder_haversOf_25 : decode b_CoverFinder_haversOf 25 = .ok ((.iconst 1), 1) := by decide +kernel
theorem d_CoverFinder_haversOf_26 : decode b_CoverFinder_haversOf 26 = .ok ((.if_icmp .ne 10), 3) := by decide +kernel
theorem d_CoverFinder_haversOf_29 : decode b_CoverFinder_haversOf 29 = .ok ((.lload_n 2), 1) := by decide +kernel
theorem d_CoverFinder_haversOf_30 : decode b_CoverFinder_haversOf 30 = .ok ((.lconst 1), 1) := by decide +kernel
theorem d_CoverFinder_haversOf_31 : decode b_CoverFinder_haversOf 31 = .ok ((.iload 4), 2) := by decide +kernel
theorem d_CoverFinder_haversOf_33 : decode b_CoverFinder_haversOf 33 = .ok (.lshl, 1) := by decide +kernel
theorem d_CoverFinder_haversOf_34 : decode b_CoverFinder_haversOf 34 = .ok (.lor, 1) := by decide +kernel
theorem d_CoverFinder_haversOf_35 : decode b_CoverFinder_haversOf 35 = .ok ((.lstore_n 2), 1) := by decide +kernel
theorem d_CoverFinder_haversOf_36 : decode b_CoverFinder_haversOf 36 = .ok ((.iinc 4 1), 3) := by decide +kernel
theorem d_CoverFinder_haversOf_39 : decode b_CoverFinder_haversOf 39 = .ok ((.goto (-34)), 3) := by decide +kernel
theorem d_CoverFinder_haversOf_42 : decode b_CoverFinder_haversOf 42 = .ok ((.lload_n 2), 1) := by decide +kernel
theorem d_CoverFinder_haversOf_43 : decode b_CoverFinder_haversOf 43 = .ok (.lreturn, 1) := by decide +kernel
theorem d_CoverFinder_quickSet_0 : decode b_CoverFinder_quickSet 0 = .ok ((.lconst 0), 1) := by decide +kernel
theorem d_CoverFinder_quickSet_1 : decode b_CoverFinder_quickSet 1 = .ok ((.lstore_n 1), 1) := by decide +kernel
theorem d_CoverFinder_quickSet_2 : decode b_CoverFinder_quickSet 2 = .ok ((.aload_n 0), 1) := by decide +kernel
theorem d_CoverFinder_quickSet_3 : decode b_CoverFinder_quickSet 3 = .ok ((.getfield 58), 3) := by decide +kernel
theorem d_CoverFinder_quickSet_6 : decode b_CoverFinder_quickSet 6 = .ok ((.istore_n 3), 1) := by decide +kernel
theorem d_CoverFinder_quickSet_7 : decode b_CoverFinder_quickSet 7 = .ok ((.iconst 0), 1) := by decide +kernel
theorem d_CoverFinder_quickSet_8 : decode b_CoverFinder_quickSet 8 = .ok ((.istore 4), 2) := by decide +kernel
theorem d_CoverFinder_quickSet_10 : decode b_CoverFinder_quickSet 10 = .ok ((.iload_n 3), 1) := by decide +kernel
theorem d_CoverFinder_quickSet_11 : decode b_CoverFinder_quickSet 11 = .ok ((.ifCond .eq 60), 3) := by decide +kernel
theorem d_CoverFinder_quickSet_14 : decode b_CoverFinder_quickSet 14 = .ok ((.iload 4), 2) := by decide +kernel
theorem d_CoverFinder_quickSet_16 : decode b_CoverFinder_quickSet 16 = .ok ((.bipush 32), 2) := by decide +kernel
theorem d_CoverFinder_quickSet_18 : decode b_CoverFinder_quickSet 18 = .ok ((.if_icmp .ge 53), 3) := by decide +kernel
theorem d_CoverFinder_quickSet_21 : decode b_CoverFinder_quickSet 21 = .ok ((.aload_n 0), 1) := by decide +kernel
theorem d_CoverFinder_quickSet_22 : decode b_CoverFinder_quickSet 22 = .ok ((.iload_n 3), 1) := by decide +kernel
theorem d_CoverFinder_quickSet_23 : decode b_CoverFinder_quickSet 23 = .ok ((.invokevirtual 96), 3) := by decide +kernel
theorem d_CoverFinder_quickSet_26 : decode b_CoverFinder_quickSet 26 = .ok ((.istore 5), 2) := by decide +kernel
theorem d_CoverFinder_quickSet_28 : decode b_CoverFinder_quickSet 28 = .ok ((.iload 5), 2) := by decide +kernel
theorem d_CoverFinder_quickSet_30 : decode b_CoverFinder_quickSet 30 = .ok ((.iconst (-1)), 1) := by decide +kernel
theorem d_CoverFinder_quickSet_31 : decode b_CoverFinder_quickSet 31 = .ok ((.if_icmp .ne 6), 3) := by decide +kernel
theorem d_CoverFinder_quickSet_34 : decode b_CoverFinder_quickSet 34 = .ok ((.goto 37), 3) := by decide +kernel
theorem d_CoverFinder_quickSet_37 : decode b_CoverFinder_quickSet 37 = .ok ((.aload_n 0), 1) := by decide +kernel
theorem d_CoverFinder_quickSet_38 : decode b_CoverFinder_quickSet 38 = .ok ((.getfield 25), 3) := by decide +kernel
theorem d_CoverFinder_quickSet_41 : decode b_CoverFinder_quickSet 41 = .ok ((.iload 4), 2) := by decide +kernel
theorem d_CoverFinder_quickSet_43 : decode b_CoverFinder_quickSet 43 = .ok ((.iload 5), 2) := by decide +kernel
theorem d_CoverFinder_quickSet_45 : decode b_CoverFinder_quickSet 45 = .ok (.iastore, 1) := by decide +kernel
theorem d_CoverFinder_quickSet_46 : decode b_CoverFinder_quickSet 46 = .ok ((.iinc 4 1), 3) := by decide +kernel
theorem d_CoverFinder_quickSet_49 : decode b_CoverFinder_quickSet 49 = .ok ((.lload_n 1), 1) := by decide +kernel
theorem d_CoverFinder_quickSet_50 : decode b_CoverFinder_quickSet 50 = .ok ((.lconst 1), 1) := by decide +kernel
theorem d_CoverFinder_quickSet_51 : decode b_CoverFinder_quickSet 51 = .ok ((.iload 5), 2) := by decide +kernel
theorem d_CoverFinder_quickSet_53 : decode b_CoverFinder_quickSet 53 = .ok (.lshl, 1) := by decide +kernel
theorem d_CoverFinder_quickSet_54 : decode b_CoverFinder_quickSet 54 = .ok (.lor, 1) := by decide +kernel
theorem d_CoverFinder_quickSet_55 : decode b_CoverFinder_quickSet 55 = .ok ((.lstore_n 1), 1) := by decide +kernel
theorem d_CoverFinder_quickSet_56 : decode b_CoverFinder_quickSet 56 = .ok ((.iload_n 3), 1) := by decide +kernel
theorem d_CoverFinder_quickSet_57 : decode b_CoverFinder_quickSet 57 = .ok ((.aload_n 0), 1) := by decide +kernel
theorem d_CoverFinder_quickSet_58 : decode b_CoverFinder_quickSet 58 = .ok ((.getfield 9), 3) := by decide +kernel
theorem d_CoverFinder_quickSet_61 : decode b_CoverFinder_quickSet 61 = .ok ((.iload 5), 2) := by decide +kernel
theorem d_CoverFinder_quickSet_63 : decode b_CoverFinder_quickSet 63 = .ok (.iaload, 1) := by decide +kernel
theorem d_CoverFinder_quickSet_64 : decode b_CoverFinder_quickSet 64 = .ok ((.iconst (-1)), 1) := by decide +kernel
theorem d_CoverFinder_quickSet_65 : decode b_CoverFinder_quickSet 65 = .ok (.ixor, 1) := by decide +kernel
theorem d_CoverFinder_quickSet_66 : decode b_CoverFinder_quickSet 66 = .ok (.iand, 1) := by decide +kernel
theorem d_CoverFinder_quickSet_67 : decode b_CoverFinder_quickSet 67 = .ok ((.istore_n 3), 1) := by decide +kernel
theorem d_CoverFinder_quickSet_68 : decode b_CoverFinder_quickSet 68 = .ok ((.goto (-58)), 3) := by decide +kernel
theorem d_CoverFinder_quickSet_71 : decode b_CoverFinder_quickSet 71 = .ok ((.iload 4), 2) := by decide +kernel
theorem d_CoverFinder_quickSet_73 : decode b_CoverFinder_quickSet 73 = .ok ((.iconst 1), 1) := by decide +kernel
theorem d_CoverFinder_quickSet_74 : decode b_CoverFinder_quickSet 74 = .ok (.isub, 1) := by decide +kernel
theorem d_CoverFinder_quickSet_75 : decode b_CoverFinder_quickSet 75 = .ok ((.istore 5), 2) := by decide +kernel
theorem d_CoverFinder_quickSet_77 : decode b_CoverFinder_quickSet 77 = .ok ((.iload 5), 2) := by decide +kernel
theorem d_CoverFinder_quickSet_79 : decode b_CoverFinder_quickSet 79 = .ok ((.ifCond .lt 38), 3) := by decide +kernel
theorem d_CoverFinder_quickSet_82 : decode b_CoverFinder_quickSet 82 = .ok ((.lload_n 1), 1) := by decide +kernel
theorem d_CoverFinder_quickSet_83 : decode b_CoverFinder_quickSet 83 = .ok ((.lconst 1), 1) := by decide +kernel
theorem d_CoverFinder_quickSet_84 : decode b_CoverFinder_quickSet 84 = .ok ((.aload_n 0), 1) := by decide +kernel
theorem d_CoverFinder_quickSet_85 : decode b_CoverFinder_quickSet 85 = .ok ((.getfield 25), 3) := by decide +kernel
theorem d_CoverFinder_quickSet_88 : decode b_CoverFinder_quickSet 88 = .ok ((.iload 5), 2) := by decide +kernel
theorem d_CoverFinder_quickSet_90 : decode b_CoverFinder_quickSet 90 = .ok (.iaload, 1) := by decide +kernel
theorem d_CoverFinder_quickSet_91 : decode b_CoverFinder_quickSet 91 = .ok (.lshl, 1) := by decide +kernel
theorem d_CoverFinder_quickSet_92 : decode b_CoverFinder_quickSet 92 = .ok ((.ldc2_w 56), 3) := by decide +kernel
theorem d_CoverFinder_quickSet_95 : decode b_CoverFinder_quickSet 95 = .ok (.lxor, 1) := by decide +kernel
theorem d_CoverFinder_quickSet_96 : decode b_CoverFinder_quickSet 96 = .ok (.land, 1) := by decide +kernel
theorem d_CoverFinder_quickSet_97 : decode b_CoverFinder_quickSet 97 = .ok ((.lstore 6), 2) := by decide +kernel
theorem d_CoverFinder_quickSet_99 : decode b_CoverFinder_quickSet 99 = .ok ((.aload_n 0), 1) := by decide +kernel
theorem d_CoverFinder_quickSet_100 : decode b_CoverFinder_quickSet 100 = .ok ((.lload 6), 2) := by decide +kernel
theorem d_CoverFinder_quickSet_102 : decode b_CoverFinder_quickSet 102 = .ok ((.invokevirtual 99), 3) := by decide +kernel
theorem d_CoverFinder_quickSet_105 : decode b_CoverFinder_quickSet 105 = .ok ((.ifCond .eq 6), 3) := by decide +kernel
theorem d_CoverFinder_quickSet_108 : decode b_CoverFinder_quickSet 108 = .ok ((.lload 6), 2) := by decide +kernel
theorem d_CoverFinder_quickSet_110 : decode b_CoverFinder_quickSet 110 = .ok ((.lstore_n 1), 1) := by decide +kernel
theorem d_CoverFinder_quickSet_111 : decode b_CoverFinder_quickSet 111 = .ok ((.iinc 5 (-1)), 3) := by decide +kernel
theorem d_CoverFinder_quickSet_114 : decode b_CoverFinder_quickSet 114 = .ok ((.goto (-37)), 3) := by decide +kernel
theorem d_CoverFinder_quickSet_117 : decode b_CoverFinder_quickSet 117 = .ok ((.lload_n 1), 1) := by decide +kernel
theorem d_CoverFinder_quickSet_118 : decode b_CoverFinder_quickSet 118 = .ok (.lreturn, 1) := by decide +kernel
theorem d_CoverFinder_quickPick_0 : decode b_CoverFinder_quickPick 0 = .ok ((.iconst (-1)), 1) := by decide +kernel
theorem d_CoverFinder_quickPick_1 : decode b_CoverFinder_quickPick 1 = .ok ((.istore_n 2), 1) := by decide +kernel
theorem d_CoverFinder_quickPick_2 : decode b_CoverFinder_quickPick 2 = .ok ((.iconst 0), 1) := by decide +kernel
theorem d_CoverFinder_quickPick_3 : decode b_CoverFinder_quickPick 3 = .ok ((.istore_n 3), 1) := by decide +kernel
theorem d_CoverFinder_quickPick_4 : decode b_CoverFinder_quickPick 4 = .ok ((.iconst 0), 1) := by decide +kernel
theorem d_CoverFinder_quickPick_5 : decode b_CoverFinder_quickPick 5 = .ok ((.istore 4), 2) := by decide +kernel
theorem d_CoverFinder_quickPick_7 : decode b_CoverFinder_quickPick 7 = .ok ((.iload 4), 2) := by decide +kernel
theorem d_CoverFinder_quickPick_9 : decode b_CoverFinder_quickPick 9 = .ok ((.aload_n 0), 1) := by decide +kernel
theorem d_CoverFinder_quickPick_10 : decode b_CoverFinder_quickPick 10 = .ok ((.getfield 51), 3) := by decide +kernel
theorem d_CoverFinder_quickPick_13 : decode b_CoverFinder_quickPick 13 = .ok ((.if_icmp .ge 62), 3) := by decide +kernel
theorem d_CoverFinder_quickPick_16 : decode b_CoverFinder_quickPick 16 = .ok ((.aload_n 0), 1) := by decide +kernel
theorem d_CoverFinder_quickPick_17 : decode b_CoverFinder_quickPick 17 = .ok ((.getfield 9), 3) := by decide +kernel
theorem d_CoverFinder_quickPick_20 : decode b_CoverFinder_quickPick 20 = .ok ((.iload 4), 2) := by decide +kernel
theorem d_CoverFinder_quickPick_22 : decode b_CoverFinder_quickPick 22 = .ok (.iaload, 1) := by decide +kernel
theorem d_CoverFinder_quickPick_23 : decode b_CoverFinder_quickPick 23 = .ok ((.iload_n 1), 1) := by decide +kernel
theorem d_CoverFinder_quickPick_24 : decode b_CoverFinder_quickPick 24 = .ok (.iand, 1) := by decide +kernel
theorem d_CoverFinder_quickPick_25 : decode b_CoverFinder_quickPick 25 = .ok ((.invokestatic 103), 3) := by decide +kernel
theorem d_CoverFinder_quickPick_28 : decode b_CoverFinder_quickPick 28 = .ok ((.istore 5), 2) := by decide +kernel
theorem d_CoverFinder_quickPick_30 : decode b_CoverFinder_quickPick 30 = .ok ((.iload 5), 2) := by decide +kernel
theorem d_CoverFinder_quickPick_32 : decode b_CoverFinder_quickPick 32 = .ok ((.iload_n 3), 1) := by decide +kernel
theorem d_CoverFinder_quickPick_33 : decode b_CoverFinder_quickPick 33 = .ok ((.if_icmp .gt 30), 3) := by decide +kernel
theorem d_CoverFinder_quickPick_36 : decode b_CoverFinder_quickPick 36 = .ok ((.iload_n 2), 1) := by decide +kernel
theorem d_CoverFinder_quickPick_37 : decode b_CoverFinder_quickPick 37 = .ok ((.iconst (-1)), 1) := by decide +kernel
theorem d_CoverFinder_quickPick_38 : decode b_CoverFinder_quickPick 38 = .ok ((.if_icmp .eq 31), 3) := by decide +kernel
theorem d_CoverFinder_quickPick_41 : decode b_CoverFinder_quickPick 41 = .ok ((.iload 5), 2) := by decide +kernel
theorem d_CoverFinder_quickPick_43 : decode b_CoverFinder_quickPick 43 = .ok ((.iload_n 3), 1) := by decide +kernel
theorem d_CoverFinder_quickPick_44 : decode b_CoverFinder_quickPick 44 = .ok ((.if_icmp .ne 25), 3) := by decide +kernel
theorem d_CoverFinder_quickPick_47 : decode b_CoverFinder_quickPick 47 = .ok ((.aload_n 0), 1) := by decide +kernel
theorem d_CoverFinder_quickPick_48 : decode b_CoverFinder_quickPick 48 = .ok ((.getfield 15), 3) := by decide +kernel
theorem d_CoverFinder_quickPick_51 : decode b_CoverFinder_quickPick 51 = .ok ((.iload 4), 2) := by decide +kernel
theorem d_CoverFinder_quickPick_53 : decode b_CoverFinder_quickPick 53 = .ok (.iaload, 1) := by decide +kernel
theorem d_CoverFinder_quickPick_54 : decode b_CoverFinder_quickPick 54 = .ok ((.aload_n 0), 1) := by decide +kernel
theorem d_CoverFinder_quickPick_55 : decode b_CoverFinder_quickPick 55 = .ok ((.getfield 15), 3) := by decide +kernel
theorem d_CoverFinder_quickPick_58 : decode b_CoverFinder_quickPick 58 = .ok ((.iload_n 2), 1) := by decide +kernel
theorem d_CoverFinder_quickPick_59 : decode b_CoverFinder_quickPick 59 = .ok (.iaload, 1) := by decide +kernel
theorem d_CoverFinder_quickPick_60 : decode b_CoverFinder_quickPick 60 = .ok ((.if_icmp .ge 9), 3) := by decide +kernel
theorem d_CoverFinder_quickPick_63 : decode b_CoverFinder_quickPick 63 = .ok ((.iload 4), 2) := by decide +kernel
theorem d_CoverFinder_quickPick_65 : decode b_CoverFinder_quickPick 65 = .ok ((.istore_n 2), 1) := by decide +kernel
theorem d_CoverFinder_quickPick_66 : decode b_CoverFinder_quickPick 66 = .ok ((.iload 5), 2) := by decide +kernel
theorem d_CoverFinder_quickPick_68 : decode b_CoverFinder_quickPick 68 = .ok ((.istore_n 3), 1) := by decide +kernel
theorem d_CoverFinder_quickPick_69 : decode b_CoverFinder_quickPick 69 = .ok ((.iinc 4 1), 3) := by decide +kernel
theorem d_CoverFinder_quickPick_72 : decode b_CoverFinder_quickPick 72 = .ok ((.goto (-65)), 3) := by decide +kernel
theorem d_CoverFinder_quickPick_75 : decode b_CoverFinder_quickPick 75 = .ok ((.iload_n 2), 1) := by decide +kernel
theorem d_CoverFinder_quickPick_76 : decode b_CoverFinder_quickPick 76 = .ok (.ireturn, 1) := by decide +kernel
theorem d_CoverFinder_isCover_0 : decode b_CoverFinder_isCover 0 = .ok ((.iconst 0), 1) := by decide +kernel
theorem d_CoverFinder_isCover_1 : decode b_CoverFinder_isCover 1 = .ok ((.istore_n 3), 1) := by decide +kernel
theorem d_CoverFinder_isCover_2 : decode b_CoverFinder_isCover 2 = .ok ((.iconst 0), 1) := by decide +kernel
theorem d_CoverFinder_isCover_3 : decode b_CoverFinder_isCover 3 = .ok ((.istore 4), 2) := by decide +kernel
theorem d_CoverFinder_isCover_5 : decode b_CoverFinder_isCover 5 = .ok ((.iload 4), 2) := by decide +kernel
theorem d_CoverFinder_isCover_7 : decode b_CoverFinder_isCover 7 = .ok ((.aload_n 0), 1) := by decide +kernel
theorem d_CoverFinder_isCover_8 : decode b_CoverFinder_isCover 8 = .ok ((.getfield 51), 3) := by decide +kernel
theorem d_CoverFinder_isCover_11 : decode b_CoverFinder_isCover 11 = .ok ((.if_icmp .ge 28), 3) := by decide +kernel
theorem d_CoverFinder_isCover_14 : decode b_CoverFinder_isCover 14 = .ok ((.lload_n 1), 1) := by decide +kernel
theorem d_CoverFinder_isCover_15 : decode b_CoverFinder_isCover 15 = .ok ((.iload 4), 2) := by decide +kernel
theorem d_CoverFinder_isCover_17 : decode b_CoverFinder_isCover 17 = .ok ((.invokestatic 92), 3) := by decide +kernel
theorem d_CoverFinder_isCover_20 : decode b_CoverFinder_isCover 20 = .ok ((.ifCond .eq 13), 3) := by decide +kernel
theorem d_CoverFinder_isCover_23 : decode b_CoverFinder_isCover 23 = .ok ((.iload_n 3), 1) := by decide +kernel
theorem d_CoverFinder_isCover_24 : decode b_CoverFinder_isCover 24 = .ok ((.aload_n 0), 1) := by decide +kernel
theorem d_CoverFinder_isCover_25 : decode b_CoverFinder_isCover 25 = .ok ((.getfield 9), 3) := by decide +kernel
theorem d_CoverFinder_isCover_28 : decode b_CoverFinder_isCover 28 = .ok ((.iload 4), 2) := by decide +kernel
theorem d_CoverFinder_isCover_30 : decode b_CoverFinder_isCover 30 = .ok (.iaload, 1) := by decide +kernel
theorem d_CoverFinder_isCover_31 : decode b_CoverFinder_isCover 31 = .ok (.ior, 1) := by decide +kernel
theorem d_CoverFinder_isCover_32 : decode b_CoverFinder_isCover 32 = .ok ((.istore_n 3), 1) := by decide +kernel
theorem d_CoverFinder_isCover_33 : decode b_CoverFinder_isCover 33 = .ok ((.iinc 4 1), 3) := by decide +kernel
theorem d_CoverFinder_isCover_36 : decode b_CoverFinder_isCover 36 = .ok ((.goto (-31)), 3) := by decide +kernel
theorem d_CoverFinder_isCover_39 : decode b_CoverFinder_isCover 39 = .ok ((.iload_n 3), 1) := by decide +kernel
theorem d_CoverFinder_isCover_40 : decode b_CoverFinder_isCover 40 = .ok ((.aload_n 0), 1) := by decide +kernel
theorem d_CoverFinder_isCover_41 : decode b_CoverFinder_isCover 41 = .ok ((.getfield 58), 3) := by decide +kernel
theorem d_CoverFinder_isCover_44 : decode b_CoverFinder_isCover 44 = .ok ((.if_icmp .ne 7), 3) := by decide +kernel
theorem d_CoverFinder_isCover_47 : decode b_CoverFinder_isCover 47 = .ok ((.iconst 1), 1) := by decide +kernel
theorem d_CoverFinder_isCover_48 : decode b_CoverFinder_isCover 48 = .ok ((.goto 4), 3) := by decide +kernel
theorem d_CoverFinder_isCover_51 : decode b_CoverFinder_isCover 51 = .ok ((.iconst 0), 1) := by decide +kernel
theorem d_CoverFinder_isCover_52 : decode b_CoverFinder_isCover 52 = .ok (.ireturn, 1) := by decide +kernel
theorem d_CoverFinder_isIn_0 : decode b_CoverFinder_isIn 0 = .ok ((.lload_n 0), 1) := by decide +kernel
theorem d_CoverFinder_isIn_1 : decode b_CoverFinder_isIn 1 = .ok ((.iload_n 2), 1) := by decide +kernel
theorem d_CoverFinder_isIn_2 : decode b_CoverFinder_isIn 2 = .ok (.lshr, 1) := by decide +kernel
theorem d_CoverFinder_isIn_3 : decode b_CoverFinder_isIn 3 = .ok ((.lconst 1), 1) := by decide +kernel
theorem d_CoverFinder_isIn_4 : decode b_CoverFinder_isIn 4 = .ok (.land, 1) := by decide +kernel
theorem d_CoverFinder_isIn_5 : decode b_CoverFinder_isIn 5 = .ok ((.lconst 1), 1) := by decide +kernel
theorem d_CoverFinder_isIn_6 : decode b_CoverFinder_isIn 6 = .ok (.lcmp, 1) := by decide +kernel
theorem d_CoverFinder_isIn_7 : decode b_CoverFinder_isIn 7 = .ok ((.ifCond .ne 7), 3) := by decide +kernel
theorem d_CoverFinder_isIn_10 : decode b_CoverFinder_isIn 10 = .ok ((.iconst 1), 1) := by decide +kernel
theorem d_CoverFinder_isIn_11 : decode b_CoverFinder_isIn 11 = .ok ((.goto 4), 3) := by decide +kernel
theorem d_CoverFinder_isIn_14 : decode b_CoverFinder_isIn 14 = .ok ((.iconst 0), 1) := by decide +kernel
theorem d_CoverFinder_isIn_15 : decode b_CoverFinder_isIn 15 = .ok (.ireturn, 1) := by decide +kernel
theorem d_CoverFinder_weightOf_0 : decode b_CoverFinder_weightOf 0 = .ok ((.lconst 0), 1) := by decide +kernel
theorem d_CoverFinder_weightOf_1 : decode b_CoverFinder_weightOf 1 = .ok ((.lstore_n 3), 1) := by decide +kernel
theorem d_CoverFinder_weightOf_2 : decode b_CoverFinder_weightOf 2 = .ok ((.iconst 0), 1) := by decide +kernel
theorem d_CoverFinder_weightOf_3 : decode b_CoverFinder_weightOf 3 = .ok ((.istore 5), 2) := by decide +kernel
theorem d_CoverFinder_weightOf_5 : decode b_CoverFinder_weightOf 5 = .ok ((.iload 5), 2) := by decide +kernel
theorem d_CoverFinder_weightOf_7 : decode b_CoverFinder_weightOf 7 = .ok ((.aload_n 0), 1) := by decide +kernel
theorem d_CoverFinder_weightOf_8 : decode b_CoverFinder_weightOf 8 = .ok ((.getfield 51), 3) := by decide +kernel
theorem d_CoverFinder_weightOf_11 : decode b_CoverFinder_weightOf 11 = .ok ((.if_icmp .ge 28), 3) := by decide +kernel
theorem d_CoverFinder_weightOf_14 : decode b_CoverFinder_weightOf 14 = .ok ((.lload_n 1), 1) := by decide +kernel
theorem d_CoverFinder_weightOf_15 : decode b_CoverFinder_weightOf 15 = .ok ((.iload 5), 2) := by decide +kernel
theorem d_CoverFinder_weightOf_17 : decode b_CoverFinder_weightOf 17 = .ok ((.invokestatic 92), 3) := by decide +kernel
theorem d_CoverFinder_weightOf_20 : decode b_CoverFinder_weightOf 20 = .ok ((.ifCond .eq 13), 3) := by decide +kernel
theorem d_CoverFinder_weightOf_23 : decode b_CoverFinder_weightOf 23 = .ok ((.lload_n 3), 1) := by decide +kernel
theorem d_CoverFinder_weightOf_24 : decode b_CoverFinder_weightOf 24 = .ok ((.aload_n 0), 1) := by decide +kernel
theorem d_CoverFinder_weightOf_25 : decode b_CoverFinder_weightOf 25 = .ok ((.getfield 18), 3) := by decide +kernel
theorem d_CoverFinder_weightOf_28 : decode b_CoverFinder_weightOf 28 = .ok ((.iload 5), 2) := by decide +kernel
theorem d_CoverFinder_weightOf_30 : decode b_CoverFinder_weightOf 30 = .ok (.laload, 1) := by decide +kernel
theorem d_CoverFinder_weightOf_31 : decode b_CoverFinder_weightOf 31 = .ok (.ladd, 1) := by decide +kernel
theorem d_CoverFinder_weightOf_32 : decode b_CoverFinder_weightOf 32 = .ok ((.lstore_n 3), 1) := by decide +kernel
theorem d_CoverFinder_weightOf_33 : decode b_CoverFinder_weightOf 33 = .ok ((.iinc 5 1), 3) := by decide +kernel
theorem d_CoverFinder_weightOf_36 : decode b_CoverFinder_weightOf 36 = .ok ((.goto (-31)), 3) := by decide +kernel
theorem d_CoverFinder_weightOf_39 : decode b_CoverFinder_weightOf 39 = .ok ((.lload_n 3), 1) := by decide +kernel
theorem d_CoverFinder_weightOf_40 : decode b_CoverFinder_weightOf 40 = .ok (.lreturn, 1) := by decide +kernel
theorem d_CoverFinder_improve_0 : decode b_CoverFinder_improve 0 = .ok ((.iload_n 1), 1) := by decide +kernel
theorem d_CoverFinder_improve_1 : decode b_CoverFinder_improve 1 = .ok ((.ifCond .ne 12), 3) := by decide +kernel
theorem d_CoverFinder_improve_4 : decode b_CoverFinder_improve 4 = .ok ((.aload_n 0), 1) := by decide +kernel
theorem d_CoverFinder_improve_5 : decode b_CoverFinder_improve 5 = .ok ((.lload 4), 2) := by decide +kernel
theorem d_CoverFinder_improve_7 : decode b_CoverFinder_improve 7 = .ok ((.lload 6), 2) := by decide +kernel
theorem d_CoverFinder_improve_9 : decode b_CoverFinder_improve 9 = .ok ((.invokevirtual 108), 3) := by decide +kernel
theorem d_CoverFinder_improve_12 : decode b_CoverFinder_improve 12 = .ok (.return_, 1) := by decide +kernel
theorem d_CoverFinder_improve_13 : decode b_CoverFinder_improve 13 = .ok ((.iload 8), 2) := by decide +kernel
theorem d_CoverFinder_improve_15 : decode b_CoverFinder_improve 15 = .ok ((.bipush 32), 2) := by decide +kernel
theorem d_CoverFinder_improve_17 : decode b_CoverFinder_improve 17 = .ok ((.if_icmp .ge 13), 3) := by decide +kernel
theorem d_CoverFinder_improve_20 : decode b_CoverFinder_improve 20 = .ok ((.lload 6), 2) := by decide +kernel
theorem d_CoverFinder_improve_22 : decode b_CoverFinder_improve 22 = .ok ((.aload_n 0), 1) := by decide +kernel
theorem d_CoverFinder_improve_23 : decode b_CoverFinder_improve 23 = .ok ((.getfield 48), 3) := by decide +kernel
theorem d_CoverFinder_improve_26 : decode b_CoverFinder_improve 26 = .ok (.lcmp, 1) := by decide +kernel
theorem d_CoverFinder_improve_27 : decode b_CoverFinder_improve 27 = .ok ((.ifCond .lt 4), 3) := by decide +kernel
theorem d_CoverFinder_improve_30 : decode b_CoverFinder_improve 30 = .ok (.return_, 1) := by decide +kernel
theorem d_CoverFinder_improve_31 : decode b_CoverFinder_improve 31 = .ok ((.lload_n 2), 1) := by decide +kernel
theorem d_CoverFinder_improve_32 : decode b_CoverFinder_improve 32 = .ok ((.lstore 9), 2) := by decide +kernel
theorem d_CoverFinder_improve_34 : decode b_CoverFinder_improve 34 = .ok ((.aload_n 0), 1) := by decide +kernel
theorem d_CoverFinder_improve_35 : decode b_CoverFinder_improve 35 = .ok ((.iload_n 1), 1) := by decide +kernel
theorem d_CoverFinder_improve_36 : decode b_CoverFinder_improve 36 = .ok ((.lload 9), 2) := by decide +kernel
theorem d_CoverFinder_improve_38 : decode b_CoverFinder_improve 38 = .ok ((.invokevirtual 112), 3) := by decide +kernel
theorem d_CoverFinder_improve_41 : decode b_CoverFinder_improve 41 = .ok ((.istore 11), 2) := by decide +kernel
theorem d_CoverFinder_improve_43 : decode b_CoverFinder_improve 43 = .ok ((.aload_n 0), 1) := by decide +kernel
theorem d_CoverFinder_improve_44 : decode b_CoverFinder_improve 44 = .ok ((.getfield 22), 3) := by decide +kernel
theorem d_CoverFinder_improve_47 : decode b_CoverFinder_improve 47 = .ok ((.iload 11), 2) := by decide +kernel
theorem d_CoverFinder_improve_49 : decode b_CoverFinder_improve 49 = .ok (.laload, 1) := by decide +kernel
theorem d_CoverFinder_improve_50 : decode b_CoverFinder_improve 50 = .ok ((.lload 9), 2) := by decide +kernel
theorem d_CoverFinder_improve_52 : decode b_CoverFinder_improve 52 = .ok (.land, 1) := by decide +kernel
theorem d_CoverFinder_improve_53 : decode b_CoverFinder_improve 53 = .ok ((.invokestatic 116), 3) := by decide +kernel
theorem d_CoverFinder_improve_56 : decode b_CoverFinder_improve 56 = .ok ((.iconst 1), 1) := by decide +kernel
theorem d_CoverFinder_improve_57 : decode b_CoverFinder_improve 57 = .ok ((.if_icmp .le 40), 3) := by decide +kernel
theorem d_CoverFinder_improve_60 : decode b_CoverFinder_improve 60 = .ok ((.aload_n 0), 1) := by decide +kernel
theorem d_CoverFinder_improve_61 : decode b_CoverFinder_improve 61 = .ok ((.iload_n 1), 1) := by decide +kernel
theorem d_CoverFinder_improve_62 : decode b_CoverFinder_improve 62 = .ok ((.lload 9), 2) := by decide +kernel
theorem d_CoverFinder_improve_64 : decode b_CoverFinder_improve 64 = .ok ((.invokevirtual 119), 3) := by decide +kernel
theorem d_CoverFinder_improve_67 : decode b_CoverFinder_improve 67 = .ok ((.lstore 9), 2) := by decide +kernel
theorem d_CoverFinder_improve_69 : decode b_CoverFinder_improve 69 = .ok ((.aload_n 0), 1) := by decide +kernel
theorem d_CoverFinder_improve_70 : decode b_CoverFinder_improve 70 = .ok ((.iload_n 1), 1) := by decide +kernel
theorem d_CoverFinder_improve_71 : decode b_CoverFinder_improve 71 = .ok ((.lload 9), 2) := by decide +kernel
theorem d_CoverFinder_improve_73 : decode b_CoverFinder_improve 73 = .ok ((.invokevirtual 112), 3) := by decide +kernel
theorem d_CoverFinder_improve_76 : decode b_CoverFinder_improve 76 = .ok ((.istore 11), 2) := by decide +kernel
theorem d_CoverFinder_improve_78 : decode b_CoverFinder_improve 78 = .ok ((.lload 6), 2) := by decide +kernel
theorem d_CoverFinder_improve_80 : decode b_CoverFinder_improve 80 = .ok ((.aload_n 0), 1) := by decide +kernel
theorem d_CoverFinder_improve_81 : decode b_CoverFinder_improve 81 = .ok ((.iload_n 1), 1) := by decide +kernel
theorem d_CoverFinder_improve_82 : decode b_CoverFinder_improve 82 = .ok ((.lload 9), 2) := by decide +kernel
theorem d_CoverFinder_improve_84 : decode b_CoverFinder_improve 84 = .ok ((.invokevirtual 123), 3) := by decide +kernel
theorem d_CoverFinder_improve_87 : decode b_CoverFinder_improve 87 = .ok (.ladd, 1) := by decide +kernel
theorem d_CoverFinder_improve_88 : decode b_CoverFinder_improve 88 = .ok ((.aload_n 0), 1) := by decide +kernel
theorem d_CoverFinder_improve_89 : decode b_CoverFinder_improve 89 = .ok ((.getfield 48), 3) := by decide +kernel
theorem d_CoverFinder_improve_92 : decode b_CoverFinder_improve 92 = .ok (.lcmp, 1) := by decide +kernel
theorem d_CoverFinder_improve_93 : decode b_CoverFinder_improve 93 = .ok ((.ifCond .lt 4), 3) := by decide +kernel
theorem d_CoverFinder_improve_96 : decode b_CoverFinder_improve 96 = .ok (.return_, 1) := by decide +kernel
theorem d_CoverFinder_improve_97 : decode b_CoverFinder_improve 97 = .ok ((.aload_n 0), 1) := by decide +kernel
theorem d_CoverFinder_improve_98 : decode b_CoverFinder_improve 98 = .ok ((.aload_n 0), 1) := by decide +kernel
theorem d_CoverFinder_improve_99 : decode b_CoverFinder_improve 99 = .ok ((.getfield 22), 3) := by decide +kernel
theorem d_CoverFinder_improve_102 : decode b_CoverFinder_improve 102 = .ok ((.iload 11), 2) := by decide +kernel
theorem d_CoverFinder_improve_104 : decode b_CoverFinder_improve 104 = .ok (.laload, 1) := by decide +kernel
theorem d_CoverFinder_improve_105 : decode b_CoverFinder_improve 105 = .ok ((.lload 9), 2) := by decide +kernel
theorem d_CoverFinder_improve_107 : decode b_CoverFinder_improve 107 = .ok (.land, 1) := by decide +kernel
theorem d_CoverFinder_improve_108 : decode b_CoverFinder_improve 108 = .ok ((.iload_n 1), 1) := by decide +kernel
theorem d_CoverFinder_improve_109 : decode b_CoverFinder_improve 109 = .ok ((.lload 9), 2) := by decide +kernel
theorem d_CoverFinder_improve_111 : decode b_CoverFinder_improve 111 = .ok ((.lload 4), 2) := by decide +kernel
theorem d_CoverFinder_improve_113 : decode b_CoverFinder_improve 113 = .ok ((.lload 6), 2) := by decide +kernel
theorem d_CoverFinder_improve_115 : decode b_CoverFinder_improve 115 = .ok ((.iload 8), 2) := by decide +kernel
theorem d_CoverFinder_improve_117 : decode b_CoverFinder_improve 117 = .ok ((.invokevirtual 126), 3) := by decide +kernel
theorem d_CoverFinder_improve_120 : decode b_CoverFinder_improve 120 = .ok (.return_, 1) := by decide +kernel
theorem d_CoverFinder_keepIfLighter_0 : decode b_CoverFinder_keepIfLighter 0 = .ok ((.lload_n 3), 1) := by decide +kernel
theorem d_CoverFinder_keepIfLighter_1 : decode b_CoverFinder_keepIfLighter 1 = .ok ((.aload_n 0), 1) := by decide +kernel
theorem d_CoverFinder_keepIfLighter_2 : decode b_CoverFinder_keepIfLighter 2 = .ok ((.getfield 48), 3) := by decide +kernel
theorem d_CoverFinder_keepIfLighter_5 : decode b_CoverFinder_keepIfLighter 5 = .ok (.lcmp, 1) := by decide +kernel
theorem d_CoverFinder_keepIfLighter_6 : decode b_CoverFinder_keepIfLighter 6 = .ok ((.ifCond .ge 13), 3) := by decide +kernel
theorem d_CoverFinder_keepIfLighter_9 : decode b_CoverFinder_keepIfLighter 9 = .ok ((.aload_n 0), 1) := by decide +kernel
theorem d_CoverFinder_keepIfLighter_10 : decode b_CoverFinder_keepIfLighter 10 = .ok ((.lload_n 3), 1) := by decide +kernel
theorem d_CoverFinder_keepIfLighter_11 : decode b_CoverFinder_keepIfLighter 11 = .ok ((.putfield 48), 3) := by decide +kernel
theorem d_CoverFinder_keepIfLighter_14 : decode b_CoverFinder_keepIfLighter 14 = .ok ((.aload_n 0), 1) := by decide +kernel
theorem d_CoverFinder_keepIfLighter_15 : decode b_CoverFinder_keepIfLighter 15 = .ok ((.lload_n 1), 1) := by decide +kernel
theorem d_CoverFinder_keepIfLighter_16 : decode b_CoverFinder_keepIfLighter 16 = .ok ((.putfield 32), 3) := by decide +kernel
theorem d_CoverFinder_keepIfLighter_19 : decode b_CoverFinder_keepIfLighter 19 = .ok (.return_, 1) := by decide +kernel
theorem d_CoverFinder_rarestPoint_0 : decode b_CoverFinder_rarestPoint 0 = .ok ((.iconst 0), 1) := by decide +kernel
theorem d_CoverFinder_rarestPoint_1 : decode b_CoverFinder_rarestPoint 1 = .ok ((.istore 4), 2) := by decide +kernel
theorem d_CoverFinder_rarestPoint_3 : decode b_CoverFinder_rarestPoint 3 = .ok ((.bipush 65), 2) := by decide +kernel
theorem d_CoverFinder_rarestPoint_5 : decode b_CoverFinder_rarestPoint 5 = .ok ((.istore 5), 2) := by decide +kernel
theorem d_CoverFinder_rarestPoint_7 : decode b_CoverFinder_rarestPoint 7 = .ok ((.iconst 0), 1) := by decide +kernel
theorem d_CoverFinder_rarestPoint_8 : decode b_CoverFinder_rarestPoint 8 = .ok ((.istore 6), 2) := by decide +kernel
theorem d_CoverFinder_rarestPoint_10 : decode b_CoverFinder_rarestPoint 10 = .ok ((.iload 6), 2) := by decide +kernel
theorem d_CoverFinder_rarestPoint_12 : decode b_CoverFinder_rarestPoint 12 = .ok ((.bipush 32), 2) := by decide +kernel
theorem d_CoverFinder_rarestPoint_14 : decode b_CoverFinder_rarestPoint 14 = .ok ((.if_icmp .ge 48), 3) := by decide +kernel
theorem d_CoverFinder_rarestPoint_17 : decode b_CoverFinder_rarestPoint 17 = .ok ((.iload_n 1), 1) := by decide +kernel
theorem d_CoverFinder_rarestPoint_18 : decode b_CoverFinder_rarestPoint 18 = .ok ((.iload 6), 2) := by decide +kernel
theorem d_CoverFinder_rarestPoint_20 : decode b_CoverFinder_rarestPoint 20 = .ok (.ishr, 1) := by decide +kernel
theorem d_CoverFinder_rarestPoint_21 : decode b_CoverFinder_rarestPoint 21 = .ok ((.iconst 1), 1) := by decide +kernel
theorem d_CoverFinder_rarestPoint_22 : decode b_CoverFinder_rarestPoint 22 = .ok (.iand, 1) := by decide +kernel
theorem d_CoverFinder_rarestPoint_23 : decode b_CoverFinder_rarestPoint 23 = .ok ((.iconst 1), 1) := by decide +kernel
theorem d_CoverFinder_rarestPoint_24 : decode b_CoverFinder_rarestPoint 24 = .ok ((.if_icmp .ne 32), 3) := by decide +kernel
theorem d_CoverFinder_rarestPoint_27 : decode b_CoverFinder_rarestPoint 27 = .ok ((.aload_n 0), 1) := by decide +kernel
theorem d_CoverFinder_rarestPoint_28 : decode b_CoverFinder_rarestPoint 28 = .ok ((.getfield 22), 3) := by decide +kernel
theorem d_CoverFinder_rarestPoint_31 : decode b_CoverFinder_rarestPoint 31 = .ok ((.iload 6), 2) := by decide +kernel
theorem d_CoverFinder_rarestPoint_33 : decode b_CoverFinder_rarestPoint 33 = .ok (.laload, 1) := by decide +kernel
theorem d_CoverFinder_rarestPoint_34 : decode b_CoverFinder_rarestPoint 34 = .ok ((.lload_n 2), 1) := by decide +kernel
theorem d_CoverFinder_rarestPoint_35 : decode b_CoverFinder_rarestPoint 35 = .ok (.land, 1) := by decide +kernel
theorem d_CoverFinder_rarestPoint_36 : decode b_CoverFinder_rarestPoint 36 = .ok ((.invokestatic 116), 3) := by decide +kernel
theorem d_CoverFinder_rarestPoint_39 : decode b_CoverFinder_rarestPoint 39 = .ok ((.istore 7), 2) := by decide +kernel
theorem d_CoverFinder_rarestPoint_41 : decode b_CoverFinder_rarestPoint 41 = .ok ((.iload 7), 2) := by decide +kernel
theorem d_CoverFinder_rarestPoint_43 : decode b_CoverFinder_rarestPoint 43 = .ok ((.iload 5), 2) := by decide +kernel
theorem d_CoverFinder_rarestPoint_45 : decode b_CoverFinder_rarestPoint 45 = .ok ((.if_icmp .ge 11), 3) := by decide +kernel
theorem d_CoverFinder_rarestPoint_48 : decode b_CoverFinder_rarestPoint 48 = .ok ((.iload 7), 2) := by decide +kernel
theorem d_CoverFinder_rarestPoint_50 : decode b_CoverFinder_rarestPoint 50 = .ok ((.istore 5), 2) := by decide +kernel
theorem d_CoverFinder_rarestPoint_52 : decode b_CoverFinder_rarestPoint 52 = .ok ((.iload 6), 2) := by decide +kernel
theorem d_CoverFinder_rarestPoint_54 : decode b_CoverFinder_rarestPoint 54 = .ok ((.istore 4), 2) := by decide +kernel
theorem d_CoverFinder_rarestPoint_56 : decode b_CoverFinder_rarestPoint 56 = .ok ((.iinc 6 1), 3) := by decide +kernel
theorem d_CoverFinder_rarestPoint_59 : decode b_CoverFinder_rarestPoint 59 = .ok ((.goto (-49)), 3) := by decide +kernel
theorem d_CoverFinder_rarestPoint_62 : decode b_CoverFinder_rarestPoint 62 = .ok ((.iload 4), 2) := by decide +kernel
theorem d_CoverFinder_rarestPoint_64 : decode b_CoverFinder_rarestPoint 64 = .ok (.ireturn, 1) := by decide +kernel
theorem d_CoverFinder_withoutDominated_0 : decode b_CoverFinder_withoutDominated 0 = .ok ((.lload_n 2), 1) := by decide +kernel
theorem d_CoverFinder_withoutDominated_1 : decode b_CoverFinder_withoutDominated 1 = .ok ((.lstore 4), 2) := by decide +kernel
theorem d_CoverFinder_withoutDominated_3 : decode b_CoverFinder_withoutDominated 3 = .ok ((.iconst 0), 1) := by decide +kernel
theorem d_CoverFinder_withoutDominated_4 : decode b_CoverFinder_withoutDominated 4 = .ok ((.istore 6), 2) := by decide +kernel
theorem d_CoverFinder_withoutDominated_6 : decode b_CoverFinder_withoutDominated 6 = .ok ((.iload 6), 2) := by decide +kernel
theorem d_CoverFinder_withoutDominated_8 : decode b_CoverFinder_withoutDominated 8 = .ok ((.aload_n 0), 1) := by decide +kernel
theorem d_CoverFinder_withoutDominated_9 : decode b_CoverFinder_withoutDominated 9 = .ok ((.getfield 51), 3) := by decide +kernel
theorem d_CoverFinder_withoutDominated_12 : decode b_CoverFinder_withoutDominated 12 = .ok ((.if_icmp .ge 42), 3) := by decide +kernel
theorem d_CoverFinder_withoutDominated_15 : decode b_CoverFinder_withoutDominated 15 = .ok ((.lload_n 2), 1) := by decide +kernel
theorem d_CoverFinder_withoutDominated_16 : decode b_CoverFinder_withoutDominated 16 = .ok ((.iload 6), 2) := by decide +kernel
theorem d_CoverFinder_withoutDominated_18 : decode b_CoverFinder_withoutDominated 18 = .ok ((.invokestatic 92), 3) := by decide +kernel
theorem d_CoverFinder_withoutDominated_21 : decode b_CoverFinder_withoutDominated 21 = .ok ((.ifCond .eq 27), 3) := by decide +kernel
theorem d_CoverFinder_withoutDominated_24 : decode b_CoverFinder_withoutDominated 24 = .ok ((.aload_n 0), 1) := by decide +kernel
theorem d_CoverFinder_withoutDominated_25 : decode b_CoverFinder_withoutDominated 25 = .ok ((.iload 6), 2) := by decide +kernel
theorem d_CoverFinder_withoutDominated_27 : decode b_CoverFinder_withoutDominated 27 = .ok ((.iload_n 1), 1) := by decide +kernel
theorem d_CoverFinder_withoutDominated_28 : decode b_CoverFinder_withoutDominated 28 = .ok ((.lload_n 2), 1) := by decide +kernel
theorem d_CoverFinder_withoutDominated_29 : decode b_CoverFinder_withoutDominated 29 = .ok ((.invokevirtual 130), 3) := by decide +kernel
theorem d_CoverFinder_withoutDominated_32 : decode b_CoverFinder_withoutDominated 32 = .ok ((.ifCond .eq 16), 3) := by decide +kernel
theorem d_CoverFinder_withoutDominated_35 : decode b_CoverFinder_withoutDominated 35 = .ok ((.lload 4), 2) := by decide +kernel
theorem d_CoverFinder_withoutDominated_37 : decode b_CoverFinder_withoutDominated 37 = .ok ((.lconst 1), 1) := by decide +kernel
theorem d_CoverFinder_withoutDominated_38 : decode b_CoverFinder_withoutDominated 38 = .ok ((.iload 6), 2) := by decide +kernel
theorem d_CoverFinder_withoutDominated_40 : decode b_CoverFinder_withoutDominated 40 = .ok (.lshl, 1) := by decide +kernel
theorem d_CoverFinder_withoutDominated_41 : decode b_CoverFinder_withoutDominated 41 = .ok ((.ldc2_w 56), 3) := by decide +kernel
theorem d_CoverFinder_withoutDominated_44 : decode b_CoverFinder_withoutDominated 44 = .ok (.lxor, 1) := by decide +kernel
theorem d_CoverFinder_withoutDominated_45 : decode b_CoverFinder_withoutDominated 45 = .ok (.land, 1) := by decide +kernel
theorem d_CoverFinder_withoutDominated_46 : decode b_CoverFinder_withoutDominated 46 = .ok ((.lstore 4), 2) := by decide +kernel
theorem d_CoverFinder_withoutDominated_48 : decode b_CoverFinder_withoutDominated 48 = .ok ((.iinc 6 1), 3) := by decide +kernel
theorem d_CoverFinder_withoutDominated_51 : decode b_CoverFinder_withoutDominated 51 = .ok ((.goto (-45)), 3) := by decide +kernel
theorem d_CoverFinder_withoutDominated_54 : decode b_CoverFinder_withoutDominated 54 = .ok ((.lload 4), 2) := by decide +kernel
theorem d_CoverFinder_withoutDominated_56 : decode b_CoverFinder_withoutDominated 56 = .ok (.lreturn, 1) := by decide +kernel
theorem d_CoverFinder_isDominated_0 : decode b_CoverFinder_isDominated 0 = .ok ((.aload_n 0), 1) := by decide +kernel
theorem d_CoverFinder_isDominated_1 : decode b_CoverFinder_isDominated 1 = .ok ((.getfield 9), 3) := by decide +kernel
theorem d_CoverFinder_isDominated_4 : decode b_CoverFinder_isDominated 4 = .ok ((.iload_n 1), 1) := by decide +kernel
theorem d_CoverFinder_isDominated_5 : decode b_CoverFinder_isDominated 5 = .ok (.iaload, 1) := by decide +kernel
theorem d_CoverFinder_isDominated_6 : decode b_CoverFinder_isDominated 6 = .ok ((.iload_n 2), 1) := by decide +kernel
theorem d_CoverFinder_isDominated_7 : decode b_CoverFinder_isDominated 7 = .ok (.iand, 1) := by decide +kernel
theorem d_CoverFinder_isDominated_8 : decode b_CoverFinder_isDominated 8 = .ok ((.istore 5), 2) := by decide +kernel
theorem d_CoverFinder_isDominated_10 : decode b_CoverFinder_isDominated 10 = .ok ((.iload 5), 2) := by decide +kernel
theorem d_CoverFinder_isDominated_12 : decode b_CoverFinder_isDominated 12 = .ok ((.ifCond .ne 5), 3) := by decide +kernel
theorem d_CoverFinder_isDominated_15 : decode b_CoverFinder_isDominated 15 = .ok ((.iconst 1), 1) := by decide +kernel
theorem d_CoverFinder_isDominated_16 : decode b_CoverFinder_isDominated 16 = .ok (.ireturn, 1) := by decide +kernel
theorem d_CoverFinder_isDominated_17 : decode b_CoverFinder_isDominated 17 = .ok ((.iconst 0), 1) := by decide +kernel
theorem d_CoverFinder_isDominated_18 : decode b_CoverFinder_isDominated 18 = .ok ((.istore 6), 2) := by decide +kernel
theorem d_CoverFinder_isDominated_20 : decode b_CoverFinder_isDominated 20 = .ok ((.iload 6), 2) := by decide +kernel
theorem d_CoverFinder_isDominated_22 : decode b_CoverFinder_isDominated 22 = .ok ((.aload_n 0), 1) := by decide +kernel
theorem d_CoverFinder_isDominated_23 : decode b_CoverFinder_isDominated 23 = .ok ((.getfield 51), 3) := by decide +kernel
theorem d_CoverFinder_isDominated_26 : decode b_CoverFinder_isDominated 26 = .ok ((.if_icmp .ge 52), 3) := by decide +kernel
theorem d_CoverFinder_isDominated_29 : decode b_CoverFinder_isDominated 29 = .ok ((.lload_n 3), 1) := by decide +kernel
theorem d_CoverFinder_isDominated_30 : decode b_CoverFinder_isDominated 30 = .ok ((.iload 6), 2) := by decide +kernel
theorem d_CoverFinder_isDominated_32 : decode b_CoverFinder_isDominated 32 = .ok ((.invokestatic 92), 3) := by decide +kernel
theorem d_CoverFinder_isDominated_35 : decode b_CoverFinder_isDominated 35 = .ok ((.ifCond .eq 37), 3) := by decide +kernel
theorem d_CoverFinder_isDominated_38 : decode b_CoverFinder_isDominated 38 = .ok ((.aload_n 0), 1) := by decide +kernel
theorem d_CoverFinder_isDominated_39 : decode b_CoverFinder_isDominated 39 = .ok ((.getfield 18), 3) := by decide +kernel
theorem d_CoverFinder_isDominated_42 : decode b_CoverFinder_isDominated 42 = .ok ((.iload 6), 2) := by decide +kernel
theorem d_CoverFinder_isDominated_44 : decode b_CoverFinder_isDominated 44 = .ok (.laload, 1) := by decide +kernel
theorem d_CoverFinder_isDominated_45 : decode b_CoverFinder_isDominated 45 = .ok ((.aload_n 0), 1) := by decide +kernel
theorem d_CoverFinder_isDominated_46 : decode b_CoverFinder_isDominated 46 = .ok ((.getfield 18), 3) := by decide +kernel
theorem d_CoverFinder_isDominated_49 : decode b_CoverFinder_isDominated 49 = .ok ((.iload_n 1), 1) := by decide +kernel
theorem d_CoverFinder_isDominated_50 : decode b_CoverFinder_isDominated 50 = .ok (.laload, 1) := by decide +kernel
theorem d_CoverFinder_isDominated_51 : decode b_CoverFinder_isDominated 51 = .ok (.lcmp, 1) := by decide +kernel
theorem d_CoverFinder_isDominated_52 : decode b_CoverFinder_isDominated 52 = .ok ((.ifCond .ge 20), 3) := by decide +kernel
theorem d_CoverFinder_isDominated_55 : decode b_CoverFinder_isDominated 55 = .ok ((.iload 5), 2) := by decide +kernel
theorem d_CoverFinder_isDominated_57 : decode b_CoverFinder_isDominated 57 = .ok ((.aload_n 0), 1) := by decide +kernel
theorem d_CoverFinder_isDominated_58 : decode b_CoverFinder_isDominated 58 = .ok ((.getfield 9), 3) := by decide +kernel
theorem d_CoverFinder_isDominated_61 : decode b_CoverFinder_isDominated 61 = .ok ((.iload 6), 2) := by decide +kernel
theorem d_CoverFinder_isDominated_63 : decode b_CoverFinder_isDominated 63 = .ok (.iaload, 1) := by decide +kernel
theorem d_CoverFinder_isDominated_64 : decode b_CoverFinder_isDominated 64 = .ok ((.iconst (-1)), 1) := by decide +kernel
theorem d_CoverFinder_isDominated_65 : decode b_CoverFinder_isDominated 65 = .ok (.ixor, 1) := by decide +kernel
theorem d_CoverFinder_isDominated_66 : decode b_CoverFinder_isDominated 66 = .ok (.iand, 1) := by decide +kernel
theorem d_CoverFinder_isDominated_67 : decode b_CoverFinder_isDominated 67 = .ok ((.ifCond .ne 5), 3) := by decide +kernel
theorem d_CoverFinder_isDominated_70 : decode b_CoverFinder_isDominated 70 = .ok ((.iconst 1), 1) := by decide +kernel
theorem d_CoverFinder_isDominated_71 : decode b_CoverFinder_isDominated 71 = .ok (.ireturn, 1) := by decide +kernel
theorem d_CoverFinder_isDominated_72 : decode b_CoverFinder_isDominated 72 = .ok ((.iinc 6 1), 3) := by decide +kernel
theorem d_CoverFinder_isDominated_75 : decode b_CoverFinder_isDominated 75 = .ok ((.goto (-55)), 3) := by decide +kernel
theorem d_CoverFinder_isDominated_78 : decode b_CoverFinder_isDominated 78 = .ok ((.iconst 0), 1) := by decide +kernel
theorem d_CoverFinder_isDominated_79 : decode b_CoverFinder_isDominated 79 = .ok (.ireturn, 1) := by decide +kernel
theorem d_CoverFinder_leastWeight_0 : decode b_CoverFinder_leastWeight 0 = .ok ((.lconst 0), 1) := by decide +kernel
theorem d_CoverFinder_leastWeight_1 : decode b_CoverFinder_leastWeight 1 = .ok ((.lstore 4), 2) := by decide +kernel
theorem d_CoverFinder_leastWeight_3 : decode b_CoverFinder_leastWeight 3 = .ok ((.iload_n 1), 1) := by decide +kernel
theorem d_CoverFinder_leastWeight_4 : decode b_CoverFinder_leastWeight 4 = .ok ((.istore 6), 2) := by decide +kernel
theorem d_CoverFinder_leastWeight_6 : decode b_CoverFinder_leastWeight 6 = .ok ((.iconst 0), 1) := by decide +kernel
theorem d_CoverFinder_leastWeight_7 : decode b_CoverFinder_leastWeight 7 = .ok ((.istore 7), 2) := by decide +kernel
theorem d_CoverFinder_leastWeight_9 : decode b_CoverFinder_leastWeight 9 = .ok ((.iload 7), 2) := by decide +kernel
theorem d_CoverFinder_leastWeight_11 : decode b_CoverFinder_leastWeight 11 = .ok ((.bipush 32), 2) := by decide +kernel
theorem d_CoverFinder_leastWeight_13 : decode b_CoverFinder_leastWeight 13 = .ok ((.if_icmp .ge 109), 3) := by decide +kernel
theorem d_CoverFinder_leastWeight_16 : decode b_CoverFinder_leastWeight 16 = .ok ((.iload 6), 2) := by decide +kernel
theorem d_CoverFinder_leastWeight_18 : decode b_CoverFinder_leastWeight 18 = .ok ((.ifCond .eq 104), 3) := by decide +kernel
theorem d_CoverFinder_leastWeight_21 : decode b_CoverFinder_leastWeight 21 = .ok ((.aload_n 0), 1) := by decide +kernel
theorem d_CoverFinder_leastWeight_22 : decode b_CoverFinder_leastWeight 22 = .ok ((.getfield 22), 3) := by decide +kernel
theorem d_CoverFinder_leastWeight_25 : decode b_CoverFinder_leastWeight 25 = .ok ((.aload_n 0), 1) := by decide +kernel
theorem d_CoverFinder_leastWeight_26 : decode b_CoverFinder_leastWeight 26 = .ok ((.iload 6), 2) := by decide +kernel
theorem d_CoverFinder_leastWeight_28 : decode b_CoverFinder_leastWeight 28 = .ok ((.lload_n 2), 1) := by decide +kernel
theorem d_CoverFinder_leastWeight_29 : decode b_CoverFinder_leastWeight 29 = .ok ((.invokevirtual 112), 3) := by decide +kernel
theorem d_CoverFinder_leastWeight_32 : decode b_CoverFinder_leastWeight 32 = .ok (.laload, 1) := by decide +kernel
theorem d_CoverFinder_leastWeight_33 : decode b_CoverFinder_leastWeight 33 = .ok ((.lload_n 2), 1) := by decide +kernel
theorem d_CoverFinder_leastWeight_34 : decode b_CoverFinder_leastWeight 34 = .ok (.land, 1) := by decide +kernel
theorem d_CoverFinder_leastWeight_35 : decode b_CoverFinder_leastWeight 35 = .ok ((.lstore 8), 2) := by decide +kernel
theorem d_CoverFinder_leastWeight_37 : decode b_CoverFinder_leastWeight 37 = .ok ((.lload 8), 2) := by decide +kernel
theorem d_CoverFinder_leastWeight_39 : decode b_CoverFinder_leastWeight 39 = .ok ((.lconst 0), 1) := by decide +kernel
theorem d_CoverFinder_leastWeight_40 : decode b_CoverFinder_leastWeight 40 = .ok (.lcmp, 1) := by decide +kernel
theorem d_CoverFinder_leastWeight_41 : decode b_CoverFinder_leastWeight 41 = .ok ((.ifCond .ne 7), 3) := by decide +kernel
theorem d_CoverFinder_leastWeight_44 : decode b_CoverFinder_leastWeight 44 = .ok ((.ldc2_w 134), 3) := by decide +kernel
theorem d_CoverFinder_leastWeight_47 : decode b_CoverFinder_leastWeight 47 = .ok (.lreturn, 1) := by decide +kernel
theorem d_CoverFinder_leastWeight_48 : decode b_CoverFinder_leastWeight 48 = .ok ((.ldc2_w 134), 3) := by decide +kernel
theorem d_CoverFinder_leastWeight_51 : decode b_CoverFinder_leastWeight 51 = .ok ((.lstore 10), 2) := by decide +kernel
theorem d_CoverFinder_leastWeight_53 : decode b_CoverFinder_leastWeight 53 = .ok ((.iconst 0), 1) := by decide +kernel
theorem d_CoverFinder_leastWeight_54 : decode b_CoverFinder_leastWeight 54 = .ok ((.istore 12), 2) := by decide +kernel
theorem d_CoverFinder_leastWeight_56 : decode b_CoverFinder_leastWeight 56 = .ok ((.iload 12), 2) := by decide +kernel
theorem d_CoverFinder_leastWeight_58 : decode b_CoverFinder_leastWeight 58 = .ok ((.aload_n 0), 1) := by decide +kernel
theorem d_CoverFinder_leastWeight_59 : decode b_CoverFinder_leastWeight 59 = .ok ((.getfield 51), 3) := by decide +kernel
theorem d_CoverFinder_leastWeight_62 : decode b_CoverFinder_leastWeight 62 = .ok ((.if_icmp .ge 47), 3) := by decide +kernel
theorem d_CoverFinder_leastWeight_65 : decode b_CoverFinder_leastWeight 65 = .ok ((.lload 8), 2) := by decide +kernel
theorem d_CoverFinder_leastWeight_67 : decode b_CoverFinder_leastWeight 67 = .ok ((.iload 12), 2) := by decide +kernel
theorem d_CoverFinder_leastWeight_69 : decode b_CoverFinder_leastWeight 69 = .ok ((.invokestatic 92), 3) := by decide +kernel
theorem d_CoverFinder_leastWeight_72 : decode b_CoverFinder_leastWeight 72 = .ok ((.ifCond .eq 31), 3) := by decide +kernel
theorem d_CoverFinder_leastWeight_75 : decode b_CoverFinder_leastWeight 75 = .ok ((.lload 10), 2) := by decide +kernel
theorem d_CoverFinder_leastWeight_77 : decode b_CoverFinder_leastWeight 77 = .ok ((.aload_n 0), 1) := by decide +kernel
theorem d_CoverFinder_leastWeight_78 : decode b_CoverFinder_leastWeight 78 = .ok ((.getfield 18), 3) := by decide +kernel
theorem d_CoverFinder_leastWeight_81 : decode b_CoverFinder_leastWeight 81 = .ok ((.iload 12), 2) := by decide +kernel
theorem d_CoverFinder_leastWeight_83 : decode b_CoverFinder_leastWeight 83 = .ok (.laload, 1) := by decide +kernel
theorem d_CoverFinder_leastWeight_84 : decode b_CoverFinder_leastWeight 84 = .ok ((.invokestatic 136), 3) := by decide +kernel
theorem d_CoverFinder_leastWeight_87 : decode b_CoverFinder_leastWeight 87 = .ok ((.lstore 10), 2) := by decide +kernel
theorem d_CoverFinder_leastWeight_89 : decode b_CoverFinder_leastWeight 89 = .ok ((.iload 6), 2) := by decide +kernel
theorem d_CoverFinder_leastWeight_91 : decode b_CoverFinder_leastWeight 91 = .ok ((.aload_n 0), 1) := by decide +kernel
theorem d_CoverFinder_leastWeight_92 : decode b_CoverFinder_leastWeight 92 = .ok ((.getfield 9), 3) := by decide +kernel
theorem d_CoverFinder_leastWeight_95 : decode b_CoverFinder_leastWeight 95 = .ok ((.iload 12), 2) := by decide +kernel
theorem d_CoverFinder_leastWeight_97 : decode b_CoverFinder_leastWeight 97 = .ok (.iaload, 1) := by decide +kernel
theorem d_CoverFinder_leastWeight_98 : decode b_CoverFinder_leastWeight 98 = .ok ((.iconst (-1)), 1) := by decide +kernel
theorem d_CoverFinder_leastWeight_99 : decode b_CoverFinder_leastWeight 99 = .ok (.ixor, 1) := by decide +kernel
theorem d_CoverFinder_leastWeight_100 : decode b_CoverFinder_leastWeight 100 = .ok (.iand, 1) := by decide +kernel
theorem d_CoverFinder_leastWeight_101 : decode b_CoverFinder_leastWeight 101 = .ok ((.istore 6), 2) := by decide +kernel
theorem d_CoverFinder_leastWeight_103 : decode b_CoverFinder_leastWeight 103 = .ok ((.iinc 12 1), 3) := by decide +kernel
theorem d_CoverFinder_leastWeight_106 : decode b_CoverFinder_leastWeight 106 = .ok ((.goto (-50)), 3) := by decide +kernel
theorem d_CoverFinder_leastWeight_109 : decode b_CoverFinder_leastWeight 109 = .ok ((.lload 4), 2) := by decide +kernel
theorem d_CoverFinder_leastWeight_111 : decode b_CoverFinder_leastWeight 111 = .ok ((.lload 10), 2) := by decide +kernel
theorem d_CoverFinder_leastWeight_113 : decode b_CoverFinder_leastWeight 113 = .ok (.ladd, 1) := by decide +kernel
theorem d_CoverFinder_leastWeight_114 : decode b_CoverFinder_leastWeight 114 = .ok ((.lstore 4), 2) := by decide +kernel
theorem d_CoverFinder_leastWeight_116 : decode b_CoverFinder_leastWeight 116 = .ok ((.iinc 7 1), 3) := by decide +kernel
theorem d_CoverFinder_leastWeight_119 : decode b_CoverFinder_leastWeight 119 = .ok ((.goto (-110)), 3) := by decide +kernel
theorem d_CoverFinder_leastWeight_122 : decode b_CoverFinder_leastWeight 122 = .ok ((.lload 4), 2) := by decide +kernel
theorem d_CoverFinder_leastWeight_124 : decode b_CoverFinder_leastWeight 124 = .ok (.lreturn, 1) := by decide +kernel
theorem d_CoverFinder_tryHavers_0 : decode b_CoverFinder_tryHavers 0 = .ok ((.lload 4), 2) := by decide +kernel
theorem d_CoverFinder_tryHavers_2 : decode b_CoverFinder_tryHavers 2 = .ok ((.lstore 11), 2) := by decide +kernel
theorem d_CoverFinder_tryHavers_4 : decode b_CoverFinder_tryHavers 4 = .ok ((.iconst 0), 1) := by decide +kernel
theorem d_CoverFinder_tryHavers_5 : decode b_CoverFinder_tryHavers 5 = .ok ((.istore 13), 2) := by decide +kernel
theorem d_CoverFinder_tryHavers_7 : decode b_CoverFinder_tryHavers 7 = .ok ((.iload 13), 2) := by decide +kernel
theorem d_CoverFinder_tryHavers_9 : decode b_CoverFinder_tryHavers 9 = .ok ((.aload_n 0), 1) := by decide +kernel
theorem d_CoverFinder_tryHavers_10 : decode b_CoverFinder_tryHavers 10 = .ok ((.getfield 51), 3) := by decide +kernel
theorem d_CoverFinder_tryHavers_13 : decode b_CoverFinder_tryHavers 13 = .ok ((.if_icmp .ge 69), 3) := by decide +kernel
theorem d_CoverFinder_tryHavers_16 : decode b_CoverFinder_tryHavers 16 = .ok ((.lload_n 1), 1) := by decide +kernel
theorem d_CoverFinder_tryHavers_17 : decode b_CoverFinder_tryHavers 17 = .ok ((.iload 13), 2) := by decide +kernel
theorem d_CoverFinder_tryHavers_19 : decode b_CoverFinder_tryHavers 19 = .ok ((.invokestatic 92), 3) := by decide +kernel
theorem d_CoverFinder_tryHavers_22 : decode b_CoverFinder_tryHavers 22 = .ok ((.ifCond .eq 54), 3) := by decide +kernel
theorem d_CoverFinder_tryHavers_25 : decode b_CoverFinder_tryHavers 25 = .ok ((.aload_n 0), 1) := by decide +kernel
theorem d_CoverFinder_tryHavers_26 : decode b_CoverFinder_tryHavers 26 = .ok ((.iload_n 3), 1) := by decide +kernel
theorem d_CoverFinder_tryHavers_27 : decode b_CoverFinder_tryHavers 27 = .ok ((.aload_n 0), 1) := by decide +kernel
theorem d_CoverFinder_tryHavers_28 : decode b_CoverFinder_tryHavers 28 = .ok ((.getfield 9), 3) := by decide +kernel
theorem d_CoverFinder_tryHavers_31 : decode b_CoverFinder_tryHavers 31 = .ok ((.iload 13), 2) := by decide +kernel
theorem d_CoverFinder_tryHavers_33 : decode b_CoverFinder_tryHavers 33 = .ok (.iaload, 1) := by decide +kernel
theorem d_CoverFinder_tryHavers_34 : decode b_CoverFinder_tryHavers 34 = .ok ((.iconst (-1)), 1) := by decide +kernel
theorem d_CoverFinder_tryHavers_35 : decode b_CoverFinder_tryHavers 35 = .ok (.ixor, 1) := by decide +kernel
theorem d_CoverFinder_tryHavers_36 : decode b_CoverFinder_tryHavers 36 = .ok (.iand, 1) := by decide +kernel
theorem d_CoverFinder_tryHavers_37 : decode b_CoverFinder_tryHavers 37 = .ok ((.lload 11), 2) := by decide +kernel
theorem d_CoverFinder_tryHavers_39 : decode b_CoverFinder_tryHavers 39 = .ok ((.lload 6), 2) := by decide +kernel
theorem d_CoverFinder_tryHavers_41 : decode b_CoverFinder_tryHavers 41 = .ok ((.lconst 1), 1) := by decide +kernel
theorem d_CoverFinder_tryHavers_42 : decode b_CoverFinder_tryHavers 42 = .ok ((.iload 13), 2) := by decide +kernel
theorem d_CoverFinder_tryHavers_44 : decode b_CoverFinder_tryHavers 44 = .ok (.lshl, 1) := by decide +kernel
theorem d_CoverFinder_tryHavers_45 : decode b_CoverFinder_tryHavers 45 = .ok (.lor, 1) := by decide +kernel
theorem d_CoverFinder_tryHavers_46 : decode b_CoverFinder_tryHavers 46 = .ok ((.lload 8), 2) := by decide +kernel
theorem d_CoverFinder_tryHavers_48 : decode b_CoverFinder_tryHavers 48 = .ok ((.aload_n 0), 1) := by decide +kernel
theorem d_CoverFinder_tryHavers_49 : decode b_CoverFinder_tryHavers 49 = .ok ((.getfield 18), 3) := by decide +kernel
theorem d_CoverFinder_tryHavers_52 : decode b_CoverFinder_tryHavers 52 = .ok ((.iload 13), 2) := by decide +kernel
theorem d_CoverFinder_tryHavers_54 : decode b_CoverFinder_tryHavers 54 = .ok (.laload, 1) := by decide +kernel
theorem d_CoverFinder_tryHavers_55 : decode b_CoverFinder_tryHavers 55 = .ok (.ladd, 1) := by decide +kernel
theorem d_CoverFinder_tryHavers_56 : decode b_CoverFinder_tryHavers 56 = .ok ((.iload 10), 2) := by decide +kernel
theorem d_CoverFinder_tryHavers_58 : decode b_CoverFinder_tryHavers 58 = .ok ((.iconst 1), 1) := by decide +kernel
theorem d_CoverFinder_tryHavers_59 : decode b_CoverFinder_tryHavers 59 = .ok (.iadd, 1) := by decide +kernel
theorem d_CoverFinder_tryHavers_60 : decode b_CoverFinder_tryHavers 60 = .ok ((.invokevirtual 61), 3) := by decide +kernel
theorem d_CoverFinder_tryHavers_63 : decode b_CoverFinder_tryHavers 63 = .ok ((.lload 11), 2) := by decide +kernel
theorem d_CoverFinder_tryHavers_65 : decode b_CoverFinder_tryHavers 65 = .ok ((.lconst 1), 1) := by decide +kernel
theorem d_CoverFinder_tryHavers_66 : decode b_CoverFinder_tryHavers 66 = .ok ((.iload 13), 2) := by decide +kernel
theorem d_CoverFinder_tryHavers_68 : decode b_CoverFinder_tryHavers 68 = .ok (.lshl, 1) := by decide +kernel
theorem d_CoverFinder_tryHavers_69 : decode b_CoverFinder_tryHavers 69 = .ok ((.ldc2_w 56), 3) := by decide +kernel
theorem d_CoverFinder_tryHavers_72 : decode b_CoverFinder_tryHavers 72 = .ok (.lxor, 1) := by decide +kernel
theorem d_CoverFinder_tryHavers_73 : decode b_CoverFinder_tryHavers 73 = .ok (.land, 1) := by decide +kernel
theorem d_CoverFinder_tryHavers_74 : decode b_CoverFinder_tryHavers 74 = .ok ((.lstore 11), 2) := by decide +kernel
theorem d_CoverFinder_tryHavers_76 : decode b_CoverFinder_tryHavers 76 = .ok ((.iinc 13 1), 3) := by decide +kernel
theorem d_CoverFinder_tryHavers_79 : decode b_CoverFinder_tryHavers 79 = .ok ((.goto (-72)), 3) := by decide +kernel
theorem d_CoverFinder_tryHavers_82 : decode b_CoverFinder_tryHavers 82 = .ok (.return_, 1) := by decide +kernel
theorem d_CoverFinder_found_0 : decode b_CoverFinder_found 0 = .ok ((.aload_n 0), 1) := by decide +kernel
theorem d_CoverFinder_found_1 : decode b_CoverFinder_found 1 = .ok ((.getfield 32), 3) := by decide +kernel
theorem d_CoverFinder_found_4 : decode b_CoverFinder_found 4 = .ok (.lreturn, 1) := by decide +kernel
