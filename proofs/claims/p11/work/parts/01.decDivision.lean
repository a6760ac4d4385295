theorem d_Division_init_0 : decode b_Division_init 0 = .ok ((.aload_n 0), 1) := by decide +kernel
theorem d_Division_init_1 : decode b_Division_init 1 = .ok ((.invokespecial 3), 3) := by decide +kernel
theorem d_Division_init_4 : decode b_Division_init 4 = .ok ((.aload_n 0), 1) := by decide +kernel
theorem d_Division_init_5 : decode b_Division_init 5 = .ok ((.bipush 81), 2) := by decide +kernel
theorem d_Division_init_7 : decode b_Division_init 7 = .ok ((.newarray .long), 2) := by decide +kernel
theorem d_Division_init_9 : decode b_Division_init 9 = .ok ((.putfield 9), 3) := by decide +kernel
theorem d_Division_init_12 : decode b_Division_init 12 = .ok ((.aload_n 0), 1) := by decide +kernel
theorem d_Division_init_13 : decode b_Division_init 13 = .ok ((.bipush 81), 2) := by decide +kernel
theorem d_Division_init_15 : decode b_Division_init 15 = .ok ((.newarray .long), 2) := by decide +kernel
theorem d_Division_init_17 : decode b_Division_init 17 = .ok ((.putfield 15), 3) := by decide +kernel
theorem d_Division_init_20 : decode b_Division_init 20 = .ok ((.aload_n 0), 1) := by decide +kernel
theorem d_Division_init_21 : decode b_Division_init 21 = .ok ((.bipush 81), 2) := by decide +kernel
theorem d_Division_init_23 : decode b_Division_init 23 = .ok ((.newarray .int), 2) := by decide +kernel
theorem d_Division_init_25 : decode b_Division_init 25 = .ok ((.putfield 18), 3) := by decide +kernel
theorem d_Division_init_28 : decode b_Division_init 28 = .ok ((.aload_n 0), 1) := by decide +kernel
theorem d_Division_init_29 : decode b_Division_init 29 = .ok ((.aload_n 1), 1) := by decide +kernel
theorem d_Division_init_30 : decode b_Division_init 30 = .ok ((.putfield 22), 3) := by decide +kernel
theorem d_Division_init_33 : decode b_Division_init 33 = .ok ((.aload_n 0), 1) := by decide +kernel
theorem d_Division_init_34 : decode b_Division_init 34 = .ok ((.iconst 0), 1) := by decide +kernel
theorem d_Division_init_35 : decode b_Division_init 35 = .ok ((.putfield 26), 3) := by decide +kernel
theorem d_Division_init_38 : decode b_Division_init 38 = .ok (.return_, 1) := by decide +kernel
theorem d_Division_forget_0 : decode b_Division_forget 0 = .ok ((.aload_n 0), 1) := by decide +kernel
theorem d_Division_forget_1 : decode b_Division_forget 1 = .ok ((.iconst 0), 1) := by decide +kernel
theorem d_Division_forget_2 : decode b_Division_forget 2 = .ok ((.putfield 26), 3) := by decide +kernel
theorem d_Division_forget_5 : decode b_Division_forget 5 = .ok (.return_, 1) := by decide +kernel
theorem d_Division_countKernels_0 : decode b_Division_countKernels 0 = .ok ((.iconst 0), 1) := by decide +kernel
theorem d_Division_countKernels_1 : decode b_Division_countKernels 1 = .ok ((.istore_n 2), 1) := by decide +kernel
theorem d_Division_countKernels_2 : decode b_Division_countKernels 2 = .ok ((.iconst 0), 1) := by decide +kernel
theorem d_Division_countKernels_3 : decode b_Division_countKernels 3 = .ok ((.istore_n 3), 1) := by decide +kernel
theorem d_Division_countKernels_4 : decode b_Division_countKernels 4 = .ok ((.iload_n 3), 1) := by decide +kernel
theorem d_Division_countKernels_5 : decode b_Division_countKernels 5 = .ok ((.aload_n 0), 1) := by decide +kernel
theorem d_Division_countKernels_6 : decode b_Division_countKernels 6 = .ok ((.getfield 22), 3) := by decide +kernel
theorem d_Division_countKernels_9 : decode b_Division_countKernels 9 = .ok ((.invokevirtual 58), 3) := by decide +kernel
theorem d_Division_countKernels_12 : decode b_Division_countKernels 12 = .ok ((.if_icmp .ge 53), 3) := by decide +kernel
theorem d_Division_countKernels_15 : decode b_Division_countKernels 15 = .ok ((.aload_n 0), 1) := by decide +kernel
theorem d_Division_countKernels_16 : decode b_Division_countKernels 16 = .ok ((.aload_n 1), 1) := by decide +kernel
theorem d_Division_countKernels_17 : decode b_Division_countKernels 17 = .ok ((.iload_n 3), 1) := by decide +kernel
theorem d_Division_countKernels_18 : decode b_Division_countKernels 18 = .ok ((.invokevirtual 43), 3) := by decide +kernel
theorem d_Division_countKernels_21 : decode b_Division_countKernels 21 = .ok ((.aload_n 0), 1) := by decide +kernel
theorem d_Division_countKernels_22 : decode b_Division_countKernels 22 = .ok ((.invokevirtual 63), 3) := by decide +kernel
theorem d_Division_countKernels_25 : decode b_Division_countKernels 25 = .ok ((.ifCond .eq 34), 3) := by decide +kernel
theorem d_Division_countKernels_28 : decode b_Division_countKernels 28 = .ok ((.aload_n 0), 1) := by decide +kernel
theorem d_Division_countKernels_29 : decode b_Division_countKernels 29 = .ok ((.iload_n 2), 1) := by decide +kernel
theorem d_Division_countKernels_30 : decode b_Division_countKernels 30 = .ok ((.invokevirtual 67), 3) := by decide +kernel
theorem d_Division_countKernels_33 : decode b_Division_countKernels 33 = .ok ((.ifCond .ne 26), 3) := by decide +kernel
theorem d_Division_countKernels_36 : decode b_Division_countKernels 36 = .ok ((.aload_n 0), 1) := by decide +kernel
theorem d_Division_countKernels_37 : decode b_Division_countKernels 37 = .ok ((.getfield 9), 3) := by decide +kernel
theorem d_Division_countKernels_40 : decode b_Division_countKernels 40 = .ok ((.iload_n 2), 1) := by decide +kernel
theorem d_Division_countKernels_41 : decode b_Division_countKernels 41 = .ok ((.aload_n 0), 1) := by decide +kernel
theorem d_Division_countKernels_42 : decode b_Division_countKernels 42 = .ok ((.getfield 47), 3) := by decide +kernel
theorem d_Division_countKernels_45 : decode b_Division_countKernels 45 = .ok (.lastore, 1) := by decide +kernel
theorem d_Division_countKernels_46 : decode b_Division_countKernels 46 = .ok ((.aload_n 0), 1) := by decide +kernel
theorem d_Division_countKernels_47 : decode b_Division_countKernels 47 = .ok ((.getfield 15), 3) := by decide +kernel
theorem d_Division_countKernels_50 : decode b_Division_countKernels 50 = .ok ((.iload_n 2), 1) := by decide +kernel
theorem d_Division_countKernels_51 : decode b_Division_countKernels 51 = .ok ((.aload_n 0), 1) := by decide +kernel
theorem d_Division_countKernels_52 : decode b_Division_countKernels 52 = .ok ((.getfield 51), 3) := by decide +kernel
theorem d_Division_countKernels_55 : decode b_Division_countKernels 55 = .ok (.lastore, 1) := by decide +kernel
theorem d_Division_countKernels_56 : decode b_Division_countKernels 56 = .ok ((.iinc 2 1), 3) := by decide +kernel
theorem d_Division_countKernels_59 : decode b_Division_countKernels 59 = .ok ((.iinc 3 1), 3) := by decide +kernel
theorem d_Division_countKernels_62 : decode b_Division_countKernels 62 = .ok ((.goto (-58)), 3) := by decide +kernel
theorem d_Division_countKernels_65 : decode b_Division_countKernels 65 = .ok ((.iload_n 2), 1) := by decide +kernel
theorem d_Division_countKernels_66 : decode b_Division_countKernels 66 = .ok (.ireturn, 1) := by decide +kernel
theorem d_Division_divideBy_0 : decode b_Division_divideBy 0 = .ok ((.aload_n 0), 1) := by decide +kernel
theorem d_Division_divideBy_1 : decode b_Division_divideBy 1 = .ok ((.getfield 22), 3) := by decide +kernel
theorem d_Division_divideBy_4 : decode b_Division_divideBy 4 = .ok ((.iload_n 2), 1) := by decide +kernel
theorem d_Division_divideBy_5 : decode b_Division_divideBy 5 = .ok ((.invokevirtual 81), 3) := by decide +kernel
theorem d_Division_divideBy_8 : decode b_Division_divideBy 8 = .ok ((.istore_n 3), 1) := by decide +kernel
theorem d_Division_divideBy_9 : decode b_Division_divideBy 9 = .ok ((.aload_n 0), 1) := by decide +kernel
theorem d_Division_divideBy_10 : decode b_Division_divideBy 10 = .ok ((.lconst 0), 1) := by decide +kernel
theorem d_Division_divideBy_11 : decode b_Division_divideBy 11 = .ok ((.putfield 47), 3) := by decide +kernel
theorem d_Division_divideBy_14 : decode b_Division_divideBy 14 = .ok ((.aload_n 0), 1) := by decide +kernel
theorem d_Division_divideBy_15 : decode b_Division_divideBy 15 = .ok ((.lconst 0), 1) := by decide +kernel
theorem d_Division_divideBy_16 : decode b_Division_divideBy 16 = .ok ((.putfield 51), 3) := by decide +kernel
theorem d_Division_divideBy_19 : decode b_Division_divideBy 19 = .ok ((.aload_n 0), 1) := by decide +kernel
theorem d_Division_divideBy_20 : decode b_Division_divideBy 20 = .ok ((.iconst (-1)), 1) := by decide +kernel
theorem d_Division_divideBy_21 : decode b_Division_divideBy 21 = .ok ((.putfield 75), 3) := by decide +kernel
theorem d_Division_divideBy_24 : decode b_Division_divideBy 24 = .ok ((.aload_n 0), 1) := by decide +kernel
theorem d_Division_divideBy_25 : decode b_Division_divideBy 25 = .ok ((.iconst (-1)), 1) := by decide +kernel
theorem d_Division_divideBy_26 : decode b_Division_divideBy 26 = .ok ((.putfield 78), 3) := by decide +kernel
theorem d_Division_divideBy_29 : decode b_Division_divideBy 29 = .ok ((.iconst 0), 1) := by decide +kernel
theorem d_Division_divideBy_30 : decode b_Division_divideBy 30 = .ok ((.istore 4), 2) := by decide +kernel
theorem d_Division_divideBy_32 : decode b_Division_divideBy 32 = .ok ((.iload 4), 2) := by decide +kernel
theorem d_Division_divideBy_34 : decode b_Division_divideBy 34 = .ok ((.aload_n 1), 1) := by decide +kernel
theorem d_Division_divideBy_35 : decode b_Division_divideBy 35 = .ok ((.invokevirtual 32), 3) := by decide +kernel
theorem d_Division_divideBy_38 : decode b_Division_divideBy 38 = .ok ((.if_icmp .ge 84), 3) := by decide +kernel
theorem d_Division_divideBy_41 : decode b_Division_divideBy 41 = .ok ((.aload_n 1), 1) := by decide +kernel
theorem d_Division_divideBy_42 : decode b_Division_divideBy 42 = .ok ((.iload 4), 2) := by decide +kernel
theorem d_Division_divideBy_44 : decode b_Division_divideBy 44 = .ok ((.invokevirtual 39), 3) := by decide +kernel
theorem d_Division_divideBy_47 : decode b_Division_divideBy 47 = .ok ((.istore 5), 2) := by decide +kernel
theorem d_Division_divideBy_49 : decode b_Division_divideBy 49 = .ok ((.aload_n 0), 1) := by decide +kernel
theorem d_Division_divideBy_50 : decode b_Division_divideBy 50 = .ok ((.getfield 22), 3) := by decide +kernel
theorem d_Division_divideBy_53 : decode b_Division_divideBy 53 = .ok ((.iload 5), 2) := by decide +kernel
theorem d_Division_divideBy_55 : decode b_Division_divideBy 55 = .ok ((.invokevirtual 81), 3) := by decide +kernel
theorem d_Division_divideBy_58 : decode b_Division_divideBy 58 = .ok ((.iload_n 3), 1) := by decide +kernel
theorem d_Division_divideBy_59 : decode b_Division_divideBy 59 = .ok (.iand, 1) := by decide +kernel
theorem d_Division_divideBy_60 : decode b_Division_divideBy 60 = .ok ((.iload_n 3), 1) := by decide +kernel
theorem d_Division_divideBy_61 : decode b_Division_divideBy 61 = .ok ((.if_icmp .ne 55), 3) := by decide +kernel
theorem d_Division_divideBy_64 : decode b_Division_divideBy 64 = .ok ((.aload_n 0), 1) := by decide +kernel
theorem d_Division_divideBy_65 : decode b_Division_divideBy 65 = .ok ((.getfield 22), 3) := by decide +kernel
theorem d_Division_divideBy_68 : decode b_Division_divideBy 68 = .ok ((.iload 5), 2) := by decide +kernel
theorem d_Division_divideBy_70 : decode b_Division_divideBy 70 = .ok ((.invokevirtual 84), 3) := by decide +kernel
theorem d_Division_divideBy_73 : decode b_Division_divideBy 73 = .ok ((.iload_n 3), 1) := by decide +kernel
theorem d_Division_divideBy_74 : decode b_Division_divideBy 74 = .ok (.iand, 1) := by decide +kernel
theorem d_Division_divideBy_75 : decode b_Division_divideBy 75 = .ok ((.aload_n 0), 1) := by decide +kernel
theorem d_Division_divideBy_76 : decode b_Division_divideBy 76 = .ok ((.getfield 22), 3) := by decide +kernel
theorem d_Division_divideBy_79 : decode b_Division_divideBy 79 = .ok ((.iload_n 2), 1) := by decide +kernel
theorem d_Division_divideBy_80 : decode b_Division_divideBy 80 = .ok ((.invokevirtual 84), 3) := by decide +kernel
theorem d_Division_divideBy_83 : decode b_Division_divideBy 83 = .ok ((.if_icmp .ne 33), 3) := by decide +kernel
theorem d_Division_divideBy_86 : decode b_Division_divideBy 86 = .ok ((.aload_n 0), 1) := by decide +kernel
theorem d_Division_divideBy_87 : decode b_Division_divideBy 87 = .ok ((.aload_n 0), 1) := by decide +kernel
theorem d_Division_divideBy_88 : decode b_Division_divideBy 88 = .ok ((.getfield 22), 3) := by decide +kernel
theorem d_Division_divideBy_91 : decode b_Division_divideBy 91 = .ok ((.iload 5), 2) := by decide +kernel
theorem d_Division_divideBy_93 : decode b_Division_divideBy 93 = .ok ((.invokevirtual 81), 3) := by decide +kernel
theorem d_Division_divideBy_96 : decode b_Division_divideBy 96 = .ok ((.iload_n 3), 1) := by decide +kernel
theorem d_Division_divideBy_97 : decode b_Division_divideBy 97 = .ok ((.iconst (-1)), 1) := by decide +kernel
theorem d_Division_divideBy_98 : decode b_Division_divideBy 98 = .ok (.ixor, 1) := by decide +kernel
theorem d_Division_divideBy_99 : decode b_Division_divideBy 99 = .ok (.iand, 1) := by decide +kernel
theorem d_Division_divideBy_100 : decode b_Division_divideBy 100 = .ok ((.aload_n 0), 1) := by decide +kernel
theorem d_Division_divideBy_101 : decode b_Division_divideBy 101 = .ok ((.getfield 22), 3) := by decide +kernel
theorem d_Division_divideBy_104 : decode b_Division_divideBy 104 = .ok ((.iload 5), 2) := by decide +kernel
theorem d_Division_divideBy_106 : decode b_Division_divideBy 106 = .ok ((.invokevirtual 84), 3) := by decide +kernel
theorem d_Division_divideBy_109 : decode b_Division_divideBy 109 = .ok ((.iload_n 3), 1) := by decide +kernel
theorem d_Division_divideBy_110 : decode b_Division_divideBy 110 = .ok ((.iconst (-1)), 1) := by decide +kernel
theorem d_Division_divideBy_111 : decode b_Division_divideBy 111 = .ok (.ixor, 1) := by decide +kernel
theorem d_Division_divideBy_112 : decode b_Division_divideBy 112 = .ok (.iand, 1) := by decide +kernel
theorem d_Division_divideBy_113 : decode b_Division_divideBy 113 = .ok ((.invokevirtual 87), 3) := by decide +kernel
theorem d_Division_divideBy_116 : decode b_Division_divideBy 116 = .ok ((.iinc 4 1), 3) := by decide +kernel
theorem d_Division_divideBy_119 : decode b_Division_divideBy 119 = .ok ((.goto (-87)), 3) := by decide +kernel
theorem d_Division_divideBy_122 : decode b_Division_divideBy 122 = .ok (.return_, 1) := by decide +kernel
theorem d_Division_addProduct_0 : decode b_Division_addProduct 0 = .ok ((.aload_n 0), 1) := by decide +kernel
theorem d_Division_addProduct_1 : decode b_Division_addProduct 1 = .ok ((.getfield 22), 3) := by decide +kernel
theorem d_Division_addProduct_4 : decode b_Division_addProduct 4 = .ok ((.iload_n 1), 1) := by decide +kernel
theorem d_Division_addProduct_5 : decode b_Division_addProduct 5 = .ok ((.iload_n 2), 1) := by decide +kernel
theorem d_Division_addProduct_6 : decode b_Division_addProduct 6 = .ok ((.invokevirtual 91), 3) := by decide +kernel
theorem d_Division_addProduct_9 : decode b_Division_addProduct 9 = .ok ((.istore_n 3), 1) := by decide +kernel
theorem d_Division_addProduct_10 : decode b_Division_addProduct 10 = .ok ((.iload_n 3), 1) := by decide +kernel
theorem d_Division_addProduct_11 : decode b_Division_addProduct 11 = .ok ((.bipush 64), 2) := by decide +kernel
theorem d_Division_addProduct_13 : decode b_Division_addProduct 13 = .ok ((.if_icmp .ge 18), 3) := by decide +kernel
theorem d_Division_addProduct_16 : decode b_Division_addProduct 16 = .ok ((.aload_n 0), 1) := by decide +kernel
theorem d_Division_addProduct_17 : decode b_Division_addProduct 17 = .ok (.dup, 1) := by decide +kernel
theorem d_Division_addProduct_18 : decode b_Division_addProduct 18 = .ok ((.getfield 47), 3) := by decide +kernel
theorem d_Division_addProduct_21 : decode b_Division_addProduct 21 = .ok ((.lconst 1), 1) := by decide +kernel
theorem d_Division_addProduct_22 : decode b_Division_addProduct 22 = .ok ((.iload_n 3), 1) := by decide +kernel
theorem d_Division_addProduct_23 : decode b_Division_addProduct 23 = .ok (.lshl, 1) := by decide +kernel
theorem d_Division_addProduct_24 : decode b_Division_addProduct 24 = .ok (.lor, 1) := by decide +kernel
theorem d_Division_addProduct_25 : decode b_Division_addProduct 25 = .ok ((.putfield 47), 3) := by decide +kernel
theorem d_Division_addProduct_28 : decode b_Division_addProduct 28 = .ok ((.goto 18), 3) := by decide +kernel
theorem d_Division_addProduct_31 : decode b_Division_addProduct 31 = .ok ((.aload_n 0), 1) := by decide +kernel
theorem d_Division_addProduct_32 : decode b_Division_addProduct 32 = .ok (.dup, 1) := by decide +kernel
theorem d_Division_addProduct_33 : decode b_Division_addProduct 33 = .ok ((.getfield 51), 3) := by decide +kernel
theorem d_Division_addProduct_36 : decode b_Division_addProduct 36 = .ok ((.lconst 1), 1) := by decide +kernel
theorem d_Division_addProduct_37 : decode b_Division_addProduct 37 = .ok ((.iload_n 3), 1) := by decide +kernel
theorem d_Division_addProduct_38 : decode b_Division_addProduct 38 = .ok ((.bipush 64), 2) := by decide +kernel
theorem d_Division_addProduct_40 : decode b_Division_addProduct 40 = .ok (.isub, 1) := by decide +kernel
theorem d_Division_addProduct_41 : decode b_Division_addProduct 41 = .ok (.lshl, 1) := by decide +kernel
theorem d_Division_addProduct_42 : decode b_Division_addProduct 42 = .ok (.lor, 1) := by decide +kernel
theorem d_Division_addProduct_43 : decode b_Division_addProduct 43 = .ok ((.putfield 51), 3) := by decide +kernel
theorem d_Division_addProduct_46 : decode b_Division_addProduct 46 = .ok ((.aload_n 0), 1) := by decide +kernel
theorem d_Division_addProduct_47 : decode b_Division_addProduct 47 = .ok (.dup, 1) := by decide +kernel
theorem d_Division_addProduct_48 : decode b_Division_addProduct 48 = .ok ((.getfield 75), 3) := by decide +kernel
theorem d_Division_addProduct_51 : decode b_Division_addProduct 51 = .ok ((.iload_n 2), 1) := by decide +kernel
theorem d_Division_addProduct_52 : decode b_Division_addProduct 52 = .ok (.iand, 1) := by decide +kernel
theorem d_Division_addProduct_53 : decode b_Division_addProduct 53 = .ok ((.putfield 75), 3) := by decide +kernel
theorem d_Division_addProduct_56 : decode b_Division_addProduct 56 = .ok ((.aload_n 0), 1) := by decide +kernel
theorem d_Division_addProduct_57 : decode b_Division_addProduct 57 = .ok (.dup, 1) := by decide +kernel
theorem d_Division_addProduct_58 : decode b_Division_addProduct 58 = .ok ((.getfield 78), 3) := by decide +kernel
theorem d_Division_addProduct_61 : decode b_Division_addProduct 61 = .ok ((.iload_n 1), 1) := by decide +kernel
theorem d_Division_addProduct_62 : decode b_Division_addProduct 62 = .ok ((.iload_n 2), 1) := by decide +kernel
theorem d_Division_addProduct_63 : decode b_Division_addProduct 63 = .ok ((.iconst (-1)), 1) := by decide +kernel
theorem d_Division_addProduct_64 : decode b_Division_addProduct 64 = .ok (.ixor, 1) := by decide +kernel
theorem d_Division_addProduct_65 : decode b_Division_addProduct 65 = .ok (.iand, 1) := by decide +kernel
theorem d_Division_addProduct_66 : decode b_Division_addProduct 66 = .ok (.iand, 1) := by decide +kernel
theorem d_Division_addProduct_67 : decode b_Division_addProduct 67 = .ok ((.putfield 78), 3) := by decide +kernel
theorem d_Division_addProduct_70 : decode b_Division_addProduct 70 = .ok (.return_, 1) := by decide +kernel
theorem d_Division_isKernel_0 : decode b_Division_isKernel 0 = .ok ((.aload_n 0), 1) := by decide +kernel
theorem d_Division_isKernel_1 : decode b_Division_isKernel 1 = .ok ((.getfield 47), 3) := by decide +kernel
theorem d_Division_isKernel_4 : decode b_Division_isKernel 4 = .ok ((.invokestatic 71), 3) := by decide +kernel
theorem d_Division_isKernel_7 : decode b_Division_isKernel 7 = .ok ((.aload_n 0), 1) := by decide +kernel
theorem d_Division_isKernel_8 : decode b_Division_isKernel 8 = .ok ((.getfield 51), 3) := by decide +kernel
theorem d_Division_isKernel_11 : decode b_Division_isKernel 11 = .ok ((.invokestatic 71), 3) := by decide +kernel
theorem d_Division_isKernel_14 : decode b_Division_isKernel 14 = .ok (.iadd, 1) := by decide +kernel
theorem d_Division_isKernel_15 : decode b_Division_isKernel 15 = .ok ((.iconst 2), 1) := by decide +kernel
theorem d_Division_isKernel_16 : decode b_Division_isKernel 16 = .ok ((.if_icmp .lt 21), 3) := by decide +kernel
theorem d_Division_isKernel_19 : decode b_Division_isKernel 19 = .ok ((.aload_n 0), 1) := by decide +kernel
theorem d_Division_isKernel_20 : decode b_Division_isKernel 20 = .ok ((.getfield 75), 3) := by decide +kernel
theorem d_Division_isKernel_23 : decode b_Division_isKernel 23 = .ok ((.ifCond .ne 14), 3) := by decide +kernel
theorem d_Division_isKernel_26 : decode b_Division_isKernel 26 = .ok ((.aload_n 0), 1) := by decide +kernel
theorem d_Division_isKernel_27 : decode b_Division_isKernel 27 = .ok ((.getfield 78), 3) := by decide +kernel
theorem d_Division_isKernel_30 : decode b_Division_isKernel 30 = .ok ((.ifCond .ne 7), 3) := by decide +kernel
theorem d_Division_isKernel_33 : decode b_Division_isKernel 33 = .ok ((.iconst 1), 1) := by decide +kernel
theorem d_Division_isKernel_34 : decode b_Division_isKernel 34 = .ok ((.goto 4), 3) := by decide +kernel
theorem d_Division_isKernel_37 : decode b_Division_isKernel 37 = .ok ((.iconst 0), 1) := by decide +kernel
theorem d_Division_isKernel_38 : decode b_Division_isKernel 38 = .ok (.ireturn, 1) := by decide +kernel
theorem d_Division_isKnown_0 : decode b_Division_isKnown 0 = .ok ((.iconst 0), 1) := by decide +kernel
theorem d_Division_isKnown_1 : decode b_Division_isKnown 1 = .ok ((.istore_n 2), 1) := by decide +kernel
theorem d_Division_isKnown_2 : decode b_Division_isKnown 2 = .ok ((.iload_n 2), 1) := by decide +kernel
theorem d_Division_isKnown_3 : decode b_Division_isKnown 3 = .ok ((.iload_n 1), 1) := by decide +kernel
theorem d_Division_isKnown_4 : decode b_Division_isKnown 4 = .ok ((.if_icmp .ge 39), 3) := by decide +kernel
theorem d_Division_isKnown_7 : decode b_Division_isKnown 7 = .ok ((.aload_n 0), 1) := by decide +kernel
theorem d_Division_isKnown_8 : decode b_Division_isKnown 8 = .ok ((.getfield 9), 3) := by decide +kernel
theorem d_Division_isKnown_11 : decode b_Division_isKnown 11 = .ok ((.iload_n 2), 1) := by decide +kernel
theorem d_Division_isKnown_12 : decode b_Division_isKnown 12 = .ok (.laload, 1) := by decide +kernel
theorem d_Division_isKnown_13 : decode b_Division_isKnown 13 = .ok ((.aload_n 0), 1) := by decide +kernel
theorem d_Division_isKnown_14 : decode b_Division_isKnown 14 = .ok ((.getfield 47), 3) := by decide +kernel
theorem d_Division_isKnown_17 : decode b_Division_isKnown 17 = .ok (.lcmp, 1) := by decide +kernel
theorem d_Division_isKnown_18 : decode b_Division_isKnown 18 = .ok ((.ifCond .ne 19), 3) := by decide +kernel
theorem d_Division_isKnown_21 : decode b_Division_isKnown 21 = .ok ((.aload_n 0), 1) := by decide +kernel
theorem d_Division_isKnown_22 : decode b_Division_isKnown 22 = .ok ((.getfield 15), 3) := by decide +kernel
theorem d_Division_isKnown_25 : decode b_Division_isKnown 25 = .ok ((.iload_n 2), 1) := by decide +kernel
theorem d_Division_isKnown_26 : decode b_Division_isKnown 26 = .ok (.laload, 1) := by decide +kernel
theorem d_Division_isKnown_27 : decode b_Division_isKnown 27 = .ok ((.aload_n 0), 1) := by decide +kernel
theorem d_Division_isKnown_28 : decode b_Division_isKnown 28 = .ok ((.getfield 51), 3) := by decide +kernel
theorem d_Division_isKnown_31 : decode b_Division_isKnown 31 = .ok (.lcmp, 1) := by decide +kernel
theorem d_Division_isKnown_32 : decode b_Division_isKnown 32 = .ok ((.ifCond .ne 5), 3) := by decide +kernel
theorem d_Division_isKnown_35 : decode b_Division_isKnown 35 = .ok ((.iconst 1), 1) := by decide +kernel
theorem d_Division_isKnown_36 : decode b_Division_isKnown 36 = .ok (.ireturn, 1) := by decide +kernel
theorem d_Division_isKnown_37 : decode b_Division_isKnown 37 = .ok ((.iinc 2 1), 3) := by decide +kernel
theorem d_Division_isKnown_40 : decode b_Division_isKnown 40 = .ok ((.goto (-38)), 3) := by decide +kernel
theorem d_Division_isKnown_43 : decode b_Division_isKnown 43 = .ok ((.iconst 0), 1) := by decide +kernel
theorem d_Division_isKnown_44 : decode b_Division_isKnown 44 = .ok (.ireturn, 1) := by decide +kernel
theorem d_Division_keepQuotient_0 : decode b_Division_keepQuotient 0 = .ok ((.ldc2_w 30), 3) := by decide +kernel
theorem d_Division_keepQuotient_3 : decode b_Division_keepQuotient 3 = .ok ((.lstore_n 3), 1) := by decide +kernel
theorem d_Division_keepQuotient_4 : decode b_Division_keepQuotient 4 = .ok ((.ldc2_w 30), 3) := by decide +kernel
theorem d_Division_keepQuotient_7 : decode b_Division_keepQuotient 7 = .ok ((.lstore 5), 2) := by decide +kernel
theorem d_Division_keepQuotient_9 : decode b_Division_keepQuotient 9 = .ok ((.iconst 0), 1) := by decide +kernel
theorem d_Division_keepQuotient_10 : decode b_Division_keepQuotient 10 = .ok ((.istore 7), 2) := by decide +kernel
theorem d_Division_keepQuotient_12 : decode b_Division_keepQuotient 12 = .ok ((.iload 7), 2) := by decide +kernel
theorem d_Division_keepQuotient_14 : decode b_Division_keepQuotient 14 = .ok ((.aload_n 1), 1) := by decide +kernel
theorem d_Division_keepQuotient_15 : decode b_Division_keepQuotient 15 = .ok ((.invokevirtual 32), 3) := by decide +kernel
theorem d_Division_keepQuotient_18 : decode b_Division_keepQuotient 18 = .ok ((.if_icmp .ge 53), 3) := by decide +kernel
theorem d_Division_keepQuotient_21 : decode b_Division_keepQuotient 21 = .ok ((.iload 7), 2) := by decide +kernel
theorem d_Division_keepQuotient_23 : decode b_Division_keepQuotient 23 = .ok ((.bipush 32), 2) := by decide +kernel
theorem d_Division_keepQuotient_25 : decode b_Division_keepQuotient 25 = .ok ((.if_icmp .ge 40), 3) := by decide +kernel
theorem d_Division_keepQuotient_28 : decode b_Division_keepQuotient 28 = .ok ((.iload_n 2), 1) := by decide +kernel
theorem d_Division_keepQuotient_29 : decode b_Division_keepQuotient 29 = .ok ((.iload 7), 2) := by decide +kernel
theorem d_Division_keepQuotient_31 : decode b_Division_keepQuotient 31 = .ok (.ishr, 1) := by decide +kernel
theorem d_Division_keepQuotient_32 : decode b_Division_keepQuotient 32 = .ok ((.iconst 1), 1) := by decide +kernel
theorem d_Division_keepQuotient_33 : decode b_Division_keepQuotient 33 = .ok (.iand, 1) := by decide +kernel
theorem d_Division_keepQuotient_34 : decode b_Division_keepQuotient 34 = .ok ((.iconst 1), 1) := by decide +kernel
theorem d_Division_keepQuotient_35 : decode b_Division_keepQuotient 35 = .ok ((.if_icmp .ne 30), 3) := by decide +kernel
theorem d_Division_keepQuotient_38 : decode b_Division_keepQuotient 38 = .ok ((.aload_n 0), 1) := by decide +kernel
theorem d_Division_keepQuotient_39 : decode b_Division_keepQuotient 39 = .ok ((.aload_n 1), 1) := by decide +kernel
theorem d_Division_keepQuotient_40 : decode b_Division_keepQuotient 40 = .ok ((.aload_n 1), 1) := by decide +kernel
theorem d_Division_keepQuotient_41 : decode b_Division_keepQuotient 41 = .ok ((.iload 7), 2) := by decide +kernel
theorem d_Division_keepQuotient_43 : decode b_Division_keepQuotient 43 = .ok ((.invokevirtual 39), 3) := by decide +kernel
theorem d_Division_keepQuotient_46 : decode b_Division_keepQuotient 46 = .ok ((.invokevirtual 43), 3) := by decide +kernel
theorem d_Division_keepQuotient_49 : decode b_Division_keepQuotient 49 = .ok ((.lload_n 3), 1) := by decide +kernel
theorem d_Division_keepQuotient_50 : decode b_Division_keepQuotient 50 = .ok ((.aload_n 0), 1) := by decide +kernel
theorem d_Division_keepQuotient_51 : decode b_Division_keepQuotient 51 = .ok ((.getfield 47), 3) := by decide +kernel
theorem d_Division_keepQuotient_54 : decode b_Division_keepQuotient 54 = .ok (.land, 1) := by decide +kernel
theorem d_Division_keepQuotient_55 : decode b_Division_keepQuotient 55 = .ok ((.lstore_n 3), 1) := by decide +kernel
theorem d_Division_keepQuotient_56 : decode b_Division_keepQuotient 56 = .ok ((.lload 5), 2) := by decide +kernel
theorem d_Division_keepQuotient_58 : decode b_Division_keepQuotient 58 = .ok ((.aload_n 0), 1) := by decide +kernel
theorem d_Division_keepQuotient_59 : decode b_Division_keepQuotient 59 = .ok ((.getfield 51), 3) := by decide +kernel
theorem d_Division_keepQuotient_62 : decode b_Division_keepQuotient 62 = .ok (.land, 1) := by decide +kernel
theorem d_Division_keepQuotient_63 : decode b_Division_keepQuotient 63 = .ok ((.lstore 5), 2) := by decide +kernel
theorem d_Division_keepQuotient_65 : decode b_Division_keepQuotient 65 = .ok ((.iinc 7 1), 3) := by decide +kernel
theorem d_Division_keepQuotient_68 : decode b_Division_keepQuotient 68 = .ok ((.goto (-56)), 3) := by decide +kernel
theorem d_Division_keepQuotient_71 : decode b_Division_keepQuotient 71 = .ok ((.aload_n 0), 1) := by decide +kernel
theorem d_Division_keepQuotient_72 : decode b_Division_keepQuotient 72 = .ok ((.lload_n 3), 1) := by decide +kernel
theorem d_Division_keepQuotient_73 : decode b_Division_keepQuotient 73 = .ok ((.lload 5), 2) := by decide +kernel
theorem d_Division_keepQuotient_75 : decode b_Division_keepQuotient 75 = .ok ((.invokevirtual 54), 3) := by decide +kernel
theorem d_Division_keepQuotient_78 : decode b_Division_keepQuotient 78 = .ok ((.aload_n 0), 1) := by decide +kernel
theorem d_Division_keepQuotient_79 : decode b_Division_keepQuotient 79 = .ok ((.getfield 26), 3) := by decide +kernel
theorem d_Division_keepQuotient_82 : decode b_Division_keepQuotient 82 = .ok (.ireturn, 1) := by decide +kernel
theorem d_Division_fillRow_0 : decode b_Division_fillRow 0 = .ok ((.aload_n 0), 1) := by decide +kernel
theorem d_Division_fillRow_1 : decode b_Division_fillRow 1 = .ok ((.iconst 0), 1) := by decide +kernel
theorem d_Division_fillRow_2 : decode b_Division_fillRow 2 = .ok ((.putfield 26), 3) := by decide +kernel
theorem d_Division_fillRow_5 : decode b_Division_fillRow 5 = .ok ((.iconst 0), 1) := by decide +kernel
theorem d_Division_fillRow_6 : decode b_Division_fillRow 6 = .ok ((.istore 5), 2) := by decide +kernel
theorem d_Division_fillRow_8 : decode b_Division_fillRow 8 = .ok ((.iload 5), 2) := by decide +kernel
theorem d_Division_fillRow_10 : decode b_Division_fillRow 10 = .ok ((.aload_n 0), 1) := by decide +kernel
theorem d_Division_fillRow_11 : decode b_Division_fillRow 11 = .ok ((.getfield 22), 3) := by decide +kernel
theorem d_Division_fillRow_14 : decode b_Division_fillRow 14 = .ok ((.invokevirtual 58), 3) := by decide +kernel
theorem d_Division_fillRow_17 : decode b_Division_fillRow 17 = .ok ((.if_icmp .ge 62), 3) := by decide +kernel
theorem d_Division_fillRow_20 : decode b_Division_fillRow 20 = .ok ((.iload 5), 2) := by decide +kernel
theorem d_Division_fillRow_22 : decode b_Division_fillRow 22 = .ok ((.bipush 64), 2) := by decide +kernel
theorem d_Division_fillRow_24 : decode b_Division_fillRow 24 = .ok ((.if_icmp .ge 10), 3) := by decide +kernel
theorem d_Division_fillRow_27 : decode b_Division_fillRow 27 = .ok ((.lload_n 1), 1) := by decide +kernel
theorem d_Division_fillRow_28 : decode b_Division_fillRow 28 = .ok ((.iload 5), 2) := by decide +kernel
theorem d_Division_fillRow_30 : decode b_Division_fillRow 30 = .ok (.lshr, 1) := by decide +kernel
theorem d_Division_fillRow_31 : decode b_Division_fillRow 31 = .ok ((.goto 10), 3) := by decide +kernel
theorem d_Division_fillRow_34 : decode b_Division_fillRow 34 = .ok ((.lload_n 3), 1) := by decide +kernel
theorem d_Division_fillRow_35 : decode b_Division_fillRow 35 = .ok ((.iload 5), 2) := by decide +kernel
theorem d_Division_fillRow_37 : decode b_Division_fillRow 37 = .ok ((.bipush 64), 2) := by decide +kernel
theorem d_Division_fillRow_39 : decode b_Division_fillRow 39 = .ok (.isub, 1) := by decide +kernel
theorem d_Division_fillRow_40 : decode b_Division_fillRow 40 = .ok (.lshr, 1) := by decide +kernel
theorem d_Division_fillRow_41 : decode b_Division_fillRow 41 = .ok ((.lstore 6), 2) := by decide +kernel
theorem d_Division_fillRow_43 : decode b_Division_fillRow 43 = .ok ((.lload 6), 2) := by decide +kernel
theorem d_Division_fillRow_45 : decode b_Division_fillRow 45 = .ok ((.lconst 1), 1) := by decide +kernel
theorem d_Division_fillRow_46 : decode b_Division_fillRow 46 = .ok (.land, 1) := by decide +kernel
theorem d_Division_fillRow_47 : decode b_Division_fillRow 47 = .ok ((.lconst 1), 1) := by decide +kernel
theorem d_Division_fillRow_48 : decode b_Division_fillRow 48 = .ok (.lcmp, 1) := by decide +kernel
theorem d_Division_fillRow_49 : decode b_Division_fillRow 49 = .ok ((.ifCond .ne 24), 3) := by decide +kernel
theorem d_Division_fillRow_52 : decode b_Division_fillRow 52 = .ok ((.aload_n 0), 1) := by decide +kernel
theorem d_Division_fillRow_53 : decode b_Division_fillRow 53 = .ok ((.getfield 18), 3) := by decide +kernel
theorem d_Division_fillRow_56 : decode b_Division_fillRow 56 = .ok ((.aload_n 0), 1) := by decide +kernel
theorem d_Division_fillRow_57 : decode b_Division_fillRow 57 = .ok ((.getfield 26), 3) := by decide +kernel
theorem d_Division_fillRow_60 : decode b_Division_fillRow 60 = .ok ((.iload 5), 2) := by decide +kernel
theorem d_Division_fillRow_62 : decode b_Division_fillRow 62 = .ok (.iastore, 1) := by decide +kernel
theorem d_Division_fillRow_63 : decode b_Division_fillRow 63 = .ok ((.aload_n 0), 1) := by decide +kernel
theorem d_Division_fillRow_64 : decode b_Division_fillRow 64 = .ok (.dup, 1) := by decide +kernel
theorem d_Division_fillRow_65 : decode b_Division_fillRow 65 = .ok ((.getfield 26), 3) := by decide +kernel
theorem d_Division_fillRow_68 : decode b_Division_fillRow 68 = .ok ((.iconst 1), 1) := by decide +kernel
theorem d_Division_fillRow_69 : decode b_Division_fillRow 69 = .ok (.iadd, 1) := by decide +kernel
theorem d_Division_fillRow_70 : decode b_Division_fillRow 70 = .ok ((.putfield 26), 3) := by decide +kernel
theorem d_Division_fillRow_73 : decode b_Division_fillRow 73 = .ok ((.iinc 5 1), 3) := by decide +kernel
theorem d_Division_fillRow_76 : decode b_Division_fillRow 76 = .ok ((.goto (-68)), 3) := by decide +kernel
theorem d_Division_fillRow_79 : decode b_Division_fillRow 79 = .ok (.return_, 1) := by decide +kernel
theorem d_Division_holds_0 : decode b_Division_holds 0 = .ok ((.iload_n 1), 1) := by decide +kernel
theorem d_Division_holds_1 : decode b_Division_holds 1 = .ok ((.ifCond .lt 15), 3) := by decide +kernel
theorem d_Division_holds_4 : decode b_Division_holds 4 = .ok ((.iload_n 1), 1) := by decide +kernel
theorem d_Division_holds_5 : decode b_Division_holds 5 = .ok ((.aload_n 0), 1) := by decide +kernel
theorem d_Division_holds_6 : decode b_Division_holds 6 = .ok ((.getfield 26), 3) := by decide +kernel
theorem d_Division_holds_9 : decode b_Division_holds 9 = .ok ((.if_icmp .ge 7), 3) := by decide +kernel
theorem d_Division_holds_12 : decode b_Division_holds 12 = .ok ((.iconst 1), 1) := by decide +kernel
theorem d_Division_holds_13 : decode b_Division_holds 13 = .ok ((.goto 4), 3) := by decide +kernel
theorem d_Division_holds_16 : decode b_Division_holds 16 = .ok ((.iconst 0), 1) := by decide +kernel
theorem d_Division_holds_17 : decode b_Division_holds 17 = .ok (.ireturn, 1) := by decide +kernel
theorem d_Division_product_0 : decode b_Division_product 0 = .ok ((.aload_n 0), 1) := by decide +kernel
theorem d_Division_product_1 : decode b_Division_product 1 = .ok ((.getfield 18), 3) := by decide +kernel
theorem d_Division_product_4 : decode b_Division_product 4 = .ok ((.iload_n 1), 1) := by decide +kernel
theorem d_Division_product_5 : decode b_Division_product 5 = .ok (.iaload, 1) := by decide +kernel
theorem d_Division_product_6 : decode b_Division_product 6 = .ok (.ireturn, 1) := by decide +kernel
