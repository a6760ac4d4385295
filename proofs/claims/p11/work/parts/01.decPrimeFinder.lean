theorem d_PrimeFinder_init_0 : decode b_PrimeFinder_init 0 = .ok ((.aload_n 0), 1) := by decide +kernel
theorem d_PrimeFinder_init_1 : decode b_PrimeFinder_init 1 = .ok ((.invokespecial 3), 3) := by decide +kernel
theorem d_PrimeFinder_init_4 : decode b_PrimeFinder_init 4 = .ok ((.aload_n 0), 1) := by decide +kernel
theorem d_PrimeFinder_init_5 : decode b_PrimeFinder_init 5 = .ok ((.bipush 81), 2) := by decide +kernel
theorem d_PrimeFinder_init_7 : decode b_PrimeFinder_init 7 = .ok ((.newarray .int), 2) := by decide +kernel
theorem d_PrimeFinder_init_9 : decode b_PrimeFinder_init 9 = .ok ((.putfield 9), 3) := by decide +kernel
theorem d_PrimeFinder_init_12 : decode b_PrimeFinder_init 12 = .ok ((.aload_n 0), 1) := by decide +kernel
theorem d_PrimeFinder_init_13 : decode b_PrimeFinder_init 13 = .ok ((.aload_n 1), 1) := by decide +kernel
theorem d_PrimeFinder_init_14 : decode b_PrimeFinder_init 14 = .ok ((.putfield 15), 3) := by decide +kernel
theorem d_PrimeFinder_init_17 : decode b_PrimeFinder_init 17 = .ok ((.aload_n 0), 1) := by decide +kernel
theorem d_PrimeFinder_init_18 : decode b_PrimeFinder_init 18 = .ok ((.iload_n 2), 1) := by decide +kernel
theorem d_PrimeFinder_init_19 : decode b_PrimeFinder_init 19 = .ok ((.putfield 19), 3) := by decide +kernel
theorem d_PrimeFinder_init_22 : decode b_PrimeFinder_init 22 = .ok (.return_, 1) := by decide +kernel
theorem d_PrimeFinder_find_0 : decode b_PrimeFinder_find 0 = .ok ((.aload_n 0), 1) := by decide +kernel
theorem d_PrimeFinder_find_1 : decode b_PrimeFinder_find 1 = .ok ((.aload_n 1), 1) := by decide +kernel
theorem d_PrimeFinder_find_2 : decode b_PrimeFinder_find 2 = .ok ((.invokevirtual 23), 3) := by decide +kernel
theorem d_PrimeFinder_find_5 : decode b_PrimeFinder_find 5 = .ok ((.aload_n 2), 1) := by decide +kernel
theorem d_PrimeFinder_find_6 : decode b_PrimeFinder_find 6 = .ok ((.invokevirtual 27), 3) := by decide +kernel
theorem d_PrimeFinder_find_9 : decode b_PrimeFinder_find 9 = .ok ((.iconst 0), 1) := by decide +kernel
theorem d_PrimeFinder_find_10 : decode b_PrimeFinder_find 10 = .ok ((.istore_n 3), 1) := by decide +kernel
theorem d_PrimeFinder_find_11 : decode b_PrimeFinder_find 11 = .ok ((.iload_n 3), 1) := by decide +kernel
theorem d_PrimeFinder_find_12 : decode b_PrimeFinder_find 12 = .ok ((.aload_n 0), 1) := by decide +kernel
theorem d_PrimeFinder_find_13 : decode b_PrimeFinder_find 13 = .ok ((.getfield 15), 3) := by decide +kernel
theorem d_PrimeFinder_find_16 : decode b_PrimeFinder_find 16 = .ok ((.invokevirtual 32), 3) := by decide +kernel
theorem d_PrimeFinder_find_19 : decode b_PrimeFinder_find 19 = .ok ((.if_icmp .ge 37), 3) := by decide +kernel
theorem d_PrimeFinder_find_22 : decode b_PrimeFinder_find 22 = .ok ((.aload_n 0), 1) := by decide +kernel
theorem d_PrimeFinder_find_23 : decode b_PrimeFinder_find 23 = .ok ((.getfield 9), 3) := by decide +kernel
theorem d_PrimeFinder_find_26 : decode b_PrimeFinder_find 26 = .ok ((.iload_n 3), 1) := by decide +kernel
theorem d_PrimeFinder_find_27 : decode b_PrimeFinder_find 27 = .ok (.iaload, 1) := by decide +kernel
theorem d_PrimeFinder_find_28 : decode b_PrimeFinder_find 28 = .ok ((.ifCond .eq 22), 3) := by decide +kernel
theorem d_PrimeFinder_find_31 : decode b_PrimeFinder_find 31 = .ok ((.aload_n 0), 1) := by decide +kernel
theorem d_PrimeFinder_find_32 : decode b_PrimeFinder_find 32 = .ok ((.iload_n 3), 1) := by decide +kernel
theorem d_PrimeFinder_find_33 : decode b_PrimeFinder_find 33 = .ok ((.invokevirtual 38), 3) := by decide +kernel
theorem d_PrimeFinder_find_36 : decode b_PrimeFinder_find 36 = .ok ((.ifCond .ne 14), 3) := by decide +kernel
theorem d_PrimeFinder_find_39 : decode b_PrimeFinder_find 39 = .ok ((.aload_n 2), 1) := by decide +kernel
theorem d_PrimeFinder_find_40 : decode b_PrimeFinder_find 40 = .ok ((.iload_n 3), 1) := by decide +kernel
theorem d_PrimeFinder_find_41 : decode b_PrimeFinder_find 41 = .ok ((.aload_n 0), 1) := by decide +kernel
theorem d_PrimeFinder_find_42 : decode b_PrimeFinder_find 42 = .ok ((.getfield 9), 3) := by decide +kernel
theorem d_PrimeFinder_find_45 : decode b_PrimeFinder_find 45 = .ok ((.iload_n 3), 1) := by decide +kernel
theorem d_PrimeFinder_find_46 : decode b_PrimeFinder_find 46 = .ok (.iaload, 1) := by decide +kernel
theorem d_PrimeFinder_find_47 : decode b_PrimeFinder_find 47 = .ok ((.invokevirtual 42), 3) := by decide +kernel
theorem d_PrimeFinder_find_50 : decode b_PrimeFinder_find 50 = .ok ((.iinc 3 1), 3) := by decide +kernel
theorem d_PrimeFinder_find_53 : decode b_PrimeFinder_find 53 = .ok ((.goto (-42)), 3) := by decide +kernel
theorem d_PrimeFinder_find_56 : decode b_PrimeFinder_find 56 = .ok (.return_, 1) := by decide +kernel
theorem d_PrimeFinder_fillOuts_0 : decode b_PrimeFinder_fillOuts 0 = .ok ((.iconst 0), 1) := by decide +kernel
theorem d_PrimeFinder_fillOuts_1 : decode b_PrimeFinder_fillOuts 1 = .ok ((.istore_n 2), 1) := by decide +kernel
theorem d_PrimeFinder_fillOuts_2 : decode b_PrimeFinder_fillOuts 2 = .ok ((.iload_n 2), 1) := by decide +kernel
theorem d_PrimeFinder_fillOuts_3 : decode b_PrimeFinder_fillOuts 3 = .ok ((.aload_n 0), 1) := by decide +kernel
theorem d_PrimeFinder_fillOuts_4 : decode b_PrimeFinder_fillOuts 4 = .ok ((.getfield 15), 3) := by decide +kernel
theorem d_PrimeFinder_fillOuts_7 : decode b_PrimeFinder_fillOuts 7 = .ok ((.invokevirtual 32), 3) := by decide +kernel
theorem d_PrimeFinder_fillOuts_10 : decode b_PrimeFinder_fillOuts 10 = .ok ((.if_icmp .ge 16), 3) := by decide +kernel
theorem d_PrimeFinder_fillOuts_13 : decode b_PrimeFinder_fillOuts 13 = .ok ((.aload_n 0), 1) := by decide +kernel
theorem d_PrimeFinder_fillOuts_14 : decode b_PrimeFinder_fillOuts 14 = .ok ((.getfield 9), 3) := by decide +kernel
theorem d_PrimeFinder_fillOuts_17 : decode b_PrimeFinder_fillOuts 17 = .ok ((.iload_n 2), 1) := by decide +kernel
theorem d_PrimeFinder_fillOuts_18 : decode b_PrimeFinder_fillOuts 18 = .ok ((.iconst 0), 1) := by decide +kernel
theorem d_PrimeFinder_fillOuts_19 : decode b_PrimeFinder_fillOuts 19 = .ok (.iastore, 1) := by decide +kernel
theorem d_PrimeFinder_fillOuts_20 : decode b_PrimeFinder_fillOuts 20 = .ok ((.iinc 2 1), 3) := by decide +kernel
theorem d_PrimeFinder_fillOuts_23 : decode b_PrimeFinder_fillOuts 23 = .ok ((.goto (-21)), 3) := by decide +kernel
theorem d_PrimeFinder_fillOuts_26 : decode b_PrimeFinder_fillOuts 26 = .ok ((.iconst 0), 1) := by decide +kernel
theorem d_PrimeFinder_fillOuts_27 : decode b_PrimeFinder_fillOuts 27 = .ok ((.istore_n 2), 1) := by decide +kernel
theorem d_PrimeFinder_fillOuts_28 : decode b_PrimeFinder_fillOuts 28 = .ok ((.iload_n 2), 1) := by decide +kernel
theorem d_PrimeFinder_fillOuts_29 : decode b_PrimeFinder_fillOuts 29 = .ok ((.aload_n 0), 1) := by decide +kernel
theorem d_PrimeFinder_fillOuts_30 : decode b_PrimeFinder_fillOuts 30 = .ok ((.getfield 19), 3) := by decide +kernel
theorem d_PrimeFinder_fillOuts_33 : decode b_PrimeFinder_fillOuts 33 = .ok ((.if_icmp .ge 65), 3) := by decide +kernel
theorem d_PrimeFinder_fillOuts_36 : decode b_PrimeFinder_fillOuts 36 = .ok ((.aload_n 1), 1) := by decide +kernel
theorem d_PrimeFinder_fillOuts_37 : decode b_PrimeFinder_fillOuts 37 = .ok ((.iload_n 2), 1) := by decide +kernel
theorem d_PrimeFinder_fillOuts_38 : decode b_PrimeFinder_fillOuts 38 = .ok ((.invokevirtual 46), 3) := by decide +kernel
theorem d_PrimeFinder_fillOuts_41 : decode b_PrimeFinder_fillOuts 41 = .ok ((.iconst (-1)), 1) := by decide +kernel
theorem d_PrimeFinder_fillOuts_42 : decode b_PrimeFinder_fillOuts 42 = .ok (.ixor, 1) := by decide +kernel
theorem d_PrimeFinder_fillOuts_43 : decode b_PrimeFinder_fillOuts 43 = .ok ((.istore_n 3), 1) := by decide +kernel
theorem d_PrimeFinder_fillOuts_44 : decode b_PrimeFinder_fillOuts 44 = .ok ((.iconst 0), 1) := by decide +kernel
theorem d_PrimeFinder_fillOuts_45 : decode b_PrimeFinder_fillOuts 45 = .ok ((.istore 4), 2) := by decide +kernel
theorem d_PrimeFinder_fillOuts_47 : decode b_PrimeFinder_fillOuts 47 = .ok ((.iload 4), 2) := by decide +kernel
theorem d_PrimeFinder_fillOuts_49 : decode b_PrimeFinder_fillOuts 49 = .ok ((.aload_n 0), 1) := by decide +kernel
theorem d_PrimeFinder_fillOuts_50 : decode b_PrimeFinder_fillOuts 50 = .ok ((.getfield 15), 3) := by decide +kernel
theorem d_PrimeFinder_fillOuts_53 : decode b_PrimeFinder_fillOuts 53 = .ok ((.invokevirtual 32), 3) := by decide +kernel
theorem d_PrimeFinder_fillOuts_56 : decode b_PrimeFinder_fillOuts 56 = .ok ((.if_icmp .ge 36), 3) := by decide +kernel
theorem d_PrimeFinder_fillOuts_59 : decode b_PrimeFinder_fillOuts 59 = .ok ((.aload_n 0), 1) := by decide +kernel
theorem d_PrimeFinder_fillOuts_60 : decode b_PrimeFinder_fillOuts 60 = .ok ((.getfield 15), 3) := by decide +kernel
theorem d_PrimeFinder_fillOuts_63 : decode b_PrimeFinder_fillOuts 63 = .ok ((.iload 4), 2) := by decide +kernel
theorem d_PrimeFinder_fillOuts_65 : decode b_PrimeFinder_fillOuts 65 = .ok ((.invokevirtual 52), 3) := by decide +kernel
theorem d_PrimeFinder_fillOuts_68 : decode b_PrimeFinder_fillOuts 68 = .ok ((.iload_n 3), 1) := by decide +kernel
theorem d_PrimeFinder_fillOuts_69 : decode b_PrimeFinder_fillOuts 69 = .ok (.iand, 1) := by decide +kernel
theorem d_PrimeFinder_fillOuts_70 : decode b_PrimeFinder_fillOuts 70 = .ok ((.ifCond .ne 16), 3) := by decide +kernel
theorem d_PrimeFinder_fillOuts_73 : decode b_PrimeFinder_fillOuts 73 = .ok ((.aload_n 0), 1) := by decide +kernel
theorem d_PrimeFinder_fillOuts_74 : decode b_PrimeFinder_fillOuts 74 = .ok ((.getfield 9), 3) := by decide +kernel
theorem d_PrimeFinder_fillOuts_77 : decode b_PrimeFinder_fillOuts 77 = .ok ((.iload 4), 2) := by decide +kernel
theorem d_PrimeFinder_fillOuts_79 : decode b_PrimeFinder_fillOuts 79 = .ok (.dup2, 1) := by decide +kernel
theorem d_PrimeFinder_fillOuts_80 : decode b_PrimeFinder_fillOuts 80 = .ok (.iaload, 1) := by decide +kernel
theorem d_PrimeFinder_fillOuts_81 : decode b_PrimeFinder_fillOuts 81 = .ok ((.iconst 1), 1) := by decide +kernel
theorem d_PrimeFinder_fillOuts_82 : decode b_PrimeFinder_fillOuts 82 = .ok ((.iload_n 2), 1) := by decide +kernel
theorem d_PrimeFinder_fillOuts_83 : decode b_PrimeFinder_fillOuts 83 = .ok (.ishl, 1) := by decide +kernel
theorem d_PrimeFinder_fillOuts_84 : decode b_PrimeFinder_fillOuts 84 = .ok (.ior, 1) := by decide +kernel
theorem d_PrimeFinder_fillOuts_85 : decode b_PrimeFinder_fillOuts 85 = .ok (.iastore, 1) := by decide +kernel
theorem d_PrimeFinder_fillOuts_86 : decode b_PrimeFinder_fillOuts 86 = .ok ((.iinc 4 1), 3) := by decide +kernel
theorem d_PrimeFinder_fillOuts_89 : decode b_PrimeFinder_fillOuts 89 = .ok ((.goto (-42)), 3) := by decide +kernel
theorem d_PrimeFinder_fillOuts_92 : decode b_PrimeFinder_fillOuts 92 = .ok ((.iinc 2 1), 3) := by decide +kernel
theorem d_PrimeFinder_fillOuts_95 : decode b_PrimeFinder_fillOuts 95 = .ok ((.goto (-67)), 3) := by decide +kernel
theorem d_PrimeFinder_fillOuts_98 : decode b_PrimeFinder_fillOuts 98 = .ok (.return_, 1) := by decide +kernel
theorem d_PrimeFinder_isWithinWider_0 : decode b_PrimeFinder_isWithinWider 0 = .ok ((.iconst 0), 1) := by decide +kernel
theorem d_PrimeFinder_isWithinWider_1 : decode b_PrimeFinder_isWithinWider 1 = .ok ((.istore_n 2), 1) := by decide +kernel
theorem d_PrimeFinder_isWithinWider_2 : decode b_PrimeFinder_isWithinWider 2 = .ok ((.iload_n 2), 1) := by decide +kernel
theorem d_PrimeFinder_isWithinWider_3 : decode b_PrimeFinder_isWithinWider 3 = .ok ((.aload_n 0), 1) := by decide +kernel
theorem d_PrimeFinder_isWithinWider_4 : decode b_PrimeFinder_isWithinWider 4 = .ok ((.getfield 15), 3) := by decide +kernel
theorem d_PrimeFinder_isWithinWider_7 : decode b_PrimeFinder_isWithinWider 7 = .ok ((.invokevirtual 55), 3) := by decide +kernel
theorem d_PrimeFinder_isWithinWider_10 : decode b_PrimeFinder_isWithinWider 10 = .ok ((.if_icmp .ge 53), 3) := by decide +kernel
theorem d_PrimeFinder_isWithinWider_13 : decode b_PrimeFinder_isWithinWider 13 = .ok ((.aload_n 0), 1) := by decide +kernel
theorem d_PrimeFinder_isWithinWider_14 : decode b_PrimeFinder_isWithinWider 14 = .ok ((.getfield 15), 3) := by decide +kernel
theorem d_PrimeFinder_isWithinWider_17 : decode b_PrimeFinder_isWithinWider 17 = .ok ((.iload_n 1), 1) := by decide +kernel
theorem d_PrimeFinder_isWithinWider_18 : decode b_PrimeFinder_isWithinWider 18 = .ok ((.iload_n 2), 1) := by decide +kernel
theorem d_PrimeFinder_isWithinWider_19 : decode b_PrimeFinder_isWithinWider 19 = .ok ((.invokevirtual 58), 3) := by decide +kernel
theorem d_PrimeFinder_isWithinWider_22 : decode b_PrimeFinder_isWithinWider 22 = .ok ((.iconst 2), 1) := by decide +kernel
theorem d_PrimeFinder_isWithinWider_23 : decode b_PrimeFinder_isWithinWider 23 = .ok ((.if_icmp .eq 34), 3) := by decide +kernel
theorem d_PrimeFinder_isWithinWider_26 : decode b_PrimeFinder_isWithinWider 26 = .ok ((.aload_n 0), 1) := by decide +kernel
theorem d_PrimeFinder_isWithinWider_27 : decode b_PrimeFinder_isWithinWider 27 = .ok ((.getfield 15), 3) := by decide +kernel
theorem d_PrimeFinder_isWithinWider_30 : decode b_PrimeFinder_isWithinWider 30 = .ok ((.iload_n 1), 1) := by decide +kernel
theorem d_PrimeFinder_isWithinWider_31 : decode b_PrimeFinder_isWithinWider 31 = .ok ((.iload_n 2), 1) := by decide +kernel
theorem d_PrimeFinder_isWithinWider_32 : decode b_PrimeFinder_isWithinWider 32 = .ok ((.iconst 2), 1) := by decide +kernel
theorem d_PrimeFinder_isWithinWider_33 : decode b_PrimeFinder_isWithinWider 33 = .ok ((.invokevirtual 62), 3) := by decide +kernel
theorem d_PrimeFinder_isWithinWider_36 : decode b_PrimeFinder_isWithinWider 36 = .ok ((.istore_n 3), 1) := by decide +kernel
theorem d_PrimeFinder_isWithinWider_37 : decode b_PrimeFinder_isWithinWider 37 = .ok ((.aload_n 0), 1) := by decide +kernel
theorem d_PrimeFinder_isWithinWider_38 : decode b_PrimeFinder_isWithinWider 38 = .ok ((.getfield 9), 3) := by decide +kernel
theorem d_PrimeFinder_isWithinWider_41 : decode b_PrimeFinder_isWithinWider 41 = .ok ((.iload_n 1), 1) := by decide +kernel
theorem d_PrimeFinder_isWithinWider_42 : decode b_PrimeFinder_isWithinWider 42 = .ok (.iaload, 1) := by decide +kernel
theorem d_PrimeFinder_isWithinWider_43 : decode b_PrimeFinder_isWithinWider 43 = .ok ((.aload_n 0), 1) := by decide +kernel
theorem d_PrimeFinder_isWithinWider_44 : decode b_PrimeFinder_isWithinWider 44 = .ok ((.getfield 9), 3) := by decide +kernel
theorem d_PrimeFinder_isWithinWider_47 : decode b_PrimeFinder_isWithinWider 47 = .ok ((.iload_n 3), 1) := by decide +kernel
theorem d_PrimeFinder_isWithinWider_48 : decode b_PrimeFinder_isWithinWider 48 = .ok (.iaload, 1) := by decide +kernel
theorem d_PrimeFinder_isWithinWider_49 : decode b_PrimeFinder_isWithinWider 49 = .ok ((.iconst (-1)), 1) := by decide +kernel
theorem d_PrimeFinder_isWithinWider_50 : decode b_PrimeFinder_isWithinWider 50 = .ok (.ixor, 1) := by decide +kernel
theorem d_PrimeFinder_isWithinWider_51 : decode b_PrimeFinder_isWithinWider 51 = .ok (.iand, 1) := by decide +kernel
theorem d_PrimeFinder_isWithinWider_52 : decode b_PrimeFinder_isWithinWider 52 = .ok ((.ifCond .ne 5), 3) := by decide +kernel
theorem d_PrimeFinder_isWithinWider_55 : decode b_PrimeFinder_isWithinWider 55 = .ok ((.iconst 1), 1) := by decide +kernel
theorem d_PrimeFinder_isWithinWider_56 : decode b_PrimeFinder_isWithinWider 56 = .ok (.ireturn, 1) := by decide +kernel
theorem d_PrimeFinder_isWithinWider_57 : decode b_PrimeFinder_isWithinWider 57 = .ok ((.iinc 2 1), 3) := by decide +kernel
theorem d_PrimeFinder_isWithinWider_60 : decode b_PrimeFinder_isWithinWider 60 = .ok ((.goto (-58)), 3) := by decide +kernel
theorem d_PrimeFinder_isWithinWider_63 : decode b_PrimeFinder_isWithinWider 63 = .ok ((.iconst 0), 1) := by decide +kernel
theorem d_PrimeFinder_isWithinWider_64 : decode b_PrimeFinder_isWithinWider 64 = .ok (.ireturn, 1) := by decide +kernel
