theorem d_Cubes_init_0 : decode b_Cubes_init 0 = .ok ((.aload_n 0), 1) := by decide +kernel
theorem d_Cubes_init_1 : decode b_Cubes_init 1 = .ok ((.invokespecial 3), 3) := by decide +kernel
theorem d_Cubes_init_4 : decode b_Cubes_init 4 = .ok ((.aload_n 0), 1) := by decide +kernel
theorem d_Cubes_init_5 : decode b_Cubes_init 5 = .ok ((.bipush 24), 2) := by decide +kernel
theorem d_Cubes_init_7 : decode b_Cubes_init 7 = .ok ((.newarray .int), 2) := by decide +kernel
theorem d_Cubes_init_9 : decode b_Cubes_init 9 = .ok ((.putfield 9), 3) := by decide +kernel
theorem d_Cubes_init_12 : decode b_Cubes_init 12 = .ok ((.aload_n 0), 1) := by decide +kernel
theorem d_Cubes_init_13 : decode b_Cubes_init 13 = .ok ((.bipush 48), 2) := by decide +kernel
theorem d_Cubes_init_15 : decode b_Cubes_init 15 = .ok ((.newarray .int), 2) := by decide +kernel
theorem d_Cubes_init_17 : decode b_Cubes_init 17 = .ok ((.putfield 15), 3) := by decide +kernel
theorem d_Cubes_init_20 : decode b_Cubes_init 20 = .ok ((.aload_n 0), 1) := by decide +kernel
theorem d_Cubes_init_21 : decode b_Cubes_init 21 = .ok ((.aload_n 1), 1) := by decide +kernel
theorem d_Cubes_init_22 : decode b_Cubes_init 22 = .ok ((.putfield 18), 3) := by decide +kernel
theorem d_Cubes_init_25 : decode b_Cubes_init 25 = .ok ((.aload_n 0), 1) := by decide +kernel
theorem d_Cubes_init_26 : decode b_Cubes_init 26 = .ok ((.iload_n 2), 1) := by decide +kernel
theorem d_Cubes_init_27 : decode b_Cubes_init 27 = .ok ((.putfield 22), 3) := by decide +kernel
theorem d_Cubes_init_30 : decode b_Cubes_init 30 = .ok ((.aload_n 0), 1) := by decide +kernel
theorem d_Cubes_init_31 : decode b_Cubes_init 31 = .ok ((.iconst 0), 1) := by decide +kernel
theorem d_Cubes_init_32 : decode b_Cubes_init 32 = .ok ((.putfield 26), 3) := by decide +kernel
theorem d_Cubes_init_35 : decode b_Cubes_init 35 = .ok (.return_, 1) := by decide +kernel
theorem d_Cubes_notOff_0 : decode b_Cubes_notOff 0 = .ok ((.aload_n 0), 1) := by decide +kernel
theorem d_Cubes_notOff_1 : decode b_Cubes_notOff 1 = .ok ((.iload_n 1), 1) := by decide +kernel
theorem d_Cubes_notOff_2 : decode b_Cubes_notOff 2 = .ok ((.iconst 1), 1) := by decide +kernel
theorem d_Cubes_notOff_3 : decode b_Cubes_notOff 3 = .ok ((.invokevirtual 47), 3) := by decide +kernel
theorem d_Cubes_notOff_6 : decode b_Cubes_notOff 6 = .ok ((.aload_n 0), 1) := by decide +kernel
theorem d_Cubes_notOff_7 : decode b_Cubes_notOff 7 = .ok ((.iload_n 1), 1) := by decide +kernel
theorem d_Cubes_notOff_8 : decode b_Cubes_notOff 8 = .ok ((.iconst 2), 1) := by decide +kernel
theorem d_Cubes_notOff_9 : decode b_Cubes_notOff 9 = .ok ((.invokevirtual 47), 3) := by decide +kernel
theorem d_Cubes_notOff_12 : decode b_Cubes_notOff 12 = .ok (.ior, 1) := by decide +kernel
theorem d_Cubes_notOff_13 : decode b_Cubes_notOff 13 = .ok (.ireturn, 1) := by decide +kernel
theorem d_Cubes_hadByKind_0 : decode b_Cubes_hadByKind 0 = .ok ((.iconst 0), 1) := by decide +kernel
theorem d_Cubes_hadByKind_1 : decode b_Cubes_hadByKind 1 = .ok ((.istore_n 3), 1) := by decide +kernel
theorem d_Cubes_hadByKind_2 : decode b_Cubes_hadByKind 2 = .ok ((.iconst 0), 1) := by decide +kernel
theorem d_Cubes_hadByKind_3 : decode b_Cubes_hadByKind 3 = .ok ((.istore 4), 2) := by decide +kernel
theorem d_Cubes_hadByKind_5 : decode b_Cubes_hadByKind 5 = .ok ((.iload 4), 2) := by decide +kernel
theorem d_Cubes_hadByKind_7 : decode b_Cubes_hadByKind 7 = .ok ((.aload_n 0), 1) := by decide +kernel
theorem d_Cubes_hadByKind_8 : decode b_Cubes_hadByKind 8 = .ok ((.getfield 26), 3) := by decide +kernel
theorem d_Cubes_hadByKind_11 : decode b_Cubes_hadByKind 11 = .ok ((.if_icmp .ge 41), 3) := by decide +kernel
theorem d_Cubes_hadByKind_14 : decode b_Cubes_hadByKind 14 = .ok ((.aload_n 0), 1) := by decide +kernel
theorem d_Cubes_hadByKind_15 : decode b_Cubes_hadByKind 15 = .ok ((.getfield 15), 3) := by decide +kernel
theorem d_Cubes_hadByKind_18 : decode b_Cubes_hadByKind 18 = .ok ((.iload 4), 2) := by decide +kernel
theorem d_Cubes_hadByKind_20 : decode b_Cubes_hadByKind 20 = .ok ((.iconst 2), 1) := by decide +kernel
theorem d_Cubes_hadByKind_21 : decode b_Cubes_hadByKind 21 = .ok (.imul, 1) := by decide +kernel
theorem d_Cubes_hadByKind_22 : decode b_Cubes_hadByKind 22 = .ok ((.iload_n 1), 1) := by decide +kernel
theorem d_Cubes_hadByKind_23 : decode b_Cubes_hadByKind 23 = .ok (.iadd, 1) := by decide +kernel
theorem d_Cubes_hadByKind_24 : decode b_Cubes_hadByKind 24 = .ok (.iaload, 1) := by decide +kernel
theorem d_Cubes_hadByKind_25 : decode b_Cubes_hadByKind 25 = .ok ((.iload_n 2), 1) := by decide +kernel
theorem d_Cubes_hadByKind_26 : decode b_Cubes_hadByKind 26 = .ok ((.if_icmp .ne 20), 3) := by decide +kernel
theorem d_Cubes_hadByKind_29 : decode b_Cubes_hadByKind 29 = .ok ((.iload_n 3), 1) := by decide +kernel
theorem d_Cubes_hadByKind_30 : decode b_Cubes_hadByKind 30 = .ok ((.aload_n 0), 1) := by decide +kernel
theorem d_Cubes_hadByKind_31 : decode b_Cubes_hadByKind 31 = .ok ((.getfield 18), 3) := by decide +kernel
theorem d_Cubes_hadByKind_34 : decode b_Cubes_hadByKind 34 = .ok ((.aload_n 0), 1) := by decide +kernel
theorem d_Cubes_hadByKind_35 : decode b_Cubes_hadByKind 35 = .ok ((.getfield 9), 3) := by decide +kernel
theorem d_Cubes_hadByKind_38 : decode b_Cubes_hadByKind 38 = .ok ((.iload 4), 2) := by decide +kernel
theorem d_Cubes_hadByKind_40 : decode b_Cubes_hadByKind 40 = .ok (.iaload, 1) := by decide +kernel
theorem d_Cubes_hadByKind_41 : decode b_Cubes_hadByKind 41 = .ok ((.invokevirtual 50), 3) := by decide +kernel
theorem d_Cubes_hadByKind_44 : decode b_Cubes_hadByKind 44 = .ok (.ior, 1) := by decide +kernel
theorem d_Cubes_hadByKind_45 : decode b_Cubes_hadByKind 45 = .ok ((.istore_n 3), 1) := by decide +kernel
theorem d_Cubes_hadByKind_46 : decode b_Cubes_hadByKind 46 = .ok ((.iinc 4 1), 3) := by decide +kernel
theorem d_Cubes_hadByKind_49 : decode b_Cubes_hadByKind 49 = .ok ((.goto (-44)), 3) := by decide +kernel
theorem d_Cubes_hadByKind_52 : decode b_Cubes_hadByKind 52 = .ok ((.iload_n 3), 1) := by decide +kernel
theorem d_Cubes_hadByKind_53 : decode b_Cubes_hadByKind 53 = .ok (.ireturn, 1) := by decide +kernel
theorem d_Cubes_on_0 : decode b_Cubes_on 0 = .ok ((.aload_n 0), 1) := by decide +kernel
theorem d_Cubes_on_1 : decode b_Cubes_on 1 = .ok ((.iload_n 1), 1) := by decide +kernel
theorem d_Cubes_on_2 : decode b_Cubes_on 2 = .ok ((.iconst 1), 1) := by decide +kernel
theorem d_Cubes_on_3 : decode b_Cubes_on 3 = .ok ((.invokevirtual 47), 3) := by decide +kernel
theorem d_Cubes_on_6 : decode b_Cubes_on 6 = .ok (.ireturn, 1) := by decide +kernel
theorem d_Cubes_dropAll_0 : decode b_Cubes_dropAll 0 = .ok ((.aload_n 0), 1) := by decide +kernel
theorem d_Cubes_dropAll_1 : decode b_Cubes_dropAll 1 = .ok ((.iconst 0), 1) := by decide +kernel
theorem d_Cubes_dropAll_2 : decode b_Cubes_dropAll 2 = .ok ((.putfield 26), 3) := by decide +kernel
theorem d_Cubes_dropAll_5 : decode b_Cubes_dropAll 5 = .ok (.return_, 1) := by decide +kernel
theorem d_Cubes_isFull_0 : decode b_Cubes_isFull 0 = .ok ((.aload_n 0), 1) := by decide +kernel
theorem d_Cubes_isFull_1 : decode b_Cubes_isFull 1 = .ok ((.getfield 26), 3) := by decide +kernel
theorem d_Cubes_isFull_4 : decode b_Cubes_isFull 4 = .ok ((.bipush 24), 2) := by decide +kernel
theorem d_Cubes_isFull_6 : decode b_Cubes_isFull 6 = .ok ((.if_icmp .lt 7), 3) := by decide +kernel
theorem d_Cubes_isFull_9 : decode b_Cubes_isFull 9 = .ok ((.iconst 1), 1) := by decide +kernel
theorem d_Cubes_isFull_10 : decode b_Cubes_isFull 10 = .ok ((.goto 4), 3) := by decide +kernel
theorem d_Cubes_isFull_13 : decode b_Cubes_isFull 13 = .ok ((.iconst 0), 1) := by decide +kernel
theorem d_Cubes_isFull_14 : decode b_Cubes_isFull 14 = .ok (.ireturn, 1) := by decide +kernel
theorem d_Cubes_add_0 : decode b_Cubes_add 0 = .ok ((.aload_n 0), 1) := by decide +kernel
theorem d_Cubes_add_1 : decode b_Cubes_add 1 = .ok ((.invokevirtual 29), 3) := by decide +kernel
theorem d_Cubes_add_4 : decode b_Cubes_add 4 = .ok ((.ifCond .eq 5), 3) := by decide +kernel
theorem d_Cubes_add_7 : decode b_Cubes_add 7 = .ok ((.iconst (-1)), 1) := by decide +kernel
theorem d_Cubes_add_8 : decode b_Cubes_add 8 = .ok (.ireturn, 1) := by decide +kernel
theorem d_Cubes_add_9 : decode b_Cubes_add 9 = .ok ((.aload_n 0), 1) := by decide +kernel
theorem d_Cubes_add_10 : decode b_Cubes_add 10 = .ok ((.getfield 9), 3) := by decide +kernel
theorem d_Cubes_add_13 : decode b_Cubes_add 13 = .ok ((.aload_n 0), 1) := by decide +kernel
theorem d_Cubes_add_14 : decode b_Cubes_add 14 = .ok ((.getfield 26), 3) := by decide +kernel
theorem d_Cubes_add_17 : decode b_Cubes_add 17 = .ok ((.aload_n 0), 1) := by decide +kernel
theorem d_Cubes_add_18 : decode b_Cubes_add 18 = .ok ((.getfield 18), 3) := by decide +kernel
theorem d_Cubes_add_21 : decode b_Cubes_add 21 = .ok ((.invokevirtual 33), 3) := by decide +kernel
theorem d_Cubes_add_24 : decode b_Cubes_add 24 = .ok (.iastore, 1) := by decide +kernel
theorem d_Cubes_add_25 : decode b_Cubes_add 25 = .ok ((.iconst 0), 1) := by decide +kernel
theorem d_Cubes_add_26 : decode b_Cubes_add 26 = .ok ((.istore_n 1), 1) := by decide +kernel
theorem d_Cubes_add_27 : decode b_Cubes_add 27 = .ok ((.iload_n 1), 1) := by decide +kernel
theorem d_Cubes_add_28 : decode b_Cubes_add 28 = .ok ((.aload_n 0), 1) := by decide +kernel
theorem d_Cubes_add_29 : decode b_Cubes_add 29 = .ok ((.getfield 22), 3) := by decide +kernel
theorem d_Cubes_add_32 : decode b_Cubes_add 32 = .ok ((.if_icmp .ge 23), 3) := by decide +kernel
theorem d_Cubes_add_35 : decode b_Cubes_add 35 = .ok ((.aload_n 0), 1) := by decide +kernel
theorem d_Cubes_add_36 : decode b_Cubes_add 36 = .ok ((.getfield 15), 3) := by decide +kernel
theorem d_Cubes_add_39 : decode b_Cubes_add 39 = .ok ((.aload_n 0), 1) := by decide +kernel
theorem d_Cubes_add_40 : decode b_Cubes_add 40 = .ok ((.getfield 26), 3) := by decide +kernel
theorem d_Cubes_add_43 : decode b_Cubes_add 43 = .ok ((.iconst 2), 1) := by decide +kernel
theorem d_Cubes_add_44 : decode b_Cubes_add 44 = .ok (.imul, 1) := by decide +kernel
theorem d_Cubes_add_45 : decode b_Cubes_add 45 = .ok ((.iload_n 1), 1) := by decide +kernel
theorem d_Cubes_add_46 : decode b_Cubes_add 46 = .ok (.iadd, 1) := by decide +kernel
theorem d_Cubes_add_47 : decode b_Cubes_add 47 = .ok ((.iconst 0), 1) := by decide +kernel
theorem d_Cubes_add_48 : decode b_Cubes_add 48 = .ok (.iastore, 1) := by decide +kernel
theorem d_Cubes_add_49 : decode b_Cubes_add 49 = .ok ((.iinc 1 1), 3) := by decide +kernel
theorem d_Cubes_add_52 : decode b_Cubes_add 52 = .ok ((.goto (-25)), 3) := by decide +kernel
theorem d_Cubes_add_55 : decode b_Cubes_add 55 = .ok ((.aload_n 0), 1) := by decide +kernel
theorem d_Cubes_add_56 : decode b_Cubes_add 56 = .ok (.dup, 1) := by decide +kernel
theorem d_Cubes_add_57 : decode b_Cubes_add 57 = .ok ((.getfield 26), 3) := by decide +kernel
theorem d_Cubes_add_60 : decode b_Cubes_add 60 = .ok ((.iconst 1), 1) := by decide +kernel
theorem d_Cubes_add_61 : decode b_Cubes_add 61 = .ok (.iadd, 1) := by decide +kernel
theorem d_Cubes_add_62 : decode b_Cubes_add 62 = .ok ((.putfield 26), 3) := by decide +kernel
theorem d_Cubes_add_65 : decode b_Cubes_add 65 = .ok ((.aload_n 0), 1) := by decide +kernel
theorem d_Cubes_add_66 : decode b_Cubes_add 66 = .ok ((.getfield 26), 3) := by decide +kernel
theorem d_Cubes_add_69 : decode b_Cubes_add 69 = .ok ((.iconst 1), 1) := by decide +kernel
theorem d_Cubes_add_70 : decode b_Cubes_add 70 = .ok (.isub, 1) := by decide +kernel
theorem d_Cubes_add_71 : decode b_Cubes_add 71 = .ok (.ireturn, 1) := by decide +kernel
theorem d_Cubes_holds_0 : decode b_Cubes_holds 0 = .ok ((.iload_n 1), 1) := by decide +kernel
theorem d_Cubes_holds_1 : decode b_Cubes_holds 1 = .ok ((.ifCond .lt 15), 3) := by decide +kernel
theorem d_Cubes_holds_4 : decode b_Cubes_holds 4 = .ok ((.iload_n 1), 1) := by decide +kernel
theorem d_Cubes_holds_5 : decode b_Cubes_holds 5 = .ok ((.aload_n 0), 1) := by decide +kernel
theorem d_Cubes_holds_6 : decode b_Cubes_holds 6 = .ok ((.getfield 26), 3) := by decide +kernel
theorem d_Cubes_holds_9 : decode b_Cubes_holds 9 = .ok ((.if_icmp .ge 7), 3) := by decide +kernel
theorem d_Cubes_holds_12 : decode b_Cubes_holds 12 = .ok ((.iconst 1), 1) := by decide +kernel
theorem d_Cubes_holds_13 : decode b_Cubes_holds 13 = .ok ((.goto 4), 3) := by decide +kernel
theorem d_Cubes_holds_16 : decode b_Cubes_holds 16 = .ok ((.iconst 0), 1) := by decide +kernel
theorem d_Cubes_holds_17 : decode b_Cubes_holds 17 = .ok (.ireturn, 1) := by decide +kernel
theorem d_Cubes_setDigit_0 : decode b_Cubes_setDigit 0 = .ok ((.aload_n 0), 1) := by decide +kernel
theorem d_Cubes_setDigit_1 : decode b_Cubes_setDigit 1 = .ok ((.getfield 18), 3) := by decide +kernel
theorem d_Cubes_setDigit_4 : decode b_Cubes_setDigit 4 = .ok ((.aload_n 0), 1) := by decide +kernel
theorem d_Cubes_setDigit_5 : decode b_Cubes_setDigit 5 = .ok ((.getfield 9), 3) := by decide +kernel
theorem d_Cubes_setDigit_8 : decode b_Cubes_setDigit 8 = .ok ((.iload_n 1), 1) := by decide +kernel
theorem d_Cubes_setDigit_9 : decode b_Cubes_setDigit 9 = .ok (.iaload, 1) := by decide +kernel
theorem d_Cubes_setDigit_10 : decode b_Cubes_setDigit 10 = .ok ((.iload_n 2), 1) := by decide +kernel
theorem d_Cubes_setDigit_11 : decode b_Cubes_setDigit 11 = .ok ((.invokevirtual 39), 3) := by decide +kernel
theorem d_Cubes_setDigit_14 : decode b_Cubes_setDigit 14 = .ok ((.iload_n 3), 1) := by decide +kernel
theorem d_Cubes_setDigit_15 : decode b_Cubes_setDigit 15 = .ok ((.if_icmp .ne 5), 3) := by decide +kernel
theorem d_Cubes_setDigit_18 : decode b_Cubes_setDigit 18 = .ok ((.iconst 0), 1) := by decide +kernel
theorem d_Cubes_setDigit_19 : decode b_Cubes_setDigit 19 = .ok (.ireturn, 1) := by decide +kernel
theorem d_Cubes_setDigit_20 : decode b_Cubes_setDigit 20 = .ok ((.aload_n 0), 1) := by decide +kernel
theorem d_Cubes_setDigit_21 : decode b_Cubes_setDigit 21 = .ok ((.getfield 9), 3) := by decide +kernel
theorem d_Cubes_setDigit_24 : decode b_Cubes_setDigit 24 = .ok ((.iload_n 1), 1) := by decide +kernel
theorem d_Cubes_setDigit_25 : decode b_Cubes_setDigit 25 = .ok ((.aload_n 0), 1) := by decide +kernel
theorem d_Cubes_setDigit_26 : decode b_Cubes_setDigit 26 = .ok ((.getfield 18), 3) := by decide +kernel
theorem d_Cubes_setDigit_29 : decode b_Cubes_setDigit 29 = .ok ((.aload_n 0), 1) := by decide +kernel
theorem d_Cubes_setDigit_30 : decode b_Cubes_setDigit 30 = .ok ((.getfield 9), 3) := by decide +kernel
theorem d_Cubes_setDigit_33 : decode b_Cubes_setDigit 33 = .ok ((.iload_n 1), 1) := by decide +kernel
theorem d_Cubes_setDigit_34 : decode b_Cubes_setDigit 34 = .ok (.iaload, 1) := by decide +kernel
theorem d_Cubes_setDigit_35 : decode b_Cubes_setDigit 35 = .ok ((.iload_n 2), 1) := by decide +kernel
theorem d_Cubes_setDigit_36 : decode b_Cubes_setDigit 36 = .ok ((.iload_n 3), 1) := by decide +kernel
theorem d_Cubes_setDigit_37 : decode b_Cubes_setDigit 37 = .ok ((.invokevirtual 43), 3) := by decide +kernel
theorem d_Cubes_setDigit_40 : decode b_Cubes_setDigit 40 = .ok (.iastore, 1) := by decide +kernel
theorem d_Cubes_setDigit_41 : decode b_Cubes_setDigit 41 = .ok ((.iconst 1), 1) := by decide +kernel
theorem d_Cubes_setDigit_42 : decode b_Cubes_setDigit 42 = .ok (.ireturn, 1) := by decide +kernel
theorem d_Cubes_setKind_0 : decode b_Cubes_setKind 0 = .ok ((.iload_n 1), 1) := by decide +kernel
theorem d_Cubes_setKind_1 : decode b_Cubes_setKind 1 = .ok ((.iconst 2), 1) := by decide +kernel
theorem d_Cubes_setKind_2 : decode b_Cubes_setKind 2 = .ok (.imul, 1) := by decide +kernel
theorem d_Cubes_setKind_3 : decode b_Cubes_setKind 3 = .ok ((.iload_n 2), 1) := by decide +kernel
theorem d_Cubes_setKind_4 : decode b_Cubes_setKind 4 = .ok (.iadd, 1) := by decide +kernel
theorem d_Cubes_setKind_5 : decode b_Cubes_setKind 5 = .ok ((.istore 4), 2) := by decide +kernel
theorem d_Cubes_setKind_7 : decode b_Cubes_setKind 7 = .ok ((.aload_n 0), 1) := by decide +kernel
theorem d_Cubes_setKind_8 : decode b_Cubes_setKind 8 = .ok ((.getfield 15), 3) := by decide +kernel
theorem d_Cubes_setKind_11 : decode b_Cubes_setKind 11 = .ok ((.iload 4), 2) := by decide +kernel
theorem d_Cubes_setKind_13 : decode b_Cubes_setKind 13 = .ok (.iaload, 1) := by decide +kernel
theorem d_Cubes_setKind_14 : decode b_Cubes_setKind 14 = .ok ((.iload_n 3), 1) := by decide +kernel
theorem d_Cubes_setKind_15 : decode b_Cubes_setKind 15 = .ok ((.if_icmp .ne 5), 3) := by decide +kernel
theorem d_Cubes_setKind_18 : decode b_Cubes_setKind 18 = .ok ((.iconst 0), 1) := by decide +kernel
theorem d_Cubes_setKind_19 : decode b_Cubes_setKind 19 = .ok (.ireturn, 1) := by decide +kernel
theorem d_Cubes_setKind_20 : decode b_Cubes_setKind 20 = .ok ((.aload_n 0), 1) := by decide +kernel
theorem d_Cubes_setKind_21 : decode b_Cubes_setKind 21 = .ok ((.getfield 15), 3) := by decide +kernel
theorem d_Cubes_setKind_24 : decode b_Cubes_setKind 24 = .ok ((.iload 4), 2) := by decide +kernel
theorem d_Cubes_setKind_26 : decode b_Cubes_setKind 26 = .ok ((.iload_n 3), 1) := by decide +kernel
theorem d_Cubes_setKind_27 : decode b_Cubes_setKind 27 = .ok (.iastore, 1) := by decide +kernel
theorem d_Cubes_setKind_28 : decode b_Cubes_setKind 28 = .ok ((.iconst 1), 1) := by decide +kernel
theorem d_Cubes_setKind_29 : decode b_Cubes_setKind 29 = .ok (.ireturn, 1) := by decide +kernel
