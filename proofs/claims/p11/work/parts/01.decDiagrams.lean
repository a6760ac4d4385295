theorem d_Diagrams_init_0 : decode b_Diagrams_init 0 = .ok ((.aload_n 0), 1) := by decide +kernel
theorem d_Diagrams_init_1 : decode b_Diagrams_init 1 = .ok ((.invokespecial 3), 3) := by decide +kernel
theorem d_Diagrams_init_4 : decode b_Diagrams_init 4 = .ok ((.aload_n 0), 1) := by decide +kernel
theorem d_Diagrams_init_5 : decode b_Diagrams_init 5 = .ok ((.iconst 4), 1) := by decide +kernel
theorem d_Diagrams_init_6 : decode b_Diagrams_init 6 = .ok ((.newarray .int), 2) := by decide +kernel
theorem d_Diagrams_init_8 : decode b_Diagrams_init 8 = .ok ((.putfield 9), 3) := by decide +kernel
theorem d_Diagrams_init_11 : decode b_Diagrams_init 11 = .ok ((.aload_n 0), 1) := by decide +kernel
theorem d_Diagrams_init_12 : decode b_Diagrams_init 12 = .ok ((.iconst 2), 1) := by decide +kernel
theorem d_Diagrams_init_13 : decode b_Diagrams_init 13 = .ok ((.newarray .int), 2) := by decide +kernel
theorem d_Diagrams_init_15 : decode b_Diagrams_init 15 = .ok ((.putfield 15), 3) := by decide +kernel
theorem d_Diagrams_init_18 : decode b_Diagrams_init 18 = .ok ((.aload_n 0), 1) := by decide +kernel
theorem d_Diagrams_init_19 : decode b_Diagrams_init 19 = .ok ((.bipush 16), 2) := by decide +kernel
theorem d_Diagrams_init_21 : decode b_Diagrams_init 21 = .ok ((.newarray .int), 2) := by decide +kernel
theorem d_Diagrams_init_23 : decode b_Diagrams_init 23 = .ok ((.putfield 18), 3) := by decide +kernel
theorem d_Diagrams_init_26 : decode b_Diagrams_init 26 = .ok ((.aload_n 0), 1) := by decide +kernel
theorem d_Diagrams_init_27 : decode b_Diagrams_init 27 = .ok ((.iload_n 1), 1) := by decide +kernel
theorem d_Diagrams_init_28 : decode b_Diagrams_init 28 = .ok ((.putfield 21), 3) := by decide +kernel
theorem d_Diagrams_init_31 : decode b_Diagrams_init 31 = .ok ((.aload_n 0), 1) := by decide +kernel
theorem d_Diagrams_init_32 : decode b_Diagrams_init 32 = .ok ((.iload_n 2), 1) := by decide +kernel
theorem d_Diagrams_init_33 : decode b_Diagrams_init 33 = .ok ((.putfield 25), 3) := by decide +kernel
theorem d_Diagrams_init_36 : decode b_Diagrams_init 36 = .ok (.return_, 1) := by decide +kernel
theorem d_Diagrams_nodes_0 : decode b_Diagrams_nodes 0 = .ok ((.aload_n 0), 1) := by decide +kernel
theorem d_Diagrams_nodes_1 : decode b_Diagrams_nodes 1 = .ok ((.iload_n 1), 1) := by decide +kernel
theorem d_Diagrams_nodes_2 : decode b_Diagrams_nodes 2 = .ok ((.invokevirtual 31), 3) := by decide +kernel
theorem d_Diagrams_nodes_5 : decode b_Diagrams_nodes 5 = .ok ((.iconst 0), 1) := by decide +kernel
theorem d_Diagrams_nodes_6 : decode b_Diagrams_nodes 6 = .ok ((.istore_n 3), 1) := by decide +kernel
theorem d_Diagrams_nodes_7 : decode b_Diagrams_nodes 7 = .ok ((.iload_n 3), 1) := by decide +kernel
theorem d_Diagrams_nodes_8 : decode b_Diagrams_nodes 8 = .ok ((.aload_n 0), 1) := by decide +kernel
theorem d_Diagrams_nodes_9 : decode b_Diagrams_nodes 9 = .ok ((.getfield 25), 3) := by decide +kernel
theorem d_Diagrams_nodes_12 : decode b_Diagrams_nodes 12 = .ok ((.if_icmp .ge 24), 3) := by decide +kernel
theorem d_Diagrams_nodes_15 : decode b_Diagrams_nodes 15 = .ok ((.aload_n 0), 1) := by decide +kernel
theorem d_Diagrams_nodes_16 : decode b_Diagrams_nodes 16 = .ok ((.getfield 15), 3) := by decide +kernel
theorem d_Diagrams_nodes_19 : decode b_Diagrams_nodes 19 = .ok ((.iload_n 3), 1) := by decide +kernel
theorem d_Diagrams_nodes_20 : decode b_Diagrams_nodes 20 = .ok ((.aload_n 0), 1) := by decide +kernel
theorem d_Diagrams_nodes_21 : decode b_Diagrams_nodes 21 = .ok ((.aload_n 2), 1) := by decide +kernel
theorem d_Diagrams_nodes_22 : decode b_Diagrams_nodes 22 = .ok ((.iload_n 3), 1) := by decide +kernel
theorem d_Diagrams_nodes_23 : decode b_Diagrams_nodes 23 = .ok ((.invokevirtual 35), 3) := by decide +kernel
theorem d_Diagrams_nodes_26 : decode b_Diagrams_nodes 26 = .ok ((.invokevirtual 41), 3) := by decide +kernel
theorem d_Diagrams_nodes_29 : decode b_Diagrams_nodes 29 = .ok (.iastore, 1) := by decide +kernel
theorem d_Diagrams_nodes_30 : decode b_Diagrams_nodes 30 = .ok ((.iinc 3 1), 3) := by decide +kernel
theorem d_Diagrams_nodes_33 : decode b_Diagrams_nodes 33 = .ok ((.goto (-26)), 3) := by decide +kernel
theorem d_Diagrams_nodes_36 : decode b_Diagrams_nodes 36 = .ok ((.iconst 0), 1) := by decide +kernel
theorem d_Diagrams_nodes_37 : decode b_Diagrams_nodes 37 = .ok ((.istore_n 3), 1) := by decide +kernel
theorem d_Diagrams_nodes_38 : decode b_Diagrams_nodes 38 = .ok ((.iconst 0), 1) := by decide +kernel
theorem d_Diagrams_nodes_39 : decode b_Diagrams_nodes 39 = .ok ((.istore 4), 2) := by decide +kernel
theorem d_Diagrams_nodes_41 : decode b_Diagrams_nodes 41 = .ok ((.iload 4), 2) := by decide +kernel
theorem d_Diagrams_nodes_43 : decode b_Diagrams_nodes 43 = .ok ((.aload_n 0), 1) := by decide +kernel
theorem d_Diagrams_nodes_44 : decode b_Diagrams_nodes 44 = .ok ((.getfield 21), 3) := by decide +kernel
theorem d_Diagrams_nodes_47 : decode b_Diagrams_nodes 47 = .ok ((.if_icmp .ge 18), 3) := by decide +kernel
theorem d_Diagrams_nodes_50 : decode b_Diagrams_nodes 50 = .ok ((.iload_n 3), 1) := by decide +kernel
theorem d_Diagrams_nodes_51 : decode b_Diagrams_nodes 51 = .ok ((.aload_n 0), 1) := by decide +kernel
theorem d_Diagrams_nodes_52 : decode b_Diagrams_nodes 52 = .ok ((.iload 4), 2) := by decide +kernel
theorem d_Diagrams_nodes_54 : decode b_Diagrams_nodes 54 = .ok ((.invokevirtual 44), 3) := by decide +kernel
theorem d_Diagrams_nodes_57 : decode b_Diagrams_nodes 57 = .ok (.iadd, 1) := by decide +kernel
theorem d_Diagrams_nodes_58 : decode b_Diagrams_nodes 58 = .ok ((.istore_n 3), 1) := by decide +kernel
theorem d_Diagrams_nodes_59 : decode b_Diagrams_nodes 59 = .ok ((.iinc 4 1), 3) := by decide +kernel
theorem d_Diagrams_nodes_62 : decode b_Diagrams_nodes 62 = .ok ((.goto (-21)), 3) := by decide +kernel
theorem d_Diagrams_nodes_65 : decode b_Diagrams_nodes 65 = .ok ((.iload_n 3), 1) := by decide +kernel
theorem d_Diagrams_nodes_66 : decode b_Diagrams_nodes 66 = .ok (.ireturn, 1) := by decide +kernel
theorem d_Diagrams_fillAsked_0 : decode b_Diagrams_fillAsked 0 = .ok ((.iload_n 1), 1) := by decide +kernel
theorem d_Diagrams_fillAsked_1 : decode b_Diagrams_fillAsked 1 = .ok ((.istore_n 2), 1) := by decide +kernel
theorem d_Diagrams_fillAsked_2 : decode b_Diagrams_fillAsked 2 = .ok ((.iconst 1), 1) := by decide +kernel
theorem d_Diagrams_fillAsked_3 : decode b_Diagrams_fillAsked 3 = .ok ((.aload_n 0), 1) := by decide +kernel
theorem d_Diagrams_fillAsked_4 : decode b_Diagrams_fillAsked 4 = .ok ((.getfield 21), 3) := by decide +kernel
theorem d_Diagrams_fillAsked_7 : decode b_Diagrams_fillAsked 7 = .ok (.ishl, 1) := by decide +kernel
theorem d_Diagrams_fillAsked_8 : decode b_Diagrams_fillAsked 8 = .ok ((.iconst 1), 1) := by decide +kernel
theorem d_Diagrams_fillAsked_9 : decode b_Diagrams_fillAsked 9 = .ok (.isub, 1) := by decide +kernel
theorem d_Diagrams_fillAsked_10 : decode b_Diagrams_fillAsked 10 = .ok ((.istore_n 3), 1) := by decide +kernel
theorem d_Diagrams_fillAsked_11 : decode b_Diagrams_fillAsked 11 = .ok ((.iconst 0), 1) := by decide +kernel
theorem d_Diagrams_fillAsked_12 : decode b_Diagrams_fillAsked 12 = .ok ((.istore 4), 2) := by decide +kernel
theorem d_Diagrams_fillAsked_14 : decode b_Diagrams_fillAsked 14 = .ok ((.iload 4), 2) := by decide +kernel
theorem d_Diagrams_fillAsked_16 : decode b_Diagrams_fillAsked 16 = .ok ((.aload_n 0), 1) := by decide +kernel
theorem d_Diagrams_fillAsked_17 : decode b_Diagrams_fillAsked 17 = .ok ((.getfield 21), 3) := by decide +kernel
theorem d_Diagrams_fillAsked_20 : decode b_Diagrams_fillAsked 20 = .ok ((.if_icmp .ge 75), 3) := by decide +kernel
theorem d_Diagrams_fillAsked_23 : decode b_Diagrams_fillAsked 23 = .ok ((.getstatic 28), 3) := by decide +kernel
theorem d_Diagrams_fillAsked_26 : decode b_Diagrams_fillAsked 26 = .ok ((.aload_n 0), 1) := by decide +kernel
theorem d_Diagrams_fillAsked_27 : decode b_Diagrams_fillAsked 27 = .ok ((.getfield 21), 3) := by decide +kernel
theorem d_Diagrams_fillAsked_30 : decode b_Diagrams_fillAsked 30 = .ok ((.iconst 1), 1) := by decide +kernel
theorem d_Diagrams_fillAsked_31 : decode b_Diagrams_fillAsked 31 = .ok (.isub, 1) := by decide +kernel
theorem d_Diagrams_fillAsked_32 : decode b_Diagrams_fillAsked 32 = .ok ((.iload 4), 2) := by decide +kernel
theorem d_Diagrams_fillAsked_34 : decode b_Diagrams_fillAsked 34 = .ok (.isub, 1) := by decide +kernel
theorem d_Diagrams_fillAsked_35 : decode b_Diagrams_fillAsked 35 = .ok (.iaload, 1) := by decide +kernel
theorem d_Diagrams_fillAsked_36 : decode b_Diagrams_fillAsked 36 = .ok ((.istore 5), 2) := by decide +kernel
theorem d_Diagrams_fillAsked_38 : decode b_Diagrams_fillAsked 38 = .ok ((.iload 5), 2) := by decide +kernel
theorem d_Diagrams_fillAsked_40 : decode b_Diagrams_fillAsked 40 = .ok ((.ifCond .le 10), 3) := by decide +kernel
theorem d_Diagrams_fillAsked_43 : decode b_Diagrams_fillAsked 43 = .ok ((.iload_n 2), 1) := by decide +kernel
theorem d_Diagrams_fillAsked_44 : decode b_Diagrams_fillAsked 44 = .ok ((.iload 5), 2) := by decide +kernel
theorem d_Diagrams_fillAsked_46 : decode b_Diagrams_fillAsked 46 = .ok (.idiv, 1) := by decide +kernel
theorem d_Diagrams_fillAsked_47 : decode b_Diagrams_fillAsked 47 = .ok ((.goto 4), 3) := by decide +kernel
theorem d_Diagrams_fillAsked_50 : decode b_Diagrams_fillAsked 50 = .ok ((.iconst 0), 1) := by decide +kernel
theorem d_Diagrams_fillAsked_51 : decode b_Diagrams_fillAsked 51 = .ok ((.istore 6), 2) := by decide +kernel
theorem d_Diagrams_fillAsked_53 : decode b_Diagrams_fillAsked 53 = .ok ((.iload_n 2), 1) := by decide +kernel
theorem d_Diagrams_fillAsked_54 : decode b_Diagrams_fillAsked 54 = .ok ((.iload 6), 2) := by decide +kernel
theorem d_Diagrams_fillAsked_56 : decode b_Diagrams_fillAsked 56 = .ok ((.iload 5), 2) := by decide +kernel
theorem d_Diagrams_fillAsked_58 : decode b_Diagrams_fillAsked 58 = .ok (.imul, 1) := by decide +kernel
theorem d_Diagrams_fillAsked_59 : decode b_Diagrams_fillAsked 59 = .ok (.isub, 1) := by decide +kernel
theorem d_Diagrams_fillAsked_60 : decode b_Diagrams_fillAsked 60 = .ok ((.istore_n 2), 1) := by decide +kernel
theorem d_Diagrams_fillAsked_61 : decode b_Diagrams_fillAsked 61 = .ok ((.aload_n 0), 1) := by decide +kernel
theorem d_Diagrams_fillAsked_62 : decode b_Diagrams_fillAsked 62 = .ok ((.getfield 9), 3) := by decide +kernel
theorem d_Diagrams_fillAsked_65 : decode b_Diagrams_fillAsked 65 = .ok ((.iload 4), 2) := by decide +kernel
theorem d_Diagrams_fillAsked_67 : decode b_Diagrams_fillAsked 67 = .ok ((.aload_n 0), 1) := by decide +kernel
theorem d_Diagrams_fillAsked_68 : decode b_Diagrams_fillAsked 68 = .ok ((.iload_n 3), 1) := by decide +kernel
theorem d_Diagrams_fillAsked_69 : decode b_Diagrams_fillAsked 69 = .ok ((.iload 6), 2) := by decide +kernel
theorem d_Diagrams_fillAsked_71 : decode b_Diagrams_fillAsked 71 = .ok ((.invokevirtual 47), 3) := by decide +kernel
theorem d_Diagrams_fillAsked_74 : decode b_Diagrams_fillAsked 74 = .ok (.iastore, 1) := by decide +kernel
theorem d_Diagrams_fillAsked_75 : decode b_Diagrams_fillAsked 75 = .ok ((.iload_n 3), 1) := by decide +kernel
theorem d_Diagrams_fillAsked_76 : decode b_Diagrams_fillAsked 76 = .ok ((.iconst 1), 1) := by decide +kernel
theorem d_Diagrams_fillAsked_77 : decode b_Diagrams_fillAsked 77 = .ok ((.aload_n 0), 1) := by decide +kernel
theorem d_Diagrams_fillAsked_78 : decode b_Diagrams_fillAsked 78 = .ok ((.getfield 9), 3) := by decide +kernel
theorem d_Diagrams_fillAsked_81 : decode b_Diagrams_fillAsked 81 = .ok ((.iload 4), 2) := by decide +kernel
theorem d_Diagrams_fillAsked_83 : decode b_Diagrams_fillAsked 83 = .ok (.iaload, 1) := by decide +kernel
theorem d_Diagrams_fillAsked_84 : decode b_Diagrams_fillAsked 84 = .ok (.ishl, 1) := by decide +kernel
theorem d_Diagrams_fillAsked_85 : decode b_Diagrams_fillAsked 85 = .ok ((.iconst (-1)), 1) := by decide +kernel
theorem d_Diagrams_fillAsked_86 : decode b_Diagrams_fillAsked 86 = .ok (.ixor, 1) := by decide +kernel
theorem d_Diagrams_fillAsked_87 : decode b_Diagrams_fillAsked 87 = .ok (.iand, 1) := by decide +kernel
theorem d_Diagrams_fillAsked_88 : decode b_Diagrams_fillAsked 88 = .ok ((.istore_n 3), 1) := by decide +kernel
theorem d_Diagrams_fillAsked_89 : decode b_Diagrams_fillAsked 89 = .ok ((.iinc 4 1), 3) := by decide +kernel
theorem d_Diagrams_fillAsked_92 : decode b_Diagrams_fillAsked 92 = .ok ((.goto (-78)), 3) := by decide +kernel
theorem d_Diagrams_fillAsked_95 : decode b_Diagrams_fillAsked 95 = .ok (.return_, 1) := by decide +kernel
theorem d_Diagrams_inputAfter_0 : decode b_Diagrams_inputAfter 0 = .ok ((.iconst 0), 1) := by decide +kernel
theorem d_Diagrams_inputAfter_1 : decode b_Diagrams_inputAfter 1 = .ok ((.istore_n 3), 1) := by decide +kernel
theorem d_Diagrams_inputAfter_2 : decode b_Diagrams_inputAfter 2 = .ok ((.iconst 0), 1) := by decide +kernel
theorem d_Diagrams_inputAfter_3 : decode b_Diagrams_inputAfter 3 = .ok ((.istore 4), 2) := by decide +kernel
theorem d_Diagrams_inputAfter_5 : decode b_Diagrams_inputAfter 5 = .ok ((.iload 4), 2) := by decide +kernel
theorem d_Diagrams_inputAfter_7 : decode b_Diagrams_inputAfter 7 = .ok ((.aload_n 0), 1) := by decide +kernel
theorem d_Diagrams_inputAfter_8 : decode b_Diagrams_inputAfter 8 = .ok ((.getfield 21), 3) := by decide +kernel
theorem d_Diagrams_inputAfter_11 : decode b_Diagrams_inputAfter 11 = .ok ((.if_icmp .ge 30), 3) := by decide +kernel
theorem d_Diagrams_inputAfter_14 : decode b_Diagrams_inputAfter 14 = .ok ((.iload_n 1), 1) := by decide +kernel
theorem d_Diagrams_inputAfter_15 : decode b_Diagrams_inputAfter 15 = .ok ((.iload 4), 2) := by decide +kernel
theorem d_Diagrams_inputAfter_17 : decode b_Diagrams_inputAfter 17 = .ok (.ishr, 1) := by decide +kernel
theorem d_Diagrams_inputAfter_18 : decode b_Diagrams_inputAfter 18 = .ok ((.iconst 1), 1) := by decide +kernel
theorem d_Diagrams_inputAfter_19 : decode b_Diagrams_inputAfter 19 = .ok (.iand, 1) := by decide +kernel
theorem d_Diagrams_inputAfter_20 : decode b_Diagrams_inputAfter 20 = .ok ((.iconst 1), 1) := by decide +kernel
theorem d_Diagrams_inputAfter_21 : decode b_Diagrams_inputAfter 21 = .ok ((.if_icmp .ne 14), 3) := by decide +kernel
theorem d_Diagrams_inputAfter_24 : decode b_Diagrams_inputAfter 24 = .ok ((.iload_n 3), 1) := by decide +kernel
theorem d_Diagrams_inputAfter_25 : decode b_Diagrams_inputAfter 25 = .ok ((.iload_n 2), 1) := by decide +kernel
theorem d_Diagrams_inputAfter_26 : decode b_Diagrams_inputAfter 26 = .ok ((.if_icmp .ne 6), 3) := by decide +kernel
theorem d_Diagrams_inputAfter_29 : decode b_Diagrams_inputAfter 29 = .ok ((.iload 4), 2) := by decide +kernel
theorem d_Diagrams_inputAfter_31 : decode b_Diagrams_inputAfter 31 = .ok (.ireturn, 1) := by decide +kernel
theorem d_Diagrams_inputAfter_32 : decode b_Diagrams_inputAfter 32 = .ok ((.iinc 3 1), 3) := by decide +kernel
theorem d_Diagrams_inputAfter_35 : decode b_Diagrams_inputAfter 35 = .ok ((.iinc 4 1), 3) := by decide +kernel
theorem d_Diagrams_inputAfter_38 : decode b_Diagrams_inputAfter 38 = .ok ((.goto (-33)), 3) := by decide +kernel
theorem d_Diagrams_inputAfter_41 : decode b_Diagrams_inputAfter 41 = .ok ((.iconst 0), 1) := by decide +kernel
theorem d_Diagrams_inputAfter_42 : decode b_Diagrams_inputAfter 42 = .ok (.ireturn, 1) := by decide +kernel
theorem d_Diagrams_reordered_0 : decode b_Diagrams_reordered 0 = .ok ((.iconst 0), 1) := by decide +kernel
theorem d_Diagrams_reordered_1 : decode b_Diagrams_reordered 1 = .ok ((.istore_n 2), 1) := by decide +kernel
theorem d_Diagrams_reordered_2 : decode b_Diagrams_reordered 2 = .ok ((.iconst 0), 1) := by decide +kernel
theorem d_Diagrams_reordered_3 : decode b_Diagrams_reordered 3 = .ok ((.istore_n 3), 1) := by decide +kernel
theorem d_Diagrams_reordered_4 : decode b_Diagrams_reordered 4 = .ok ((.iload_n 3), 1) := by decide +kernel
theorem d_Diagrams_reordered_5 : decode b_Diagrams_reordered 5 = .ok ((.iconst 1), 1) := by decide +kernel
theorem d_Diagrams_reordered_6 : decode b_Diagrams_reordered 6 = .ok ((.aload_n 0), 1) := by decide +kernel
theorem d_Diagrams_reordered_7 : decode b_Diagrams_reordered 7 = .ok ((.getfield 21), 3) := by decide +kernel
theorem d_Diagrams_reordered_10 : decode b_Diagrams_reordered 10 = .ok (.ishl, 1) := by decide +kernel
theorem d_Diagrams_reordered_11 : decode b_Diagrams_reordered 11 = .ok ((.if_icmp .ge 71), 3) := by decide +kernel
theorem d_Diagrams_reordered_14 : decode b_Diagrams_reordered 14 = .ok ((.iconst 0), 1) := by decide +kernel
theorem d_Diagrams_reordered_15 : decode b_Diagrams_reordered 15 = .ok ((.istore 4), 2) := by decide +kernel
theorem d_Diagrams_reordered_17 : decode b_Diagrams_reordered 17 = .ok ((.iconst 0), 1) := by decide +kernel
theorem d_Diagrams_reordered_18 : decode b_Diagrams_reordered 18 = .ok ((.istore 5), 2) := by decide +kernel
theorem d_Diagrams_reordered_20 : decode b_Diagrams_reordered 20 = .ok ((.iload 5), 2) := by decide +kernel
theorem d_Diagrams_reordered_22 : decode b_Diagrams_reordered 22 = .ok ((.aload_n 0), 1) := by decide +kernel
theorem d_Diagrams_reordered_23 : decode b_Diagrams_reordered 23 = .ok ((.getfield 21), 3) := by decide +kernel
theorem d_Diagrams_reordered_26 : decode b_Diagrams_reordered 26 = .ok ((.if_icmp .ge 39), 3) := by decide +kernel
theorem d_Diagrams_reordered_29 : decode b_Diagrams_reordered 29 = .ok ((.iload_n 3), 1) := by decide +kernel
theorem d_Diagrams_reordered_30 : decode b_Diagrams_reordered 30 = .ok ((.aload_n 0), 1) := by decide +kernel
theorem d_Diagrams_reordered_31 : decode b_Diagrams_reordered 31 = .ok ((.getfield 21), 3) := by decide +kernel
theorem d_Diagrams_reordered_34 : decode b_Diagrams_reordered 34 = .ok ((.iconst 1), 1) := by decide +kernel
theorem d_Diagrams_reordered_35 : decode b_Diagrams_reordered 35 = .ok (.isub, 1) := by decide +kernel
theorem d_Diagrams_reordered_36 : decode b_Diagrams_reordered 36 = .ok ((.iload 5), 2) := by decide +kernel
theorem d_Diagrams_reordered_38 : decode b_Diagrams_reordered 38 = .ok (.isub, 1) := by decide +kernel
theorem d_Diagrams_reordered_39 : decode b_Diagrams_reordered 39 = .ok (.ishr, 1) := by decide +kernel
theorem d_Diagrams_reordered_40 : decode b_Diagrams_reordered 40 = .ok ((.iconst 1), 1) := by decide +kernel
theorem d_Diagrams_reordered_41 : decode b_Diagrams_reordered 41 = .ok (.iand, 1) := by decide +kernel
theorem d_Diagrams_reordered_42 : decode b_Diagrams_reordered 42 = .ok ((.istore 6), 2) := by decide +kernel
theorem d_Diagrams_reordered_44 : decode b_Diagrams_reordered 44 = .ok ((.iload 4), 2) := by decide +kernel
theorem d_Diagrams_reordered_46 : decode b_Diagrams_reordered 46 = .ok ((.iload 6), 2) := by decide +kernel
theorem d_Diagrams_reordered_48 : decode b_Diagrams_reordered 48 = .ok ((.aload_n 0), 1) := by decide +kernel
theorem d_Diagrams_reordered_49 : decode b_Diagrams_reordered 49 = .ok ((.getfield 9), 3) := by decide +kernel
theorem d_Diagrams_reordered_52 : decode b_Diagrams_reordered 52 = .ok ((.iload 5), 2) := by decide +kernel
theorem d_Diagrams_reordered_54 : decode b_Diagrams_reordered 54 = .ok (.iaload, 1) := by decide +kernel
theorem d_Diagrams_reordered_55 : decode b_Diagrams_reordered 55 = .ok (.ishl, 1) := by decide +kernel
theorem d_Diagrams_reordered_56 : decode b_Diagrams_reordered 56 = .ok (.ior, 1) := by decide +kernel
theorem d_Diagrams_reordered_57 : decode b_Diagrams_reordered 57 = .ok ((.istore 4), 2) := by decide +kernel
theorem d_Diagrams_reordered_59 : decode b_Diagrams_reordered 59 = .ok ((.iinc 5 1), 3) := by decide +kernel
theorem d_Diagrams_reordered_62 : decode b_Diagrams_reordered 62 = .ok ((.goto (-42)), 3) := by decide +kernel
theorem d_Diagrams_reordered_65 : decode b_Diagrams_reordered 65 = .ok ((.iload_n 2), 1) := by decide +kernel
theorem d_Diagrams_reordered_66 : decode b_Diagrams_reordered 66 = .ok ((.iload_n 1), 1) := by decide +kernel
theorem d_Diagrams_reordered_67 : decode b_Diagrams_reordered 67 = .ok ((.iload 4), 2) := by decide +kernel
theorem d_Diagrams_reordered_69 : decode b_Diagrams_reordered 69 = .ok (.ishr, 1) := by decide +kernel
theorem d_Diagrams_reordered_70 : decode b_Diagrams_reordered 70 = .ok ((.iconst 1), 1) := by decide +kernel
theorem d_Diagrams_reordered_71 : decode b_Diagrams_reordered 71 = .ok (.iand, 1) := by decide +kernel
theorem d_Diagrams_reordered_72 : decode b_Diagrams_reordered 72 = .ok ((.iload_n 3), 1) := by decide +kernel
theorem d_Diagrams_reordered_73 : decode b_Diagrams_reordered 73 = .ok (.ishl, 1) := by decide +kernel
theorem d_Diagrams_reordered_74 : decode b_Diagrams_reordered 74 = .ok (.ior, 1) := by decide +kernel
theorem d_Diagrams_reordered_75 : decode b_Diagrams_reordered 75 = .ok ((.istore_n 2), 1) := by decide +kernel
theorem d_Diagrams_reordered_76 : decode b_Diagrams_reordered 76 = .ok ((.iinc 3 1), 3) := by decide +kernel
theorem d_Diagrams_reordered_79 : decode b_Diagrams_reordered 79 = .ok ((.goto (-75)), 3) := by decide +kernel
theorem d_Diagrams_reordered_82 : decode b_Diagrams_reordered 82 = .ok ((.iload_n 2), 1) := by decide +kernel
theorem d_Diagrams_reordered_83 : decode b_Diagrams_reordered 83 = .ok (.ireturn, 1) := by decide +kernel
theorem d_Diagrams_nodesOfLevel_0 : decode b_Diagrams_nodesOfLevel 0 = .ok ((.iconst 1), 1) := by decide +kernel
theorem d_Diagrams_nodesOfLevel_1 : decode b_Diagrams_nodesOfLevel 1 = .ok ((.aload_n 0), 1) := by decide +kernel
theorem d_Diagrams_nodesOfLevel_2 : decode b_Diagrams_nodesOfLevel 2 = .ok ((.getfield 21), 3) := by decide +kernel
theorem d_Diagrams_nodesOfLevel_5 : decode b_Diagrams_nodesOfLevel 5 = .ok ((.iconst 1), 1) := by decide +kernel
theorem d_Diagrams_nodesOfLevel_6 : decode b_Diagrams_nodesOfLevel 6 = .ok (.isub, 1) := by decide +kernel
theorem d_Diagrams_nodesOfLevel_7 : decode b_Diagrams_nodesOfLevel 7 = .ok ((.iload_n 1), 1) := by decide +kernel
theorem d_Diagrams_nodesOfLevel_8 : decode b_Diagrams_nodesOfLevel 8 = .ok (.isub, 1) := by decide +kernel
theorem d_Diagrams_nodesOfLevel_9 : decode b_Diagrams_nodesOfLevel 9 = .ok (.ishl, 1) := by decide +kernel
theorem d_Diagrams_nodesOfLevel_10 : decode b_Diagrams_nodesOfLevel 10 = .ok ((.istore_n 2), 1) := by decide +kernel
theorem d_Diagrams_nodesOfLevel_11 : decode b_Diagrams_nodesOfLevel 11 = .ok ((.iconst 1), 1) := by decide +kernel
theorem d_Diagrams_nodesOfLevel_12 : decode b_Diagrams_nodesOfLevel 12 = .ok ((.iload_n 2), 1) := by decide +kernel
theorem d_Diagrams_nodesOfLevel_13 : decode b_Diagrams_nodesOfLevel 13 = .ok (.ishl, 1) := by decide +kernel
theorem d_Diagrams_nodesOfLevel_14 : decode b_Diagrams_nodesOfLevel 14 = .ok ((.iconst 1), 1) := by decide +kernel
theorem d_Diagrams_nodesOfLevel_15 : decode b_Diagrams_nodesOfLevel 15 = .ok (.isub, 1) := by decide +kernel
theorem d_Diagrams_nodesOfLevel_16 : decode b_Diagrams_nodesOfLevel 16 = .ok ((.istore_n 3), 1) := by decide +kernel
theorem d_Diagrams_nodesOfLevel_17 : decode b_Diagrams_nodesOfLevel 17 = .ok ((.iconst 0), 1) := by decide +kernel
theorem d_Diagrams_nodesOfLevel_18 : decode b_Diagrams_nodesOfLevel 18 = .ok ((.istore 4), 2) := by decide +kernel
theorem d_Diagrams_nodesOfLevel_20 : decode b_Diagrams_nodesOfLevel 20 = .ok ((.iconst 0), 1) := by decide +kernel
theorem d_Diagrams_nodesOfLevel_21 : decode b_Diagrams_nodesOfLevel 21 = .ok ((.istore 5), 2) := by decide +kernel
theorem d_Diagrams_nodesOfLevel_23 : decode b_Diagrams_nodesOfLevel 23 = .ok ((.iload 5), 2) := by decide +kernel
theorem d_Diagrams_nodesOfLevel_25 : decode b_Diagrams_nodesOfLevel 25 = .ok ((.aload_n 0), 1) := by decide +kernel
theorem d_Diagrams_nodesOfLevel_26 : decode b_Diagrams_nodesOfLevel 26 = .ok ((.getfield 25), 3) := by decide +kernel
theorem d_Diagrams_nodesOfLevel_29 : decode b_Diagrams_nodesOfLevel 29 = .ok ((.if_icmp .ge 95), 3) := by decide +kernel
theorem d_Diagrams_nodesOfLevel_32 : decode b_Diagrams_nodesOfLevel 32 = .ok ((.iconst 0), 1) := by decide +kernel
theorem d_Diagrams_nodesOfLevel_33 : decode b_Diagrams_nodesOfLevel 33 = .ok ((.istore 6), 2) := by decide +kernel
theorem d_Diagrams_nodesOfLevel_35 : decode b_Diagrams_nodesOfLevel 35 = .ok ((.iload 6), 2) := by decide +kernel
theorem d_Diagrams_nodesOfLevel_37 : decode b_Diagrams_nodesOfLevel 37 = .ok ((.iconst 1), 1) := by decide +kernel
theorem d_Diagrams_nodesOfLevel_38 : decode b_Diagrams_nodesOfLevel 38 = .ok ((.iload_n 1), 1) := by decide +kernel
theorem d_Diagrams_nodesOfLevel_39 : decode b_Diagrams_nodesOfLevel 39 = .ok (.ishl, 1) := by decide +kernel
theorem d_Diagrams_nodesOfLevel_40 : decode b_Diagrams_nodesOfLevel 40 = .ok ((.if_icmp .ge 78), 3) := by decide +kernel
theorem d_Diagrams_nodesOfLevel_43 : decode b_Diagrams_nodesOfLevel 43 = .ok ((.aload_n 0), 1) := by decide +kernel
theorem d_Diagrams_nodesOfLevel_44 : decode b_Diagrams_nodesOfLevel 44 = .ok ((.getfield 15), 3) := by decide +kernel
theorem d_Diagrams_nodesOfLevel_47 : decode b_Diagrams_nodesOfLevel 47 = .ok ((.iload 5), 2) := by decide +kernel
theorem d_Diagrams_nodesOfLevel_49 : decode b_Diagrams_nodesOfLevel 49 = .ok (.iaload, 1) := by decide +kernel
theorem d_Diagrams_nodesOfLevel_50 : decode b_Diagrams_nodesOfLevel 50 = .ok ((.iload 6), 2) := by decide +kernel
theorem d_Diagrams_nodesOfLevel_52 : decode b_Diagrams_nodesOfLevel 52 = .ok ((.iconst 2), 1) := by decide +kernel
theorem d_Diagrams_nodesOfLevel_53 : decode b_Diagrams_nodesOfLevel 53 = .ok (.imul, 1) := by decide +kernel
theorem d_Diagrams_nodesOfLevel_54 : decode b_Diagrams_nodesOfLevel 54 = .ok ((.iload_n 2), 1) := by decide +kernel
theorem d_Diagrams_nodesOfLevel_55 : decode b_Diagrams_nodesOfLevel 55 = .ok (.imul, 1) := by decide +kernel
theorem d_Diagrams_nodesOfLevel_56 : decode b_Diagrams_nodesOfLevel 56 = .ok (.ishr, 1) := by decide +kernel
theorem d_Diagrams_nodesOfLevel_57 : decode b_Diagrams_nodesOfLevel 57 = .ok ((.istore 7), 2) := by decide +kernel
theorem d_Diagrams_nodesOfLevel_59 : decode b_Diagrams_nodesOfLevel 59 = .ok ((.iload 7), 2) := by decide +kernel
theorem d_Diagrams_nodesOfLevel_61 : decode b_Diagrams_nodesOfLevel 61 = .ok ((.iload_n 3), 1) := by decide +kernel
theorem d_Diagrams_nodesOfLevel_62 : decode b_Diagrams_nodesOfLevel 62 = .ok (.iand, 1) := by decide +kernel
theorem d_Diagrams_nodesOfLevel_63 : decode b_Diagrams_nodesOfLevel 63 = .ok ((.istore 8), 2) := by decide +kernel
theorem d_Diagrams_nodesOfLevel_65 : decode b_Diagrams_nodesOfLevel 65 = .ok ((.iload 7), 2) := by decide +kernel
theorem d_Diagrams_nodesOfLevel_67 : decode b_Diagrams_nodesOfLevel 67 = .ok ((.iload_n 2), 1) := by decide +kernel
theorem d_Diagrams_nodesOfLevel_68 : decode b_Diagrams_nodesOfLevel 68 = .ok (.ishr, 1) := by decide +kernel
theorem d_Diagrams_nodesOfLevel_69 : decode b_Diagrams_nodesOfLevel 69 = .ok ((.iload_n 3), 1) := by decide +kernel
theorem d_Diagrams_nodesOfLevel_70 : decode b_Diagrams_nodesOfLevel 70 = .ok (.iand, 1) := by decide +kernel
theorem d_Diagrams_nodesOfLevel_71 : decode b_Diagrams_nodesOfLevel 71 = .ok ((.istore 9), 2) := by decide +kernel
theorem d_Diagrams_nodesOfLevel_73 : decode b_Diagrams_nodesOfLevel 73 = .ok ((.iload 9), 2) := by decide +kernel
theorem d_Diagrams_nodesOfLevel_75 : decode b_Diagrams_nodesOfLevel 75 = .ok ((.iload_n 2), 1) := by decide +kernel
theorem d_Diagrams_nodesOfLevel_76 : decode b_Diagrams_nodesOfLevel 76 = .ok (.ishl, 1) := by decide +kernel
theorem d_Diagrams_nodesOfLevel_77 : decode b_Diagrams_nodesOfLevel 77 = .ok ((.iload 8), 2) := by decide +kernel
theorem d_Diagrams_nodesOfLevel_79 : decode b_Diagrams_nodesOfLevel 79 = .ok (.ior, 1) := by decide +kernel
theorem d_Diagrams_nodesOfLevel_80 : decode b_Diagrams_nodesOfLevel 80 = .ok ((.istore 10), 2) := by decide +kernel
theorem d_Diagrams_nodesOfLevel_82 : decode b_Diagrams_nodesOfLevel 82 = .ok ((.iload 8), 2) := by decide +kernel
theorem d_Diagrams_nodesOfLevel_84 : decode b_Diagrams_nodesOfLevel 84 = .ok ((.iload 9), 2) := by decide +kernel
theorem d_Diagrams_nodesOfLevel_86 : decode b_Diagrams_nodesOfLevel 86 = .ok ((.if_icmp .eq 26), 3) := by decide +kernel
theorem d_Diagrams_nodesOfLevel_89 : decode b_Diagrams_nodesOfLevel 89 = .ok ((.aload_n 0), 1) := by decide +kernel
theorem d_Diagrams_nodesOfLevel_90 : decode b_Diagrams_nodesOfLevel 90 = .ok ((.iload 10), 2) := by decide +kernel
theorem d_Diagrams_nodesOfLevel_92 : decode b_Diagrams_nodesOfLevel 92 = .ok ((.iload 4), 2) := by decide +kernel
theorem d_Diagrams_nodesOfLevel_94 : decode b_Diagrams_nodesOfLevel 94 = .ok ((.invokevirtual 51), 3) := by decide +kernel
theorem d_Diagrams_nodesOfLevel_97 : decode b_Diagrams_nodesOfLevel 97 = .ok ((.ifCond .ne 15), 3) := by decide +kernel
theorem d_Diagrams_nodesOfLevel_100 : decode b_Diagrams_nodesOfLevel 100 = .ok ((.aload_n 0), 1) := by decide +kernel
theorem d_Diagrams_nodesOfLevel_101 : decode b_Diagrams_nodesOfLevel 101 = .ok ((.getfield 18), 3) := by decide +kernel
theorem d_Diagrams_nodesOfLevel_104 : decode b_Diagrams_nodesOfLevel 104 = .ok ((.iload 4), 2) := by decide +kernel
theorem d_Diagrams_nodesOfLevel_106 : decode b_Diagrams_nodesOfLevel 106 = .ok ((.iload 10), 2) := by decide +kernel
theorem d_Diagrams_nodesOfLevel_108 : decode b_Diagrams_nodesOfLevel 108 = .ok (.iastore, 1) := by decide +kernel
theorem d_Diagrams_nodesOfLevel_109 : decode b_Diagrams_nodesOfLevel 109 = .ok ((.iinc 4 1), 3) := by decide +kernel
theorem d_Diagrams_nodesOfLevel_112 : decode b_Diagrams_nodesOfLevel 112 = .ok ((.iinc 6 1), 3) := by decide +kernel
theorem d_Diagrams_nodesOfLevel_115 : decode b_Diagrams_nodesOfLevel 115 = .ok ((.goto (-80)), 3) := by decide +kernel
theorem d_Diagrams_nodesOfLevel_118 : decode b_Diagrams_nodesOfLevel 118 = .ok ((.iinc 5 1), 3) := by decide +kernel
theorem d_Diagrams_nodesOfLevel_121 : decode b_Diagrams_nodesOfLevel 121 = .ok ((.goto (-98)), 3) := by decide +kernel
theorem d_Diagrams_nodesOfLevel_124 : decode b_Diagrams_nodesOfLevel 124 = .ok ((.iload 4), 2) := by decide +kernel
theorem d_Diagrams_nodesOfLevel_126 : decode b_Diagrams_nodesOfLevel 126 = .ok (.ireturn, 1) := by decide +kernel
theorem d_Diagrams_isSeen_0 : decode b_Diagrams_isSeen 0 = .ok ((.iconst 0), 1) := by decide +kernel
theorem d_Diagrams_isSeen_1 : decode b_Diagrams_isSeen 1 = .ok ((.istore_n 3), 1) := by decide +kernel
theorem d_Diagrams_isSeen_2 : decode b_Diagrams_isSeen 2 = .ok ((.iload_n 3), 1) := by decide +kernel
theorem d_Diagrams_isSeen_3 : decode b_Diagrams_isSeen 3 = .ok ((.iload_n 2), 1) := by decide +kernel
theorem d_Diagrams_isSeen_4 : decode b_Diagrams_isSeen 4 = .ok ((.if_icmp .ge 21), 3) := by decide +kernel
theorem d_Diagrams_isSeen_7 : decode b_Diagrams_isSeen 7 = .ok ((.aload_n 0), 1) := by decide +kernel
theorem d_Diagrams_isSeen_8 : decode b_Diagrams_isSeen 8 = .ok ((.getfield 18), 3) := by decide +kernel
theorem d_Diagrams_isSeen_11 : decode b_Diagrams_isSeen 11 = .ok ((.iload_n 3), 1) := by decide +kernel
theorem d_Diagrams_isSeen_12 : decode b_Diagrams_isSeen 12 = .ok (.iaload, 1) := by decide +kernel
theorem d_Diagrams_isSeen_13 : decode b_Diagrams_isSeen 13 = .ok ((.iload_n 1), 1) := by decide +kernel
theorem d_Diagrams_isSeen_14 : decode b_Diagrams_isSeen 14 = .ok ((.if_icmp .ne 5), 3) := by decide +kernel
theorem d_Diagrams_isSeen_17 : decode b_Diagrams_isSeen 17 = .ok ((.iconst 1), 1) := by decide +kernel
theorem d_Diagrams_isSeen_18 : decode b_Diagrams_isSeen 18 = .ok (.ireturn, 1) := by decide +kernel
theorem d_Diagrams_isSeen_19 : decode b_Diagrams_isSeen 19 = .ok ((.iinc 3 1), 3) := by decide +kernel
theorem d_Diagrams_isSeen_22 : decode b_Diagrams_isSeen 22 = .ok ((.goto (-20)), 3) := by decide +kernel
theorem d_Diagrams_isSeen_25 : decode b_Diagrams_isSeen 25 = .ok ((.iconst 0), 1) := by decide +kernel
theorem d_Diagrams_isSeen_26 : decode b_Diagrams_isSeen 26 = .ok (.ireturn, 1) := by decide +kernel
theorem d_Diagrams_orders_0 : decode b_Diagrams_orders 0 = .ok ((.getstatic 28), 3) := by decide +kernel
theorem d_Diagrams_orders_3 : decode b_Diagrams_orders 3 = .ok ((.aload_n 0), 1) := by decide +kernel
theorem d_Diagrams_orders_4 : decode b_Diagrams_orders 4 = .ok ((.getfield 21), 3) := by decide +kernel
theorem d_Diagrams_orders_7 : decode b_Diagrams_orders 7 = .ok (.iaload, 1) := by decide +kernel
theorem d_Diagrams_orders_8 : decode b_Diagrams_orders 8 = .ok (.ireturn, 1) := by decide +kernel
