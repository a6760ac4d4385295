theorem d_Terms_init_0 : decode b_Terms_init 0 = .ok ((.aload_n 0), 1) := by decide +kernel
theorem d_Terms_init_1 : decode b_Terms_init 1 = .ok ((.invokespecial 3), 3) := by decide +kernel
theorem d_Terms_init_4 : decode b_Terms_init 4 = .ok ((.aload_n 0), 1) := by decide +kernel
theorem d_Terms_init_5 : decode b_Terms_init 5 = .ok ((.bipush 81), 2) := by decide +kernel
theorem d_Terms_init_7 : decode b_Terms_init 7 = .ok ((.newarray .int), 2) := by decide +kernel
theorem d_Terms_init_9 : decode b_Terms_init 9 = .ok ((.putfield 9), 3) := by decide +kernel
theorem d_Terms_init_12 : decode b_Terms_init 12 = .ok ((.aload_n 0), 1) := by decide +kernel
theorem d_Terms_init_13 : decode b_Terms_init 13 = .ok ((.bipush 81), 2) := by decide +kernel
theorem d_Terms_init_15 : decode b_Terms_init 15 = .ok ((.newarray .int), 2) := by decide +kernel
theorem d_Terms_init_17 : decode b_Terms_init 17 = .ok ((.putfield 15), 3) := by decide +kernel
theorem d_Terms_init_20 : decode b_Terms_init 20 = .ok ((.aload_n 0), 1) := by decide +kernel
theorem d_Terms_init_21 : decode b_Terms_init 21 = .ok ((.aload_n 1), 1) := by decide +kernel
theorem d_Terms_init_22 : decode b_Terms_init 22 = .ok ((.putfield 18), 3) := by decide +kernel
theorem d_Terms_init_25 : decode b_Terms_init 25 = .ok ((.aload_n 0), 1) := by decide +kernel
theorem d_Terms_init_26 : decode b_Terms_init 26 = .ok ((.iconst 0), 1) := by decide +kernel
theorem d_Terms_init_27 : decode b_Terms_init 27 = .ok ((.putfield 22), 3) := by decide +kernel
theorem d_Terms_init_30 : decode b_Terms_init 30 = .ok (.return_, 1) := by decide +kernel
theorem d_Terms_dropAll_0 : decode b_Terms_dropAll 0 = .ok ((.aload_n 0), 1) := by decide +kernel
theorem d_Terms_dropAll_1 : decode b_Terms_dropAll 1 = .ok ((.iconst 0), 1) := by decide +kernel
theorem d_Terms_dropAll_2 : decode b_Terms_dropAll 2 = .ok ((.putfield 22), 3) := by decide +kernel
theorem d_Terms_dropAll_5 : decode b_Terms_dropAll 5 = .ok (.return_, 1) := by decide +kernel
theorem d_Terms_add_0 : decode b_Terms_add 0 = .ok ((.aload_n 0), 1) := by decide +kernel
theorem d_Terms_add_1 : decode b_Terms_add 1 = .ok ((.getfield 22), 3) := by decide +kernel
theorem d_Terms_add_4 : decode b_Terms_add 4 = .ok ((.bipush 81), 2) := by decide +kernel
theorem d_Terms_add_6 : decode b_Terms_add 6 = .ok ((.if_icmp .ge 33), 3) := by decide +kernel
theorem d_Terms_add_9 : decode b_Terms_add 9 = .ok ((.aload_n 0), 1) := by decide +kernel
theorem d_Terms_add_10 : decode b_Terms_add 10 = .ok ((.getfield 9), 3) := by decide +kernel
theorem d_Terms_add_13 : decode b_Terms_add 13 = .ok ((.aload_n 0), 1) := by decide +kernel
theorem d_Terms_add_14 : decode b_Terms_add 14 = .ok ((.getfield 22), 3) := by decide +kernel
theorem d_Terms_add_17 : decode b_Terms_add 17 = .ok ((.iload_n 1), 1) := by decide +kernel
theorem d_Terms_add_18 : decode b_Terms_add 18 = .ok (.iastore, 1) := by decide +kernel
theorem d_Terms_add_19 : decode b_Terms_add 19 = .ok ((.aload_n 0), 1) := by decide +kernel
theorem d_Terms_add_20 : decode b_Terms_add 20 = .ok ((.getfield 15), 3) := by decide +kernel
theorem d_Terms_add_23 : decode b_Terms_add 23 = .ok ((.aload_n 0), 1) := by decide +kernel
theorem d_Terms_add_24 : decode b_Terms_add 24 = .ok ((.getfield 22), 3) := by decide +kernel
theorem d_Terms_add_27 : decode b_Terms_add 27 = .ok ((.iload_n 2), 1) := by decide +kernel
theorem d_Terms_add_28 : decode b_Terms_add 28 = .ok (.iastore, 1) := by decide +kernel
theorem d_Terms_add_29 : decode b_Terms_add 29 = .ok ((.aload_n 0), 1) := by decide +kernel
theorem d_Terms_add_30 : decode b_Terms_add 30 = .ok (.dup, 1) := by decide +kernel
theorem d_Terms_add_31 : decode b_Terms_add 31 = .ok ((.getfield 22), 3) := by decide +kernel
theorem d_Terms_add_34 : decode b_Terms_add 34 = .ok ((.iconst 1), 1) := by decide +kernel
theorem d_Terms_add_35 : decode b_Terms_add 35 = .ok (.iadd, 1) := by decide +kernel
theorem d_Terms_add_36 : decode b_Terms_add 36 = .ok ((.putfield 22), 3) := by decide +kernel
theorem d_Terms_add_39 : decode b_Terms_add 39 = .ok (.return_, 1) := by decide +kernel
theorem d_Terms_size_0 : decode b_Terms_size 0 = .ok ((.aload_n 0), 1) := by decide +kernel
theorem d_Terms_size_1 : decode b_Terms_size 1 = .ok ((.getfield 22), 3) := by decide +kernel
theorem d_Terms_size_4 : decode b_Terms_size 4 = .ok (.ireturn, 1) := by decide +kernel
theorem d_Terms_holds_0 : decode b_Terms_holds 0 = .ok ((.iload_n 1), 1) := by decide +kernel
theorem d_Terms_holds_1 : decode b_Terms_holds 1 = .ok ((.ifCond .lt 15), 3) := by decide +kernel
theorem d_Terms_holds_4 : decode b_Terms_holds 4 = .ok ((.iload_n 1), 1) := by decide +kernel
theorem d_Terms_holds_5 : decode b_Terms_holds 5 = .ok ((.aload_n 0), 1) := by decide +kernel
theorem d_Terms_holds_6 : decode b_Terms_holds 6 = .ok ((.getfield 22), 3) := by decide +kernel
theorem d_Terms_holds_9 : decode b_Terms_holds 9 = .ok ((.if_icmp .ge 7), 3) := by decide +kernel
theorem d_Terms_holds_12 : decode b_Terms_holds 12 = .ok ((.iconst 1), 1) := by decide +kernel
theorem d_Terms_holds_13 : decode b_Terms_holds 13 = .ok ((.goto 4), 3) := by decide +kernel
theorem d_Terms_holds_16 : decode b_Terms_holds 16 = .ok ((.iconst 0), 1) := by decide +kernel
theorem d_Terms_holds_17 : decode b_Terms_holds 17 = .ok (.ireturn, 1) := by decide +kernel
theorem d_Terms_column_0 : decode b_Terms_column 0 = .ok ((.aload_n 0), 1) := by decide +kernel
theorem d_Terms_column_1 : decode b_Terms_column 1 = .ok ((.getfield 18), 3) := by decide +kernel
theorem d_Terms_column_4 : decode b_Terms_column 4 = .ok ((.invokevirtual 33), 3) := by decide +kernel
theorem d_Terms_column_7 : decode b_Terms_column 7 = .ok ((.istore_n 3), 1) := by decide +kernel
theorem d_Terms_column_8 : decode b_Terms_column 8 = .ok ((.iload_n 2), 1) := by decide +kernel
theorem d_Terms_column_9 : decode b_Terms_column 9 = .ok ((.iload_n 3), 1) := by decide +kernel
theorem d_Terms_column_10 : decode b_Terms_column 10 = .ok ((.if_icmp .ge 20), 3) := by decide +kernel
theorem d_Terms_column_13 : decode b_Terms_column 13 = .ok ((.aload_n 0), 1) := by decide +kernel
theorem d_Terms_column_14 : decode b_Terms_column 14 = .ok ((.getfield 18), 3) := by decide +kernel
theorem d_Terms_column_17 : decode b_Terms_column 17 = .ok ((.aload_n 0), 1) := by decide +kernel
theorem d_Terms_column_18 : decode b_Terms_column 18 = .ok ((.getfield 9), 3) := by decide +kernel
theorem d_Terms_column_21 : decode b_Terms_column 21 = .ok ((.iload_n 1), 1) := by decide +kernel
theorem d_Terms_column_22 : decode b_Terms_column 22 = .ok (.iaload, 1) := by decide +kernel
theorem d_Terms_column_23 : decode b_Terms_column 23 = .ok ((.iload_n 2), 1) := by decide +kernel
theorem d_Terms_column_24 : decode b_Terms_column 24 = .ok ((.invokevirtual 39), 3) := by decide +kernel
theorem d_Terms_column_27 : decode b_Terms_column 27 = .ok ((.goto 15), 3) := by decide +kernel
theorem d_Terms_column_30 : decode b_Terms_column 30 = .ok ((.aload_n 0), 1) := by decide +kernel
theorem d_Terms_column_31 : decode b_Terms_column 31 = .ok ((.getfield 15), 3) := by decide +kernel
theorem d_Terms_column_34 : decode b_Terms_column 34 = .ok ((.iload_n 1), 1) := by decide +kernel
theorem d_Terms_column_35 : decode b_Terms_column 35 = .ok (.iaload, 1) := by decide +kernel
theorem d_Terms_column_36 : decode b_Terms_column 36 = .ok ((.iload_n 2), 1) := by decide +kernel
theorem d_Terms_column_37 : decode b_Terms_column 37 = .ok ((.iload_n 3), 1) := by decide +kernel
theorem d_Terms_column_38 : decode b_Terms_column 38 = .ok (.isub, 1) := by decide +kernel
theorem d_Terms_column_39 : decode b_Terms_column 39 = .ok (.ishr, 1) := by decide +kernel
theorem d_Terms_column_40 : decode b_Terms_column 40 = .ok ((.iconst 1), 1) := by decide +kernel
theorem d_Terms_column_41 : decode b_Terms_column 41 = .ok (.iand, 1) := by decide +kernel
theorem d_Terms_column_42 : decode b_Terms_column 42 = .ok (.ireturn, 1) := by decide +kernel
theorem d_Terms_hadFor_0 : decode b_Terms_hadFor 0 = .ok ((.aload_n 0), 1) := by decide +kernel
theorem d_Terms_hadFor_1 : decode b_Terms_hadFor 1 = .ok ((.getfield 15), 3) := by decide +kernel
theorem d_Terms_hadFor_4 : decode b_Terms_hadFor 4 = .ok ((.iload_n 1), 1) := by decide +kernel
theorem d_Terms_hadFor_5 : decode b_Terms_hadFor 5 = .ok (.iaload, 1) := by decide +kernel
theorem d_Terms_hadFor_6 : decode b_Terms_hadFor 6 = .ok ((.iload_n 2), 1) := by decide +kernel
theorem d_Terms_hadFor_7 : decode b_Terms_hadFor 7 = .ok (.ishr, 1) := by decide +kernel
theorem d_Terms_hadFor_8 : decode b_Terms_hadFor 8 = .ok ((.iconst 1), 1) := by decide +kernel
theorem d_Terms_hadFor_9 : decode b_Terms_hadFor 9 = .ok (.iand, 1) := by decide +kernel
theorem d_Terms_hadFor_10 : decode b_Terms_hadFor 10 = .ok ((.iconst 1), 1) := by decide +kernel
theorem d_Terms_hadFor_11 : decode b_Terms_hadFor 11 = .ok ((.if_icmp .ne 19), 3) := by decide +kernel
theorem d_Terms_hadFor_14 : decode b_Terms_hadFor 14 = .ok ((.aload_n 0), 1) := by decide +kernel
theorem d_Terms_hadFor_15 : decode b_Terms_hadFor 15 = .ok ((.getfield 18), 3) := by decide +kernel
theorem d_Terms_hadFor_18 : decode b_Terms_hadFor 18 = .ok ((.aload_n 0), 1) := by decide +kernel
theorem d_Terms_hadFor_19 : decode b_Terms_hadFor 19 = .ok ((.getfield 9), 3) := by decide +kernel
theorem d_Terms_hadFor_22 : decode b_Terms_hadFor 22 = .ok ((.iload_n 1), 1) := by decide +kernel
theorem d_Terms_hadFor_23 : decode b_Terms_hadFor 23 = .ok (.iaload, 1) := by decide +kernel
theorem d_Terms_hadFor_24 : decode b_Terms_hadFor 24 = .ok ((.invokevirtual 52), 3) := by decide +kernel
theorem d_Terms_hadFor_27 : decode b_Terms_hadFor 27 = .ok ((.goto 4), 3) := by decide +kernel
theorem d_Terms_hadFor_30 : decode b_Terms_hadFor 30 = .ok ((.iconst 0), 1) := by decide +kernel
theorem d_Terms_hadFor_31 : decode b_Terms_hadFor 31 = .ok (.ireturn, 1) := by decide +kernel
theorem d_Terms_costOf_0 : decode b_Terms_costOf 0 = .ok ((.aload_n 0), 1) := by decide +kernel
theorem d_Terms_costOf_1 : decode b_Terms_costOf 1 = .ok ((.getfield 18), 3) := by decide +kernel
theorem d_Terms_costOf_4 : decode b_Terms_costOf 4 = .ok ((.aload_n 0), 1) := by decide +kernel
theorem d_Terms_costOf_5 : decode b_Terms_costOf 5 = .ok ((.getfield 9), 3) := by decide +kernel
theorem d_Terms_costOf_8 : decode b_Terms_costOf 8 = .ok ((.iload_n 1), 1) := by decide +kernel
theorem d_Terms_costOf_9 : decode b_Terms_costOf 9 = .ok (.iaload, 1) := by decide +kernel
theorem d_Terms_costOf_10 : decode b_Terms_costOf 10 = .ok ((.invokevirtual 43), 3) := by decide +kernel
theorem d_Terms_costOf_13 : decode b_Terms_costOf 13 = .ok ((.invokestatic 47), 3) := by decide +kernel
theorem d_Terms_costOf_16 : decode b_Terms_costOf 16 = .ok ((.aload_n 0), 1) := by decide +kernel
theorem d_Terms_costOf_17 : decode b_Terms_costOf 17 = .ok ((.getfield 15), 3) := by decide +kernel
theorem d_Terms_costOf_20 : decode b_Terms_costOf 20 = .ok ((.iload_n 1), 1) := by decide +kernel
theorem d_Terms_costOf_21 : decode b_Terms_costOf 21 = .ok (.iaload, 1) := by decide +kernel
theorem d_Terms_costOf_22 : decode b_Terms_costOf 22 = .ok ((.invokestatic 47), 3) := by decide +kernel
theorem d_Terms_costOf_25 : decode b_Terms_costOf 25 = .ok (.iadd, 1) := by decide +kernel
theorem d_Terms_costOf_26 : decode b_Terms_costOf 26 = .ok (.ireturn, 1) := by decide +kernel
theorem d_Terms_takeFrom_0 : decode b_Terms_takeFrom 0 = .ok ((.aload_n 0), 1) := by decide +kernel
theorem d_Terms_takeFrom_1 : decode b_Terms_takeFrom 1 = .ok ((.invokevirtual 26), 3) := by decide +kernel
theorem d_Terms_takeFrom_4 : decode b_Terms_takeFrom 4 = .ok ((.iconst 0), 1) := by decide +kernel
theorem d_Terms_takeFrom_5 : decode b_Terms_takeFrom 5 = .ok ((.istore 4), 2) := by decide +kernel
theorem d_Terms_takeFrom_7 : decode b_Terms_takeFrom 7 = .ok ((.iload 4), 2) := by decide +kernel
theorem d_Terms_takeFrom_9 : decode b_Terms_takeFrom 9 = .ok ((.aload_n 1), 1) := by decide +kernel
theorem d_Terms_takeFrom_10 : decode b_Terms_takeFrom 10 = .ok ((.getfield 22), 3) := by decide +kernel
theorem d_Terms_takeFrom_13 : decode b_Terms_takeFrom 13 = .ok ((.if_icmp .ge 38), 3) := by decide +kernel
theorem d_Terms_takeFrom_16 : decode b_Terms_takeFrom 16 = .ok ((.lload_n 2), 1) := by decide +kernel
theorem d_Terms_takeFrom_17 : decode b_Terms_takeFrom 17 = .ok ((.iload 4), 2) := by decide +kernel
theorem d_Terms_takeFrom_19 : decode b_Terms_takeFrom 19 = .ok (.lshr, 1) := by decide +kernel
theorem d_Terms_takeFrom_20 : decode b_Terms_takeFrom 20 = .ok ((.lconst 1), 1) := by decide +kernel
theorem d_Terms_takeFrom_21 : decode b_Terms_takeFrom 21 = .ok (.land, 1) := by decide +kernel
theorem d_Terms_takeFrom_22 : decode b_Terms_takeFrom 22 = .ok ((.lconst 1), 1) := by decide +kernel
theorem d_Terms_takeFrom_23 : decode b_Terms_takeFrom 23 = .ok (.lcmp, 1) := by decide +kernel
theorem d_Terms_takeFrom_24 : decode b_Terms_takeFrom 24 = .ok ((.ifCond .ne 21), 3) := by decide +kernel
theorem d_Terms_takeFrom_27 : decode b_Terms_takeFrom 27 = .ok ((.aload_n 0), 1) := by decide +kernel
theorem d_Terms_takeFrom_28 : decode b_Terms_takeFrom 28 = .ok ((.aload_n 1), 1) := by decide +kernel
theorem d_Terms_takeFrom_29 : decode b_Terms_takeFrom 29 = .ok ((.getfield 9), 3) := by decide +kernel
theorem d_Terms_takeFrom_32 : decode b_Terms_takeFrom 32 = .ok ((.iload 4), 2) := by decide +kernel
theorem d_Terms_takeFrom_34 : decode b_Terms_takeFrom 34 = .ok (.iaload, 1) := by decide +kernel
theorem d_Terms_takeFrom_35 : decode b_Terms_takeFrom 35 = .ok ((.aload_n 1), 1) := by decide +kernel
theorem d_Terms_takeFrom_36 : decode b_Terms_takeFrom 36 = .ok ((.getfield 15), 3) := by decide +kernel
theorem d_Terms_takeFrom_39 : decode b_Terms_takeFrom 39 = .ok ((.iload 4), 2) := by decide +kernel
theorem d_Terms_takeFrom_41 : decode b_Terms_takeFrom 41 = .ok (.iaload, 1) := by decide +kernel
theorem d_Terms_takeFrom_42 : decode b_Terms_takeFrom 42 = .ok ((.invokevirtual 29), 3) := by decide +kernel
theorem d_Terms_takeFrom_45 : decode b_Terms_takeFrom 45 = .ok ((.iinc 4 1), 3) := by decide +kernel
theorem d_Terms_takeFrom_48 : decode b_Terms_takeFrom 48 = .ok ((.goto (-41)), 3) := by decide +kernel
theorem d_Terms_takeFrom_51 : decode b_Terms_takeFrom 51 = .ok (.return_, 1) := by decide +kernel
theorem d_Terms_product_0 : decode b_Terms_product 0 = .ok ((.aload_n 0), 1) := by decide +kernel
theorem d_Terms_product_1 : decode b_Terms_product 1 = .ok ((.getfield 9), 3) := by decide +kernel
theorem d_Terms_product_4 : decode b_Terms_product 4 = .ok ((.iload_n 1), 1) := by decide +kernel
theorem d_Terms_product_5 : decode b_Terms_product 5 = .ok (.iaload, 1) := by decide +kernel
theorem d_Terms_product_6 : decode b_Terms_product 6 = .ok (.ireturn, 1) := by decide +kernel
theorem d_Terms_hadByAllFor_0 : decode b_Terms_hadByAllFor 0 = .ok ((.iconst 0), 1) := by decide +kernel
theorem d_Terms_hadByAllFor_1 : decode b_Terms_hadByAllFor 1 = .ok ((.istore_n 2), 1) := by decide +kernel
theorem d_Terms_hadByAllFor_2 : decode b_Terms_hadByAllFor 2 = .ok ((.iconst 0), 1) := by decide +kernel
theorem d_Terms_hadByAllFor_3 : decode b_Terms_hadByAllFor 3 = .ok ((.istore_n 3), 1) := by decide +kernel
theorem d_Terms_hadByAllFor_4 : decode b_Terms_hadByAllFor 4 = .ok ((.iload_n 3), 1) := by decide +kernel
theorem d_Terms_hadByAllFor_5 : decode b_Terms_hadByAllFor 5 = .ok ((.aload_n 0), 1) := by decide +kernel
theorem d_Terms_hadByAllFor_6 : decode b_Terms_hadByAllFor 6 = .ok ((.getfield 22), 3) := by decide +kernel
theorem d_Terms_hadByAllFor_9 : decode b_Terms_hadByAllFor 9 = .ok ((.if_icmp .ge 18), 3) := by decide +kernel
theorem d_Terms_hadByAllFor_12 : decode b_Terms_hadByAllFor 12 = .ok ((.iload_n 2), 1) := by decide +kernel
theorem d_Terms_hadByAllFor_13 : decode b_Terms_hadByAllFor 13 = .ok ((.aload_n 0), 1) := by decide +kernel
theorem d_Terms_hadByAllFor_14 : decode b_Terms_hadByAllFor 14 = .ok ((.iload_n 3), 1) := by decide +kernel
theorem d_Terms_hadByAllFor_15 : decode b_Terms_hadByAllFor 15 = .ok ((.iload_n 1), 1) := by decide +kernel
theorem d_Terms_hadByAllFor_16 : decode b_Terms_hadByAllFor 16 = .ok ((.invokevirtual 55), 3) := by decide +kernel
theorem d_Terms_hadByAllFor_19 : decode b_Terms_hadByAllFor 19 = .ok (.ior, 1) := by decide +kernel
theorem d_Terms_hadByAllFor_20 : decode b_Terms_hadByAllFor 20 = .ok ((.istore_n 2), 1) := by decide +kernel
theorem d_Terms_hadByAllFor_21 : decode b_Terms_hadByAllFor 21 = .ok ((.iinc 3 1), 3) := by decide +kernel
theorem d_Terms_hadByAllFor_24 : decode b_Terms_hadByAllFor 24 = .ok ((.goto (-20)), 3) := by decide +kernel
theorem d_Terms_hadByAllFor_27 : decode b_Terms_hadByAllFor 27 = .ok ((.iload_n 2), 1) := by decide +kernel
theorem d_Terms_hadByAllFor_28 : decode b_Terms_hadByAllFor 28 = .ok (.ireturn, 1) := by decide +kernel
