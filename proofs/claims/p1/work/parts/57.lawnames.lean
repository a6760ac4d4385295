/-! ===== the law: names, instructions ===== -/
abbrev b_Law_cell : ByteArray := method_2_code
def y_Law_cell : MethodName := ⟨R_Law, "cell", "([II)I"⟩
theorem d_Law_cell_0 : decode b_Law_cell 0 = .ok ((.iload_n 1), 1) := by decide +kernel
theorem d_Law_cell_1 : decode b_Law_cell 1 = .ok ((.aload_n 0), 1) := by decide +kernel
theorem d_Law_cell_2 : decode b_Law_cell 2 = .ok (.arraylength, 1) := by decide +kernel
theorem d_Law_cell_3 : decode b_Law_cell 3 = .ok ((.if_icmp .ge 9), 3) := by decide +kernel
theorem d_Law_cell_6 : decode b_Law_cell 6 = .ok ((.aload_n 0), 1) := by decide +kernel
theorem d_Law_cell_7 : decode b_Law_cell 7 = .ok ((.iload_n 1), 1) := by decide +kernel
theorem d_Law_cell_8 : decode b_Law_cell 8 = .ok (.iaload, 1) := by decide +kernel
theorem d_Law_cell_9 : decode b_Law_cell 9 = .ok ((.goto 4), 3) := by decide +kernel
theorem d_Law_cell_12 : decode b_Law_cell 12 = .ok ((.iconst 0), 1) := by decide +kernel
theorem d_Law_cell_13 : decode b_Law_cell 13 = .ok (.ireturn, 1) := by decide +kernel
abbrev b_Law_cube : ByteArray := method_3_code
def y_Law_cube : MethodName := ⟨R_Law, "cube", "(LCoverRows;[J)I"⟩
theorem d_Law_cube_0 : decode b_Law_cube 0 = .ok ((.aload_n 1), 1) := by decide +kernel
theorem d_Law_cube_1 : decode b_Law_cube 1 = .ok ((.iconst 0), 1) := by decide +kernel
theorem d_Law_cube_2 : decode b_Law_cube 2 = .ok ((.aload_n 0), 1) := by decide +kernel
theorem d_Law_cube_3 : decode b_Law_cube 3 = .ok ((.invokevirtual 7), 3) := by decide +kernel
theorem d_Law_cube_6 : decode b_Law_cube 6 = .ok (.i2l, 1) := by decide +kernel
theorem d_Law_cube_7 : decode b_Law_cube 7 = .ok (.lastore, 1) := by decide +kernel
theorem d_Law_cube_8 : decode b_Law_cube 8 = .ok ((.goto 6), 3) := by decide +kernel
theorem d_Law_cube_11 : decode b_Law_cube 11 = .ok ((.astore_n 2), 1) := by decide +kernel
theorem d_Law_cube_12 : decode b_Law_cube 12 = .ok ((.iconst 1), 1) := by decide +kernel
theorem d_Law_cube_13 : decode b_Law_cube 13 = .ok (.ireturn, 1) := by decide +kernel
theorem d_Law_cube_14 : decode b_Law_cube 14 = .ok ((.iconst 0), 1) := by decide +kernel
theorem d_Law_cube_15 : decode b_Law_cube 15 = .ok (.ireturn, 1) := by decide +kernel
abbrev b_Law_literal : ByteArray := method_4_code
def y_Law_literal : MethodName := ⟨R_Law, "literal", "(LCoverRows;III[J)I"⟩
theorem d_Law_literal_0 : decode b_Law_literal 0 = .ok ((.aload 4), 2) := by decide +kernel
theorem d_Law_literal_2 : decode b_Law_literal 2 = .ok ((.iconst 0), 1) := by decide +kernel
theorem d_Law_literal_3 : decode b_Law_literal 3 = .ok ((.aload_n 0), 1) := by decide +kernel
theorem d_Law_literal_4 : decode b_Law_literal 4 = .ok ((.iload_n 1), 1) := by decide +kernel
theorem d_Law_literal_5 : decode b_Law_literal 5 = .ok ((.iload_n 2), 1) := by decide +kernel
theorem d_Law_literal_6 : decode b_Law_literal 6 = .ok ((.iload_n 3), 1) := by decide +kernel
theorem d_Law_literal_7 : decode b_Law_literal 7 = .ok ((.invokevirtual 15), 3) := by decide +kernel
theorem d_Law_literal_10 : decode b_Law_literal 10 = .ok ((.ifCond .eq 7), 3) := by decide +kernel
theorem d_Law_literal_13 : decode b_Law_literal 13 = .ok ((.lconst 1), 1) := by decide +kernel
theorem d_Law_literal_14 : decode b_Law_literal 14 = .ok ((.goto 4), 3) := by decide +kernel
theorem d_Law_literal_17 : decode b_Law_literal 17 = .ok ((.lconst 0), 1) := by decide +kernel
theorem d_Law_literal_18 : decode b_Law_literal 18 = .ok (.lastore, 1) := by decide +kernel
theorem d_Law_literal_19 : decode b_Law_literal 19 = .ok ((.goto 11), 3) := by decide +kernel
theorem d_Law_literal_22 : decode b_Law_literal 22 = .ok ((.astore 5), 2) := by decide +kernel
theorem d_Law_literal_24 : decode b_Law_literal 24 = .ok ((.iconst 1), 1) := by decide +kernel
theorem d_Law_literal_25 : decode b_Law_literal 25 = .ok (.ireturn, 1) := by decide +kernel
theorem d_Law_literal_26 : decode b_Law_literal 26 = .ok ((.astore 5), 2) := by decide +kernel
theorem d_Law_literal_28 : decode b_Law_literal 28 = .ok ((.iconst 2), 1) := by decide +kernel
theorem d_Law_literal_29 : decode b_Law_literal 29 = .ok (.ireturn, 1) := by decide +kernel
theorem d_Law_literal_30 : decode b_Law_literal 30 = .ok ((.iconst 0), 1) := by decide +kernel
theorem d_Law_literal_31 : decode b_Law_literal 31 = .ok (.ireturn, 1) := by decide +kernel
abbrev b_Law_to : ByteArray := method_5_code
def y_Law_to : MethodName := ⟨R_Law, "to", "(LCoverRows;III[J)I"⟩
theorem d_Law_to_0 : decode b_Law_to 0 = .ok ((.aload 4), 2) := by decide +kernel
theorem d_Law_to_2 : decode b_Law_to 2 = .ok ((.iconst 0), 1) := by decide +kernel
theorem d_Law_to_3 : decode b_Law_to 3 = .ok ((.aload_n 0), 1) := by decide +kernel
theorem d_Law_to_4 : decode b_Law_to 4 = .ok ((.iload_n 1), 1) := by decide +kernel
theorem d_Law_to_5 : decode b_Law_to 5 = .ok ((.iload_n 2), 1) := by decide +kernel
theorem d_Law_to_6 : decode b_Law_to 6 = .ok ((.iload_n 3), 1) := by decide +kernel
theorem d_Law_to_7 : decode b_Law_to 7 = .ok ((.invokevirtual 23), 3) := by decide +kernel
theorem d_Law_to_10 : decode b_Law_to 10 = .ok ((.ifCond .eq 7), 3) := by decide +kernel
theorem d_Law_to_13 : decode b_Law_to 13 = .ok ((.lconst 1), 1) := by decide +kernel
theorem d_Law_to_14 : decode b_Law_to 14 = .ok ((.goto 4), 3) := by decide +kernel
theorem d_Law_to_17 : decode b_Law_to 17 = .ok ((.lconst 0), 1) := by decide +kernel
theorem d_Law_to_18 : decode b_Law_to 18 = .ok (.lastore, 1) := by decide +kernel
theorem d_Law_to_19 : decode b_Law_to 19 = .ok ((.goto 11), 3) := by decide +kernel
theorem d_Law_to_22 : decode b_Law_to 22 = .ok ((.astore 5), 2) := by decide +kernel
theorem d_Law_to_24 : decode b_Law_to 24 = .ok ((.iconst 1), 1) := by decide +kernel
theorem d_Law_to_25 : decode b_Law_to 25 = .ok (.ireturn, 1) := by decide +kernel
theorem d_Law_to_26 : decode b_Law_to 26 = .ok ((.astore 5), 2) := by decide +kernel
theorem d_Law_to_28 : decode b_Law_to 28 = .ok ((.iconst 2), 1) := by decide +kernel
theorem d_Law_to_29 : decode b_Law_to 29 = .ok (.ireturn, 1) := by decide +kernel
theorem d_Law_to_30 : decode b_Law_to 30 = .ok ((.iconst 0), 1) := by decide +kernel
theorem d_Law_to_31 : decode b_Law_to 31 = .ok (.ireturn, 1) := by decide +kernel
abbrev b_Law_prime : ByteArray := method_6_code
def y_Law_prime : MethodName := ⟨R_Law, "prime", "(LCoverRows;II[J)I"⟩
theorem d_Law_prime_0 : decode b_Law_prime 0 = .ok ((.aload_n 3), 1) := by decide +kernel
theorem d_Law_prime_1 : decode b_Law_prime 1 = .ok ((.iconst 0), 1) := by decide +kernel
theorem d_Law_prime_2 : decode b_Law_prime 2 = .ok ((.aload_n 0), 1) := by decide +kernel
theorem d_Law_prime_3 : decode b_Law_prime 3 = .ok ((.iload_n 1), 1) := by decide +kernel
theorem d_Law_prime_4 : decode b_Law_prime 4 = .ok ((.iload_n 2), 1) := by decide +kernel
theorem d_Law_prime_5 : decode b_Law_prime 5 = .ok ((.invokevirtual 26), 3) := by decide +kernel
theorem d_Law_prime_8 : decode b_Law_prime 8 = .ok (.i2l, 1) := by decide +kernel
theorem d_Law_prime_9 : decode b_Law_prime 9 = .ok (.lastore, 1) := by decide +kernel
theorem d_Law_prime_10 : decode b_Law_prime 10 = .ok ((.goto 7), 3) := by decide +kernel
theorem d_Law_prime_13 : decode b_Law_prime 13 = .ok ((.astore 4), 2) := by decide +kernel
theorem d_Law_prime_15 : decode b_Law_prime 15 = .ok ((.iconst 1), 1) := by decide +kernel
theorem d_Law_prime_16 : decode b_Law_prime 16 = .ok (.ireturn, 1) := by decide +kernel
theorem d_Law_prime_17 : decode b_Law_prime 17 = .ok ((.iconst 0), 1) := by decide +kernel
theorem d_Law_prime_18 : decode b_Law_prime 18 = .ok (.ireturn, 1) := by decide +kernel
abbrev b_Law_run : ByteArray := method_7_code
def y_Law_run : MethodName := ⟨R_Law, "run", "(LCoverRows;ZJ[J)I"⟩
theorem d_Law_run_0 : decode b_Law_run 0 = .ok ((.aload 4), 2) := by decide +kernel
theorem d_Law_run_2 : decode b_Law_run 2 = .ok ((.iconst 0), 1) := by decide +kernel
theorem d_Law_run_3 : decode b_Law_run 3 = .ok ((.aload_n 0), 1) := by decide +kernel
theorem d_Law_run_4 : decode b_Law_run 4 = .ok ((.iload_n 1), 1) := by decide +kernel
theorem d_Law_run_5 : decode b_Law_run 5 = .ok ((.lload_n 2), 1) := by decide +kernel
theorem d_Law_run_6 : decode b_Law_run 6 = .ok ((.invokevirtual 30), 3) := by decide +kernel
theorem d_Law_run_9 : decode b_Law_run 9 = .ok (.i2l, 1) := by decide +kernel
theorem d_Law_run_10 : decode b_Law_run 10 = .ok (.lastore, 1) := by decide +kernel
theorem d_Law_run_11 : decode b_Law_run 11 = .ok ((.goto 7), 3) := by decide +kernel
theorem d_Law_run_14 : decode b_Law_run 14 = .ok ((.astore 5), 2) := by decide +kernel
theorem d_Law_run_16 : decode b_Law_run 16 = .ok ((.iconst 1), 1) := by decide +kernel
theorem d_Law_run_17 : decode b_Law_run 17 = .ok (.ireturn, 1) := by decide +kernel
theorem d_Law_run_18 : decode b_Law_run 18 = .ok ((.iconst 0), 1) := by decide +kernel
theorem d_Law_run_19 : decode b_Law_run 19 = .ok (.ireturn, 1) := by decide +kernel
abbrev b_Law_at : ByteArray := method_8_code
def y_Law_at : MethodName := ⟨R_Law, "at", "(LCoverRows;II[J)I"⟩
theorem d_Law_at_0 : decode b_Law_at 0 = .ok ((.aload_n 3), 1) := by decide +kernel
theorem d_Law_at_1 : decode b_Law_at 1 = .ok ((.iconst 0), 1) := by decide +kernel
theorem d_Law_at_2 : decode b_Law_at 2 = .ok ((.aload_n 0), 1) := by decide +kernel
theorem d_Law_at_3 : decode b_Law_at 3 = .ok ((.iload_n 1), 1) := by decide +kernel
theorem d_Law_at_4 : decode b_Law_at 4 = .ok ((.iload_n 2), 1) := by decide +kernel
theorem d_Law_at_5 : decode b_Law_at 5 = .ok ((.invokevirtual 34), 3) := by decide +kernel
theorem d_Law_at_8 : decode b_Law_at 8 = .ok (.i2l, 1) := by decide +kernel
theorem d_Law_at_9 : decode b_Law_at 9 = .ok (.lastore, 1) := by decide +kernel
theorem d_Law_at_10 : decode b_Law_at 10 = .ok ((.goto 11), 3) := by decide +kernel
theorem d_Law_at_13 : decode b_Law_at 13 = .ok ((.astore 4), 2) := by decide +kernel
theorem d_Law_at_15 : decode b_Law_at 15 = .ok ((.iconst 1), 1) := by decide +kernel
theorem d_Law_at_16 : decode b_Law_at 16 = .ok (.ireturn, 1) := by decide +kernel
theorem d_Law_at_17 : decode b_Law_at 17 = .ok ((.astore 4), 2) := by decide +kernel
theorem d_Law_at_19 : decode b_Law_at 19 = .ok ((.iconst 2), 1) := by decide +kernel
theorem d_Law_at_20 : decode b_Law_at 20 = .ok (.ireturn, 1) := by decide +kernel
theorem d_Law_at_21 : decode b_Law_at 21 = .ok ((.iconst 0), 1) := by decide +kernel
theorem d_Law_at_22 : decode b_Law_at 22 = .ok (.ireturn, 1) := by decide +kernel
abbrev b_Law_cost : ByteArray := method_9_code
def y_Law_cost : MethodName := ⟨R_Law, "cost", "(LCoverRows;[J)I"⟩
theorem d_Law_cost_0 : decode b_Law_cost 0 = .ok ((.aload_n 1), 1) := by decide +kernel
theorem d_Law_cost_1 : decode b_Law_cost 1 = .ok ((.iconst 0), 1) := by decide +kernel
theorem d_Law_cost_2 : decode b_Law_cost 2 = .ok ((.aload_n 0), 1) := by decide +kernel
theorem d_Law_cost_3 : decode b_Law_cost 3 = .ok ((.invokevirtual 39), 3) := by decide +kernel
theorem d_Law_cost_6 : decode b_Law_cost 6 = .ok (.lastore, 1) := by decide +kernel
theorem d_Law_cost_7 : decode b_Law_cost 7 = .ok ((.goto 6), 3) := by decide +kernel
theorem d_Law_cost_10 : decode b_Law_cost 10 = .ok ((.astore_n 2), 1) := by decide +kernel
theorem d_Law_cost_11 : decode b_Law_cost 11 = .ok ((.iconst 1), 1) := by decide +kernel
theorem d_Law_cost_12 : decode b_Law_cost 12 = .ok (.ireturn, 1) := by decide +kernel
theorem d_Law_cost_13 : decode b_Law_cost 13 = .ok ((.iconst 0), 1) := by decide +kernel
theorem d_Law_cost_14 : decode b_Law_cost 14 = .ok (.ireturn, 1) := by decide +kernel
abbrev b_Law_kernels : ByteArray := method_10_code
def y_Law_kernels : MethodName := ⟨R_Law, "kernels", "(LCoverRows;[J)I"⟩
theorem d_Law_kernels_0 : decode b_Law_kernels 0 = .ok ((.aload_n 1), 1) := by decide +kernel
theorem d_Law_kernels_1 : decode b_Law_kernels 1 = .ok ((.iconst 0), 1) := by decide +kernel
theorem d_Law_kernels_2 : decode b_Law_kernels 2 = .ok ((.aload_n 0), 1) := by decide +kernel
theorem d_Law_kernels_3 : decode b_Law_kernels 3 = .ok ((.invokevirtual 43), 3) := by decide +kernel
theorem d_Law_kernels_6 : decode b_Law_kernels 6 = .ok (.i2l, 1) := by decide +kernel
theorem d_Law_kernels_7 : decode b_Law_kernels 7 = .ok (.lastore, 1) := by decide +kernel
theorem d_Law_kernels_8 : decode b_Law_kernels 8 = .ok ((.goto 6), 3) := by decide +kernel
theorem d_Law_kernels_11 : decode b_Law_kernels 11 = .ok ((.astore_n 2), 1) := by decide +kernel
theorem d_Law_kernels_12 : decode b_Law_kernels 12 = .ok ((.iconst 1), 1) := by decide +kernel
theorem d_Law_kernels_13 : decode b_Law_kernels 13 = .ok (.ireturn, 1) := by decide +kernel
theorem d_Law_kernels_14 : decode b_Law_kernels 14 = .ok ((.iconst 0), 1) := by decide +kernel
theorem d_Law_kernels_15 : decode b_Law_kernels 15 = .ok (.ireturn, 1) := by decide +kernel
abbrev b_Law_divide : ByteArray := method_11_code
def y_Law_divide : MethodName := ⟨R_Law, "divide", "(LCoverRows;I[J)I"⟩
theorem d_Law_divide_0 : decode b_Law_divide 0 = .ok ((.aload_n 2), 1) := by decide +kernel
theorem d_Law_divide_1 : decode b_Law_divide 1 = .ok ((.iconst 0), 1) := by decide +kernel
theorem d_Law_divide_2 : decode b_Law_divide 2 = .ok ((.aload_n 0), 1) := by decide +kernel
theorem d_Law_divide_3 : decode b_Law_divide 3 = .ok ((.iload_n 1), 1) := by decide +kernel
theorem d_Law_divide_4 : decode b_Law_divide 4 = .ok ((.invokevirtual 46), 3) := by decide +kernel
theorem d_Law_divide_7 : decode b_Law_divide 7 = .ok (.i2l, 1) := by decide +kernel
theorem d_Law_divide_8 : decode b_Law_divide 8 = .ok (.lastore, 1) := by decide +kernel
theorem d_Law_divide_9 : decode b_Law_divide 9 = .ok ((.goto 9), 3) := by decide +kernel
theorem d_Law_divide_12 : decode b_Law_divide 12 = .ok ((.astore_n 3), 1) := by decide +kernel
theorem d_Law_divide_13 : decode b_Law_divide 13 = .ok ((.iconst 1), 1) := by decide +kernel
theorem d_Law_divide_14 : decode b_Law_divide 14 = .ok (.ireturn, 1) := by decide +kernel
theorem d_Law_divide_15 : decode b_Law_divide 15 = .ok ((.astore_n 3), 1) := by decide +kernel
theorem d_Law_divide_16 : decode b_Law_divide 16 = .ok ((.iconst 2), 1) := by decide +kernel
theorem d_Law_divide_17 : decode b_Law_divide 17 = .ok (.ireturn, 1) := by decide +kernel
theorem d_Law_divide_18 : decode b_Law_divide 18 = .ok ((.iconst 0), 1) := by decide +kernel
theorem d_Law_divide_19 : decode b_Law_divide 19 = .ok (.ireturn, 1) := by decide +kernel
abbrev b_Law_quotient : ByteArray := method_12_code
def y_Law_quotient : MethodName := ⟨R_Law, "quotient", "(LCoverRows;I[J)I"⟩
theorem d_Law_quotient_0 : decode b_Law_quotient 0 = .ok ((.aload_n 2), 1) := by decide +kernel
theorem d_Law_quotient_1 : decode b_Law_quotient 1 = .ok ((.iconst 0), 1) := by decide +kernel
theorem d_Law_quotient_2 : decode b_Law_quotient 2 = .ok ((.aload_n 0), 1) := by decide +kernel
theorem d_Law_quotient_3 : decode b_Law_quotient 3 = .ok ((.iload_n 1), 1) := by decide +kernel
theorem d_Law_quotient_4 : decode b_Law_quotient 4 = .ok ((.invokevirtual 50), 3) := by decide +kernel
theorem d_Law_quotient_7 : decode b_Law_quotient 7 = .ok (.i2l, 1) := by decide +kernel
theorem d_Law_quotient_8 : decode b_Law_quotient 8 = .ok (.lastore, 1) := by decide +kernel
theorem d_Law_quotient_9 : decode b_Law_quotient 9 = .ok ((.goto 6), 3) := by decide +kernel
theorem d_Law_quotient_12 : decode b_Law_quotient 12 = .ok ((.astore_n 3), 1) := by decide +kernel
theorem d_Law_quotient_13 : decode b_Law_quotient 13 = .ok ((.iconst 1), 1) := by decide +kernel
theorem d_Law_quotient_14 : decode b_Law_quotient 14 = .ok (.ireturn, 1) := by decide +kernel
theorem d_Law_quotient_15 : decode b_Law_quotient 15 = .ok ((.iconst 0), 1) := by decide +kernel
theorem d_Law_quotient_16 : decode b_Law_quotient 16 = .ok (.ireturn, 1) := by decide +kernel
abbrev b_Law_diagram : ByteArray := method_13_code
def y_Law_diagram : MethodName := ⟨R_Law, "diagram", "(LCoverRows;I[J)I"⟩
theorem d_Law_diagram_0 : decode b_Law_diagram 0 = .ok ((.aload_n 2), 1) := by decide +kernel
theorem d_Law_diagram_1 : decode b_Law_diagram 1 = .ok ((.iconst 0), 1) := by decide +kernel
theorem d_Law_diagram_2 : decode b_Law_diagram 2 = .ok ((.aload_n 0), 1) := by decide +kernel
theorem d_Law_diagram_3 : decode b_Law_diagram 3 = .ok ((.iload_n 1), 1) := by decide +kernel
theorem d_Law_diagram_4 : decode b_Law_diagram 4 = .ok ((.invokevirtual 53), 3) := by decide +kernel
theorem d_Law_diagram_7 : decode b_Law_diagram 7 = .ok (.i2l, 1) := by decide +kernel
theorem d_Law_diagram_8 : decode b_Law_diagram 8 = .ok (.lastore, 1) := by decide +kernel
theorem d_Law_diagram_9 : decode b_Law_diagram 9 = .ok ((.goto 6), 3) := by decide +kernel
theorem d_Law_diagram_12 : decode b_Law_diagram 12 = .ok ((.astore_n 3), 1) := by decide +kernel
theorem d_Law_diagram_13 : decode b_Law_diagram 13 = .ok ((.iconst 1), 1) := by decide +kernel
theorem d_Law_diagram_14 : decode b_Law_diagram 14 = .ok (.ireturn, 1) := by decide +kernel
theorem d_Law_diagram_15 : decode b_Law_diagram 15 = .ok ((.iconst 0), 1) := by decide +kernel
theorem d_Law_diagram_16 : decode b_Law_diagram 16 = .ok (.ireturn, 1) := by decide +kernel
abbrev b_Law_equal : ByteArray := method_14_code
def y_Law_equal : MethodName := ⟨R_Law, "equal", "(LCoverRows;[J)I"⟩
theorem d_Law_equal_0 : decode b_Law_equal 0 = .ok ((.aload_n 1), 1) := by decide +kernel
theorem d_Law_equal_1 : decode b_Law_equal 1 = .ok ((.iconst 0), 1) := by decide +kernel
theorem d_Law_equal_2 : decode b_Law_equal 2 = .ok ((.aload_n 0), 1) := by decide +kernel
theorem d_Law_equal_3 : decode b_Law_equal 3 = .ok ((.invokevirtual 56), 3) := by decide +kernel
theorem d_Law_equal_6 : decode b_Law_equal 6 = .ok ((.ifCond .eq 7), 3) := by decide +kernel
theorem d_Law_equal_9 : decode b_Law_equal 9 = .ok ((.lconst 1), 1) := by decide +kernel
theorem d_Law_equal_10 : decode b_Law_equal 10 = .ok ((.goto 4), 3) := by decide +kernel
theorem d_Law_equal_13 : decode b_Law_equal 13 = .ok ((.lconst 0), 1) := by decide +kernel
theorem d_Law_equal_14 : decode b_Law_equal 14 = .ok (.lastore, 1) := by decide +kernel
theorem d_Law_equal_15 : decode b_Law_equal 15 = .ok ((.goto 6), 3) := by decide +kernel
theorem d_Law_equal_18 : decode b_Law_equal 18 = .ok ((.astore_n 2), 1) := by decide +kernel
theorem d_Law_equal_19 : decode b_Law_equal 19 = .ok ((.iconst 1), 1) := by decide +kernel
theorem d_Law_equal_20 : decode b_Law_equal 20 = .ok (.ireturn, 1) := by decide +kernel
theorem d_Law_equal_21 : decode b_Law_equal 21 = .ok ((.iconst 0), 1) := by decide +kernel
theorem d_Law_equal_22 : decode b_Law_equal 22 = .ok (.ireturn, 1) := by decide +kernel
abbrev b_Law_value : ByteArray := method_15_code
def y_Law_value : MethodName := ⟨R_Law, "value", "(LCoverRows;JI[J)I"⟩
theorem d_Law_value_0 : decode b_Law_value 0 = .ok ((.aload 4), 2) := by decide +kernel
theorem d_Law_value_2 : decode b_Law_value 2 = .ok ((.iconst 0), 1) := by decide +kernel
theorem d_Law_value_3 : decode b_Law_value 3 = .ok ((.aload_n 0), 1) := by decide +kernel
theorem d_Law_value_4 : decode b_Law_value 4 = .ok ((.lload_n 1), 1) := by decide +kernel
theorem d_Law_value_5 : decode b_Law_value 5 = .ok ((.iload_n 3), 1) := by decide +kernel
theorem d_Law_value_6 : decode b_Law_value 6 = .ok ((.invokevirtual 60), 3) := by decide +kernel
theorem d_Law_value_9 : decode b_Law_value 9 = .ok ((.ifCond .eq 7), 3) := by decide +kernel
theorem d_Law_value_12 : decode b_Law_value 12 = .ok ((.lconst 1), 1) := by decide +kernel
theorem d_Law_value_13 : decode b_Law_value 13 = .ok ((.goto 4), 3) := by decide +kernel
theorem d_Law_value_16 : decode b_Law_value 16 = .ok ((.lconst 0), 1) := by decide +kernel
theorem d_Law_value_17 : decode b_Law_value 17 = .ok (.lastore, 1) := by decide +kernel
theorem d_Law_value_18 : decode b_Law_value 18 = .ok ((.goto 15), 3) := by decide +kernel
theorem d_Law_value_21 : decode b_Law_value 21 = .ok ((.astore 5), 2) := by decide +kernel
theorem d_Law_value_23 : decode b_Law_value 23 = .ok ((.iconst 1), 1) := by decide +kernel
theorem d_Law_value_24 : decode b_Law_value 24 = .ok (.ireturn, 1) := by decide +kernel
theorem d_Law_value_25 : decode b_Law_value 25 = .ok ((.astore 5), 2) := by decide +kernel
theorem d_Law_value_27 : decode b_Law_value 27 = .ok ((.iconst 2), 1) := by decide +kernel
theorem d_Law_value_28 : decode b_Law_value 28 = .ok (.ireturn, 1) := by decide +kernel
theorem d_Law_value_29 : decode b_Law_value 29 = .ok ((.astore 5), 2) := by decide +kernel
theorem d_Law_value_31 : decode b_Law_value 31 = .ok ((.iconst 3), 1) := by decide +kernel
theorem d_Law_value_32 : decode b_Law_value 32 = .ok (.ireturn, 1) := by decide +kernel
theorem d_Law_value_33 : decode b_Law_value 33 = .ok ((.iconst 0), 1) := by decide +kernel
theorem d_Law_value_34 : decode b_Law_value 34 = .ok (.ireturn, 1) := by decide +kernel
abbrev b_Law_law : ByteArray := code
def y_Law_law : MethodName := ⟨R_Law, "law", "([I)Z"⟩
theorem d_Law_law_0 : decode b_Law_law 0 = .ok ((.new 8), 3) := by decide +kernel
theorem d_Law_law_3 : decode b_Law_law 3 = .ok (.dup, 1) := by decide +kernel
theorem d_Law_law_4 : decode b_Law_law 4 = .ok ((.aload_n 0), 1) := by decide +kernel
theorem d_Law_law_5 : decode b_Law_law 5 = .ok ((.iconst 0), 1) := by decide +kernel
theorem d_Law_law_6 : decode b_Law_law 6 = .ok ((.invokestatic 64), 3) := by decide +kernel
theorem d_Law_law_9 : decode b_Law_law 9 = .ok ((.aload_n 0), 1) := by decide +kernel
theorem d_Law_law_10 : decode b_Law_law 10 = .ok ((.iconst 1), 1) := by decide +kernel
theorem d_Law_law_11 : decode b_Law_law 11 = .ok ((.invokestatic 64), 3) := by decide +kernel
theorem d_Law_law_14 : decode b_Law_law 14 = .ok ((.invokespecial 70), 3) := by decide +kernel
theorem d_Law_law_17 : decode b_Law_law 17 = .ok ((.astore_n 1), 1) := by decide +kernel
theorem d_Law_law_18 : decode b_Law_law 18 = .ok ((.new 73), 3) := by decide +kernel
theorem d_Law_law_21 : decode b_Law_law 21 = .ok (.dup, 1) := by decide +kernel
theorem d_Law_law_22 : decode b_Law_law 22 = .ok ((.aload_n 0), 1) := by decide +kernel
theorem d_Law_law_23 : decode b_Law_law 23 = .ok ((.iconst 0), 1) := by decide +kernel
theorem d_Law_law_24 : decode b_Law_law 24 = .ok ((.invokestatic 64), 3) := by decide +kernel
theorem d_Law_law_27 : decode b_Law_law 27 = .ok ((.aload_n 0), 1) := by decide +kernel
theorem d_Law_law_28 : decode b_Law_law 28 = .ok ((.iconst 1), 1) := by decide +kernel
theorem d_Law_law_29 : decode b_Law_law 29 = .ok ((.invokestatic 64), 3) := by decide +kernel
theorem d_Law_law_32 : decode b_Law_law 32 = .ok ((.invokespecial 75), 3) := by decide +kernel
theorem d_Law_law_35 : decode b_Law_law 35 = .ok ((.astore_n 2), 1) := by decide +kernel
theorem d_Law_law_36 : decode b_Law_law 36 = .ok ((.iconst 1), 1) := by decide +kernel
theorem d_Law_law_37 : decode b_Law_law 37 = .ok ((.newarray .long), 2) := by decide +kernel
theorem d_Law_law_39 : decode b_Law_law 39 = .ok ((.astore_n 3), 1) := by decide +kernel
theorem d_Law_law_40 : decode b_Law_law 40 = .ok ((.iconst 2), 1) := by decide +kernel
theorem d_Law_law_41 : decode b_Law_law 41 = .ok ((.istore 4), 2) := by decide +kernel
theorem d_Law_law_43 : decode b_Law_law 43 = .ok ((.iload 4), 2) := by decide +kernel
theorem d_Law_law_45 : decode b_Law_law 45 = .ok ((.aload_n 0), 1) := by decide +kernel
theorem d_Law_law_46 : decode b_Law_law 46 = .ok (.arraylength, 1) := by decide +kernel
theorem d_Law_law_47 : decode b_Law_law 47 = .ok ((.iconst 4), 1) := by decide +kernel
theorem d_Law_law_48 : decode b_Law_law 48 = .ok (.isub, 1) := by decide +kernel
theorem d_Law_law_49 : decode b_Law_law 49 = .ok ((.if_icmp .gt 1030), 3) := by decide +kernel
theorem d_Law_law_52 : decode b_Law_law 52 = .ok ((.aload_n 0), 1) := by decide +kernel
theorem d_Law_law_53 : decode b_Law_law 53 = .ok ((.iload 4), 2) := by decide +kernel
theorem d_Law_law_55 : decode b_Law_law 55 = .ok (.iaload, 1) := by decide +kernel
theorem d_Law_law_56 : decode b_Law_law 56 = .ok ((.bipush 31), 2) := by decide +kernel
theorem d_Law_law_58 : decode b_Law_law 58 = .ok (.iand, 1) := by decide +kernel
theorem d_Law_law_59 : decode b_Law_law 59 = .ok ((.tableswitch 1014 0 16 #[81, 125, 212, 299, 312, 380, 496, 564, 577, 620, 664, 720, 776, 832, 845, 896, 1003]), 81) := by decide +kernel
theorem d_Law_law_140 : decode b_Law_law 140 = .ok ((.aload_n 1), 1) := by decide +kernel
theorem d_Law_law_141 : decode b_Law_law 141 = .ok ((.aload_n 3), 1) := by decide +kernel
theorem d_Law_law_142 : decode b_Law_law 142 = .ok ((.invokestatic 76), 3) := by decide +kernel
theorem d_Law_law_145 : decode b_Law_law 145 = .ok ((.istore 5), 2) := by decide +kernel
theorem d_Law_law_147 : decode b_Law_law 147 = .ok ((.aload_n 2), 1) := by decide +kernel
theorem d_Law_law_148 : decode b_Law_law 148 = .ok ((.invokevirtual 79), 3) := by decide +kernel
theorem d_Law_law_151 : decode b_Law_law 151 = .ok ((.istore 6), 2) := by decide +kernel
theorem d_Law_law_153 : decode b_Law_law 153 = .ok ((.aload_n 2), 1) := by decide +kernel
theorem d_Law_law_154 : decode b_Law_law 154 = .ok ((.invokevirtual 80), 3) := by decide +kernel
theorem d_Law_law_157 : decode b_Law_law 157 = .ok ((.iload 5), 2) := by decide +kernel
theorem d_Law_law_159 : decode b_Law_law 159 = .ok ((.if_icmp .eq 5), 3) := by decide +kernel
theorem d_Law_law_162 : decode b_Law_law 162 = .ok ((.iconst 0), 1) := by decide +kernel
theorem d_Law_law_163 : decode b_Law_law 163 = .ok (.ireturn, 1) := by decide +kernel
theorem d_Law_law_164 : decode b_Law_law 164 = .ok ((.iload 5), 2) := by decide +kernel
theorem d_Law_law_166 : decode b_Law_law 166 = .ok ((.ifCond .ne 15), 3) := by decide +kernel
theorem d_Law_law_169 : decode b_Law_law 169 = .ok ((.aload_n 3), 1) := by decide +kernel
theorem d_Law_law_170 : decode b_Law_law 170 = .ok ((.iconst 0), 1) := by decide +kernel
theorem d_Law_law_171 : decode b_Law_law 171 = .ok (.laload, 1) := by decide +kernel
theorem d_Law_law_172 : decode b_Law_law 172 = .ok ((.iload 6), 2) := by decide +kernel
theorem d_Law_law_174 : decode b_Law_law 174 = .ok (.i2l, 1) := by decide +kernel
theorem d_Law_law_175 : decode b_Law_law 175 = .ok (.lcmp, 1) := by decide +kernel
theorem d_Law_law_176 : decode b_Law_law 176 = .ok ((.ifCond .eq 5), 3) := by decide +kernel
theorem d_Law_law_179 : decode b_Law_law 179 = .ok ((.iconst 0), 1) := by decide +kernel
theorem d_Law_law_180 : decode b_Law_law 180 = .ok (.ireturn, 1) := by decide +kernel
theorem d_Law_law_181 : decode b_Law_law 181 = .ok ((.goto 892), 3) := by decide +kernel
theorem d_Law_law_184 : decode b_Law_law 184 = .ok ((.aload_n 1), 1) := by decide +kernel
theorem d_Law_law_185 : decode b_Law_law 185 = .ok ((.aload_n 0), 1) := by decide +kernel
theorem d_Law_law_186 : decode b_Law_law 186 = .ok ((.iload 4), 2) := by decide +kernel
theorem d_Law_law_188 : decode b_Law_law 188 = .ok ((.iconst 1), 1) := by decide +kernel
theorem d_Law_law_189 : decode b_Law_law 189 = .ok (.iadd, 1) := by decide +kernel
theorem d_Law_law_190 : decode b_Law_law 190 = .ok (.iaload, 1) := by decide +kernel
theorem d_Law_law_191 : decode b_Law_law 191 = .ok ((.aload_n 0), 1) := by decide +kernel
theorem d_Law_law_192 : decode b_Law_law 192 = .ok ((.iload 4), 2) := by decide +kernel
theorem d_Law_law_194 : decode b_Law_law 194 = .ok ((.iconst 2), 1) := by decide +kernel
theorem d_Law_law_195 : decode b_Law_law 195 = .ok (.iadd, 1) := by decide +kernel
theorem d_Law_law_196 : decode b_Law_law 196 = .ok (.iaload, 1) := by decide +kernel
theorem d_Law_law_197 : decode b_Law_law 197 = .ok ((.aload_n 0), 1) := by decide +kernel
theorem d_Law_law_198 : decode b_Law_law 198 = .ok ((.iload 4), 2) := by decide +kernel
theorem d_Law_law_200 : decode b_Law_law 200 = .ok ((.iconst 3), 1) := by decide +kernel
theorem d_Law_law_201 : decode b_Law_law 201 = .ok (.iadd, 1) := by decide +kernel
theorem d_Law_law_202 : decode b_Law_law 202 = .ok (.iaload, 1) := by decide +kernel
theorem d_Law_law_203 : decode b_Law_law 203 = .ok ((.aload_n 3), 1) := by decide +kernel
theorem d_Law_law_204 : decode b_Law_law 204 = .ok ((.invokestatic 83), 3) := by decide +kernel
theorem d_Law_law_207 : decode b_Law_law 207 = .ok ((.istore 5), 2) := by decide +kernel
theorem d_Law_law_209 : decode b_Law_law 209 = .ok ((.aload_n 2), 1) := by decide +kernel
theorem d_Law_law_210 : decode b_Law_law 210 = .ok ((.aload_n 0), 1) := by decide +kernel
theorem d_Law_law_211 : decode b_Law_law 211 = .ok ((.iload 4), 2) := by decide +kernel
theorem d_Law_law_213 : decode b_Law_law 213 = .ok ((.iconst 1), 1) := by decide +kernel
theorem d_Law_law_214 : decode b_Law_law 214 = .ok (.iadd, 1) := by decide +kernel
theorem d_Law_law_215 : decode b_Law_law 215 = .ok (.iaload, 1) := by decide +kernel
theorem d_Law_law_216 : decode b_Law_law 216 = .ok ((.aload_n 0), 1) := by decide +kernel
theorem d_Law_law_217 : decode b_Law_law 217 = .ok ((.iload 4), 2) := by decide +kernel
theorem d_Law_law_219 : decode b_Law_law 219 = .ok ((.iconst 2), 1) := by decide +kernel
theorem d_Law_law_220 : decode b_Law_law 220 = .ok (.iadd, 1) := by decide +kernel
theorem d_Law_law_221 : decode b_Law_law 221 = .ok (.iaload, 1) := by decide +kernel
theorem d_Law_law_222 : decode b_Law_law 222 = .ok ((.aload_n 0), 1) := by decide +kernel
theorem d_Law_law_223 : decode b_Law_law 223 = .ok ((.iload 4), 2) := by decide +kernel
theorem d_Law_law_225 : decode b_Law_law 225 = .ok ((.iconst 3), 1) := by decide +kernel
theorem d_Law_law_226 : decode b_Law_law 226 = .ok (.iadd, 1) := by decide +kernel
theorem d_Law_law_227 : decode b_Law_law 227 = .ok (.iaload, 1) := by decide +kernel
theorem d_Law_law_228 : decode b_Law_law 228 = .ok ((.invokevirtual 86), 3) := by decide +kernel
theorem d_Law_law_231 : decode b_Law_law 231 = .ok ((.istore 6), 2) := by decide +kernel
theorem d_Law_law_233 : decode b_Law_law 233 = .ok ((.aload_n 2), 1) := by decide +kernel
theorem d_Law_law_234 : decode b_Law_law 234 = .ok ((.invokevirtual 80), 3) := by decide +kernel
theorem d_Law_law_237 : decode b_Law_law 237 = .ok ((.iload 5), 2) := by decide +kernel
theorem d_Law_law_239 : decode b_Law_law 239 = .ok ((.if_icmp .eq 5), 3) := by decide +kernel
theorem d_Law_law_242 : decode b_Law_law 242 = .ok ((.iconst 0), 1) := by decide +kernel
theorem d_Law_law_243 : decode b_Law_law 243 = .ok (.ireturn, 1) := by decide +kernel
theorem d_Law_law_244 : decode b_Law_law 244 = .ok ((.iload 5), 2) := by decide +kernel
theorem d_Law_law_246 : decode b_Law_law 246 = .ok ((.ifCond .ne 22), 3) := by decide +kernel
theorem d_Law_law_249 : decode b_Law_law 249 = .ok ((.aload_n 3), 1) := by decide +kernel
theorem d_Law_law_250 : decode b_Law_law 250 = .ok ((.iconst 0), 1) := by decide +kernel
theorem d_Law_law_251 : decode b_Law_law 251 = .ok (.laload, 1) := by decide +kernel
theorem d_Law_law_252 : decode b_Law_law 252 = .ok ((.iload 6), 2) := by decide +kernel
theorem d_Law_law_254 : decode b_Law_law 254 = .ok ((.ifCond .eq 7), 3) := by decide +kernel
theorem d_Law_law_257 : decode b_Law_law 257 = .ok ((.lconst 1), 1) := by decide +kernel
theorem d_Law_law_258 : decode b_Law_law 258 = .ok ((.goto 4), 3) := by decide +kernel
theorem d_Law_law_261 : decode b_Law_law 261 = .ok ((.lconst 0), 1) := by decide +kernel
theorem d_Law_law_262 : decode b_Law_law 262 = .ok (.lcmp, 1) := by decide +kernel
theorem d_Law_law_263 : decode b_Law_law 263 = .ok ((.ifCond .eq 5), 3) := by decide +kernel
theorem d_Law_law_266 : decode b_Law_law 266 = .ok ((.iconst 0), 1) := by decide +kernel
theorem d_Law_law_267 : decode b_Law_law 267 = .ok (.ireturn, 1) := by decide +kernel
theorem d_Law_law_268 : decode b_Law_law 268 = .ok ((.goto 805), 3) := by decide +kernel
theorem d_Law_law_271 : decode b_Law_law 271 = .ok ((.aload_n 1), 1) := by decide +kernel
theorem d_Law_law_272 : decode b_Law_law 272 = .ok ((.aload_n 0), 1) := by decide +kernel
theorem d_Law_law_273 : decode b_Law_law 273 = .ok ((.iload 4), 2) := by decide +kernel
theorem d_Law_law_275 : decode b_Law_law 275 = .ok ((.iconst 1), 1) := by decide +kernel
theorem d_Law_law_276 : decode b_Law_law 276 = .ok (.iadd, 1) := by decide +kernel
theorem d_Law_law_277 : decode b_Law_law 277 = .ok (.iaload, 1) := by decide +kernel
theorem d_Law_law_278 : decode b_Law_law 278 = .ok ((.aload_n 0), 1) := by decide +kernel
theorem d_Law_law_279 : decode b_Law_law 279 = .ok ((.iload 4), 2) := by decide +kernel
theorem d_Law_law_281 : decode b_Law_law 281 = .ok ((.iconst 2), 1) := by decide +kernel
theorem d_Law_law_282 : decode b_Law_law 282 = .ok (.iadd, 1) := by decide +kernel
theorem d_Law_law_283 : decode b_Law_law 283 = .ok (.iaload, 1) := by decide +kernel
theorem d_Law_law_284 : decode b_Law_law 284 = .ok ((.aload_n 0), 1) := by decide +kernel
theorem d_Law_law_285 : decode b_Law_law 285 = .ok ((.iload 4), 2) := by decide +kernel
theorem d_Law_law_287 : decode b_Law_law 287 = .ok ((.iconst 3), 1) := by decide +kernel
theorem d_Law_law_288 : decode b_Law_law 288 = .ok (.iadd, 1) := by decide +kernel
theorem d_Law_law_289 : decode b_Law_law 289 = .ok (.iaload, 1) := by decide +kernel
theorem d_Law_law_290 : decode b_Law_law 290 = .ok ((.aload_n 3), 1) := by decide +kernel
theorem d_Law_law_291 : decode b_Law_law 291 = .ok ((.invokestatic 87), 3) := by decide +kernel
theorem d_Law_law_294 : decode b_Law_law 294 = .ok ((.istore 5), 2) := by decide +kernel
theorem d_Law_law_296 : decode b_Law_law 296 = .ok ((.aload_n 2), 1) := by decide +kernel
theorem d_Law_law_297 : decode b_Law_law 297 = .ok ((.aload_n 0), 1) := by decide +kernel
theorem d_Law_law_298 : decode b_Law_law 298 = .ok ((.iload 4), 2) := by decide +kernel
theorem d_Law_law_300 : decode b_Law_law 300 = .ok ((.iconst 1), 1) := by decide +kernel
theorem d_Law_law_301 : decode b_Law_law 301 = .ok (.iadd, 1) := by decide +kernel
theorem d_Law_law_302 : decode b_Law_law 302 = .ok (.iaload, 1) := by decide +kernel
theorem d_Law_law_303 : decode b_Law_law 303 = .ok ((.aload_n 0), 1) := by decide +kernel
theorem d_Law_law_304 : decode b_Law_law 304 = .ok ((.iload 4), 2) := by decide +kernel
theorem d_Law_law_306 : decode b_Law_law 306 = .ok ((.iconst 2), 1) := by decide +kernel
theorem d_Law_law_307 : decode b_Law_law 307 = .ok (.iadd, 1) := by decide +kernel
theorem d_Law_law_308 : decode b_Law_law 308 = .ok (.iaload, 1) := by decide +kernel
theorem d_Law_law_309 : decode b_Law_law 309 = .ok ((.aload_n 0), 1) := by decide +kernel
theorem d_Law_law_310 : decode b_Law_law 310 = .ok ((.iload 4), 2) := by decide +kernel
theorem d_Law_law_312 : decode b_Law_law 312 = .ok ((.iconst 3), 1) := by decide +kernel
theorem d_Law_law_313 : decode b_Law_law 313 = .ok (.iadd, 1) := by decide +kernel
theorem d_Law_law_314 : decode b_Law_law 314 = .ok (.iaload, 1) := by decide +kernel
theorem d_Law_law_315 : decode b_Law_law 315 = .ok ((.invokevirtual 89), 3) := by decide +kernel
theorem d_Law_law_318 : decode b_Law_law 318 = .ok ((.istore 6), 2) := by decide +kernel
theorem d_Law_law_320 : decode b_Law_law 320 = .ok ((.aload_n 2), 1) := by decide +kernel
theorem d_Law_law_321 : decode b_Law_law 321 = .ok ((.invokevirtual 80), 3) := by decide +kernel
theorem d_Law_law_324 : decode b_Law_law 324 = .ok ((.iload 5), 2) := by decide +kernel
theorem d_Law_law_326 : decode b_Law_law 326 = .ok ((.if_icmp .eq 5), 3) := by decide +kernel
theorem d_Law_law_329 : decode b_Law_law 329 = .ok ((.iconst 0), 1) := by decide +kernel
theorem d_Law_law_330 : decode b_Law_law 330 = .ok (.ireturn, 1) := by decide +kernel
theorem d_Law_law_331 : decode b_Law_law 331 = .ok ((.iload 5), 2) := by decide +kernel
theorem d_Law_law_333 : decode b_Law_law 333 = .ok ((.ifCond .ne 22), 3) := by decide +kernel
theorem d_Law_law_336 : decode b_Law_law 336 = .ok ((.aload_n 3), 1) := by decide +kernel
theorem d_Law_law_337 : decode b_Law_law 337 = .ok ((.iconst 0), 1) := by decide +kernel
theorem d_Law_law_338 : decode b_Law_law 338 = .ok (.laload, 1) := by decide +kernel
theorem d_Law_law_339 : decode b_Law_law 339 = .ok ((.iload 6), 2) := by decide +kernel
theorem d_Law_law_341 : decode b_Law_law 341 = .ok ((.ifCond .eq 7), 3) := by decide +kernel
theorem d_Law_law_344 : decode b_Law_law 344 = .ok ((.lconst 1), 1) := by decide +kernel
theorem d_Law_law_345 : decode b_Law_law 345 = .ok ((.goto 4), 3) := by decide +kernel
theorem d_Law_law_348 : decode b_Law_law 348 = .ok ((.lconst 0), 1) := by decide +kernel
theorem d_Law_law_349 : decode b_Law_law 349 = .ok (.lcmp, 1) := by decide +kernel
theorem d_Law_law_350 : decode b_Law_law 350 = .ok ((.ifCond .eq 5), 3) := by decide +kernel
theorem d_Law_law_353 : decode b_Law_law 353 = .ok ((.iconst 0), 1) := by decide +kernel
theorem d_Law_law_354 : decode b_Law_law 354 = .ok (.ireturn, 1) := by decide +kernel
theorem d_Law_law_355 : decode b_Law_law 355 = .ok ((.goto 718), 3) := by decide +kernel
theorem d_Law_law_358 : decode b_Law_law 358 = .ok ((.aload_n 1), 1) := by decide +kernel
theorem d_Law_law_359 : decode b_Law_law 359 = .ok ((.invokevirtual 90), 3) := by decide +kernel
theorem d_Law_law_362 : decode b_Law_law 362 = .ok ((.aload_n 2), 1) := by decide +kernel
theorem d_Law_law_363 : decode b_Law_law 363 = .ok ((.invokevirtual 93), 3) := by decide +kernel
theorem d_Law_law_366 : decode b_Law_law 366 = .ok ((.if_icmp .eq 707), 3) := by decide +kernel
theorem d_Law_law_369 : decode b_Law_law 369 = .ok ((.iconst 0), 1) := by decide +kernel
theorem d_Law_law_370 : decode b_Law_law 370 = .ok (.ireturn, 1) := by decide +kernel
theorem d_Law_law_371 : decode b_Law_law 371 = .ok ((.aload_n 1), 1) := by decide +kernel
theorem d_Law_law_372 : decode b_Law_law 372 = .ok ((.aload_n 0), 1) := by decide +kernel
theorem d_Law_law_373 : decode b_Law_law 373 = .ok ((.iload 4), 2) := by decide +kernel
theorem d_Law_law_375 : decode b_Law_law 375 = .ok ((.iconst 1), 1) := by decide +kernel
theorem d_Law_law_376 : decode b_Law_law 376 = .ok (.iadd, 1) := by decide +kernel
theorem d_Law_law_377 : decode b_Law_law 377 = .ok (.iaload, 1) := by decide +kernel
theorem d_Law_law_378 : decode b_Law_law 378 = .ok ((.aload_n 0), 1) := by decide +kernel
theorem d_Law_law_379 : decode b_Law_law 379 = .ok ((.iload 4), 2) := by decide +kernel
theorem d_Law_law_381 : decode b_Law_law 381 = .ok ((.iconst 2), 1) := by decide +kernel
theorem d_Law_law_382 : decode b_Law_law 382 = .ok (.iadd, 1) := by decide +kernel
theorem d_Law_law_383 : decode b_Law_law 383 = .ok (.iaload, 1) := by decide +kernel
theorem d_Law_law_384 : decode b_Law_law 384 = .ok ((.aload_n 3), 1) := by decide +kernel
theorem d_Law_law_385 : decode b_Law_law 385 = .ok ((.invokestatic 94), 3) := by decide +kernel
theorem d_Law_law_388 : decode b_Law_law 388 = .ok ((.istore 5), 2) := by decide +kernel
theorem d_Law_law_390 : decode b_Law_law 390 = .ok ((.aload_n 2), 1) := by decide +kernel
theorem d_Law_law_391 : decode b_Law_law 391 = .ok ((.aload_n 0), 1) := by decide +kernel
theorem d_Law_law_392 : decode b_Law_law 392 = .ok ((.iload 4), 2) := by decide +kernel
theorem d_Law_law_394 : decode b_Law_law 394 = .ok ((.iconst 1), 1) := by decide +kernel
theorem d_Law_law_395 : decode b_Law_law 395 = .ok (.iadd, 1) := by decide +kernel
theorem d_Law_law_396 : decode b_Law_law 396 = .ok (.iaload, 1) := by decide +kernel
theorem d_Law_law_397 : decode b_Law_law 397 = .ok ((.aload_n 0), 1) := by decide +kernel
theorem d_Law_law_398 : decode b_Law_law 398 = .ok ((.iload 4), 2) := by decide +kernel
theorem d_Law_law_400 : decode b_Law_law 400 = .ok ((.iconst 2), 1) := by decide +kernel
theorem d_Law_law_401 : decode b_Law_law 401 = .ok (.iadd, 1) := by decide +kernel
theorem d_Law_law_402 : decode b_Law_law 402 = .ok (.iaload, 1) := by decide +kernel
theorem d_Law_law_403 : decode b_Law_law 403 = .ok ((.invokevirtual 97), 3) := by decide +kernel
theorem d_Law_law_406 : decode b_Law_law 406 = .ok ((.istore 6), 2) := by decide +kernel
theorem d_Law_law_408 : decode b_Law_law 408 = .ok ((.aload_n 2), 1) := by decide +kernel
theorem d_Law_law_409 : decode b_Law_law 409 = .ok ((.invokevirtual 80), 3) := by decide +kernel
theorem d_Law_law_412 : decode b_Law_law 412 = .ok ((.iload 5), 2) := by decide +kernel
theorem d_Law_law_414 : decode b_Law_law 414 = .ok ((.if_icmp .eq 5), 3) := by decide +kernel
theorem d_Law_law_417 : decode b_Law_law 417 = .ok ((.iconst 0), 1) := by decide +kernel
theorem d_Law_law_418 : decode b_Law_law 418 = .ok (.ireturn, 1) := by decide +kernel
theorem d_Law_law_419 : decode b_Law_law 419 = .ok ((.iload 5), 2) := by decide +kernel
theorem d_Law_law_421 : decode b_Law_law 421 = .ok ((.ifCond .ne 15), 3) := by decide +kernel
theorem d_Law_law_424 : decode b_Law_law 424 = .ok ((.aload_n 3), 1) := by decide +kernel
theorem d_Law_law_425 : decode b_Law_law 425 = .ok ((.iconst 0), 1) := by decide +kernel
theorem d_Law_law_426 : decode b_Law_law 426 = .ok (.laload, 1) := by decide +kernel
theorem d_Law_law_427 : decode b_Law_law 427 = .ok ((.iload 6), 2) := by decide +kernel
theorem d_Law_law_429 : decode b_Law_law 429 = .ok (.i2l, 1) := by decide +kernel
theorem d_Law_law_430 : decode b_Law_law 430 = .ok (.lcmp, 1) := by decide +kernel
theorem d_Law_law_431 : decode b_Law_law 431 = .ok ((.ifCond .eq 5), 3) := by decide +kernel
theorem d_Law_law_434 : decode b_Law_law 434 = .ok ((.iconst 0), 1) := by decide +kernel
theorem d_Law_law_435 : decode b_Law_law 435 = .ok (.ireturn, 1) := by decide +kernel
theorem d_Law_law_436 : decode b_Law_law 436 = .ok ((.goto 637), 3) := by decide +kernel
theorem d_Law_law_439 : decode b_Law_law 439 = .ok ((.aload_n 1), 1) := by decide +kernel
theorem d_Law_law_440 : decode b_Law_law 440 = .ok ((.aload_n 0), 1) := by decide +kernel
theorem d_Law_law_441 : decode b_Law_law 441 = .ok ((.iload 4), 2) := by decide +kernel
theorem d_Law_law_443 : decode b_Law_law 443 = .ok ((.iconst 1), 1) := by decide +kernel
theorem d_Law_law_444 : decode b_Law_law 444 = .ok (.iadd, 1) := by decide +kernel
theorem d_Law_law_445 : decode b_Law_law 445 = .ok (.iaload, 1) := by decide +kernel
theorem d_Law_law_446 : decode b_Law_law 446 = .ok ((.ifCond .eq 7), 3) := by decide +kernel
theorem d_Law_law_449 : decode b_Law_law 449 = .ok ((.iconst 1), 1) := by decide +kernel
theorem d_Law_law_450 : decode b_Law_law 450 = .ok ((.goto 4), 3) := by decide +kernel
theorem d_Law_law_453 : decode b_Law_law 453 = .ok ((.iconst 0), 1) := by decide +kernel
theorem d_Law_law_454 : decode b_Law_law 454 = .ok ((.aload_n 0), 1) := by decide +kernel
theorem d_Law_law_455 : decode b_Law_law 455 = .ok ((.iload 4), 2) := by decide +kernel
theorem d_Law_law_457 : decode b_Law_law 457 = .ok ((.iconst 2), 1) := by decide +kernel
theorem d_Law_law_458 : decode b_Law_law 458 = .ok (.iadd, 1) := by decide +kernel
theorem d_Law_law_459 : decode b_Law_law 459 = .ok (.iaload, 1) := by decide +kernel
theorem d_Law_law_460 : decode b_Law_law 460 = .ok (.i2l, 1) := by decide +kernel
theorem d_Law_law_461 : decode b_Law_law 461 = .ok ((.bipush 32), 2) := by decide +kernel
theorem d_Law_law_463 : decode b_Law_law 463 = .ok (.lshl, 1) := by decide +kernel
theorem d_Law_law_464 : decode b_Law_law 464 = .ok ((.aload_n 0), 1) := by decide +kernel
theorem d_Law_law_465 : decode b_Law_law 465 = .ok ((.iload 4), 2) := by decide +kernel
theorem d_Law_law_467 : decode b_Law_law 467 = .ok ((.iconst 3), 1) := by decide +kernel
theorem d_Law_law_468 : decode b_Law_law 468 = .ok (.iadd, 1) := by decide +kernel
theorem d_Law_law_469 : decode b_Law_law 469 = .ok (.iaload, 1) := by decide +kernel
theorem d_Law_law_470 : decode b_Law_law 470 = .ok (.i2l, 1) := by decide +kernel
theorem d_Law_law_471 : decode b_Law_law 471 = .ok ((.ldc2_w 98), 3) := by decide +kernel
theorem d_Law_law_474 : decode b_Law_law 474 = .ok (.land, 1) := by decide +kernel
theorem d_Law_law_475 : decode b_Law_law 475 = .ok (.lor, 1) := by decide +kernel
theorem d_Law_law_476 : decode b_Law_law 476 = .ok ((.aload_n 3), 1) := by decide +kernel
theorem d_Law_law_477 : decode b_Law_law 477 = .ok ((.invokestatic 100), 3) := by decide +kernel
theorem d_Law_law_480 : decode b_Law_law 480 = .ok ((.istore 5), 2) := by decide +kernel
theorem d_Law_law_482 : decode b_Law_law 482 = .ok ((.aload_n 2), 1) := by decide +kernel
theorem d_Law_law_483 : decode b_Law_law 483 = .ok ((.aload_n 0), 1) := by decide +kernel
theorem d_Law_law_484 : decode b_Law_law 484 = .ok ((.iload 4), 2) := by decide +kernel
theorem d_Law_law_486 : decode b_Law_law 486 = .ok ((.iconst 1), 1) := by decide +kernel
theorem d_Law_law_487 : decode b_Law_law 487 = .ok (.iadd, 1) := by decide +kernel
theorem d_Law_law_488 : decode b_Law_law 488 = .ok (.iaload, 1) := by decide +kernel
theorem d_Law_law_489 : decode b_Law_law 489 = .ok ((.ifCond .eq 7), 3) := by decide +kernel
theorem d_Law_law_492 : decode b_Law_law 492 = .ok ((.iconst 1), 1) := by decide +kernel
theorem d_Law_law_493 : decode b_Law_law 493 = .ok ((.goto 4), 3) := by decide +kernel
theorem d_Law_law_496 : decode b_Law_law 496 = .ok ((.iconst 0), 1) := by decide +kernel
theorem d_Law_law_497 : decode b_Law_law 497 = .ok ((.aload_n 0), 1) := by decide +kernel
theorem d_Law_law_498 : decode b_Law_law 498 = .ok ((.iload 4), 2) := by decide +kernel
theorem d_Law_law_500 : decode b_Law_law 500 = .ok ((.iconst 2), 1) := by decide +kernel
theorem d_Law_law_501 : decode b_Law_law 501 = .ok (.iadd, 1) := by decide +kernel
theorem d_Law_law_502 : decode b_Law_law 502 = .ok (.iaload, 1) := by decide +kernel
theorem d_Law_law_503 : decode b_Law_law 503 = .ok (.i2l, 1) := by decide +kernel
theorem d_Law_law_504 : decode b_Law_law 504 = .ok ((.bipush 32), 2) := by decide +kernel
theorem d_Law_law_506 : decode b_Law_law 506 = .ok (.lshl, 1) := by decide +kernel
theorem d_Law_law_507 : decode b_Law_law 507 = .ok ((.aload_n 0), 1) := by decide +kernel
theorem d_Law_law_508 : decode b_Law_law 508 = .ok ((.iload 4), 2) := by decide +kernel
theorem d_Law_law_510 : decode b_Law_law 510 = .ok ((.iconst 3), 1) := by decide +kernel
theorem d_Law_law_511 : decode b_Law_law 511 = .ok (.iadd, 1) := by decide +kernel
theorem d_Law_law_512 : decode b_Law_law 512 = .ok (.iaload, 1) := by decide +kernel
theorem d_Law_law_513 : decode b_Law_law 513 = .ok (.i2l, 1) := by decide +kernel
theorem d_Law_law_514 : decode b_Law_law 514 = .ok ((.ldc2_w 98), 3) := by decide +kernel
theorem d_Law_law_517 : decode b_Law_law 517 = .ok (.land, 1) := by decide +kernel
theorem d_Law_law_518 : decode b_Law_law 518 = .ok (.lor, 1) := by decide +kernel
theorem d_Law_law_519 : decode b_Law_law 519 = .ok ((.invokevirtual 103), 3) := by decide +kernel
theorem d_Law_law_522 : decode b_Law_law 522 = .ok ((.istore 6), 2) := by decide +kernel
theorem d_Law_law_524 : decode b_Law_law 524 = .ok ((.aload_n 2), 1) := by decide +kernel
theorem d_Law_law_525 : decode b_Law_law 525 = .ok ((.invokevirtual 80), 3) := by decide +kernel
theorem d_Law_law_528 : decode b_Law_law 528 = .ok ((.iload 5), 2) := by decide +kernel
theorem d_Law_law_530 : decode b_Law_law 530 = .ok ((.if_icmp .eq 5), 3) := by decide +kernel
theorem d_Law_law_533 : decode b_Law_law 533 = .ok ((.iconst 0), 1) := by decide +kernel
theorem d_Law_law_534 : decode b_Law_law 534 = .ok (.ireturn, 1) := by decide +kernel
theorem d_Law_law_535 : decode b_Law_law 535 = .ok ((.iload 5), 2) := by decide +kernel
theorem d_Law_law_537 : decode b_Law_law 537 = .ok ((.ifCond .ne 15), 3) := by decide +kernel
theorem d_Law_law_540 : decode b_Law_law 540 = .ok ((.aload_n 3), 1) := by decide +kernel
theorem d_Law_law_541 : decode b_Law_law 541 = .ok ((.iconst 0), 1) := by decide +kernel
theorem d_Law_law_542 : decode b_Law_law 542 = .ok (.laload, 1) := by decide +kernel
theorem d_Law_law_543 : decode b_Law_law 543 = .ok ((.iload 6), 2) := by decide +kernel
theorem d_Law_law_545 : decode b_Law_law 545 = .ok (.i2l, 1) := by decide +kernel
theorem d_Law_law_546 : decode b_Law_law 546 = .ok (.lcmp, 1) := by decide +kernel
theorem d_Law_law_547 : decode b_Law_law 547 = .ok ((.ifCond .eq 5), 3) := by decide +kernel
theorem d_Law_law_550 : decode b_Law_law 550 = .ok ((.iconst 0), 1) := by decide +kernel
theorem d_Law_law_551 : decode b_Law_law 551 = .ok (.ireturn, 1) := by decide +kernel
theorem d_Law_law_552 : decode b_Law_law 552 = .ok ((.goto 521), 3) := by decide +kernel
theorem d_Law_law_555 : decode b_Law_law 555 = .ok ((.aload_n 1), 1) := by decide +kernel
theorem d_Law_law_556 : decode b_Law_law 556 = .ok ((.aload_n 0), 1) := by decide +kernel
theorem d_Law_law_557 : decode b_Law_law 557 = .ok ((.iload 4), 2) := by decide +kernel
theorem d_Law_law_559 : decode b_Law_law 559 = .ok ((.iconst 1), 1) := by decide +kernel
theorem d_Law_law_560 : decode b_Law_law 560 = .ok (.iadd, 1) := by decide +kernel
theorem d_Law_law_561 : decode b_Law_law 561 = .ok (.iaload, 1) := by decide +kernel
theorem d_Law_law_562 : decode b_Law_law 562 = .ok ((.aload_n 0), 1) := by decide +kernel
theorem d_Law_law_563 : decode b_Law_law 563 = .ok ((.iload 4), 2) := by decide +kernel
theorem d_Law_law_565 : decode b_Law_law 565 = .ok ((.iconst 2), 1) := by decide +kernel
theorem d_Law_law_566 : decode b_Law_law 566 = .ok (.iadd, 1) := by decide +kernel
theorem d_Law_law_567 : decode b_Law_law 567 = .ok (.iaload, 1) := by decide +kernel
theorem d_Law_law_568 : decode b_Law_law 568 = .ok ((.aload_n 3), 1) := by decide +kernel
theorem d_Law_law_569 : decode b_Law_law 569 = .ok ((.invokestatic 104), 3) := by decide +kernel
theorem d_Law_law_572 : decode b_Law_law 572 = .ok ((.istore 5), 2) := by decide +kernel
theorem d_Law_law_574 : decode b_Law_law 574 = .ok ((.aload_n 2), 1) := by decide +kernel
theorem d_Law_law_575 : decode b_Law_law 575 = .ok ((.aload_n 0), 1) := by decide +kernel
theorem d_Law_law_576 : decode b_Law_law 576 = .ok ((.iload 4), 2) := by decide +kernel
theorem d_Law_law_578 : decode b_Law_law 578 = .ok ((.iconst 1), 1) := by decide +kernel
theorem d_Law_law_579 : decode b_Law_law 579 = .ok (.iadd, 1) := by decide +kernel
theorem d_Law_law_580 : decode b_Law_law 580 = .ok (.iaload, 1) := by decide +kernel
theorem d_Law_law_581 : decode b_Law_law 581 = .ok ((.aload_n 0), 1) := by decide +kernel
theorem d_Law_law_582 : decode b_Law_law 582 = .ok ((.iload 4), 2) := by decide +kernel
theorem d_Law_law_584 : decode b_Law_law 584 = .ok ((.iconst 2), 1) := by decide +kernel
theorem d_Law_law_585 : decode b_Law_law 585 = .ok (.iadd, 1) := by decide +kernel
theorem d_Law_law_586 : decode b_Law_law 586 = .ok (.iaload, 1) := by decide +kernel
theorem d_Law_law_587 : decode b_Law_law 587 = .ok ((.invokevirtual 106), 3) := by decide +kernel
theorem d_Law_law_590 : decode b_Law_law 590 = .ok ((.istore 6), 2) := by decide +kernel
theorem d_Law_law_592 : decode b_Law_law 592 = .ok ((.aload_n 2), 1) := by decide +kernel
theorem d_Law_law_593 : decode b_Law_law 593 = .ok ((.invokevirtual 80), 3) := by decide +kernel
theorem d_Law_law_596 : decode b_Law_law 596 = .ok ((.iload 5), 2) := by decide +kernel
theorem d_Law_law_598 : decode b_Law_law 598 = .ok ((.if_icmp .eq 5), 3) := by decide +kernel
theorem d_Law_law_601 : decode b_Law_law 601 = .ok ((.iconst 0), 1) := by decide +kernel
theorem d_Law_law_602 : decode b_Law_law 602 = .ok (.ireturn, 1) := by decide +kernel
theorem d_Law_law_603 : decode b_Law_law 603 = .ok ((.iload 5), 2) := by decide +kernel
theorem d_Law_law_605 : decode b_Law_law 605 = .ok ((.ifCond .ne 15), 3) := by decide +kernel
theorem d_Law_law_608 : decode b_Law_law 608 = .ok ((.aload_n 3), 1) := by decide +kernel
theorem d_Law_law_609 : decode b_Law_law 609 = .ok ((.iconst 0), 1) := by decide +kernel
theorem d_Law_law_610 : decode b_Law_law 610 = .ok (.laload, 1) := by decide +kernel
theorem d_Law_law_611 : decode b_Law_law 611 = .ok ((.iload 6), 2) := by decide +kernel
theorem d_Law_law_613 : decode b_Law_law 613 = .ok (.i2l, 1) := by decide +kernel
theorem d_Law_law_614 : decode b_Law_law 614 = .ok (.lcmp, 1) := by decide +kernel
theorem d_Law_law_615 : decode b_Law_law 615 = .ok ((.ifCond .eq 5), 3) := by decide +kernel
theorem d_Law_law_618 : decode b_Law_law 618 = .ok ((.iconst 0), 1) := by decide +kernel
theorem d_Law_law_619 : decode b_Law_law 619 = .ok (.ireturn, 1) := by decide +kernel
theorem d_Law_law_620 : decode b_Law_law 620 = .ok ((.goto 453), 3) := by decide +kernel
theorem d_Law_law_623 : decode b_Law_law 623 = .ok ((.aload_n 1), 1) := by decide +kernel
theorem d_Law_law_624 : decode b_Law_law 624 = .ok ((.invokevirtual 107), 3) := by decide +kernel
theorem d_Law_law_627 : decode b_Law_law 627 = .ok ((.aload_n 2), 1) := by decide +kernel
theorem d_Law_law_628 : decode b_Law_law 628 = .ok ((.invokevirtual 110), 3) := by decide +kernel
theorem d_Law_law_631 : decode b_Law_law 631 = .ok ((.if_icmp .eq 442), 3) := by decide +kernel
theorem d_Law_law_634 : decode b_Law_law 634 = .ok ((.iconst 0), 1) := by decide +kernel
theorem d_Law_law_635 : decode b_Law_law 635 = .ok (.ireturn, 1) := by decide +kernel
theorem d_Law_law_636 : decode b_Law_law 636 = .ok ((.aload_n 1), 1) := by decide +kernel
theorem d_Law_law_637 : decode b_Law_law 637 = .ok ((.aload_n 3), 1) := by decide +kernel
theorem d_Law_law_638 : decode b_Law_law 638 = .ok ((.invokestatic 111), 3) := by decide +kernel
theorem d_Law_law_641 : decode b_Law_law 641 = .ok ((.istore 5), 2) := by decide +kernel
theorem d_Law_law_643 : decode b_Law_law 643 = .ok ((.aload_n 2), 1) := by decide +kernel
theorem d_Law_law_644 : decode b_Law_law 644 = .ok ((.invokevirtual 113), 3) := by decide +kernel
theorem d_Law_law_647 : decode b_Law_law 647 = .ok ((.lstore 6), 2) := by decide +kernel
theorem d_Law_law_649 : decode b_Law_law 649 = .ok ((.aload_n 2), 1) := by decide +kernel
theorem d_Law_law_650 : decode b_Law_law 650 = .ok ((.invokevirtual 80), 3) := by decide +kernel
theorem d_Law_law_653 : decode b_Law_law 653 = .ok ((.iload 5), 2) := by decide +kernel
theorem d_Law_law_655 : decode b_Law_law 655 = .ok ((.if_icmp .eq 5), 3) := by decide +kernel
theorem d_Law_law_658 : decode b_Law_law 658 = .ok ((.iconst 0), 1) := by decide +kernel
theorem d_Law_law_659 : decode b_Law_law 659 = .ok (.ireturn, 1) := by decide +kernel
theorem d_Law_law_660 : decode b_Law_law 660 = .ok ((.iload 5), 2) := by decide +kernel
theorem d_Law_law_662 : decode b_Law_law 662 = .ok ((.ifCond .ne 14), 3) := by decide +kernel
theorem d_Law_law_665 : decode b_Law_law 665 = .ok ((.aload_n 3), 1) := by decide +kernel
theorem d_Law_law_666 : decode b_Law_law 666 = .ok ((.iconst 0), 1) := by decide +kernel
theorem d_Law_law_667 : decode b_Law_law 667 = .ok (.laload, 1) := by decide +kernel
theorem d_Law_law_668 : decode b_Law_law 668 = .ok ((.lload 6), 2) := by decide +kernel
theorem d_Law_law_670 : decode b_Law_law 670 = .ok (.lcmp, 1) := by decide +kernel
theorem d_Law_law_671 : decode b_Law_law 671 = .ok ((.ifCond .eq 5), 3) := by decide +kernel
theorem d_Law_law_674 : decode b_Law_law 674 = .ok ((.iconst 0), 1) := by decide +kernel
theorem d_Law_law_675 : decode b_Law_law 675 = .ok (.ireturn, 1) := by decide +kernel
theorem d_Law_law_676 : decode b_Law_law 676 = .ok ((.goto 397), 3) := by decide +kernel
theorem d_Law_law_679 : decode b_Law_law 679 = .ok ((.aload_n 1), 1) := by decide +kernel
theorem d_Law_law_680 : decode b_Law_law 680 = .ok ((.aload_n 3), 1) := by decide +kernel
theorem d_Law_law_681 : decode b_Law_law 681 = .ok ((.invokestatic 114), 3) := by decide +kernel
theorem d_Law_law_684 : decode b_Law_law 684 = .ok ((.istore 5), 2) := by decide +kernel
theorem d_Law_law_686 : decode b_Law_law 686 = .ok ((.aload_n 2), 1) := by decide +kernel
theorem d_Law_law_687 : decode b_Law_law 687 = .ok ((.invokevirtual 116), 3) := by decide +kernel
theorem d_Law_law_690 : decode b_Law_law 690 = .ok ((.istore 6), 2) := by decide +kernel
theorem d_Law_law_692 : decode b_Law_law 692 = .ok ((.aload_n 2), 1) := by decide +kernel
theorem d_Law_law_693 : decode b_Law_law 693 = .ok ((.invokevirtual 80), 3) := by decide +kernel
theorem d_Law_law_696 : decode b_Law_law 696 = .ok ((.iload 5), 2) := by decide +kernel
theorem d_Law_law_698 : decode b_Law_law 698 = .ok ((.if_icmp .eq 5), 3) := by decide +kernel
theorem d_Law_law_701 : decode b_Law_law 701 = .ok ((.iconst 0), 1) := by decide +kernel
theorem d_Law_law_702 : decode b_Law_law 702 = .ok (.ireturn, 1) := by decide +kernel
theorem d_Law_law_703 : decode b_Law_law 703 = .ok ((.iload 5), 2) := by decide +kernel
theorem d_Law_law_705 : decode b_Law_law 705 = .ok ((.ifCond .ne 15), 3) := by decide +kernel
theorem d_Law_law_708 : decode b_Law_law 708 = .ok ((.aload_n 3), 1) := by decide +kernel
theorem d_Law_law_709 : decode b_Law_law 709 = .ok ((.iconst 0), 1) := by decide +kernel
theorem d_Law_law_710 : decode b_Law_law 710 = .ok (.laload, 1) := by decide +kernel
theorem d_Law_law_711 : decode b_Law_law 711 = .ok ((.iload 6), 2) := by decide +kernel
theorem d_Law_law_713 : decode b_Law_law 713 = .ok (.i2l, 1) := by decide +kernel
theorem d_Law_law_714 : decode b_Law_law 714 = .ok (.lcmp, 1) := by decide +kernel
theorem d_Law_law_715 : decode b_Law_law 715 = .ok ((.ifCond .eq 5), 3) := by decide +kernel
theorem d_Law_law_718 : decode b_Law_law 718 = .ok ((.iconst 0), 1) := by decide +kernel
theorem d_Law_law_719 : decode b_Law_law 719 = .ok (.ireturn, 1) := by decide +kernel
theorem d_Law_law_720 : decode b_Law_law 720 = .ok ((.goto 353), 3) := by decide +kernel
theorem d_Law_law_723 : decode b_Law_law 723 = .ok ((.aload_n 1), 1) := by decide +kernel
theorem d_Law_law_724 : decode b_Law_law 724 = .ok ((.aload_n 0), 1) := by decide +kernel
theorem d_Law_law_725 : decode b_Law_law 725 = .ok ((.iload 4), 2) := by decide +kernel
theorem d_Law_law_727 : decode b_Law_law 727 = .ok ((.iconst 1), 1) := by decide +kernel
theorem d_Law_law_728 : decode b_Law_law 728 = .ok (.iadd, 1) := by decide +kernel
theorem d_Law_law_729 : decode b_Law_law 729 = .ok (.iaload, 1) := by decide +kernel
theorem d_Law_law_730 : decode b_Law_law 730 = .ok ((.aload_n 3), 1) := by decide +kernel
theorem d_Law_law_731 : decode b_Law_law 731 = .ok ((.invokestatic 117), 3) := by decide +kernel
theorem d_Law_law_734 : decode b_Law_law 734 = .ok ((.istore 5), 2) := by decide +kernel
theorem d_Law_law_736 : decode b_Law_law 736 = .ok ((.aload_n 2), 1) := by decide +kernel
theorem d_Law_law_737 : decode b_Law_law 737 = .ok ((.aload_n 0), 1) := by decide +kernel
theorem d_Law_law_738 : decode b_Law_law 738 = .ok ((.iload 4), 2) := by decide +kernel
theorem d_Law_law_740 : decode b_Law_law 740 = .ok ((.iconst 1), 1) := by decide +kernel
theorem d_Law_law_741 : decode b_Law_law 741 = .ok (.iadd, 1) := by decide +kernel
theorem d_Law_law_742 : decode b_Law_law 742 = .ok (.iaload, 1) := by decide +kernel
theorem d_Law_law_743 : decode b_Law_law 743 = .ok ((.invokevirtual 120), 3) := by decide +kernel
theorem d_Law_law_746 : decode b_Law_law 746 = .ok ((.istore 6), 2) := by decide +kernel
theorem d_Law_law_748 : decode b_Law_law 748 = .ok ((.aload_n 2), 1) := by decide +kernel
theorem d_Law_law_749 : decode b_Law_law 749 = .ok ((.invokevirtual 80), 3) := by decide +kernel
theorem d_Law_law_752 : decode b_Law_law 752 = .ok ((.iload 5), 2) := by decide +kernel
theorem d_Law_law_754 : decode b_Law_law 754 = .ok ((.if_icmp .eq 5), 3) := by decide +kernel
theorem d_Law_law_757 : decode b_Law_law 757 = .ok ((.iconst 0), 1) := by decide +kernel
theorem d_Law_law_758 : decode b_Law_law 758 = .ok (.ireturn, 1) := by decide +kernel
theorem d_Law_law_759 : decode b_Law_law 759 = .ok ((.iload 5), 2) := by decide +kernel
theorem d_Law_law_761 : decode b_Law_law 761 = .ok ((.ifCond .ne 15), 3) := by decide +kernel
theorem d_Law_law_764 : decode b_Law_law 764 = .ok ((.aload_n 3), 1) := by decide +kernel
theorem d_Law_law_765 : decode b_Law_law 765 = .ok ((.iconst 0), 1) := by decide +kernel
theorem d_Law_law_766 : decode b_Law_law 766 = .ok (.laload, 1) := by decide +kernel
theorem d_Law_law_767 : decode b_Law_law 767 = .ok ((.iload 6), 2) := by decide +kernel
theorem d_Law_law_769 : decode b_Law_law 769 = .ok (.i2l, 1) := by decide +kernel
theorem d_Law_law_770 : decode b_Law_law 770 = .ok (.lcmp, 1) := by decide +kernel
theorem d_Law_law_771 : decode b_Law_law 771 = .ok ((.ifCond .eq 5), 3) := by decide +kernel
theorem d_Law_law_774 : decode b_Law_law 774 = .ok ((.iconst 0), 1) := by decide +kernel
theorem d_Law_law_775 : decode b_Law_law 775 = .ok (.ireturn, 1) := by decide +kernel
theorem d_Law_law_776 : decode b_Law_law 776 = .ok ((.goto 297), 3) := by decide +kernel
theorem d_Law_law_779 : decode b_Law_law 779 = .ok ((.aload_n 1), 1) := by decide +kernel
theorem d_Law_law_780 : decode b_Law_law 780 = .ok ((.aload_n 0), 1) := by decide +kernel
theorem d_Law_law_781 : decode b_Law_law 781 = .ok ((.iload 4), 2) := by decide +kernel
theorem d_Law_law_783 : decode b_Law_law 783 = .ok ((.iconst 1), 1) := by decide +kernel
theorem d_Law_law_784 : decode b_Law_law 784 = .ok (.iadd, 1) := by decide +kernel
theorem d_Law_law_785 : decode b_Law_law 785 = .ok (.iaload, 1) := by decide +kernel
theorem d_Law_law_786 : decode b_Law_law 786 = .ok ((.aload_n 3), 1) := by decide +kernel
theorem d_Law_law_787 : decode b_Law_law 787 = .ok ((.invokestatic 121), 3) := by decide +kernel
theorem d_Law_law_790 : decode b_Law_law 790 = .ok ((.istore 5), 2) := by decide +kernel
theorem d_Law_law_792 : decode b_Law_law 792 = .ok ((.aload_n 2), 1) := by decide +kernel
theorem d_Law_law_793 : decode b_Law_law 793 = .ok ((.aload_n 0), 1) := by decide +kernel
theorem d_Law_law_794 : decode b_Law_law 794 = .ok ((.iload 4), 2) := by decide +kernel
theorem d_Law_law_796 : decode b_Law_law 796 = .ok ((.iconst 1), 1) := by decide +kernel
theorem d_Law_law_797 : decode b_Law_law 797 = .ok (.iadd, 1) := by decide +kernel
theorem d_Law_law_798 : decode b_Law_law 798 = .ok (.iaload, 1) := by decide +kernel
theorem d_Law_law_799 : decode b_Law_law 799 = .ok ((.invokevirtual 123), 3) := by decide +kernel
theorem d_Law_law_802 : decode b_Law_law 802 = .ok ((.istore 6), 2) := by decide +kernel
theorem d_Law_law_804 : decode b_Law_law 804 = .ok ((.aload_n 2), 1) := by decide +kernel
theorem d_Law_law_805 : decode b_Law_law 805 = .ok ((.invokevirtual 80), 3) := by decide +kernel
theorem d_Law_law_808 : decode b_Law_law 808 = .ok ((.iload 5), 2) := by decide +kernel
theorem d_Law_law_810 : decode b_Law_law 810 = .ok ((.if_icmp .eq 5), 3) := by decide +kernel
theorem d_Law_law_813 : decode b_Law_law 813 = .ok ((.iconst 0), 1) := by decide +kernel
theorem d_Law_law_814 : decode b_Law_law 814 = .ok (.ireturn, 1) := by decide +kernel
theorem d_Law_law_815 : decode b_Law_law 815 = .ok ((.iload 5), 2) := by decide +kernel
theorem d_Law_law_817 : decode b_Law_law 817 = .ok ((.ifCond .ne 15), 3) := by decide +kernel
theorem d_Law_law_820 : decode b_Law_law 820 = .ok ((.aload_n 3), 1) := by decide +kernel
theorem d_Law_law_821 : decode b_Law_law 821 = .ok ((.iconst 0), 1) := by decide +kernel
theorem d_Law_law_822 : decode b_Law_law 822 = .ok (.laload, 1) := by decide +kernel
theorem d_Law_law_823 : decode b_Law_law 823 = .ok ((.iload 6), 2) := by decide +kernel
theorem d_Law_law_825 : decode b_Law_law 825 = .ok (.i2l, 1) := by decide +kernel
theorem d_Law_law_826 : decode b_Law_law 826 = .ok (.lcmp, 1) := by decide +kernel
theorem d_Law_law_827 : decode b_Law_law 827 = .ok ((.ifCond .eq 5), 3) := by decide +kernel
theorem d_Law_law_830 : decode b_Law_law 830 = .ok ((.iconst 0), 1) := by decide +kernel
theorem d_Law_law_831 : decode b_Law_law 831 = .ok (.ireturn, 1) := by decide +kernel
theorem d_Law_law_832 : decode b_Law_law 832 = .ok ((.goto 241), 3) := by decide +kernel
theorem d_Law_law_835 : decode b_Law_law 835 = .ok ((.aload_n 1), 1) := by decide +kernel
theorem d_Law_law_836 : decode b_Law_law 836 = .ok ((.aload_n 0), 1) := by decide +kernel
theorem d_Law_law_837 : decode b_Law_law 837 = .ok ((.iload 4), 2) := by decide +kernel
theorem d_Law_law_839 : decode b_Law_law 839 = .ok ((.iconst 1), 1) := by decide +kernel
theorem d_Law_law_840 : decode b_Law_law 840 = .ok (.iadd, 1) := by decide +kernel
theorem d_Law_law_841 : decode b_Law_law 841 = .ok (.iaload, 1) := by decide +kernel
theorem d_Law_law_842 : decode b_Law_law 842 = .ok ((.aload_n 3), 1) := by decide +kernel
theorem d_Law_law_843 : decode b_Law_law 843 = .ok ((.invokestatic 124), 3) := by decide +kernel
theorem d_Law_law_846 : decode b_Law_law 846 = .ok ((.istore 5), 2) := by decide +kernel
theorem d_Law_law_848 : decode b_Law_law 848 = .ok ((.aload_n 2), 1) := by decide +kernel
theorem d_Law_law_849 : decode b_Law_law 849 = .ok ((.aload_n 0), 1) := by decide +kernel
theorem d_Law_law_850 : decode b_Law_law 850 = .ok ((.iload 4), 2) := by decide +kernel
theorem d_Law_law_852 : decode b_Law_law 852 = .ok ((.iconst 1), 1) := by decide +kernel
theorem d_Law_law_853 : decode b_Law_law 853 = .ok (.iadd, 1) := by decide +kernel
theorem d_Law_law_854 : decode b_Law_law 854 = .ok (.iaload, 1) := by decide +kernel
theorem d_Law_law_855 : decode b_Law_law 855 = .ok ((.invokevirtual 126), 3) := by decide +kernel
theorem d_Law_law_858 : decode b_Law_law 858 = .ok ((.istore 6), 2) := by decide +kernel
theorem d_Law_law_860 : decode b_Law_law 860 = .ok ((.aload_n 2), 1) := by decide +kernel
theorem d_Law_law_861 : decode b_Law_law 861 = .ok ((.invokevirtual 80), 3) := by decide +kernel
theorem d_Law_law_864 : decode b_Law_law 864 = .ok ((.iload 5), 2) := by decide +kernel
theorem d_Law_law_866 : decode b_Law_law 866 = .ok ((.if_icmp .eq 5), 3) := by decide +kernel
theorem d_Law_law_869 : decode b_Law_law 869 = .ok ((.iconst 0), 1) := by decide +kernel
theorem d_Law_law_870 : decode b_Law_law 870 = .ok (.ireturn, 1) := by decide +kernel
theorem d_Law_law_871 : decode b_Law_law 871 = .ok ((.iload 5), 2) := by decide +kernel
theorem d_Law_law_873 : decode b_Law_law 873 = .ok ((.ifCond .ne 15), 3) := by decide +kernel
theorem d_Law_law_876 : decode b_Law_law 876 = .ok ((.aload_n 3), 1) := by decide +kernel
theorem d_Law_law_877 : decode b_Law_law 877 = .ok ((.iconst 0), 1) := by decide +kernel
theorem d_Law_law_878 : decode b_Law_law 878 = .ok (.laload, 1) := by decide +kernel
theorem d_Law_law_879 : decode b_Law_law 879 = .ok ((.iload 6), 2) := by decide +kernel
theorem d_Law_law_881 : decode b_Law_law 881 = .ok (.i2l, 1) := by decide +kernel
theorem d_Law_law_882 : decode b_Law_law 882 = .ok (.lcmp, 1) := by decide +kernel
theorem d_Law_law_883 : decode b_Law_law 883 = .ok ((.ifCond .eq 5), 3) := by decide +kernel
theorem d_Law_law_886 : decode b_Law_law 886 = .ok ((.iconst 0), 1) := by decide +kernel
theorem d_Law_law_887 : decode b_Law_law 887 = .ok (.ireturn, 1) := by decide +kernel
theorem d_Law_law_888 : decode b_Law_law 888 = .ok ((.goto 185), 3) := by decide +kernel
theorem d_Law_law_891 : decode b_Law_law 891 = .ok ((.aload_n 1), 1) := by decide +kernel
theorem d_Law_law_892 : decode b_Law_law 892 = .ok ((.invokevirtual 127), 3) := by decide +kernel
theorem d_Law_law_895 : decode b_Law_law 895 = .ok ((.aload_n 2), 1) := by decide +kernel
theorem d_Law_law_896 : decode b_Law_law 896 = .ok ((.invokevirtual 130), 3) := by decide +kernel
theorem d_Law_law_899 : decode b_Law_law 899 = .ok ((.if_icmp .eq 174), 3) := by decide +kernel
theorem d_Law_law_902 : decode b_Law_law 902 = .ok ((.iconst 0), 1) := by decide +kernel
theorem d_Law_law_903 : decode b_Law_law 903 = .ok (.ireturn, 1) := by decide +kernel
theorem d_Law_law_904 : decode b_Law_law 904 = .ok ((.aload_n 1), 1) := by decide +kernel
theorem d_Law_law_905 : decode b_Law_law 905 = .ok ((.aload_n 3), 1) := by decide +kernel
theorem d_Law_law_906 : decode b_Law_law 906 = .ok ((.invokestatic 131), 3) := by decide +kernel
theorem d_Law_law_909 : decode b_Law_law 909 = .ok ((.istore 5), 2) := by decide +kernel
theorem d_Law_law_911 : decode b_Law_law 911 = .ok ((.aload_n 2), 1) := by decide +kernel
theorem d_Law_law_912 : decode b_Law_law 912 = .ok ((.invokevirtual 133), 3) := by decide +kernel
theorem d_Law_law_915 : decode b_Law_law 915 = .ok ((.istore 6), 2) := by decide +kernel
theorem d_Law_law_917 : decode b_Law_law 917 = .ok ((.aload_n 2), 1) := by decide +kernel
theorem d_Law_law_918 : decode b_Law_law 918 = .ok ((.invokevirtual 80), 3) := by decide +kernel
theorem d_Law_law_921 : decode b_Law_law 921 = .ok ((.iload 5), 2) := by decide +kernel
theorem d_Law_law_923 : decode b_Law_law 923 = .ok ((.if_icmp .eq 5), 3) := by decide +kernel
theorem d_Law_law_926 : decode b_Law_law 926 = .ok ((.iconst 0), 1) := by decide +kernel
theorem d_Law_law_927 : decode b_Law_law 927 = .ok (.ireturn, 1) := by decide +kernel
theorem d_Law_law_928 : decode b_Law_law 928 = .ok ((.iload 5), 2) := by decide +kernel
theorem d_Law_law_930 : decode b_Law_law 930 = .ok ((.ifCond .ne 22), 3) := by decide +kernel
theorem d_Law_law_933 : decode b_Law_law 933 = .ok ((.aload_n 3), 1) := by decide +kernel
theorem d_Law_law_934 : decode b_Law_law 934 = .ok ((.iconst 0), 1) := by decide +kernel
theorem d_Law_law_935 : decode b_Law_law 935 = .ok (.laload, 1) := by decide +kernel
theorem d_Law_law_936 : decode b_Law_law 936 = .ok ((.iload 6), 2) := by decide +kernel
theorem d_Law_law_938 : decode b_Law_law 938 = .ok ((.ifCond .eq 7), 3) := by decide +kernel
theorem d_Law_law_941 : decode b_Law_law 941 = .ok ((.lconst 1), 1) := by decide +kernel
theorem d_Law_law_942 : decode b_Law_law 942 = .ok ((.goto 4), 3) := by decide +kernel
theorem d_Law_law_945 : decode b_Law_law 945 = .ok ((.lconst 0), 1) := by decide +kernel
theorem d_Law_law_946 : decode b_Law_law 946 = .ok (.lcmp, 1) := by decide +kernel
theorem d_Law_law_947 : decode b_Law_law 947 = .ok ((.ifCond .eq 5), 3) := by decide +kernel
theorem d_Law_law_950 : decode b_Law_law 950 = .ok ((.iconst 0), 1) := by decide +kernel
theorem d_Law_law_951 : decode b_Law_law 951 = .ok (.ireturn, 1) := by decide +kernel
theorem d_Law_law_952 : decode b_Law_law 952 = .ok ((.goto 121), 3) := by decide +kernel
theorem d_Law_law_955 : decode b_Law_law 955 = .ok ((.aload_n 1), 1) := by decide +kernel
theorem d_Law_law_956 : decode b_Law_law 956 = .ok ((.aload_n 0), 1) := by decide +kernel
theorem d_Law_law_957 : decode b_Law_law 957 = .ok ((.iload 4), 2) := by decide +kernel
theorem d_Law_law_959 : decode b_Law_law 959 = .ok ((.iconst 1), 1) := by decide +kernel
theorem d_Law_law_960 : decode b_Law_law 960 = .ok (.iadd, 1) := by decide +kernel
theorem d_Law_law_961 : decode b_Law_law 961 = .ok (.iaload, 1) := by decide +kernel
theorem d_Law_law_962 : decode b_Law_law 962 = .ok (.i2l, 1) := by decide +kernel
theorem d_Law_law_963 : decode b_Law_law 963 = .ok ((.bipush 32), 2) := by decide +kernel
theorem d_Law_law_965 : decode b_Law_law 965 = .ok (.lshl, 1) := by decide +kernel
theorem d_Law_law_966 : decode b_Law_law 966 = .ok ((.aload_n 0), 1) := by decide +kernel
theorem d_Law_law_967 : decode b_Law_law 967 = .ok ((.iload 4), 2) := by decide +kernel
theorem d_Law_law_969 : decode b_Law_law 969 = .ok ((.iconst 2), 1) := by decide +kernel
theorem d_Law_law_970 : decode b_Law_law 970 = .ok (.iadd, 1) := by decide +kernel
theorem d_Law_law_971 : decode b_Law_law 971 = .ok (.iaload, 1) := by decide +kernel
theorem d_Law_law_972 : decode b_Law_law 972 = .ok (.i2l, 1) := by decide +kernel
theorem d_Law_law_973 : decode b_Law_law 973 = .ok ((.ldc2_w 98), 3) := by decide +kernel
theorem d_Law_law_976 : decode b_Law_law 976 = .ok (.land, 1) := by decide +kernel
theorem d_Law_law_977 : decode b_Law_law 977 = .ok (.lor, 1) := by decide +kernel
theorem d_Law_law_978 : decode b_Law_law 978 = .ok ((.aload_n 0), 1) := by decide +kernel
theorem d_Law_law_979 : decode b_Law_law 979 = .ok ((.iload 4), 2) := by decide +kernel
theorem d_Law_law_981 : decode b_Law_law 981 = .ok ((.iconst 3), 1) := by decide +kernel
theorem d_Law_law_982 : decode b_Law_law 982 = .ok (.iadd, 1) := by decide +kernel
theorem d_Law_law_983 : decode b_Law_law 983 = .ok (.iaload, 1) := by decide +kernel
theorem d_Law_law_984 : decode b_Law_law 984 = .ok ((.aload_n 3), 1) := by decide +kernel
theorem d_Law_law_985 : decode b_Law_law 985 = .ok ((.invokestatic 134), 3) := by decide +kernel
theorem d_Law_law_988 : decode b_Law_law 988 = .ok ((.istore 5), 2) := by decide +kernel
theorem d_Law_law_990 : decode b_Law_law 990 = .ok ((.aload_n 2), 1) := by decide +kernel
theorem d_Law_law_991 : decode b_Law_law 991 = .ok ((.aload_n 0), 1) := by decide +kernel
theorem d_Law_law_992 : decode b_Law_law 992 = .ok ((.iload 4), 2) := by decide +kernel
theorem d_Law_law_994 : decode b_Law_law 994 = .ok ((.iconst 1), 1) := by decide +kernel
theorem d_Law_law_995 : decode b_Law_law 995 = .ok (.iadd, 1) := by decide +kernel
theorem d_Law_law_996 : decode b_Law_law 996 = .ok (.iaload, 1) := by decide +kernel
theorem d_Law_law_997 : decode b_Law_law 997 = .ok (.i2l, 1) := by decide +kernel
theorem d_Law_law_998 : decode b_Law_law 998 = .ok ((.bipush 32), 2) := by decide +kernel
theorem d_Law_law_1000 : decode b_Law_law 1000 = .ok (.lshl, 1) := by decide +kernel
theorem d_Law_law_1001 : decode b_Law_law 1001 = .ok ((.aload_n 0), 1) := by decide +kernel
theorem d_Law_law_1002 : decode b_Law_law 1002 = .ok ((.iload 4), 2) := by decide +kernel
theorem d_Law_law_1004 : decode b_Law_law 1004 = .ok ((.iconst 2), 1) := by decide +kernel
theorem d_Law_law_1005 : decode b_Law_law 1005 = .ok (.iadd, 1) := by decide +kernel
theorem d_Law_law_1006 : decode b_Law_law 1006 = .ok (.iaload, 1) := by decide +kernel
theorem d_Law_law_1007 : decode b_Law_law 1007 = .ok (.i2l, 1) := by decide +kernel
theorem d_Law_law_1008 : decode b_Law_law 1008 = .ok ((.ldc2_w 98), 3) := by decide +kernel
theorem d_Law_law_1011 : decode b_Law_law 1011 = .ok (.land, 1) := by decide +kernel
theorem d_Law_law_1012 : decode b_Law_law 1012 = .ok (.lor, 1) := by decide +kernel
theorem d_Law_law_1013 : decode b_Law_law 1013 = .ok ((.aload_n 0), 1) := by decide +kernel
theorem d_Law_law_1014 : decode b_Law_law 1014 = .ok ((.iload 4), 2) := by decide +kernel
theorem d_Law_law_1016 : decode b_Law_law 1016 = .ok ((.iconst 3), 1) := by decide +kernel
theorem d_Law_law_1017 : decode b_Law_law 1017 = .ok (.iadd, 1) := by decide +kernel
theorem d_Law_law_1018 : decode b_Law_law 1018 = .ok (.iaload, 1) := by decide +kernel
theorem d_Law_law_1019 : decode b_Law_law 1019 = .ok ((.invokevirtual 137), 3) := by decide +kernel
theorem d_Law_law_1022 : decode b_Law_law 1022 = .ok ((.istore 6), 2) := by decide +kernel
theorem d_Law_law_1024 : decode b_Law_law 1024 = .ok ((.aload_n 2), 1) := by decide +kernel
theorem d_Law_law_1025 : decode b_Law_law 1025 = .ok ((.invokevirtual 80), 3) := by decide +kernel
theorem d_Law_law_1028 : decode b_Law_law 1028 = .ok ((.iload 5), 2) := by decide +kernel
theorem d_Law_law_1030 : decode b_Law_law 1030 = .ok ((.if_icmp .eq 5), 3) := by decide +kernel
theorem d_Law_law_1033 : decode b_Law_law 1033 = .ok ((.iconst 0), 1) := by decide +kernel
theorem d_Law_law_1034 : decode b_Law_law 1034 = .ok (.ireturn, 1) := by decide +kernel
theorem d_Law_law_1035 : decode b_Law_law 1035 = .ok ((.iload 5), 2) := by decide +kernel
theorem d_Law_law_1037 : decode b_Law_law 1037 = .ok ((.ifCond .ne 22), 3) := by decide +kernel
theorem d_Law_law_1040 : decode b_Law_law 1040 = .ok ((.aload_n 3), 1) := by decide +kernel
theorem d_Law_law_1041 : decode b_Law_law 1041 = .ok ((.iconst 0), 1) := by decide +kernel
theorem d_Law_law_1042 : decode b_Law_law 1042 = .ok (.laload, 1) := by decide +kernel
theorem d_Law_law_1043 : decode b_Law_law 1043 = .ok ((.iload 6), 2) := by decide +kernel
theorem d_Law_law_1045 : decode b_Law_law 1045 = .ok ((.ifCond .eq 7), 3) := by decide +kernel
theorem d_Law_law_1048 : decode b_Law_law 1048 = .ok ((.lconst 1), 1) := by decide +kernel
theorem d_Law_law_1049 : decode b_Law_law 1049 = .ok ((.goto 4), 3) := by decide +kernel
theorem d_Law_law_1052 : decode b_Law_law 1052 = .ok ((.lconst 0), 1) := by decide +kernel
theorem d_Law_law_1053 : decode b_Law_law 1053 = .ok (.lcmp, 1) := by decide +kernel
theorem d_Law_law_1054 : decode b_Law_law 1054 = .ok ((.ifCond .eq 5), 3) := by decide +kernel
theorem d_Law_law_1057 : decode b_Law_law 1057 = .ok ((.iconst 0), 1) := by decide +kernel
theorem d_Law_law_1058 : decode b_Law_law 1058 = .ok (.ireturn, 1) := by decide +kernel
theorem d_Law_law_1059 : decode b_Law_law 1059 = .ok ((.goto 14), 3) := by decide +kernel
theorem d_Law_law_1062 : decode b_Law_law 1062 = .ok ((.aload_n 1), 1) := by decide +kernel
theorem d_Law_law_1063 : decode b_Law_law 1063 = .ok ((.invokevirtual 138), 3) := by decide +kernel
theorem d_Law_law_1066 : decode b_Law_law 1066 = .ok ((.aload_n 2), 1) := by decide +kernel
theorem d_Law_law_1067 : decode b_Law_law 1067 = .ok ((.invokevirtual 141), 3) := by decide +kernel
theorem d_Law_law_1070 : decode b_Law_law 1070 = .ok ((.goto 3), 3) := by decide +kernel
theorem d_Law_law_1073 : decode b_Law_law 1073 = .ok ((.iinc 4 4), 3) := by decide +kernel
theorem d_Law_law_1076 : decode b_Law_law 1076 = .ok ((.goto (-1033)), 3) := by decide +kernel
theorem d_Law_law_1079 : decode b_Law_law 1079 = .ok ((.iconst 1), 1) := by decide +kernel
theorem d_Law_law_1080 : decode b_Law_law 1080 = .ok (.ireturn, 1) := by decide +kernel
