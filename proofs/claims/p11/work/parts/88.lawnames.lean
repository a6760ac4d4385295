/-! ===== the law: names, instructions ===== -/
abbrev b_Law_cell : ByteArray := method_2_code
def y_Law_cell : MethodName := ⟨R_Law, "cell", "([II)I"⟩
theorem d_Law_cell_0 : decode b_Law_cell 0 = .ok ((.iload_n 1), 1) := by decide +kernel
theorem d_Law_cell_1 : decode b_Law_cell 1 = .ok ((.aload_n 0), 1) := by decide +kernel
theorem d_Law_cell_2 : decode b_Law_cell 2 = .ok (.arraylength, 1) := by decide +kernel
theorem d_Law_cell_3 : decode b_Law_cell 3 = .ok ((.if_icmp .ge 9), 3) := by decide +kernel
theorem d_Law_cell_6 : decode b_Law_cell 6 = .ok ((.aload_n 0), 1) := by decide +kernel
theorem d_Law_cell_7 : decode b_Law_cell 7 = .ok ((.iload_n 1), 1) := by decide +kernel
theorem d_Law_cell_8 : decode b_Law_cell 8 = .ok (.iaload, 1) := by decide +kernel
theorem d_Law_cell_9 : decode b_Law_cell 9 = .ok ((.goto 4), 3) := by decide +kernel
theorem d_Law_cell_12 : decode b_Law_cell 12 = .ok ((.iconst 0), 1) := by decide +kernel
theorem d_Law_cell_13 : decode b_Law_cell 13 = .ok (.ireturn, 1) := by decide +kernel
abbrev b_Law_cube : ByteArray := method_3_code
def y_Law_cube : MethodName := ⟨R_Law, "cube", "(LCoverRows;[J)I"⟩
theorem d_Law_cube_0 : decode b_Law_cube 0 = .ok ((.aload_n 1), 1) := by decide +kernel
theorem d_Law_cube_1 : decode b_Law_cube 1 = .ok ((.iconst 0), 1) := by decide +kernel
theorem d_Law_cube_2 : decode b_Law_cube 2 = .ok ((.aload_n 0), 1) := by decide +kernel
theorem d_Law_cube_3 : decode b_Law_cube 3 = .ok ((.invokevirtual 7), 3) := by decide +kernel
theorem d_Law_cube_6 : decode b_Law_cube 6 = .ok (.i2l, 1) := by decide +kernel
theorem d_Law_cube_7 : decode b_Law_cube 7 = .ok (.lastore, 1) := by decide +kernel
theorem d_Law_cube_8 : decode b_Law_cube 8 = .ok ((.goto 6), 3) := by decide +kernel
theorem d_Law_cube_11 : decode b_Law_cube 11 = .ok ((.astore_n 2), 1) := by decide +kernel
theorem d_Law_cube_12 : decode b_Law_cube 12 = .ok ((.iconst 1), 1) := by decide +kernel
theorem d_Law_cube_13 : decode b_Law_cube 13 = .ok (.ireturn, 1) := by decide +kernel
theorem d_Law_cube_14 : decode b_Law_cube 14 = .ok ((.iconst 0), 1) := by decide +kernel
theorem d_Law_cube_15 : decode b_Law_cube 15 = .ok (.ireturn, 1) := by decide +kernel
abbrev b_Law_literal : ByteArray := method_4_code
def y_Law_literal : MethodName := ⟨R_Law, "literal", "(LCoverRows;III[J)I"⟩
theorem d_Law_literal_0 : decode b_Law_literal 0 = .ok ((.aload 4), 2) := by decide +kernel
theorem d_Law_literal_2 : decode b_Law_literal 2 = .ok ((.iconst 0), 1) := by decide +kernel
theorem d_Law_literal_3 : decode b_Law_literal 3 = .ok ((.aload_n 0), 1) := by decide +kernel
theorem d_Law_literal_4 : decode b_Law_literal 4 = .ok ((.iload_n 1), 1) := by decide +kernel
theorem d_Law_literal_5 : decode b_Law_literal 5 = .ok ((.iload_n 2), 1) := by decide +kernel
theorem d_Law_literal_6 : decode b_Law_literal 6 = .ok ((.iload_n 3), 1) := by decide +kernel
theorem d_Law_literal_7 : decode b_Law_literal 7 = .ok ((.invokevirtual 15), 3) := by decide +kernel
theorem d_Law_literal_10 : decode b_Law_literal 10 = .ok ((.ifCond .eq 7), 3) := by decide +kernel
theorem d_Law_literal_13 : decode b_Law_literal 13 = .ok ((.lconst 1), 1) := by decide +kernel
theorem d_Law_literal_14 : decode b_Law_literal 14 = .ok ((.goto 4), 3) := by decide +kernel
theorem d_Law_literal_17 : decode b_Law_literal 17 = .ok ((.lconst 0), 1) := by decide +kernel
theorem d_Law_literal_18 : decode b_Law_literal 18 = .ok (.lastore, 1) := by decide +kernel
theorem d_Law_literal_19 : decode b_Law_literal 19 = .ok ((.goto 11), 3) := by decide +kernel
theorem d_Law_literal_22 : decode b_Law_literal 22 = .ok ((.astore 5), 2) := by decide +kernel
theorem d_Law_literal_24 : decode b_Law_literal 24 = .ok ((.iconst 1), 1) := by decide +kernel
theorem d_Law_literal_25 : decode b_Law_literal 25 = .ok (.ireturn, 1) := by decide +kernel
theorem d_Law_literal_26 : decode b_Law_literal 26 = .ok ((.astore 5), 2) := by decide +kernel
theorem d_Law_literal_28 : decode b_Law_literal 28 = .ok ((.iconst 2), 1) := by decide +kernel
theorem d_Law_literal_29 : decode b_Law_literal 29 = .ok (.ireturn, 1) := by decide +kernel
theorem d_Law_literal_30 : decode b_Law_literal 30 = .ok ((.iconst 0), 1) := by decide +kernel
theorem d_Law_literal_31 : decode b_Law_literal 31 = .ok (.ireturn, 1) := by decide +kernel
abbrev b_Law_to : ByteArray := method_5_code
def y_Law_to : MethodName := ⟨R_Law, "to", "(LCoverRows;III[J)I"⟩
theorem d_Law_to_0 : decode b_Law_to 0 = .ok ((.aload 4), 2) := by decide +kernel
theorem d_Law_to_2 : decode b_Law_to 2 = .ok ((.iconst 0), 1) := by decide +kernel
theorem d_Law_to_3 : decode b_Law_to 3 = .ok ((.aload_n 0), 1) := by decide +kernel
theorem d_Law_to_4 : decode b_Law_to 4 = .ok ((.iload_n 1), 1) := by decide +kernel
theorem d_Law_to_5 : decode b_Law_to 5 = .ok ((.iload_n 2), 1) := by decide +kernel
theorem d_Law_to_6 : decode b_Law_to 6 = .ok ((.iload_n 3), 1) := by decide +kernel
theorem d_Law_to_7 : decode b_Law_to 7 = .ok ((.invokevirtual 23), 3) := by decide +kernel
theorem d_Law_to_10 : decode b_Law_to 10 = .ok ((.ifCond .eq 7), 3) := by decide +kernel
theorem d_Law_to_13 : decode b_Law_to 13 = .ok ((.lconst 1), 1) := by decide +kernel
theorem d_Law_to_14 : decode b_Law_to 14 = .ok ((.goto 4), 3) := by decide +kernel
theorem d_Law_to_17 : decode b_Law_to 17 = .ok ((.lconst 0), 1) := by decide +kernel
theorem d_Law_to_18 : decode b_Law_to 18 = .ok (.lastore, 1) := by decide +kernel
theorem d_Law_to_19 : decode b_Law_to 19 = .ok ((.goto 11), 3) := by decide +kernel
theorem d_Law_to_22 : decode b_Law_to 22 = .ok ((.astore 5), 2) := by decide +kernel
theorem d_Law_to_24 : decode b_Law_to 24 = .ok ((.iconst 1), 1) := by decide +kernel
theorem d_Law_to_25 : decode b_Law_to 25 = .ok (.ireturn, 1) := by decide +kernel
theorem d_Law_to_26 : decode b_Law_to 26 = .ok ((.astore 5), 2) := by decide +kernel
theorem d_Law_to_28 : decode b_Law_to 28 = .ok ((.iconst 2), 1) := by decide +kernel
theorem d_Law_to_29 : decode b_Law_to 29 = .ok (.ireturn, 1) := by decide +kernel
theorem d_Law_to_30 : decode b_Law_to 30 = .ok ((.iconst 0), 1) := by decide +kernel
theorem d_Law_to_31 : decode b_Law_to 31 = .ok (.ireturn, 1) := by decide +kernel
abbrev b_Law_prime : ByteArray := method_6_code
def y_Law_prime : MethodName := ⟨R_Law, "prime", "(LCoverRows;II[J)I"⟩
theorem d_Law_prime_0 : decode b_Law_prime 0 = .ok ((.aload_n 3), 1) := by decide +kernel
theorem d_Law_prime_1 : decode b_Law_prime 1 = .ok ((.iconst 0), 1) := by decide +kernel
theorem d_Law_prime_2 : decode b_Law_prime 2 = .ok ((.aload_n 0), 1) := by decide +kernel
theorem d_Law_prime_3 : decode b_Law_prime 3 = .ok ((.iload_n 1), 1) := by decide +kernel
theorem d_Law_prime_4 : decode b_Law_prime 4 = .ok ((.iload_n 2), 1) := by decide +kernel
theorem d_Law_prime_5 : decode b_Law_prime 5 = .ok ((.invokevirtual 26), 3) := by decide +kernel
theorem d_Law_prime_8 : decode b_Law_prime 8 = .ok (.i2l, 1) := by decide +kernel
theorem d_Law_prime_9 : decode b_Law_prime 9 = .ok (.lastore, 1) := by decide +kernel
theorem d_Law_prime_10 : decode b_Law_prime 10 = .ok ((.goto 7), 3) := by decide +kernel
theorem d_Law_prime_13 : decode b_Law_prime 13 = .ok ((.astore 4), 2) := by decide +kernel
theorem d_Law_prime_15 : decode b_Law_prime 15 = .ok ((.iconst 1), 1) := by decide +kernel
theorem d_Law_prime_16 : decode b_Law_prime 16 = .ok (.ireturn, 1) := by decide +kernel
theorem d_Law_prime_17 : decode b_Law_prime 17 = .ok ((.iconst 0), 1) := by decide +kernel
theorem d_Law_prime_18 : decode b_Law_prime 18 = .ok (.ireturn, 1) := by decide +kernel
abbrev b_Law_run : ByteArray := method_7_code
def y_Law_run : MethodName := ⟨R_Law, "run", "(LCoverRows;ZJ[J)I"⟩
theorem d_Law_run_0 : decode b_Law_run 0 = .ok ((.aload 4), 2) := by decide +kernel
theorem d_Law_run_2 : decode b_Law_run 2 = .ok ((.iconst 0), 1) := by decide +kernel
theorem d_Law_run_3 : decode b_Law_run 3 = .ok ((.aload_n 0), 1) := by decide +kernel
theorem d_Law_run_4 : decode b_Law_run 4 = .ok ((.iload_n 1), 1) := by decide +kernel
theorem d_Law_run_5 : decode b_Law_run 5 = .ok ((.lload_n 2), 1) := by decide +kernel
theorem d_Law_run_6 : decode b_Law_run 6 = .ok ((.invokevirtual 30), 3) := by decide +kernel
theorem d_Law_run_9 : decode b_Law_run 9 = .ok (.i2l, 1) := by decide +kernel
theorem d_Law_run_10 : decode b_Law_run 10 = .ok (.lastore, 1) := by decide +kernel
theorem d_Law_run_11 : decode b_Law_run 11 = .ok ((.goto 7), 3) := by decide +kernel
theorem d_Law_run_14 : decode b_Law_run 14 = .ok ((.astore 5), 2) := by decide +kernel
theorem d_Law_run_16 : decode b_Law_run 16 = .ok ((.iconst 1), 1) := by decide +kernel
theorem d_Law_run_17 : decode b_Law_run 17 = .ok (.ireturn, 1) := by decide +kernel
theorem d_Law_run_18 : decode b_Law_run 18 = .ok ((.iconst 0), 1) := by decide +kernel
theorem d_Law_run_19 : decode b_Law_run 19 = .ok (.ireturn, 1) := by decide +kernel
abbrev b_Law_at : ByteArray := method_8_code
def y_Law_at : MethodName := ⟨R_Law, "at", "(LCoverRows;II[J)I"⟩
theorem d_Law_at_0 : decode b_Law_at 0 = .ok ((.aload_n 3), 1) := by decide +kernel
theorem d_Law_at_1 : decode b_Law_at 1 = .ok ((.iconst 0), 1) := by decide +kernel
theorem d_Law_at_2 : decode b_Law_at 2 = .ok ((.aload_n 0), 1) := by decide +kernel
theorem d_Law_at_3 : decode b_Law_at 3 = .ok ((.iload_n 1), 1) := by decide +kernel
theorem d_Law_at_4 : decode b_Law_at 4 = .ok ((.iload_n 2), 1) := by decide +kernel
theorem d_Law_at_5 : decode b_Law_at 5 = .ok ((.invokevirtual 34), 3) := by decide +kernel
theorem d_Law_at_8 : decode b_Law_at 8 = .ok (.i2l, 1) := by decide +kernel
theorem d_Law_at_9 : decode b_Law_at 9 = .ok (.lastore, 1) := by decide +kernel
theorem d_Law_at_10 : decode b_Law_at 10 = .ok ((.goto 11), 3) := by decide +kernel
theorem d_Law_at_13 : decode b_Law_at 13 = .ok ((.astore 4), 2) := by decide +kernel
theorem d_Law_at_15 : decode b_Law_at 15 = .ok ((.iconst 1), 1) := by decide +kernel
theorem d_Law_at_16 : decode b_Law_at 16 = .ok (.ireturn, 1) := by decide +kernel
theorem d_Law_at_17 : decode b_Law_at 17 = .ok ((.astore 4), 2) := by decide +kernel
theorem d_Law_at_19 : decode b_Law_at 19 = .ok ((.iconst 2), 1) := by decide +kernel
theorem d_Law_at_20 : decode b_Law_at 20 = .ok (.ireturn, 1) := by decide +kernel
theorem d_Law_at_21 : decode b_Law_at 21 = .ok ((.iconst 0), 1) := by decide +kernel
theorem d_Law_at_22 : decode b_Law_at 22 = .ok (.ireturn, 1) := by decide +kernel
abbrev b_Law_cost : ByteArray := method_9_code
def y_Law_cost : MethodName := ⟨R_Law, "cost", "(LCoverRows;[J)I"⟩
theorem d_Law_cost_0 : decode b_Law_cost 0 = .ok ((.aload_n 1), 1) := by decide +kernel
theorem d_Law_cost_1 : decode b_Law_cost 1 = .ok ((.iconst 0), 1) := by decide +kernel
theorem d_Law_cost_2 : decode b_Law_cost 2 = .ok ((.aload_n 0), 1) := by decide +kernel
theorem d_Law_cost_3 : decode b_Law_cost 3 = .ok ((.invokevirtual 39), 3) := by decide +kernel
theorem d_Law_cost_6 : decode b_Law_cost 6 = .ok (.lastore, 1) := by decide +kernel
theorem d_Law_cost_7 : decode b_Law_cost 7 = .ok ((.goto 6), 3) := by decide +kernel
theorem d_Law_cost_10 : decode b_Law_cost 10 = .ok ((.astore_n 2), 1) := by decide +kernel
theorem d_Law_cost_11 : decode b_Law_cost 11 = .ok ((.iconst 1), 1) := by decide +kernel
theorem d_Law_cost_12 : decode b_Law_cost 12 = .ok (.ireturn, 1) := by decide +kernel
theorem d_Law_cost_13 : decode b_Law_cost 13 = .ok ((.iconst 0), 1) := by decide +kernel
theorem d_Law_cost_14 : decode b_Law_cost 14 = .ok (.ireturn, 1) := by decide +kernel
abbrev b_Law_kernels : ByteArray := method_10_code
def y_Law_kernels : MethodName := ⟨R_Law, "kernels", "(LCoverRows;[J)I"⟩
theorem d_Law_kernels_0 : decode b_Law_kernels 0 = .ok ((.aload_n 1), 1) := by decide +kernel
theorem d_Law_kernels_1 : decode b_Law_kernels 1 = .ok ((.iconst 0), 1) := by decide +kernel
theorem d_Law_kernels_2 : decode b_Law_kernels 2 = .ok ((.aload_n 0), 1) := by decide +kernel
theorem d_Law_kernels_3 : decode b_Law_kernels 3 = .ok ((.invokevirtual 43), 3) := by decide +kernel
theorem d_Law_kernels_6 : decode b_Law_kernels 6 = .ok (.i2l, 1) := by decide +kernel
theorem d_Law_kernels_7 : decode b_Law_kernels 7 = .ok (.lastore, 1) := by decide +kernel
theorem d_Law_kernels_8 : decode b_Law_kernels 8 = .ok ((.goto 6), 3) := by decide +kernel
theorem d_Law_kernels_11 : decode b_Law_kernels 11 = .ok ((.astore_n 2), 1) := by decide +kernel
theorem d_Law_kernels_12 : decode b_Law_kernels 12 = .ok ((.iconst 1), 1) := by decide +kernel
theorem d_Law_kernels_13 : decode b_Law_kernels 13 = .ok (.ireturn, 1) := by decide +kernel
theorem d_Law_kernels_14 : decode b_Law_kernels 14 = .ok ((.iconst 0), 1) := by decide +kernel
theorem d_Law_kernels_15 : decode b_Law_kernels 15 = .ok (.ireturn, 1) := by decide +kernel
abbrev b_Law_divide : ByteArray := method_11_code
def y_Law_divide : MethodName := ⟨R_Law, "divide", "(LCoverRows;I[J)I"⟩
theorem d_Law_divide_0 : decode b_Law_divide 0 = .ok ((.aload_n 2), 1) := by decide +kernel
theorem d_Law_divide_1 : decode b_Law_divide 1 = .ok ((.iconst 0), 1) := by decide +kernel
theorem d_Law_divide_2 : decode b_Law_divide 2 = .ok ((.aload_n 0), 1) := by decide +kernel
theorem d_Law_divide_3 : decode b_Law_divide 3 = .ok ((.iload_n 1), 1) := by decide +kernel
theorem d_Law_divide_4 : decode b_Law_divide 4 = .ok ((.invokevirtual 46), 3) := by decide +kernel
theorem d_Law_divide_7 : decode b_Law_divide 7 = .ok (.i2l, 1) := by decide +kernel
theorem d_Law_divide_8 : decode b_Law_divide 8 = .ok (.lastore, 1) := by decide +kernel
theorem d_Law_divide_9 : decode b_Law_divide 9 = .ok ((.goto 9), 3) := by decide +kernel
theorem d_Law_divide_12 : decode b_Law_divide 12 = .ok ((.astore_n 3), 1) := by decide +kernel
theorem d_Law_divide_13 : decode b_Law_divide 13 = .ok ((.iconst 1), 1) := by decide +kernel
theorem d_Law_divide_14 : decode b_Law_divide 14 = .ok (.ireturn, 1) := by decide +kernel
theorem d_Law_divide_15 : decode b_Law_divide 15 = .ok ((.astore_n 3), 1) := by decide +kernel
theorem d_Law_divide_16 : decode b_Law_divide 16 = .ok ((.iconst 2), 1) := by decide +kernel
theorem d_Law_divide_17 : decode b_Law_divide 17 = .ok (.ireturn, 1) := by decide +kernel
theorem d_Law_divide_18 : decode b_Law_divide 18 = .ok ((.iconst 0), 1) := by decide +kernel
theorem d_Law_divide_19 : decode b_Law_divide 19 = .ok (.ireturn, 1) := by decide +kernel
abbrev b_Law_quotient : ByteArray := method_12_code
def y_Law_quotient : MethodName := ⟨R_Law, "quotient", "(LCoverRows;I[J)I"⟩
theorem d_Law_quotient_0 : decode b_Law_quotient 0 = .ok ((.aload_n 2), 1) := by decide +kernel
theorem d_Law_quotient_1 : decode b_Law_quotient 1 = .ok ((.iconst 0), 1) := by decide +kernel
theorem d_Law_quotient_2 : decode b_Law_quotient 2 = .ok ((.aload_n 0), 1) := by decide +kernel
theorem d_Law_quotient_3 : decode b_Law_quotient 3 = .ok ((.iload_n 1), 1) := by decide +kernel
theorem d_Law_quotient_4 : decode b_Law_quotient 4 = .ok ((.invokevirtual 50), 3) := by decide +kernel
theorem d_Law_quotient_7 : decode b_Law_quotient 7 = .ok (.i2l, 1) := by decide +kernel
theorem d_Law_quotient_8 : decode b_Law_quotient 8 = .ok (.lastore, 1) := by decide +kernel
theorem d_Law_quotient_9 : decode b_Law_quotient 9 = .ok ((.goto 6), 3) := by decide +kernel
theorem d_Law_quotient_12 : decode b_Law_quotient 12 = .ok ((.astore_n 3), 1) := by decide +kernel
theorem d_Law_quotient_13 : decode b_Law_quotient 13 = .ok ((.iconst 1), 1) := by decide +kernel
theorem d_Law_quotient_14 : decode b_Law_quotient 14 = .ok (.ireturn, 1) := by decide +kernel
theorem d_Law_quotient_15 : decode b_Law_quotient 15 = .ok ((.iconst 0), 1) := by decide +kernel
theorem d_Law_quotient_16 : decode b_Law_quotient 16 = .ok (.ireturn, 1) := by decide +kernel
abbrev b_Law_diagram : ByteArray := method_13_code
def y_Law_diagram : MethodName := ⟨R_Law, "diagram", "(LCoverRows;I[J)I"⟩
theorem d_Law_diagram_0 : decode b_Law_diagram 0 = .ok ((.aload_n 2), 1) := by decide +kernel
theorem d_Law_diagram_1 : decode b_Law_diagram 1 = .ok ((.iconst 0), 1) := by decide +kernel
theorem d_Law_diagram_2 : decode b_Law_diagram 2 = .ok ((.aload_n 0), 1) := by decide +kernel
theorem d_Law_diagram_3 : decode b_Law_diagram 3 = .ok ((.iload_n 1), 1) := by decide +kernel
theorem d_Law_diagram_4 : decode b_Law_diagram 4 = .ok ((.invokevirtual 53), 3) := by decide +kernel
theorem d_Law_diagram_7 : decode b_Law_diagram 7 = .ok (.i2l, 1) := by decide +kernel
theorem d_Law_diagram_8 : decode b_Law_diagram 8 = .ok (.lastore, 1) := by decide +kernel
theorem d_Law_diagram_9 : decode b_Law_diagram 9 = .ok ((.goto 6), 3) := by decide +kernel
theorem d_Law_diagram_12 : decode b_Law_diagram 12 = .ok ((.astore_n 3), 1) := by decide +kernel
theorem d_Law_diagram_13 : decode b_Law_diagram 13 = .ok ((.iconst 1), 1) := by decide +kernel
theorem d_Law_diagram_14 : decode b_Law_diagram 14 = .ok (.ireturn, 1) := by decide +kernel
theorem d_Law_diagram_15 : decode b_Law_diagram 15 = .ok ((.iconst 0), 1) := by decide +kernel
theorem d_Law_diagram_16 : decode b_Law_diagram 16 = .ok (.ireturn, 1) := by decide +kernel
abbrev b_Law_equal : ByteArray := method_14_code
def y_Law_equal : MethodName := ⟨R_Law, "equal", "(LCoverRows;[J)I"⟩
theorem d_Law_equal_0 : decode b_Law_equal 0 = .ok ((.aload_n 1), 1) := by decide +kernel
theorem d_Law_equal_1 : decode b_Law_equal 1 = .ok ((.iconst 0), 1) := by decide +kernel
theorem d_Law_equal_2 : decode b_Law_equal 2 = .ok ((.aload_n 0), 1) := by decide +kernel
theorem d_Law_equal_3 : decode b_Law_equal 3 = .ok ((.invokevirtual 56), 3) := by decide +kernel
theorem d_Law_equal_6 : decode b_Law_equal 6 = .ok ((.ifCond .eq 7), 3) := by decide +kernel
theorem d_Law_equal_9 : decode b_Law_equal 9 = .ok ((.lconst 1), 1) := by decide +kernel
theorem d_Law_equal_10 : decode b_Law_equal 10 = .ok ((.goto 4), 3) := by decide +kernel
theorem d_Law_equal_13 : decode b_Law_equal 13 = .ok ((.lconst 0), 1) := by decide +kernel
theorem d_Law_equal_14 : decode b_Law_equal 14 = .ok (.lastore, 1) := by decide +kernel
theorem d_Law_equal_15 : decode b_Law_equal 15 = .ok ((.goto 6), 3) := by decide +kernel
theorem d_Law_equal_18 : decode b_Law_equal 18 = .ok ((.astore_n 2), 1) := by decide +kernel
theorem d_Law_equal_19 : decode b_Law_equal 19 = .ok ((.iconst 1), 1) := by decide +kernel
theorem d_Law_equal_20 : decode b_Law_equal 20 = .ok (.ireturn, 1) := by decide +kernel
theorem d_Law_equal_21 : decode b_Law_equal 21 = .ok ((.iconst 0), 1) := by decide +kernel
theorem d_Law_equal_22 : decode b_Law_equal 22 = .ok (.ireturn, 1) := by decide +kernel
abbrev b_Law_value : ByteArray := method_15_code
def y_Law_value : MethodName := ⟨R_Law, "value", "(LCoverRows;JI[J)I"⟩
theorem d_Law_value_0 : decode b_Law_value 0 = .ok ((.aload 4), 2) := by decide +kernel
theorem d_Law_value_2 : decode b_Law_value 2 = .ok ((.iconst 0), 1) := by decide +kernel
theorem d_Law_value_3 : decode b_Law_value 3 = .ok ((.aload_n 0), 1) := by decide +kernel
theorem d_Law_value_4 : decode b_Law_value 4 = .ok ((.lload_n 1), 1) := by decide +kernel
theorem d_Law_value_5 : decode b_Law_value 5 = .ok ((.iload_n 3), 1) := by decide +kernel
theorem d_Law_value_6 : decode b_Law_value 6 = .ok ((.invokevirtual 60), 3) := by decide +kernel
theorem d_Law_value_9 : decode b_Law_value 9 = .ok ((.ifCond .eq 7), 3) := by decide +kernel
theorem d_Law_value_12 : decode b_Law_value 12 = .ok ((.lconst 1), 1) := by decide +kernel
theorem d_Law_value_13 : decode b_Law_value 13 = .ok ((.goto 4), 3) := by decide +kernel
theorem d_Law_value_16 : decode b_Law_value 16 = .ok ((.lconst 0), 1) := by decide +kernel
theorem d_Law_value_17 : decode b_Law_value 17 = .ok (.lastore, 1) := by decide +kernel
theorem d_Law_value_18 : decode b_Law_value 18 = .ok ((.goto 15), 3) := by decide +kernel
theorem d_Law_value_21 : decode b_Law_value 21 = .ok ((.astore 5), 2) := by decide +kernel
theorem d_Law_value_23 : decode b_Law_value 23 = .ok ((.iconst 1), 1) := by decide +kernel
theorem d_Law_value_24 : decode b_Law_value 24 = .ok (.ireturn, 1) := by decide +kernel
theorem d_Law_value_25 : decode b_Law_value 25 = .ok ((.astore 5), 2) := by decide +kernel
theorem d_Law_value_27 : decode b_Law_value 27 = .ok ((.iconst 2), 1) := by decide +kernel
theorem d_Law_value_28 : decode b_Law_value 28 = .ok (.ireturn, 1) := by decide +kernel
theorem d_Law_value_29 : decode b_Law_value 29 = .ok ((.astore 5), 2) := by decide +kernel
theorem d_Law_value_31 : decode b_Law_value 31 = .ok ((.iconst 3), 1) := by decide +kernel
theorem d_Law_value_32 : decode b_Law_value 32 = .ok (.ireturn, 1) := by decide +kernel
theorem d_Law_value_33 : decode b_Law_value 33 = .ok ((.iconst 0), 1) := by decide +kernel
theorem d_Law_value_34 : decode b_Law_value 34 = .ok (.ireturn, 1) := by decide +kernel
abbrev b_Law_law : ByteArray := code
def y_Law_law : MethodName := ⟨R_Law, "law", "([I)Z"⟩
theorem d_Law_law_0 : decode b_Law_law 0 = .ok ((.new 8), 3) := by decide +kernel
theorem d_Law_law_3 : decode b_Law_law 3 = .ok (.dup, 1) := by decide +kernel
theorem d_Law_law_4 : decode b_Law_law 4 = .ok ((.aload_n 0), 1) := by decide +kernel
theorem d_Law_law_5 : decode b_Law_law 5 = .ok ((.iconst 0), 1) := by decide +kernel
theorem d_Law_law_6 : decode b_Law_law 6 = .ok ((.invokestatic 64), 3) := by decide +kernel
theorem d_Law_law_9 : decode b_Law_law 9 = .ok ((.aload_n 0), 1) := by decide +kernel
theorem d_Law_law_10 : decode b_Law_law 10 = .ok ((.iconst 1), 1) := by decide +kernel
theorem d_Law_law_11 : decode b_Law_law 11 = .ok ((.invokestatic 64), 3) := by decide +kernel
theorem d_Law_law_14 : decode b_Law_law 14 = .ok ((.invokespecial 70), 3) := by decide +kernel
theorem d_Law_law_17 : decode b_Law_law 17 = .ok ((.astore_n 1), 1) := by decide +kernel
theorem d_Law_law_18 : decode b_Law_law 18 = .ok ((.new 73), 3) := by decide +kernel
theorem d_Law_law_21 : decode b_Law_law 21 = .ok (.dup, 1) := by decide +kernel
theorem d_Law_law_22 : decode b_Law_law 22 = .ok ((.aload_n 0), 1) := by decide +kernel
theorem d_Law_law_23 : decode b_Law_law 23 = .ok ((.iconst 0), 1) := by decide +kernel
theorem d_Law_law_24 : decode b_Law_law 24 = .ok ((.invokestatic 64), 3) := by decide +kernel
theorem d_Law_law_27 : decode b_Law_law 27 = .ok ((.aload_n 0), 1) := by decide +kernel
theorem d_Law_law_28 : decode b_Law_law 28 = .ok ((.iconst 1), 1) := by decide +kernel
theorem d_Law_law_29 : decode b_Law_law 29 = .ok ((.invokestatic 64), 3) := by decide +kernel
theorem d_Law_law_32 : decode b_Law_law 32 = .ok ((.invokespecial 75), 3) := by decide +kernel
theorem d_Law_law_35 : decode b_Law_law 35 = .ok ((.astore_n 2), 1) := by decide +kernel
theorem d_Law_law_36 : decode b_Law_law 36 = .ok ((.iconst 1), 1) := by decide +kernel
theorem d_Law_law_37 : decode b_Law_law 37 = .ok ((.newarray .long), 2) := by decide +kernel
theorem d_Law_law_39 : decode b_Law_law 39 = .ok ((.astore_n 3), 1) := by decide +kernel
theorem d_Law_law_40 : decode b_Law_law 40 = .ok ((.iconst 2), 1) := by decide +kernel
theorem d_Law_law_41 : decode b_Law_law 41 = .ok ((.istore 4), 2) := by decide +kernel
theorem d_Law_law_43 : decode b_Law_law 43 = .ok ((.iload 4), 2) := by decide +kernel
theorem d_Law_law_45 : decode b_Law_law 45 = .ok ((.aload_n 0), 1) := by decide +kernel
theorem d_Law_law_46 : decode b_Law_law 46 = .ok (.arraylength, 1) := by decide +kernel
theorem d_Law_law_47 : decode b_Law_law 47 = .ok ((.iconst 4), 1) := by decide +kernel
theorem d_Law_law_48 : decode b_Law_law 48 = .ok (.isub, 1) := by decide +kernel
theorem d_Law_law_49 : decode b_Law_law 49 = .ok ((.if_icmp .gt 667), 3) := by decide +kernel
theorem d_Law_law_52 : decode b_Law_law 52 = .ok ((.aload_n 0), 1) := by decide +kernel
theorem d_Law_law_53 : decode b_Law_law 53 = .ok ((.iload 4), 2) := by decide +kernel
theorem d_Law_law_55 : decode b_Law_law 55 = .ok (.iaload, 1) := by decide +kernel
theorem d_Law_law_56 : decode b_Law_law 56 = .ok ((.bipush 31), 2) := by decide +kernel
theorem d_Law_law_58 : decode b_Law_law 58 = .ok (.iand, 1) := by decide +kernel
theorem d_Law_law_59 : decode b_Law_law 59 = .ok ((.tableswitch 651 0 16 #[81, 97, 149, 201, 214, 254, 342, 382, 395, 411, 455, 483, 511, 539, 552, 568, 640]), 81) := by decide +kernel
theorem d_Law_law_140 : decode b_Law_law 140 = .ok ((.aload_n 1), 1) := by decide +kernel
theorem d_Law_law_141 : decode b_Law_law 141 = .ok ((.aload_n 3), 1) := by decide +kernel
theorem d_Law_law_142 : decode b_Law_law 142 = .ok ((.invokestatic 76), 3) := by decide +kernel
theorem d_Law_law_145 : decode b_Law_law 145 = .ok ((.istore 5), 2) := by decide +kernel
theorem d_Law_law_147 : decode b_Law_law 147 = .ok ((.aload_n 2), 1) := by decide +kernel
theorem d_Law_law_148 : decode b_Law_law 148 = .ok ((.invokevirtual 79), 3) := by decide +kernel
theorem d_Law_law_151 : decode b_Law_law 151 = .ok ((.istore 6), 2) := by decide +kernel
theorem d_Law_law_153 : decode b_Law_law 153 = .ok ((.goto 557), 3) := by decide +kernel
theorem d_Law_law_156 : decode b_Law_law 156 = .ok ((.aload_n 1), 1) := by decide +kernel
theorem d_Law_law_157 : decode b_Law_law 157 = .ok ((.aload_n 0), 1) := by decide +kernel
theorem d_Law_law_158 : decode b_Law_law 158 = .ok ((.iload 4), 2) := by decide +kernel
theorem d_Law_law_160 : decode b_Law_law 160 = .ok ((.iconst 1), 1) := by decide +kernel
theorem d_Law_law_161 : decode b_Law_law 161 = .ok (.iadd, 1) := by decide +kernel
theorem d_Law_law_162 : decode b_Law_law 162 = .ok (.iaload, 1) := by decide +kernel
theorem d_Law_law_163 : decode b_Law_law 163 = .ok ((.aload_n 0), 1) := by decide +kernel
theorem d_Law_law_164 : decode b_Law_law 164 = .ok ((.iload 4), 2) := by decide +kernel
theorem d_Law_law_166 : decode b_Law_law 166 = .ok ((.iconst 2), 1) := by decide +kernel
theorem d_Law_law_167 : decode b_Law_law 167 = .ok (.iadd, 1) := by decide +kernel
theorem d_Law_law_168 : decode b_Law_law 168 = .ok (.iaload, 1) := by decide +kernel
theorem d_Law_law_169 : decode b_Law_law 169 = .ok ((.aload_n 0), 1) := by decide +kernel
theorem d_Law_law_170 : decode b_Law_law 170 = .ok ((.iload 4), 2) := by decide +kernel
theorem d_Law_law_172 : decode b_Law_law 172 = .ok ((.iconst 3), 1) := by decide +kernel
theorem d_Law_law_173 : decode b_Law_law 173 = .ok (.iadd, 1) := by decide +kernel
theorem d_Law_law_174 : decode b_Law_law 174 = .ok (.iaload, 1) := by decide +kernel
theorem d_Law_law_175 : decode b_Law_law 175 = .ok ((.aload_n 3), 1) := by decide +kernel
theorem d_Law_law_176 : decode b_Law_law 176 = .ok ((.invokestatic 80), 3) := by decide +kernel
theorem d_Law_law_179 : decode b_Law_law 179 = .ok ((.istore 5), 2) := by decide +kernel
theorem d_Law_law_181 : decode b_Law_law 181 = .ok ((.aload_n 2), 1) := by decide +kernel
theorem d_Law_law_182 : decode b_Law_law 182 = .ok ((.aload_n 0), 1) := by decide +kernel
theorem d_Law_law_183 : decode b_Law_law 183 = .ok ((.iload 4), 2) := by decide +kernel
theorem d_Law_law_185 : decode b_Law_law 185 = .ok ((.iconst 1), 1) := by decide +kernel
theorem d_Law_law_186 : decode b_Law_law 186 = .ok (.iadd, 1) := by decide +kernel
theorem d_Law_law_187 : decode b_Law_law 187 = .ok (.iaload, 1) := by decide +kernel
theorem d_Law_law_188 : decode b_Law_law 188 = .ok ((.aload_n 0), 1) := by decide +kernel
theorem d_Law_law_189 : decode b_Law_law 189 = .ok ((.iload 4), 2) := by decide +kernel
theorem d_Law_law_191 : decode b_Law_law 191 = .ok ((.iconst 2), 1) := by decide +kernel
theorem d_Law_law_192 : decode b_Law_law 192 = .ok (.iadd, 1) := by decide +kernel
theorem d_Law_law_193 : decode b_Law_law 193 = .ok (.iaload, 1) := by decide +kernel
theorem d_Law_law_194 : decode b_Law_law 194 = .ok ((.aload_n 0), 1) := by decide +kernel
theorem d_Law_law_195 : decode b_Law_law 195 = .ok ((.iload 4), 2) := by decide +kernel
theorem d_Law_law_197 : decode b_Law_law 197 = .ok ((.iconst 3), 1) := by decide +kernel
theorem d_Law_law_198 : decode b_Law_law 198 = .ok (.iadd, 1) := by decide +kernel
theorem d_Law_law_199 : decode b_Law_law 199 = .ok (.iaload, 1) := by decide +kernel
theorem d_Law_law_200 : decode b_Law_law 200 = .ok ((.invokevirtual 83), 3) := by decide +kernel
theorem d_Law_law_203 : decode b_Law_law 203 = .ok ((.istore 6), 2) := by decide +kernel
theorem d_Law_law_205 : decode b_Law_law 205 = .ok ((.goto 505), 3) := by decide +kernel
theorem d_Law_law_208 : decode b_Law_law 208 = .ok ((.aload_n 1), 1) := by decide +kernel
theorem d_Law_law_209 : decode b_Law_law 209 = .ok ((.aload_n 0), 1) := by decide +kernel
theorem d_Law_law_210 : decode b_Law_law 210 = .ok ((.iload 4), 2) := by decide +kernel
theorem d_Law_law_212 : decode b_Law_law 212 = .ok ((.iconst 1), 1) := by decide +kernel
theorem d_Law_law_213 : decode b_Law_law 213 = .ok (.iadd, 1) := by decide +kernel
theorem d_Law_law_214 : decode b_Law_law 214 = .ok (.iaload, 1) := by decide +kernel
theorem d_Law_law_215 : decode b_Law_law 215 = .ok ((.aload_n 0), 1) := by decide +kernel
theorem d_Law_law_216 : decode b_Law_law 216 = .ok ((.iload 4), 2) := by decide +kernel
theorem d_Law_law_218 : decode b_Law_law 218 = .ok ((.iconst 2), 1) := by decide +kernel
theorem d_Law_law_219 : decode b_Law_law 219 = .ok (.iadd, 1) := by decide +kernel
theorem d_Law_law_220 : decode b_Law_law 220 = .ok (.iaload, 1) := by decide +kernel
theorem d_Law_law_221 : decode b_Law_law 221 = .ok ((.aload_n 0), 1) := by decide +kernel
theorem d_Law_law_222 : decode b_Law_law 222 = .ok ((.iload 4), 2) := by decide +kernel
theorem d_Law_law_224 : decode b_Law_law 224 = .ok ((.iconst 3), 1) := by decide +kernel
theorem d_Law_law_225 : decode b_Law_law 225 = .ok (.iadd, 1) := by decide +kernel
theorem d_Law_law_226 : decode b_Law_law 226 = .ok (.iaload, 1) := by decide +kernel
theorem d_Law_law_227 : decode b_Law_law 227 = .ok ((.aload_n 3), 1) := by decide +kernel
theorem d_Law_law_228 : decode b_Law_law 228 = .ok ((.invokestatic 84), 3) := by decide +kernel
theorem d_Law_law_231 : decode b_Law_law 231 = .ok ((.istore 5), 2) := by decide +kernel
theorem d_Law_law_233 : decode b_Law_law 233 = .ok ((.aload_n 2), 1) := by decide +kernel
theorem d_Law_law_234 : decode b_Law_law 234 = .ok ((.aload_n 0), 1) := by decide +kernel
theorem d_Law_law_235 : decode b_Law_law 235 = .ok ((.iload 4), 2) := by decide +kernel
theorem d_Law_law_237 : decode b_Law_law 237 = .ok ((.iconst 1), 1) := by decide +kernel
theorem d_Law_law_238 : decode b_Law_law 238 = .ok (.iadd, 1) := by decide +kernel
theorem d_Law_law_239 : decode b_Law_law 239 = .ok (.iaload, 1) := by decide +kernel
theorem d_Law_law_240 : decode b_Law_law 240 = .ok ((.aload_n 0), 1) := by decide +kernel
theorem d_Law_law_241 : decode b_Law_law 241 = .ok ((.iload 4), 2) := by decide +kernel
theorem d_Law_law_243 : decode b_Law_law 243 = .ok ((.iconst 2), 1) := by decide +kernel
theorem d_Law_law_244 : decode b_Law_law 244 = .ok (.iadd, 1) := by decide +kernel
theorem d_Law_law_245 : decode b_Law_law 245 = .ok (.iaload, 1) := by decide +kernel
theorem d_Law_law_246 : decode b_Law_law 246 = .ok ((.aload_n 0), 1) := by decide +kernel
theorem d_Law_law_247 : decode b_Law_law 247 = .ok ((.iload 4), 2) := by decide +kernel
theorem d_Law_law_249 : decode b_Law_law 249 = .ok ((.iconst 3), 1) := by decide +kernel
theorem d_Law_law_250 : decode b_Law_law 250 = .ok (.iadd, 1) := by decide +kernel
theorem d_Law_law_251 : decode b_Law_law 251 = .ok (.iaload, 1) := by decide +kernel
theorem d_Law_law_252 : decode b_Law_law 252 = .ok ((.invokevirtual 86), 3) := by decide +kernel
theorem d_Law_law_255 : decode b_Law_law 255 = .ok ((.istore 6), 2) := by decide +kernel
theorem d_Law_law_257 : decode b_Law_law 257 = .ok ((.goto 453), 3) := by decide +kernel
theorem d_Law_law_260 : decode b_Law_law 260 = .ok ((.aload_n 1), 1) := by decide +kernel
theorem d_Law_law_261 : decode b_Law_law 261 = .ok ((.invokevirtual 87), 3) := by decide +kernel
theorem d_Law_law_264 : decode b_Law_law 264 = .ok (.pop, 1) := by decide +kernel
theorem d_Law_law_265 : decode b_Law_law 265 = .ok ((.aload_n 2), 1) := by decide +kernel
theorem d_Law_law_266 : decode b_Law_law 266 = .ok ((.invokevirtual 90), 3) := by decide +kernel
theorem d_Law_law_269 : decode b_Law_law 269 = .ok (.pop, 1) := by decide +kernel
theorem d_Law_law_270 : decode b_Law_law 270 = .ok ((.goto 440), 3) := by decide +kernel
theorem d_Law_law_273 : decode b_Law_law 273 = .ok ((.aload_n 1), 1) := by decide +kernel
theorem d_Law_law_274 : decode b_Law_law 274 = .ok ((.aload_n 0), 1) := by decide +kernel
theorem d_Law_law_275 : decode b_Law_law 275 = .ok ((.iload 4), 2) := by decide +kernel
theorem d_Law_law_277 : decode b_Law_law 277 = .ok ((.iconst 1), 1) := by decide +kernel
theorem d_Law_law_278 : decode b_Law_law 278 = .ok (.iadd, 1) := by decide +kernel
theorem d_Law_law_279 : decode b_Law_law 279 = .ok (.iaload, 1) := by decide +kernel
theorem d_Law_law_280 : decode b_Law_law 280 = .ok ((.aload_n 0), 1) := by decide +kernel
theorem d_Law_law_281 : decode b_Law_law 281 = .ok ((.iload 4), 2) := by decide +kernel
theorem d_Law_law_283 : decode b_Law_law 283 = .ok ((.iconst 2), 1) := by decide +kernel
theorem d_Law_law_284 : decode b_Law_law 284 = .ok (.iadd, 1) := by decide +kernel
theorem d_Law_law_285 : decode b_Law_law 285 = .ok (.iaload, 1) := by decide +kernel
theorem d_Law_law_286 : decode b_Law_law 286 = .ok ((.aload_n 3), 1) := by decide +kernel
theorem d_Law_law_287 : decode b_Law_law 287 = .ok ((.invokestatic 91), 3) := by decide +kernel
theorem d_Law_law_290 : decode b_Law_law 290 = .ok ((.istore 5), 2) := by decide +kernel
theorem d_Law_law_292 : decode b_Law_law 292 = .ok ((.aload_n 2), 1) := by decide +kernel
theorem d_Law_law_293 : decode b_Law_law 293 = .ok ((.aload_n 0), 1) := by decide +kernel
theorem d_Law_law_294 : decode b_Law_law 294 = .ok ((.iload 4), 2) := by decide +kernel
theorem d_Law_law_296 : decode b_Law_law 296 = .ok ((.iconst 1), 1) := by decide +kernel
theorem d_Law_law_297 : decode b_Law_law 297 = .ok (.iadd, 1) := by decide +kernel
theorem d_Law_law_298 : decode b_Law_law 298 = .ok (.iaload, 1) := by decide +kernel
theorem d_Law_law_299 : decode b_Law_law 299 = .ok ((.aload_n 0), 1) := by decide +kernel
theorem d_Law_law_300 : decode b_Law_law 300 = .ok ((.iload 4), 2) := by decide +kernel
theorem d_Law_law_302 : decode b_Law_law 302 = .ok ((.iconst 2), 1) := by decide +kernel
theorem d_Law_law_303 : decode b_Law_law 303 = .ok (.iadd, 1) := by decide +kernel
theorem d_Law_law_304 : decode b_Law_law 304 = .ok (.iaload, 1) := by decide +kernel
theorem d_Law_law_305 : decode b_Law_law 305 = .ok ((.invokevirtual 94), 3) := by decide +kernel
theorem d_Law_law_308 : decode b_Law_law 308 = .ok ((.istore 6), 2) := by decide +kernel
theorem d_Law_law_310 : decode b_Law_law 310 = .ok ((.goto 400), 3) := by decide +kernel
theorem d_Law_law_313 : decode b_Law_law 313 = .ok ((.aload_n 1), 1) := by decide +kernel
theorem d_Law_law_314 : decode b_Law_law 314 = .ok ((.aload_n 0), 1) := by decide +kernel
theorem d_Law_law_315 : decode b_Law_law 315 = .ok ((.iload 4), 2) := by decide +kernel
theorem d_Law_law_317 : decode b_Law_law 317 = .ok ((.iconst 1), 1) := by decide +kernel
theorem d_Law_law_318 : decode b_Law_law 318 = .ok (.iadd, 1) := by decide +kernel
theorem d_Law_law_319 : decode b_Law_law 319 = .ok (.iaload, 1) := by decide +kernel
theorem d_Law_law_320 : decode b_Law_law 320 = .ok ((.ifCond .eq 7), 3) := by decide +kernel
theorem d_Law_law_323 : decode b_Law_law 323 = .ok ((.iconst 1), 1) := by decide +kernel
theorem d_Law_law_324 : decode b_Law_law 324 = .ok ((.goto 4), 3) := by decide +kernel
theorem d_Law_law_327 : decode b_Law_law 327 = .ok ((.iconst 0), 1) := by decide +kernel
theorem d_Law_law_328 : decode b_Law_law 328 = .ok ((.aload_n 0), 1) := by decide +kernel
theorem d_Law_law_329 : decode b_Law_law 329 = .ok ((.iload 4), 2) := by decide +kernel
theorem d_Law_law_331 : decode b_Law_law 331 = .ok ((.iconst 2), 1) := by decide +kernel
theorem d_Law_law_332 : decode b_Law_law 332 = .ok (.iadd, 1) := by decide +kernel
theorem d_Law_law_333 : decode b_Law_law 333 = .ok (.iaload, 1) := by decide +kernel
theorem d_Law_law_334 : decode b_Law_law 334 = .ok (.i2l, 1) := by decide +kernel
theorem d_Law_law_335 : decode b_Law_law 335 = .ok ((.bipush 32), 2) := by decide +kernel
theorem d_Law_law_337 : decode b_Law_law 337 = .ok (.lshl, 1) := by decide +kernel
theorem d_Law_law_338 : decode b_Law_law 338 = .ok ((.aload_n 0), 1) := by decide +kernel
theorem d_Law_law_339 : decode b_Law_law 339 = .ok ((.iload 4), 2) := by decide +kernel
theorem d_Law_law_341 : decode b_Law_law 341 = .ok ((.iconst 3), 1) := by decide +kernel
theorem d_Law_law_342 : decode b_Law_law 342 = .ok (.iadd, 1) := by decide +kernel
theorem d_Law_law_343 : decode b_Law_law 343 = .ok (.iaload, 1) := by decide +kernel
theorem d_Law_law_344 : decode b_Law_law 344 = .ok (.i2l, 1) := by decide +kernel
theorem d_Law_law_345 : decode b_Law_law 345 = .ok ((.ldc2_w 95), 3) := by decide +kernel
theorem d_Law_law_348 : decode b_Law_law 348 = .ok (.land, 1) := by decide +kernel
theorem d_Law_law_349 : decode b_Law_law 349 = .ok (.lor, 1) := by decide +kernel
theorem d_Law_law_350 : decode b_Law_law 350 = .ok ((.aload_n 3), 1) := by decide +kernel
theorem d_Law_law_351 : decode b_Law_law 351 = .ok ((.invokestatic 97), 3) := by decide +kernel
theorem d_Law_law_354 : decode b_Law_law 354 = .ok ((.istore 5), 2) := by decide +kernel
theorem d_Law_law_356 : decode b_Law_law 356 = .ok ((.aload_n 2), 1) := by decide +kernel
theorem d_Law_law_357 : decode b_Law_law 357 = .ok ((.aload_n 0), 1) := by decide +kernel
theorem d_Law_law_358 : decode b_Law_law 358 = .ok ((.iload 4), 2) := by decide +kernel
theorem d_Law_law_360 : decode b_Law_law 360 = .ok ((.iconst 1), 1) := by decide +kernel
theorem d_Law_law_361 : decode b_Law_law 361 = .ok (.iadd, 1) := by decide +kernel
theorem d_Law_law_362 : decode b_Law_law 362 = .ok (.iaload, 1) := by decide +kernel
theorem d_Law_law_363 : decode b_Law_law 363 = .ok ((.ifCond .eq 7), 3) := by decide +kernel
theorem d_Law_law_366 : decode b_Law_law 366 = .ok ((.iconst 1), 1) := by decide +kernel
theorem d_Law_law_367 : decode b_Law_law 367 = .ok ((.goto 4), 3) := by decide +kernel
theorem d_Law_law_370 : decode b_Law_law 370 = .ok ((.iconst 0), 1) := by decide +kernel
theorem d_Law_law_371 : decode b_Law_law 371 = .ok ((.aload_n 0), 1) := by decide +kernel
theorem d_Law_law_372 : decode b_Law_law 372 = .ok ((.iload 4), 2) := by decide +kernel
theorem d_Law_law_374 : decode b_Law_law 374 = .ok ((.iconst 2), 1) := by decide +kernel
theorem d_Law_law_375 : decode b_Law_law 375 = .ok (.iadd, 1) := by decide +kernel
theorem d_Law_law_376 : decode b_Law_law 376 = .ok (.iaload, 1) := by decide +kernel
theorem d_Law_law_377 : decode b_Law_law 377 = .ok (.i2l, 1) := by decide +kernel
theorem d_Law_law_378 : decode b_Law_law 378 = .ok ((.bipush 32), 2) := by decide +kernel
theorem d_Law_law_380 : decode b_Law_law 380 = .ok (.lshl, 1) := by decide +kernel
theorem d_Law_law_381 : decode b_Law_law 381 = .ok ((.aload_n 0), 1) := by decide +kernel
theorem d_Law_law_382 : decode b_Law_law 382 = .ok ((.iload 4), 2) := by decide +kernel
theorem d_Law_law_384 : decode b_Law_law 384 = .ok ((.iconst 3), 1) := by decide +kernel
theorem d_Law_law_385 : decode b_Law_law 385 = .ok (.iadd, 1) := by decide +kernel
theorem d_Law_law_386 : decode b_Law_law 386 = .ok (.iaload, 1) := by decide +kernel
theorem d_Law_law_387 : decode b_Law_law 387 = .ok (.i2l, 1) := by decide +kernel
theorem d_Law_law_388 : decode b_Law_law 388 = .ok ((.ldc2_w 95), 3) := by decide +kernel
theorem d_Law_law_391 : decode b_Law_law 391 = .ok (.land, 1) := by decide +kernel
theorem d_Law_law_392 : decode b_Law_law 392 = .ok (.lor, 1) := by decide +kernel
theorem d_Law_law_393 : decode b_Law_law 393 = .ok ((.invokevirtual 100), 3) := by decide +kernel
theorem d_Law_law_396 : decode b_Law_law 396 = .ok ((.istore 6), 2) := by decide +kernel
theorem d_Law_law_398 : decode b_Law_law 398 = .ok ((.goto 312), 3) := by decide +kernel
theorem d_Law_law_401 : decode b_Law_law 401 = .ok ((.aload_n 1), 1) := by decide +kernel
theorem d_Law_law_402 : decode b_Law_law 402 = .ok ((.aload_n 0), 1) := by decide +kernel
theorem d_Law_law_403 : decode b_Law_law 403 = .ok ((.iload 4), 2) := by decide +kernel
theorem d_Law_law_405 : decode b_Law_law 405 = .ok ((.iconst 1), 1) := by decide +kernel
theorem d_Law_law_406 : decode b_Law_law 406 = .ok (.iadd, 1) := by decide +kernel
theorem d_Law_law_407 : decode b_Law_law 407 = .ok (.iaload, 1) := by decide +kernel
theorem d_Law_law_408 : decode b_Law_law 408 = .ok ((.aload_n 0), 1) := by decide +kernel
theorem d_Law_law_409 : decode b_Law_law 409 = .ok ((.iload 4), 2) := by decide +kernel
theorem d_Law_law_411 : decode b_Law_law 411 = .ok ((.iconst 2), 1) := by decide +kernel
theorem d_Law_law_412 : decode b_Law_law 412 = .ok (.iadd, 1) := by decide +kernel
theorem d_Law_law_413 : decode b_Law_law 413 = .ok (.iaload, 1) := by decide +kernel
theorem d_Law_law_414 : decode b_Law_law 414 = .ok ((.aload_n 3), 1) := by decide +kernel
theorem d_Law_law_415 : decode b_Law_law 415 = .ok ((.invokestatic 101), 3) := by decide +kernel
theorem d_Law_law_418 : decode b_Law_law 418 = .ok ((.istore 5), 2) := by decide +kernel
theorem d_Law_law_420 : decode b_Law_law 420 = .ok ((.aload_n 2), 1) := by decide +kernel
theorem d_Law_law_421 : decode b_Law_law 421 = .ok ((.aload_n 0), 1) := by decide +kernel
theorem d_Law_law_422 : decode b_Law_law 422 = .ok ((.iload 4), 2) := by decide +kernel
theorem d_Law_law_424 : decode b_Law_law 424 = .ok ((.iconst 1), 1) := by decide +kernel
theorem d_Law_law_425 : decode b_Law_law 425 = .ok (.iadd, 1) := by decide +kernel
theorem d_Law_law_426 : decode b_Law_law 426 = .ok (.iaload, 1) := by decide +kernel
theorem d_Law_law_427 : decode b_Law_law 427 = .ok ((.aload_n 0), 1) := by decide +kernel
theorem d_Law_law_428 : decode b_Law_law 428 = .ok ((.iload 4), 2) := by decide +kernel
theorem d_Law_law_430 : decode b_Law_law 430 = .ok ((.iconst 2), 1) := by decide +kernel
theorem d_Law_law_431 : decode b_Law_law 431 = .ok (.iadd, 1) := by decide +kernel
theorem d_Law_law_432 : decode b_Law_law 432 = .ok (.iaload, 1) := by decide +kernel
theorem d_Law_law_433 : decode b_Law_law 433 = .ok ((.invokevirtual 103), 3) := by decide +kernel
theorem d_Law_law_436 : decode b_Law_law 436 = .ok ((.istore 6), 2) := by decide +kernel
theorem d_Law_law_438 : decode b_Law_law 438 = .ok ((.goto 272), 3) := by decide +kernel
theorem d_Law_law_441 : decode b_Law_law 441 = .ok ((.aload_n 1), 1) := by decide +kernel
theorem d_Law_law_442 : decode b_Law_law 442 = .ok ((.invokevirtual 104), 3) := by decide +kernel
theorem d_Law_law_445 : decode b_Law_law 445 = .ok (.pop, 1) := by decide +kernel
theorem d_Law_law_446 : decode b_Law_law 446 = .ok ((.aload_n 2), 1) := by decide +kernel
theorem d_Law_law_447 : decode b_Law_law 447 = .ok ((.invokevirtual 107), 3) := by decide +kernel
theorem d_Law_law_450 : decode b_Law_law 450 = .ok (.pop, 1) := by decide +kernel
theorem d_Law_law_451 : decode b_Law_law 451 = .ok ((.goto 259), 3) := by decide +kernel
theorem d_Law_law_454 : decode b_Law_law 454 = .ok ((.aload_n 1), 1) := by decide +kernel
theorem d_Law_law_455 : decode b_Law_law 455 = .ok ((.aload_n 3), 1) := by decide +kernel
theorem d_Law_law_456 : decode b_Law_law 456 = .ok ((.invokestatic 108), 3) := by decide +kernel
theorem d_Law_law_459 : decode b_Law_law 459 = .ok ((.istore 5), 2) := by decide +kernel
theorem d_Law_law_461 : decode b_Law_law 461 = .ok ((.aload_n 2), 1) := by decide +kernel
theorem d_Law_law_462 : decode b_Law_law 462 = .ok ((.invokevirtual 110), 3) := by decide +kernel
theorem d_Law_law_465 : decode b_Law_law 465 = .ok ((.lstore 6), 2) := by decide +kernel
theorem d_Law_law_467 : decode b_Law_law 467 = .ok ((.goto 243), 3) := by decide +kernel
theorem d_Law_law_470 : decode b_Law_law 470 = .ok ((.aload_n 1), 1) := by decide +kernel
theorem d_Law_law_471 : decode b_Law_law 471 = .ok ((.aload_n 3), 1) := by decide +kernel
theorem d_Law_law_472 : decode b_Law_law 472 = .ok ((.invokestatic 111), 3) := by decide +kernel
theorem d_Law_law_475 : decode b_Law_law 475 = .ok ((.istore 5), 2) := by decide +kernel
theorem d_Law_law_477 : decode b_Law_law 477 = .ok ((.aload_n 2), 1) := by decide +kernel
theorem d_Law_law_478 : decode b_Law_law 478 = .ok ((.invokevirtual 113), 3) := by decide +kernel
theorem d_Law_law_481 : decode b_Law_law 481 = .ok ((.istore 6), 2) := by decide +kernel
theorem d_Law_law_483 : decode b_Law_law 483 = .ok ((.aload_n 2), 1) := by decide +kernel
theorem d_Law_law_484 : decode b_Law_law 484 = .ok ((.invokevirtual 114), 3) := by decide +kernel
theorem d_Law_law_487 : decode b_Law_law 487 = .ok ((.iload 5), 2) := by decide +kernel
theorem d_Law_law_489 : decode b_Law_law 489 = .ok ((.if_icmp .eq 5), 3) := by decide +kernel
theorem d_Law_law_492 : decode b_Law_law 492 = .ok ((.iconst 0), 1) := by decide +kernel
theorem d_Law_law_493 : decode b_Law_law 493 = .ok (.ireturn, 1) := by decide +kernel
theorem d_Law_law_494 : decode b_Law_law 494 = .ok ((.iload 5), 2) := by decide +kernel
theorem d_Law_law_496 : decode b_Law_law 496 = .ok ((.ifCond .ne 15), 3) := by decide +kernel
theorem d_Law_law_499 : decode b_Law_law 499 = .ok ((.aload_n 3), 1) := by decide +kernel
theorem d_Law_law_500 : decode b_Law_law 500 = .ok ((.iconst 0), 1) := by decide +kernel
theorem d_Law_law_501 : decode b_Law_law 501 = .ok (.laload, 1) := by decide +kernel
theorem d_Law_law_502 : decode b_Law_law 502 = .ok ((.iload 6), 2) := by decide +kernel
theorem d_Law_law_504 : decode b_Law_law 504 = .ok (.i2l, 1) := by decide +kernel
theorem d_Law_law_505 : decode b_Law_law 505 = .ok (.lcmp, 1) := by decide +kernel
theorem d_Law_law_506 : decode b_Law_law 506 = .ok ((.ifCond .eq 5), 3) := by decide +kernel
theorem d_Law_law_509 : decode b_Law_law 509 = .ok ((.iconst 0), 1) := by decide +kernel
theorem d_Law_law_510 : decode b_Law_law 510 = .ok (.ireturn, 1) := by decide +kernel
theorem d_Law_law_511 : decode b_Law_law 511 = .ok ((.goto 199), 3) := by decide +kernel
theorem d_Law_law_514 : decode b_Law_law 514 = .ok ((.aload_n 1), 1) := by decide +kernel
theorem d_Law_law_515 : decode b_Law_law 515 = .ok ((.aload_n 0), 1) := by decide +kernel
theorem d_Law_law_516 : decode b_Law_law 516 = .ok ((.iload 4), 2) := by decide +kernel
theorem d_Law_law_518 : decode b_Law_law 518 = .ok ((.iconst 1), 1) := by decide +kernel
theorem d_Law_law_519 : decode b_Law_law 519 = .ok (.iadd, 1) := by decide +kernel
theorem d_Law_law_520 : decode b_Law_law 520 = .ok (.iaload, 1) := by decide +kernel
theorem d_Law_law_521 : decode b_Law_law 521 = .ok ((.aload_n 3), 1) := by decide +kernel
theorem d_Law_law_522 : decode b_Law_law 522 = .ok ((.invokestatic 117), 3) := by decide +kernel
theorem d_Law_law_525 : decode b_Law_law 525 = .ok ((.istore 5), 2) := by decide +kernel
theorem d_Law_law_527 : decode b_Law_law 527 = .ok ((.aload_n 2), 1) := by decide +kernel
theorem d_Law_law_528 : decode b_Law_law 528 = .ok ((.aload_n 0), 1) := by decide +kernel
theorem d_Law_law_529 : decode b_Law_law 529 = .ok ((.iload 4), 2) := by decide +kernel
theorem d_Law_law_531 : decode b_Law_law 531 = .ok ((.iconst 1), 1) := by decide +kernel
theorem d_Law_law_532 : decode b_Law_law 532 = .ok (.iadd, 1) := by decide +kernel
theorem d_Law_law_533 : decode b_Law_law 533 = .ok (.iaload, 1) := by decide +kernel
theorem d_Law_law_534 : decode b_Law_law 534 = .ok ((.invokevirtual 120), 3) := by decide +kernel
theorem d_Law_law_537 : decode b_Law_law 537 = .ok ((.istore 6), 2) := by decide +kernel
theorem d_Law_law_539 : decode b_Law_law 539 = .ok ((.goto 171), 3) := by decide +kernel
theorem d_Law_law_542 : decode b_Law_law 542 = .ok ((.aload_n 1), 1) := by decide +kernel
theorem d_Law_law_543 : decode b_Law_law 543 = .ok ((.aload_n 0), 1) := by decide +kernel
theorem d_Law_law_544 : decode b_Law_law 544 = .ok ((.iload 4), 2) := by decide +kernel
theorem d_Law_law_546 : decode b_Law_law 546 = .ok ((.iconst 1), 1) := by decide +kernel
theorem d_Law_law_547 : decode b_Law_law 547 = .ok (.iadd, 1) := by decide +kernel
theorem d_Law_law_548 : decode b_Law_law 548 = .ok (.iaload, 1) := by decide +kernel
theorem d_Law_law_549 : decode b_Law_law 549 = .ok ((.aload_n 3), 1) := by decide +kernel
theorem d_Law_law_550 : decode b_Law_law 550 = .ok ((.invokestatic 121), 3) := by decide +kernel
theorem d_Law_law_553 : decode b_Law_law 553 = .ok ((.istore 5), 2) := by decide +kernel
theorem d_Law_law_555 : decode b_Law_law 555 = .ok ((.aload_n 2), 1) := by decide +kernel
theorem d_Law_law_556 : decode b_Law_law 556 = .ok ((.aload_n 0), 1) := by decide +kernel
theorem d_Law_law_557 : decode b_Law_law 557 = .ok ((.iload 4), 2) := by decide +kernel
theorem d_Law_law_559 : decode b_Law_law 559 = .ok ((.iconst 1), 1) := by decide +kernel
theorem d_Law_law_560 : decode b_Law_law 560 = .ok (.iadd, 1) := by decide +kernel
theorem d_Law_law_561 : decode b_Law_law 561 = .ok (.iaload, 1) := by decide +kernel
theorem d_Law_law_562 : decode b_Law_law 562 = .ok ((.invokevirtual 123), 3) := by decide +kernel
theorem d_Law_law_565 : decode b_Law_law 565 = .ok ((.istore 6), 2) := by decide +kernel
theorem d_Law_law_567 : decode b_Law_law 567 = .ok ((.goto 143), 3) := by decide +kernel
theorem d_Law_law_570 : decode b_Law_law 570 = .ok ((.aload_n 1), 1) := by decide +kernel
theorem d_Law_law_571 : decode b_Law_law 571 = .ok ((.aload_n 0), 1) := by decide +kernel
theorem d_Law_law_572 : decode b_Law_law 572 = .ok ((.iload 4), 2) := by decide +kernel
theorem d_Law_law_574 : decode b_Law_law 574 = .ok ((.iconst 1), 1) := by decide +kernel
theorem d_Law_law_575 : decode b_Law_law 575 = .ok (.iadd, 1) := by decide +kernel
theorem d_Law_law_576 : decode b_Law_law 576 = .ok (.iaload, 1) := by decide +kernel
theorem d_Law_law_577 : decode b_Law_law 577 = .ok ((.aload_n 3), 1) := by decide +kernel
theorem d_Law_law_578 : decode b_Law_law 578 = .ok ((.invokestatic 124), 3) := by decide +kernel
theorem d_Law_law_581 : decode b_Law_law 581 = .ok ((.istore 5), 2) := by decide +kernel
theorem d_Law_law_583 : decode b_Law_law 583 = .ok ((.aload_n 2), 1) := by decide +kernel
theorem d_Law_law_584 : decode b_Law_law 584 = .ok ((.aload_n 0), 1) := by decide +kernel
theorem d_Law_law_585 : decode b_Law_law 585 = .ok ((.iload 4), 2) := by decide +kernel
theorem d_Law_law_587 : decode b_Law_law 587 = .ok ((.iconst 1), 1) := by decide +kernel
theorem d_Law_law_588 : decode b_Law_law 588 = .ok (.iadd, 1) := by decide +kernel
theorem d_Law_law_589 : decode b_Law_law 589 = .ok (.iaload, 1) := by decide +kernel
theorem d_Law_law_590 : decode b_Law_law 590 = .ok ((.invokevirtual 126), 3) := by decide +kernel
theorem d_Law_law_593 : decode b_Law_law 593 = .ok ((.istore 6), 2) := by decide +kernel
theorem d_Law_law_595 : decode b_Law_law 595 = .ok ((.goto 115), 3) := by decide +kernel
theorem d_Law_law_598 : decode b_Law_law 598 = .ok ((.aload_n 1), 1) := by decide +kernel
theorem d_Law_law_599 : decode b_Law_law 599 = .ok ((.invokevirtual 127), 3) := by decide +kernel
theorem d_Law_law_602 : decode b_Law_law 602 = .ok (.pop, 1) := by decide +kernel
theorem d_Law_law_603 : decode b_Law_law 603 = .ok ((.aload_n 2), 1) := by decide +kernel
theorem d_Law_law_604 : decode b_Law_law 604 = .ok ((.invokevirtual 130), 3) := by decide +kernel
theorem d_Law_law_607 : decode b_Law_law 607 = .ok (.pop, 1) := by decide +kernel
theorem d_Law_law_608 : decode b_Law_law 608 = .ok ((.goto 102), 3) := by decide +kernel
theorem d_Law_law_611 : decode b_Law_law 611 = .ok ((.aload_n 1), 1) := by decide +kernel
theorem d_Law_law_612 : decode b_Law_law 612 = .ok ((.aload_n 3), 1) := by decide +kernel
theorem d_Law_law_613 : decode b_Law_law 613 = .ok ((.invokestatic 131), 3) := by decide +kernel
theorem d_Law_law_616 : decode b_Law_law 616 = .ok ((.istore 5), 2) := by decide +kernel
theorem d_Law_law_618 : decode b_Law_law 618 = .ok ((.aload_n 2), 1) := by decide +kernel
theorem d_Law_law_619 : decode b_Law_law 619 = .ok ((.invokevirtual 133), 3) := by decide +kernel
theorem d_Law_law_622 : decode b_Law_law 622 = .ok ((.istore 6), 2) := by decide +kernel
theorem d_Law_law_624 : decode b_Law_law 624 = .ok ((.goto 86), 3) := by decide +kernel
theorem d_Law_law_627 : decode b_Law_law 627 = .ok ((.aload_n 1), 1) := by decide +kernel
theorem d_Law_law_628 : decode b_Law_law 628 = .ok ((.aload_n 0), 1) := by decide +kernel
theorem d_Law_law_629 : decode b_Law_law 629 = .ok ((.iload 4), 2) := by decide +kernel
theorem d_Law_law_631 : decode b_Law_law 631 = .ok ((.iconst 1), 1) := by decide +kernel
theorem d_Law_law_632 : decode b_Law_law 632 = .ok (.iadd, 1) := by decide +kernel
theorem d_Law_law_633 : decode b_Law_law 633 = .ok (.iaload, 1) := by decide +kernel
theorem d_Law_law_634 : decode b_Law_law 634 = .ok (.i2l, 1) := by decide +kernel
theorem d_Law_law_635 : decode b_Law_law 635 = .ok ((.bipush 32), 2) := by decide +kernel
theorem d_Law_law_637 : decode b_Law_law 637 = .ok (.lshl, 1) := by decide +kernel
theorem d_Law_law_638 : decode b_Law_law 638 = .ok ((.aload_n 0), 1) := by decide +kernel
theorem d_Law_law_639 : decode b_Law_law 639 = .ok ((.iload 4), 2) := by decide +kernel
theorem d_Law_law_641 : decode b_Law_law 641 = .ok ((.iconst 2), 1) := by decide +kernel
theorem d_Law_law_642 : decode b_Law_law 642 = .ok (.iadd, 1) := by decide +kernel
theorem d_Law_law_643 : decode b_Law_law 643 = .ok (.iaload, 1) := by decide +kernel
theorem d_Law_law_644 : decode b_Law_law 644 = .ok (.i2l, 1) := by decide +kernel
theorem d_Law_law_645 : decode b_Law_law 645 = .ok ((.ldc2_w 95), 3) := by decide +kernel
theorem d_Law_law_648 : decode b_Law_law 648 = .ok (.land, 1) := by decide +kernel
theorem d_Law_law_649 : decode b_Law_law 649 = .ok (.lor, 1) := by decide +kernel
theorem d_Law_law_650 : decode b_Law_law 650 = .ok ((.aload_n 0), 1) := by decide +kernel
theorem d_Law_law_651 : decode b_Law_law 651 = .ok ((.iload 4), 2) := by decide +kernel
theorem d_Law_law_653 : decode b_Law_law 653 = .ok ((.iconst 3), 1) := by decide +kernel
theorem d_Law_law_654 : decode b_Law_law 654 = .ok (.iadd, 1) := by decide +kernel
theorem d_Law_law_655 : decode b_Law_law 655 = .ok (.iaload, 1) := by decide +kernel
theorem d_Law_law_656 : decode b_Law_law 656 = .ok ((.aload_n 3), 1) := by decide +kernel
theorem d_Law_law_657 : decode b_Law_law 657 = .ok ((.invokestatic 134), 3) := by decide +kernel
theorem d_Law_law_660 : decode b_Law_law 660 = .ok ((.istore 5), 2) := by decide +kernel
theorem d_Law_law_662 : decode b_Law_law 662 = .ok ((.aload_n 2), 1) := by decide +kernel
theorem d_Law_law_663 : decode b_Law_law 663 = .ok ((.aload_n 0), 1) := by decide +kernel
theorem d_Law_law_664 : decode b_Law_law 664 = .ok ((.iload 4), 2) := by decide +kernel
theorem d_Law_law_666 : decode b_Law_law 666 = .ok ((.iconst 1), 1) := by decide +kernel
theorem d_Law_law_667 : decode b_Law_law 667 = .ok (.iadd, 1) := by decide +kernel
theorem d_Law_law_668 : decode b_Law_law 668 = .ok (.iaload, 1) := by decide +kernel
theorem d_Law_law_669 : decode b_Law_law 669 = .ok (.i2l, 1) := by decide +kernel
theorem d_Law_law_670 : decode b_Law_law 670 = .ok ((.bipush 32), 2) := by decide +kernel
theorem d_Law_law_672 : decode b_Law_law 672 = .ok (.lshl, 1) := by decide +kernel
theorem d_Law_law_673 : decode b_Law_law 673 = .ok ((.aload_n 0), 1) := by decide +kernel
theorem d_Law_law_674 : decode b_Law_law 674 = .ok ((.iload 4), 2) := by decide +kernel
theorem d_Law_law_676 : decode b_Law_law 676 = .ok ((.iconst 2), 1) := by decide +kernel
theorem d_Law_law_677 : decode b_Law_law 677 = .ok (.iadd, 1) := by decide +kernel
theorem d_Law_law_678 : decode b_Law_law 678 = .ok (.iaload, 1) := by decide +kernel
theorem d_Law_law_679 : decode b_Law_law 679 = .ok (.i2l, 1) := by decide +kernel
theorem d_Law_law_680 : decode b_Law_law 680 = .ok ((.ldc2_w 95), 3) := by decide +kernel
theorem d_Law_law_683 : decode b_Law_law 683 = .ok (.land, 1) := by decide +kernel
theorem d_Law_law_684 : decode b_Law_law 684 = .ok (.lor, 1) := by decide +kernel
theorem d_Law_law_685 : decode b_Law_law 685 = .ok ((.aload_n 0), 1) := by decide +kernel
theorem d_Law_law_686 : decode b_Law_law 686 = .ok ((.iload 4), 2) := by decide +kernel
theorem d_Law_law_688 : decode b_Law_law 688 = .ok ((.iconst 3), 1) := by decide +kernel
theorem d_Law_law_689 : decode b_Law_law 689 = .ok (.iadd, 1) := by decide +kernel
theorem d_Law_law_690 : decode b_Law_law 690 = .ok (.iaload, 1) := by decide +kernel
theorem d_Law_law_691 : decode b_Law_law 691 = .ok ((.invokevirtual 137), 3) := by decide +kernel
theorem d_Law_law_694 : decode b_Law_law 694 = .ok ((.istore 6), 2) := by decide +kernel
theorem d_Law_law_696 : decode b_Law_law 696 = .ok ((.goto 14), 3) := by decide +kernel
theorem d_Law_law_699 : decode b_Law_law 699 = .ok ((.aload_n 1), 1) := by decide +kernel
theorem d_Law_law_700 : decode b_Law_law 700 = .ok ((.invokevirtual 138), 3) := by decide +kernel
theorem d_Law_law_703 : decode b_Law_law 703 = .ok ((.aload_n 2), 1) := by decide +kernel
theorem d_Law_law_704 : decode b_Law_law 704 = .ok ((.invokevirtual 141), 3) := by decide +kernel
theorem d_Law_law_707 : decode b_Law_law 707 = .ok ((.goto 3), 3) := by decide +kernel
theorem d_Law_law_710 : decode b_Law_law 710 = .ok ((.iinc 4 4), 3) := by decide +kernel
theorem d_Law_law_713 : decode b_Law_law 713 = .ok ((.goto (-670)), 3) := by decide +kernel
theorem d_Law_law_716 : decode b_Law_law 716 = .ok ((.iconst 1), 1) := by decide +kernel
theorem d_Law_law_717 : decode b_Law_law 717 = .ok (.ireturn, 1) := by decide +kernel
