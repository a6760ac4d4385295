set_option maxRecDepth 100000
theorem mw_fl_Ref_62 : (Cond.fieldLink "CoverRowsModel" (62 : Nat) "CoverRowsModel" "products" "I" : Cond) ∈ lwg := lw_i4 (i := 98) rfl rfl
theorem mw_fl_Ref_7 : (Cond.fieldLink "CoverRowsModel" (7 : Nat) "CoverRowsModel" "digits" "[I" : Cond) ∈ lwg := lw_i4 (i := 99) rfl rfl
theorem mw_fl_Ref_13 : (Cond.fieldLink "CoverRowsModel" (13 : Nat) "CoverRowsModel" "kinds" "[I" : Cond) ∈ lwg := lw_i4 (i := 100) rfl rfl
theorem mw_fl_Ref_72 : (Cond.fieldLink "CoverRowsModel" (72 : Nat) "CoverRowsModel" "cubes" "I" : Cond) ∈ lwg := lw_i4 (i := 101) rfl rfl
theorem mw_fl_Ref_16 : (Cond.fieldLink "CoverRowsModel" (16 : Nat) "CoverRowsModel" "on" "[I" : Cond) ∈ lwg := lw_i4 (i := 102) rfl rfl
theorem mw_fl_Ref_19 : (Cond.fieldLink "CoverRowsModel" (19 : Nat) "CoverRowsModel" "can" "[I" : Cond) ∈ lwg := lw_i4 (i := 103) rfl rfl
theorem mw_fl_Ref_22 : (Cond.fieldLink "CoverRowsModel" (22 : Nat) "CoverRowsModel" "primeProducts" "[I" : Cond) ∈ lwg := lw_i4 (i := 104) rfl rfl
theorem mw_fl_Ref_25 : (Cond.fieldLink "CoverRowsModel" (25 : Nat) "CoverRowsModel" "primeOutputs" "[I" : Cond) ∈ lwg := lw_i4 (i := 105) rfl rfl
theorem mw_fl_Ref_28 : (Cond.fieldLink "CoverRowsModel" (28 : Nat) "CoverRowsModel" "primeCosts" "[I" : Cond) ∈ lwg := lw_i4 (i := 106) rfl rfl
theorem mw_fl_Ref_31 : (Cond.fieldLink "CoverRowsModel" (31 : Nat) "CoverRowsModel" "primePoints" "[I" : Cond) ∈ lwg := lw_i4 (i := 107) rfl rfl
theorem mw_fl_Ref_82 : (Cond.fieldLink "CoverRowsModel" (82 : Nat) "CoverRowsModel" "primes" "I" : Cond) ∈ lwg := lw_i4 (i := 108) rfl rfl
theorem mw_fl_Ref_34 : (Cond.fieldLink "CoverRowsModel" (34 : Nat) "CoverRowsModel" "rest" "[I" : Cond) ∈ lwg := lw_i4 (i := 109) rfl rfl
theorem mw_fl_Ref_113 : (Cond.fieldLink "CoverRowsModel" (113 : Nat) "CoverRowsModel" "kept" "Z" : Cond) ∈ lwg := lw_i4 (i := 110) rfl rfl
theorem mw_fl_Ref_37 : (Cond.fieldLink "CoverRowsModel" (37 : Nat) "CoverRowsModel" "keptProducts" "[I" : Cond) ∈ lwg := lw_i4 (i := 111) rfl rfl
theorem mw_fl_Ref_40 : (Cond.fieldLink "CoverRowsModel" (40 : Nat) "CoverRowsModel" "keptOutputs" "[I" : Cond) ∈ lwg := lw_i4 (i := 112) rfl rfl
theorem mw_fl_Ref_110 : (Cond.fieldLink "CoverRowsModel" (110 : Nat) "CoverRowsModel" "terms" "I" : Cond) ∈ lwg := lw_i4 (i := 113) rfl rfl
theorem mw_fl_Ref_43 : (Cond.fieldLink "CoverRowsModel" (43 : Nat) "CoverRowsModel" "quotients" "[I" : Cond) ∈ lwg := lw_i4 (i := 114) rfl rfl
theorem mw_fl_Ref_117 : (Cond.fieldLink "CoverRowsModel" (117 : Nat) "CoverRowsModel" "quotientCount" "I" : Cond) ∈ lwg := lw_i4 (i := 115) rfl rfl
theorem mw_fl_Ref_46 : (Cond.fieldLink "CoverRowsModel" (46 : Nat) "CoverRowsModel" "chosen" "[I" : Cond) ∈ lwg := lw_i4 (i := 116) rfl rfl
theorem mw_fl_Ref_49 : (Cond.fieldLink "CoverRowsModel" (49 : Nat) "CoverRowsModel" "best" "[I" : Cond) ∈ lwg := lw_i4 (i := 117) rfl rfl
theorem mw_fl_Ref_94 : (Cond.fieldLink "CoverRowsModel" (94 : Nat) "CoverRowsModel" "bestCost" "I" : Cond) ∈ lwg := lw_i4 (i := 118) rfl rfl
theorem mw_fl_Ref_52 : (Cond.fieldLink "CoverRowsModel" (52 : Nat) "CoverRowsModel" "found" "[I" : Cond) ∈ lwg := lw_i4 (i := 119) rfl rfl
theorem mw_ml_Law_114 : (Cond.methodLink "CoverRowsLaw" (114 : Nat) ({ cls := "CoverRowsModel", name := "thrown", desc := "()I" } : MethodName) : Cond) ∈ lwg := lw_i4 (i := 171) rfl rfl
theorem mw_im_Ref_thrown : (Cond.instanceMethod ({ cls := "CoverRowsModel", name := "thrown", desc := "()I" } : MethodName) : Cond) ∈ lwg := lw_i4 (i := 172) rfl rfl
theorem mw_se_Ref_thrown : (Cond.selects "CoverRowsModel" ({ cls := "CoverRowsModel", name := "thrown", desc := "()I" } : MethodName) ({ cls := "CoverRowsModel", name := "thrown", desc := "()I" } : MethodName) : Cond) ∈ lwg := lw_i4 (i := 173) rfl rfl
theorem mw_code_Ref_thrown : (Cond.code ({ cls := "CoverRowsModel", name := "thrown", desc := "()I" } : MethodName) prog_10_method_2_code (1 : Nat) (Option.some FieldType.int) : Cond) ∈ lwg := lw_i4 (i := 174) rfl rfl
theorem mw_ml_Law_79 : (Cond.methodLink "CoverRowsLaw" (79 : Nat) ({ cls := "CoverRowsModel", name := "cube", desc := "()I" } : MethodName) : Cond) ∈ lwg := lw_i4 (i := 175) rfl rfl
theorem mw_im_Ref_cube : (Cond.instanceMethod ({ cls := "CoverRowsModel", name := "cube", desc := "()I" } : MethodName) : Cond) ∈ lwg := lw_i4 (i := 176) rfl rfl
theorem mw_se_Ref_cube : (Cond.selects "CoverRowsModel" ({ cls := "CoverRowsModel", name := "cube", desc := "()I" } : MethodName) ({ cls := "CoverRowsModel", name := "cube", desc := "()I" } : MethodName) : Cond) ∈ lwg := lw_i4 (i := 177) rfl rfl
theorem mw_code_Ref_cube : (Cond.code ({ cls := "CoverRowsModel", name := "cube", desc := "()I" } : MethodName) prog_10_method_6_code (2 : Nat) (Option.some FieldType.int) : Cond) ∈ lwg := lw_i4 (i := 178) rfl rfl
theorem mw_ml_Law_83 : (Cond.methodLink "CoverRowsLaw" (83 : Nat) ({ cls := "CoverRowsModel", name := "literal", desc := "(III)Z" } : MethodName) : Cond) ∈ lwg := lw_i4 (i := 179) rfl rfl
theorem mw_im_Ref_literal : (Cond.instanceMethod ({ cls := "CoverRowsModel", name := "literal", desc := "(III)Z" } : MethodName) : Cond) ∈ lwg := lw_i4 (i := 180) rfl rfl
theorem mw_se_Ref_literal : (Cond.selects "CoverRowsModel" ({ cls := "CoverRowsModel", name := "literal", desc := "(III)Z" } : MethodName) ({ cls := "CoverRowsModel", name := "literal", desc := "(III)Z" } : MethodName) : Cond) ∈ lwg := lw_i4 (i := 181) rfl rfl
theorem mw_code_Ref_literal : (Cond.code ({ cls := "CoverRowsModel", name := "literal", desc := "(III)Z" } : MethodName) prog_10_method_7_code (5 : Nat) (Option.some FieldType.boolean) : Cond) ∈ lwg := lw_i4 (i := 182) rfl rfl
theorem mw_ml_Law_86 : (Cond.methodLink "CoverRowsLaw" (86 : Nat) ({ cls := "CoverRowsModel", name := "to", desc := "(III)Z" } : MethodName) : Cond) ∈ lwg := lw_i4 (i := 183) rfl rfl
theorem mw_im_Ref_to : (Cond.instanceMethod ({ cls := "CoverRowsModel", name := "to", desc := "(III)Z" } : MethodName) : Cond) ∈ lwg := lw_i4 (i := 184) rfl rfl
theorem mw_se_Ref_to : (Cond.selects "CoverRowsModel" ({ cls := "CoverRowsModel", name := "to", desc := "(III)Z" } : MethodName) ({ cls := "CoverRowsModel", name := "to", desc := "(III)Z" } : MethodName) : Cond) ∈ lwg := lw_i4 (i := 185) rfl rfl
theorem mw_code_Ref_to : (Cond.code ({ cls := "CoverRowsModel", name := "to", desc := "(III)Z" } : MethodName) prog_10_method_8_code (5 : Nat) (Option.some FieldType.boolean) : Cond) ∈ lwg := lw_i4 (i := 186) rfl rfl
theorem mw_ml_Law_90 : (Cond.methodLink "CoverRowsLaw" (90 : Nat) ({ cls := "CoverRowsModel", name := "primes", desc := "()I" } : MethodName) : Cond) ∈ lwg := lw_i4 (i := 187) rfl rfl
theorem mw_im_Ref_primes : (Cond.instanceMethod ({ cls := "CoverRowsModel", name := "primes", desc := "()I" } : MethodName) : Cond) ∈ lwg := lw_i4 (i := 188) rfl rfl
theorem mw_se_Ref_primes : (Cond.selects "CoverRowsModel" ({ cls := "CoverRowsModel", name := "primes", desc := "()I" } : MethodName) ({ cls := "CoverRowsModel", name := "primes", desc := "()I" } : MethodName) : Cond) ∈ lwg := lw_i4 (i := 189) rfl rfl
theorem mw_code_Ref_primes : (Cond.code ({ cls := "CoverRowsModel", name := "primes", desc := "()I" } : MethodName) prog_10_method_12_code (1 : Nat) (Option.some FieldType.int) : Cond) ∈ lwg := lw_i4 (i := 190) rfl rfl
theorem mw_ml_Ref_91 : (Cond.methodLink "CoverRowsModel" (91 : Nat) ({ cls := "CoverRowsModel", name := "findPrimes", desc := "()V" } : MethodName) : Cond) ∈ lwg := lw_i4 (i := 191) rfl rfl
theorem mw_im_Ref_findPrimes : (Cond.instanceMethod ({ cls := "CoverRowsModel", name := "findPrimes", desc := "()V" } : MethodName) : Cond) ∈ lwg := lw_i4 (i := 193) rfl rfl
theorem mw_code_Ref_findPrimes : (Cond.code ({ cls := "CoverRowsModel", name := "findPrimes", desc := "()V" } : MethodName) prog_10_method_11_code (6 : Nat) (Option.none : Option FieldType) : Cond) ∈ lwg := lw_i4 (i := 194) rfl rfl
theorem mw_ml_Ref_79 : (Cond.methodLink "CoverRowsModel" (79 : Nat) ({ cls := "CoverRowsModel", name := "work", desc := "()V" } : MethodName) : Cond) ∈ lwg := lw_i4 (i := 195) rfl rfl
theorem mw_im_Ref_work : (Cond.instanceMethod ({ cls := "CoverRowsModel", name := "work", desc := "()V" } : MethodName) : Cond) ∈ lwg := lw_i4 (i := 197) rfl rfl
theorem mw_code_Ref_work : (Cond.code ({ cls := "CoverRowsModel", name := "work", desc := "()V" } : MethodName) prog_10_method_9_code (5 : Nat) (Option.none : Option FieldType) : Cond) ∈ lwg := lw_i4 (i := 198) rfl rfl
theorem mw_ml_Ref_75 : (Cond.methodLink "CoverRowsModel" (75 : Nat) ({ cls := "CoverRowsModel", name := "points", desc := "(I)I" } : MethodName) : Cond) ∈ lwg := lw_i4 (i := 199) rfl rfl
theorem mw_im_Ref_points : (Cond.instanceMethod ({ cls := "CoverRowsModel", name := "points", desc := "(I)I" } : MethodName) : Cond) ∈ lwg := lw_i4 (i := 201) rfl rfl
theorem mw_code_Ref_points : (Cond.code ({ cls := "CoverRowsModel", name := "points", desc := "(I)I" } : MethodName) prog_10_method_4_code (7 : Nat) (Option.some FieldType.int) : Cond) ∈ lwg := lw_i4 (i := 202) rfl rfl
theorem mw_ml_Ref_68 : (Cond.methodLink "CoverRowsModel" (68 : Nat) ({ cls := "CoverRowsModel", name := "digit", desc := "(II)I" } : MethodName) : Cond) ∈ lwg := lw_i4 (i := 203) rfl rfl
theorem mw_im_Ref_digit : (Cond.instanceMethod ({ cls := "CoverRowsModel", name := "digit", desc := "(II)I" } : MethodName) : Cond) ∈ lwg := lw_i4 (i := 205) rfl rfl
theorem mw_code_Ref_digit : (Cond.code ({ cls := "CoverRowsModel", name := "digit", desc := "(II)I" } : MethodName) prog_10_method_3_code (5 : Nat) (Option.some FieldType.int) : Cond) ∈ lwg := lw_i4 (i := 206) rfl rfl
theorem mw_ml_Ref_85 : (Cond.methodLink "CoverRowsModel" (85 : Nat) ({ cls := "CoverRowsModel", name := "outputsOf", desc := "(I)I" } : MethodName) : Cond) ∈ lwg := lw_i4 (i := 207) rfl rfl
theorem mw_im_Ref_outputsOf : (Cond.instanceMethod ({ cls := "CoverRowsModel", name := "outputsOf", desc := "(I)I" } : MethodName) : Cond) ∈ lwg := lw_i4 (i := 209) rfl rfl
theorem mw_code_Ref_outputsOf : (Cond.code ({ cls := "CoverRowsModel", name := "outputsOf", desc := "(I)I" } : MethodName) prog_10_method_10_code (5 : Nat) (Option.some FieldType.int) : Cond) ∈ lwg := lw_i4 (i := 210) rfl rfl
theorem mw_ml_Ref_88 : (Cond.methodLink "CoverRowsModel" (88 : Nat) ({ cls := "CoverRowsModel", name := "costOf", desc := "(II)I" } : MethodName) : Cond) ∈ lwg := lw_i4 (i := 211) rfl rfl
theorem mw_im_Ref_costOf : (Cond.instanceMethod ({ cls := "CoverRowsModel", name := "costOf", desc := "(II)I" } : MethodName) : Cond) ∈ lwg := lw_i4 (i := 213) rfl rfl
theorem mw_code_Ref_costOf : (Cond.code ({ cls := "CoverRowsModel", name := "costOf", desc := "(II)I" } : MethodName) prog_10_method_5_code (5 : Nat) (Option.some FieldType.int) : Cond) ∈ lwg := lw_i4 (i := 214) rfl rfl
theorem mw_ml_Law_94 : (Cond.methodLink "CoverRowsLaw" (94 : Nat) ({ cls := "CoverRowsModel", name := "prime", desc := "(II)I" } : MethodName) : Cond) ∈ lwg := lw_i4 (i := 215) rfl rfl
theorem mw_im_Ref_prime : (Cond.instanceMethod ({ cls := "CoverRowsModel", name := "prime", desc := "(II)I" } : MethodName) : Cond) ∈ lwg := lw_i4 (i := 216) rfl rfl
theorem mw_se_Ref_prime : (Cond.selects "CoverRowsModel" ({ cls := "CoverRowsModel", name := "prime", desc := "(II)I" } : MethodName) ({ cls := "CoverRowsModel", name := "prime", desc := "(II)I" } : MethodName) : Cond) ∈ lwg := lw_i4 (i := 217) rfl rfl
theorem mw_code_Ref_prime : (Cond.code ({ cls := "CoverRowsModel", name := "prime", desc := "(II)I" } : MethodName) prog_10_method_13_code (3 : Nat) (Option.some FieldType.int) : Cond) ∈ lwg := lw_i4 (i := 218) rfl rfl
theorem mw_ml_Law_100 : (Cond.methodLink "CoverRowsLaw" (100 : Nat) ({ cls := "CoverRowsModel", name := "run", desc := "(ZJ)I" } : MethodName) : Cond) ∈ lwg := lw_i4 (i := 219) rfl rfl
theorem mw_im_Ref_run : (Cond.instanceMethod ({ cls := "CoverRowsModel", name := "run", desc := "(ZJ)I" } : MethodName) : Cond) ∈ lwg := lw_i4 (i := 220) rfl rfl
theorem mw_se_Ref_run : (Cond.selects "CoverRowsModel" ({ cls := "CoverRowsModel", name := "run", desc := "(ZJ)I" } : MethodName) ({ cls := "CoverRowsModel", name := "run", desc := "(ZJ)I" } : MethodName) : Cond) ∈ lwg := lw_i4 (i := 221) rfl rfl
theorem mw_code_Ref_run : (Cond.code ({ cls := "CoverRowsModel", name := "run", desc := "(ZJ)I" } : MethodName) prog_10_method_18_code (6 : Nat) (Option.some FieldType.int) : Cond) ∈ lwg := lw_i4 (i := 222) rfl rfl
theorem mw_ml_Ref_104 : (Cond.methodLink "CoverRowsModel" (104 : Nat) ({ cls := "CoverRowsModel", name := "exact", desc := "(I)I" } : MethodName) : Cond) ∈ lwg := lw_i4 (i := 223) rfl rfl
theorem mw_im_Ref_exact : (Cond.instanceMethod ({ cls := "CoverRowsModel", name := "exact", desc := "(I)I" } : MethodName) : Cond) ∈ lwg := lw_i4 (i := 225) rfl rfl
theorem mw_code_Ref_exact : (Cond.code ({ cls := "CoverRowsModel", name := "exact", desc := "(I)I" } : MethodName) prog_10_method_16_code (3 : Nat) (Option.some FieldType.int) : Cond) ∈ lwg := lw_i4 (i := 226) rfl rfl
theorem mw_ml_Ref_97 : (Cond.methodLink "CoverRowsModel" (97 : Nat) ({ cls := "CoverRowsModel", name := "tryAll", desc := "(II)Z" } : MethodName) : Cond) ∈ lwg := lw_i4 (i := 227) rfl rfl
theorem mw_im_Ref_tryAll : (Cond.instanceMethod ({ cls := "CoverRowsModel", name := "tryAll", desc := "(II)Z" } : MethodName) : Cond) ∈ lwg := lw_i4 (i := 229) rfl rfl
theorem mw_code_Ref_tryAll : (Cond.code ({ cls := "CoverRowsModel", name := "tryAll", desc := "(II)Z" } : MethodName) prog_10_method_15_code (10 : Nat) (Option.some FieldType.boolean) : Cond) ∈ lwg := lw_i4 (i := 230) rfl rfl
theorem mw_ml_Ref_107 : (Cond.methodLink "CoverRowsModel" (107 : Nat) ({ cls := "CoverRowsModel", name := "quick", desc := "(I)I" } : MethodName) : Cond) ∈ lwg := lw_i4 (i := 231) rfl rfl
theorem mw_im_Ref_quick : (Cond.instanceMethod ({ cls := "CoverRowsModel", name := "quick", desc := "(I)I" } : MethodName) : Cond) ∈ lwg := lw_i4 (i := 233) rfl rfl
theorem mw_code_Ref_quick : (Cond.code ({ cls := "CoverRowsModel", name := "quick", desc := "(I)I" } : MethodName) prog_10_method_17_code (9 : Nat) (Option.some FieldType.int) : Cond) ∈ lwg := lw_i4 (i := 234) rfl rfl
theorem mw_ml_Ref_101 : (Cond.methodLink "CoverRowsModel" (101 : Nat) ({ cls := "CoverRowsModel", name := "ones", desc := "(I)I" } : MethodName) : Cond) ∈ lwg := lw_i4 (i := 235) rfl rfl
theorem mw_st_Ref_ones : (Cond.static ({ cls := "CoverRowsModel", name := "ones", desc := "(I)I" } : MethodName) : Cond) ∈ lwg := lw_i4 (i := 236) rfl rfl
theorem mw_code_Ref_ones : (Cond.code ({ cls := "CoverRowsModel", name := "ones", desc := "(I)I" } : MethodName) prog_10_method_14_code (3 : Nat) (Option.some FieldType.int) : Cond) ∈ lwg := lw_i4 (i := 237) rfl rfl
theorem mw_ml_Law_103 : (Cond.methodLink "CoverRowsLaw" (103 : Nat) ({ cls := "CoverRowsModel", name := "at", desc := "(II)I" } : MethodName) : Cond) ∈ lwg := lw_i4 (i := 238) rfl rfl
theorem mw_im_Ref_at : (Cond.instanceMethod ({ cls := "CoverRowsModel", name := "at", desc := "(II)I" } : MethodName) : Cond) ∈ lwg := lw_i4 (i := 239) rfl rfl
theorem mw_se_Ref_at : (Cond.selects "CoverRowsModel" ({ cls := "CoverRowsModel", name := "at", desc := "(II)I" } : MethodName) ({ cls := "CoverRowsModel", name := "at", desc := "(II)I" } : MethodName) : Cond) ∈ lwg := lw_i5 (i := 0) rfl rfl
theorem mw_code_Ref_at : (Cond.code ({ cls := "CoverRowsModel", name := "at", desc := "(II)I" } : MethodName) prog_10_method_19_code (3 : Nat) (Option.some FieldType.int) : Cond) ∈ lwg := lw_i5 (i := 1) rfl rfl
theorem mw_ml_Law_107 : (Cond.methodLink "CoverRowsLaw" (107 : Nat) ({ cls := "CoverRowsModel", name := "tautology", desc := "()Z" } : MethodName) : Cond) ∈ lwg := lw_i5 (i := 2) rfl rfl
theorem mw_im_Ref_tautology : (Cond.instanceMethod ({ cls := "CoverRowsModel", name := "tautology", desc := "()Z" } : MethodName) : Cond) ∈ lwg := lw_i5 (i := 3) rfl rfl
theorem mw_se_Ref_tautology : (Cond.selects "CoverRowsModel" ({ cls := "CoverRowsModel", name := "tautology", desc := "()Z" } : MethodName) ({ cls := "CoverRowsModel", name := "tautology", desc := "()Z" } : MethodName) : Cond) ∈ lwg := lw_i5 (i := 4) rfl rfl
theorem mw_code_Ref_tautology : (Cond.code ({ cls := "CoverRowsModel", name := "tautology", desc := "()Z" } : MethodName) prog_10_method_20_code (3 : Nat) (Option.some FieldType.boolean) : Cond) ∈ lwg := lw_i5 (i := 5) rfl rfl
theorem mw_ml_Law_110 : (Cond.methodLink "CoverRowsLaw" (110 : Nat) ({ cls := "CoverRowsModel", name := "cost", desc := "()J" } : MethodName) : Cond) ∈ lwg := lw_i5 (i := 6) rfl rfl
theorem mw_im_Ref_cost : (Cond.instanceMethod ({ cls := "CoverRowsModel", name := "cost", desc := "()J" } : MethodName) : Cond) ∈ lwg := lw_i5 (i := 7) rfl rfl
theorem mw_se_Ref_cost : (Cond.selects "CoverRowsModel" ({ cls := "CoverRowsModel", name := "cost", desc := "()J" } : MethodName) ({ cls := "CoverRowsModel", name := "cost", desc := "()J" } : MethodName) : Cond) ∈ lwg := lw_i5 (i := 8) rfl rfl
theorem mw_code_Ref_cost : (Cond.code ({ cls := "CoverRowsModel", name := "cost", desc := "()J" } : MethodName) prog_10_method_21_code (3 : Nat) (Option.some FieldType.long) : Cond) ∈ lwg := lw_i5 (i := 9) rfl rfl
theorem mw_ml_Law_133 : (Cond.methodLink "CoverRowsLaw" (133 : Nat) ({ cls := "CoverRowsModel", name := "equal", desc := "()Z" } : MethodName) : Cond) ∈ lwg := lw_i5 (i := 10) rfl rfl
theorem mw_im_Ref_equal : (Cond.instanceMethod ({ cls := "CoverRowsModel", name := "equal", desc := "()Z" } : MethodName) : Cond) ∈ lwg := lw_i5 (i := 11) rfl rfl
theorem mw_se_Ref_equal : (Cond.selects "CoverRowsModel" ({ cls := "CoverRowsModel", name := "equal", desc := "()Z" } : MethodName) ({ cls := "CoverRowsModel", name := "equal", desc := "()Z" } : MethodName) : Cond) ∈ lwg := lw_i5 (i := 12) rfl rfl
theorem mw_code_Ref_equal : (Cond.code ({ cls := "CoverRowsModel", name := "equal", desc := "()Z" } : MethodName) prog_10_method_23_code (4 : Nat) (Option.some FieldType.boolean) : Cond) ∈ lwg := lw_i5 (i := 13) rfl rfl
theorem mw_ml_Ref_120 : (Cond.methodLink "CoverRowsModel" (120 : Nat) ({ cls := "CoverRowsModel", name := "keptPoints", desc := "(I)I" } : MethodName) : Cond) ∈ lwg := lw_i5 (i := 14) rfl rfl
theorem mw_im_Ref_keptPoints : (Cond.instanceMethod ({ cls := "CoverRowsModel", name := "keptPoints", desc := "(I)I" } : MethodName) : Cond) ∈ lwg := lw_i5 (i := 16) rfl rfl
theorem mw_code_Ref_keptPoints : (Cond.code ({ cls := "CoverRowsModel", name := "keptPoints", desc := "(I)I" } : MethodName) prog_10_method_22_code (4 : Nat) (Option.some FieldType.int) : Cond) ∈ lwg := lw_i5 (i := 17) rfl rfl
theorem mw_ml_Law_137 : (Cond.methodLink "CoverRowsLaw" (137 : Nat) ({ cls := "CoverRowsModel", name := "value", desc := "(JI)Z" } : MethodName) : Cond) ∈ lwg := lw_i5 (i := 18) rfl rfl
theorem mw_im_Ref_value : (Cond.instanceMethod ({ cls := "CoverRowsModel", name := "value", desc := "(JI)Z" } : MethodName) : Cond) ∈ lwg := lw_i5 (i := 19) rfl rfl
theorem mw_se_Ref_value : (Cond.selects "CoverRowsModel" ({ cls := "CoverRowsModel", name := "value", desc := "(JI)Z" } : MethodName) ({ cls := "CoverRowsModel", name := "value", desc := "(JI)Z" } : MethodName) : Cond) ∈ lwg := lw_i5 (i := 20) rfl rfl
theorem mw_code_Ref_value : (Cond.code ({ cls := "CoverRowsModel", name := "value", desc := "(JI)Z" } : MethodName) prog_10_method_24_code (4 : Nat) (Option.some FieldType.boolean) : Cond) ∈ lwg := lw_i5 (i := 21) rfl rfl
theorem mw_ml_Law_120 : (Cond.methodLink "CoverRowsLaw" (120 : Nat) ({ cls := "CoverRowsModel", name := "divide", desc := "(I)I" } : MethodName) : Cond) ∈ lwg := lw_i5 (i := 22) rfl rfl
theorem mw_im_Ref_divide : (Cond.instanceMethod ({ cls := "CoverRowsModel", name := "divide", desc := "(I)I" } : MethodName) : Cond) ∈ lwg := lw_i5 (i := 23) rfl rfl
theorem mw_se_Ref_divide : (Cond.selects "CoverRowsModel" ({ cls := "CoverRowsModel", name := "divide", desc := "(I)I" } : MethodName) ({ cls := "CoverRowsModel", name := "divide", desc := "(I)I" } : MethodName) : Cond) ∈ lwg := lw_i5 (i := 24) rfl rfl
theorem mw_code_Ref_divide : (Cond.code ({ cls := "CoverRowsModel", name := "divide", desc := "(I)I" } : MethodName) prog_10_method_27_code (5 : Nat) (Option.some FieldType.int) : Cond) ∈ lwg := lw_i5 (i := 25) rfl rfl
theorem mw_ml_Ref_126 : (Cond.methodLink "CoverRowsModel" (126 : Nat) ({ cls := "CoverRowsModel", name := "isIn", desc := "(II)Z" } : MethodName) : Cond) ∈ lwg := lw_i5 (i := 26) rfl rfl
theorem mw_im_Ref_isIn : (Cond.instanceMethod ({ cls := "CoverRowsModel", name := "isIn", desc := "(II)Z" } : MethodName) : Cond) ∈ lwg := lw_i5 (i := 28) rfl rfl
theorem mw_code_Ref_isIn : (Cond.code ({ cls := "CoverRowsModel", name := "isIn", desc := "(II)Z" } : MethodName) prog_10_method_26_code (5 : Nat) (Option.some FieldType.boolean) : Cond) ∈ lwg := lw_i5 (i := 29) rfl rfl
theorem mw_ml_Ref_123 : (Cond.methodLink "CoverRowsModel" (123 : Nat) ({ cls := "CoverRowsModel", name := "divided", desc := "(II)I" } : MethodName) : Cond) ∈ lwg := lw_i5 (i := 30) rfl rfl
theorem mw_im_Ref_divided : (Cond.instanceMethod ({ cls := "CoverRowsModel", name := "divided", desc := "(II)I" } : MethodName) : Cond) ∈ lwg := lw_i5 (i := 32) rfl rfl
theorem mw_code_Ref_divided : (Cond.code ({ cls := "CoverRowsModel", name := "divided", desc := "(II)I" } : MethodName) prog_10_method_25_code (7 : Nat) (Option.some FieldType.int) : Cond) ∈ lwg := lw_i5 (i := 33) rfl rfl
theorem mw_ml_Law_123 : (Cond.methodLink "CoverRowsLaw" (123 : Nat) ({ cls := "CoverRowsModel", name := "quotient", desc := "(I)I" } : MethodName) : Cond) ∈ lwg := lw_i5 (i := 34) rfl rfl
theorem mw_im_Ref_quotient : (Cond.instanceMethod ({ cls := "CoverRowsModel", name := "quotient", desc := "(I)I" } : MethodName) : Cond) ∈ lwg := lw_i5 (i := 35) rfl rfl
theorem mw_se_Ref_quotient : (Cond.selects "CoverRowsModel" ({ cls := "CoverRowsModel", name := "quotient", desc := "(I)I" } : MethodName) ({ cls := "CoverRowsModel", name := "quotient", desc := "(I)I" } : MethodName) : Cond) ∈ lwg := lw_i5 (i := 36) rfl rfl
theorem mw_code_Ref_quotient : (Cond.code ({ cls := "CoverRowsModel", name := "quotient", desc := "(I)I" } : MethodName) prog_10_method_28_code (2 : Nat) (Option.some FieldType.int) : Cond) ∈ lwg := lw_i5 (i := 37) rfl rfl
theorem mw_ml_Law_113 : (Cond.methodLink "CoverRowsLaw" (113 : Nat) ({ cls := "CoverRowsModel", name := "kernels", desc := "()I" } : MethodName) : Cond) ∈ lwg := lw_i5 (i := 38) rfl rfl
theorem mw_im_Ref_kernels : (Cond.instanceMethod ({ cls := "CoverRowsModel", name := "kernels", desc := "()I" } : MethodName) : Cond) ∈ lwg := lw_i5 (i := 39) rfl rfl
theorem mw_se_Ref_kernels : (Cond.selects "CoverRowsModel" ({ cls := "CoverRowsModel", name := "kernels", desc := "()I" } : MethodName) ({ cls := "CoverRowsModel", name := "kernels", desc := "()I" } : MethodName) : Cond) ∈ lwg := lw_i5 (i := 40) rfl rfl
theorem mw_code_Ref_kernels : (Cond.code ({ cls := "CoverRowsModel", name := "kernels", desc := "()I" } : MethodName) prog_10_method_30_code (7 : Nat) (Option.some FieldType.int) : Cond) ∈ lwg := lw_i5 (i := 41) rfl rfl
theorem mw_ml_Ref_129 : (Cond.methodLink "CoverRowsModel" (129 : Nat) ({ cls := "CoverRowsModel", name := "isKernel", desc := "(I)Z" } : MethodName) : Cond) ∈ lwg := lw_i5 (i := 42) rfl rfl
theorem mw_im_Ref_isKernel : (Cond.instanceMethod ({ cls := "CoverRowsModel", name := "isKernel", desc := "(I)Z" } : MethodName) : Cond) ∈ lwg := lw_i5 (i := 44) rfl rfl
theorem mw_code_Ref_isKernel : (Cond.code ({ cls := "CoverRowsModel", name := "isKernel", desc := "(I)Z" } : MethodName) prog_10_method_29_code (8 : Nat) (Option.some FieldType.boolean) : Cond) ∈ lwg := lw_i5 (i := 45) rfl rfl
theorem mw_ml_Law_126 : (Cond.methodLink "CoverRowsLaw" (126 : Nat) ({ cls := "CoverRowsModel", name := "diagram", desc := "(I)I" } : MethodName) : Cond) ∈ lwg := lw_i5 (i := 46) rfl rfl
theorem mw_im_Ref_diagram : (Cond.instanceMethod ({ cls := "CoverRowsModel", name := "diagram", desc := "(I)I" } : MethodName) : Cond) ∈ lwg := lw_i5 (i := 47) rfl rfl
theorem mw_se_Ref_diagram : (Cond.selects "CoverRowsModel" ({ cls := "CoverRowsModel", name := "diagram", desc := "(I)I" } : MethodName) ({ cls := "CoverRowsModel", name := "diagram", desc := "(I)I" } : MethodName) : Cond) ∈ lwg := lw_i5 (i := 48) rfl rfl
theorem mw_code_Ref_diagram : (Cond.code ({ cls := "CoverRowsModel", name := "diagram", desc := "(I)I" } : MethodName) prog_10_method_36_code (2 : Nat) (Option.some FieldType.int) : Cond) ∈ lwg := lw_i5 (i := 49) rfl rfl
theorem mw_ml_Ref_133 : (Cond.methodLink "CoverRowsModel" (133 : Nat) ({ cls := "CoverRowsModel", name := "orders", desc := "()I" } : MethodName) : Cond) ∈ lwg := lw_i5 (i := 50) rfl rfl
theorem mw_im_Ref_orders : (Cond.instanceMethod ({ cls := "CoverRowsModel", name := "orders", desc := "()I" } : MethodName) : Cond) ∈ lwg := lw_i5 (i := 52) rfl rfl
theorem mw_code_Ref_orders : (Cond.code ({ cls := "CoverRowsModel", name := "orders", desc := "()I" } : MethodName) prog_10_method_31_code (1 : Nat) (Option.some FieldType.int) : Cond) ∈ lwg := lw_i5 (i := 53) rfl rfl
theorem mw_ml_Ref_147 : (Cond.methodLink "CoverRowsModel" (147 : Nat) ({ cls := "CoverRowsModel", name := "nodes", desc := "(I)I" } : MethodName) : Cond) ∈ lwg := lw_i5 (i := 54) rfl rfl
theorem mw_im_Ref_nodes : (Cond.instanceMethod ({ cls := "CoverRowsModel", name := "nodes", desc := "(I)I" } : MethodName) : Cond) ∈ lwg := lw_i5 (i := 56) rfl rfl
theorem mw_code_Ref_nodes : (Cond.code ({ cls := "CoverRowsModel", name := "nodes", desc := "(I)I" } : MethodName) prog_10_method_35_code (11 : Nat) (Option.some FieldType.int) : Cond) ∈ lwg := lw_i5 (i := 57) rfl rfl
theorem mw_ml_Ref_137 : (Cond.methodLink "CoverRowsModel" (137 : Nat) ({ cls := "CoverRowsModel", name := "inputAt", desc := "(II)I" } : MethodName) : Cond) ∈ lwg := lw_i5 (i := 58) rfl rfl
theorem mw_im_Ref_inputAt : (Cond.instanceMethod ({ cls := "CoverRowsModel", name := "inputAt", desc := "(II)I" } : MethodName) : Cond) ∈ lwg := lw_i5 (i := 60) rfl rfl
theorem mw_code_Ref_inputAt : (Cond.code ({ cls := "CoverRowsModel", name := "inputAt", desc := "(II)I" } : MethodName) prog_10_method_32_code (9 : Nat) (Option.some FieldType.int) : Cond) ∈ lwg := lw_i5 (i := 61) rfl rfl
theorem mw_ml_Ref_140 : (Cond.methodLink "CoverRowsModel" (140 : Nat) ({ cls := "CoverRowsModel", name := "part", desc := "(IIII)I" } : MethodName) : Cond) ∈ lwg := lw_i5 (i := 62) rfl rfl
theorem mw_im_Ref_part : (Cond.instanceMethod ({ cls := "CoverRowsModel", name := "part", desc := "(IIII)I" } : MethodName) : Cond) ∈ lwg := lw_i5 (i := 64) rfl rfl
theorem mw_code_Ref_part : (Cond.code ({ cls := "CoverRowsModel", name := "part", desc := "(IIII)I" } : MethodName) prog_10_method_33_code (10 : Nat) (Option.some FieldType.int) : Cond) ∈ lwg := lw_i5 (i := 65) rfl rfl
theorem mw_ml_Ref_144 : (Cond.methodLink "CoverRowsModel" (144 : Nat) ({ cls := "CoverRowsModel", name := "asks", desc := "(II)Z" } : MethodName) : Cond) ∈ lwg := lw_i5 (i := 66) rfl rfl
theorem mw_im_Ref_asks : (Cond.instanceMethod ({ cls := "CoverRowsModel", name := "asks", desc := "(II)Z" } : MethodName) : Cond) ∈ lwg := lw_i5 (i := 68) rfl rfl
theorem mw_code_Ref_asks : (Cond.code ({ cls := "CoverRowsModel", name := "asks", desc := "(II)Z" } : MethodName) prog_10_method_34_code (5 : Nat) (Option.some FieldType.boolean) : Cond) ∈ lwg := lw_i5 (i := 69) rfl rfl
theorem mw_ml_Law_130 : (Cond.methodLink "CoverRowsLaw" (130 : Nat) ({ cls := "CoverRowsModel", name := "order", desc := "()I" } : MethodName) : Cond) ∈ lwg := lw_i5 (i := 70) rfl rfl
theorem mw_im_Ref_order : (Cond.instanceMethod ({ cls := "CoverRowsModel", name := "order", desc := "()I" } : MethodName) : Cond) ∈ lwg := lw_i5 (i := 71) rfl rfl
theorem mw_se_Ref_order : (Cond.selects "CoverRowsModel" ({ cls := "CoverRowsModel", name := "order", desc := "()I" } : MethodName) ({ cls := "CoverRowsModel", name := "order", desc := "()I" } : MethodName) : Cond) ∈ lwg := lw_i5 (i := 72) rfl rfl
theorem mw_code_Ref_order : (Cond.code ({ cls := "CoverRowsModel", name := "order", desc := "()I" } : MethodName) prog_10_method_37_code (5 : Nat) (Option.some FieldType.int) : Cond) ∈ lwg := lw_i5 (i := 73) rfl rfl
theorem mw_ml_Law_141 : (Cond.methodLink "CoverRowsLaw" (141 : Nat) ({ cls := "CoverRowsModel", name := "clear", desc := "()V" } : MethodName) : Cond) ∈ lwg := lw_i5 (i := 74) rfl rfl
theorem mw_im_Ref_clear : (Cond.instanceMethod ({ cls := "CoverRowsModel", name := "clear", desc := "()V" } : MethodName) : Cond) ∈ lwg := lw_i5 (i := 75) rfl rfl
theorem mw_se_Ref_clear : (Cond.selects "CoverRowsModel" ({ cls := "CoverRowsModel", name := "clear", desc := "()V" } : MethodName) ({ cls := "CoverRowsModel", name := "clear", desc := "()V" } : MethodName) : Cond) ∈ lwg := lw_i5 (i := 76) rfl rfl
theorem mw_code_Ref_clear : (Cond.code ({ cls := "CoverRowsModel", name := "clear", desc := "()V" } : MethodName) prog_10_method_38_code (1 : Nat) (Option.none : Option FieldType) : Cond) ∈ lwg := lw_i5 (i := 77) rfl rfl
theorem mw_co_Law_95 : (Cond.constantLong "CoverRowsLaw" (95 : Nat) (4294967295 : Int64) : Cond) ∈ lwg := lw_i5 (i := 78) rfl rfl
