set_option maxRecDepth 100000
theorem lw_i1 {i : Nat} {w : Cond} (h : tables_1_1[i]? = some w) (hg : goodWord w = true) : w ∈ lwg := List.mem_filter.mpr ⟨List.mem_append_right _ (List.mem_append_left _ (List.mem_of_getElem? h)), hg⟩
theorem lw_i2 {i : Nat} {w : Cond} (h : tables_1_2[i]? = some w) (hg : goodWord w = true) : w ∈ lwg := List.mem_filter.mpr ⟨List.mem_append_right _ (List.mem_append_right _ (List.mem_append_left _ (List.mem_of_getElem? h))), hg⟩
theorem lw_i3 {i : Nat} {w : Cond} (h : tables_1_3[i]? = some w) (hg : goodWord w = true) : w ∈ lwg := List.mem_filter.mpr ⟨List.mem_append_right _ (List.mem_append_right _ (List.mem_append_right _ (List.mem_append_left _ (List.mem_of_getElem? h)))), hg⟩
theorem lw_i4 {i : Nat} {w : Cond} (h : tables_1_4[i]? = some w) (hg : goodWord w = true) : w ∈ lwg := List.mem_filter.mpr ⟨List.mem_append_right _ (List.mem_append_right _ (List.mem_append_right _ (List.mem_append_right _ (List.mem_append_left _ (List.mem_of_getElem? h))))), hg⟩
theorem lw_i5 {i : Nat} {w : Cond} (h : tables_1_5[i]? = some w) (hg : goodWord w = true) : w ∈ lwg := List.mem_filter.mpr ⟨List.mem_append_right _ (List.mem_append_right _ (List.mem_append_right _ (List.mem_append_right _ (List.mem_append_right _ (List.mem_of_getElem? h))))), hg⟩
theorem mw_ini_Law : (Cond.initialized "CoverRowsLaw" : Cond) ∈ lwg := lw_i1 (i := 0) rfl rfl
theorem mw_ini_Main : (Cond.initialized "CoverRows" : Cond) ∈ lwg := lw_i1 (i := 1) rfl rfl
theorem mw_ini_JMath : (Cond.initialized "java/lang/Math" : Cond) ∈ lwg := lw_i1 (i := 2) rfl rfl
theorem mw_ini_Products : (Cond.initialized "CoverRows$Products" : Cond) ∈ lwg := lw_i1 (i := 3) rfl rfl
theorem mw_ini_Cubes : (Cond.initialized "CoverRows$Cubes" : Cond) ∈ lwg := lw_i1 (i := 4) rfl rfl
theorem mw_ini_Terms : (Cond.initialized "CoverRows$Terms" : Cond) ∈ lwg := lw_i1 (i := 5) rfl rfl
theorem mw_ini_PrimeFinder : (Cond.initialized "CoverRows$PrimeFinder" : Cond) ∈ lwg := lw_i1 (i := 6) rfl rfl
theorem mw_ini_CoverFinder : (Cond.initialized "CoverRows$CoverFinder" : Cond) ∈ lwg := lw_i1 (i := 7) rfl rfl
theorem mw_ini_Division : (Cond.initialized "CoverRows$Division" : Cond) ∈ lwg := lw_i1 (i := 8) rfl rfl
theorem mw_ini_Diagrams : (Cond.initialized "CoverRows$Diagrams" : Cond) ∈ lwg := lw_i1 (i := 9) rfl rfl
theorem mw_ini_Ref : (Cond.initialized "CoverRowsModel" : Cond) ∈ lwg := lw_i1 (i := 10) rfl rfl
theorem mw_ini_JThrowable : (Cond.initialized "java/lang/Throwable" : Cond) ∈ lwg := lw_i1 (i := 11) rfl rfl
theorem mw_ini_JException : (Cond.initialized "java/lang/Exception" : Cond) ∈ lwg := lw_i1 (i := 12) rfl rfl
theorem mw_ini_JRuntimeException : (Cond.initialized "java/lang/RuntimeException" : Cond) ∈ lwg := lw_i1 (i := 13) rfl rfl
theorem mw_ini_JUnsupportedOperationException : (Cond.initialized "java/lang/UnsupportedOperationException" : Cond) ∈ lwg := lw_i1 (i := 14) rfl rfl
theorem mw_ini_JIndexOutOfBoundsException : (Cond.initialized "java/lang/IndexOutOfBoundsException" : Cond) ∈ lwg := lw_i1 (i := 15) rfl rfl
theorem mw_ini_JIllegalArgumentException : (Cond.initialized "java/lang/IllegalArgumentException" : Cond) ∈ lwg := lw_i1 (i := 16) rfl rfl
theorem mw_ini_JInteger : (Cond.initialized "java/lang/Integer" : Cond) ∈ lwg := lw_i1 (i := 17) rfl rfl
theorem mw_ini_JLong : (Cond.initialized "java/lang/Long" : Cond) ∈ lwg := lw_i1 (i := 18) rfl rfl
theorem mw_ini_JIllegalStateException : (Cond.initialized "java/lang/IllegalStateException" : Cond) ∈ lwg := lw_i1 (i := 19) rfl rfl
theorem mw_cl_Law_8 : (Cond.classLink "CoverRowsLaw" (8 : Nat) "CoverRows" : Cond) ∈ lwg := lw_i1 (i := 20) rfl rfl
theorem mw_ins_Main : (Cond.instantiable "CoverRows" (11 : Nat) : Cond) ∈ lwg := lw_i1 (i := 21) rfl rfl
theorem mw_ml_Law_70 : (Cond.methodLink "CoverRowsLaw" (70 : Nat) ({ cls := "CoverRows", name := "<init>", desc := "(II)V" } : MethodName) : Cond) ∈ lwg := lw_i1 (i := 22) rfl rfl
theorem mw_im_Main_init : (Cond.instanceMethod ({ cls := "CoverRows", name := "<init>", desc := "(II)V" } : MethodName) : Cond) ∈ lwg := lw_i1 (i := 23) rfl rfl
theorem mw_code_Main_init : (Cond.code ({ cls := "CoverRows", name := "<init>", desc := "(II)V" } : MethodName) prog_1_method_1_code (4 : Nat) (Option.none : Option FieldType) : Cond) ∈ lwg := lw_i1 (i := 24) rfl rfl
theorem mw_ml_Main_1 : (Cond.methodLink "CoverRows" (1 : Nat) ({ cls := "java/lang/Object", name := "<init>", desc := "()V" } : MethodName) : Cond) ∈ lwg := lw_i1 (i := 25) rfl rfl
theorem mw_im_JObject_init_V : (Cond.instanceMethod ({ cls := "java/lang/Object", name := "<init>", desc := "()V" } : MethodName) : Cond) ∈ lwg := lw_i1 (i := 26) rfl rfl
theorem mw_code_JObject_init_V : (Cond.code ({ cls := "java/lang/Object", name := "<init>", desc := "()V" } : MethodName) object_method_1_code (1 : Nat) (Option.none : Option FieldType) : Cond) ∈ lwg := lw_i1 (i := 27) rfl rfl
theorem mw_ml_Main_9 : (Cond.methodLink "CoverRows" (9 : Nat) ({ cls := "java/lang/Math", name := "min", desc := "(II)I" } : MethodName) : Cond) ∈ lwg := lw_i1 (i := 28) rfl rfl
theorem mw_st_JMath_min_III : (Cond.static ({ cls := "java/lang/Math", name := "min", desc := "(II)I" } : MethodName) : Cond) ∈ lwg := lw_i1 (i := 29) rfl rfl
theorem mw_code_JMath_min_III : (Cond.code ({ cls := "java/lang/Math", name := "min", desc := "(II)I" } : MethodName) prog_17_method_69_code (2 : Nat) (Option.some FieldType.int) : Cond) ∈ lwg := lw_i1 (i := 30) rfl rfl
theorem mw_ml_Main_15 : (Cond.methodLink "CoverRows" (15 : Nat) ({ cls := "java/lang/Math", name := "max", desc := "(II)I" } : MethodName) : Cond) ∈ lwg := lw_i1 (i := 31) rfl rfl
theorem mw_st_JMath_max_III : (Cond.static ({ cls := "java/lang/Math", name := "max", desc := "(II)I" } : MethodName) : Cond) ∈ lwg := lw_i1 (i := 32) rfl rfl
theorem mw_code_JMath_max_III : (Cond.code ({ cls := "java/lang/Math", name := "max", desc := "(II)I" } : MethodName) prog_17_method_65_code (2 : Nat) (Option.some FieldType.int) : Cond) ∈ lwg := lw_i1 (i := 33) rfl rfl
theorem mw_cl_Main_25 : (Cond.classLink "CoverRows" (25 : Nat) "CoverRows$Products" : Cond) ∈ lwg := lw_i1 (i := 34) rfl rfl
theorem mw_ins_Products : (Cond.instantiable "CoverRows$Products" (5 : Nat) : Cond) ∈ lwg := lw_i1 (i := 35) rfl rfl
theorem mw_ml_Main_27 : (Cond.methodLink "CoverRows" (27 : Nat) ({ cls := "CoverRows$Products", name := "<init>", desc := "(I)V" } : MethodName) : Cond) ∈ lwg := lw_i1 (i := 36) rfl rfl
theorem mw_im_Products_init : (Cond.instanceMethod ({ cls := "CoverRows$Products", name := "<init>", desc := "(I)V" } : MethodName) : Cond) ∈ lwg := lw_i1 (i := 37) rfl rfl
theorem mw_code_Products_init : (Cond.code ({ cls := "CoverRows$Products", name := "<init>", desc := "(I)V" } : MethodName) prog_7_method_1_code (4 : Nat) (Option.none : Option FieldType) : Cond) ∈ lwg := lw_i1 (i := 38) rfl rfl
theorem mw_ml_Products_3 : (Cond.methodLink "CoverRows$Products" (3 : Nat) ({ cls := "java/lang/Object", name := "<init>", desc := "()V" } : MethodName) : Cond) ∈ lwg := lw_i1 (i := 39) rfl rfl
theorem mw_ml_Products_25 : (Cond.methodLink "CoverRows$Products" (25 : Nat) ({ cls := "java/lang/Math", name := "min", desc := "(II)I" } : MethodName) : Cond) ∈ lwg := lw_i1 (i := 40) rfl rfl
theorem mw_ml_Products_34 : (Cond.methodLink "CoverRows$Products" (34 : Nat) ({ cls := "CoverRows$Products", name := "fillDigits", desc := "(I)V" } : MethodName) : Cond) ∈ lwg := lw_i1 (i := 41) rfl rfl
theorem mw_im_Products_fillDigits : (Cond.instanceMethod ({ cls := "CoverRows$Products", name := "fillDigits", desc := "(I)V" } : MethodName) : Cond) ∈ lwg := lw_i1 (i := 43) rfl rfl
theorem mw_code_Products_fillDigits : (Cond.code ({ cls := "CoverRows$Products", name := "fillDigits", desc := "(I)V" } : MethodName) prog_7_method_2_code (5 : Nat) (Option.none : Option FieldType) : Cond) ∈ lwg := lw_i1 (i := 44) rfl rfl
theorem mw_ml_Products_38 : (Cond.methodLink "CoverRows$Products" (38 : Nat) ({ cls := "CoverRows$Products", name := "fillHad", desc := "(I)V" } : MethodName) : Cond) ∈ lwg := lw_i1 (i := 45) rfl rfl
theorem mw_im_Products_fillHad : (Cond.instanceMethod ({ cls := "CoverRows$Products", name := "fillHad", desc := "(I)V" } : MethodName) : Cond) ∈ lwg := lw_i1 (i := 47) rfl rfl
theorem mw_code_Products_fillHad : (Cond.code ({ cls := "CoverRows$Products", name := "fillHad", desc := "(I)V" } : MethodName) prog_7_method_3_code (3 : Nat) (Option.none : Option FieldType) : Cond) ∈ lwg := lw_i1 (i := 48) rfl rfl
theorem mw_fl_Products_21 : (Cond.fieldLink "CoverRows$Products" (21 : Nat) "CoverRows$Products" "inputs" "I" : Cond) ∈ lwg := lw_i1 (i := 49) rfl rfl
theorem mw_fl_Products_31 : (Cond.fieldLink "CoverRows$Products" (31 : Nat) "CoverRows$Products" "size" "I" : Cond) ∈ lwg := lw_i1 (i := 50) rfl rfl
theorem mw_fl_Products_9 : (Cond.fieldLink "CoverRows$Products" (9 : Nat) "CoverRows$Products" "care" "[I" : Cond) ∈ lwg := lw_i1 (i := 51) rfl rfl
theorem mw_fl_Products_15 : (Cond.fieldLink "CoverRows$Products" (15 : Nat) "CoverRows$Products" "bits" "[I" : Cond) ∈ lwg := lw_i1 (i := 52) rfl rfl
theorem mw_fl_Products_18 : (Cond.fieldLink "CoverRows$Products" (18 : Nat) "CoverRows$Products" "had" "[I" : Cond) ∈ lwg := lw_i1 (i := 53) rfl rfl
theorem mw_arr_int : (Cond.arrayClass FieldType.int : Cond) ∈ lwg := lw_i1 (i := 65) rfl rfl
theorem mw_cl_Main_30 : (Cond.classLink "CoverRows" (30 : Nat) "CoverRows$Cubes" : Cond) ∈ lwg := lw_i1 (i := 66) rfl rfl
theorem mw_ins_Cubes : (Cond.instantiable "CoverRows$Cubes" (5 : Nat) : Cond) ∈ lwg := lw_i1 (i := 67) rfl rfl
theorem mw_ml_Main_32 : (Cond.methodLink "CoverRows" (32 : Nat) ({ cls := "CoverRows$Cubes", name := "<init>", desc := "(LCoverRows$Products;I)V" } : MethodName) : Cond) ∈ lwg := lw_i1 (i := 68) rfl rfl
theorem mw_im_Cubes_init : (Cond.instanceMethod ({ cls := "CoverRows$Cubes", name := "<init>", desc := "(LCoverRows$Products;I)V" } : MethodName) : Cond) ∈ lwg := lw_i1 (i := 69) rfl rfl
theorem mw_code_Cubes_init : (Cond.code ({ cls := "CoverRows$Cubes", name := "<init>", desc := "(LCoverRows$Products;I)V" } : MethodName) prog_3_method_1_code (3 : Nat) (Option.none : Option FieldType) : Cond) ∈ lwg := lw_i1 (i := 70) rfl rfl
theorem mw_ml_Cubes_3 : (Cond.methodLink "CoverRows$Cubes" (3 : Nat) ({ cls := "java/lang/Object", name := "<init>", desc := "()V" } : MethodName) : Cond) ∈ lwg := lw_i1 (i := 71) rfl rfl
theorem mw_fl_Cubes_18 : (Cond.fieldLink "CoverRows$Cubes" (18 : Nat) "CoverRows$Cubes" "products" "LCoverRows$Products;" : Cond) ∈ lwg := lw_i1 (i := 72) rfl rfl
theorem mw_fl_Cubes_22 : (Cond.fieldLink "CoverRows$Cubes" (22 : Nat) "CoverRows$Cubes" "outputs" "I" : Cond) ∈ lwg := lw_i1 (i := 73) rfl rfl
theorem mw_fl_Cubes_9 : (Cond.fieldLink "CoverRows$Cubes" (9 : Nat) "CoverRows$Cubes" "product" "[I" : Cond) ∈ lwg := lw_i1 (i := 74) rfl rfl
theorem mw_fl_Cubes_15 : (Cond.fieldLink "CoverRows$Cubes" (15 : Nat) "CoverRows$Cubes" "kind" "[I" : Cond) ∈ lwg := lw_i1 (i := 75) rfl rfl
theorem mw_fl_Cubes_26 : (Cond.fieldLink "CoverRows$Cubes" (26 : Nat) "CoverRows$Cubes" "size" "I" : Cond) ∈ lwg := lw_i1 (i := 76) rfl rfl
theorem mw_cl_Main_39 : (Cond.classLink "CoverRows" (39 : Nat) "CoverRows$Terms" : Cond) ∈ lwg := lw_i1 (i := 88) rfl rfl
theorem mw_ins_Terms : (Cond.instantiable "CoverRows$Terms" (4 : Nat) : Cond) ∈ lwg := lw_i1 (i := 89) rfl rfl
theorem mw_ml_Main_41 : (Cond.methodLink "CoverRows" (41 : Nat) ({ cls := "CoverRows$Terms", name := "<init>", desc := "(LCoverRows$Products;)V" } : MethodName) : Cond) ∈ lwg := lw_i1 (i := 90) rfl rfl
theorem mw_im_Terms_init : (Cond.instanceMethod ({ cls := "CoverRows$Terms", name := "<init>", desc := "(LCoverRows$Products;)V" } : MethodName) : Cond) ∈ lwg := lw_i1 (i := 91) rfl rfl
theorem mw_code_Terms_init : (Cond.code ({ cls := "CoverRows$Terms", name := "<init>", desc := "(LCoverRows$Products;)V" } : MethodName) prog_8_method_1_code (2 : Nat) (Option.none : Option FieldType) : Cond) ∈ lwg := lw_i1 (i := 92) rfl rfl
theorem mw_ml_Terms_3 : (Cond.methodLink "CoverRows$Terms" (3 : Nat) ({ cls := "java/lang/Object", name := "<init>", desc := "()V" } : MethodName) : Cond) ∈ lwg := lw_i1 (i := 93) rfl rfl
theorem mw_fl_Terms_18 : (Cond.fieldLink "CoverRows$Terms" (18 : Nat) "CoverRows$Terms" "products" "LCoverRows$Products;" : Cond) ∈ lwg := lw_i1 (i := 94) rfl rfl
theorem mw_fl_Terms_9 : (Cond.fieldLink "CoverRows$Terms" (9 : Nat) "CoverRows$Terms" "product" "[I" : Cond) ∈ lwg := lw_i1 (i := 95) rfl rfl
theorem mw_fl_Terms_15 : (Cond.fieldLink "CoverRows$Terms" (15 : Nat) "CoverRows$Terms" "outs" "[I" : Cond) ∈ lwg := lw_i1 (i := 96) rfl rfl
theorem mw_fl_Terms_22 : (Cond.fieldLink "CoverRows$Terms" (22 : Nat) "CoverRows$Terms" "size" "I" : Cond) ∈ lwg := lw_i1 (i := 97) rfl rfl
theorem mw_cl_Main_48 : (Cond.classLink "CoverRows" (48 : Nat) "CoverRows$PrimeFinder" : Cond) ∈ lwg := lw_i1 (i := 107) rfl rfl
theorem mw_ins_PrimeFinder : (Cond.instantiable "CoverRows$PrimeFinder" (3 : Nat) : Cond) ∈ lwg := lw_i1 (i := 108) rfl rfl
theorem mw_ml_Main_50 : (Cond.methodLink "CoverRows" (50 : Nat) ({ cls := "CoverRows$PrimeFinder", name := "<init>", desc := "(LCoverRows$Products;I)V" } : MethodName) : Cond) ∈ lwg := lw_i1 (i := 109) rfl rfl
theorem mw_im_PrimeFinder_init : (Cond.instanceMethod ({ cls := "CoverRows$PrimeFinder", name := "<init>", desc := "(LCoverRows$Products;I)V" } : MethodName) : Cond) ∈ lwg := lw_i1 (i := 110) rfl rfl
theorem mw_code_PrimeFinder_init : (Cond.code ({ cls := "CoverRows$PrimeFinder", name := "<init>", desc := "(LCoverRows$Products;I)V" } : MethodName) prog_6_method_1_code (3 : Nat) (Option.none : Option FieldType) : Cond) ∈ lwg := lw_i1 (i := 111) rfl rfl
theorem mw_ml_PrimeFinder_3 : (Cond.methodLink "CoverRows$PrimeFinder" (3 : Nat) ({ cls := "java/lang/Object", name := "<init>", desc := "()V" } : MethodName) : Cond) ∈ lwg := lw_i1 (i := 112) rfl rfl
theorem mw_fl_PrimeFinder_15 : (Cond.fieldLink "CoverRows$PrimeFinder" (15 : Nat) "CoverRows$PrimeFinder" "products" "LCoverRows$Products;" : Cond) ∈ lwg := lw_i1 (i := 113) rfl rfl
theorem mw_fl_PrimeFinder_19 : (Cond.fieldLink "CoverRows$PrimeFinder" (19 : Nat) "CoverRows$PrimeFinder" "outputs" "I" : Cond) ∈ lwg := lw_i1 (i := 114) rfl rfl
theorem mw_fl_PrimeFinder_9 : (Cond.fieldLink "CoverRows$PrimeFinder" (9 : Nat) "CoverRows$PrimeFinder" "outs" "[I" : Cond) ∈ lwg := lw_i1 (i := 115) rfl rfl
theorem mw_cl_Main_55 : (Cond.classLink "CoverRows" (55 : Nat) "CoverRows$CoverFinder" : Cond) ∈ lwg := lw_i1 (i := 123) rfl rfl
theorem mw_ins_CoverFinder : (Cond.instantiable "CoverRows$CoverFinder" (10 : Nat) : Cond) ∈ lwg := lw_i1 (i := 124) rfl rfl
theorem mw_ml_Main_57 : (Cond.methodLink "CoverRows" (57 : Nat) ({ cls := "CoverRows$CoverFinder", name := "<init>", desc := "(I)V" } : MethodName) : Cond) ∈ lwg := lw_i1 (i := 125) rfl rfl
theorem mw_im_CoverFinder_init : (Cond.instanceMethod ({ cls := "CoverRows$CoverFinder", name := "<init>", desc := "(I)V" } : MethodName) : Cond) ∈ lwg := lw_i1 (i := 126) rfl rfl
theorem mw_code_CoverFinder_init : (Cond.code ({ cls := "CoverRows$CoverFinder", name := "<init>", desc := "(I)V" } : MethodName) prog_2_method_1_code (2 : Nat) (Option.none : Option FieldType) : Cond) ∈ lwg := lw_i1 (i := 127) rfl rfl
theorem mw_ml_CoverFinder_3 : (Cond.methodLink "CoverRows$CoverFinder" (3 : Nat) ({ cls := "java/lang/Object", name := "<init>", desc := "()V" } : MethodName) : Cond) ∈ lwg := lw_i1 (i := 128) rfl rfl
theorem mw_fl_CoverFinder_28 : (Cond.fieldLink "CoverRows$CoverFinder" (28 : Nat) "CoverRows$CoverFinder" "outputs" "I" : Cond) ∈ lwg := lw_i1 (i := 129) rfl rfl
theorem mw_fl_CoverFinder_9 : (Cond.fieldLink "CoverRows$CoverFinder" (9 : Nat) "CoverRows$CoverFinder" "points" "[I" : Cond) ∈ lwg := lw_i1 (i := 130) rfl rfl
theorem mw_fl_CoverFinder_15 : (Cond.fieldLink "CoverRows$CoverFinder" (15 : Nat) "CoverRows$CoverFinder" "costs" "[I" : Cond) ∈ lwg := lw_i1 (i := 131) rfl rfl
theorem mw_fl_CoverFinder_18 : (Cond.fieldLink "CoverRows$CoverFinder" (18 : Nat) "CoverRows$CoverFinder" "weights" "[J" : Cond) ∈ lwg := lw_i1 (i := 132) rfl rfl
theorem mw_fl_CoverFinder_22 : (Cond.fieldLink "CoverRows$CoverFinder" (22 : Nat) "CoverRows$CoverFinder" "havers" "[J" : Cond) ∈ lwg := lw_i1 (i := 133) rfl rfl
theorem mw_fl_CoverFinder_25 : (Cond.fieldLink "CoverRows$CoverFinder" (25 : Nat) "CoverRows$CoverFinder" "picks" "[I" : Cond) ∈ lwg := lw_i1 (i := 134) rfl rfl
theorem mw_fl_CoverFinder_51 : (Cond.fieldLink "CoverRows$CoverFinder" (51 : Nat) "CoverRows$CoverFinder" "size" "I" : Cond) ∈ lwg := lw_i1 (i := 135) rfl rfl
theorem mw_fl_CoverFinder_58 : (Cond.fieldLink "CoverRows$CoverFinder" (58 : Nat) "CoverRows$CoverFinder" "allPoints" "I" : Cond) ∈ lwg := lw_i1 (i := 136) rfl rfl
theorem mw_fl_CoverFinder_32 : (Cond.fieldLink "CoverRows$CoverFinder" (32 : Nat) "CoverRows$CoverFinder" "found" "J" : Cond) ∈ lwg := lw_i1 (i := 137) rfl rfl
theorem mw_fl_CoverFinder_48 : (Cond.fieldLink "CoverRows$CoverFinder" (48 : Nat) "CoverRows$CoverFinder" "foundWeight" "J" : Cond) ∈ lwg := lw_i1 (i := 138) rfl rfl
theorem mw_arr_long : (Cond.arrayClass FieldType.long : Cond) ∈ lwg := lw_i1 (i := 160) rfl rfl
theorem mw_cl_Main_65 : (Cond.classLink "CoverRows" (65 : Nat) "CoverRows$Division" : Cond) ∈ lwg := lw_i1 (i := 161) rfl rfl
theorem mw_ins_Division : (Cond.instantiable "CoverRows$Division" (9 : Nat) : Cond) ∈ lwg := lw_i1 (i := 162) rfl rfl
theorem mw_ml_Main_67 : (Cond.methodLink "CoverRows" (67 : Nat) ({ cls := "CoverRows$Division", name := "<init>", desc := "(LCoverRows$Products;)V" } : MethodName) : Cond) ∈ lwg := lw_i1 (i := 163) rfl rfl
theorem mw_im_Division_init : (Cond.instanceMethod ({ cls := "CoverRows$Division", name := "<init>", desc := "(LCoverRows$Products;)V" } : MethodName) : Cond) ∈ lwg := lw_i1 (i := 164) rfl rfl
theorem mw_code_Division_init : (Cond.code ({ cls := "CoverRows$Division", name := "<init>", desc := "(LCoverRows$Products;)V" } : MethodName) prog_5_method_1_code (2 : Nat) (Option.none : Option FieldType) : Cond) ∈ lwg := lw_i1 (i := 165) rfl rfl
theorem mw_ml_Division_3 : (Cond.methodLink "CoverRows$Division" (3 : Nat) ({ cls := "java/lang/Object", name := "<init>", desc := "()V" } : MethodName) : Cond) ∈ lwg := lw_i1 (i := 166) rfl rfl
theorem mw_fl_Division_22 : (Cond.fieldLink "CoverRows$Division" (22 : Nat) "CoverRows$Division" "products" "LCoverRows$Products;" : Cond) ∈ lwg := lw_i1 (i := 167) rfl rfl
theorem mw_fl_Division_9 : (Cond.fieldLink "CoverRows$Division" (9 : Nat) "CoverRows$Division" "kernelLow" "[J" : Cond) ∈ lwg := lw_i1 (i := 168) rfl rfl
theorem mw_fl_Division_15 : (Cond.fieldLink "CoverRows$Division" (15 : Nat) "CoverRows$Division" "kernelHigh" "[J" : Cond) ∈ lwg := lw_i1 (i := 169) rfl rfl
theorem mw_fl_Division_18 : (Cond.fieldLink "CoverRows$Division" (18 : Nat) "CoverRows$Division" "row" "[I" : Cond) ∈ lwg := lw_i1 (i := 170) rfl rfl
theorem mw_fl_Division_26 : (Cond.fieldLink "CoverRows$Division" (26 : Nat) "CoverRows$Division" "size" "I" : Cond) ∈ lwg := lw_i1 (i := 171) rfl rfl
theorem mw_fl_Division_47 : (Cond.fieldLink "CoverRows$Division" (47 : Nat) "CoverRows$Division" "low" "J" : Cond) ∈ lwg := lw_i1 (i := 172) rfl rfl
theorem mw_fl_Division_51 : (Cond.fieldLink "CoverRows$Division" (51 : Nat) "CoverRows$Division" "high" "J" : Cond) ∈ lwg := lw_i1 (i := 173) rfl rfl
theorem mw_fl_Division_75 : (Cond.fieldLink "CoverRows$Division" (75 : Nat) "CoverRows$Division" "sharedOnes" "I" : Cond) ∈ lwg := lw_i1 (i := 174) rfl rfl
theorem mw_fl_Division_78 : (Cond.fieldLink "CoverRows$Division" (78 : Nat) "CoverRows$Division" "sharedZeros" "I" : Cond) ∈ lwg := lw_i1 (i := 175) rfl rfl
theorem mw_cl_Main_72 : (Cond.classLink "CoverRows" (72 : Nat) "CoverRows$Diagrams" : Cond) ∈ lwg := lw_i1 (i := 195) rfl rfl
theorem mw_ins_Diagrams : (Cond.instantiable "CoverRows$Diagrams" (5 : Nat) : Cond) ∈ lwg := lw_i1 (i := 196) rfl rfl
theorem mw_ml_Main_74 : (Cond.methodLink "CoverRows" (74 : Nat) ({ cls := "CoverRows$Diagrams", name := "<init>", desc := "(II)V" } : MethodName) : Cond) ∈ lwg := lw_i1 (i := 197) rfl rfl
theorem mw_im_Diagrams_init : (Cond.instanceMethod ({ cls := "CoverRows$Diagrams", name := "<init>", desc := "(II)V" } : MethodName) : Cond) ∈ lwg := lw_i1 (i := 198) rfl rfl
theorem mw_code_Diagrams_init : (Cond.code ({ cls := "CoverRows$Diagrams", name := "<init>", desc := "(II)V" } : MethodName) prog_4_method_1_code (3 : Nat) (Option.none : Option FieldType) : Cond) ∈ lwg := lw_i1 (i := 199) rfl rfl
theorem mw_ml_Diagrams_3 : (Cond.methodLink "CoverRows$Diagrams" (3 : Nat) ({ cls := "java/lang/Object", name := "<init>", desc := "()V" } : MethodName) : Cond) ∈ lwg := lw_i1 (i := 200) rfl rfl
theorem mw_fl_Diagrams_21 : (Cond.fieldLink "CoverRows$Diagrams" (21 : Nat) "CoverRows$Diagrams" "inputs" "I" : Cond) ∈ lwg := lw_i1 (i := 201) rfl rfl
theorem mw_fl_Diagrams_25 : (Cond.fieldLink "CoverRows$Diagrams" (25 : Nat) "CoverRows$Diagrams" "outputs" "I" : Cond) ∈ lwg := lw_i1 (i := 202) rfl rfl
theorem mw_fl_Diagrams_9 : (Cond.fieldLink "CoverRows$Diagrams" (9 : Nat) "CoverRows$Diagrams" "asked" "[I" : Cond) ∈ lwg := lw_i1 (i := 203) rfl rfl
theorem mw_fl_Diagrams_15 : (Cond.fieldLink "CoverRows$Diagrams" (15 : Nat) "CoverRows$Diagrams" "tables" "[I" : Cond) ∈ lwg := lw_i1 (i := 204) rfl rfl
theorem mw_fl_Diagrams_18 : (Cond.fieldLink "CoverRows$Diagrams" (18 : Nat) "CoverRows$Diagrams" "seen" "[I" : Cond) ∈ lwg := lw_i1 (i := 205) rfl rfl
theorem mw_fl_Main_18 : (Cond.fieldLink "CoverRows" (18 : Nat) "CoverRows" "inputs" "I" : Cond) ∈ lwg := lw_i1 (i := 217) rfl rfl
theorem mw_fl_Main_22 : (Cond.fieldLink "CoverRows" (22 : Nat) "CoverRows" "outputs" "I" : Cond) ∈ lwg := lw_i1 (i := 218) rfl rfl
theorem mw_fl_Main_35 : (Cond.fieldLink "CoverRows" (35 : Nat) "CoverRows" "cubes" "LCoverRows$Cubes;" : Cond) ∈ lwg := lw_i1 (i := 219) rfl rfl
theorem mw_fl_Main_44 : (Cond.fieldLink "CoverRows" (44 : Nat) "CoverRows" "primes" "LCoverRows$Terms;" : Cond) ∈ lwg := lw_i1 (i := 220) rfl rfl
theorem mw_fl_Main_51 : (Cond.fieldLink "CoverRows" (51 : Nat) "CoverRows" "primeFinder" "LCoverRows$PrimeFinder;" : Cond) ∈ lwg := lw_i1 (i := 221) rfl rfl
theorem mw_fl_Main_58 : (Cond.fieldLink "CoverRows" (58 : Nat) "CoverRows" "coverFinder" "LCoverRows$CoverFinder;" : Cond) ∈ lwg := lw_i1 (i := 222) rfl rfl
theorem mw_fl_Main_62 : (Cond.fieldLink "CoverRows" (62 : Nat) "CoverRows" "kept" "LCoverRows$Terms;" : Cond) ∈ lwg := lw_i1 (i := 223) rfl rfl
theorem mw_fl_Main_68 : (Cond.fieldLink "CoverRows" (68 : Nat) "CoverRows" "division" "LCoverRows$Division;" : Cond) ∈ lwg := lw_i1 (i := 224) rfl rfl
theorem mw_fl_Main_77 : (Cond.fieldLink "CoverRows" (77 : Nat) "CoverRows" "diagrams" "LCoverRows$Diagrams;" : Cond) ∈ lwg := lw_i1 (i := 225) rfl rfl
theorem mw_fl_Main_81 : (Cond.fieldLink "CoverRows" (81 : Nat) "CoverRows" "hasKept" "Z" : Cond) ∈ lwg := lw_i1 (i := 226) rfl rfl
theorem mw_fl_Main_85 : (Cond.fieldLink "CoverRows" (85 : Nat) "CoverRows" "primesAreOld" "Z" : Cond) ∈ lwg := lw_i1 (i := 227) rfl rfl
theorem mw_ml_Law_87 : (Cond.methodLink "CoverRowsLaw" (87 : Nat) ({ cls := "CoverRows", name := "primes", desc := "()I" } : MethodName) : Cond) ∈ lwg := lw_i2 (i := 11) rfl rfl
theorem mw_im_Main_primes : (Cond.instanceMethod ({ cls := "CoverRows", name := "primes", desc := "()I" } : MethodName) : Cond) ∈ lwg := lw_i2 (i := 12) rfl rfl
theorem mw_se_Main_primes : (Cond.selects "CoverRows" ({ cls := "CoverRows", name := "primes", desc := "()I" } : MethodName) ({ cls := "CoverRows", name := "primes", desc := "()I" } : MethodName) : Cond) ∈ lwg := lw_i2 (i := 13) rfl rfl
theorem mw_code_Main_primes : (Cond.code ({ cls := "CoverRows", name := "primes", desc := "()I" } : MethodName) prog_1_method_5_code (1 : Nat) (Option.some FieldType.int) : Cond) ∈ lwg := lw_i2 (i := 14) rfl rfl
theorem mw_ml_Main_128 : (Cond.methodLink "CoverRows" (128 : Nat) ({ cls := "CoverRows", name := "renewPrimes", desc := "()V" } : MethodName) : Cond) ∈ lwg := lw_i2 (i := 15) rfl rfl
theorem mw_im_Main_renewPrimes : (Cond.instanceMethod ({ cls := "CoverRows", name := "renewPrimes", desc := "()V" } : MethodName) : Cond) ∈ lwg := lw_i2 (i := 17) rfl rfl
theorem mw_code_Main_renewPrimes : (Cond.code ({ cls := "CoverRows", name := "renewPrimes", desc := "()V" } : MethodName) prog_1_method_22_code (1 : Nat) (Option.none : Option FieldType) : Cond) ∈ lwg := lw_i2 (i := 18) rfl rfl
theorem mw_ml_Main_222 : (Cond.methodLink "CoverRows" (222 : Nat) ({ cls := "CoverRows$PrimeFinder", name := "find", desc := "(LCoverRows$Cubes;LCoverRows$Terms;)V" } : MethodName) : Cond) ∈ lwg := lw_i2 (i := 19) rfl rfl
theorem mw_im_PrimeFinder_find : (Cond.instanceMethod ({ cls := "CoverRows$PrimeFinder", name := "find", desc := "(LCoverRows$Cubes;LCoverRows$Terms;)V" } : MethodName) : Cond) ∈ lwg := lw_i2 (i := 20) rfl rfl
theorem mw_se_PrimeFinder_find : (Cond.selects "CoverRows$PrimeFinder" ({ cls := "CoverRows$PrimeFinder", name := "find", desc := "(LCoverRows$Cubes;LCoverRows$Terms;)V" } : MethodName) ({ cls := "CoverRows$PrimeFinder", name := "find", desc := "(LCoverRows$Cubes;LCoverRows$Terms;)V" } : MethodName) : Cond) ∈ lwg := lw_i2 (i := 21) rfl rfl
theorem mw_code_PrimeFinder_find : (Cond.code ({ cls := "CoverRows$PrimeFinder", name := "find", desc := "(LCoverRows$Cubes;LCoverRows$Terms;)V" } : MethodName) prog_6_method_2_code (4 : Nat) (Option.none : Option FieldType) : Cond) ∈ lwg := lw_i2 (i := 22) rfl rfl
theorem mw_ml_PrimeFinder_23 : (Cond.methodLink "CoverRows$PrimeFinder" (23 : Nat) ({ cls := "CoverRows$PrimeFinder", name := "fillOuts", desc := "(LCoverRows$Cubes;)V" } : MethodName) : Cond) ∈ lwg := lw_i2 (i := 23) rfl rfl
theorem mw_im_PrimeFinder_fillOuts : (Cond.instanceMethod ({ cls := "CoverRows$PrimeFinder", name := "fillOuts", desc := "(LCoverRows$Cubes;)V" } : MethodName) : Cond) ∈ lwg := lw_i2 (i := 25) rfl rfl
theorem mw_code_PrimeFinder_fillOuts : (Cond.code ({ cls := "CoverRows$PrimeFinder", name := "fillOuts", desc := "(LCoverRows$Cubes;)V" } : MethodName) prog_6_method_3_code (5 : Nat) (Option.none : Option FieldType) : Cond) ∈ lwg := lw_i2 (i := 26) rfl rfl
theorem mw_ml_PrimeFinder_32 : (Cond.methodLink "CoverRows$PrimeFinder" (32 : Nat) ({ cls := "CoverRows$Products", name := "size", desc := "()I" } : MethodName) : Cond) ∈ lwg := lw_i2 (i := 27) rfl rfl
theorem mw_im_Products_size : (Cond.instanceMethod ({ cls := "CoverRows$Products", name := "size", desc := "()I" } : MethodName) : Cond) ∈ lwg := lw_i2 (i := 28) rfl rfl
theorem mw_se_Products_size : (Cond.selects "CoverRows$Products" ({ cls := "CoverRows$Products", name := "size", desc := "()I" } : MethodName) ({ cls := "CoverRows$Products", name := "size", desc := "()I" } : MethodName) : Cond) ∈ lwg := lw_i2 (i := 29) rfl rfl
theorem mw_code_Products_size : (Cond.code ({ cls := "CoverRows$Products", name := "size", desc := "()I" } : MethodName) prog_7_method_5_code (1 : Nat) (Option.some FieldType.int) : Cond) ∈ lwg := lw_i2 (i := 30) rfl rfl
theorem mw_ml_PrimeFinder_46 : (Cond.methodLink "CoverRows$PrimeFinder" (46 : Nat) ({ cls := "CoverRows$Cubes", name := "notOff", desc := "(I)I" } : MethodName) : Cond) ∈ lwg := lw_i2 (i := 31) rfl rfl
theorem mw_im_Cubes_notOff : (Cond.instanceMethod ({ cls := "CoverRows$Cubes", name := "notOff", desc := "(I)I" } : MethodName) : Cond) ∈ lwg := lw_i2 (i := 32) rfl rfl
theorem mw_se_Cubes_notOff : (Cond.selects "CoverRows$Cubes" ({ cls := "CoverRows$Cubes", name := "notOff", desc := "(I)I" } : MethodName) ({ cls := "CoverRows$Cubes", name := "notOff", desc := "(I)I" } : MethodName) : Cond) ∈ lwg := lw_i2 (i := 33) rfl rfl
theorem mw_code_Cubes_notOff : (Cond.code ({ cls := "CoverRows$Cubes", name := "notOff", desc := "(I)I" } : MethodName) prog_3_method_9_code (2 : Nat) (Option.some FieldType.int) : Cond) ∈ lwg := lw_i2 (i := 34) rfl rfl
theorem mw_ml_Cubes_47 : (Cond.methodLink "CoverRows$Cubes" (47 : Nat) ({ cls := "CoverRows$Cubes", name := "hadByKind", desc := "(II)I" } : MethodName) : Cond) ∈ lwg := lw_i2 (i := 35) rfl rfl
theorem mw_im_Cubes_hadByKind : (Cond.instanceMethod ({ cls := "CoverRows$Cubes", name := "hadByKind", desc := "(II)I" } : MethodName) : Cond) ∈ lwg := lw_i2 (i := 37) rfl rfl
theorem mw_code_Cubes_hadByKind : (Cond.code ({ cls := "CoverRows$Cubes", name := "hadByKind", desc := "(II)I" } : MethodName) prog_3_method_10_code (5 : Nat) (Option.some FieldType.int) : Cond) ∈ lwg := lw_i2 (i := 38) rfl rfl
theorem mw_ml_Cubes_50 : (Cond.methodLink "CoverRows$Cubes" (50 : Nat) ({ cls := "CoverRows$Products", name := "had", desc := "(I)I" } : MethodName) : Cond) ∈ lwg := lw_i2 (i := 39) rfl rfl
theorem mw_im_Products_had : (Cond.instanceMethod ({ cls := "CoverRows$Products", name := "had", desc := "(I)I" } : MethodName) : Cond) ∈ lwg := lw_i2 (i := 40) rfl rfl
theorem mw_se_Products_had : (Cond.selects "CoverRows$Products" ({ cls := "CoverRows$Products", name := "had", desc := "(I)I" } : MethodName) ({ cls := "CoverRows$Products", name := "had", desc := "(I)I" } : MethodName) : Cond) ∈ lwg := lw_i2 (i := 41) rfl rfl
theorem mw_code_Products_had : (Cond.code ({ cls := "CoverRows$Products", name := "had", desc := "(I)I" } : MethodName) prog_7_method_9_code (2 : Nat) (Option.some FieldType.int) : Cond) ∈ lwg := lw_i2 (i := 42) rfl rfl
theorem mw_ml_PrimeFinder_52 : (Cond.methodLink "CoverRows$PrimeFinder" (52 : Nat) ({ cls := "CoverRows$Products", name := "had", desc := "(I)I" } : MethodName) : Cond) ∈ lwg := lw_i2 (i := 43) rfl rfl
theorem mw_ml_PrimeFinder_27 : (Cond.methodLink "CoverRows$PrimeFinder" (27 : Nat) ({ cls := "CoverRows$Terms", name := "dropAll", desc := "()V" } : MethodName) : Cond) ∈ lwg := lw_i2 (i := 44) rfl rfl
theorem mw_im_Terms_dropAll : (Cond.instanceMethod ({ cls := "CoverRows$Terms", name := "dropAll", desc := "()V" } : MethodName) : Cond) ∈ lwg := lw_i2 (i := 45) rfl rfl
theorem mw_se_Terms_dropAll : (Cond.selects "CoverRows$Terms" ({ cls := "CoverRows$Terms", name := "dropAll", desc := "()V" } : MethodName) ({ cls := "CoverRows$Terms", name := "dropAll", desc := "()V" } : MethodName) : Cond) ∈ lwg := lw_i2 (i := 46) rfl rfl
theorem mw_code_Terms_dropAll : (Cond.code ({ cls := "CoverRows$Terms", name := "dropAll", desc := "()V" } : MethodName) prog_8_method_5_code (1 : Nat) (Option.none : Option FieldType) : Cond) ∈ lwg := lw_i2 (i := 47) rfl rfl
theorem mw_ml_PrimeFinder_38 : (Cond.methodLink "CoverRows$PrimeFinder" (38 : Nat) ({ cls := "CoverRows$PrimeFinder", name := "isWithinWider", desc := "(I)Z" } : MethodName) : Cond) ∈ lwg := lw_i2 (i := 48) rfl rfl
theorem mw_im_PrimeFinder_isWithinWider : (Cond.instanceMethod ({ cls := "CoverRows$PrimeFinder", name := "isWithinWider", desc := "(I)Z" } : MethodName) : Cond) ∈ lwg := lw_i2 (i := 50) rfl rfl
theorem mw_code_PrimeFinder_isWithinWider : (Cond.code ({ cls := "CoverRows$PrimeFinder", name := "isWithinWider", desc := "(I)Z" } : MethodName) prog_6_method_4_code (4 : Nat) (Option.some FieldType.boolean) : Cond) ∈ lwg := lw_i2 (i := 51) rfl rfl
theorem mw_ml_PrimeFinder_55 : (Cond.methodLink "CoverRows$PrimeFinder" (55 : Nat) ({ cls := "CoverRows$Products", name := "inputs", desc := "()I" } : MethodName) : Cond) ∈ lwg := lw_i2 (i := 52) rfl rfl
theorem mw_im_Products_inputs : (Cond.instanceMethod ({ cls := "CoverRows$Products", name := "inputs", desc := "()I" } : MethodName) : Cond) ∈ lwg := lw_i2 (i := 53) rfl rfl
theorem mw_se_Products_inputs : (Cond.selects "CoverRows$Products" ({ cls := "CoverRows$Products", name := "inputs", desc := "()I" } : MethodName) ({ cls := "CoverRows$Products", name := "inputs", desc := "()I" } : MethodName) : Cond) ∈ lwg := lw_i2 (i := 54) rfl rfl
theorem mw_code_Products_inputs : (Cond.code ({ cls := "CoverRows$Products", name := "inputs", desc := "()I" } : MethodName) prog_7_method_4_code (1 : Nat) (Option.some FieldType.int) : Cond) ∈ lwg := lw_i2 (i := 55) rfl rfl
theorem mw_ml_PrimeFinder_58 : (Cond.methodLink "CoverRows$PrimeFinder" (58 : Nat) ({ cls := "CoverRows$Products", name := "digit", desc := "(II)I" } : MethodName) : Cond) ∈ lwg := lw_i2 (i := 56) rfl rfl
theorem mw_im_Products_digit : (Cond.instanceMethod ({ cls := "CoverRows$Products", name := "digit", desc := "(II)I" } : MethodName) : Cond) ∈ lwg := lw_i2 (i := 57) rfl rfl
theorem mw_se_Products_digit : (Cond.selects "CoverRows$Products" ({ cls := "CoverRows$Products", name := "digit", desc := "(II)I" } : MethodName) ({ cls := "CoverRows$Products", name := "digit", desc := "(II)I" } : MethodName) : Cond) ∈ lwg := lw_i2 (i := 58) rfl rfl
theorem mw_code_Products_digit : (Cond.code ({ cls := "CoverRows$Products", name := "digit", desc := "(II)I" } : MethodName) prog_7_method_10_code (3 : Nat) (Option.some FieldType.int) : Cond) ∈ lwg := lw_i2 (i := 59) rfl rfl
theorem mw_ml_PrimeFinder_62 : (Cond.methodLink "CoverRows$PrimeFinder" (62 : Nat) ({ cls := "CoverRows$Products", name := "withDigit", desc := "(III)I" } : MethodName) : Cond) ∈ lwg := lw_i2 (i := 60) rfl rfl
theorem mw_im_Products_withDigit : (Cond.instanceMethod ({ cls := "CoverRows$Products", name := "withDigit", desc := "(III)I" } : MethodName) : Cond) ∈ lwg := lw_i2 (i := 61) rfl rfl
theorem mw_se_Products_withDigit : (Cond.selects "CoverRows$Products" ({ cls := "CoverRows$Products", name := "withDigit", desc := "(III)I" } : MethodName) ({ cls := "CoverRows$Products", name := "withDigit", desc := "(III)I" } : MethodName) : Cond) ∈ lwg := lw_i2 (i := 62) rfl rfl
theorem mw_code_Products_withDigit : (Cond.code ({ cls := "CoverRows$Products", name := "withDigit", desc := "(III)I" } : MethodName) prog_7_method_11_code (7 : Nat) (Option.some FieldType.int) : Cond) ∈ lwg := lw_i2 (i := 63) rfl rfl
theorem mw_ml_Products_41 : (Cond.methodLink "CoverRows$Products" (41 : Nat) ({ cls := "CoverRows$Products", name := "numberOf", desc := "(II)I" } : MethodName) : Cond) ∈ lwg := lw_i2 (i := 64) rfl rfl
theorem mw_im_Products_numberOf : (Cond.instanceMethod ({ cls := "CoverRows$Products", name := "numberOf", desc := "(II)I" } : MethodName) : Cond) ∈ lwg := lw_i2 (i := 65) rfl rfl
theorem mw_se_Products_numberOf : (Cond.selects "CoverRows$Products" ({ cls := "CoverRows$Products", name := "numberOf", desc := "(II)I" } : MethodName) ({ cls := "CoverRows$Products", name := "numberOf", desc := "(II)I" } : MethodName) : Cond) ∈ lwg := lw_i2 (i := 66) rfl rfl
theorem mw_code_Products_numberOf : (Cond.code ({ cls := "CoverRows$Products", name := "numberOf", desc := "(II)I" } : MethodName) prog_7_method_12_code (6 : Nat) (Option.some FieldType.int) : Cond) ∈ lwg := lw_i2 (i := 67) rfl rfl
theorem mw_ml_PrimeFinder_42 : (Cond.methodLink "CoverRows$PrimeFinder" (42 : Nat) ({ cls := "CoverRows$Terms", name := "add", desc := "(II)V" } : MethodName) : Cond) ∈ lwg := lw_i2 (i := 68) rfl rfl
theorem mw_im_Terms_add : (Cond.instanceMethod ({ cls := "CoverRows$Terms", name := "add", desc := "(II)V" } : MethodName) : Cond) ∈ lwg := lw_i2 (i := 69) rfl rfl
theorem mw_se_Terms_add : (Cond.selects "CoverRows$Terms" ({ cls := "CoverRows$Terms", name := "add", desc := "(II)V" } : MethodName) ({ cls := "CoverRows$Terms", name := "add", desc := "(II)V" } : MethodName) : Cond) ∈ lwg := lw_i2 (i := 70) rfl rfl
theorem mw_code_Terms_add : (Cond.code ({ cls := "CoverRows$Terms", name := "add", desc := "(II)V" } : MethodName) prog_8_method_6_code (3 : Nat) (Option.none : Option FieldType) : Cond) ∈ lwg := lw_i2 (i := 71) rfl rfl
theorem mw_ml_Main_131 : (Cond.methodLink "CoverRows" (131 : Nat) ({ cls := "CoverRows$Terms", name := "size", desc := "()I" } : MethodName) : Cond) ∈ lwg := lw_i2 (i := 72) rfl rfl
theorem mw_im_Terms_size : (Cond.instanceMethod ({ cls := "CoverRows$Terms", name := "size", desc := "()I" } : MethodName) : Cond) ∈ lwg := lw_i2 (i := 73) rfl rfl
theorem mw_se_Terms_size : (Cond.selects "CoverRows$Terms" ({ cls := "CoverRows$Terms", name := "size", desc := "()I" } : MethodName) ({ cls := "CoverRows$Terms", name := "size", desc := "()I" } : MethodName) : Cond) ∈ lwg := lw_i2 (i := 74) rfl rfl
theorem mw_code_Terms_size : (Cond.code ({ cls := "CoverRows$Terms", name := "size", desc := "()I" } : MethodName) prog_8_method_2_code (1 : Nat) (Option.some FieldType.int) : Cond) ∈ lwg := lw_i2 (i := 75) rfl rfl
theorem mw_ml_Law_104 : (Cond.methodLink "CoverRowsLaw" (104 : Nat) ({ cls := "CoverRows", name := "tautology", desc := "()Z" } : MethodName) : Cond) ∈ lwg := lw_i2 (i := 76) rfl rfl
theorem mw_im_Main_tautology : (Cond.instanceMethod ({ cls := "CoverRows", name := "tautology", desc := "()Z" } : MethodName) : Cond) ∈ lwg := lw_i2 (i := 77) rfl rfl
theorem mw_se_Main_tautology : (Cond.selects "CoverRows" ({ cls := "CoverRows", name := "tautology", desc := "()Z" } : MethodName) ({ cls := "CoverRows", name := "tautology", desc := "()Z" } : MethodName) : Cond) ∈ lwg := lw_i2 (i := 78) rfl rfl
theorem mw_code_Main_tautology : (Cond.code ({ cls := "CoverRows", name := "tautology", desc := "()Z" } : MethodName) prog_1_method_9_code (3 : Nat) (Option.some FieldType.boolean) : Cond) ∈ lwg := lw_i2 (i := 79) rfl rfl
theorem mw_ml_Main_165 : (Cond.methodLink "CoverRows" (165 : Nat) ({ cls := "CoverRows$Cubes", name := "notOff", desc := "(I)I" } : MethodName) : Cond) ∈ lwg := lw_i2 (i := 80) rfl rfl
theorem mw_ml_Law_127 : (Cond.methodLink "CoverRowsLaw" (127 : Nat) ({ cls := "CoverRows", name := "order", desc := "()I" } : MethodName) : Cond) ∈ lwg := lw_i2 (i := 81) rfl rfl
theorem mw_im_Main_order : (Cond.instanceMethod ({ cls := "CoverRows", name := "order", desc := "()I" } : MethodName) : Cond) ∈ lwg := lw_i2 (i := 82) rfl rfl
theorem mw_se_Main_order : (Cond.selects "CoverRows" ({ cls := "CoverRows", name := "order", desc := "()I" } : MethodName) ({ cls := "CoverRows", name := "order", desc := "()I" } : MethodName) : Cond) ∈ lwg := lw_i2 (i := 83) rfl rfl
theorem mw_code_Main_order : (Cond.code ({ cls := "CoverRows", name := "order", desc := "()I" } : MethodName) prog_1_method_15_code (5 : Nat) (Option.some FieldType.int) : Cond) ∈ lwg := lw_i2 (i := 84) rfl rfl
theorem mw_ml_Main_197 : (Cond.methodLink "CoverRows" (197 : Nat) ({ cls := "CoverRows$Diagrams", name := "nodes", desc := "(ILCoverRows$Cubes;)I" } : MethodName) : Cond) ∈ lwg := lw_i2 (i := 85) rfl rfl
theorem mw_im_Diagrams_nodes : (Cond.instanceMethod ({ cls := "CoverRows$Diagrams", name := "nodes", desc := "(ILCoverRows$Cubes;)I" } : MethodName) : Cond) ∈ lwg := lw_i2 (i := 86) rfl rfl
theorem mw_se_Diagrams_nodes : (Cond.selects "CoverRows$Diagrams" ({ cls := "CoverRows$Diagrams", name := "nodes", desc := "(ILCoverRows$Cubes;)I" } : MethodName) ({ cls := "CoverRows$Diagrams", name := "nodes", desc := "(ILCoverRows$Cubes;)I" } : MethodName) : Cond) ∈ lwg := lw_i2 (i := 87) rfl rfl
theorem mw_code_Diagrams_nodes : (Cond.code ({ cls := "CoverRows$Diagrams", name := "nodes", desc := "(ILCoverRows$Cubes;)I" } : MethodName) prog_4_method_3_code (5 : Nat) (Option.some FieldType.int) : Cond) ∈ lwg := lw_i2 (i := 88) rfl rfl
theorem mw_ml_Diagrams_31 : (Cond.methodLink "CoverRows$Diagrams" (31 : Nat) ({ cls := "CoverRows$Diagrams", name := "fillAsked", desc := "(I)V" } : MethodName) : Cond) ∈ lwg := lw_i2 (i := 89) rfl rfl
theorem mw_im_Diagrams_fillAsked : (Cond.instanceMethod ({ cls := "CoverRows$Diagrams", name := "fillAsked", desc := "(I)V" } : MethodName) : Cond) ∈ lwg := lw_i2 (i := 91) rfl rfl
theorem mw_code_Diagrams_fillAsked : (Cond.code ({ cls := "CoverRows$Diagrams", name := "fillAsked", desc := "(I)V" } : MethodName) prog_4_method_4_code (7 : Nat) (Option.none : Option FieldType) : Cond) ∈ lwg := lw_i2 (i := 92) rfl rfl
theorem mw_fl_Diagrams_28 : (Cond.fieldLink "CoverRows$Diagrams" (28 : Nat) "CoverRows$Diagrams" "FACTORIALS" "[I" : Cond) ∈ lwg := lw_i2 (i := 93) rfl rfl
theorem mw_ml_Diagrams_47 : (Cond.methodLink "CoverRows$Diagrams" (47 : Nat) ({ cls := "CoverRows$Diagrams", name := "inputAfter", desc := "(II)I" } : MethodName) : Cond) ∈ lwg := lw_i2 (i := 95) rfl rfl
theorem mw_im_Diagrams_inputAfter : (Cond.instanceMethod ({ cls := "CoverRows$Diagrams", name := "inputAfter", desc := "(II)I" } : MethodName) : Cond) ∈ lwg := lw_i2 (i := 97) rfl rfl
theorem mw_code_Diagrams_inputAfter : (Cond.code ({ cls := "CoverRows$Diagrams", name := "inputAfter", desc := "(II)I" } : MethodName) prog_4_method_5_code (5 : Nat) (Option.some FieldType.int) : Cond) ∈ lwg := lw_i2 (i := 98) rfl rfl
theorem mw_ml_Diagrams_35 : (Cond.methodLink "CoverRows$Diagrams" (35 : Nat) ({ cls := "CoverRows$Cubes", name := "on", desc := "(I)I" } : MethodName) : Cond) ∈ lwg := lw_i2 (i := 99) rfl rfl
theorem mw_im_Cubes_on : (Cond.instanceMethod ({ cls := "CoverRows$Cubes", name := "on", desc := "(I)I" } : MethodName) : Cond) ∈ lwg := lw_i2 (i := 100) rfl rfl
theorem mw_se_Cubes_on : (Cond.selects "CoverRows$Cubes" ({ cls := "CoverRows$Cubes", name := "on", desc := "(I)I" } : MethodName) ({ cls := "CoverRows$Cubes", name := "on", desc := "(I)I" } : MethodName) : Cond) ∈ lwg := lw_i2 (i := 101) rfl rfl
theorem mw_code_Cubes_on : (Cond.code ({ cls := "CoverRows$Cubes", name := "on", desc := "(I)I" } : MethodName) prog_3_method_8_code (2 : Nat) (Option.some FieldType.int) : Cond) ∈ lwg := lw_i2 (i := 102) rfl rfl
theorem mw_ml_Diagrams_41 : (Cond.methodLink "CoverRows$Diagrams" (41 : Nat) ({ cls := "CoverRows$Diagrams", name := "reordered", desc := "(I)I" } : MethodName) : Cond) ∈ lwg := lw_i2 (i := 103) rfl rfl
theorem mw_im_Diagrams_reordered : (Cond.instanceMethod ({ cls := "CoverRows$Diagrams", name := "reordered", desc := "(I)I" } : MethodName) : Cond) ∈ lwg := lw_i2 (i := 105) rfl rfl
theorem mw_code_Diagrams_reordered : (Cond.code ({ cls := "CoverRows$Diagrams", name := "reordered", desc := "(I)I" } : MethodName) prog_4_method_6_code (7 : Nat) (Option.some FieldType.int) : Cond) ∈ lwg := lw_i2 (i := 106) rfl rfl
theorem mw_ml_Diagrams_44 : (Cond.methodLink "CoverRows$Diagrams" (44 : Nat) ({ cls := "CoverRows$Diagrams", name := "nodesOfLevel", desc := "(I)I" } : MethodName) : Cond) ∈ lwg := lw_i2 (i := 107) rfl rfl
theorem mw_im_Diagrams_nodesOfLevel : (Cond.instanceMethod ({ cls := "CoverRows$Diagrams", name := "nodesOfLevel", desc := "(I)I" } : MethodName) : Cond) ∈ lwg := lw_i2 (i := 109) rfl rfl
theorem mw_code_Diagrams_nodesOfLevel : (Cond.code ({ cls := "CoverRows$Diagrams", name := "nodesOfLevel", desc := "(I)I" } : MethodName) prog_4_method_7_code (11 : Nat) (Option.some FieldType.int) : Cond) ∈ lwg := lw_i2 (i := 110) rfl rfl
theorem mw_ml_Diagrams_51 : (Cond.methodLink "CoverRows$Diagrams" (51 : Nat) ({ cls := "CoverRows$Diagrams", name := "isSeen", desc := "(II)Z" } : MethodName) : Cond) ∈ lwg := lw_i2 (i := 111) rfl rfl
theorem mw_im_Diagrams_isSeen : (Cond.instanceMethod ({ cls := "CoverRows$Diagrams", name := "isSeen", desc := "(II)Z" } : MethodName) : Cond) ∈ lwg := lw_i2 (i := 113) rfl rfl
theorem mw_code_Diagrams_isSeen : (Cond.code ({ cls := "CoverRows$Diagrams", name := "isSeen", desc := "(II)Z" } : MethodName) prog_4_method_8_code (4 : Nat) (Option.some FieldType.boolean) : Cond) ∈ lwg := lw_i2 (i := 114) rfl rfl
theorem mw_ml_Main_192 : (Cond.methodLink "CoverRows" (192 : Nat) ({ cls := "CoverRows$Diagrams", name := "orders", desc := "()I" } : MethodName) : Cond) ∈ lwg := lw_i2 (i := 115) rfl rfl
theorem mw_im_Diagrams_orders : (Cond.instanceMethod ({ cls := "CoverRows$Diagrams", name := "orders", desc := "()I" } : MethodName) : Cond) ∈ lwg := lw_i2 (i := 116) rfl rfl
theorem mw_se_Diagrams_orders : (Cond.selects "CoverRows$Diagrams" ({ cls := "CoverRows$Diagrams", name := "orders", desc := "()I" } : MethodName) ({ cls := "CoverRows$Diagrams", name := "orders", desc := "()I" } : MethodName) : Cond) ∈ lwg := lw_i2 (i := 117) rfl rfl
theorem mw_code_Diagrams_orders : (Cond.code ({ cls := "CoverRows$Diagrams", name := "orders", desc := "()I" } : MethodName) prog_4_method_2_code (1 : Nat) (Option.some FieldType.int) : Cond) ∈ lwg := lw_i2 (i := 118) rfl rfl
theorem mw_ml_Law_138 : (Cond.methodLink "CoverRowsLaw" (138 : Nat) ({ cls := "CoverRows", name := "clear", desc := "()V" } : MethodName) : Cond) ∈ lwg := lw_i2 (i := 119) rfl rfl
theorem mw_im_Main_clear : (Cond.instanceMethod ({ cls := "CoverRows", name := "clear", desc := "()V" } : MethodName) : Cond) ∈ lwg := lw_i2 (i := 120) rfl rfl
theorem mw_se_Main_clear : (Cond.selects "CoverRows" ({ cls := "CoverRows", name := "clear", desc := "()V" } : MethodName) ({ cls := "CoverRows", name := "clear", desc := "()V" } : MethodName) : Cond) ∈ lwg := lw_i2 (i := 121) rfl rfl
theorem mw_code_Main_clear : (Cond.code ({ cls := "CoverRows", name := "clear", desc := "()V" } : MethodName) prog_1_method_18_code (1 : Nat) (Option.none : Option FieldType) : Cond) ∈ lwg := lw_i2 (i := 122) rfl rfl
theorem mw_ml_Main_211 : (Cond.methodLink "CoverRows" (211 : Nat) ({ cls := "CoverRows$Cubes", name := "dropAll", desc := "()V" } : MethodName) : Cond) ∈ lwg := lw_i2 (i := 123) rfl rfl
theorem mw_im_Cubes_dropAll : (Cond.instanceMethod ({ cls := "CoverRows$Cubes", name := "dropAll", desc := "()V" } : MethodName) : Cond) ∈ lwg := lw_i2 (i := 124) rfl rfl
theorem mw_se_Cubes_dropAll : (Cond.selects "CoverRows$Cubes" ({ cls := "CoverRows$Cubes", name := "dropAll", desc := "()V" } : MethodName) ({ cls := "CoverRows$Cubes", name := "dropAll", desc := "()V" } : MethodName) : Cond) ∈ lwg := lw_i2 (i := 125) rfl rfl
theorem mw_code_Cubes_dropAll : (Cond.code ({ cls := "CoverRows$Cubes", name := "dropAll", desc := "()V" } : MethodName) prog_3_method_5_code (1 : Nat) (Option.none : Option FieldType) : Cond) ∈ lwg := lw_i2 (i := 126) rfl rfl
theorem mw_ml_Main_214 : (Cond.methodLink "CoverRows" (214 : Nat) ({ cls := "CoverRows$Terms", name := "dropAll", desc := "()V" } : MethodName) : Cond) ∈ lwg := lw_i2 (i := 127) rfl rfl
theorem mw_ml_Law_64 : (Cond.methodLink "CoverRowsLaw" (64 : Nat) ({ cls := "CoverRowsLaw", name := "cell", desc := "([II)I" } : MethodName) : Cond) ∈ lwg := lw_i2 (i := 128) rfl rfl
theorem mw_st_Law_cell : (Cond.static ({ cls := "CoverRowsLaw", name := "cell", desc := "([II)I" } : MethodName) : Cond) ∈ lwg := lw_i2 (i := 129) rfl rfl
theorem mw_code_Law_cell : (Cond.code ({ cls := "CoverRowsLaw", name := "cell", desc := "([II)I" } : MethodName) method_2_code (2 : Nat) (Option.some FieldType.int) : Cond) ∈ lwg := lw_i2 (i := 130) rfl rfl
theorem mw_ml_Law_76 : (Cond.methodLink "CoverRowsLaw" (76 : Nat) ({ cls := "CoverRowsLaw", name := "cube", desc := "(LCoverRows;[J)I" } : MethodName) : Cond) ∈ lwg := lw_i2 (i := 131) rfl rfl
theorem mw_st_Law_cube : (Cond.static ({ cls := "CoverRowsLaw", name := "cube", desc := "(LCoverRows;[J)I" } : MethodName) : Cond) ∈ lwg := lw_i2 (i := 132) rfl rfl
theorem mw_code_Law_cube : (Cond.codeWith ({ cls := "CoverRowsLaw", name := "cube", desc := "(LCoverRows;[J)I" } : MethodName) method_3_code (3 : Nat) (Option.some FieldType.int) [((0 : Nat), (8 : Nat), (11 : Nat), (13 : Nat))] : Cond) ∈ lwg := lw_i2 (i := 133) rfl rfl
theorem mw_cl_Law_13 : (Cond.classLink "CoverRowsLaw" (13 : Nat) "java/lang/UnsupportedOperationException" : Cond) ∈ lwg := lw_i2 (i := 134) rfl rfl
theorem mw_ml_Law_7 : (Cond.methodLink "CoverRowsLaw" (7 : Nat) ({ cls := "CoverRows", name := "cube", desc := "()I" } : MethodName) : Cond) ∈ lwg := lw_i2 (i := 135) rfl rfl
theorem mw_im_Main_cube : (Cond.instanceMethod ({ cls := "CoverRows", name := "cube", desc := "()I" } : MethodName) : Cond) ∈ lwg := lw_i2 (i := 136) rfl rfl
theorem mw_se_Main_cube : (Cond.selects "CoverRows" ({ cls := "CoverRows", name := "cube", desc := "()I" } : MethodName) ({ cls := "CoverRows", name := "cube", desc := "()I" } : MethodName) : Cond) ∈ lwg := lw_i2 (i := 137) rfl rfl
theorem mw_code_Main_cube : (Cond.code ({ cls := "CoverRows", name := "cube", desc := "()I" } : MethodName) prog_1_method_2_code (1 : Nat) (Option.some FieldType.int) : Cond) ∈ lwg := lw_i2 (i := 138) rfl rfl
theorem mw_ml_Main_88 : (Cond.methodLink "CoverRows" (88 : Nat) ({ cls := "CoverRows$Cubes", name := "isFull", desc := "()Z" } : MethodName) : Cond) ∈ lwg := lw_i2 (i := 139) rfl rfl
theorem mw_im_Cubes_isFull : (Cond.instanceMethod ({ cls := "CoverRows$Cubes", name := "isFull", desc := "()Z" } : MethodName) : Cond) ∈ lwg := lw_i2 (i := 140) rfl rfl
theorem mw_se_Cubes_isFull : (Cond.selects "CoverRows$Cubes" ({ cls := "CoverRows$Cubes", name := "isFull", desc := "()Z" } : MethodName) ({ cls := "CoverRows$Cubes", name := "isFull", desc := "()Z" } : MethodName) : Cond) ∈ lwg := lw_i2 (i := 141) rfl rfl
theorem mw_code_Cubes_isFull : (Cond.code ({ cls := "CoverRows$Cubes", name := "isFull", desc := "()Z" } : MethodName) prog_3_method_3_code (1 : Nat) (Option.some FieldType.boolean) : Cond) ∈ lwg := lw_i2 (i := 142) rfl rfl
theorem mw_cl_Main_92 : (Cond.classLink "CoverRows" (92 : Nat) "java/lang/UnsupportedOperationException" : Cond) ∈ lwg := lw_i2 (i := 143) rfl rfl
theorem mw_ins_JUnsupportedOperationException : (Cond.instantiable "java/lang/UnsupportedOperationException" (6 : Nat) : Cond) ∈ lwg := lw_i2 (i := 144) rfl rfl
theorem mw_fl_JThrowable_198 : (Cond.fieldLink "java/lang/Throwable" (198 : Nat) "java/lang/Throwable" "backtrace" "Ljava/lang/Object;" : Cond) ∈ lwg := lw_i2 (i := 164) rfl rfl
theorem mw_im_JThrowable_init_V : (Cond.instanceMethod ({ cls := "java/lang/Throwable", name := "<init>", desc := "()V" } : MethodName) : Cond) ∈ lwg := lw_i2 (i := 166) rfl rfl
theorem mw_code_JThrowable_init_V : (Cond.code ({ cls := "java/lang/Throwable", name := "<init>", desc := "()V" } : MethodName) prog_20_method_1_code (1 : Nat) (Option.none : Option FieldType) : Cond) ∈ lwg := lw_i2 (i := 167) rfl rfl
theorem mw_ml_JThrowable_1 : (Cond.methodLink "java/lang/Throwable" (1 : Nat) ({ cls := "java/lang/Object", name := "<init>", desc := "()V" } : MethodName) : Cond) ∈ lwg := lw_i2 (i := 168) rfl rfl
theorem mw_fl_JThrowable_13 : (Cond.fieldLink "java/lang/Throwable" (13 : Nat) "java/lang/Throwable" "UNASSIGNED_STACK" "[Ljava/lang/StackTraceElement;" : Cond) ∈ lwg := lw_i2 (i := 169) rfl rfl
theorem mw_fl_JThrowable_20 : (Cond.fieldLink "java/lang/Throwable" (20 : Nat) "java/lang/Throwable" "SUPPRESSED_SENTINEL" "Ljava/util/List;" : Cond) ∈ lwg := lw_i2 (i := 171) rfl rfl
theorem mw_ml_JThrowable_27 : (Cond.methodLink "java/lang/Throwable" (27 : Nat) ({ cls := "java/lang/Throwable", name := "fillInStackTrace", desc := "()Ljava/lang/Throwable;" } : MethodName) : Cond) ∈ lwg := lw_i2 (i := 173) rfl rfl
theorem mw_im_JThrowable_fillInStackTrace_LjavalangThrowable : (Cond.instanceMethod ({ cls := "java/lang/Throwable", name := "fillInStackTrace", desc := "()Ljava/lang/Throwable;" } : MethodName) : Cond) ∈ lwg := lw_i2 (i := 174) rfl rfl
theorem mw_code_JThrowable_fillInStackTrace_LjavalangThrowable : (Cond.codeSync ({ cls := "java/lang/Throwable", name := "fillInStackTrace", desc := "()Ljava/lang/Throwable;" } : MethodName) prog_20_method_18_code (1 : Nat) (Option.some (FieldType.object "java/lang/Throwable")) : Cond) ∈ lwg := lw_i2 (i := 179) rfl rfl
theorem mw_ml_JThrowable_202 : (Cond.methodLink "java/lang/Throwable" (202 : Nat) ({ cls := "java/lang/Throwable", name := "fillInStackTrace", desc := "(I)Ljava/lang/Throwable;" } : MethodName) : Cond) ∈ lwg := lw_i2 (i := 180) rfl rfl
theorem mw_im_JThrowable_fillInStackTrace_ILjavalangThrowable : (Cond.instanceMethod ({ cls := "java/lang/Throwable", name := "fillInStackTrace", desc := "(I)Ljava/lang/Throwable;" } : MethodName) : Cond) ∈ lwg := lw_i2 (i := 182) rfl rfl
theorem mw_ins_JThrowable : (Cond.instantiable "java/lang/Throwable" (6 : Nat) : Cond) ∈ lwg := lw_i2 (i := 183) rfl rfl
theorem mw_ml_Main_96 : (Cond.methodLink "CoverRows" (96 : Nat) ({ cls := "java/lang/UnsupportedOperationException", name := "<init>", desc := "(Ljava/lang/String;)V" } : MethodName) : Cond) ∈ lwg := lw_i2 (i := 186) rfl rfl
theorem mw_im_JUnsupportedOperationException_init_LjavalangStringV : (Cond.instanceMethod ({ cls := "java/lang/UnsupportedOperationException", name := "<init>", desc := "(Ljava/lang/String;)V" } : MethodName) : Cond) ∈ lwg := lw_i2 (i := 187) rfl rfl
theorem mw_code_JUnsupportedOperationException_init_LjavalangStringV : (Cond.code ({ cls := "java/lang/UnsupportedOperationException", name := "<init>", desc := "(Ljava/lang/String;)V" } : MethodName) prog_21_method_2_code (2 : Nat) (Option.none : Option FieldType) : Cond) ∈ lwg := lw_i2 (i := 188) rfl rfl
theorem mw_ml_JUnsupportedOperationException_7 : (Cond.methodLink "java/lang/UnsupportedOperationException" (7 : Nat) ({ cls := "java/lang/RuntimeException", name := "<init>", desc := "(Ljava/lang/String;)V" } : MethodName) : Cond) ∈ lwg := lw_i2 (i := 189) rfl rfl
theorem mw_im_JRuntimeException_init_LjavalangStringV : (Cond.instanceMethod ({ cls := "java/lang/RuntimeException", name := "<init>", desc := "(Ljava/lang/String;)V" } : MethodName) : Cond) ∈ lwg := lw_i2 (i := 190) rfl rfl
theorem mw_code_JRuntimeException_init_LjavalangStringV : (Cond.code ({ cls := "java/lang/RuntimeException", name := "<init>", desc := "(Ljava/lang/String;)V" } : MethodName) prog_18_method_2_code (2 : Nat) (Option.none : Option FieldType) : Cond) ∈ lwg := lw_i2 (i := 191) rfl rfl
theorem mw_ml_JRuntimeException_7 : (Cond.methodLink "java/lang/RuntimeException" (7 : Nat) ({ cls := "java/lang/Exception", name := "<init>", desc := "(Ljava/lang/String;)V" } : MethodName) : Cond) ∈ lwg := lw_i2 (i := 192) rfl rfl
theorem mw_im_JException_init_LjavalangStringV : (Cond.instanceMethod ({ cls := "java/lang/Exception", name := "<init>", desc := "(Ljava/lang/String;)V" } : MethodName) : Cond) ∈ lwg := lw_i2 (i := 193) rfl rfl
theorem mw_code_JException_init_LjavalangStringV : (Cond.code ({ cls := "java/lang/Exception", name := "<init>", desc := "(Ljava/lang/String;)V" } : MethodName) prog_11_method_2_code (2 : Nat) (Option.none : Option FieldType) : Cond) ∈ lwg := lw_i2 (i := 194) rfl rfl
theorem mw_ml_JException_7 : (Cond.methodLink "java/lang/Exception" (7 : Nat) ({ cls := "java/lang/Throwable", name := "<init>", desc := "(Ljava/lang/String;)V" } : MethodName) : Cond) ∈ lwg := lw_i2 (i := 195) rfl rfl
theorem mw_im_JThrowable_init_LjavalangStringV : (Cond.instanceMethod ({ cls := "java/lang/Throwable", name := "<init>", desc := "(Ljava/lang/String;)V" } : MethodName) : Cond) ∈ lwg := lw_i2 (i := 196) rfl rfl
theorem mw_code_JThrowable_init_LjavalangStringV : (Cond.code ({ cls := "java/lang/Throwable", name := "<init>", desc := "(Ljava/lang/String;)V" } : MethodName) prog_20_method_2_code (2 : Nat) (Option.none : Option FieldType) : Cond) ∈ lwg := lw_i2 (i := 197) rfl rfl
theorem mw_fl_JThrowable_31 : (Cond.fieldLink "java/lang/Throwable" (31 : Nat) "java/lang/Throwable" "detailMessage" "Ljava/lang/String;" : Cond) ∈ lwg := lw_i2 (i := 199) rfl rfl
theorem mw_fl_JThrowable_7 : (Cond.fieldLink "java/lang/Throwable" (7 : Nat) "java/lang/Throwable" "cause" "Ljava/lang/Throwable;" : Cond) ∈ lwg := lw_i2 (i := 200) rfl rfl
theorem mw_fl_JThrowable_17 : (Cond.fieldLink "java/lang/Throwable" (17 : Nat) "java/lang/Throwable" "stackTrace" "[Ljava/lang/StackTraceElement;" : Cond) ∈ lwg := lw_i2 (i := 201) rfl rfl
theorem mw_fl_JThrowable_24 : (Cond.fieldLink "java/lang/Throwable" (24 : Nat) "java/lang/Throwable" "suppressedExceptions" "Ljava/util/List;" : Cond) ∈ lwg := lw_i2 (i := 202) rfl rfl
theorem mw_arr_byte : (Cond.arrayClass FieldType.byte : Cond) ∈ lwg := lw_i2 (i := 211) rfl rfl
theorem mw_ml_Main_99 : (Cond.methodLink "CoverRows" (99 : Nat) ({ cls := "CoverRows$Cubes", name := "add", desc := "()I" } : MethodName) : Cond) ∈ lwg := lw_i2 (i := 212) rfl rfl
theorem mw_im_Cubes_add : (Cond.instanceMethod ({ cls := "CoverRows$Cubes", name := "add", desc := "()I" } : MethodName) : Cond) ∈ lwg := lw_i2 (i := 213) rfl rfl
theorem mw_se_Cubes_add : (Cond.selects "CoverRows$Cubes" ({ cls := "CoverRows$Cubes", name := "add", desc := "()I" } : MethodName) ({ cls := "CoverRows$Cubes", name := "add", desc := "()I" } : MethodName) : Cond) ∈ lwg := lw_i2 (i := 214) rfl rfl
theorem mw_code_Cubes_add : (Cond.code ({ cls := "CoverRows$Cubes", name := "add", desc := "()I" } : MethodName) prog_3_method_4_code (2 : Nat) (Option.some FieldType.int) : Cond) ∈ lwg := lw_i2 (i := 215) rfl rfl
theorem mw_ml_Cubes_29 : (Cond.methodLink "CoverRows$Cubes" (29 : Nat) ({ cls := "CoverRows$Cubes", name := "isFull", desc := "()Z" } : MethodName) : Cond) ∈ lwg := lw_i2 (i := 216) rfl rfl
