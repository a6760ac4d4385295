section
def R_CoverFinder : String := "CoverRows$CoverFinder"
def R_Cubes : String := "CoverRows$Cubes"
def R_Diagrams : String := "CoverRows$Diagrams"
def R_Division : String := "CoverRows$Division"
def R_PrimeFinder : String := "CoverRows$PrimeFinder"
def R_Products : String := "CoverRows$Products"
def R_Terms : String := "CoverRows$Terms"
def R_Main : String := "CoverRows"
def R_Ref : String := "CoverRowsModel"
def R_Law : String := "CoverRowsLaw"
abbrev b_Main_init : ByteArray := prog_1_method_1_code
def y_Main_init : MethodName := ⟨R_Main, "<init>", "(II)V"⟩
abbrev b_JMath_min_III : ByteArray := prog_17_method_69_code
def y_JMath_min_III : MethodName := ⟨"java/lang/Math", "min", "(II)I"⟩
abbrev b_JMath_max_III : ByteArray := prog_17_method_65_code
def y_JMath_max_III : MethodName := ⟨"java/lang/Math", "max", "(II)I"⟩
abbrev b_Products_init : ByteArray := prog_7_method_1_code
def y_Products_init : MethodName := ⟨R_Products, "<init>", "(I)V"⟩
abbrev b_Products_fillDigits : ByteArray := prog_7_method_2_code
def y_Products_fillDigits : MethodName := ⟨R_Products, "fillDigits", "(I)V"⟩
abbrev b_Products_fillHad : ByteArray := prog_7_method_3_code
def y_Products_fillHad : MethodName := ⟨R_Products, "fillHad", "(I)V"⟩
abbrev b_Cubes_init : ByteArray := prog_3_method_1_code
def y_Cubes_init : MethodName := ⟨R_Cubes, "<init>", "(LCoverRows$Products;I)V"⟩
abbrev b_Terms_init : ByteArray := prog_8_method_1_code
def y_Terms_init : MethodName := ⟨R_Terms, "<init>", "(LCoverRows$Products;)V"⟩
abbrev b_PrimeFinder_init : ByteArray := prog_6_method_1_code
def y_PrimeFinder_init : MethodName := ⟨R_PrimeFinder, "<init>", "(LCoverRows$Products;I)V"⟩
abbrev b_CoverFinder_init : ByteArray := prog_2_method_1_code
def y_CoverFinder_init : MethodName := ⟨R_CoverFinder, "<init>", "(I)V"⟩
abbrev b_Division_init : ByteArray := prog_5_method_1_code
def y_Division_init : MethodName := ⟨R_Division, "<init>", "(LCoverRows$Products;)V"⟩
abbrev b_Diagrams_init : ByteArray := prog_4_method_1_code
def y_Diagrams_init : MethodName := ⟨R_Diagrams, "<init>", "(II)V"⟩
abbrev b_Main_primes : ByteArray := prog_1_method_5_code
def y_Main_primes : MethodName := ⟨R_Main, "primes", "()I"⟩
abbrev b_Main_renewPrimes : ByteArray := prog_1_method_22_code
def y_Main_renewPrimes : MethodName := ⟨R_Main, "renewPrimes", "()V"⟩
abbrev b_PrimeFinder_find : ByteArray := prog_6_method_2_code
def y_PrimeFinder_find : MethodName := ⟨R_PrimeFinder, "find", "(LCoverRows$Cubes;LCoverRows$Terms;)V"⟩
abbrev b_PrimeFinder_fillOuts : ByteArray := prog_6_method_3_code
def y_PrimeFinder_fillOuts : MethodName := ⟨R_PrimeFinder, "fillOuts", "(LCoverRows$Cubes;)V"⟩
abbrev b_Products_size : ByteArray := prog_7_method_5_code
def y_Products_size : MethodName := ⟨R_Products, "size", "()I"⟩
abbrev b_Cubes_notOff : ByteArray := prog_3_method_9_code
def y_Cubes_notOff : MethodName := ⟨R_Cubes, "notOff", "(I)I"⟩
abbrev b_Cubes_hadByKind : ByteArray := prog_3_method_10_code
def y_Cubes_hadByKind : MethodName := ⟨R_Cubes, "hadByKind", "(II)I"⟩
abbrev b_Products_had : ByteArray := prog_7_method_9_code
def y_Products_had : MethodName := ⟨R_Products, "had", "(I)I"⟩
abbrev b_Terms_dropAll : ByteArray := prog_8_method_5_code
def y_Terms_dropAll : MethodName := ⟨R_Terms, "dropAll", "()V"⟩
abbrev b_PrimeFinder_isWithinWider : ByteArray := prog_6_method_4_code
def y_PrimeFinder_isWithinWider : MethodName := ⟨R_PrimeFinder, "isWithinWider", "(I)Z"⟩
abbrev b_Products_inputs : ByteArray := prog_7_method_4_code
def y_Products_inputs : MethodName := ⟨R_Products, "inputs", "()I"⟩
abbrev b_Products_digit : ByteArray := prog_7_method_10_code
def y_Products_digit : MethodName := ⟨R_Products, "digit", "(II)I"⟩
abbrev b_Products_withDigit : ByteArray := prog_7_method_11_code
def y_Products_withDigit : MethodName := ⟨R_Products, "withDigit", "(III)I"⟩
abbrev b_Products_numberOf : ByteArray := prog_7_method_12_code
def y_Products_numberOf : MethodName := ⟨R_Products, "numberOf", "(II)I"⟩
abbrev b_Terms_add : ByteArray := prog_8_method_6_code
def y_Terms_add : MethodName := ⟨R_Terms, "add", "(II)V"⟩
abbrev b_Terms_size : ByteArray := prog_8_method_2_code
def y_Terms_size : MethodName := ⟨R_Terms, "size", "()I"⟩
abbrev b_Main_tautology : ByteArray := prog_1_method_9_code
def y_Main_tautology : MethodName := ⟨R_Main, "tautology", "()Z"⟩
abbrev b_Main_order : ByteArray := prog_1_method_15_code
def y_Main_order : MethodName := ⟨R_Main, "order", "()I"⟩
abbrev b_Diagrams_nodes : ByteArray := prog_4_method_3_code
def y_Diagrams_nodes : MethodName := ⟨R_Diagrams, "nodes", "(ILCoverRows$Cubes;)I"⟩
abbrev b_Diagrams_fillAsked : ByteArray := prog_4_method_4_code
def y_Diagrams_fillAsked : MethodName := ⟨R_Diagrams, "fillAsked", "(I)V"⟩
abbrev b_Diagrams_inputAfter : ByteArray := prog_4_method_5_code
def y_Diagrams_inputAfter : MethodName := ⟨R_Diagrams, "inputAfter", "(II)I"⟩
abbrev b_Cubes_on : ByteArray := prog_3_method_8_code
def y_Cubes_on : MethodName := ⟨R_Cubes, "on", "(I)I"⟩
abbrev b_Diagrams_reordered : ByteArray := prog_4_method_6_code
def y_Diagrams_reordered : MethodName := ⟨R_Diagrams, "reordered", "(I)I"⟩
abbrev b_Diagrams_nodesOfLevel : ByteArray := prog_4_method_7_code
def y_Diagrams_nodesOfLevel : MethodName := ⟨R_Diagrams, "nodesOfLevel", "(I)I"⟩
abbrev b_Diagrams_isSeen : ByteArray := prog_4_method_8_code
def y_Diagrams_isSeen : MethodName := ⟨R_Diagrams, "isSeen", "(II)Z"⟩
abbrev b_Diagrams_orders : ByteArray := prog_4_method_2_code
def y_Diagrams_orders : MethodName := ⟨R_Diagrams, "orders", "()I"⟩
abbrev b_Main_clear : ByteArray := prog_1_method_18_code
def y_Main_clear : MethodName := ⟨R_Main, "clear", "()V"⟩
abbrev b_Cubes_dropAll : ByteArray := prog_3_method_5_code
def y_Cubes_dropAll : MethodName := ⟨R_Cubes, "dropAll", "()V"⟩
abbrev b_Main_cube : ByteArray := prog_1_method_2_code
def y_Main_cube : MethodName := ⟨R_Main, "cube", "()I"⟩
abbrev b_Cubes_isFull : ByteArray := prog_3_method_3_code
def y_Cubes_isFull : MethodName := ⟨R_Cubes, "isFull", "()Z"⟩
abbrev b_Cubes_add : ByteArray := prog_3_method_4_code
def y_Cubes_add : MethodName := ⟨R_Cubes, "add", "()I"⟩
abbrev b_Products_allFree : ByteArray := prog_7_method_6_code
def y_Products_allFree : MethodName := ⟨R_Products, "allFree", "()I"⟩
abbrev b_Main_literal : ByteArray := prog_1_method_3_code
def y_Main_literal : MethodName := ⟨R_Main, "literal", "(III)Z"⟩
abbrev b_Cubes_holds : ByteArray := prog_3_method_2_code
def y_Cubes_holds : MethodName := ⟨R_Cubes, "holds", "(I)Z"⟩
abbrev b_Cubes_setDigit : ByteArray := prog_3_method_6_code
def y_Cubes_setDigit : MethodName := ⟨R_Cubes, "setDigit", "(III)Z"⟩
abbrev b_Main_to : ByteArray := prog_1_method_4_code
def y_Main_to : MethodName := ⟨R_Main, "to", "(III)Z"⟩
abbrev b_Cubes_setKind : ByteArray := prog_3_method_7_code
def y_Cubes_setKind : MethodName := ⟨R_Cubes, "setKind", "(III)Z"⟩
abbrev b_Main_prime : ByteArray := prog_1_method_6_code
def y_Main_prime : MethodName := ⟨R_Main, "prime", "(II)I"⟩
abbrev b_Terms_holds : ByteArray := prog_8_method_3_code
def y_Terms_holds : MethodName := ⟨R_Terms, "holds", "(I)Z"⟩
abbrev b_Main_isColumn : ByteArray := prog_1_method_20_code
def y_Main_isColumn : MethodName := ⟨R_Main, "isColumn", "(I)Z"⟩
abbrev b_Terms_column : ByteArray := prog_8_method_8_code
def y_Terms_column : MethodName := ⟨R_Terms, "column", "(II)I"⟩
abbrev b_Main_run : ByteArray := prog_1_method_7_code
def y_Main_run : MethodName := ⟨R_Main, "run", "(ZJ)I"⟩
abbrev b_CoverFinder_find : ByteArray := prog_2_method_3_code
def y_CoverFinder_find : MethodName := ⟨R_CoverFinder, "find", "(LCoverRows$Terms;LCoverRows$Cubes;Z)V"⟩
abbrev b_CoverFinder_fillRows : ByteArray := prog_2_method_4_code
def y_CoverFinder_fillRows : MethodName := ⟨R_CoverFinder, "fillRows", "(LCoverRows$Terms;LCoverRows$Cubes;)V"⟩
abbrev b_Terms_hadFor : ByteArray := prog_8_method_10_code
def y_Terms_hadFor : MethodName := ⟨R_Terms, "hadFor", "(II)I"⟩
abbrev b_Terms_costOf : ByteArray := prog_8_method_9_code
def y_Terms_costOf : MethodName := ⟨R_Terms, "costOf", "(I)I"⟩
abbrev b_Products_care : ByteArray := prog_7_method_7_code
def y_Products_care : MethodName := ⟨R_Products, "care", "(I)I"⟩
abbrev b_JInteger_bitCount_II : ByteArray := prog_15_method_49_code
def y_JInteger_bitCount_II : MethodName := ⟨"java/lang/Integer", "bitCount", "(I)I"⟩
abbrev b_CoverFinder_weigh : ByteArray := prog_2_method_5_code
def y_CoverFinder_weigh : MethodName := ⟨R_CoverFinder, "weigh", "(I)J"⟩
abbrev b_CoverFinder_haversOf : ByteArray := prog_2_method_7_code
def y_CoverFinder_haversOf : MethodName := ⟨R_CoverFinder, "haversOf", "(I)J"⟩
abbrev b_CoverFinder_quickSet : ByteArray := prog_2_method_9_code
def y_CoverFinder_quickSet : MethodName := ⟨R_CoverFinder, "quickSet", "()J"⟩
abbrev b_CoverFinder_quickPick : ByteArray := prog_2_method_10_code
def y_CoverFinder_quickPick : MethodName := ⟨R_CoverFinder, "quickPick", "(I)I"⟩
abbrev b_CoverFinder_isCover : ByteArray := prog_2_method_11_code
def y_CoverFinder_isCover : MethodName := ⟨R_CoverFinder, "isCover", "(J)Z"⟩
abbrev b_CoverFinder_isIn : ByteArray := prog_2_method_8_code
def y_CoverFinder_isIn : MethodName := ⟨R_CoverFinder, "isIn", "(JI)Z"⟩
abbrev b_CoverFinder_weightOf : ByteArray := prog_2_method_6_code
def y_CoverFinder_weightOf : MethodName := ⟨R_CoverFinder, "weightOf", "(J)J"⟩
abbrev b_CoverFinder_improve : ByteArray := prog_2_method_12_code
def y_CoverFinder_improve : MethodName := ⟨R_CoverFinder, "improve", "(IJJJI)V"⟩
abbrev b_CoverFinder_keepIfLighter : ByteArray := prog_2_method_14_code
def y_CoverFinder_keepIfLighter : MethodName := ⟨R_CoverFinder, "keepIfLighter", "(JJ)V"⟩
abbrev b_CoverFinder_rarestPoint : ByteArray := prog_2_method_15_code
def y_CoverFinder_rarestPoint : MethodName := ⟨R_CoverFinder, "rarestPoint", "(IJ)I"⟩
abbrev b_JLong_bitCount_JI : ByteArray := prog_16_method_50_code
def y_JLong_bitCount_JI : MethodName := ⟨"java/lang/Long", "bitCount", "(J)I"⟩
abbrev b_CoverFinder_withoutDominated : ByteArray := prog_2_method_16_code
def y_CoverFinder_withoutDominated : MethodName := ⟨R_CoverFinder, "withoutDominated", "(IJ)J"⟩
abbrev b_CoverFinder_isDominated : ByteArray := prog_2_method_17_code
def y_CoverFinder_isDominated : MethodName := ⟨R_CoverFinder, "isDominated", "(IIJ)Z"⟩
abbrev b_CoverFinder_leastWeight : ByteArray := prog_2_method_18_code
def y_CoverFinder_leastWeight : MethodName := ⟨R_CoverFinder, "leastWeight", "(IJ)J"⟩
abbrev b_JMath_min_JJJ : ByteArray := prog_17_method_70_code
def y_JMath_min_JJJ : MethodName := ⟨"java/lang/Math", "min", "(JJ)J"⟩
abbrev b_CoverFinder_tryHavers : ByteArray := prog_2_method_13_code
def y_CoverFinder_tryHavers : MethodName := ⟨R_CoverFinder, "tryHavers", "(JIJJJI)V"⟩
abbrev b_CoverFinder_found : ByteArray := prog_2_method_2_code
def y_CoverFinder_found : MethodName := ⟨R_CoverFinder, "found", "()J"⟩
abbrev b_Terms_takeFrom : ByteArray := prog_8_method_7_code
def y_Terms_takeFrom : MethodName := ⟨R_Terms, "takeFrom", "(LCoverRows$Terms;J)V"⟩
abbrev b_Division_forget : ByteArray := prog_5_method_2_code
def y_Division_forget : MethodName := ⟨R_Division, "forget", "()V"⟩
abbrev b_Main_at : ByteArray := prog_1_method_8_code
def y_Main_at : MethodName := ⟨R_Main, "at", "(II)I"⟩
abbrev b_Main_needKept : ByteArray := prog_1_method_19_code
def y_Main_needKept : MethodName := ⟨R_Main, "needKept", "()V"⟩
abbrev b_Main_cost : ByteArray := prog_1_method_10_code
def y_Main_cost : MethodName := ⟨R_Main, "cost", "()J"⟩
abbrev b_Main_kernels : ByteArray := prog_1_method_11_code
def y_Main_kernels : MethodName := ⟨R_Main, "kernels", "()I"⟩
abbrev b_Division_countKernels : ByteArray := prog_5_method_7_code
def y_Division_countKernels : MethodName := ⟨R_Division, "countKernels", "(LCoverRows$Terms;)I"⟩
abbrev b_Division_divideBy : ByteArray := prog_5_method_10_code
def y_Division_divideBy : MethodName := ⟨R_Division, "divideBy", "(LCoverRows$Terms;I)V"⟩
abbrev b_Terms_product : ByteArray := prog_8_method_4_code
def y_Terms_product : MethodName := ⟨R_Terms, "product", "(I)I"⟩
abbrev b_Products_bits : ByteArray := prog_7_method_8_code
def y_Products_bits : MethodName := ⟨R_Products, "bits", "(I)I"⟩
abbrev b_Division_addProduct : ByteArray := prog_5_method_11_code
def y_Division_addProduct : MethodName := ⟨R_Division, "addProduct", "(II)V"⟩
abbrev b_Division_isKernel : ByteArray := prog_5_method_8_code
def y_Division_isKernel : MethodName := ⟨R_Division, "isKernel", "()Z"⟩
abbrev b_Division_isKnown : ByteArray := prog_5_method_9_code
def y_Division_isKnown : MethodName := ⟨R_Division, "isKnown", "(I)Z"⟩
abbrev b_Main_divide : ByteArray := prog_1_method_12_code
def y_Main_divide : MethodName := ⟨R_Main, "divide", "(I)I"⟩
abbrev b_Main_hasBitFrom : ByteArray := prog_1_method_21_code
def y_Main_hasBitFrom : MethodName := ⟨R_Main, "hasBitFrom", "(II)Z"⟩
abbrev b_Division_keepQuotient : ByteArray := prog_5_method_5_code
def y_Division_keepQuotient : MethodName := ⟨R_Division, "keepQuotient", "(LCoverRows$Terms;I)I"⟩
abbrev b_Division_fillRow : ByteArray := prog_5_method_6_code
def y_Division_fillRow : MethodName := ⟨R_Division, "fillRow", "(JJ)V"⟩
abbrev b_Main_quotient : ByteArray := prog_1_method_13_code
def y_Main_quotient : MethodName := ⟨R_Main, "quotient", "(I)I"⟩
abbrev b_Division_holds : ByteArray := prog_5_method_3_code
def y_Division_holds : MethodName := ⟨R_Division, "holds", "(I)Z"⟩
abbrev b_Division_product : ByteArray := prog_5_method_4_code
def y_Division_product : MethodName := ⟨R_Division, "product", "(I)I"⟩
abbrev b_Main_diagram : ByteArray := prog_1_method_14_code
def y_Main_diagram : MethodName := ⟨R_Main, "diagram", "(I)I"⟩
abbrev b_Main_equal : ByteArray := prog_1_method_16_code
def y_Main_equal : MethodName := ⟨R_Main, "equal", "()Z"⟩
abbrev b_Terms_hadByAllFor : ByteArray := prog_8_method_11_code
def y_Terms_hadByAllFor : MethodName := ⟨R_Terms, "hadByAllFor", "(I)I"⟩
abbrev b_Main_value : ByteArray := prog_1_method_17_code
def y_Main_value : MethodName := ⟨R_Main, "value", "(JI)Z"⟩
abbrev b_Ref_init : ByteArray := prog_10_method_1_code
def y_Ref_init : MethodName := ⟨R_Ref, "<init>", "(II)V"⟩
abbrev b_Ref_thrown : ByteArray := prog_10_method_2_code
def y_Ref_thrown : MethodName := ⟨R_Ref, "thrown", "()I"⟩
abbrev b_Ref_cube : ByteArray := prog_10_method_6_code
def y_Ref_cube : MethodName := ⟨R_Ref, "cube", "()I"⟩
abbrev b_Ref_literal : ByteArray := prog_10_method_7_code
def y_Ref_literal : MethodName := ⟨R_Ref, "literal", "(III)Z"⟩
abbrev b_Ref_to : ByteArray := prog_10_method_8_code
def y_Ref_to : MethodName := ⟨R_Ref, "to", "(III)Z"⟩
abbrev b_Ref_primes : ByteArray := prog_10_method_12_code
def y_Ref_primes : MethodName := ⟨R_Ref, "primes", "()I"⟩
abbrev b_Ref_findPrimes : ByteArray := prog_10_method_11_code
def y_Ref_findPrimes : MethodName := ⟨R_Ref, "findPrimes", "()V"⟩
abbrev b_Ref_work : ByteArray := prog_10_method_9_code
def y_Ref_work : MethodName := ⟨R_Ref, "work", "()V"⟩
abbrev b_Ref_points : ByteArray := prog_10_method_4_code
def y_Ref_points : MethodName := ⟨R_Ref, "points", "(I)I"⟩
abbrev b_Ref_digit : ByteArray := prog_10_method_3_code
def y_Ref_digit : MethodName := ⟨R_Ref, "digit", "(II)I"⟩
abbrev b_Ref_outputsOf : ByteArray := prog_10_method_10_code
def y_Ref_outputsOf : MethodName := ⟨R_Ref, "outputsOf", "(I)I"⟩
abbrev b_Ref_costOf : ByteArray := prog_10_method_5_code
def y_Ref_costOf : MethodName := ⟨R_Ref, "costOf", "(II)I"⟩
abbrev b_Ref_prime : ByteArray := prog_10_method_13_code
def y_Ref_prime : MethodName := ⟨R_Ref, "prime", "(II)I"⟩
abbrev b_Ref_run : ByteArray := prog_10_method_18_code
def y_Ref_run : MethodName := ⟨R_Ref, "run", "(ZJ)I"⟩
abbrev b_Ref_exact : ByteArray := prog_10_method_16_code
def y_Ref_exact : MethodName := ⟨R_Ref, "exact", "(I)I"⟩
abbrev b_Ref_tryAll : ByteArray := prog_10_method_15_code
def y_Ref_tryAll : MethodName := ⟨R_Ref, "tryAll", "(II)Z"⟩
abbrev b_Ref_quick : ByteArray := prog_10_method_17_code
def y_Ref_quick : MethodName := ⟨R_Ref, "quick", "(I)I"⟩
abbrev b_Ref_ones : ByteArray := prog_10_method_14_code
def y_Ref_ones : MethodName := ⟨R_Ref, "ones", "(I)I"⟩
abbrev b_Ref_at : ByteArray := prog_10_method_19_code
def y_Ref_at : MethodName := ⟨R_Ref, "at", "(II)I"⟩
abbrev b_Ref_tautology : ByteArray := prog_10_method_20_code
def y_Ref_tautology : MethodName := ⟨R_Ref, "tautology", "()Z"⟩
abbrev b_Ref_cost : ByteArray := prog_10_method_21_code
def y_Ref_cost : MethodName := ⟨R_Ref, "cost", "()J"⟩
abbrev b_Ref_equal : ByteArray := prog_10_method_23_code
def y_Ref_equal : MethodName := ⟨R_Ref, "equal", "()Z"⟩
abbrev b_Ref_keptPoints : ByteArray := prog_10_method_22_code
def y_Ref_keptPoints : MethodName := ⟨R_Ref, "keptPoints", "(I)I"⟩
abbrev b_Ref_value : ByteArray := prog_10_method_24_code
def y_Ref_value : MethodName := ⟨R_Ref, "value", "(JI)Z"⟩
abbrev b_Ref_divide : ByteArray := prog_10_method_27_code
def y_Ref_divide : MethodName := ⟨R_Ref, "divide", "(I)I"⟩
abbrev b_Ref_isIn : ByteArray := prog_10_method_26_code
def y_Ref_isIn : MethodName := ⟨R_Ref, "isIn", "(II)Z"⟩
abbrev b_Ref_divided : ByteArray := prog_10_method_25_code
def y_Ref_divided : MethodName := ⟨R_Ref, "divided", "(II)I"⟩
abbrev b_Ref_quotient : ByteArray := prog_10_method_28_code
def y_Ref_quotient : MethodName := ⟨R_Ref, "quotient", "(I)I"⟩
abbrev b_Ref_kernels : ByteArray := prog_10_method_30_code
def y_Ref_kernels : MethodName := ⟨R_Ref, "kernels", "()I"⟩
abbrev b_Ref_isKernel : ByteArray := prog_10_method_29_code
def y_Ref_isKernel : MethodName := ⟨R_Ref, "isKernel", "(I)Z"⟩
abbrev b_Ref_diagram : ByteArray := prog_10_method_36_code
def y_Ref_diagram : MethodName := ⟨R_Ref, "diagram", "(I)I"⟩
abbrev b_Ref_orders : ByteArray := prog_10_method_31_code
def y_Ref_orders : MethodName := ⟨R_Ref, "orders", "()I"⟩
abbrev b_Ref_nodes : ByteArray := prog_10_method_35_code
def y_Ref_nodes : MethodName := ⟨R_Ref, "nodes", "(I)I"⟩
abbrev b_Ref_inputAt : ByteArray := prog_10_method_32_code
def y_Ref_inputAt : MethodName := ⟨R_Ref, "inputAt", "(II)I"⟩
abbrev b_Ref_part : ByteArray := prog_10_method_33_code
def y_Ref_part : MethodName := ⟨R_Ref, "part", "(IIII)I"⟩
abbrev b_Ref_asks : ByteArray := prog_10_method_34_code
def y_Ref_asks : MethodName := ⟨R_Ref, "asks", "(II)Z"⟩
abbrev b_Ref_order : ByteArray := prog_10_method_37_code
def y_Ref_order : MethodName := ⟨R_Ref, "order", "()I"⟩
abbrev b_Ref_clear : ByteArray := prog_10_method_38_code
def y_Ref_clear : MethodName := ⟨R_Ref, "clear", "()V"⟩
end
section
theorem d_CoverFinder_init_0 : decode b_CoverFinder_init 0 = .ok ((.aload_n 0), 1) := by decide +kernel
theorem d_CoverFinder_init_1 : decode b_CoverFinder_init 1 = .ok ((.invokespecial 3), 3) := by decide +kernel
theorem d_CoverFinder_init_4 : decode b_CoverFinder_init 4 = .ok ((.aload_n 0), 1) := by decide +kernel
theorem d_CoverFinder_init_5 : decode b_CoverFinder_init 5 = .ok ((.bipush 81), 2) := by decide +kernel
theorem d_CoverFinder_init_7 : decode b_CoverFinder_init 7 = .ok ((.newarray .int), 2) := by decide +kernel
theorem d_CoverFinder_init_9 : decode b_CoverFinder_init 9 = .ok ((.putfield 9), 3) := by decide +kernel
theorem d_CoverFinder_init_12 : decode b_CoverFinder_init 12 = .ok ((.aload_n 0), 1) := by decide +kernel
theorem d_CoverFinder_init_13 : decode b_CoverFinder_init 13 = .ok ((.bipush 81), 2) := by decide +kernel
theorem d_CoverFinder_init_15 : decode b_CoverFinder_init 15 = .ok ((.newarray .int), 2) := by decide +kernel
theorem d_CoverFinder_init_17 : decode b_CoverFinder_init 17 = .ok ((.putfield 15), 3) := by decide +kernel
theorem d_CoverFinder_init_20 : decode b_CoverFinder_init 20 = .ok ((.aload_n 0), 1) := by decide +kernel
theorem d_CoverFinder_init_21 : decode b_CoverFinder_init 21 = .ok ((.bipush 81), 2) := by decide +kernel
theorem d_CoverFinder_init_23 : decode b_CoverFinder_init 23 = .ok ((.newarray .long), 2) := by decide +kernel
theorem d_CoverFinder_init_25 : decode b_CoverFinder_init 25 = .ok ((.putfield 18), 3) := by decide +kernel
theorem d_CoverFinder_init_28 : decode b_CoverFinder_init 28 = .ok ((.aload_n 0), 1) := by decide +kernel
theorem d_CoverFinder_init_29 : decode b_CoverFinder_init 29 = .ok ((.bipush 32), 2) := by decide +kernel
theorem d_CoverFinder_init_31 : decode b_CoverFinder_init 31 = .ok ((.newarray .long), 2) := by decide +kernel
theorem d_CoverFinder_init_33 : decode b_CoverFinder_init 33 = .ok ((.putfield 22), 3) := by decide +kernel
theorem d_CoverFinder_init_36 : decode b_CoverFinder_init 36 = .ok ((.aload_n 0), 1) := by decide +kernel
theorem d_CoverFinder_init_37 : decode b_CoverFinder_init 37 = .ok ((.bipush 32), 2) := by decide +kernel
theorem d_CoverFinder_init_39 : decode b_CoverFinder_init 39 = .ok ((.newarray .int), 2) := by decide +kernel
theorem d_CoverFinder_init_41 : decode b_CoverFinder_init 41 = .ok ((.putfield 25), 3) := by decide +kernel
theorem d_CoverFinder_init_44 : decode b_CoverFinder_init 44 = .ok ((.aload_n 0), 1) := by decide +kernel
theorem d_CoverFinder_init_45 : decode b_CoverFinder_init 45 = .ok ((.iload_n 1), 1) := by decide +kernel
theorem d_CoverFinder_init_46 : decode b_CoverFinder_init 46 = .ok ((.putfield 28), 3) := by decide +kernel
theorem d_CoverFinder_init_49 : decode b_CoverFinder_init 49 = .ok (.return_, 1) := by decide +kernel
theorem d_CoverFinder_find_0 : decode b_CoverFinder_find 0 = .ok ((.aload_n 0), 1) := by decide +kernel
theorem d_CoverFinder_find_1 : decode b_CoverFinder_find 1 = .ok ((.aload_n 1), 1) := by decide +kernel
theorem d_CoverFinder_find_2 : decode b_CoverFinder_find 2 = .ok ((.aload_n 2), 1) := by decide +kernel
theorem d_CoverFinder_find_3 : decode b_CoverFinder_find 3 = .ok ((.invokevirtual 36), 3) := by decide +kernel
theorem d_CoverFinder_find_6 : decode b_CoverFinder_find 6 = .ok ((.aload_n 0), 1) := by decide +kernel
theorem d_CoverFinder_find_7 : decode b_CoverFinder_find 7 = .ok ((.aload_n 0), 1) := by decide +kernel
theorem d_CoverFinder_find_8 : decode b_CoverFinder_find 8 = .ok ((.invokevirtual 40), 3) := by decide +kernel
theorem d_CoverFinder_find_11 : decode b_CoverFinder_find 11 = .ok ((.putfield 32), 3) := by decide +kernel
theorem d_CoverFinder_find_14 : decode b_CoverFinder_find 14 = .ok ((.iload_n 3), 1) := by decide +kernel
theorem d_CoverFinder_find_15 : decode b_CoverFinder_find 15 = .ok ((.ifCond .eq 53), 3) := by decide +kernel
theorem d_CoverFinder_find_18 : decode b_CoverFinder_find 18 = .ok ((.aload_n 0), 1) := by decide +kernel
theorem d_CoverFinder_find_19 : decode b_CoverFinder_find 19 = .ok ((.aload_n 0), 1) := by decide +kernel
theorem d_CoverFinder_find_20 : decode b_CoverFinder_find 20 = .ok ((.aload_n 0), 1) := by decide +kernel
theorem d_CoverFinder_find_21 : decode b_CoverFinder_find 21 = .ok ((.getfield 32), 3) := by decide +kernel
theorem d_CoverFinder_find_24 : decode b_CoverFinder_find 24 = .ok ((.invokevirtual 44), 3) := by decide +kernel
theorem d_CoverFinder_find_27 : decode b_CoverFinder_find 27 = .ok ((.putfield 48), 3) := by decide +kernel
theorem d_CoverFinder_find_30 : decode b_CoverFinder_find 30 = .ok ((.aload_n 0), 1) := by decide +kernel
theorem d_CoverFinder_find_31 : decode b_CoverFinder_find 31 = .ok ((.getfield 51), 3) := by decide +kernel
theorem d_CoverFinder_find_34 : decode b_CoverFinder_find 34 = .ok ((.bipush 64), 2) := by decide +kernel
theorem d_CoverFinder_find_36 : decode b_CoverFinder_find 36 = .ok ((.if_icmp .ge 14), 3) := by decide +kernel
theorem d_CoverFinder_find_39 : decode b_CoverFinder_find 39 = .ok ((.lconst 1), 1) := by decide +kernel
theorem d_CoverFinder_find_40 : decode b_CoverFinder_find 40 = .ok ((.aload_n 0), 1) := by decide +kernel
theorem d_CoverFinder_find_41 : decode b_CoverFinder_find 41 = .ok ((.getfield 51), 3) := by decide +kernel
theorem d_CoverFinder_find_44 : decode b_CoverFinder_find 44 = .ok (.lshl, 1) := by decide +kernel
theorem d_CoverFinder_find_45 : decode b_CoverFinder_find 45 = .ok ((.lconst 1), 1) := by decide +kernel
theorem d_CoverFinder_find_46 : decode b_CoverFinder_find 46 = .ok (.lsub, 1) := by decide +kernel
theorem d_CoverFinder_find_47 : decode b_CoverFinder_find 47 = .ok ((.goto 6), 3) := by decide +kernel
theorem d_CoverFinder_find_50 : decode b_CoverFinder_find 50 = .ok ((.ldc2_w 56), 3) := by decide +kernel
theorem d_CoverFinder_find_53 : decode b_CoverFinder_find 53 = .ok ((.lstore 4), 2) := by decide +kernel
theorem d_CoverFinder_find_55 : decode b_CoverFinder_find 55 = .ok ((.aload_n 0), 1) := by decide +kernel
theorem d_CoverFinder_find_56 : decode b_CoverFinder_find 56 = .ok ((.aload_n 0), 1) := by decide +kernel
theorem d_CoverFinder_find_57 : decode b_CoverFinder_find 57 = .ok ((.getfield 58), 3) := by decide +kernel
theorem d_CoverFinder_find_60 : decode b_CoverFinder_find 60 = .ok ((.lload 4), 2) := by decide +kernel
theorem d_CoverFinder_find_62 : decode b_CoverFinder_find 62 = .ok ((.lconst 0), 1) := by decide +kernel
theorem d_CoverFinder_find_63 : decode b_CoverFinder_find 63 = .ok ((.lconst 0), 1) := by decide +kernel
theorem d_CoverFinder_find_64 : decode b_CoverFinder_find 64 = .ok ((.iconst 0), 1) := by decide +kernel
theorem d_CoverFinder_find_65 : decode b_CoverFinder_find 65 = .ok ((.invokevirtual 61), 3) := by decide +kernel
theorem d_CoverFinder_find_68 : decode b_CoverFinder_find 68 = .ok (.return_, 1) := by decide +kernel
theorem d_CoverFinder_fillRows_0 : decode b_CoverFinder_fillRows 0 = .ok ((.aload_n 0), 1) := by decide +kernel
theorem d_CoverFinder_fillRows_1 : decode b_CoverFinder_fillRows 1 = .ok ((.aload_n 1), 1) := by decide +kernel
theorem d_CoverFinder_fillRows_2 : decode b_CoverFinder_fillRows 2 = .ok ((.invokevirtual 65), 3) := by decide +kernel
theorem d_CoverFinder_fillRows_5 : decode b_CoverFinder_fillRows 5 = .ok ((.putfield 51), 3) := by decide +kernel
theorem d_CoverFinder_fillRows_8 : decode b_CoverFinder_fillRows 8 = .ok ((.aload_n 0), 1) := by decide +kernel
theorem d_CoverFinder_fillRows_9 : decode b_CoverFinder_fillRows 9 = .ok ((.iconst 0), 1) := by decide +kernel
theorem d_CoverFinder_fillRows_10 : decode b_CoverFinder_fillRows 10 = .ok ((.putfield 58), 3) := by decide +kernel
theorem d_CoverFinder_fillRows_13 : decode b_CoverFinder_fillRows 13 = .ok ((.iconst 0), 1) := by decide +kernel
theorem d_CoverFinder_fillRows_14 : decode b_CoverFinder_fillRows 14 = .ok ((.istore_n 3), 1) := by decide +kernel
theorem d_CoverFinder_fillRows_15 : decode b_CoverFinder_fillRows 15 = .ok ((.iload_n 3), 1) := by decide +kernel
theorem d_CoverFinder_fillRows_16 : decode b_CoverFinder_fillRows 16 = .ok ((.aload_n 0), 1) := by decide +kernel
theorem d_CoverFinder_fillRows_17 : decode b_CoverFinder_fillRows 17 = .ok ((.getfield 28), 3) := by decide +kernel
theorem d_CoverFinder_fillRows_20 : decode b_CoverFinder_fillRows 20 = .ok ((.if_icmp .ge 28), 3) := by decide +kernel
theorem d_CoverFinder_fillRows_23 : decode b_CoverFinder_fillRows 23 = .ok ((.aload_n 0), 1) := by decide +kernel
theorem d_CoverFinder_fillRows_24 : decode b_CoverFinder_fillRows 24 = .ok (.dup, 1) := by decide +kernel
theorem d_CoverFinder_fillRows_25 : decode b_CoverFinder_fillRows 25 = .ok ((.getfield 58), 3) := by decide +kernel
theorem d_CoverFinder_fillRows_28 : decode b_CoverFinder_fillRows 28 = .ok ((.aload_n 2), 1) := by decide +kernel
theorem d_CoverFinder_fillRows_29 : decode b_CoverFinder_fillRows 29 = .ok ((.iload_n 3), 1) := by decide +kernel
theorem d_CoverFinder_fillRows_30 : decode b_CoverFinder_fillRows 30 = .ok ((.invokevirtual 70), 3) := by decide +kernel
theorem d_CoverFinder_fillRows_33 : decode b_CoverFinder_fillRows 33 = .ok ((.iload_n 3), 1) := by decide +kernel
theorem d_CoverFinder_fillRows_34 : decode b_CoverFinder_fillRows 34 = .ok ((.bipush 16), 2) := by decide +kernel
theorem d_CoverFinder_fillRows_36 : decode b_CoverFinder_fillRows 36 = .ok (.imul, 1) := by decide +kernel
theorem d_CoverFinder_fillRows_37 : decode b_CoverFinder_fillRows 37 = .ok (.ishl, 1) := by decide +kernel
theorem d_CoverFinder_fillRows_38 : decode b_CoverFinder_fillRows 38 = .ok (.ior, 1) := by decide +kernel
theorem d_CoverFinder_fillRows_39 : decode b_CoverFinder_fillRows 39 = .ok ((.putfield 58), 3) := by decide +kernel
theorem d_CoverFinder_fillRows_42 : decode b_CoverFinder_fillRows 42 = .ok ((.iinc 3 1), 3) := by decide +kernel
theorem d_CoverFinder_fillRows_45 : decode b_CoverFinder_fillRows 45 = .ok ((.goto (-30)), 3) := by decide +kernel
theorem d_CoverFinder_fillRows_48 : decode b_CoverFinder_fillRows 48 = .ok ((.iconst 0), 1) := by decide +kernel
theorem d_CoverFinder_fillRows_49 : decode b_CoverFinder_fillRows 49 = .ok ((.istore_n 3), 1) := by decide +kernel
theorem d_CoverFinder_fillRows_50 : decode b_CoverFinder_fillRows 50 = .ok ((.iload_n 3), 1) := by decide +kernel
theorem d_CoverFinder_fillRows_51 : decode b_CoverFinder_fillRows 51 = .ok ((.aload_n 0), 1) := by decide +kernel
theorem d_CoverFinder_fillRows_52 : decode b_CoverFinder_fillRows 52 = .ok ((.getfield 51), 3) := by decide +kernel
theorem d_CoverFinder_fillRows_55 : decode b_CoverFinder_fillRows 55 = .ok ((.if_icmp .ge 83), 3) := by decide +kernel
theorem d_CoverFinder_fillRows_58 : decode b_CoverFinder_fillRows 58 = .ok ((.iconst 0), 1) := by decide +kernel
theorem d_CoverFinder_fillRows_59 : decode b_CoverFinder_fillRows 59 = .ok ((.istore 4), 2) := by decide +kernel
theorem d_CoverFinder_fillRows_61 : decode b_CoverFinder_fillRows 61 = .ok ((.iconst 0), 1) := by decide +kernel
theorem d_CoverFinder_fillRows_62 : decode b_CoverFinder_fillRows 62 = .ok ((.istore 5), 2) := by decide +kernel
theorem d_CoverFinder_fillRows_64 : decode b_CoverFinder_fillRows 64 = .ok ((.iload 5), 2) := by decide +kernel
theorem d_CoverFinder_fillRows_66 : decode b_CoverFinder_fillRows 66 = .ok ((.aload_n 0), 1) := by decide +kernel
theorem d_CoverFinder_fillRows_67 : decode b_CoverFinder_fillRows 67 = .ok ((.getfield 28), 3) := by decide +kernel
theorem d_CoverFinder_fillRows_70 : decode b_CoverFinder_fillRows 70 = .ok ((.if_icmp .ge 27), 3) := by decide +kernel
theorem d_CoverFinder_fillRows_73 : decode b_CoverFinder_fillRows 73 = .ok ((.iload 4), 2) := by decide +kernel
theorem d_CoverFinder_fillRows_75 : decode b_CoverFinder_fillRows 75 = .ok ((.aload_n 1), 1) := by decide +kernel
theorem d_CoverFinder_fillRows_76 : decode b_CoverFinder_fillRows 76 = .ok ((.iload_n 3), 1) := by decide +kernel
theorem d_CoverFinder_fillRows_77 : decode b_CoverFinder_fillRows 77 = .ok ((.iload 5), 2) := by decide +kernel
theorem d_CoverFinder_fillRows_79 : decode b_CoverFinder_fillRows 79 = .ok ((.invokevirtual 76), 3) := by decide +kernel
theorem d_CoverFinder_fillRows_82 : decode b_CoverFinder_fillRows 82 = .ok ((.iload 5), 2) := by decide +kernel
theorem d_CoverFinder_fillRows_84 : decode b_CoverFinder_fillRows 84 = .ok ((.bipush 16), 2) := by decide +kernel
theorem d_CoverFinder_fillRows_86 : decode b_CoverFinder_fillRows 86 = .ok (.imul, 1) := by decide +kernel
theorem d_CoverFinder_fillRows_87 : decode b_CoverFinder_fillRows 87 = .ok (.ishl, 1) := by decide +kernel
theorem d_CoverFinder_fillRows_88 : decode b_CoverFinder_fillRows 88 = .ok (.ior, 1) := by decide +kernel
theorem d_CoverFinder_fillRows_89 : decode b_CoverFinder_fillRows 89 = .ok ((.istore 4), 2) := by decide +kernel
theorem d_CoverFinder_fillRows_91 : decode b_CoverFinder_fillRows 91 = .ok ((.iinc 5 1), 3) := by decide +kernel
theorem d_CoverFinder_fillRows_94 : decode b_CoverFinder_fillRows 94 = .ok ((.goto (-30)), 3) := by decide +kernel
theorem d_CoverFinder_fillRows_97 : decode b_CoverFinder_fillRows 97 = .ok ((.aload_n 0), 1) := by decide +kernel
theorem d_CoverFinder_fillRows_98 : decode b_CoverFinder_fillRows 98 = .ok ((.getfield 9), 3) := by decide +kernel
theorem d_CoverFinder_fillRows_101 : decode b_CoverFinder_fillRows 101 = .ok ((.iload_n 3), 1) := by decide +kernel
theorem d_CoverFinder_fillRows_102 : decode b_CoverFinder_fillRows 102 = .ok ((.iload 4), 2) := by decide +kernel
theorem d_CoverFinder_fillRows_104 : decode b_CoverFinder_fillRows 104 = .ok ((.aload_n 0), 1) := by decide +kernel
theorem d_CoverFinder_fillRows_105 : decode b_CoverFinder_fillRows 105 = .ok ((.getfield 58), 3) := by decide +kernel
theorem d_CoverFinder_fillRows_108 : decode b_CoverFinder_fillRows 108 = .ok (.iand, 1) := by decide +kernel
theorem d_CoverFinder_fillRows_109 : decode b_CoverFinder_fillRows 109 = .ok (.iastore, 1) := by decide +kernel
theorem d_CoverFinder_fillRows_110 : decode b_CoverFinder_fillRows 110 = .ok ((.aload_n 0), 1) := by decide +kernel
theorem d_CoverFinder_fillRows_111 : decode b_CoverFinder_fillRows 111 = .ok ((.getfield 15), 3) := by decide +kernel
theorem d_CoverFinder_fillRows_114 : decode b_CoverFinder_fillRows 114 = .ok ((.iload_n 3), 1) := by decide +kernel
theorem d_CoverFinder_fillRows_115 : decode b_CoverFinder_fillRows 115 = .ok ((.aload_n 1), 1) := by decide +kernel
theorem d_CoverFinder_fillRows_116 : decode b_CoverFinder_fillRows 116 = .ok ((.iload_n 3), 1) := by decide +kernel
theorem d_CoverFinder_fillRows_117 : decode b_CoverFinder_fillRows 117 = .ok ((.invokevirtual 80), 3) := by decide +kernel
theorem d_CoverFinder_fillRows_120 : decode b_CoverFinder_fillRows 120 = .ok (.iastore, 1) := by decide +kernel
theorem d_CoverFinder_fillRows_121 : decode b_CoverFinder_fillRows 121 = .ok ((.aload_n 0), 1) := by decide +kernel
theorem d_CoverFinder_fillRows_122 : decode b_CoverFinder_fillRows 122 = .ok ((.getfield 18), 3) := by decide +kernel
theorem d_CoverFinder_fillRows_125 : decode b_CoverFinder_fillRows 125 = .ok ((.iload_n 3), 1) := by decide +kernel
theorem d_CoverFinder_fillRows_126 : decode b_CoverFinder_fillRows 126 = .ok ((.aload_n 0), 1) := by decide +kernel
theorem d_CoverFinder_fillRows_127 : decode b_CoverFinder_fillRows 127 = .ok ((.iload_n 3), 1) := by decide +kernel
theorem d_CoverFinder_fillRows_128 : decode b_CoverFinder_fillRows 128 = .ok ((.invokevirtual 83), 3) := by decide +kernel
theorem d_CoverFinder_fillRows_131 : decode b_CoverFinder_fillRows 131 = .ok (.lastore, 1) := by decide +kernel
theorem d_CoverFinder_fillRows_132 : decode b_CoverFinder_fillRows 132 = .ok ((.iinc 3 1), 3) := by decide +kernel
theorem d_CoverFinder_fillRows_135 : decode b_CoverFinder_fillRows 135 = .ok ((.goto (-85)), 3) := by decide +kernel
theorem d_CoverFinder_fillRows_138 : decode b_CoverFinder_fillRows 138 = .ok ((.iconst 0), 1) := by decide +kernel
theorem d_CoverFinder_fillRows_139 : decode b_CoverFinder_fillRows 139 = .ok ((.istore_n 3), 1) := by decide +kernel
theorem d_CoverFinder_fillRows_140 : decode b_CoverFinder_fillRows 140 = .ok ((.iload_n 3), 1) := by decide +kernel
theorem d_CoverFinder_fillRows_141 : decode b_CoverFinder_fillRows 141 = .ok ((.bipush 32), 2) := by decide +kernel
theorem d_CoverFinder_fillRows_143 : decode b_CoverFinder_fillRows 143 = .ok ((.if_icmp .ge 20), 3) := by decide +kernel
theorem d_CoverFinder_fillRows_146 : decode b_CoverFinder_fillRows 146 = .ok ((.aload_n 0), 1) := by decide +kernel
theorem d_CoverFinder_fillRows_147 : decode b_CoverFinder_fillRows 147 = .ok ((.getfield 22), 3) := by decide +kernel
theorem d_CoverFinder_fillRows_150 : decode b_CoverFinder_fillRows 150 = .ok ((.iload_n 3), 1) := by decide +kernel
theorem d_CoverFinder_fillRows_151 : decode b_CoverFinder_fillRows 151 = .ok ((.aload_n 0), 1) := by decide +kernel
theorem d_CoverFinder_fillRows_152 : decode b_CoverFinder_fillRows 152 = .ok ((.iload_n 3), 1) := by decide +kernel
theorem d_CoverFinder_fillRows_153 : decode b_CoverFinder_fillRows 153 = .ok ((.invokevirtual 87), 3) := by decide +kernel
theorem d_CoverFinder_fillRows_156 : decode b_CoverFinder_fillRows 156 = .ok (.lastore, 1) := by decide +kernel
theorem d_CoverFinder_fillRows_157 : decode b_CoverFinder_fillRows 157 = .ok ((.iinc 3 1), 3) := by decide +kernel
theorem d_CoverFinder_fillRows_160 : decode b_CoverFinder_fillRows 160 = .ok ((.goto (-20)), 3) := by decide +kernel
theorem d_CoverFinder_fillRows_163 : decode b_CoverFinder_fillRows 163 = .ok (.return_, 1) := by decide +kernel
theorem d_CoverFinder_weigh_0 : decode b_CoverFinder_weigh 0 = .ok ((.ldc2_w 90), 3) := by decide +kernel
theorem d_CoverFinder_weigh_3 : decode b_CoverFinder_weigh 3 = .ok ((.aload_n 0), 1) := by decide +kernel
theorem d_CoverFinder_weigh_4 : decode b_CoverFinder_weigh 4 = .ok ((.getfield 15), 3) := by decide +kernel
theorem d_CoverFinder_weigh_7 : decode b_CoverFinder_weigh 7 = .ok ((.iload_n 1), 1) := by decide +kernel
theorem d_CoverFinder_weigh_8 : decode b_CoverFinder_weigh 8 = .ok (.iaload, 1) := by decide +kernel
theorem d_CoverFinder_weigh_9 : decode b_CoverFinder_weigh 9 = .ok (.i2l, 1) := by decide +kernel
theorem d_CoverFinder_weigh_10 : decode b_CoverFinder_weigh 10 = .ok ((.bipush 48), 2) := by decide +kernel
theorem d_CoverFinder_weigh_12 : decode b_CoverFinder_weigh 12 = .ok (.lshl, 1) := by decide +kernel
theorem d_CoverFinder_weigh_13 : decode b_CoverFinder_weigh 13 = .ok (.ladd, 1) := by decide +kernel
theorem d_CoverFinder_weigh_14 : decode b_CoverFinder_weigh 14 = .ok ((.lconst 1), 1) := by decide +kernel
theorem d_CoverFinder_weigh_15 : decode b_CoverFinder_weigh 15 = .ok ((.bipush 47), 2) := by decide +kernel
theorem d_CoverFinder_weigh_17 : decode b_CoverFinder_weigh 17 = .ok ((.iload_n 1), 1) := by decide +kernel
theorem d_CoverFinder_weigh_18 : decode b_CoverFinder_weigh 18 = .ok (.isub, 1) := by decide +kernel
theorem d_CoverFinder_weigh_19 : decode b_CoverFinder_weigh 19 = .ok (.lshl, 1) := by decide +kernel
theorem d_CoverFinder_weigh_20 : decode b_CoverFinder_weigh 20 = .ok (.lsub, 1) := by decide +kernel
theorem d_CoverFinder_weigh_21 : decode b_CoverFinder_weigh 21 = .ok (.lreturn, 1) := by decide +kernel
theorem d_CoverFinder_haversOf_0 : decode b_CoverFinder_haversOf 0 = .ok ((.lconst 0), 1) := by decide +kernel
theorem d_CoverFinder_haversOf_1 : decode b_CoverFinder_haversOf 1 = .ok ((.lstore_n 2), 1) := by decide +kernel
theorem d_CoverFinder_haversOf_2 : decode b_CoverFinder_haversOf 2 = .ok ((.iconst 0), 1) := by decide +kernel
theorem d_CoverFinder_haversOf_3 : decode b_CoverFinder_haversOf 3 = .ok ((.istore 4), 2) := by decide +kernel
theorem d_CoverFinder_haversOf_5 : decode b_CoverFinder_haversOf 5 = .ok ((.iload 4), 2) := by decide +kernel
theorem d_CoverFinder_haversOf_7 : decode b_CoverFinder_haversOf 7 = .ok ((.aload_n 0), 1) := by decide +kernel
theorem d_CoverFinder_haversOf_8 : decode b_CoverFinder_haversOf 8 = .ok ((.getfield 51), 3) := by decide +kernel
theorem d_CoverFinder_haversOf_11 : decode b_CoverFinder_haversOf 11 = .ok ((.if_icmp .ge 31), 3) := by decide +kernel
theorem d_CoverFinder_haversOf_14 : decode b_CoverFinder_haversOf 14 = .ok ((.aload_n 0), 1) := by decide +kernel
theorem d_CoverFinder_haversOf_15 : decode b_CoverFinder_haversOf 15 = .ok ((.getfield 9), 3) := by decide +kernel
theorem d_CoverFinder_haversOf_18 : decode b_CoverFinder_haversOf 18 = .ok ((.iload 4), 2) := by decide +kernel
theorem d_CoverFinder_haversOf_20 : decode b_CoverFinder_haversOf 20 = .ok (.iaload, 1) := by decide +kernel
theorem d_CoverFinder_haversOf_21 : decode b_CoverFinder_haversOf 21 = .ok ((.iload_n 1), 1) := by decide +kernel
theorem d_CoverFinder_haversOf_22 : decode b_CoverFinder_haversOf 22 = .ok (.ishr, 1) := by decide +kernel
theorem d_CoverFinder_haversOf_23 : decode b_CoverFinder_haversOf 23 = .ok ((.iconst 1), 1) := by decide +kernel
theorem d_CoverFinder_haversOf_24 : decode b_CoverFinder_haversOf 24 = .ok (.iand, 1) := by decide +kernel
theorem d_CoverFinder_haversOf_25 : decode b_CoverFinder_haversOf 25 = .ok ((.iconst 1), 1) := by decide +kernel
theorem d_CoverFinder_haversOf_26 : decode b_CoverFinder_haversOf 26 = .ok ((.if_icmp .ne 10), 3) := by decide +kernel
theorem d_CoverFinder_haversOf_29 : decode b_CoverFinder_haversOf 29 = .ok ((.lload_n 2), 1) := by decide +kernel
theorem d_CoverFinder_haversOf_30 : decode b_CoverFinder_haversOf 30 = .ok ((.lconst 1), 1) := by decide +kernel
theorem d_CoverFinder_haversOf_31 : decode b_CoverFinder_haversOf 31 = .ok ((.iload 4), 2) := by decide +kernel
theorem d_CoverFinder_haversOf_33 : decode b_CoverFinder_haversOf 33 = .ok (.lshl, 1) := by decide +kernel
theorem d_CoverFinder_haversOf_34 : decode b_CoverFinder_haversOf 34 = .ok (.lor, 1) := by decide +kernel
theorem d_CoverFinder_haversOf_35 : decode b_CoverFinder_haversOf 35 = .ok ((.lstore_n 2), 1) := by decide +kernel
theorem d_CoverFinder_haversOf_36 : decode b_CoverFinder_haversOf 36 = .ok ((.iinc 4 1), 3) := by decide +kernel
theorem d_CoverFinder_haversOf_39 : decode b_CoverFinder_haversOf 39 = .ok ((.goto (-34)), 3) := by decide +kernel
theorem d_CoverFinder_haversOf_42 : decode b_CoverFinder_haversOf 42 = .ok ((.lload_n 2), 1) := by decide +kernel
theorem d_CoverFinder_haversOf_43 : decode b_CoverFinder_haversOf 43 = .ok (.lreturn, 1) := by decide +kernel
theorem d_CoverFinder_quickSet_0 : decode b_CoverFinder_quickSet 0 = .ok ((.lconst 0), 1) := by decide +kernel
theorem d_CoverFinder_quickSet_1 : decode b_CoverFinder_quickSet 1 = .ok ((.lstore_n 1), 1) := by decide +kernel
theorem d_CoverFinder_quickSet_2 : decode b_CoverFinder_quickSet 2 = .ok ((.aload_n 0), 1) := by decide +kernel
theorem d_CoverFinder_quickSet_3 : decode b_CoverFinder_quickSet 3 = .ok ((.getfield 58), 3) := by decide +kernel
theorem d_CoverFinder_quickSet_6 : decode b_CoverFinder_quickSet 6 = .ok ((.istore_n 3), 1) := by decide +kernel
theorem d_CoverFinder_quickSet_7 : decode b_CoverFinder_quickSet 7 = .ok ((.iconst 0), 1) := by decide +kernel
theorem d_CoverFinder_quickSet_8 : decode b_CoverFinder_quickSet 8 = .ok ((.istore 4), 2) := by decide +kernel
theorem d_CoverFinder_quickSet_10 : decode b_CoverFinder_quickSet 10 = .ok ((.iload_n 3), 1) := by decide +kernel
theorem d_CoverFinder_quickSet_11 : decode b_CoverFinder_quickSet 11 = .ok ((.ifCond .eq 60), 3) := by decide +kernel
theorem d_CoverFinder_quickSet_14 : decode b_CoverFinder_quickSet 14 = .ok ((.iload 4), 2) := by decide +kernel
theorem d_CoverFinder_quickSet_16 : decode b_CoverFinder_quickSet 16 = .ok ((.bipush 32), 2) := by decide +kernel
theorem d_CoverFinder_quickSet_18 : decode b_CoverFinder_quickSet 18 = .ok ((.if_icmp .ge 53), 3) := by decide +kernel
theorem d_CoverFinder_quickSet_21 : decode b_CoverFinder_quickSet 21 = .ok ((.aload_n 0), 1) := by decide +kernel
theorem d_CoverFinder_quickSet_22 : decode b_CoverFinder_quickSet 22 = .ok ((.iload_n 3), 1) := by decide +kernel
theorem d_CoverFinder_quickSet_23 : decode b_CoverFinder_quickSet 23 = .ok ((.invokevirtual 96), 3) := by decide +kernel
theorem d_CoverFinder_quickSet_26 : decode b_CoverFinder_quickSet 26 = .ok ((.istore 5), 2) := by decide +kernel
theorem d_CoverFinder_quickSet_28 : decode b_CoverFinder_quickSet 28 = .ok ((.iload 5), 2) := by decide +kernel
theorem d_CoverFinder_quickSet_30 : decode b_CoverFinder_quickSet 30 = .ok ((.iconst (-1)), 1) := by decide +kernel
theorem d_CoverFinder_quickSet_31 : decode b_CoverFinder_quickSet 31 = .ok ((.if_icmp .ne 6), 3) := by decide +kernel
theorem d_CoverFinder_quickSet_34 : decode b_CoverFinder_quickSet 34 = .ok ((.goto 37), 3) := by decide +kernel
theorem d_CoverFinder_quickSet_37 : decode b_CoverFinder_quickSet 37 = .ok ((.aload_n 0), 1) := by decide +kernel
theorem d_CoverFinder_quickSet_38 : decode b_CoverFinder_quickSet 38 = .ok ((.getfield 25), 3) := by decide +kernel
theorem d_CoverFinder_quickSet_41 : decode b_CoverFinder_quickSet 41 = .ok ((.iload 4), 2) := by decide +kernel
theorem d_CoverFinder_quickSet_43 : decode b_CoverFinder_quickSet 43 = .ok ((.iload 5), 2) := by decide +kernel
theorem d_CoverFinder_quickSet_45 : decode b_CoverFinder_quickSet 45 = .ok (.iastore, 1) := by decide +kernel
theorem d_CoverFinder_quickSet_46 : decode b_CoverFinder_quickSet 46 = .ok ((.iinc 4 1), 3) := by decide +kernel
theorem d_CoverFinder_quickSet_49 : decode b_CoverFinder_quickSet 49 = .ok ((.lload_n 1), 1) := by decide +kernel
theorem d_CoverFinder_quickSet_50 : decode b_CoverFinder_quickSet 50 = .ok ((.lconst 1), 1) := by decide +kernel
theorem d_CoverFinder_quickSet_51 : decode b_CoverFinder_quickSet 51 = .ok ((.iload 5), 2) := by decide +kernel
theorem d_CoverFinder_quickSet_53 : decode b_CoverFinder_quickSet 53 = .ok (.lshl, 1) := by decide +kernel
theorem d_CoverFinder_quickSet_54 : decode b_CoverFinder_quickSet 54 = .ok (.lor, 1) := by decide +kernel
theorem d_CoverFinder_quickSet_55 : decode b_CoverFinder_quickSet 55 = .ok ((.lstore_n 1), 1) := by decide +kernel
theorem d_CoverFinder_quickSet_56 : decode b_CoverFinder_quickSet 56 = .ok ((.iload_n 3), 1) := by decide +kernel
theorem d_CoverFinder_quickSet_57 : decode b_CoverFinder_quickSet 57 = .ok ((.aload_n 0), 1) := by decide +kernel
theorem d_CoverFinder_quickSet_58 : decode b_CoverFinder_quickSet 58 = .ok ((.getfield 9), 3) := by decide +kernel
theorem d_CoverFinder_quickSet_61 : decode b_CoverFinder_quickSet 61 = .ok ((.iload 5), 2) := by decide +kernel
theorem d_CoverFinder_quickSet_63 : decode b_CoverFinder_quickSet 63 = .ok (.iaload, 1) := by decide +kernel
theorem d_CoverFinder_quickSet_64 : decode b_CoverFinder_quickSet 64 = .ok ((.iconst (-1)), 1) := by decide +kernel
theorem d_CoverFinder_quickSet_65 : decode b_CoverFinder_quickSet 65 = .ok (.ixor, 1) := by decide +kernel
theorem d_CoverFinder_quickSet_66 : decode b_CoverFinder_quickSet 66 = .ok (.iand, 1) := by decide +kernel
theorem d_CoverFinder_quickSet_67 : decode b_CoverFinder_quickSet 67 = .ok ((.istore_n 3), 1) := by decide +kernel
theorem d_CoverFinder_quickSet_68 : decode b_CoverFinder_quickSet 68 = .ok ((.goto (-58)), 3) := by decide +kernel
theorem d_CoverFinder_quickSet_71 : decode b_CoverFinder_quickSet 71 = .ok ((.iload 4), 2) := by decide +kernel
theorem d_CoverFinder_quickSet_73 : decode b_CoverFinder_quickSet 73 = .ok ((.iconst 1), 1) := by decide +kernel
theorem d_CoverFinder_quickSet_74 : decode b_CoverFinder_quickSet 74 = .ok (.isub, 1) := by decide +kernel
theorem d_CoverFinder_quickSet_75 : decode b_CoverFinder_quickSet 75 = .ok ((.istore 5), 2) := by decide +kernel
theorem d_CoverFinder_quickSet_77 : decode b_CoverFinder_quickSet 77 = .ok ((.iload 5), 2) := by decide +kernel
theorem d_CoverFinder_quickSet_79 : decode b_CoverFinder_quickSet 79 = .ok ((.ifCond .lt 38), 3) := by decide +kernel
theorem d_CoverFinder_quickSet_82 : decode b_CoverFinder_quickSet 82 = .ok ((.lload_n 1), 1) := by decide +kernel
theorem d_CoverFinder_quickSet_83 : decode b_CoverFinder_quickSet 83 = .ok ((.lconst 1), 1) := by decide +kernel
theorem d_CoverFinder_quickSet_84 : decode b_CoverFinder_quickSet 84 = .ok ((.aload_n 0), 1) := by decide +kernel
theorem d_CoverFinder_quickSet_85 : decode b_CoverFinder_quickSet 85 = .ok ((.getfield 25), 3) := by decide +kernel
theorem d_CoverFinder_quickSet_88 : decode b_CoverFinder_quickSet 88 = .ok ((.iload 5), 2) := by decide +kernel
theorem d_CoverFinder_quickSet_90 : decode b_CoverFinder_quickSet 90 = .ok (.iaload, 1) := by decide +kernel
theorem d_CoverFinder_quickSet_91 : decode b_CoverFinder_quickSet 91 = .ok (.lshl, 1) := by decide +kernel
theorem d_CoverFinder_quickSet_92 : decode b_CoverFinder_quickSet 92 = .ok ((.ldc2_w 56), 3) := by decide +kernel
theorem d_CoverFinder_quickSet_95 : decode b_CoverFinder_quickSet 95 = .ok (.lxor, 1) := by decide +kernel
theorem d_CoverFinder_quickSet_96 : decode b_CoverFinder_quickSet 96 = .ok (.land, 1) := by decide +kernel
theorem d_CoverFinder_quickSet_97 : decode b_CoverFinder_quickSet 97 = .ok ((.lstore 6), 2) := by decide +kernel
theorem d_CoverFinder_quickSet_99 : decode b_CoverFinder_quickSet 99 = .ok ((.aload_n 0), 1) := by decide +kernel
theorem d_CoverFinder_quickSet_100 : decode b_CoverFinder_quickSet 100 = .ok ((.lload 6), 2) := by decide +kernel
theorem d_CoverFinder_quickSet_102 : decode b_CoverFinder_quickSet 102 = .ok ((.invokevirtual 99), 3) := by decide +kernel
theorem d_CoverFinder_quickSet_105 : decode b_CoverFinder_quickSet 105 = .ok ((.ifCond .eq 6), 3) := by decide +kernel
theorem d_CoverFinder_quickSet_108 : decode b_CoverFinder_quickSet 108 = .ok ((.lload 6), 2) := by decide +kernel
theorem d_CoverFinder_quickSet_110 : decode b_CoverFinder_quickSet 110 = .ok ((.lstore_n 1), 1) := by decide +kernel
theorem d_CoverFinder_quickSet_111 : decode b_CoverFinder_quickSet 111 = .ok ((.iinc 5 (-1)), 3) := by decide +kernel
theorem d_CoverFinder_quickSet_114 : decode b_CoverFinder_quickSet 114 = .ok ((.goto (-37)), 3) := by decide +kernel
theorem d_CoverFinder_quickSet_117 : decode b_CoverFinder_quickSet 117 = .ok ((.lload_n 1), 1) := by decide +kernel
theorem d_CoverFinder_quickSet_118 : decode b_CoverFinder_quickSet 118 = .ok (.lreturn, 1) := by decide +kernel
theorem d_CoverFinder_quickPick_0 : decode b_CoverFinder_quickPick 0 = .ok ((.iconst (-1)), 1) := by decide +kernel
theorem d_CoverFinder_quickPick_1 : decode b_CoverFinder_quickPick 1 = .ok ((.istore_n 2), 1) := by decide +kernel
theorem d_CoverFinder_quickPick_2 : decode b_CoverFinder_quickPick 2 = .ok ((.iconst 0), 1) := by decide +kernel
theorem d_CoverFinder_quickPick_3 : decode b_CoverFinder_quickPick 3 = .ok ((.istore_n 3), 1) := by decide +kernel
theorem d_CoverFinder_quickPick_4 : decode b_CoverFinder_quickPick 4 = .ok ((.iconst 0), 1) := by decide +kernel
theorem d_CoverFinder_quickPick_5 : decode b_CoverFinder_quickPick 5 = .ok ((.istore 4), 2) := by decide +kernel
theorem d_CoverFinder_quickPick_7 : decode b_CoverFinder_quickPick 7 = .ok ((.iload 4), 2) := by decide +kernel
theorem d_CoverFinder_quickPick_9 : decode b_CoverFinder_quickPick 9 = .ok ((.aload_n 0), 1) := by decide +kernel
theorem d_CoverFinder_quickPick_10 : decode b_CoverFinder_quickPick 10 = .ok ((.getfield 51), 3) := by decide +kernel
theorem d_CoverFinder_quickPick_13 : decode b_CoverFinder_quickPick 13 = .ok ((.if_icmp .ge 62), 3) := by decide +kernel
theorem d_CoverFinder_quickPick_16 : decode b_CoverFinder_quickPick 16 = .ok ((.aload_n 0), 1) := by decide +kernel
theorem d_CoverFinder_quickPick_17 : decode b_CoverFinder_quickPick 17 = .ok ((.getfield 9), 3) := by decide +kernel
theorem d_CoverFinder_quickPick_20 : decode b_CoverFinder_quickPick 20 = .ok ((.iload 4), 2) := by decide +kernel
theorem d_CoverFinder_quickPick_22 : decode b_CoverFinder_quickPick 22 = .ok (.iaload, 1) := by decide +kernel
theorem d_CoverFinder_quickPick_23 : decode b_CoverFinder_quickPick 23 = .ok ((.iload_n 1), 1) := by decide +kernel
theorem d_CoverFinder_quickPick_24 : decode b_CoverFinder_quickPick 24 = .ok (.iand, 1) := by decide +kernel
theorem d_CoverFinder_quickPick_25 : decode b_CoverFinder_quickPick 25 = .ok ((.invokestatic 103), 3) := by decide +kernel
theorem d_CoverFinder_quickPick_28 : decode b_CoverFinder_quickPick 28 = .ok ((.istore 5), 2) := by decide +kernel
theorem d_CoverFinder_quickPick_30 : decode b_CoverFinder_quickPick 30 = .ok ((.iload 5), 2) := by decide +kernel
theorem d_CoverFinder_quickPick_32 : decode b_CoverFinder_quickPick 32 = .ok ((.iload_n 3), 1) := by decide +kernel
theorem d_CoverFinder_quickPick_33 : decode b_CoverFinder_quickPick 33 = .ok ((.if_icmp .gt 30), 3) := by decide +kernel
theorem d_CoverFinder_quickPick_36 : decode b_CoverFinder_quickPick 36 = .ok ((.iload_n 2), 1) := by decide +kernel
theorem d_CoverFinder_quickPick_37 : decode b_CoverFinder_quickPick 37 = .ok ((.iconst (-1)), 1) := by decide +kernel
theorem d_CoverFinder_quickPick_38 : decode b_CoverFinder_quickPick 38 = .ok ((.if_icmp .eq 31), 3) := by decide +kernel
theorem d_CoverFinder_quickPick_41 : decode b_CoverFinder_quickPick 41 = .ok ((.iload 5), 2) := by decide +kernel
theorem d_CoverFinder_quickPick_43 : decode b_CoverFinder_quickPick 43 = .ok ((.iload_n 3), 1) := by decide +kernel
theorem d_CoverFinder_quickPick_44 : decode b_CoverFinder_quickPick 44 = .ok ((.if_icmp .ne 25), 3) := by decide +kernel
theorem d_CoverFinder_quickPick_47 : decode b_CoverFinder_quickPick 47 = .ok ((.aload_n 0), 1) := by decide +kernel
theorem d_CoverFinder_quickPick_48 : decode b_CoverFinder_quickPick 48 = .ok ((.getfield 15), 3) := by decide +kernel
theorem d_CoverFinder_quickPick_51 : decode b_CoverFinder_quickPick 51 = .ok ((.iload 4), 2) := by decide +kernel
theorem d_CoverFinder_quickPick_53 : decode b_CoverFinder_quickPick 53 = .ok (.iaload, 1) := by decide +kernel
theorem d_CoverFinder_quickPick_54 : decode b_CoverFinder_quickPick 54 = .ok ((.aload_n 0), 1) := by decide +kernel
theorem d_CoverFinder_quickPick_55 : decode b_CoverFinder_quickPick 55 = .ok ((.getfield 15), 3) := by decide +kernel
theorem d_CoverFinder_quickPick_58 : decode b_CoverFinder_quickPick 58 = .ok ((.iload_n 2), 1) := by decide +kernel
theorem d_CoverFinder_quickPick_59 : decode b_CoverFinder_quickPick 59 = .ok (.iaload, 1) := by decide +kernel
theorem d_CoverFinder_quickPick_60 : decode b_CoverFinder_quickPick 60 = .ok ((.if_icmp .ge 9), 3) := by decide +kernel
theorem d_CoverFinder_quickPick_63 : decode b_CoverFinder_quickPick 63 = .ok ((.iload 4), 2) := by decide +kernel
theorem d_CoverFinder_quickPick_65 : decode b_CoverFinder_quickPick 65 = .ok ((.istore_n 2), 1) := by decide +kernel
theorem d_CoverFinder_quickPick_66 : decode b_CoverFinder_quickPick 66 = .ok ((.iload 5), 2) := by decide +kernel
theorem d_CoverFinder_quickPick_68 : decode b_CoverFinder_quickPick 68 = .ok ((.istore_n 3), 1) := by decide +kernel
theorem d_CoverFinder_quickPick_69 : decode b_CoverFinder_quickPick 69 = .ok ((.iinc 4 1), 3) := by decide +kernel
theorem d_CoverFinder_quickPick_72 : decode b_CoverFinder_quickPick 72 = .ok ((.goto (-65)), 3) := by decide +kernel
theorem d_CoverFinder_quickPick_75 : decode b_CoverFinder_quickPick 75 = .ok ((.iload_n 2), 1) := by decide +kernel
theorem d_CoverFinder_quickPick_76 : decode b_CoverFinder_quickPick 76 = .ok (.ireturn, 1) := by decide +kernel
theorem d_CoverFinder_isCover_0 : decode b_CoverFinder_isCover 0 = .ok ((.iconst 0), 1) := by decide +kernel
theorem d_CoverFinder_isCover_1 : decode b_CoverFinder_isCover 1 = .ok ((.istore_n 3), 1) := by decide +kernel
theorem d_CoverFinder_isCover_2 : decode b_CoverFinder_isCover 2 = .ok ((.iconst 0), 1) := by decide +kernel
theorem d_CoverFinder_isCover_3 : decode b_CoverFinder_isCover 3 = .ok ((.istore 4), 2) := by decide +kernel
theorem d_CoverFinder_isCover_5 : decode b_CoverFinder_isCover 5 = .ok ((.iload 4), 2) := by decide +kernel
theorem d_CoverFinder_isCover_7 : decode b_CoverFinder_isCover 7 = .ok ((.aload_n 0), 1) := by decide +kernel
theorem d_CoverFinder_isCover_8 : decode b_CoverFinder_isCover 8 = .ok ((.getfield 51), 3) := by decide +kernel
theorem d_CoverFinder_isCover_11 : decode b_CoverFinder_isCover 11 = .ok ((.if_icmp .ge 28), 3) := by decide +kernel
theorem d_CoverFinder_isCover_14 : decode b_CoverFinder_isCover 14 = .ok ((.lload_n 1), 1) := by decide +kernel
theorem d_CoverFinder_isCover_15 : decode b_CoverFinder_isCover 15 = .ok ((.iload 4), 2) := by decide +kernel
theorem d_CoverFinder_isCover_17 : decode b_CoverFinder_isCover 17 = .ok ((.invokestatic 92), 3) := by decide +kernel
theorem d_CoverFinder_isCover_20 : decode b_CoverFinder_isCover 20 = .ok ((.ifCond .eq 13), 3) := by decide +kernel
theorem d_CoverFinder_isCover_23 : decode b_CoverFinder_isCover 23 = .ok ((.iload_n 3), 1) := by decide +kernel
theorem d_CoverFinder_isCover_24 : decode b_CoverFinder_isCover 24 = .ok ((.aload_n 0), 1) := by decide +kernel
theorem d_CoverFinder_isCover_25 : decode b_CoverFinder_isCover 25 = .ok ((.getfield 9), 3) := by decide +kernel
theorem d_CoverFinder_isCover_28 : decode b_CoverFinder_isCover 28 = .ok ((.iload 4), 2) := by decide +kernel
theorem d_CoverFinder_isCover_30 : decode b_CoverFinder_isCover 30 = .ok (.iaload, 1) := by decide +kernel
theorem d_CoverFinder_isCover_31 : decode b_CoverFinder_isCover 31 = .ok (.ior, 1) := by decide +kernel
theorem d_CoverFinder_isCover_32 : decode b_CoverFinder_isCover 32 = .ok ((.istore_n 3), 1) := by decide +kernel
theorem d_CoverFinder_isCover_33 : decode b_CoverFinder_isCover 33 = .ok ((.iinc 4 1), 3) := by decide +kernel
theorem d_CoverFinder_isCover_36 : decode b_CoverFinder_isCover 36 = .ok ((.goto (-31)), 3) := by decide +kernel
theorem d_CoverFinder_isCover_39 : decode b_CoverFinder_isCover 39 = .ok ((.iload_n 3), 1) := by decide +kernel
theorem d_CoverFinder_isCover_40 : decode b_CoverFinder_isCover 40 = .ok ((.aload_n 0), 1) := by decide +kernel
theorem d_CoverFinder_isCover_41 : decode b_CoverFinder_isCover 41 = .ok ((.getfield 58), 3) := by decide +kernel
theorem d_CoverFinder_isCover_44 : decode b_CoverFinder_isCover 44 = .ok ((.if_icmp .ne 7), 3) := by decide +kernel
theorem d_CoverFinder_isCover_47 : decode b_CoverFinder_isCover 47 = .ok ((.iconst 1), 1) := by decide +kernel
theorem d_CoverFinder_isCover_48 : decode b_CoverFinder_isCover 48 = .ok ((.goto 4), 3) := by decide +kernel
theorem d_CoverFinder_isCover_51 : decode b_CoverFinder_isCover 51 = .ok ((.iconst 0), 1) := by decide +kernel
theorem d_CoverFinder_isCover_52 : decode b_CoverFinder_isCover 52 = .ok (.ireturn, 1) := by decide +kernel
theorem d_CoverFinder_isIn_0 : decode b_CoverFinder_isIn 0 = .ok ((.lload_n 0), 1) := by decide +kernel
theorem d_CoverFinder_isIn_1 : decode b_CoverFinder_isIn 1 = .ok ((.iload_n 2), 1) := by decide +kernel
theorem d_CoverFinder_isIn_2 : decode b_CoverFinder_isIn 2 = .ok (.lshr, 1) := by decide +kernel
theorem d_CoverFinder_isIn_3 : decode b_CoverFinder_isIn 3 = .ok ((.lconst 1), 1) := by decide +kernel
theorem d_CoverFinder_isIn_4 : decode b_CoverFinder_isIn 4 = .ok (.land, 1) := by decide +kernel
theorem d_CoverFinder_isIn_5 : decode b_CoverFinder_isIn 5 = .ok ((.lconst 1), 1) := by decide +kernel
theorem d_CoverFinder_isIn_6 : decode b_CoverFinder_isIn 6 = .ok (.lcmp, 1) := by decide +kernel
theorem d_CoverFinder_isIn_7 : decode b_CoverFinder_isIn 7 = .ok ((.ifCond .ne 7), 3) := by decide +kernel
theorem d_CoverFinder_isIn_10 : decode b_CoverFinder_isIn 10 = .ok ((.iconst 1), 1) := by decide +kernel
theorem d_CoverFinder_isIn_11 : decode b_CoverFinder_isIn 11 = .ok ((.goto 4), 3) := by decide +kernel
theorem d_CoverFinder_isIn_14 : decode b_CoverFinder_isIn 14 = .ok ((.iconst 0), 1) := by decide +kernel
theorem d_CoverFinder_isIn_15 : decode b_CoverFinder_isIn 15 = .ok (.ireturn, 1) := by decide +kernel
theorem d_CoverFinder_weightOf_0 : decode b_CoverFinder_weightOf 0 = .ok ((.lconst 0), 1) := by decide +kernel
theorem d_CoverFinder_weightOf_1 : decode b_CoverFinder_weightOf 1 = .ok ((.lstore_n 3), 1) := by decide +kernel
theorem d_CoverFinder_weightOf_2 : decode b_CoverFinder_weightOf 2 = .ok ((.iconst 0), 1) := by decide +kernel
theorem d_CoverFinder_weightOf_3 : decode b_CoverFinder_weightOf 3 = .ok ((.istore 5), 2) := by decide +kernel
theorem d_CoverFinder_weightOf_5 : decode b_CoverFinder_weightOf 5 = .ok ((.iload 5), 2) := by decide +kernel
theorem d_CoverFinder_weightOf_7 : decode b_CoverFinder_weightOf 7 = .ok ((.aload_n 0), 1) := by decide +kernel
theorem d_CoverFinder_weightOf_8 : decode b_CoverFinder_weightOf 8 = .ok ((.getfield 51), 3) := by decide +kernel
theorem d_CoverFinder_weightOf_11 : decode b_CoverFinder_weightOf 11 = .ok ((.if_icmp .ge 28), 3) := by decide +kernel
theorem d_CoverFinder_weightOf_14 : decode b_CoverFinder_weightOf 14 = .ok ((.lload_n 1), 1) := by decide +kernel
theorem d_CoverFinder_weightOf_15 : decode b_CoverFinder_weightOf 15 = .ok ((.iload 5), 2) := by decide +kernel
theorem d_CoverFinder_weightOf_17 : decode b_CoverFinder_weightOf 17 = .ok ((.invokestatic 92), 3) := by decide +kernel
theorem d_CoverFinder_weightOf_20 : decode b_CoverFinder_weightOf 20 = .ok ((.ifCond .eq 13), 3) := by decide +kernel
theorem d_CoverFinder_weightOf_23 : decode b_CoverFinder_weightOf 23 = .ok ((.lload_n 3), 1) := by decide +kernel
theorem d_CoverFinder_weightOf_24 : decode b_CoverFinder_weightOf 24 = .ok ((.aload_n 0), 1) := by decide +kernel
theorem d_CoverFinder_weightOf_25 : decode b_CoverFinder_weightOf 25 = .ok ((.getfield 18), 3) := by decide +kernel
theorem d_CoverFinder_weightOf_28 : decode b_CoverFinder_weightOf 28 = .ok ((.iload 5), 2) := by decide +kernel
theorem d_CoverFinder_weightOf_30 : decode b_CoverFinder_weightOf 30 = .ok (.laload, 1) := by decide +kernel
theorem d_CoverFinder_weightOf_31 : decode b_CoverFinder_weightOf 31 = .ok (.ladd, 1) := by decide +kernel
theorem d_CoverFinder_weightOf_32 : decode b_CoverFinder_weightOf 32 = .ok ((.lstore_n 3), 1) := by decide +kernel
theorem d_CoverFinder_weightOf_33 : decode b_CoverFinder_weightOf 33 = .ok ((.iinc 5 1), 3) := by decide +kernel
theorem d_CoverFinder_weightOf_36 : decode b_CoverFinder_weightOf 36 = .ok ((.goto (-31)), 3) := by decide +kernel
theorem d_CoverFinder_weightOf_39 : decode b_CoverFinder_weightOf 39 = .ok ((.lload_n 3), 1) := by decide +kernel
theorem d_CoverFinder_weightOf_40 : decode b_CoverFinder_weightOf 40 = .ok (.lreturn, 1) := by decide +kernel
theorem d_CoverFinder_improve_0 : decode b_CoverFinder_improve 0 = .ok ((.iload_n 1), 1) := by decide +kernel
theorem d_CoverFinder_improve_1 : decode b_CoverFinder_improve 1 = .ok ((.ifCond .ne 12), 3) := by decide +kernel
theorem d_CoverFinder_improve_4 : decode b_CoverFinder_improve 4 = .ok ((.aload_n 0), 1) := by decide +kernel
theorem d_CoverFinder_improve_5 : decode b_CoverFinder_improve 5 = .ok ((.lload 4), 2) := by decide +kernel
theorem d_CoverFinder_improve_7 : decode b_CoverFinder_improve 7 = .ok ((.lload 6), 2) := by decide +kernel
theorem d_CoverFinder_improve_9 : decode b_CoverFinder_improve 9 = .ok ((.invokevirtual 108), 3) := by decide +kernel
theorem d_CoverFinder_improve_12 : decode b_CoverFinder_improve 12 = .ok (.return_, 1) := by decide +kernel
theorem d_CoverFinder_improve_13 : decode b_CoverFinder_improve 13 = .ok ((.iload 8), 2) := by decide +kernel
theorem d_CoverFinder_improve_15 : decode b_CoverFinder_improve 15 = .ok ((.bipush 32), 2) := by decide +kernel
theorem d_CoverFinder_improve_17 : decode b_CoverFinder_improve 17 = .ok ((.if_icmp .ge 13), 3) := by decide +kernel
theorem d_CoverFinder_improve_20 : decode b_CoverFinder_improve 20 = .ok ((.lload 6), 2) := by decide +kernel
theorem d_CoverFinder_improve_22 : decode b_CoverFinder_improve 22 = .ok ((.aload_n 0), 1) := by decide +kernel
theorem d_CoverFinder_improve_23 : decode b_CoverFinder_improve 23 = .ok ((.getfield 48), 3) := by decide +kernel
theorem d_CoverFinder_improve_26 : decode b_CoverFinder_improve 26 = .ok (.lcmp, 1) := by decide +kernel
theorem d_CoverFinder_improve_27 : decode b_CoverFinder_improve 27 = .ok ((.ifCond .lt 4), 3) := by decide +kernel
theorem d_CoverFinder_improve_30 : decode b_CoverFinder_improve 30 = .ok (.return_, 1) := by decide +kernel
theorem d_CoverFinder_improve_31 : decode b_CoverFinder_improve 31 = .ok ((.lload_n 2), 1) := by decide +kernel
theorem d_CoverFinder_improve_32 : decode b_CoverFinder_improve 32 = .ok ((.lstore 9), 2) := by decide +kernel
theorem d_CoverFinder_improve_34 : decode b_CoverFinder_improve 34 = .ok ((.aload_n 0), 1) := by decide +kernel
theorem d_CoverFinder_improve_35 : decode b_CoverFinder_improve 35 = .ok ((.iload_n 1), 1) := by decide +kernel
theorem d_CoverFinder_improve_36 : decode b_CoverFinder_improve 36 = .ok ((.lload 9), 2) := by decide +kernel
theorem d_CoverFinder_improve_38 : decode b_CoverFinder_improve 38 = .ok ((.invokevirtual 112), 3) := by decide +kernel
theorem d_CoverFinder_improve_41 : decode b_CoverFinder_improve 41 = .ok ((.istore 11), 2) := by decide +kernel
theorem d_CoverFinder_improve_43 : decode b_CoverFinder_improve 43 = .ok ((.aload_n 0), 1) := by decide +kernel
theorem d_CoverFinder_improve_44 : decode b_CoverFinder_improve 44 = .ok ((.getfield 22), 3) := by decide +kernel
theorem d_CoverFinder_improve_47 : decode b_CoverFinder_improve 47 = .ok ((.iload 11), 2) := by decide +kernel
theorem d_CoverFinder_improve_49 : decode b_CoverFinder_improve 49 = .ok (.laload, 1) := by decide +kernel
theorem d_CoverFinder_improve_50 : decode b_CoverFinder_improve 50 = .ok ((.lload 9), 2) := by decide +kernel
theorem d_CoverFinder_improve_52 : decode b_CoverFinder_improve 52 = .ok (.land, 1) := by decide +kernel
theorem d_CoverFinder_improve_53 : decode b_CoverFinder_improve 53 = .ok ((.invokestatic 116), 3) := by decide +kernel
theorem d_CoverFinder_improve_56 : decode b_CoverFinder_improve 56 = .ok ((.iconst 1), 1) := by decide +kernel
theorem d_CoverFinder_improve_57 : decode b_CoverFinder_improve 57 = .ok ((.if_icmp .le 40), 3) := by decide +kernel
theorem d_CoverFinder_improve_60 : decode b_CoverFinder_improve 60 = .ok ((.aload_n 0), 1) := by decide +kernel
theorem d_CoverFinder_improve_61 : decode b_CoverFinder_improve 61 = .ok ((.iload_n 1), 1) := by decide +kernel
theorem d_CoverFinder_improve_62 : decode b_CoverFinder_improve 62 = .ok ((.lload 9), 2) := by decide +kernel
theorem d_CoverFinder_improve_64 : decode b_CoverFinder_improve 64 = .ok ((.invokevirtual 119), 3) := by decide +kernel
theorem d_CoverFinder_improve_67 : decode b_CoverFinder_improve 67 = .ok ((.lstore 9), 2) := by decide +kernel
theorem d_CoverFinder_improve_69 : decode b_CoverFinder_improve 69 = .ok ((.aload_n 0), 1) := by decide +kernel
theorem d_CoverFinder_improve_70 : decode b_CoverFinder_improve 70 = .ok ((.iload_n 1), 1) := by decide +kernel
theorem d_CoverFinder_improve_71 : decode b_CoverFinder_improve 71 = .ok ((.lload 9), 2) := by decide +kernel
theorem d_CoverFinder_improve_73 : decode b_CoverFinder_improve 73 = .ok ((.invokevirtual 112), 3) := by decide +kernel
theorem d_CoverFinder_improve_76 : decode b_CoverFinder_improve 76 = .ok ((.istore 11), 2) := by decide +kernel
theorem d_CoverFinder_improve_78 : decode b_CoverFinder_improve 78 = .ok ((.lload 6), 2) := by decide +kernel
theorem d_CoverFinder_improve_80 : decode b_CoverFinder_improve 80 = .ok ((.aload_n 0), 1) := by decide +kernel
theorem d_CoverFinder_improve_81 : decode b_CoverFinder_improve 81 = .ok ((.iload_n 1), 1) := by decide +kernel
theorem d_CoverFinder_improve_82 : decode b_CoverFinder_improve 82 = .ok ((.lload 9), 2) := by decide +kernel
theorem d_CoverFinder_improve_84 : decode b_CoverFinder_improve 84 = .ok ((.invokevirtual 123), 3) := by decide +kernel
theorem d_CoverFinder_improve_87 : decode b_CoverFinder_improve 87 = .ok (.ladd, 1) := by decide +kernel
theorem d_CoverFinder_improve_88 : decode b_CoverFinder_improve 88 = .ok ((.aload_n 0), 1) := by decide +kernel
theorem d_CoverFinder_improve_89 : decode b_CoverFinder_improve 89 = .ok ((.getfield 48), 3) := by decide +kernel
theorem d_CoverFinder_improve_92 : decode b_CoverFinder_improve 92 = .ok (.lcmp, 1) := by decide +kernel
theorem d_CoverFinder_improve_93 : decode b_CoverFinder_improve 93 = .ok ((.ifCond .lt 4), 3) := by decide +kernel
theorem d_CoverFinder_improve_96 : decode b_CoverFinder_improve 96 = .ok (.return_, 1) := by decide +kernel
theorem d_CoverFinder_improve_97 : decode b_CoverFinder_improve 97 = .ok ((.aload_n 0), 1) := by decide +kernel
theorem d_CoverFinder_improve_98 : decode b_CoverFinder_improve 98 = .ok ((.aload_n 0), 1) := by decide +kernel
theorem d_CoverFinder_improve_99 : decode b_CoverFinder_improve 99 = .ok ((.getfield 22), 3) := by decide +kernel
theorem d_CoverFinder_improve_102 : decode b_CoverFinder_improve 102 = .ok ((.iload 11), 2) := by decide +kernel
theorem d_CoverFinder_improve_104 : decode b_CoverFinder_improve 104 = .ok (.laload, 1) := by decide +kernel
theorem d_CoverFinder_improve_105 : decode b_CoverFinder_improve 105 = .ok ((.lload 9), 2) := by decide +kernel
theorem d_CoverFinder_improve_107 : decode b_CoverFinder_improve 107 = .ok (.land, 1) := by decide +kernel
theorem d_CoverFinder_improve_108 : decode b_CoverFinder_improve 108 = .ok ((.iload_n 1), 1) := by decide +kernel
theorem d_CoverFinder_improve_109 : decode b_CoverFinder_improve 109 = .ok ((.lload 9), 2) := by decide +kernel
theorem d_CoverFinder_improve_111 : decode b_CoverFinder_improve 111 = .ok ((.lload 4), 2) := by decide +kernel
theorem d_CoverFinder_improve_113 : decode b_CoverFinder_improve 113 = .ok ((.lload 6), 2) := by decide +kernel
theorem d_CoverFinder_improve_115 : decode b_CoverFinder_improve 115 = .ok ((.iload 8), 2) := by decide +kernel
theorem d_CoverFinder_improve_117 : decode b_CoverFinder_improve 117 = .ok ((.invokevirtual 126), 3) := by decide +kernel
theorem d_CoverFinder_improve_120 : decode b_CoverFinder_improve 120 = .ok (.return_, 1) := by decide +kernel
theorem d_CoverFinder_keepIfLighter_0 : decode b_CoverFinder_keepIfLighter 0 = .ok ((.lload_n 3), 1) := by decide +kernel
theorem d_CoverFinder_keepIfLighter_1 : decode b_CoverFinder_keepIfLighter 1 = .ok ((.aload_n 0), 1) := by decide +kernel
theorem d_CoverFinder_keepIfLighter_2 : decode b_CoverFinder_keepIfLighter 2 = .ok ((.getfield 48), 3) := by decide +kernel
theorem d_CoverFinder_keepIfLighter_5 : decode b_CoverFinder_keepIfLighter 5 = .ok (.lcmp, 1) := by decide +kernel
theorem d_CoverFinder_keepIfLighter_6 : decode b_CoverFinder_keepIfLighter 6 = .ok ((.ifCond .ge 13), 3) := by decide +kernel
theorem d_CoverFinder_keepIfLighter_9 : decode b_CoverFinder_keepIfLighter 9 = .ok ((.aload_n 0), 1) := by decide +kernel
theorem d_CoverFinder_keepIfLighter_10 : decode b_CoverFinder_keepIfLighter 10 = .ok ((.lload_n 3), 1) := by decide +kernel
theorem d_CoverFinder_keepIfLighter_11 : decode b_CoverFinder_keepIfLighter 11 = .ok ((.putfield 48), 3) := by decide +kernel
theorem d_CoverFinder_keepIfLighter_14 : decode b_CoverFinder_keepIfLighter 14 = .ok ((.aload_n 0), 1) := by decide +kernel
theorem d_CoverFinder_keepIfLighter_15 : decode b_CoverFinder_keepIfLighter 15 = .ok ((.lload_n 1), 1) := by decide +kernel
theorem d_CoverFinder_keepIfLighter_16 : decode b_CoverFinder_keepIfLighter 16 = .ok ((.putfield 32), 3) := by decide +kernel
theorem d_CoverFinder_keepIfLighter_19 : decode b_CoverFinder_keepIfLighter 19 = .ok (.return_, 1) := by decide +kernel
theorem d_CoverFinder_rarestPoint_0 : decode b_CoverFinder_rarestPoint 0 = .ok ((.iconst 0), 1) := by decide +kernel
theorem d_CoverFinder_rarestPoint_1 : decode b_CoverFinder_rarestPoint 1 = .ok ((.istore 4), 2) := by decide +kernel
theorem d_CoverFinder_rarestPoint_3 : decode b_CoverFinder_rarestPoint 3 = .ok ((.bipush 65), 2) := by decide +kernel
theorem d_CoverFinder_rarestPoint_5 : decode b_CoverFinder_rarestPoint 5 = .ok ((.istore 5), 2) := by decide +kernel
theorem d_CoverFinder_rarestPoint_7 : decode b_CoverFinder_rarestPoint 7 = .ok ((.iconst 0), 1) := by decide +kernel
theorem d_CoverFinder_rarestPoint_8 : decode b_CoverFinder_rarestPoint 8 = .ok ((.istore 6), 2) := by decide +kernel
theorem d_CoverFinder_rarestPoint_10 : decode b_CoverFinder_rarestPoint 10 = .ok ((.iload 6), 2) := by decide +kernel
theorem d_CoverFinder_rarestPoint_12 : decode b_CoverFinder_rarestPoint 12 = .ok ((.bipush 32), 2) := by decide +kernel
theorem d_CoverFinder_rarestPoint_14 : decode b_CoverFinder_rarestPoint 14 = .ok ((.if_icmp .ge 48), 3) := by decide +kernel
theorem d_CoverFinder_rarestPoint_17 : decode b_CoverFinder_rarestPoint 17 = .ok ((.iload_n 1), 1) := by decide +kernel
theorem d_CoverFinder_rarestPoint_18 : decode b_CoverFinder_rarestPoint 18 = .ok ((.iload 6), 2) := by decide +kernel
theorem d_CoverFinder_rarestPoint_20 : decode b_CoverFinder_rarestPoint 20 = .ok (.ishr, 1) := by decide +kernel
theorem d_CoverFinder_rarestPoint_21 : decode b_CoverFinder_rarestPoint 21 = .ok ((.iconst 1), 1) := by decide +kernel
theorem d_CoverFinder_rarestPoint_22 : decode b_CoverFinder_rarestPoint 22 = .ok (.iand, 1) := by decide +kernel
theorem d_CoverFinder_rarestPoint_23 : decode b_CoverFinder_rarestPoint 23 = .ok ((.iconst 1), 1) := by decide +kernel
theorem d_CoverFinder_rarestPoint_24 : decode b_CoverFinder_rarestPoint 24 = .ok ((.if_icmp .ne 32), 3) := by decide +kernel
theorem d_CoverFinder_rarestPoint_27 : decode b_CoverFinder_rarestPoint 27 = .ok ((.aload_n 0), 1) := by decide +kernel
theorem d_CoverFinder_rarestPoint_28 : decode b_CoverFinder_rarestPoint 28 = .ok ((.getfield 22), 3) := by decide +kernel
theorem d_CoverFinder_rarestPoint_31 : decode b_CoverFinder_rarestPoint 31 = .ok ((.iload 6), 2) := by decide +kernel
theorem d_CoverFinder_rarestPoint_33 : decode b_CoverFinder_rarestPoint 33 = .ok (.laload, 1) := by decide +kernel
theorem d_CoverFinder_rarestPoint_34 : decode b_CoverFinder_rarestPoint 34 = .ok ((.lload_n 2), 1) := by decide +kernel
theorem d_CoverFinder_rarestPoint_35 : decode b_CoverFinder_rarestPoint 35 = .ok (.land, 1) := by decide +kernel
theorem d_CoverFinder_rarestPoint_36 : decode b_CoverFinder_rarestPoint 36 = .ok ((.invokestatic 116), 3) := by decide +kernel
theorem d_CoverFinder_rarestPoint_39 : decode b_CoverFinder_rarestPoint 39 = .ok ((.istore 7), 2) := by decide +kernel
theorem d_CoverFinder_rarestPoint_41 : decode b_CoverFinder_rarestPoint 41 = .ok ((.iload 7), 2) := by decide +kernel
theorem d_CoverFinder_rarestPoint_43 : decode b_CoverFinder_rarestPoint 43 = .ok ((.iload 5), 2) := by decide +kernel
theorem d_CoverFinder_rarestPoint_45 : decode b_CoverFinder_rarestPoint 45 = .ok ((.if_icmp .ge 11), 3) := by decide +kernel
theorem d_CoverFinder_rarestPoint_48 : decode b_CoverFinder_rarestPoint 48 = .ok ((.iload 7), 2) := by decide +kernel
theorem d_CoverFinder_rarestPoint_50 : decode b_CoverFinder_rarestPoint 50 = .ok ((.istore 5), 2) := by decide +kernel
theorem d_CoverFinder_rarestPoint_52 : decode b_CoverFinder_rarestPoint 52 = .ok ((.iload 6), 2) := by decide +kernel
theorem d_CoverFinder_rarestPoint_54 : decode b_CoverFinder_rarestPoint 54 = .ok ((.istore 4), 2) := by decide +kernel
theorem d_CoverFinder_rarestPoint_56 : decode b_CoverFinder_rarestPoint 56 = .ok ((.iinc 6 1), 3) := by decide +kernel
theorem d_CoverFinder_rarestPoint_59 : decode b_CoverFinder_rarestPoint 59 = .ok ((.goto (-49)), 3) := by decide +kernel
theorem d_CoverFinder_rarestPoint_62 : decode b_CoverFinder_rarestPoint 62 = .ok ((.iload 4), 2) := by decide +kernel
theorem d_CoverFinder_rarestPoint_64 : decode b_CoverFinder_rarestPoint 64 = .ok (.ireturn, 1) := by decide +kernel
theorem d_CoverFinder_withoutDominated_0 : decode b_CoverFinder_withoutDominated 0 = .ok ((.lload_n 2), 1) := by decide +kernel
theorem d_CoverFinder_withoutDominated_1 : decode b_CoverFinder_withoutDominated 1 = .ok ((.lstore 4), 2) := by decide +kernel
theorem d_CoverFinder_withoutDominated_3 : decode b_CoverFinder_withoutDominated 3 = .ok ((.iconst 0), 1) := by decide +kernel
theorem d_CoverFinder_withoutDominated_4 : decode b_CoverFinder_withoutDominated 4 = .ok ((.istore 6), 2) := by decide +kernel
theorem d_CoverFinder_withoutDominated_6 : decode b_CoverFinder_withoutDominated 6 = .ok ((.iload 6), 2) := by decide +kernel
theorem d_CoverFinder_withoutDominated_8 : decode b_CoverFinder_withoutDominated 8 = .ok ((.aload_n 0), 1) := by decide +kernel
theorem d_CoverFinder_withoutDominated_9 : decode b_CoverFinder_withoutDominated 9 = .ok ((.getfield 51), 3) := by decide +kernel
theorem d_CoverFinder_withoutDominated_12 : decode b_CoverFinder_withoutDominated 12 = .ok ((.if_icmp .ge 42), 3) := by decide +kernel
theorem d_CoverFinder_withoutDominated_15 : decode b_CoverFinder_withoutDominated 15 = .ok ((.lload_n 2), 1) := by decide +kernel
theorem d_CoverFinder_withoutDominated_16 : decode b_CoverFinder_withoutDominated 16 = .ok ((.iload 6), 2) := by decide +kernel
theorem d_CoverFinder_withoutDominated_18 : decode b_CoverFinder_withoutDominated 18 = .ok ((.invokestatic 92), 3) := by decide +kernel
theorem d_CoverFinder_withoutDominated_21 : decode b_CoverFinder_withoutDominated 21 = .ok ((.ifCond .eq 27), 3) := by decide +kernel
theorem d_CoverFinder_withoutDominated_24 : decode b_CoverFinder_withoutDominated 24 = .ok ((.aload_n 0), 1) := by decide +kernel
theorem d_CoverFinder_withoutDominated_25 : decode b_CoverFinder_withoutDominated 25 = .ok ((.iload 6), 2) := by decide +kernel
theorem d_CoverFinder_withoutDominated_27 : decode b_CoverFinder_withoutDominated 27 = .ok ((.iload_n 1), 1) := by decide +kernel
theorem d_CoverFinder_withoutDominated_28 : decode b_CoverFinder_withoutDominated 28 = .ok ((.lload_n 2), 1) := by decide +kernel
theorem d_CoverFinder_withoutDominated_29 : decode b_CoverFinder_withoutDominated 29 = .ok ((.invokevirtual 130), 3) := by decide +kernel
theorem d_CoverFinder_withoutDominated_32 : decode b_CoverFinder_withoutDominated 32 = .ok ((.ifCond .eq 16), 3) := by decide +kernel
theorem d_CoverFinder_withoutDominated_35 : decode b_CoverFinder_withoutDominated 35 = .ok ((.lload 4), 2) := by decide +kernel
theorem d_CoverFinder_withoutDominated_37 : decode b_CoverFinder_withoutDominated 37 = .ok ((.lconst 1), 1) := by decide +kernel
theorem d_CoverFinder_withoutDominated_38 : decode b_CoverFinder_withoutDominated 38 = .ok ((.iload 6), 2) := by decide +kernel
theorem d_CoverFinder_withoutDominated_40 : decode b_CoverFinder_withoutDominated 40 = .ok (.lshl, 1) := by decide +kernel
theorem d_CoverFinder_withoutDominated_41 : decode b_CoverFinder_withoutDominated 41 = .ok ((.ldc2_w 56), 3) := by decide +kernel
theorem d_CoverFinder_withoutDominated_44 : decode b_CoverFinder_withoutDominated 44 = .ok (.lxor, 1) := by decide +kernel
theorem d_CoverFinder_withoutDominated_45 : decode b_CoverFinder_withoutDominated 45 = .ok (.land, 1) := by decide +kernel
theorem d_CoverFinder_withoutDominated_46 : decode b_CoverFinder_withoutDominated 46 = .ok ((.lstore 4), 2) := by decide +kernel
theorem d_CoverFinder_withoutDominated_48 : decode b_CoverFinder_withoutDominated 48 = .ok ((.iinc 6 1), 3) := by decide +kernel
theorem d_CoverFinder_withoutDominated_51 : decode b_CoverFinder_withoutDominated 51 = .ok ((.goto (-45)), 3) := by decide +kernel
theorem d_CoverFinder_withoutDominated_54 : decode b_CoverFinder_withoutDominated 54 = .ok ((.lload 4), 2) := by decide +kernel
theorem d_CoverFinder_withoutDominated_56 : decode b_CoverFinder_withoutDominated 56 = .ok (.lreturn, 1) := by decide +kernel
theorem d_CoverFinder_isDominated_0 : decode b_CoverFinder_isDominated 0 = .ok ((.aload_n 0), 1) := by decide +kernel
theorem d_CoverFinder_isDominated_1 : decode b_CoverFinder_isDominated 1 = .ok ((.getfield 9), 3) := by decide +kernel
theorem d_CoverFinder_isDominated_4 : decode b_CoverFinder_isDominated 4 = .ok ((.iload_n 1), 1) := by decide +kernel
theorem d_CoverFinder_isDominated_5 : decode b_CoverFinder_isDominated 5 = .ok (.iaload, 1) := by decide +kernel
theorem d_CoverFinder_isDominated_6 : decode b_CoverFinder_isDominated 6 = .ok ((.iload_n 2), 1) := by decide +kernel
theorem d_CoverFinder_isDominated_7 : decode b_CoverFinder_isDominated 7 = .ok (.iand, 1) := by decide +kernel
theorem d_CoverFinder_isDominated_8 : decode b_CoverFinder_isDominated 8 = .ok ((.istore 5), 2) := by decide +kernel
theorem d_CoverFinder_isDominated_10 : decode b_CoverFinder_isDominated 10 = .ok ((.iload 5), 2) := by decide +kernel
theorem d_CoverFinder_isDominated_12 : decode b_CoverFinder_isDominated 12 = .ok ((.ifCond .ne 5), 3) := by decide +kernel
theorem d_CoverFinder_isDominated_15 : decode b_CoverFinder_isDominated 15 = .ok ((.iconst 1), 1) := by decide +kernel
theorem d_CoverFinder_isDominated_16 : decode b_CoverFinder_isDominated 16 = .ok (.ireturn, 1) := by decide +kernel
theorem d_CoverFinder_isDominated_17 : decode b_CoverFinder_isDominated 17 = .ok ((.iconst 0), 1) := by decide +kernel
theorem d_CoverFinder_isDominated_18 : decode b_CoverFinder_isDominated 18 = .ok ((.istore 6), 2) := by decide +kernel
theorem d_CoverFinder_isDominated_20 : decode b_CoverFinder_isDominated 20 = .ok ((.iload 6), 2) := by decide +kernel
theorem d_CoverFinder_isDominated_22 : decode b_CoverFinder_isDominated 22 = .ok ((.aload_n 0), 1) := by decide +kernel
theorem d_CoverFinder_isDominated_23 : decode b_CoverFinder_isDominated 23 = .ok ((.getfield 51), 3) := by decide +kernel
theorem d_CoverFinder_isDominated_26 : decode b_CoverFinder_isDominated 26 = .ok ((.if_icmp .ge 52), 3) := by decide +kernel
theorem d_CoverFinder_isDominated_29 : decode b_CoverFinder_isDominated 29 = .ok ((.lload_n 3), 1) := by decide +kernel
theorem d_CoverFinder_isDominated_30 : decode b_CoverFinder_isDominated 30 = .ok ((.iload 6), 2) := by decide +kernel
theorem d_CoverFinder_isDominated_32 : decode b_CoverFinder_isDominated 32 = .ok ((.invokestatic 92), 3) := by decide +kernel
theorem d_CoverFinder_isDominated_35 : decode b_CoverFinder_isDominated 35 = .ok ((.ifCond .eq 37), 3) := by decide +kernel
theorem d_CoverFinder_isDominated_38 : decode b_CoverFinder_isDominated 38 = .ok ((.aload_n 0), 1) := by decide +kernel
theorem d_CoverFinder_isDominated_39 : decode b_CoverFinder_isDominated 39 = .ok ((.getfield 18), 3) := by decide +kernel
theorem d_CoverFinder_isDominated_42 : decode b_CoverFinder_isDominated 42 = .ok ((.iload 6), 2) := by decide +kernel
theorem d_CoverFinder_isDominated_44 : decode b_CoverFinder_isDominated 44 = .ok (.laload, 1) := by decide +kernel
theorem d_CoverFinder_isDominated_45 : decode b_CoverFinder_isDominated 45 = .ok ((.aload_n 0), 1) := by decide +kernel
theorem d_CoverFinder_isDominated_46 : decode b_CoverFinder_isDominated 46 = .ok ((.getfield 18), 3) := by decide +kernel
theorem d_CoverFinder_isDominated_49 : decode b_CoverFinder_isDominated 49 = .ok ((.iload_n 1), 1) := by decide +kernel
theorem d_CoverFinder_isDominated_50 : decode b_CoverFinder_isDominated 50 = .ok (.laload, 1) := by decide +kernel
theorem d_CoverFinder_isDominated_51 : decode b_CoverFinder_isDominated 51 = .ok (.lcmp, 1) := by decide +kernel
theorem d_CoverFinder_isDominated_52 : decode b_CoverFinder_isDominated 52 = .ok ((.ifCond .ge 20), 3) := by decide +kernel
theorem d_CoverFinder_isDominated_55 : decode b_CoverFinder_isDominated 55 = .ok ((.iload 5), 2) := by decide +kernel
theorem d_CoverFinder_isDominated_57 : decode b_CoverFinder_isDominated 57 = .ok ((.aload_n 0), 1) := by decide +kernel
theorem d_CoverFinder_isDominated_58 : decode b_CoverFinder_isDominated 58 = .ok ((.getfield 9), 3) := by decide +kernel
theorem d_CoverFinder_isDominated_61 : decode b_CoverFinder_isDominated 61 = .ok ((.iload 6), 2) := by decide +kernel
theorem d_CoverFinder_isDominated_63 : decode b_CoverFinder_isDominated 63 = .ok (.iaload, 1) := by decide +kernel
theorem d_CoverFinder_isDominated_64 : decode b_CoverFinder_isDominated 64 = .ok ((.iconst (-1)), 1) := by decide +kernel
theorem d_CoverFinder_isDominated_65 : decode b_CoverFinder_isDominated 65 = .ok (.ixor, 1) := by decide +kernel
theorem d_CoverFinder_isDominated_66 : decode b_CoverFinder_isDominated 66 = .ok (.iand, 1) := by decide +kernel
theorem d_CoverFinder_isDominated_67 : decode b_CoverFinder_isDominated 67 = .ok ((.ifCond .ne 5), 3) := by decide +kernel
theorem d_CoverFinder_isDominated_70 : decode b_CoverFinder_isDominated 70 = .ok ((.iconst 1), 1) := by decide +kernel
theorem d_CoverFinder_isDominated_71 : decode b_CoverFinder_isDominated 71 = .ok (.ireturn, 1) := by decide +kernel
theorem d_CoverFinder_isDominated_72 : decode b_CoverFinder_isDominated 72 = .ok ((.iinc 6 1), 3) := by decide +kernel
theorem d_CoverFinder_isDominated_75 : decode b_CoverFinder_isDominated 75 = .ok ((.goto (-55)), 3) := by decide +kernel
theorem d_CoverFinder_isDominated_78 : decode b_CoverFinder_isDominated 78 = .ok ((.iconst 0), 1) := by decide +kernel
theorem d_CoverFinder_isDominated_79 : decode b_CoverFinder_isDominated 79 = .ok (.ireturn, 1) := by decide +kernel
theorem d_CoverFinder_leastWeight_0 : decode b_CoverFinder_leastWeight 0 = .ok ((.lconst 0), 1) := by decide +kernel
theorem d_CoverFinder_leastWeight_1 : decode b_CoverFinder_leastWeight 1 = .ok ((.lstore 4), 2) := by decide +kernel
theorem d_CoverFinder_leastWeight_3 : decode b_CoverFinder_leastWeight 3 = .ok ((.iload_n 1), 1) := by decide +kernel
theorem d_CoverFinder_leastWeight_4 : decode b_CoverFinder_leastWeight 4 = .ok ((.istore 6), 2) := by decide +kernel
theorem d_CoverFinder_leastWeight_6 : decode b_CoverFinder_leastWeight 6 = .ok ((.iconst 0), 1) := by decide +kernel
theorem d_CoverFinder_leastWeight_7 : decode b_CoverFinder_leastWeight 7 = .ok ((.istore 7), 2) := by decide +kernel
theorem d_CoverFinder_leastWeight_9 : decode b_CoverFinder_leastWeight 9 = .ok ((.iload 7), 2) := by decide +kernel
theorem d_CoverFinder_leastWeight_11 : decode b_CoverFinder_leastWeight 11 = .ok ((.bipush 32), 2) := by decide +kernel
theorem d_CoverFinder_leastWeight_13 : decode b_CoverFinder_leastWeight 13 = .ok ((.if_icmp .ge 109), 3) := by decide +kernel
theorem d_CoverFinder_leastWeight_16 : decode b_CoverFinder_leastWeight 16 = .ok ((.iload 6), 2) := by decide +kernel
theorem d_CoverFinder_leastWeight_18 : decode b_CoverFinder_leastWeight 18 = .ok ((.ifCond .eq 104), 3) := by decide +kernel
theorem d_CoverFinder_leastWeight_21 : decode b_CoverFinder_leastWeight 21 = .ok ((.aload_n 0), 1) := by decide +kernel
theorem d_CoverFinder_leastWeight_22 : decode b_CoverFinder_leastWeight 22 = .ok ((.getfield 22), 3) := by decide +kernel
theorem d_CoverFinder_leastWeight_25 : decode b_CoverFinder_leastWeight 25 = .ok ((.aload_n 0), 1) := by decide +kernel
theorem d_CoverFinder_leastWeight_26 : decode b_CoverFinder_leastWeight 26 = .ok ((.iload 6), 2) := by decide +kernel
theorem d_CoverFinder_leastWeight_28 : decode b_CoverFinder_leastWeight 28 = .ok ((.lload_n 2), 1) := by decide +kernel
theorem d_CoverFinder_leastWeight_29 : decode b_CoverFinder_leastWeight 29 = .ok ((.invokevirtual 112), 3) := by decide +kernel
theorem d_CoverFinder_leastWeight_32 : decode b_CoverFinder_leastWeight 32 = .ok (.laload, 1) := by decide +kernel
theorem d_CoverFinder_leastWeight_33 : decode b_CoverFinder_leastWeight 33 = .ok ((.lload_n 2), 1) := by decide +kernel
theorem d_CoverFinder_leastWeight_34 : decode b_CoverFinder_leastWeight 34 = .ok (.land, 1) := by decide +kernel
theorem d_CoverFinder_leastWeight_35 : decode b_CoverFinder_leastWeight 35 = .ok ((.lstore 8), 2) := by decide +kernel
theorem d_CoverFinder_leastWeight_37 : decode b_CoverFinder_leastWeight 37 = .ok ((.lload 8), 2) := by decide +kernel
theorem d_CoverFinder_leastWeight_39 : decode b_CoverFinder_leastWeight 39 = .ok ((.lconst 0), 1) := by decide +kernel
theorem d_CoverFinder_leastWeight_40 : decode b_CoverFinder_leastWeight 40 = .ok (.lcmp, 1) := by decide +kernel
theorem d_CoverFinder_leastWeight_41 : decode b_CoverFinder_leastWeight 41 = .ok ((.ifCond .ne 7), 3) := by decide +kernel
theorem d_CoverFinder_leastWeight_44 : decode b_CoverFinder_leastWeight 44 = .ok ((.ldc2_w 134), 3) := by decide +kernel
theorem d_CoverFinder_leastWeight_47 : decode b_CoverFinder_leastWeight 47 = .ok (.lreturn, 1) := by decide +kernel
theorem d_CoverFinder_leastWeight_48 : decode b_CoverFinder_leastWeight 48 = .ok ((.ldc2_w 134), 3) := by decide +kernel
theorem d_CoverFinder_leastWeight_51 : decode b_CoverFinder_leastWeight 51 = .ok ((.lstore 10), 2) := by decide +kernel
theorem d_CoverFinder_leastWeight_53 : decode b_CoverFinder_leastWeight 53 = .ok ((.iconst 0), 1) := by decide +kernel
theorem d_CoverFinder_leastWeight_54 : decode b_CoverFinder_leastWeight 54 = .ok ((.istore 12), 2) := by decide +kernel
theorem d_CoverFinder_leastWeight_56 : decode b_CoverFinder_leastWeight 56 = .ok ((.iload 12), 2) := by decide +kernel
theorem d_CoverFinder_leastWeight_58 : decode b_CoverFinder_leastWeight 58 = .ok ((.aload_n 0), 1) := by decide +kernel
theorem d_CoverFinder_leastWeight_59 : decode b_CoverFinder_leastWeight 59 = .ok ((.getfield 51), 3) := by decide +kernel
theorem d_CoverFinder_leastWeight_62 : decode b_CoverFinder_leastWeight 62 = .ok ((.if_icmp .ge 47), 3) := by decide +kernel
theorem d_CoverFinder_leastWeight_65 : decode b_CoverFinder_leastWeight 65 = .ok ((.lload 8), 2) := by decide +kernel
theorem d_CoverFinder_leastWeight_67 : decode b_CoverFinder_leastWeight 67 = .ok ((.iload 12), 2) := by decide +kernel
theorem d_CoverFinder_leastWeight_69 : decode b_CoverFinder_leastWeight 69 = .ok ((.invokestatic 92), 3) := by decide +kernel
theorem d_CoverFinder_leastWeight_72 : decode b_CoverFinder_leastWeight 72 = .ok ((.ifCond .eq 31), 3) := by decide +kernel
theorem d_CoverFinder_leastWeight_75 : decode b_CoverFinder_leastWeight 75 = .ok ((.lload 10), 2) := by decide +kernel
theorem d_CoverFinder_leastWeight_77 : decode b_CoverFinder_leastWeight 77 = .ok ((.aload_n 0), 1) := by decide +kernel
theorem d_CoverFinder_leastWeight_78 : decode b_CoverFinder_leastWeight 78 = .ok ((.getfield 18), 3) := by decide +kernel
theorem d_CoverFinder_leastWeight_81 : decode b_CoverFinder_leastWeight 81 = .ok ((.iload 12), 2) := by decide +kernel
theorem d_CoverFinder_leastWeight_83 : decode b_CoverFinder_leastWeight 83 = .ok (.laload, 1) := by decide +kernel
theorem d_CoverFinder_leastWeight_84 : decode b_CoverFinder_leastWeight 84 = .ok ((.invokestatic 136), 3) := by decide +kernel
theorem d_CoverFinder_leastWeight_87 : decode b_CoverFinder_leastWeight 87 = .ok ((.lstore 10), 2) := by decide +kernel
theorem d_CoverFinder_leastWeight_89 : decode b_CoverFinder_leastWeight 89 = .ok ((.iload 6), 2) := by decide +kernel
theorem d_CoverFinder_leastWeight_91 : decode b_CoverFinder_leastWeight 91 = .ok ((.aload_n 0), 1) := by decide +kernel
theorem d_CoverFinder_leastWeight_92 : decode b_CoverFinder_leastWeight 92 = .ok ((.getfield 9), 3) := by decide +kernel
theorem d_CoverFinder_leastWeight_95 : decode b_CoverFinder_leastWeight 95 = .ok ((.iload 12), 2) := by decide +kernel
theorem d_CoverFinder_leastWeight_97 : decode b_CoverFinder_leastWeight 97 = .ok (.iaload, 1) := by decide +kernel
theorem d_CoverFinder_leastWeight_98 : decode b_CoverFinder_leastWeight 98 = .ok ((.iconst (-1)), 1) := by decide +kernel
theorem d_CoverFinder_leastWeight_99 : decode b_CoverFinder_leastWeight 99 = .ok (.ixor, 1) := by decide +kernel
theorem d_CoverFinder_leastWeight_100 : decode b_CoverFinder_leastWeight 100 = .ok (.iand, 1) := by decide +kernel
theorem d_CoverFinder_leastWeight_101 : decode b_CoverFinder_leastWeight 101 = .ok ((.istore 6), 2) := by decide +kernel
theorem d_CoverFinder_leastWeight_103 : decode b_CoverFinder_leastWeight 103 = .ok ((.iinc 12 1), 3) := by decide +kernel
theorem d_CoverFinder_leastWeight_106 : decode b_CoverFinder_leastWeight 106 = .ok ((.goto (-50)), 3) := by decide +kernel
theorem d_CoverFinder_leastWeight_109 : decode b_CoverFinder_leastWeight 109 = .ok ((.lload 4), 2) := by decide +kernel
theorem d_CoverFinder_leastWeight_111 : decode b_CoverFinder_leastWeight 111 = .ok ((.lload 10), 2) := by decide +kernel
theorem d_CoverFinder_leastWeight_113 : decode b_CoverFinder_leastWeight 113 = .ok (.ladd, 1) := by decide +kernel
theorem d_CoverFinder_leastWeight_114 : decode b_CoverFinder_leastWeight 114 = .ok ((.lstore 4), 2) := by decide +kernel
theorem d_CoverFinder_leastWeight_116 : decode b_CoverFinder_leastWeight 116 = .ok ((.iinc 7 1), 3) := by decide +kernel
theorem d_CoverFinder_leastWeight_119 : decode b_CoverFinder_leastWeight 119 = .ok ((.goto (-110)), 3) := by decide +kernel
theorem d_CoverFinder_leastWeight_122 : decode b_CoverFinder_leastWeight 122 = .ok ((.lload 4), 2) := by decide +kernel
theorem d_CoverFinder_leastWeight_124 : decode b_CoverFinder_leastWeight 124 = .ok (.lreturn, 1) := by decide +kernel
theorem d_CoverFinder_tryHavers_0 : decode b_CoverFinder_tryHavers 0 = .ok ((.lload 4), 2) := by decide +kernel
theorem d_CoverFinder_tryHavers_2 : decode b_CoverFinder_tryHavers 2 = .ok ((.lstore 11), 2) := by decide +kernel
theorem d_CoverFinder_tryHavers_4 : decode b_CoverFinder_tryHavers 4 = .ok ((.iconst 0), 1) := by decide +kernel
theorem d_CoverFinder_tryHavers_5 : decode b_CoverFinder_tryHavers 5 = .ok ((.istore 13), 2) := by decide +kernel
theorem d_CoverFinder_tryHavers_7 : decode b_CoverFinder_tryHavers 7 = .ok ((.iload 13), 2) := by decide +kernel
theorem d_CoverFinder_tryHavers_9 : decode b_CoverFinder_tryHavers 9 = .ok ((.aload_n 0), 1) := by decide +kernel
theorem d_CoverFinder_tryHavers_10 : decode b_CoverFinder_tryHavers 10 = .ok ((.getfield 51), 3) := by decide +kernel
theorem d_CoverFinder_tryHavers_13 : decode b_CoverFinder_tryHavers 13 = .ok ((.if_icmp .ge 69), 3) := by decide +kernel
theorem d_CoverFinder_tryHavers_16 : decode b_CoverFinder_tryHavers 16 = .ok ((.lload_n 1), 1) := by decide +kernel
theorem d_CoverFinder_tryHavers_17 : decode b_CoverFinder_tryHavers 17 = .ok ((.iload 13), 2) := by decide +kernel
theorem d_CoverFinder_tryHavers_19 : decode b_CoverFinder_tryHavers 19 = .ok ((.invokestatic 92), 3) := by decide +kernel
theorem d_CoverFinder_tryHavers_22 : decode b_CoverFinder_tryHavers 22 = .ok ((.ifCond .eq 54), 3) := by decide +kernel
theorem d_CoverFinder_tryHavers_25 : decode b_CoverFinder_tryHavers 25 = .ok ((.aload_n 0), 1) := by decide +kernel
theorem d_CoverFinder_tryHavers_26 : decode b_CoverFinder_tryHavers 26 = .ok ((.iload_n 3), 1) := by decide +kernel
theorem d_CoverFinder_tryHavers_27 : decode b_CoverFinder_tryHavers 27 = .ok ((.aload_n 0), 1) := by decide +kernel
theorem d_CoverFinder_tryHavers_28 : decode b_CoverFinder_tryHavers 28 = .ok ((.getfield 9), 3) := by decide +kernel
theorem d_CoverFinder_tryHavers_31 : decode b_CoverFinder_tryHavers 31 = .ok ((.iload 13), 2) := by decide +kernel
theorem d_CoverFinder_tryHavers_33 : decode b_CoverFinder_tryHavers 33 = .ok (.iaload, 1) := by decide +kernel
theorem d_CoverFinder_tryHavers_34 : decode b_CoverFinder_tryHavers 34 = .ok ((.iconst (-1)), 1) := by decide +kernel
theorem d_CoverFinder_tryHavers_35 : decode b_CoverFinder_tryHavers 35 = .ok (.ixor, 1) := by decide +kernel
theorem d_CoverFinder_tryHavers_36 : decode b_CoverFinder_tryHavers 36 = .ok (.iand, 1) := by decide +kernel
theorem d_CoverFinder_tryHavers_37 : decode b_CoverFinder_tryHavers 37 = .ok ((.lload 11), 2) := by decide +kernel
theorem d_CoverFinder_tryHavers_39 : decode b_CoverFinder_tryHavers 39 = .ok ((.lload 6), 2) := by decide +kernel
theorem d_CoverFinder_tryHavers_41 : decode b_CoverFinder_tryHavers 41 = .ok ((.lconst 1), 1) := by decide +kernel
theorem d_CoverFinder_tryHavers_42 : decode b_CoverFinder_tryHavers 42 = .ok ((.iload 13), 2) := by decide +kernel
theorem d_CoverFinder_tryHavers_44 : decode b_CoverFinder_tryHavers 44 = .ok (.lshl, 1) := by decide +kernel
theorem d_CoverFinder_tryHavers_45 : decode b_CoverFinder_tryHavers 45 = .ok (.lor, 1) := by decide +kernel
theorem d_CoverFinder_tryHavers_46 : decode b_CoverFinder_tryHavers 46 = .ok ((.lload 8), 2) := by decide +kernel
theorem d_CoverFinder_tryHavers_48 : decode b_CoverFinder_tryHavers 48 = .ok ((.aload_n 0), 1) := by decide +kernel
theorem d_CoverFinder_tryHavers_49 : decode b_CoverFinder_tryHavers 49 = .ok ((.getfield 18), 3) := by decide +kernel
theorem d_CoverFinder_tryHavers_52 : decode b_CoverFinder_tryHavers 52 = .ok ((.iload 13), 2) := by decide +kernel
theorem d_CoverFinder_tryHavers_54 : decode b_CoverFinder_tryHavers 54 = .ok (.laload, 1) := by decide +kernel
theorem d_CoverFinder_tryHavers_55 : decode b_CoverFinder_tryHavers 55 = .ok (.ladd, 1) := by decide +kernel
theorem d_CoverFinder_tryHavers_56 : decode b_CoverFinder_tryHavers 56 = .ok ((.iload 10), 2) := by decide +kernel
theorem d_CoverFinder_tryHavers_58 : decode b_CoverFinder_tryHavers 58 = .ok ((.iconst 1), 1) := by decide +kernel
theorem d_CoverFinder_tryHavers_59 : decode b_CoverFinder_tryHavers 59 = .ok (.iadd, 1) := by decide +kernel
theorem d_CoverFinder_tryHavers_60 : decode b_CoverFinder_tryHavers 60 = .ok ((.invokevirtual 61), 3) := by decide +kernel
theorem d_CoverFinder_tryHavers_63 : decode b_CoverFinder_tryHavers 63 = .ok ((.lload 11), 2) := by decide +kernel
theorem d_CoverFinder_tryHavers_65 : decode b_CoverFinder_tryHavers 65 = .ok ((.lconst 1), 1) := by decide +kernel
theorem d_CoverFinder_tryHavers_66 : decode b_CoverFinder_tryHavers 66 = .ok ((.iload 13), 2) := by decide +kernel
theorem d_CoverFinder_tryHavers_68 : decode b_CoverFinder_tryHavers 68 = .ok (.lshl, 1) := by decide +kernel
theorem d_CoverFinder_tryHavers_69 : decode b_CoverFinder_tryHavers 69 = .ok ((.ldc2_w 56), 3) := by decide +kernel
theorem d_CoverFinder_tryHavers_72 : decode b_CoverFinder_tryHavers 72 = .ok (.lxor, 1) := by decide +kernel
theorem d_CoverFinder_tryHavers_73 : decode b_CoverFinder_tryHavers 73 = .ok (.land, 1) := by decide +kernel
theorem d_CoverFinder_tryHavers_74 : decode b_CoverFinder_tryHavers 74 = .ok ((.lstore 11), 2) := by decide +kernel
theorem d_CoverFinder_tryHavers_76 : decode b_CoverFinder_tryHavers 76 = .ok ((.iinc 13 1), 3) := by decide +kernel
theorem d_CoverFinder_tryHavers_79 : decode b_CoverFinder_tryHavers 79 = .ok ((.goto (-72)), 3) := by decide +kernel
theorem d_CoverFinder_tryHavers_82 : decode b_CoverFinder_tryHavers 82 = .ok (.return_, 1) := by decide +kernel
theorem d_CoverFinder_found_0 : decode b_CoverFinder_found 0 = .ok ((.aload_n 0), 1) := by decide +kernel
theorem d_CoverFinder_found_1 : decode b_CoverFinder_found 1 = .ok ((.getfield 32), 3) := by decide +kernel
theorem d_CoverFinder_found_4 : decode b_CoverFinder_found 4 = .ok (.lreturn, 1) := by decide +kernel
end
section
theorem d_Cubes_init_0 : decode b_Cubes_init 0 = .ok ((.aload_n 0), 1) := by decide +kernel
theorem d_Cubes_init_1 : decode b_Cubes_init 1 = .ok ((.invokespecial 3), 3) := by decide +kernel
theorem d_Cubes_init_4 : decode b_Cubes_init 4 = .ok ((.aload_n 0), 1) := by decide +kernel
theorem d_Cubes_init_5 : decode b_Cubes_init 5 = .ok ((.bipush 24), 2) := by decide +kernel
theorem d_Cubes_init_7 : decode b_Cubes_init 7 = .ok ((.newarray .int), 2) := by decide +kernel
theorem d_Cubes_init_9 : decode b_Cubes_init 9 = .ok ((.putfield 9), 3) := by decide +kernel
theorem d_Cubes_init_12 : decode b_Cubes_init 12 = .ok ((.aload_n 0), 1) := by decide +kernel
theorem d_Cubes_init_13 : decode b_Cubes_init 13 = .ok ((.bipush 48), 2) := by decide +kernel
theorem d_Cubes_init_15 : decode b_Cubes_init 15 = .ok ((.newarray .int), 2) := by decide +kernel
theorem d_Cubes_init_17 : decode b_Cubes_init 17 = .ok ((.putfield 15), 3) := by decide +kernel
theorem d_Cubes_init_20 : decode b_Cubes_init 20 = .ok ((.aload_n 0), 1) := by decide +kernel
theorem d_Cubes_init_21 : decode b_Cubes_init 21 = .ok ((.aload_n 1), 1) := by decide +kernel
theorem d_Cubes_init_22 : decode b_Cubes_init 22 = .ok ((.putfield 18), 3) := by decide +kernel
theorem d_Cubes_init_25 : decode b_Cubes_init 25 = .ok ((.aload_n 0), 1) := by decide +kernel
theorem d_Cubes_init_26 : decode b_Cubes_init 26 = .ok ((.iload_n 2), 1) := by decide +kernel
theorem d_Cubes_init_27 : decode b_Cubes_init 27 = .ok ((.putfield 22), 3) := by decide +kernel
theorem d_Cubes_init_30 : decode b_Cubes_init 30 = .ok ((.aload_n 0), 1) := by decide +kernel
theorem d_Cubes_init_31 : decode b_Cubes_init 31 = .ok ((.iconst 0), 1) := by decide +kernel
theorem d_Cubes_init_32 : decode b_Cubes_init 32 = .ok ((.putfield 26), 3) := by decide +kernel
theorem d_Cubes_init_35 : decode b_Cubes_init 35 = .ok (.return_, 1) := by decide +kernel
theorem d_Cubes_notOff_0 : decode b_Cubes_notOff 0 = .ok ((.aload_n 0), 1) := by decide +kernel
theorem d_Cubes_notOff_1 : decode b_Cubes_notOff 1 = .ok ((.iload_n 1), 1) := by decide +kernel
theorem d_Cubes_notOff_2 : decode b_Cubes_notOff 2 = .ok ((.iconst 1), 1) := by decide +kernel
theorem d_Cubes_notOff_3 : decode b_Cubes_notOff 3 = .ok ((.invokevirtual 47), 3) := by decide +kernel
theorem d_Cubes_notOff_6 : decode b_Cubes_notOff 6 = .ok ((.aload_n 0), 1) := by decide +kernel
theorem d_Cubes_notOff_7 : decode b_Cubes_notOff 7 = .ok ((.iload_n 1), 1) := by decide +kernel
theorem d_Cubes_notOff_8 : decode b_Cubes_notOff 8 = .ok ((.iconst 2), 1) := by decide +kernel
theorem d_Cubes_notOff_9 : decode b_Cubes_notOff 9 = .ok ((.invokevirtual 47), 3) := by decide +kernel
theorem d_Cubes_notOff_12 : decode b_Cubes_notOff 12 = .ok (.ior, 1) := by decide +kernel
theorem d_Cubes_notOff_13 : decode b_Cubes_notOff 13 = .ok (.ireturn, 1) := by decide +kernel
theorem d_Cubes_hadByKind_0 : decode b_Cubes_hadByKind 0 = .ok ((.iconst 0), 1) := by decide +kernel
theorem d_Cubes_hadByKind_1 : decode b_Cubes_hadByKind 1 = .ok ((.istore_n 3), 1) := by decide +kernel
theorem d_Cubes_hadByKind_2 : decode b_Cubes_hadByKind 2 = .ok ((.iconst 0), 1) := by decide +kernel
theorem d_Cubes_hadByKind_3 : decode b_Cubes_hadByKind 3 = .ok ((.istore 4), 2) := by decide +kernel
theorem d_Cubes_hadByKind_5 : decode b_Cubes_hadByKind 5 = .ok ((.iload 4), 2) := by decide +kernel
theorem d_Cubes_hadByKind_7 : decode b_Cubes_hadByKind 7 = .ok ((.aload_n 0), 1) := by decide +kernel
theorem d_Cubes_hadByKind_8 : decode b_Cubes_hadByKind 8 = .ok ((.getfield 26), 3) := by decide +kernel
theorem d_Cubes_hadByKind_11 : decode b_Cubes_hadByKind 11 = .ok ((.if_icmp .ge 41), 3) := by decide +kernel
theorem d_Cubes_hadByKind_14 : decode b_Cubes_hadByKind 14 = .ok ((.aload_n 0), 1) := by decide +kernel
theorem d_Cubes_hadByKind_15 : decode b_Cubes_hadByKind 15 = .ok ((.getfield 15), 3) := by decide +kernel
theorem d_Cubes_hadByKind_18 : decode b_Cubes_hadByKind 18 = .ok ((.iload 4), 2) := by decide +kernel
theorem d_Cubes_hadByKind_20 : decode b_Cubes_hadByKind 20 = .ok ((.iconst 2), 1) := by decide +kernel
theorem d_Cubes_hadByKind_21 : decode b_Cubes_hadByKind 21 = .ok (.imul, 1) := by decide +kernel
theorem d_Cubes_hadByKind_22 : decode b_Cubes_hadByKind 22 = .ok ((.iload_n 1), 1) := by decide +kernel
theorem d_Cubes_hadByKind_23 : decode b_Cubes_hadByKind 23 = .ok (.iadd, 1) := by decide +kernel
theorem d_Cubes_hadByKind_24 : decode b_Cubes_hadByKind 24 = .ok (.iaload, 1) := by decide +kernel
theorem d_Cubes_hadByKind_25 : decode b_Cubes_hadByKind 25 = .ok ((.iload_n 2), 1) := by decide +kernel
theorem d_Cubes_hadByKind_26 : decode b_Cubes_hadByKind 26 = .ok ((.if_icmp .ne 20), 3) := by decide +kernel
theorem d_Cubes_hadByKind_29 : decode b_Cubes_hadByKind 29 = .ok ((.iload_n 3), 1) := by decide +kernel
theorem d_Cubes_hadByKind_30 : decode b_Cubes_hadByKind 30 = .ok ((.aload_n 0), 1) := by decide +kernel
theorem d_Cubes_hadByKind_31 : decode b_Cubes_hadByKind 31 = .ok ((.getfield 18), 3) := by decide +kernel
theorem d_Cubes_hadByKind_34 : decode b_Cubes_hadByKind 34 = .ok ((.aload_n 0), 1) := by decide +kernel
theorem d_Cubes_hadByKind_35 : decode b_Cubes_hadByKind 35 = .ok ((.getfield 9), 3) := by decide +kernel
theorem d_Cubes_hadByKind_38 : decode b_Cubes_hadByKind 38 = .ok ((.iload 4), 2) := by decide +kernel
theorem d_Cubes_hadByKind_40 : decode b_Cubes_hadByKind 40 = .ok (.iaload, 1) := by decide +kernel
theorem d_Cubes_hadByKind_41 : decode b_Cubes_hadByKind 41 = .ok ((.invokevirtual 50), 3) := by decide +kernel
theorem d_Cubes_hadByKind_44 : decode b_Cubes_hadByKind 44 = .ok (.ior, 1) := by decide +kernel
theorem d_Cubes_hadByKind_45 : decode b_Cubes_hadByKind 45 = .ok ((.istore_n 3), 1) := by decide +kernel
theorem d_Cubes_hadByKind_46 : decode b_Cubes_hadByKind 46 = .ok ((.iinc 4 1), 3) := by decide +kernel
theorem d_Cubes_hadByKind_49 : decode b_Cubes_hadByKind 49 = .ok ((.goto (-44)), 3) := by decide +kernel
theorem d_Cubes_hadByKind_52 : decode b_Cubes_hadByKind 52 = .ok ((.iload_n 3), 1) := by decide +kernel
theorem d_Cubes_hadByKind_53 : decode b_Cubes_hadByKind 53 = .ok (.ireturn, 1) := by decide +kernel
theorem d_Cubes_on_0 : decode b_Cubes_on 0 = .ok ((.aload_n 0), 1) := by decide +kernel
theorem d_Cubes_on_1 : decode b_Cubes_on 1 = .ok ((.iload_n 1), 1) := by decide +kernel
theorem d_Cubes_on_2 : decode b_Cubes_on 2 = .ok ((.iconst 1), 1) := by decide +kernel
theorem d_Cubes_on_3 : decode b_Cubes_on 3 = .ok ((.invokevirtual 47), 3) := by decide +kernel
theorem d_Cubes_on_6 : decode b_Cubes_on 6 = .ok (.ireturn, 1) := by decide +kernel
theorem d_Cubes_dropAll_0 : decode b_Cubes_dropAll 0 = .ok ((.aload_n 0), 1) := by decide +kernel
theorem d_Cubes_dropAll_1 : decode b_Cubes_dropAll 1 = .ok ((.iconst 0), 1) := by decide +kernel
theorem d_Cubes_dropAll_2 : decode b_Cubes_dropAll 2 = .ok ((.putfield 26), 3) := by decide +kernel
theorem d_Cubes_dropAll_5 : decode b_Cubes_dropAll 5 = .ok (.return_, 1) := by decide +kernel
theorem d_Cubes_isFull_0 : decode b_Cubes_isFull 0 = .ok ((.aload_n 0), 1) := by decide +kernel
theorem d_Cubes_isFull_1 : decode b_Cubes_isFull 1 = .ok ((.getfield 26), 3) := by decide +kernel
theorem d_Cubes_isFull_4 : decode b_Cubes_isFull 4 = .ok ((.bipush 24), 2) := by decide +kernel
theorem d_Cubes_isFull_6 : decode b_Cubes_isFull 6 = .ok ((.if_icmp .lt 7), 3) := by decide +kernel
theorem d_Cubes_isFull_9 : decode b_Cubes_isFull 9 = .ok ((.iconst 1), 1) := by decide +kernel
theorem d_Cubes_isFull_10 : decode b_Cubes_isFull 10 = .ok ((.goto 4), 3) := by decide +kernel
theorem d_Cubes_isFull_13 : decode b_Cubes_isFull 13 = .ok ((.iconst 0), 1) := by decide +kernel
theorem d_Cubes_isFull_14 : decode b_Cubes_isFull 14 = .ok (.ireturn, 1) := by decide +kernel
theorem d_Cubes_add_0 : decode b_Cubes_add 0 = .ok ((.aload_n 0), 1) := by decide +kernel
theorem d_Cubes_add_1 : decode b_Cubes_add 1 = .ok ((.invokevirtual 29), 3) := by decide +kernel
theorem d_Cubes_add_4 : decode b_Cubes_add 4 = .ok ((.ifCond .eq 5), 3) := by decide +kernel
theorem d_Cubes_add_7 : decode b_Cubes_add 7 = .ok ((.iconst (-1)), 1) := by decide +kernel
theorem d_Cubes_add_8 : decode b_Cubes_add 8 = .ok (.ireturn, 1) := by decide +kernel
theorem d_Cubes_add_9 : decode b_Cubes_add 9 = .ok ((.aload_n 0), 1) := by decide +kernel
theorem d_Cubes_add_10 : decode b_Cubes_add 10 = .ok ((.getfield 9), 3) := by decide +kernel
theorem d_Cubes_add_13 : decode b_Cubes_add 13 = .ok ((.aload_n 0), 1) := by decide +kernel
theorem d_Cubes_add_14 : decode b_Cubes_add 14 = .ok ((.getfield 26), 3) := by decide +kernel
theorem d_Cubes_add_17 : decode b_Cubes_add 17 = .ok ((.aload_n 0), 1) := by decide +kernel
theorem d_Cubes_add_18 : decode b_Cubes_add 18 = .ok ((.getfield 18), 3) := by decide +kernel
theorem d_Cubes_add_21 : decode b_Cubes_add 21 = .ok ((.invokevirtual 33), 3) := by decide +kernel
theorem d_Cubes_add_24 : decode b_Cubes_add 24 = .ok (.iastore, 1) := by decide +kernel
theorem d_Cubes_add_25 : decode b_Cubes_add 25 = .ok ((.iconst 0), 1) := by decide +kernel
theorem d_Cubes_add_26 : decode b_Cubes_add 26 = .ok ((.istore_n 1), 1) := by decide +kernel
theorem d_Cubes_add_27 : decode b_Cubes_add 27 = .ok ((.iload_n 1), 1) := by decide +kernel
theorem d_Cubes_add_28 : decode b_Cubes_add 28 = .ok ((.aload_n 0), 1) := by decide +kernel
theorem d_Cubes_add_29 : decode b_Cubes_add 29 = .ok ((.getfield 22), 3) := by decide +kernel
theorem d_Cubes_add_32 : decode b_Cubes_add 32 = .ok ((.if_icmp .ge 23), 3) := by decide +kernel
theorem d_Cubes_add_35 : decode b_Cubes_add 35 = .ok ((.aload_n 0), 1) := by decide +kernel
theorem d_Cubes_add_36 : decode b_Cubes_add 36 = .ok ((.getfield 15), 3) := by decide +kernel
theorem d_Cubes_add_39 : decode b_Cubes_add 39 = .ok ((.aload_n 0), 1) := by decide +kernel
theorem d_Cubes_add_40 : decode b_Cubes_add 40 = .ok ((.getfield 26), 3) := by decide +kernel
theorem d_Cubes_add_43 : decode b_Cubes_add 43 = .ok ((.iconst 2), 1) := by decide +kernel
theorem d_Cubes_add_44 : decode b_Cubes_add 44 = .ok (.imul, 1) := by decide +kernel
theorem d_Cubes_add_45 : decode b_Cubes_add 45 = .ok ((.iload_n 1), 1) := by decide +kernel
theorem d_Cubes_add_46 : decode b_Cubes_add 46 = .ok (.iadd, 1) := by decide +kernel
theorem d_Cubes_add_47 : decode b_Cubes_add 47 = .ok ((.iconst 0), 1) := by decide +kernel
theorem d_Cubes_add_48 : decode b_Cubes_add 48 = .ok (.iastore, 1) := by decide +kernel
theorem d_Cubes_add_49 : decode b_Cubes_add 49 = .ok ((.iinc 1 1), 3) := by decide +kernel
theorem d_Cubes_add_52 : decode b_Cubes_add 52 = .ok ((.goto (-25)), 3) := by decide +kernel
theorem d_Cubes_add_55 : decode b_Cubes_add 55 = .ok ((.aload_n 0), 1) := by decide +kernel
theorem d_Cubes_add_56 : decode b_Cubes_add 56 = .ok (.dup, 1) := by decide +kernel
theorem d_Cubes_add_57 : decode b_Cubes_add 57 = .ok ((.getfield 26), 3) := by decide +kernel
theorem d_Cubes_add_60 : decode b_Cubes_add 60 = .ok ((.iconst 1), 1) := by decide +kernel
theorem d_Cubes_add_61 : decode b_Cubes_add 61 = .ok (.iadd, 1) := by decide +kernel
theorem d_Cubes_add_62 : decode b_Cubes_add 62 = .ok ((.putfield 26), 3) := by decide +kernel
theorem d_Cubes_add_65 : decode b_Cubes_add 65 = .ok ((.aload_n 0), 1) := by decide +kernel
theorem d_Cubes_add_66 : decode b_Cubes_add 66 = .ok ((.getfield 26), 3) := by decide +kernel
theorem d_Cubes_add_69 : decode b_Cubes_add 69 = .ok ((.iconst 1), 1) := by decide +kernel
theorem d_Cubes_add_70 : decode b_Cubes_add 70 = .ok (.isub, 1) := by decide +kernel
theorem d_Cubes_add_71 : decode b_Cubes_add 71 = .ok (.ireturn, 1) := by decide +kernel
theorem d_Cubes_holds_0 : decode b_Cubes_holds 0 = .ok ((.iload_n 1), 1) := by decide +kernel
theorem d_Cubes_holds_1 : decode b_Cubes_holds 1 = .ok ((.ifCond .lt 15), 3) := by decide +kernel
theorem d_Cubes_holds_4 : decode b_Cubes_holds 4 = .ok ((.iload_n 1), 1) := by decide +kernel
theorem d_Cubes_holds_5 : decode b_Cubes_holds 5 = .ok ((.aload_n 0), 1) := by decide +kernel
theorem d_Cubes_holds_6 : decode b_Cubes_holds 6 = .ok ((.getfield 26), 3) := by decide +kernel
theorem d_Cubes_holds_9 : decode b_Cubes_holds 9 = .ok ((.if_icmp .ge 7), 3) := by decide +kernel
theorem d_Cubes_holds_12 : decode b_Cubes_holds 12 = .ok ((.iconst 1), 1) := by decide +kernel
theorem d_Cubes_holds_13 : decode b_Cubes_holds 13 = .ok ((.goto 4), 3) := by decide +kernel
theorem d_Cubes_holds_16 : decode b_Cubes_holds 16 = .ok ((.iconst 0), 1) := by decide +kernel
theorem d_Cubes_holds_17 : decode b_Cubes_holds 17 = .ok (.ireturn, 1) := by decide +kernel
theorem d_Cubes_setDigit_0 : decode b_Cubes_setDigit 0 = .ok ((.aload_n 0), 1) := by decide +kernel
theorem d_Cubes_setDigit_1 : decode b_Cubes_setDigit 1 = .ok ((.getfield 18), 3) := by decide +kernel
theorem d_Cubes_setDigit_4 : decode b_Cubes_setDigit 4 = .ok ((.aload_n 0), 1) := by decide +kernel
theorem d_Cubes_setDigit_5 : decode b_Cubes_setDigit 5 = .ok ((.getfield 9), 3) := by decide +kernel
theorem d_Cubes_setDigit_8 : decode b_Cubes_setDigit 8 = .ok ((.iload_n 1), 1) := by decide +kernel
theorem d_Cubes_setDigit_9 : decode b_Cubes_setDigit 9 = .ok (.iaload, 1) := by decide +kernel
theorem d_Cubes_setDigit_10 : decode b_Cubes_setDigit 10 = .ok ((.iload_n 2), 1) := by decide +kernel
theorem d_Cubes_setDigit_11 : decode b_Cubes_setDigit 11 = .ok ((.invokevirtual 39), 3) := by decide +kernel
theorem d_Cubes_setDigit_14 : decode b_Cubes_setDigit 14 = .ok ((.iload_n 3), 1) := by decide +kernel
theorem d_Cubes_setDigit_15 : decode b_Cubes_setDigit 15 = .ok ((.if_icmp .ne 5), 3) := by decide +kernel
theorem d_Cubes_setDigit_18 : decode b_Cubes_setDigit 18 = .ok ((.iconst 0), 1) := by decide +kernel
theorem d_Cubes_setDigit_19 : decode b_Cubes_setDigit 19 = .ok (.ireturn, 1) := by decide +kernel
theorem d_Cubes_setDigit_20 : decode b_Cubes_setDigit 20 = .ok ((.aload_n 0), 1) := by decide +kernel
theorem d_Cubes_setDigit_21 : decode b_Cubes_setDigit 21 = .ok ((.getfield 9), 3) := by decide +kernel
theorem d_Cubes_setDigit_24 : decode b_Cubes_setDigit 24 = .ok ((.iload_n 1), 1) := by decide +kernel
theorem d_Cubes_setDigit_25 : decode b_Cubes_setDigit 25 = .ok ((.aload_n 0), 1) := by decide +kernel
theorem d_Cubes_setDigit_26 : decode b_Cubes_setDigit 26 = .ok ((.getfield 18), 3) := by decide +kernel
theorem d_Cubes_setDigit_29 : decode b_Cubes_setDigit 29 = .ok ((.aload_n 0), 1) := by decide +kernel
theorem d_Cubes_setDigit_30 : decode b_Cubes_setDigit 30 = .ok ((.getfield 9), 3) := by decide +kernel
theorem d_Cubes_setDigit_33 : decode b_Cubes_setDigit 33 = .ok ((.iload_n 1), 1) := by decide +kernel
theorem d_Cubes_setDigit_34 : decode b_Cubes_setDigit 34 = .ok (.iaload, 1) := by decide +kernel
theorem d_Cubes_setDigit_35 : decode b_Cubes_setDigit 35 = .ok ((.iload_n 2), 1) := by decide +kernel
theorem d_Cubes_setDigit_36 : decode b_Cubes_setDigit 36 = .ok ((.iload_n 3), 1) := by decide +kernel
theorem d_Cubes_setDigit_37 : decode b_Cubes_setDigit 37 = .ok ((.invokevirtual 43), 3) := by decide +kernel
theorem d_Cubes_setDigit_40 : decode b_Cubes_setDigit 40 = .ok (.iastore, 1) := by decide +kernel
theorem d_Cubes_setDigit_41 : decode b_Cubes_setDigit 41 = .ok ((.iconst 1), 1) := by decide +kernel
theorem d_Cubes_setDigit_42 : decode b_Cubes_setDigit 42 = .ok (.ireturn, 1) := by decide +kernel
theorem d_Cubes_setKind_0 : decode b_Cubes_setKind 0 = .ok ((.iload_n 1), 1) := by decide +kernel
theorem d_Cubes_setKind_1 : decode b_Cubes_setKind 1 = .ok ((.iconst 2), 1) := by decide +kernel
theorem d_Cubes_setKind_2 : decode b_Cubes_setKind 2 = .ok (.imul, 1) := by decide +kernel
theorem d_Cubes_setKind_3 : decode b_Cubes_setKind 3 = .ok ((.iload_n 2), 1) := by decide +kernel
theorem d_Cubes_setKind_4 : decode b_Cubes_setKind 4 = .ok (.iadd, 1) := by decide +kernel
theorem d_Cubes_setKind_5 : decode b_Cubes_setKind 5 = .ok ((.istore 4), 2) := by decide +kernel
theorem d_Cubes_setKind_7 : decode b_Cubes_setKind 7 = .ok ((.aload_n 0), 1) := by decide +kernel
theorem d_Cubes_setKind_8 : decode b_Cubes_setKind 8 = .ok ((.getfield 15), 3) := by decide +kernel
theorem d_Cubes_setKind_11 : decode b_Cubes_setKind 11 = .ok ((.iload 4), 2) := by decide +kernel
theorem d_Cubes_setKind_13 : decode b_Cubes_setKind 13 = .ok (.iaload, 1) := by decide +kernel
theorem d_Cubes_setKind_14 : decode b_Cubes_setKind 14 = .ok ((.iload_n 3), 1) := by decide +kernel
theorem d_Cubes_setKind_15 : decode b_Cubes_setKind 15 = .ok ((.if_icmp .ne 5), 3) := by decide +kernel
theorem d_Cubes_setKind_18 : decode b_Cubes_setKind 18 = .ok ((.iconst 0), 1) := by decide +kernel
theorem d_Cubes_setKind_19 : decode b_Cubes_setKind 19 = .ok (.ireturn, 1) := by decide +kernel
theorem d_Cubes_setKind_20 : decode b_Cubes_setKind 20 = .ok ((.aload_n 0), 1) := by decide +kernel
theorem d_Cubes_setKind_21 : decode b_Cubes_setKind 21 = .ok ((.getfield 15), 3) := by decide +kernel
theorem d_Cubes_setKind_24 : decode b_Cubes_setKind 24 = .ok ((.iload 4), 2) := by decide +kernel
theorem d_Cubes_setKind_26 : decode b_Cubes_setKind 26 = .ok ((.iload_n 3), 1) := by decide +kernel
theorem d_Cubes_setKind_27 : decode b_Cubes_setKind 27 = .ok (.iastore, 1) := by decide +kernel
theorem d_Cubes_setKind_28 : decode b_Cubes_setKind 28 = .ok ((.iconst 1), 1) := by decide +kernel
theorem d_Cubes_setKind_29 : decode b_Cubes_setKind 29 = .ok (.ireturn, 1) := by decide +kernel
end
section
theorem d_Diagrams_init_0 : decode b_Diagrams_init 0 = .ok ((.aload_n 0), 1) := by decide +kernel
theorem d_Diagrams_init_1 : decode b_Diagrams_init 1 = .ok ((.invokespecial 3), 3) := by decide +kernel
theorem d_Diagrams_init_4 : decode b_Diagrams_init 4 = .ok ((.aload_n 0), 1) := by decide +kernel
theorem d_Diagrams_init_5 : decode b_Diagrams_init 5 = .ok ((.iconst 4), 1) := by decide +kernel
theorem d_Diagrams_init_6 : decode b_Diagrams_init 6 = .ok ((.newarray .int), 2) := by decide +kernel
theorem d_Diagrams_init_8 : decode b_Diagrams_init 8 = .ok ((.putfield 9), 3) := by decide +kernel
theorem d_Diagrams_init_11 : decode b_Diagrams_init 11 = .ok ((.aload_n 0), 1) := by decide +kernel
theorem d_Diagrams_init_12 : decode b_Diagrams_init 12 = .ok ((.iconst 2), 1) := by decide +kernel
theorem d_Diagrams_init_13 : decode b_Diagrams_init 13 = .ok ((.newarray .int), 2) := by decide +kernel
theorem d_Diagrams_init_15 : decode b_Diagrams_init 15 = .ok ((.putfield 15), 3) := by decide +kernel
theorem d_Diagrams_init_18 : decode b_Diagrams_init 18 = .ok ((.aload_n 0), 1) := by decide +kernel
theorem d_Diagrams_init_19 : decode b_Diagrams_init 19 = .ok ((.bipush 16), 2) := by decide +kernel
theorem d_Diagrams_init_21 : decode b_Diagrams_init 21 = .ok ((.newarray .int), 2) := by decide +kernel
theorem d_Diagrams_init_23 : decode b_Diagrams_init 23 = .ok ((.putfield 18), 3) := by decide +kernel
theorem d_Diagrams_init_26 : decode b_Diagrams_init 26 = .ok ((.aload_n 0), 1) := by decide +kernel
theorem d_Diagrams_init_27 : decode b_Diagrams_init 27 = .ok ((.iload_n 1), 1) := by decide +kernel
theorem d_Diagrams_init_28 : decode b_Diagrams_init 28 = .ok ((.putfield 21), 3) := by decide +kernel
theorem d_Diagrams_init_31 : decode b_Diagrams_init 31 = .ok ((.aload_n 0), 1) := by decide +kernel
theorem d_Diagrams_init_32 : decode b_Diagrams_init 32 = .ok ((.iload_n 2), 1) := by decide +kernel
theorem d_Diagrams_init_33 : decode b_Diagrams_init 33 = .ok ((.putfield 25), 3) := by decide +kernel
theorem d_Diagrams_init_36 : decode b_Diagrams_init 36 = .ok (.return_, 1) := by decide +kernel
theorem d_Diagrams_nodes_0 : decode b_Diagrams_nodes 0 = .ok ((.aload_n 0), 1) := by decide +kernel
theorem d_Diagrams_nodes_1 : decode b_Diagrams_nodes 1 = .ok ((.iload_n 1), 1) := by decide +kernel
theorem d_Diagrams_nodes_2 : decode b_Diagrams_nodes 2 = .ok ((.invokevirtual 31), 3) := by decide +kernel
theorem d_Diagrams_nodes_5 : decode b_Diagrams_nodes 5 = .ok ((.iconst 0), 1) := by decide +kernel
theorem d_Diagrams_nodes_6 : decode b_Diagrams_nodes 6 = .ok ((.istore_n 3), 1) := by decide +kernel
theorem d_Diagrams_nodes_7 : decode b_Diagrams_nodes 7 = .ok ((.iload_n 3), 1) := by decide +kernel
theorem d_Diagrams_nodes_8 : decode b_Diagrams_nodes 8 = .ok ((.aload_n 0), 1) := by decide +kernel
theorem d_Diagrams_nodes_9 : decode b_Diagrams_nodes 9 = .ok ((.getfield 25), 3) := by decide +kernel
theorem d_Diagrams_nodes_12 : decode b_Diagrams_nodes 12 = .ok ((.if_icmp .ge 24), 3) := by decide +kernel
theorem d_Diagrams_nodes_15 : decode b_Diagrams_nodes 15 = .ok ((.aload_n 0), 1) := by decide +kernel
theorem d_Diagrams_nodes_16 : decode b_Diagrams_nodes 16 = .ok ((.getfield 15), 3) := by decide +kernel
theorem d_Diagrams_nodes_19 : decode b_Diagrams_nodes 19 = .ok ((.iload_n 3), 1) := by decide +kernel
theorem d_Diagrams_nodes_20 : decode b_Diagrams_nodes 20 = .ok ((.aload_n 0), 1) := by decide +kernel
theorem d_Diagrams_nodes_21 : decode b_Diagrams_nodes 21 = .ok ((.aload_n 2), 1) := by decide +kernel
theorem d_Diagrams_nodes_22 : decode b_Diagrams_nodes 22 = .ok ((.iload_n 3), 1) := by decide +kernel
theorem d_Diagrams_nodes_23 : decode b_Diagrams_nodes 23 = .ok ((.invokevirtual 35), 3) := by decide +kernel
theorem d_Diagrams_nodes_26 : decode b_Diagrams_nodes 26 = .ok ((.invokevirtual 41), 3) := by decide +kernel
theorem d_Diagrams_nodes_29 : decode b_Diagrams_nodes 29 = .ok (.iastore, 1) := by decide +kernel
theorem d_Diagrams_nodes_30 : decode b_Diagrams_nodes 30 = .ok ((.iinc 3 1), 3) := by decide +kernel
theorem d_Diagrams_nodes_33 : decode b_Diagrams_nodes 33 = .ok ((.goto (-26)), 3) := by decide +kernel
theorem d_Diagrams_nodes_36 : decode b_Diagrams_nodes 36 = .ok ((.iconst 0), 1) := by decide +kernel
theorem d_Diagrams_nodes_37 : decode b_Diagrams_nodes 37 = .ok ((.istore_n 3), 1) := by decide +kernel
theorem d_Diagrams_nodes_38 : decode b_Diagrams_nodes 38 = .ok ((.iconst 0), 1) := by decide +kernel
theorem d_Diagrams_nodes_39 : decode b_Diagrams_nodes 39 = .ok ((.istore 4), 2) := by decide +kernel
theorem d_Diagrams_nodes_41 : decode b_Diagrams_nodes 41 = .ok ((.iload 4), 2) := by decide +kernel
theorem d_Diagrams_nodes_43 : decode b_Diagrams_nodes 43 = .ok ((.aload_n 0), 1) := by decide +kernel
theorem d_Diagrams_nodes_44 : decode b_Diagrams_nodes 44 = .ok ((.getfield 21), 3) := by decide +kernel
theorem d_Diagrams_nodes_47 : decode b_Diagrams_nodes 47 = .ok ((.if_icmp .ge 18), 3) := by decide +kernel
theorem d_Diagrams_nodes_50 : decode b_Diagrams_nodes 50 = .ok ((.iload_n 3), 1) := by decide +kernel
theorem d_Diagrams_nodes_51 : decode b_Diagrams_nodes 51 = .ok ((.aload_n 0), 1) := by decide +kernel
theorem d_Diagrams_nodes_52 : decode b_Diagrams_nodes 52 = .ok ((.iload 4), 2) := by decide +kernel
theorem d_Diagrams_nodes_54 : decode b_Diagrams_nodes 54 = .ok ((.invokevirtual 44), 3) := by decide +kernel
theorem d_Diagrams_nodes_57 : decode b_Diagrams_nodes 57 = .ok (.iadd, 1) := by decide +kernel
theorem d_Diagrams_nodes_58 : decode b_Diagrams_nodes 58 = .ok ((.istore_n 3), 1) := by decide +kernel
theorem d_Diagrams_nodes_59 : decode b_Diagrams_nodes 59 = .ok ((.iinc 4 1), 3) := by decide +kernel
theorem d_Diagrams_nodes_62 : decode b_Diagrams_nodes 62 = .ok ((.goto (-21)), 3) := by decide +kernel
theorem d_Diagrams_nodes_65 : decode b_Diagrams_nodes 65 = .ok ((.iload_n 3), 1) := by decide +kernel
theorem d_Diagrams_nodes_66 : decode b_Diagrams_nodes 66 = .ok (.ireturn, 1) := by decide +kernel
theorem d_Diagrams_fillAsked_0 : decode b_Diagrams_fillAsked 0 = .ok ((.iload_n 1), 1) := by decide +kernel
theorem d_Diagrams_fillAsked_1 : decode b_Diagrams_fillAsked 1 = .ok ((.istore_n 2), 1) := by decide +kernel
theorem d_Diagrams_fillAsked_2 : decode b_Diagrams_fillAsked 2 = .ok ((.iconst 1), 1) := by decide +kernel
theorem d_Diagrams_fillAsked_3 : decode b_Diagrams_fillAsked 3 = .ok ((.aload_n 0), 1) := by decide +kernel
theorem d_Diagrams_fillAsked_4 : decode b_Diagrams_fillAsked 4 = .ok ((.getfield 21), 3) := by decide +kernel
theorem d_Diagrams_fillAsked_7 : decode b_Diagrams_fillAsked 7 = .ok (.ishl, 1) := by decide +kernel
theorem d_Diagrams_fillAsked_8 : decode b_Diagrams_fillAsked 8 = .ok ((.iconst 1), 1) := by decide +kernel
theorem d_Diagrams_fillAsked_9 : decode b_Diagrams_fillAsked 9 = .ok (.isub, 1) := by decide +kernel
theorem d_Diagrams_fillAsked_10 : decode b_Diagrams_fillAsked 10 = .ok ((.istore_n 3), 1) := by decide +kernel
theorem d_Diagrams_fillAsked_11 : decode b_Diagrams_fillAsked 11 = .ok ((.iconst 0), 1) := by decide +kernel
theorem d_Diagrams_fillAsked_12 : decode b_Diagrams_fillAsked 12 = .ok ((.istore 4), 2) := by decide +kernel
theorem d_Diagrams_fillAsked_14 : decode b_Diagrams_fillAsked 14 = .ok ((.iload 4), 2) := by decide +kernel
theorem d_Diagrams_fillAsked_16 : decode b_Diagrams_fillAsked 16 = .ok ((.aload_n 0), 1) := by decide +kernel
theorem d_Diagrams_fillAsked_17 : decode b_Diagrams_fillAsked 17 = .ok ((.getfield 21), 3) := by decide +kernel
theorem d_Diagrams_fillAsked_20 : decode b_Diagrams_fillAsked 20 = .ok ((.if_icmp .ge 75), 3) := by decide +kernel
theorem d_Diagrams_fillAsked_23 : decode b_Diagrams_fillAsked 23 = .ok ((.getstatic 28), 3) := by decide +kernel
theorem d_Diagrams_fillAsked_26 : decode b_Diagrams_fillAsked 26 = .ok ((.aload_n 0), 1) := by decide +kernel
theorem d_Diagrams_fillAsked_27 : decode b_Diagrams_fillAsked 27 = .ok ((.getfield 21), 3) := by decide +kernel
theorem d_Diagrams_fillAsked_30 : decode b_Diagrams_fillAsked 30 = .ok ((.iconst 1), 1) := by decide +kernel
theorem d_Diagrams_fillAsked_31 : decode b_Diagrams_fillAsked 31 = .ok (.isub, 1) := by decide +kernel
theorem d_Diagrams_fillAsked_32 : decode b_Diagrams_fillAsked 32 = .ok ((.iload 4), 2) := by decide +kernel
theorem d_Diagrams_fillAsked_34 : decode b_Diagrams_fillAsked 34 = .ok (.isub, 1) := by decide +kernel
theorem d_Diagrams_fillAsked_35 : decode b_Diagrams_fillAsked 35 = .ok (.iaload, 1) := by decide +kernel
theorem d_Diagrams_fillAsked_36 : decode b_Diagrams_fillAsked 36 = .ok ((.istore 5), 2) := by decide +kernel
theorem d_Diagrams_fillAsked_38 : decode b_Diagrams_fillAsked 38 = .ok ((.iload 5), 2) := by decide +kernel
theorem d_Diagrams_fillAsked_40 : decode b_Diagrams_fillAsked 40 = .ok ((.ifCond .le 10), 3) := by decide +kernel
theorem d_Diagrams_fillAsked_43 : decode b_Diagrams_fillAsked 43 = .ok ((.iload_n 2), 1) := by decide +kernel
theorem d_Diagrams_fillAsked_44 : decode b_Diagrams_fillAsked 44 = .ok ((.iload 5), 2) := by decide +kernel
theorem d_Diagrams_fillAsked_46 : decode b_Diagrams_fillAsked 46 = .ok (.idiv, 1) := by decide +kernel
theorem d_Diagrams_fillAsked_47 : decode b_Diagrams_fillAsked 47 = .ok ((.goto 4), 3) := by decide +kernel
theorem d_Diagrams_fillAsked_50 : decode b_Diagrams_fillAsked 50 = .ok ((.iconst 0), 1) := by decide +kernel
theorem d_Diagrams_fillAsked_51 : decode b_Diagrams_fillAsked 51 = .ok ((.istore 6), 2) := by decide +kernel
theorem d_Diagrams_fillAsked_53 : decode b_Diagrams_fillAsked 53 = .ok ((.iload_n 2), 1) := by decide +kernel
theorem d_Diagrams_fillAsked_54 : decode b_Diagrams_fillAsked 54 = .ok ((.iload 6), 2) := by decide +kernel
theorem d_Diagrams_fillAsked_56 : decode b_Diagrams_fillAsked 56 = .ok ((.iload 5), 2) := by decide +kernel
theorem d_Diagrams_fillAsked_58 : decode b_Diagrams_fillAsked 58 = .ok (.imul, 1) := by decide +kernel
theorem d_Diagrams_fillAsked_59 : decode b_Diagrams_fillAsked 59 = .ok (.isub, 1) := by decide +kernel
theorem d_Diagrams_fillAsked_60 : decode b_Diagrams_fillAsked 60 = .ok ((.istore_n 2), 1) := by decide +kernel
theorem d_Diagrams_fillAsked_61 : decode b_Diagrams_fillAsked 61 = .ok ((.aload_n 0), 1) := by decide +kernel
theorem d_Diagrams_fillAsked_62 : decode b_Diagrams_fillAsked 62 = .ok ((.getfield 9), 3) := by decide +kernel
theorem d_Diagrams_fillAsked_65 : decode b_Diagrams_fillAsked 65 = .ok ((.iload 4), 2) := by decide +kernel
theorem d_Diagrams_fillAsked_67 : decode b_Diagrams_fillAsked 67 = .ok ((.aload_n 0), 1) := by decide +kernel
theorem d_Diagrams_fillAsked_68 : decode b_Diagrams_fillAsked 68 = .ok ((.iload_n 3), 1) := by decide +kernel
theorem d_Diagrams_fillAsked_69 : decode b_Diagrams_fillAsked 69 = .ok ((.iload 6), 2) := by decide +kernel
theorem d_Diagrams_fillAsked_71 : decode b_Diagrams_fillAsked 71 = .ok ((.invokevirtual 47), 3) := by decide +kernel
theorem d_Diagrams_fillAsked_74 : decode b_Diagrams_fillAsked 74 = .ok (.iastore, 1) := by decide +kernel
theorem d_Diagrams_fillAsked_75 : decode b_Diagrams_fillAsked 75 = .ok ((.iload_n 3), 1) := by decide +kernel
theorem d_Diagrams_fillAsked_76 : decode b_Diagrams_fillAsked 76 = .ok ((.iconst 1), 1) := by decide +kernel
theorem d_Diagrams_fillAsked_77 : decode b_Diagrams_fillAsked 77 = .ok ((.aload_n 0), 1) := by decide +kernel
theorem d_Diagrams_fillAsked_78 : decode b_Diagrams_fillAsked 78 = .ok ((.getfield 9), 3) := by decide +kernel
theorem d_Diagrams_fillAsked_81 : decode b_Diagrams_fillAsked 81 = .ok ((.iload 4), 2) := by decide +kernel
theorem d_Diagrams_fillAsked_83 : decode b_Diagrams_fillAsked 83 = .ok (.iaload, 1) := by decide +kernel
theorem d_Diagrams_fillAsked_84 : decode b_Diagrams_fillAsked 84 = .ok (.ishl, 1) := by decide +kernel
theorem d_Diagrams_fillAsked_85 : decode b_Diagrams_fillAsked 85 = .ok ((.iconst (-1)), 1) := by decide +kernel
theorem d_Diagrams_fillAsked_86 : decode b_Diagrams_fillAsked 86 = .ok (.ixor, 1) := by decide +kernel
theorem d_Diagrams_fillAsked_87 : decode b_Diagrams_fillAsked 87 = .ok (.iand, 1) := by decide +kernel
theorem d_Diagrams_fillAsked_88 : decode b_Diagrams_fillAsked 88 = .ok ((.istore_n 3), 1) := by decide +kernel
theorem d_Diagrams_fillAsked_89 : decode b_Diagrams_fillAsked 89 = .ok ((.iinc 4 1), 3) := by decide +kernel
theorem d_Diagrams_fillAsked_92 : decode b_Diagrams_fillAsked 92 = .ok ((.goto (-78)), 3) := by decide +kernel
theorem d_Diagrams_fillAsked_95 : decode b_Diagrams_fillAsked 95 = .ok (.return_, 1) := by decide +kernel
theorem d_Diagrams_inputAfter_0 : decode b_Diagrams_inputAfter 0 = .ok ((.iconst 0), 1) := by decide +kernel
theorem d_Diagrams_inputAfter_1 : decode b_Diagrams_inputAfter 1 = .ok ((.istore_n 3), 1) := by decide +kernel
theorem d_Diagrams_inputAfter_2 : decode b_Diagrams_inputAfter 2 = .ok ((.iconst 0), 1) := by decide +kernel
theorem d_Diagrams_inputAfter_3 : decode b_Diagrams_inputAfter 3 = .ok ((.istore 4), 2) := by decide +kernel
theorem d_Diagrams_inputAfter_5 : decode b_Diagrams_inputAfter 5 = .ok ((.iload 4), 2) := by decide +kernel
theorem d_Diagrams_inputAfter_7 : decode b_Diagrams_inputAfter 7 = .ok ((.aload_n 0), 1) := by decide +kernel
theorem d_Diagrams_inputAfter_8 : decode b_Diagrams_inputAfter 8 = .ok ((.getfield 21), 3) := by decide +kernel
theorem d_Diagrams_inputAfter_11 : decode b_Diagrams_inputAfter 11 = .ok ((.if_icmp .ge 30), 3) := by decide +kernel
theorem d_Diagrams_inputAfter_14 : decode b_Diagrams_inputAfter 14 = .ok ((.iload_n 1), 1) := by decide +kernel
theorem d_Diagrams_inputAfter_15 : decode b_Diagrams_inputAfter 15 = .ok ((.iload 4), 2) := by decide +kernel
theorem d_Diagrams_inputAfter_17 : decode b_Diagrams_inputAfter 17 = .ok (.ishr, 1) := by decide +kernel
theorem d_Diagrams_inputAfter_18 : decode b_Diagrams_inputAfter 18 = .ok ((.iconst 1), 1) := by decide +kernel
theorem d_Diagrams_inputAfter_19 : decode b_Diagrams_inputAfter 19 = .ok (.iand, 1) := by decide +kernel
theorem d_Diagrams_inputAfter_20 : decode b_Diagrams_inputAfter 20 = .ok ((.iconst 1), 1) := by decide +kernel
theorem d_Diagrams_inputAfter_21 : decode b_Diagrams_inputAfter 21 = .ok ((.if_icmp .ne 14), 3) := by decide +kernel
theorem d_Diagrams_inputAfter_24 : decode b_Diagrams_inputAfter 24 = .ok ((.iload_n 3), 1) := by decide +kernel
theorem d_Diagrams_inputAfter_25 : decode b_Diagrams_inputAfter 25 = .ok ((.iload_n 2), 1) := by decide +kernel
theorem d_Diagrams_inputAfter_26 : decode b_Diagrams_inputAfter 26 = .ok ((.if_icmp .ne 6), 3) := by decide +kernel
theorem d_Diagrams_inputAfter_29 : decode b_Diagrams_inputAfter 29 = .ok ((.iload 4), 2) := by decide +kernel
theorem d_Diagrams_inputAfter_31 : decode b_Diagrams_inputAfter 31 = .ok (.ireturn, 1) := by decide +kernel
theorem d_Diagrams_inputAfter_32 : decode b_Diagrams_inputAfter 32 = .ok ((.iinc 3 1), 3) := by decide +kernel
theorem d_Diagrams_inputAfter_35 : decode b_Diagrams_inputAfter 35 = .ok ((.iinc 4 1), 3) := by decide +kernel
theorem d_Diagrams_inputAfter_38 : decode b_Diagrams_inputAfter 38 = .ok ((.goto (-33)), 3) := by decide +kernel
theorem d_Diagrams_inputAfter_41 : decode b_Diagrams_inputAfter 41 = .ok ((.iconst 0), 1) := by decide +kernel
theorem d_Diagrams_inputAfter_42 : decode b_Diagrams_inputAfter 42 = .ok (.ireturn, 1) := by decide +kernel
theorem d_Diagrams_reordered_0 : decode b_Diagrams_reordered 0 = .ok ((.iconst 0), 1) := by decide +kernel
theorem d_Diagrams_reordered_1 : decode b_Diagrams_reordered 1 = .ok ((.istore_n 2), 1) := by decide +kernel
theorem d_Diagrams_reordered_2 : decode b_Diagrams_reordered 2 = .ok ((.iconst 0), 1) := by decide +kernel
theorem d_Diagrams_reordered_3 : decode b_Diagrams_reordered 3 = .ok ((.istore_n 3), 1) := by decide +kernel
theorem d_Diagrams_reordered_4 : decode b_Diagrams_reordered 4 = .ok ((.iload_n 3), 1) := by decide +kernel
theorem d_Diagrams_reordered_5 : decode b_Diagrams_reordered 5 = .ok ((.iconst 1), 1) := by decide +kernel
theorem d_Diagrams_reordered_6 : decode b_Diagrams_reordered 6 = .ok ((.aload_n 0), 1) := by decide +kernel
theorem d_Diagrams_reordered_7 : decode b_Diagrams_reordered 7 = .ok ((.getfield 21), 3) := by decide +kernel
theorem d_Diagrams_reordered_10 : decode b_Diagrams_reordered 10 = .ok (.ishl, 1) := by decide +kernel
theorem d_Diagrams_reordered_11 : decode b_Diagrams_reordered 11 = .ok ((.if_icmp .ge 71), 3) := by decide +kernel
theorem d_Diagrams_reordered_14 : decode b_Diagrams_reordered 14 = .ok ((.iconst 0), 1) := by decide +kernel
theorem d_Diagrams_reordered_15 : decode b_Diagrams_reordered 15 = .ok ((.istore 4), 2) := by decide +kernel
theorem d_Diagrams_reordered_17 : decode b_Diagrams_reordered 17 = .ok ((.iconst 0), 1) := by decide +kernel
theorem d_Diagrams_reordered_18 : decode b_Diagrams_reordered 18 = .ok ((.istore 5), 2) := by decide +kernel
theorem d_Diagrams_reordered_20 : decode b_Diagrams_reordered 20 = .ok ((.iload 5), 2) := by decide +kernel
theorem d_Diagrams_reordered_22 : decode b_Diagrams_reordered 22 = .ok ((.aload_n 0), 1) := by decide +kernel
theorem d_Diagrams_reordered_23 : decode b_Diagrams_reordered 23 = .ok ((.getfield 21), 3) := by decide +kernel
theorem d_Diagrams_reordered_26 : decode b_Diagrams_reordered 26 = .ok ((.if_icmp .ge 39), 3) := by decide +kernel
theorem d_Diagrams_reordered_29 : decode b_Diagrams_reordered 29 = .ok ((.iload_n 3), 1) := by decide +kernel
theorem d_Diagrams_reordered_30 : decode b_Diagrams_reordered 30 = .ok ((.aload_n 0), 1) := by decide +kernel
theorem d_Diagrams_reordered_31 : decode b_Diagrams_reordered 31 = .ok ((.getfield 21), 3) := by decide +kernel
theorem d_Diagrams_reordered_34 : decode b_Diagrams_reordered 34 = .ok ((.iconst 1), 1) := by decide +kernel
theorem d_Diagrams_reordered_35 : decode b_Diagrams_reordered 35 = .ok (.isub, 1) := by decide +kernel
theorem d_Diagrams_reordered_36 : decode b_Diagrams_reordered 36 = .ok ((.iload 5), 2) := by decide +kernel
theorem d_Diagrams_reordered_38 : decode b_Diagrams_reordered 38 = .ok (.isub, 1) := by decide +kernel
theorem d_Diagrams_reordered_39 : decode b_Diagrams_reordered 39 = .ok (.ishr, 1) := by decide +kernel
theorem d_Diagrams_reordered_40 : decode b_Diagrams_reordered 40 = .ok ((.iconst 1), 1) := by decide +kernel
theorem d_Diagrams_reordered_41 : decode b_Diagrams_reordered 41 = .ok (.iand, 1) := by decide +kernel
theorem d_Diagrams_reordered_42 : decode b_Diagrams_reordered 42 = .ok ((.istore 6), 2) := by decide +kernel
theorem d_Diagrams_reordered_44 : decode b_Diagrams_reordered 44 = .ok ((.iload 4), 2) := by decide +kernel
theorem d_Diagrams_reordered_46 : decode b_Diagrams_reordered 46 = .ok ((.iload 6), 2) := by decide +kernel
theorem d_Diagrams_reordered_48 : decode b_Diagrams_reordered 48 = .ok ((.aload_n 0), 1) := by decide +kernel
theorem d_Diagrams_reordered_49 : decode b_Diagrams_reordered 49 = .ok ((.getfield 9), 3) := by decide +kernel
theorem d_Diagrams_reordered_52 : decode b_Diagrams_reordered 52 = .ok ((.iload 5), 2) := by decide +kernel
theorem d_Diagrams_reordered_54 : decode b_Diagrams_reordered 54 = .ok (.iaload, 1) := by decide +kernel
theorem d_Diagrams_reordered_55 : decode b_Diagrams_reordered 55 = .ok (.ishl, 1) := by decide +kernel
theorem d_Diagrams_reordered_56 : decode b_Diagrams_reordered 56 = .ok (.ior, 1) := by decide +kernel
theorem d_Diagrams_reordered_57 : decode b_Diagrams_reordered 57 = .ok ((.istore 4), 2) := by decide +kernel
theorem d_Diagrams_reordered_59 : decode b_Diagrams_reordered 59 = .ok ((.iinc 5 1), 3) := by decide +kernel
theorem d_Diagrams_reordered_62 : decode b_Diagrams_reordered 62 = .ok ((.goto (-42)), 3) := by decide +kernel
theorem d_Diagrams_reordered_65 : decode b_Diagrams_reordered 65 = .ok ((.iload_n 2), 1) := by decide +kernel
theorem d_Diagrams_reordered_66 : decode b_Diagrams_reordered 66 = .ok ((.iload_n 1), 1) := by decide +kernel
theorem d_Diagrams_reordered_67 : decode b_Diagrams_reordered 67 = .ok ((.iload 4), 2) := by decide +kernel
theorem d_Diagrams_reordered_69 : decode b_Diagrams_reordered 69 = .ok (.ishr, 1) := by decide +kernel
theorem d_Diagrams_reordered_70 : decode b_Diagrams_reordered 70 = .ok ((.iconst 1), 1) := by decide +kernel
theorem d_Diagrams_reordered_71 : decode b_Diagrams_reordered 71 = .ok (.iand, 1) := by decide +kernel
theorem d_Diagrams_reordered_72 : decode b_Diagrams_reordered 72 = .ok ((.iload_n 3), 1) := by decide +kernel
theorem d_Diagrams_reordered_73 : decode b_Diagrams_reordered 73 = .ok (.ishl, 1) := by decide +kernel
theorem d_Diagrams_reordered_74 : decode b_Diagrams_reordered 74 = .ok (.ior, 1) := by decide +kernel
theorem d_Diagrams_reordered_75 : decode b_Diagrams_reordered 75 = .ok ((.istore_n 2), 1) := by decide +kernel
theorem d_Diagrams_reordered_76 : decode b_Diagrams_reordered 76 = .ok ((.iinc 3 1), 3) := by decide +kernel
theorem d_Diagrams_reordered_79 : decode b_Diagrams_reordered 79 = .ok ((.goto (-75)), 3) := by decide +kernel
theorem d_Diagrams_reordered_82 : decode b_Diagrams_reordered 82 = .ok ((.iload_n 2), 1) := by decide +kernel
theorem d_Diagrams_reordered_83 : decode b_Diagrams_reordered 83 = .ok (.ireturn, 1) := by decide +kernel
theorem d_Diagrams_nodesOfLevel_0 : decode b_Diagrams_nodesOfLevel 0 = .ok ((.iconst 1), 1) := by decide +kernel
theorem d_Diagrams_nodesOfLevel_1 : decode b_Diagrams_nodesOfLevel 1 = .ok ((.aload_n 0), 1) := by decide +kernel
theorem d_Diagrams_nodesOfLevel_2 : decode b_Diagrams_nodesOfLevel 2 = .ok ((.getfield 21), 3) := by decide +kernel
theorem d_Diagrams_nodesOfLevel_5 : decode b_Diagrams_nodesOfLevel 5 = .ok ((.iconst 1), 1) := by decide +kernel
theorem d_Diagrams_nodesOfLevel_6 : decode b_Diagrams_nodesOfLevel 6 = .ok (.isub, 1) := by decide +kernel
theorem d_Diagrams_nodesOfLevel_7 : decode b_Diagrams_nodesOfLevel 7 = .ok ((.iload_n 1), 1) := by decide +kernel
theorem d_Diagrams_nodesOfLevel_8 : decode b_Diagrams_nodesOfLevel 8 = .ok (.isub, 1) := by decide +kernel
theorem d_Diagrams_nodesOfLevel_9 : decode b_Diagrams_nodesOfLevel 9 = .ok (.ishl, 1) := by decide +kernel
theorem d_Diagrams_nodesOfLevel_10 : decode b_Diagrams_nodesOfLevel 10 = .ok ((.istore_n 2), 1) := by decide +kernel
theorem d_Diagrams_nodesOfLevel_11 : decode b_Diagrams_nodesOfLevel 11 = .ok ((.iconst 1), 1) := by decide +kernel
theorem d_Diagrams_nodesOfLevel_12 : decode b_Diagrams_nodesOfLevel 12 = .ok ((.iload_n 2), 1) := by decide +kernel
theorem d_Diagrams_nodesOfLevel_13 : decode b_Diagrams_nodesOfLevel 13 = .ok (.ishl, 1) := by decide +kernel
theorem d_Diagrams_nodesOfLevel_14 : decode b_Diagrams_nodesOfLevel 14 = .ok ((.iconst 1), 1) := by decide +kernel
theorem d_Diagrams_nodesOfLevel_15 : decode b_Diagrams_nodesOfLevel 15 = .ok (.isub, 1) := by decide +kernel
theorem d_Diagrams_nodesOfLevel_16 : decode b_Diagrams_nodesOfLevel 16 = .ok ((.istore_n 3), 1) := by decide +kernel
theorem d_Diagrams_nodesOfLevel_17 : decode b_Diagrams_nodesOfLevel 17 = .ok ((.iconst 0), 1) := by decide +kernel
theorem d_Diagrams_nodesOfLevel_18 : decode b_Diagrams_nodesOfLevel 18 = .ok ((.istore 4), 2) := by decide +kernel
theorem d_Diagrams_nodesOfLevel_20 : decode b_Diagrams_nodesOfLevel 20 = .ok ((.iconst 0), 1) := by decide +kernel
theorem d_Diagrams_nodesOfLevel_21 : decode b_Diagrams_nodesOfLevel 21 = .ok ((.istore 5), 2) := by decide +kernel
theorem d_Diagrams_nodesOfLevel_23 : decode b_Diagrams_nodesOfLevel 23 = .ok ((.iload 5), 2) := by decide +kernel
theorem d_Diagrams_nodesOfLevel_25 : decode b_Diagrams_nodesOfLevel 25 = .ok ((.aload_n 0), 1) := by decide +kernel
theorem d_Diagrams_nodesOfLevel_26 : decode b_Diagrams_nodesOfLevel 26 = .ok ((.getfield 25), 3) := by decide +kernel
theorem d_Diagrams_nodesOfLevel_29 : decode b_Diagrams_nodesOfLevel 29 = .ok ((.if_icmp .ge 95), 3) := by decide +kernel
theorem d_Diagrams_nodesOfLevel_32 : decode b_Diagrams_nodesOfLevel 32 = .ok ((.iconst 0), 1) := by decide +kernel
theorem d_Diagrams_nodesOfLevel_33 : decode b_Diagrams_nodesOfLevel 33 = .ok ((.istore 6), 2) := by decide +kernel
theorem d_Diagrams_nodesOfLevel_35 : decode b_Diagrams_nodesOfLevel 35 = .ok ((.iload 6), 2) := by decide +kernel
theorem d_Diagrams_nodesOfLevel_37 : decode b_Diagrams_nodesOfLevel 37 = .ok ((.iconst 1), 1) := by decide +kernel
theorem d_Diagrams_nodesOfLevel_38 : decode b_Diagrams_nodesOfLevel 38 = .ok ((.iload_n 1), 1) := by decide +kernel
theorem d_Diagrams_nodesOfLevel_39 : decode b_Diagrams_nodesOfLevel 39 = .ok (.ishl, 1) := by decide +kernel
theorem d_Diagrams_nodesOfLevel_40 : decode b_Diagrams_nodesOfLevel 40 = .ok ((.if_icmp .ge 78), 3) := by decide +kernel
theorem d_Diagrams_nodesOfLevel_43 : decode b_Diagrams_nodesOfLevel 43 = .ok ((.aload_n 0), 1) := by decide +kernel
theorem d_Diagrams_nodesOfLevel_44 : decode b_Diagrams_nodesOfLevel 44 = .ok ((.getfield 15), 3) := by decide +kernel
theorem d_Diagrams_nodesOfLevel_47 : decode b_Diagrams_nodesOfLevel 47 = .ok ((.iload 5), 2) := by decide +kernel
theorem d_Diagrams_nodesOfLevel_49 : decode b_Diagrams_nodesOfLevel 49 = .ok (.iaload, 1) := by decide +kernel
theorem d_Diagrams_nodesOfLevel_50 : decode b_Diagrams_nodesOfLevel 50 = .ok ((.iload 6), 2) := by decide +kernel
theorem d_Diagrams_nodesOfLevel_52 : decode b_Diagrams_nodesOfLevel 52 = .ok ((.iconst 2), 1) := by decide +kernel
theorem d_Diagrams_nodesOfLevel_53 : decode b_Diagrams_nodesOfLevel 53 = .ok (.imul, 1) := by decide +kernel
theorem d_Diagrams_nodesOfLevel_54 : decode b_Diagrams_nodesOfLevel 54 = .ok ((.iload_n 2), 1) := by decide +kernel
theorem d_Diagrams_nodesOfLevel_55 : decode b_Diagrams_nodesOfLevel 55 = .ok (.imul, 1) := by decide +kernel
theorem d_Diagrams_nodesOfLevel_56 : decode b_Diagrams_nodesOfLevel 56 = .ok (.ishr, 1) := by decide +kernel
theorem d_Diagrams_nodesOfLevel_57 : decode b_Diagrams_nodesOfLevel 57 = .ok ((.istore 7), 2) := by decide +kernel
theorem d_Diagrams_nodesOfLevel_59 : decode b_Diagrams_nodesOfLevel 59 = .ok ((.iload 7), 2) := by decide +kernel
theorem d_Diagrams_nodesOfLevel_61 : decode b_Diagrams_nodesOfLevel 61 = .ok ((.iload_n 3), 1) := by decide +kernel
theorem d_Diagrams_nodesOfLevel_62 : decode b_Diagrams_nodesOfLevel 62 = .ok (.iand, 1) := by decide +kernel
theorem d_Diagrams_nodesOfLevel_63 : decode b_Diagrams_nodesOfLevel 63 = .ok ((.istore 8), 2) := by decide +kernel
theorem d_Diagrams_nodesOfLevel_65 : decode b_Diagrams_nodesOfLevel 65 = .ok ((.iload 7), 2) := by decide +kernel
theorem d_Diagrams_nodesOfLevel_67 : decode b_Diagrams_nodesOfLevel 67 = .ok ((.iload_n 2), 1) := by decide +kernel
theorem d_Diagrams_nodesOfLevel_68 : decode b_Diagrams_nodesOfLevel 68 = .ok (.ishr, 1) := by decide +kernel
theorem d_Diagrams_nodesOfLevel_69 : decode b_Diagrams_nodesOfLevel 69 = .ok ((.iload_n 3), 1) := by decide +kernel
theorem d_Diagrams_nodesOfLevel_70 : decode b_Diagrams_nodesOfLevel 70 = .ok (.iand, 1) := by decide +kernel
theorem d_Diagrams_nodesOfLevel_71 : decode b_Diagrams_nodesOfLevel 71 = .ok ((.istore 9), 2) := by decide +kernel
theorem d_Diagrams_nodesOfLevel_73 : decode b_Diagrams_nodesOfLevel 73 = .ok ((.iload 9), 2) := by decide +kernel
theorem d_Diagrams_nodesOfLevel_75 : decode b_Diagrams_nodesOfLevel 75 = .ok ((.iload_n 2), 1) := by decide +kernel
theorem d_Diagrams_nodesOfLevel_76 : decode b_Diagrams_nodesOfLevel 76 = .ok (.ishl, 1) := by decide +kernel
theorem d_Diagrams_nodesOfLevel_77 : decode b_Diagrams_nodesOfLevel 77 = .ok ((.iload 8), 2) := by decide +kernel
theorem d_Diagrams_nodesOfLevel_79 : decode b_Diagrams_nodesOfLevel 79 = .ok (.ior, 1) := by decide +kernel
theorem d_Diagrams_nodesOfLevel_80 : decode b_Diagrams_nodesOfLevel 80 = .ok ((.istore 10), 2) := by decide +kernel
theorem d_Diagrams_nodesOfLevel_82 : decode b_Diagrams_nodesOfLevel 82 = .ok ((.iload 8), 2) := by decide +kernel
theorem d_Diagrams_nodesOfLevel_84 : decode b_Diagrams_nodesOfLevel 84 = .ok ((.iload 9), 2) := by decide +kernel
theorem d_Diagrams_nodesOfLevel_86 : decode b_Diagrams_nodesOfLevel 86 = .ok ((.if_icmp .eq 26), 3) := by decide +kernel
theorem d_Diagrams_nodesOfLevel_89 : decode b_Diagrams_nodesOfLevel 89 = .ok ((.aload_n 0), 1) := by decide +kernel
theorem d_Diagrams_nodesOfLevel_90 : decode b_Diagrams_nodesOfLevel 90 = .ok ((.iload 10), 2) := by decide +kernel
theorem d_Diagrams_nodesOfLevel_92 : decode b_Diagrams_nodesOfLevel 92 = .ok ((.iload 4), 2) := by decide +kernel
theorem d_Diagrams_nodesOfLevel_94 : decode b_Diagrams_nodesOfLevel 94 = .ok ((.invokevirtual 51), 3) := by decide +kernel
theorem d_Diagrams_nodesOfLevel_97 : decode b_Diagrams_nodesOfLevel 97 = .ok ((.ifCond .ne 15), 3) := by decide +kernel
theorem d_Diagrams_nodesOfLevel_100 : decode b_Diagrams_nodesOfLevel 100 = .ok ((.aload_n 0), 1) := by decide +kernel
theorem d_Diagrams_nodesOfLevel_101 : decode b_Diagrams_nodesOfLevel 101 = .ok ((.getfield 18), 3) := by decide +kernel
theorem d_Diagrams_nodesOfLevel_104 : decode b_Diagrams_nodesOfLevel 104 = .ok ((.iload 4), 2) := by decide +kernel
theorem d_Diagrams_nodesOfLevel_106 : decode b_Diagrams_nodesOfLevel 106 = .ok ((.iload 10), 2) := by decide +kernel
theorem d_Diagrams_nodesOfLevel_108 : decode b_Diagrams_nodesOfLevel 108 = .ok (.iastore, 1) := by decide +kernel
theorem d_Diagrams_nodesOfLevel_109 : decode b_Diagrams_nodesOfLevel 109 = .ok ((.iinc 4 1), 3) := by decide +kernel
theorem d_Diagrams_nodesOfLevel_112 : decode b_Diagrams_nodesOfLevel 112 = .ok ((.iinc 6 1), 3) := by decide +kernel
theorem d_Diagrams_nodesOfLevel_115 : decode b_Diagrams_nodesOfLevel 115 = .ok ((.goto (-80)), 3) := by decide +kernel
theorem d_Diagrams_nodesOfLevel_118 : decode b_Diagrams_nodesOfLevel 118 = .ok ((.iinc 5 1), 3) := by decide +kernel
theorem d_Diagrams_nodesOfLevel_121 : decode b_Diagrams_nodesOfLevel 121 = .ok ((.goto (-98)), 3) := by decide +kernel
theorem d_Diagrams_nodesOfLevel_124 : decode b_Diagrams_nodesOfLevel 124 = .ok ((.iload 4), 2) := by decide +kernel
theorem d_Diagrams_nodesOfLevel_126 : decode b_Diagrams_nodesOfLevel 126 = .ok (.ireturn, 1) := by decide +kernel
theorem d_Diagrams_isSeen_0 : decode b_Diagrams_isSeen 0 = .ok ((.iconst 0), 1) := by decide +kernel
theorem d_Diagrams_isSeen_1 : decode b_Diagrams_isSeen 1 = .ok ((.istore_n 3), 1) := by decide +kernel
theorem d_Diagrams_isSeen_2 : decode b_Diagrams_isSeen 2 = .ok ((.iload_n 3), 1) := by decide +kernel
theorem d_Diagrams_isSeen_3 : decode b_Diagrams_isSeen 3 = .ok ((.iload_n 2), 1) := by decide +kernel
theorem d_Diagrams_isSeen_4 : decode b_Diagrams_isSeen 4 = .ok ((.if_icmp .ge 21), 3) := by decide +kernel
theorem d_Diagrams_isSeen_7 : decode b_Diagrams_isSeen 7 = .ok ((.aload_n 0), 1) := by decide +kernel
theorem d_Diagrams_isSeen_8 : decode b_Diagrams_isSeen 8 = .ok ((.getfield 18), 3) := by decide +kernel
theorem d_Diagrams_isSeen_11 : decode b_Diagrams_isSeen 11 = .ok ((.iload_n 3), 1) := by decide +kernel
theorem d_Diagrams_isSeen_12 : decode b_Diagrams_isSeen 12 = .ok (.iaload, 1) := by decide +kernel
theorem d_Diagrams_isSeen_13 : decode b_Diagrams_isSeen 13 = .ok ((.iload_n 1), 1) := by decide +kernel
theorem d_Diagrams_isSeen_14 : decode b_Diagrams_isSeen 14 = .ok ((.if_icmp .ne 5), 3) := by decide +kernel
theorem d_Diagrams_isSeen_17 : decode b_Diagrams_isSeen 17 = .ok ((.iconst 1), 1) := by decide +kernel
theorem d_Diagrams_isSeen_18 : decode b_Diagrams_isSeen 18 = .ok (.ireturn, 1) := by decide +kernel
theorem d_Diagrams_isSeen_19 : decode b_Diagrams_isSeen 19 = .ok ((.iinc 3 1), 3) := by decide +kernel
theorem d_Diagrams_isSeen_22 : decode b_Diagrams_isSeen 22 = .ok ((.goto (-20)), 3) := by decide +kernel
theorem d_Diagrams_isSeen_25 : decode b_Diagrams_isSeen 25 = .ok ((.iconst 0), 1) := by decide +kernel
theorem d_Diagrams_isSeen_26 : decode b_Diagrams_isSeen 26 = .ok (.ireturn, 1) := by decide +kernel
theorem d_Diagrams_orders_0 : decode b_Diagrams_orders 0 = .ok ((.getstatic 28), 3) := by decide +kernel
theorem d_Diagrams_orders_3 : decode b_Diagrams_orders 3 = .ok ((.aload_n 0), 1) := by decide +kernel
theorem d_Diagrams_orders_4 : decode b_Diagrams_orders 4 = .ok ((.getfield 21), 3) := by decide +kernel
theorem d_Diagrams_orders_7 : decode b_Diagrams_orders 7 = .ok (.iaload, 1) := by decide +kernel
theorem d_Diagrams_orders_8 : decode b_Diagrams_orders 8 = .ok (.ireturn, 1) := by decide +kernel
end
section
theorem d_Division_init_0 : decode b_Division_init 0 = .ok ((.aload_n 0), 1) := by decide +kernel
theorem d_Division_init_1 : decode b_Division_init 1 = .ok ((.invokespecial 3), 3) := by decide +kernel
theorem d_Division_init_4 : decode b_Division_init 4 = .ok ((.aload_n 0), 1) := by decide +kernel
theorem d_Division_init_5 : decode b_Division_init 5 = .ok ((.bipush 81), 2) := by decide +kernel
theorem d_Division_init_7 : decode b_Division_init 7 = .ok ((.newarray .long), 2) := by decide +kernel
theorem d_Division_init_9 : decode b_Division_init 9 = .ok ((.putfield 9), 3) := by decide +kernel
theorem d_Division_init_12 : decode b_Division_init 12 = .ok ((.aload_n 0), 1) := by decide +kernel
theorem d_Division_init_13 : decode b_Division_init 13 = .ok ((.bipush 81), 2) := by decide +kernel
theorem d_Division_init_15 : decode b_Division_init 15 = .ok ((.newarray .long), 2) := by decide +kernel
theorem d_Division_init_17 : decode b_Division_init 17 = .ok ((.putfield 15), 3) := by decide +kernel
theorem d_Division_init_20 : decode b_Division_init 20 = .ok ((.aload_n 0), 1) := by decide +kernel
theorem d_Division_init_21 : decode b_Division_init 21 = .ok ((.bipush 81), 2) := by decide +kernel
theorem d_Division_init_23 : decode b_Division_init 23 = .ok ((.newarray .int), 2) := by decide +kernel
theorem d_Division_init_25 : decode b_Division_init 25 = .ok ((.putfield 18), 3) := by decide +kernel
theorem d_Division_init_28 : decode b_Division_init 28 = .ok ((.aload_n 0), 1) := by decide +kernel
theorem d_Division_init_29 : decode b_Division_init 29 = .ok ((.aload_n 1), 1) := by decide +kernel
theorem d_Division_init_30 : decode b_Division_init 30 = .ok ((.putfield 22), 3) := by decide +kernel
theorem d_Division_init_33 : decode b_Division_init 33 = .ok ((.aload_n 0), 1) := by decide +kernel
theorem d_Division_init_34 : decode b_Division_init 34 = .ok ((.iconst 0), 1) := by decide +kernel
theorem d_Division_init_35 : decode b_Division_init 35 = .ok ((.putfield 26), 3) := by decide +kernel
theorem d_Division_init_38 : decode b_Division_init 38 = .ok (.return_, 1) := by decide +kernel
theorem d_Division_forget_0 : decode b_Division_forget 0 = .ok ((.aload_n 0), 1) := by decide +kernel
theorem d_Division_forget_1 : decode b_Division_forget 1 = .ok ((.iconst 0), 1) := by decide +kernel
theorem d_Division_forget_2 : decode b_Division_forget 2 = .ok ((.putfield 26), 3) := by decide +kernel
theorem d_Division_forget_5 : decode b_Division_forget 5 = .ok (.return_, 1) := by decide +kernel
theorem d_Division_countKernels_0 : decode b_Division_countKernels 0 = .ok ((.iconst 0), 1) := by decide +kernel
theorem d_Division_countKernels_1 : decode b_Division_countKernels 1 = .ok ((.istore_n 2), 1) := by decide +kernel
theorem d_Division_countKernels_2 : decode b_Division_countKernels 2 = .ok ((.iconst 0), 1) := by decide +kernel
theorem d_Division_countKernels_3 : decode b_Division_countKernels 3 = .ok ((.istore_n 3), 1) := by decide +kernel
theorem d_Division_countKernels_4 : decode b_Division_countKernels 4 = .ok ((.iload_n 3), 1) := by decide +kernel
theorem d_Division_countKernels_5 : decode b_Division_countKernels 5 = .ok ((.aload_n 0), 1) := by decide +kernel
theorem d_Division_countKernels_6 : decode b_Division_countKernels 6 = .ok ((.getfield 22), 3) := by decide +kernel
theorem d_Division_countKernels_9 : decode b_Division_countKernels 9 = .ok ((.invokevirtual 58), 3) := by decide +kernel
theorem d_Division_countKernels_12 : decode b_Division_countKernels 12 = .ok ((.if_icmp .ge 53), 3) := by decide +kernel
theorem d_Division_countKernels_15 : decode b_Division_countKernels 15 = .ok ((.aload_n 0), 1) := by decide +kernel
theorem d_Division_countKernels_16 : decode b_Division_countKernels 16 = .ok ((.aload_n 1), 1) := by decide +kernel
theorem d_Division_countKernels_17 : decode b_Division_countKernels 17 = .ok ((.iload_n 3), 1) := by decide +kernel
theorem d_Division_countKernels_18 : decode b_Division_countKernels 18 = .ok ((.invokevirtual 43), 3) := by decide +kernel
theorem d_Division_countKernels_21 : decode b_Division_countKernels 21 = .ok ((.aload_n 0), 1) := by decide +kernel
theorem d_Division_countKernels_22 : decode b_Division_countKernels 22 = .ok ((.invokevirtual 63), 3) := by decide +kernel
theorem d_Division_countKernels_25 : decode b_Division_countKernels 25 = .ok ((.ifCond .eq 34), 3) := by decide +kernel
theorem d_Division_countKernels_28 : decode b_Division_countKernels 28 = .ok ((.aload_n 0), 1) := by decide +kernel
theorem d_Division_countKernels_29 : decode b_Division_countKernels 29 = .ok ((.iload_n 2), 1) := by decide +kernel
theorem d_Division_countKernels_30 : decode b_Division_countKernels 30 = .ok ((.invokevirtual 67), 3) := by decide +kernel
theorem d_Division_countKernels_33 : decode b_Division_countKernels 33 = .ok ((.ifCond .ne 26), 3) := by decide +kernel
theorem d_Division_countKernels_36 : decode b_Division_countKernels 36 = .ok ((.aload_n 0), 1) := by decide +kernel
theorem d_Division_countKernels_37 : decode b_Division_countKernels 37 = .ok ((.getfield 9), 3) := by decide +kernel
theorem d_Division_countKernels_40 : decode b_Division_countKernels 40 = .ok ((.iload_n 2), 1) := by decide +kernel
theorem d_Division_countKernels_41 : decode b_Division_countKernels 41 = .ok ((.aload_n 0), 1) := by decide +kernel
theorem d_Division_countKernels_42 : decode b_Division_countKernels 42 = .ok ((.getfield 47), 3) := by decide +kernel
theorem d_Division_countKernels_45 : decode b_Division_countKernels 45 = .ok (.lastore, 1) := by decide +kernel
theorem d_Division_countKernels_46 : decode b_Division_countKernels 46 = .ok ((.aload_n 0), 1) := by decide +kernel
theorem d_Division_countKernels_47 : decode b_Division_countKernels 47 = .ok ((.getfield 15), 3) := by decide +kernel
theorem d_Division_countKernels_50 : decode b_Division_countKernels 50 = .ok ((.iload_n 2), 1) := by decide +kernel
theorem d_Division_countKernels_51 : decode b_Division_countKernels 51 = .ok ((.aload_n 0), 1) := by decide +kernel
theorem d_Division_countKernels_52 : decode b_Division_countKernels 52 = .ok ((.getfield 51), 3) := by decide +kernel
theorem d_Division_countKernels_55 : decode b_Division_countKernels 55 = .ok (.lastore, 1) := by decide +kernel
theorem d_Division_countKernels_56 : decode b_Division_countKernels 56 = .ok ((.iinc 2 1), 3) := by decide +kernel
theorem d_Division_countKernels_59 : decode b_Division_countKernels 59 = .ok ((.iinc 3 1), 3) := by decide +kernel
theorem d_Division_countKernels_62 : decode b_Division_countKernels 62 = .ok ((.goto (-58)), 3) := by decide +kernel
theorem d_Division_countKernels_65 : decode b_Division_countKernels 65 = .ok ((.iload_n 2), 1) := by decide +kernel
theorem d_Division_countKernels_66 : decode b_Division_countKernels 66 = .ok (.ireturn, 1) := by decide +kernel
theorem d_Division_divideBy_0 : decode b_Division_divideBy 0 = .ok ((.aload_n 0), 1) := by decide +kernel
theorem d_Division_divideBy_1 : decode b_Division_divideBy 1 = .ok ((.getfield 22), 3) := by decide +kernel
theorem d_Division_divideBy_4 : decode b_Division_divideBy 4 = .ok ((.iload_n 2), 1) := by decide +kernel
theorem d_Division_divideBy_5 : decode b_Division_divideBy 5 = .ok ((.invokevirtual 81), 3) := by decide +kernel
theorem d_Division_divideBy_8 : decode b_Division_divideBy 8 = .ok ((.istore_n 3), 1) := by decide +kernel
theorem d_Division_divideBy_9 : decode b_Division_divideBy 9 = .ok ((.aload_n 0), 1) := by decide +kernel
theorem d_Division_divideBy_10 : decode b_Division_divideBy 10 = .ok ((.lconst 0), 1) := by decide +kernel
theorem d_Division_divideBy_11 : decode b_Division_divideBy 11 = .ok ((.putfield 47), 3) := by decide +kernel
theorem d_Division_divideBy_14 : decode b_Division_divideBy 14 = .ok ((.aload_n 0), 1) := by decide +kernel
theorem d_Division_divideBy_15 : decode b_Division_divideBy 15 = .ok ((.lconst 0), 1) := by decide +kernel
theorem d_Division_divideBy_16 : decode b_Division_divideBy 16 = .ok ((.putfield 51), 3) := by decide +kernel
theorem d_Division_divideBy_19 : decode b_Division_divideBy 19 = .ok ((.aload_n 0), 1) := by decide +kernel
theorem d_Division_divideBy_20 : decode b_Division_divideBy 20 = .ok ((.iconst (-1)), 1) := by decide +kernel
theorem d_Division_divideBy_21 : decode b_Division_divideBy 21 = .ok ((.putfield 75), 3) := by decide +kernel
theorem d_Division_divideBy_24 : decode b_Division_divideBy 24 = .ok ((.aload_n 0), 1) := by decide +kernel
theorem d_Division_divideBy_25 : decode b_Division_divideBy 25 = .ok ((.iconst (-1)), 1) := by decide +kernel
theorem d_Division_divideBy_26 : decode b_Division_divideBy 26 = .ok ((.putfield 78), 3) := by decide +kernel
theorem d_Division_divideBy_29 : decode b_Division_divideBy 29 = .ok ((.iconst 0), 1) := by decide +kernel
theorem d_Division_divideBy_30 : decode b_Division_divideBy 30 = .ok ((.istore 4), 2) := by decide +kernel
theorem d_Division_divideBy_32 : decode b_Division_divideBy 32 = .ok ((.iload 4), 2) := by decide +kernel
theorem d_Division_divideBy_34 : decode b_Division_divideBy 34 = .ok ((.aload_n 1), 1) := by decide +kernel
theorem d_Division_divideBy_35 : decode b_Division_divideBy 35 = .ok ((.invokevirtual 32), 3) := by decide +kernel
theorem d_Division_divideBy_38 : decode b_Division_divideBy 38 = .ok ((.if_icmp .ge 84), 3) := by decide +kernel
theorem d_Division_divideBy_41 : decode b_Division_divideBy 41 = .ok ((.aload_n 1), 1) := by decide +kernel
theorem d_Division_divideBy_42 : decode b_Division_divideBy 42 = .ok ((.iload 4), 2) := by decide +kernel
theorem d_Division_divideBy_44 : decode b_Division_divideBy 44 = .ok ((.invokevirtual 39), 3) := by decide +kernel
theorem d_Division_divideBy_47 : decode b_Division_divideBy 47 = .ok ((.istore 5), 2) := by decide +kernel
theorem d_Division_divideBy_49 : decode b_Division_divideBy 49 = .ok ((.aload_n 0), 1) := by decide +kernel
theorem d_Division_divideBy_50 : decode b_Division_divideBy 50 = .ok ((.getfield 22), 3) := by decide +kernel
theorem d_Division_divideBy_53 : decode b_Division_divideBy 53 = .ok ((.iload 5), 2) := by decide +kernel
theorem d_Division_divideBy_55 : decode b_Division_divideBy 55 = .ok ((.invokevirtual 81), 3) := by decide +kernel
theorem d_Division_divideBy_58 : decode b_Division_divideBy 58 = .ok ((.iload_n 3), 1) := by decide +kernel
theorem d_Division_divideBy_59 : decode b_Division_divideBy 59 = .ok (.iand, 1) := by decide +kernel
theorem d_Division_divideBy_60 : decode b_Division_divideBy 60 = .ok ((.iload_n 3), 1) := by decide +kernel
theorem d_Division_divideBy_61 : decode b_Division_divideBy 61 = .ok ((.if_icmp .ne 55), 3) := by decide +kernel
theorem d_Division_divideBy_64 : decode b_Division_divideBy 64 = .ok ((.aload_n 0), 1) := by decide +kernel
theorem d_Division_divideBy_65 : decode b_Division_divideBy 65 = .ok ((.getfield 22), 3) := by decide +kernel
theorem d_Division_divideBy_68 : decode b_Division_divideBy 68 = .ok ((.iload 5), 2) := by decide +kernel
theorem d_Division_divideBy_70 : decode b_Division_divideBy 70 = .ok ((.invokevirtual 84), 3) := by decide +kernel
theorem d_Division_divideBy_73 : decode b_Division_divideBy 73 = .ok ((.iload_n 3), 1) := by decide +kernel
theorem d_Division_divideBy_74 : decode b_Division_divideBy 74 = .ok (.iand, 1) := by decide +kernel
theorem d_Division_divideBy_75 : decode b_Division_divideBy 75 = .ok ((.aload_n 0), 1) := by decide +kernel
theorem d_Division_divideBy_76 : decode b_Division_divideBy 76 = .ok ((.getfield 22), 3) := by decide +kernel
theorem d_Division_divideBy_79 : decode b_Division_divideBy 79 = .ok ((.iload_n 2), 1) := by decide +kernel
theorem d_Division_divideBy_80 : decode b_Division_divideBy 80 = .ok ((.invokevirtual 84), 3) := by decide +kernel
theorem d_Division_divideBy_83 : decode b_Division_divideBy 83 = .ok ((.if_icmp .ne 33), 3) := by decide +kernel
theorem d_Division_divideBy_86 : decode b_Division_divideBy 86 = .ok ((.aload_n 0), 1) := by decide +kernel
theorem d_Division_divideBy_87 : decode b_Division_divideBy 87 = .ok ((.aload_n 0), 1) := by decide +kernel
theorem d_Division_divideBy_88 : decode b_Division_divideBy 88 = .ok ((.getfield 22), 3) := by decide +kernel
theorem d_Division_divideBy_91 : decode b_Division_divideBy 91 = .ok ((.iload 5), 2) := by decide +kernel
theorem d_Division_divideBy_93 : decode b_Division_divideBy 93 = .ok ((.invokevirtual 81), 3) := by decide +kernel
theorem d_Division_divideBy_96 : decode b_Division_divideBy 96 = .ok ((.iload_n 3), 1) := by decide +kernel
theorem d_Division_divideBy_97 : decode b_Division_divideBy 97 = .ok ((.iconst (-1)), 1) := by decide +kernel
theorem d_Division_divideBy_98 : decode b_Division_divideBy 98 = .ok (.ixor, 1) := by decide +kernel
theorem d_Division_divideBy_99 : decode b_Division_divideBy 99 = .ok (.iand, 1) := by decide +kernel
theorem d_Division_divideBy_100 : decode b_Division_divideBy 100 = .ok ((.aload_n 0), 1) := by decide +kernel
theorem d_Division_divideBy_101 : decode b_Division_divideBy 101 = .ok ((.getfield 22), 3) := by decide +kernel
theorem d_Division_divideBy_104 : decode b_Division_divideBy 104 = .ok ((.iload 5), 2) := by decide +kernel
theorem d_Division_divideBy_106 : decode b_Division_divideBy 106 = .ok ((.invokevirtual 84), 3) := by decide +kernel
theorem d_Division_divideBy_109 : decode b_Division_divideBy 109 = .ok ((.iload_n 3), 1) := by decide +kernel
theorem d_Division_divideBy_110 : decode b_Division_divideBy 110 = .ok ((.iconst (-1)), 1) := by decide +kernel
theorem d_Division_divideBy_111 : decode b_Division_divideBy 111 = .ok (.ixor, 1) := by decide +kernel
theorem d_Division_divideBy_112 : decode b_Division_divideBy 112 = .ok (.iand, 1) := by decide +kernel
theorem d_Division_divideBy_113 : decode b_Division_divideBy 113 = .ok ((.invokevirtual 87), 3) := by decide +kernel
theorem d_Division_divideBy_116 : decode b_Division_divideBy 116 = .ok ((.iinc 4 1), 3) := by decide +kernel
theorem d_Division_divideBy_119 : decode b_Division_divideBy 119 = .ok ((.goto (-87)), 3) := by decide +kernel
theorem d_Division_divideBy_122 : decode b_Division_divideBy 122 = .ok (.return_, 1) := by decide +kernel
theorem d_Division_addProduct_0 : decode b_Division_addProduct 0 = .ok ((.aload_n 0), 1) := by decide +kernel
theorem d_Division_addProduct_1 : decode b_Division_addProduct 1 = .ok ((.getfield 22), 3) := by decide +kernel
theorem d_Division_addProduct_4 : decode b_Division_addProduct 4 = .ok ((.iload_n 1), 1) := by decide +kernel
theorem d_Division_addProduct_5 : decode b_Division_addProduct 5 = .ok ((.iload_n 2), 1) := by decide +kernel
theorem d_Division_addProduct_6 : decode b_Division_addProduct 6 = .ok ((.invokevirtual 91), 3) := by decide +kernel
theorem d_Division_addProduct_9 : decode b_Division_addProduct 9 = .ok ((.istore_n 3), 1) := by decide +kernel
theorem d_Division_addProduct_10 : decode b_Division_addProduct 10 = .ok ((.iload_n 3), 1) := by decide +kernel
theorem d_Division_addProduct_11 : decode b_Division_addProduct 11 = .ok ((.bipush 64), 2) := by decide +kernel
theorem d_Division_addProduct_13 : decode b_Division_addProduct 13 = .ok ((.if_icmp .ge 18), 3) := by decide +kernel
theorem d_Division_addProduct_16 : decode b_Division_addProduct 16 = .ok ((.aload_n 0), 1) := by decide +kernel
theorem d_Division_addProduct_17 : decode b_Division_addProduct 17 = .ok (.dup, 1) := by decide +kernel
theorem d_Division_addProduct_18 : decode b_Division_addProduct 18 = .ok ((.getfield 47), 3) := by decide +kernel
theorem d_Division_addProduct_21 : decode b_Division_addProduct 21 = .ok ((.lconst 1), 1) := by decide +kernel
theorem d_Division_addProduct_22 : decode b_Division_addProduct 22 = .ok ((.iload_n 3), 1) := by decide +kernel
theorem d_Division_addProduct_23 : decode b_Division_addProduct 23 = .ok (.lshl, 1) := by decide +kernel
theorem d_Division_addProduct_24 : decode b_Division_addProduct 24 = .ok (.lor, 1) := by decide +kernel
theorem d_Division_addProduct_25 : decode b_Division_addProduct 25 = .ok ((.putfield 47), 3) := by decide +kernel
theorem d_Division_addProduct_28 : decode b_Division_addProduct 28 = .ok ((.goto 18), 3) := by decide +kernel
theorem d_Division_addProduct_31 : decode b_Division_addProduct 31 = .ok ((.aload_n 0), 1) := by decide +kernel
theorem d_Division_addProduct_32 : decode b_Division_addProduct 32 = .ok (.dup, 1) := by decide +kernel
theorem d_Division_addProduct_33 : decode b_Division_addProduct 33 = .ok ((.getfield 51), 3) := by decide +kernel
theorem d_Division_addProduct_36 : decode b_Division_addProduct 36 = .ok ((.lconst 1), 1) := by decide +kernel
theorem d_Division_addProduct_37 : decode b_Division_addProduct 37 = .ok ((.iload_n 3), 1) := by decide +kernel
theorem d_Division_addProduct_38 : decode b_Division_addProduct 38 = .ok ((.bipush 64), 2) := by decide +kernel
theorem d_Division_addProduct_40 : decode b_Division_addProduct 40 = .ok (.isub, 1) := by decide +kernel
theorem d_Division_addProduct_41 : decode b_Division_addProduct 41 = .ok (.lshl, 1) := by decide +kernel
theorem d_Division_addProduct_42 : decode b_Division_addProduct 42 = .ok (.lor, 1) := by decide +kernel
theorem d_Division_addProduct_43 : decode b_Division_addProduct 43 = .ok ((.putfield 51), 3) := by decide +kernel
theorem d_Division_addProduct_46 : decode b_Division_addProduct 46 = .ok ((.aload_n 0), 1) := by decide +kernel
theorem d_Division_addProduct_47 : decode b_Division_addProduct 47 = .ok (.dup, 1) := by decide +kernel
theorem d_Division_addProduct_48 : decode b_Division_addProduct 48 = .ok ((.getfield 75), 3) := by decide +kernel
theorem d_Division_addProduct_51 : decode b_Division_addProduct 51 = .ok ((.iload_n 2), 1) := by decide +kernel
theorem d_Division_addProduct_52 : decode b_Division_addProduct 52 = .ok (.iand, 1) := by decide +kernel
theorem d_Division_addProduct_53 : decode b_Division_addProduct 53 = .ok ((.putfield 75), 3) := by decide +kernel
theorem d_Division_addProduct_56 : decode b_Division_addProduct 56 = .ok ((.aload_n 0), 1) := by decide +kernel
theorem d_Division_addProduct_57 : decode b_Division_addProduct 57 = .ok (.dup, 1) := by decide +kernel
theorem d_Division_addProduct_58 : decode b_Division_addProduct 58 = .ok ((.getfield 78), 3) := by decide +kernel
theorem d_Division_addProduct_61 : decode b_Division_addProduct 61 = .ok ((.iload_n 1), 1) := by decide +kernel
theorem d_Division_addProduct_62 : decode b_Division_addProduct 62 = .ok ((.iload_n 2), 1) := by decide +kernel
theorem d_Division_addProduct_63 : decode b_Division_addProduct 63 = .ok ((.iconst (-1)), 1) := by decide +kernel
theorem d_Division_addProduct_64 : decode b_Division_addProduct 64 = .ok (.ixor, 1) := by decide +kernel
theorem d_Division_addProduct_65 : decode b_Division_addProduct 65 = .ok (.iand, 1) := by decide +kernel
theorem d_Division_addProduct_66 : decode b_Division_addProduct 66 = .ok (.iand, 1) := by decide +kernel
theorem d_Division_addProduct_67 : decode b_Division_addProduct 67 = .ok ((.putfield 78), 3) := by decide +kernel
theorem d_Division_addProduct_70 : decode b_Division_addProduct 70 = .ok (.return_, 1) := by decide +kernel
theorem d_Division_isKernel_0 : decode b_Division_isKernel 0 = .ok ((.aload_n 0), 1) := by decide +kernel
theorem d_Division_isKernel_1 : decode b_Division_isKernel 1 = .ok ((.getfield 47), 3) := by decide +kernel
theorem d_Division_isKernel_4 : decode b_Division_isKernel 4 = .ok ((.invokestatic 71), 3) := by decide +kernel
theorem d_Division_isKernel_7 : decode b_Division_isKernel 7 = .ok ((.aload_n 0), 1) := by decide +kernel
theorem d_Division_isKernel_8 : decode b_Division_isKernel 8 = .ok ((.getfield 51), 3) := by decide +kernel
theorem d_Division_isKernel_11 : decode b_Division_isKernel 11 = .ok ((.invokestatic 71), 3) := by decide +kernel
theorem d_Division_isKernel_14 : decode b_Division_isKernel 14 = .ok (.iadd, 1) := by decide +kernel
theorem d_Division_isKernel_15 : decode b_Division_isKernel 15 = .ok ((.iconst 2), 1) := by decide +kernel
theorem d_Division_isKernel_16 : decode b_Division_isKernel 16 = .ok ((.if_icmp .lt 21), 3) := by decide +kernel
theorem d_Division_isKernel_19 : decode b_Division_isKernel 19 = .ok ((.aload_n 0), 1) := by decide +kernel
theorem d_Division_isKernel_20 : decode b_Division_isKernel 20 = .ok ((.getfield 75), 3) := by decide +kernel
theorem d_Division_isKernel_23 : decode b_Division_isKernel 23 = .ok ((.ifCond .ne 14), 3) := by decide +kernel
theorem d_Division_isKernel_26 : decode b_Division_isKernel 26 = .ok ((.aload_n 0), 1) := by decide +kernel
theorem d_Division_isKernel_27 : decode b_Division_isKernel 27 = .ok ((.getfield 78), 3) := by decide +kernel
theorem d_Division_isKernel_30 : decode b_Division_isKernel 30 = .ok ((.ifCond .ne 7), 3) := by decide +kernel
theorem d_Division_isKernel_33 : decode b_Division_isKernel 33 = .ok ((.iconst 1), 1) := by decide +kernel
theorem d_Division_isKernel_34 : decode b_Division_isKernel 34 = .ok ((.goto 4), 3) := by decide +kernel
theorem d_Division_isKernel_37 : decode b_Division_isKernel 37 = .ok ((.iconst 0), 1) := by decide +kernel
theorem d_Division_isKernel_38 : decode b_Division_isKernel 38 = .ok (.ireturn, 1) := by decide +kernel
theorem d_Division_isKnown_0 : decode b_Division_isKnown 0 = .ok ((.iconst 0), 1) := by decide +kernel
theorem d_Division_isKnown_1 : decode b_Division_isKnown 1 = .ok ((.istore_n 2), 1) := by decide +kernel
theorem d_Division_isKnown_2 : decode b_Division_isKnown 2 = .ok ((.iload_n 2), 1) := by decide +kernel
theorem d_Division_isKnown_3 : decode b_Division_isKnown 3 = .ok ((.iload_n 1), 1) := by decide +kernel
theorem d_Division_isKnown_4 : decode b_Division_isKnown 4 = .ok ((.if_icmp .ge 39), 3) := by decide +kernel
theorem d_Division_isKnown_7 : decode b_Division_isKnown 7 = .ok ((.aload_n 0), 1) := by decide +kernel
theorem d_Division_isKnown_8 : decode b_Division_isKnown 8 = .ok ((.getfield 9), 3) := by decide +kernel
theorem d_Division_isKnown_11 : decode b_Division_isKnown 11 = .ok ((.iload_n 2), 1) := by decide +kernel
theorem d_Division_isKnown_12 : decode b_Division_isKnown 12 = .ok (.laload, 1) := by decide +kernel
theorem d_Division_isKnown_13 : decode b_Division_isKnown 13 = .ok ((.aload_n 0), 1) := by decide +kernel
theorem d_Division_isKnown_14 : decode b_Division_isKnown 14 = .ok ((.getfield 47), 3) := by decide +kernel
theorem d_Division_isKnown_17 : decode b_Division_isKnown 17 = .ok (.lcmp, 1) := by decide +kernel
theorem d_Division_isKnown_18 : decode b_Division_isKnown 18 = .ok ((.ifCond .ne 19), 3) := by decide +kernel
theorem d_Division_isKnown_21 : decode b_Division_isKnown 21 = .ok ((.aload_n 0), 1) := by decide +kernel
theorem d_Division_isKnown_22 : decode b_Division_isKnown 22 = .ok ((.getfield 15), 3) := by decide +kernel
theorem d_Division_isKnown_25 : decode b_Division_isKnown 25 = .ok ((.iload_n 2), 1) := by decide +kernel
theorem d_Division_isKnown_26 : decode b_Division_isKnown 26 = .ok (.laload, 1) := by decide +kernel
theorem d_Division_isKnown_27 : decode b_Division_isKnown 27 = .ok ((.aload_n 0), 1) := by decide +kernel
theorem d_Division_isKnown_28 : decode b_Division_isKnown 28 = .ok ((.getfield 51), 3) := by decide +kernel
theorem d_Division_isKnown_31 : decode b_Division_isKnown 31 = .ok (.lcmp, 1) := by decide +kernel
theorem d_Division_isKnown_32 : decode b_Division_isKnown 32 = .ok ((.ifCond .ne 5), 3) := by decide +kernel
theorem d_Division_isKnown_35 : decode b_Division_isKnown 35 = .ok ((.iconst 1), 1) := by decide +kernel
theorem d_Division_isKnown_36 : decode b_Division_isKnown 36 = .ok (.ireturn, 1) := by decide +kernel
theorem d_Division_isKnown_37 : decode b_Division_isKnown 37 = .ok ((.iinc 2 1), 3) := by decide +kernel
theorem d_Division_isKnown_40 : decode b_Division_isKnown 40 = .ok ((.goto (-38)), 3) := by decide +kernel
theorem d_Division_isKnown_43 : decode b_Division_isKnown 43 = .ok ((.iconst 0), 1) := by decide +kernel
theorem d_Division_isKnown_44 : decode b_Division_isKnown 44 = .ok (.ireturn, 1) := by decide +kernel
theorem d_Division_keepQuotient_0 : decode b_Division_keepQuotient 0 = .ok ((.ldc2_w 30), 3) := by decide +kernel
theorem d_Division_keepQuotient_3 : decode b_Division_keepQuotient 3 = .ok ((.lstore_n 3), 1) := by decide +kernel
theorem d_Division_keepQuotient_4 : decode b_Division_keepQuotient 4 = .ok ((.ldc2_w 30), 3) := by decide +kernel
theorem d_Division_keepQuotient_7 : decode b_Division_keepQuotient 7 = .ok ((.lstore 5), 2) := by decide +kernel
theorem d_Division_keepQuotient_9 : decode b_Division_keepQuotient 9 = .ok ((.iconst 0), 1) := by decide +kernel
theorem d_Division_keepQuotient_10 : decode b_Division_keepQuotient 10 = .ok ((.istore 7), 2) := by decide +kernel
theorem d_Division_keepQuotient_12 : decode b_Division_keepQuotient 12 = .ok ((.iload 7), 2) := by decide +kernel
theorem d_Division_keepQuotient_14 : decode b_Division_keepQuotient 14 = .ok ((.aload_n 1), 1) := by decide +kernel
theorem d_Division_keepQuotient_15 : decode b_Division_keepQuotient 15 = .ok ((.invokevirtual 32), 3) := by decide +kernel
theorem d_Division_keepQuotient_18 : decode b_Division_keepQuotient 18 = .ok ((.if_icmp .ge 53), 3) := by decide +kernel
theorem d_Division_keepQuotient_21 : decode b_Division_keepQuotient 21 = .ok ((.iload 7), 2) := by decide +kernel
theorem d_Division_keepQuotient_23 : decode b_Division_keepQuotient 23 = .ok ((.bipush 32), 2) := by decide +kernel
theorem d_Division_keepQuotient_25 : decode b_Division_keepQuotient 25 = .ok ((.if_icmp .ge 40), 3) := by decide +kernel
theorem d_Division_keepQuotient_28 : decode b_Division_keepQuotient 28 = .ok ((.iload_n 2), 1) := by decide +kernel
theorem d_Division_keepQuotient_29 : decode b_Division_keepQuotient 29 = .ok ((.iload 7), 2) := by decide +kernel
theorem d_Division_keepQuotient_31 : decode b_Division_keepQuotient 31 = .ok (.ishr, 1) := by decide +kernel
theorem d_Division_keepQuotient_32 : decode b_Division_keepQuotient 32 = .ok ((.iconst 1), 1) := by decide +kernel
theorem d_Division_keepQuotient_33 : decode b_Division_keepQuotient 33 = .ok (.iand, 1) := by decide +kernel
theorem d_Division_keepQuotient_34 : decode b_Division_keepQuotient 34 = .ok ((.iconst 1), 1) := by decide +kernel
theorem d_Division_keepQuotient_35 : decode b_Division_keepQuotient 35 = .ok ((.if_icmp .ne 30), 3) := by decide +kernel
theorem d_Division_keepQuotient_38 : decode b_Division_keepQuotient 38 = .ok ((.aload_n 0), 1) := by decide +kernel
theorem d_Division_keepQuotient_39 : decode b_Division_keepQuotient 39 = .ok ((.aload_n 1), 1) := by decide +kernel
theorem d_Division_keepQuotient_40 : decode b_Division_keepQuotient 40 = .ok ((.aload_n 1), 1) := by decide +kernel
theorem d_Division_keepQuotient_41 : decode b_Division_keepQuotient 41 = .ok ((.iload 7), 2) := by decide +kernel
theorem d_Division_keepQuotient_43 : decode b_Division_keepQuotient 43 = .ok ((.invokevirtual 39), 3) := by decide +kernel
theorem d_Division_keepQuotient_46 : decode b_Division_keepQuotient 46 = .ok ((.invokevirtual 43), 3) := by decide +kernel
theorem d_Division_keepQuotient_49 : decode b_Division_keepQuotient 49 = .ok ((.lload_n 3), 1) := by decide +kernel
theorem d_Division_keepQuotient_50 : decode b_Division_keepQuotient 50 = .ok ((.aload_n 0), 1) := by decide +kernel
theorem d_Division_keepQuotient_51 : decode b_Division_keepQuotient 51 = .ok ((.getfield 47), 3) := by decide +kernel
theorem d_Division_keepQuotient_54 : decode b_Division_keepQuotient 54 = .ok (.land, 1) := by decide +kernel
theorem d_Division_keepQuotient_55 : decode b_Division_keepQuotient 55 = .ok ((.lstore_n 3), 1) := by decide +kernel
theorem d_Division_keepQuotient_56 : decode b_Division_keepQuotient 56 = .ok ((.lload 5), 2) := by decide +kernel
theorem d_Division_keepQuotient_58 : decode b_Division_keepQuotient 58 = .ok ((.aload_n 0), 1) := by decide +kernel
theorem d_Division_keepQuotient_59 : decode b_Division_keepQuotient 59 = .ok ((.getfield 51), 3) := by decide +kernel
theorem d_Division_keepQuotient_62 : decode b_Division_keepQuotient 62 = .ok (.land, 1) := by decide +kernel
theorem d_Division_keepQuotient_63 : decode b_Division_keepQuotient 63 = .ok ((.lstore 5), 2) := by decide +kernel
theorem d_Division_keepQuotient_65 : decode b_Division_keepQuotient 65 = .ok ((.iinc 7 1), 3) := by decide +kernel
theorem d_Division_keepQuotient_68 : decode b_Division_keepQuotient 68 = .ok ((.goto (-56)), 3) := by decide +kernel
theorem d_Division_keepQuotient_71 : decode b_Division_keepQuotient 71 = .ok ((.aload_n 0), 1) := by decide +kernel
theorem d_Division_keepQuotient_72 : decode b_Division_keepQuotient 72 = .ok ((.lload_n 3), 1) := by decide +kernel
theorem d_Division_keepQuotient_73 : decode b_Division_keepQuotient 73 = .ok ((.lload 5), 2) := by decide +kernel
theorem d_Division_keepQuotient_75 : decode b_Division_keepQuotient 75 = .ok ((.invokevirtual 54), 3) := by decide +kernel
theorem d_Division_keepQuotient_78 : decode b_Division_keepQuotient 78 = .ok ((.aload_n 0), 1) := by decide +kernel
theorem d_Division_keepQuotient_79 : decode b_Division_keepQuotient 79 = .ok ((.getfield 26), 3) := by decide +kernel
theorem d_Division_keepQuotient_82 : decode b_Division_keepQuotient 82 = .ok (.ireturn, 1) := by decide +kernel
theorem d_Division_fillRow_0 : decode b_Division_fillRow 0 = .ok ((.aload_n 0), 1) := by decide +kernel
theorem d_Division_fillRow_1 : decode b_Division_fillRow 1 = .ok ((.iconst 0), 1) := by decide +kernel
theorem d_Division_fillRow_2 : decode b_Division_fillRow 2 = .ok ((.putfield 26), 3) := by decide +kernel
theorem d_Division_fillRow_5 : decode b_Division_fillRow 5 = .ok ((.iconst 0), 1) := by decide +kernel
theorem d_Division_fillRow_6 : decode b_Division_fillRow 6 = .ok ((.istore 5), 2) := by decide +kernel
theorem d_Division_fillRow_8 : decode b_Division_fillRow 8 = .ok ((.iload 5), 2) := by decide +kernel
theorem d_Division_fillRow_10 : decode b_Division_fillRow 10 = .ok ((.aload_n 0), 1) := by decide +kernel
theorem d_Division_fillRow_11 : decode b_Division_fillRow 11 = .ok ((.getfield 22), 3) := by decide +kernel
theorem d_Division_fillRow_14 : decode b_Division_fillRow 14 = .ok ((.invokevirtual 58), 3) := by decide +kernel
theorem d_Division_fillRow_17 : decode b_Division_fillRow 17 = .ok ((.if_icmp .ge 62), 3) := by decide +kernel
theorem d_Division_fillRow_20 : decode b_Division_fillRow 20 = .ok ((.iload 5), 2) := by decide +kernel
theorem d_Division_fillRow_22 : decode b_Division_fillRow 22 = .ok ((.bipush 64), 2) := by decide +kernel
theorem d_Division_fillRow_24 : decode b_Division_fillRow 24 = .ok ((.if_icmp .ge 10), 3) := by decide +kernel
theorem d_Division_fillRow_27 : decode b_Division_fillRow 27 = .ok ((.lload_n 1), 1) := by decide +kernel
theorem d_Division_fillRow_28 : decode b_Division_fillRow 28 = .ok ((.iload 5), 2) := by decide +kernel
theorem d_Division_fillRow_30 : decode b_Division_fillRow 30 = .ok (.lshr, 1) := by decide +kernel
theorem d_Division_fillRow_31 : decode b_Division_fillRow 31 = .ok ((.goto 10), 3) := by decide +kernel
theorem d_Division_fillRow_34 : decode b_Division_fillRow 34 = .ok ((.lload_n 3), 1) := by decide +kernel
theorem d_Division_fillRow_35 : decode b_Division_fillRow 35 = .ok ((.iload 5), 2) := by decide +kernel
theorem d_Division_fillRow_37 : decode b_Division_fillRow 37 = .ok ((.bipush 64), 2) := by decide +kernel
theorem d_Division_fillRow_39 : decode b_Division_fillRow 39 = .ok (.isub, 1) := by decide +kernel
theorem d_Division_fillRow_40 : decode b_Division_fillRow 40 = .ok (.lshr, 1) := by decide +kernel
theorem d_Division_fillRow_41 : decode b_Division_fillRow 41 = .ok ((.lstore 6), 2) := by decide +kernel
theorem d_Division_fillRow_43 : decode b_Division_fillRow 43 = .ok ((.lload 6), 2) := by decide +kernel
theorem d_Division_fillRow_45 : decode b_Division_fillRow 45 = .ok ((.lconst 1), 1) := by decide +kernel
theorem d_Division_fillRow_46 : decode b_Division_fillRow 46 = .ok (.land, 1) := by decide +kernel
theorem d_Division_fillRow_47 : decode b_Division_fillRow 47 = .ok ((.lconst 1), 1) := by decide +kernel
theorem d_Division_fillRow_48 : decode b_Division_fillRow 48 = .ok (.lcmp, 1) := by decide +kernel
theorem d_Division_fillRow_49 : decode b_Division_fillRow 49 = .ok ((.ifCond .ne 24), 3) := by decide +kernel
theorem d_Division_fillRow_52 : decode b_Division_fillRow 52 = .ok ((.aload_n 0), 1) := by decide +kernel
theorem d_Division_fillRow_53 : decode b_Division_fillRow 53 = .ok ((.getfield 18), 3) := by decide +kernel
theorem d_Division_fillRow_56 : decode b_Division_fillRow 56 = .ok ((.aload_n 0), 1) := by decide +kernel
theorem d_Division_fillRow_57 : decode b_Division_fillRow 57 = .ok ((.getfield 26), 3) := by decide +kernel
theorem d_Division_fillRow_60 : decode b_Division_fillRow 60 = .ok ((.iload 5), 2) := by decide +kernel
theorem d_Division_fillRow_62 : decode b_Division_fillRow 62 = .ok (.iastore, 1) := by decide +kernel
theorem d_Division_fillRow_63 : decode b_Division_fillRow 63 = .ok ((.aload_n 0), 1) := by decide +kernel
theorem d_Division_fillRow_64 : decode b_Division_fillRow 64 = .ok (.dup, 1) := by decide +kernel
theorem d_Division_fillRow_65 : decode b_Division_fillRow 65 = .ok ((.getfield 26), 3) := by decide +kernel
theorem d_Division_fillRow_68 : decode b_Division_fillRow 68 = .ok ((.iconst 1), 1) := by decide +kernel
theorem d_Division_fillRow_69 : decode b_Division_fillRow 69 = .ok (.iadd, 1) := by decide +kernel
theorem d_Division_fillRow_70 : decode b_Division_fillRow 70 = .ok ((.putfield 26), 3) := by decide +kernel
theorem d_Division_fillRow_73 : decode b_Division_fillRow 73 = .ok ((.iinc 5 1), 3) := by decide +kernel
theorem d_Division_fillRow_76 : decode b_Division_fillRow 76 = .ok ((.goto (-68)), 3) := by decide +kernel
theorem d_Division_fillRow_79 : decode b_Division_fillRow 79 = .ok (.return_, 1) := by decide +kernel
theorem d_Division_holds_0 : decode b_Division_holds 0 = .ok ((.iload_n 1), 1) := by decide +kernel
theorem d_Division_holds_1 : decode b_Division_holds 1 = .ok ((.ifCond .lt 15), 3) := by decide +kernel
theorem d_Division_holds_4 : decode b_Division_holds 4 = .ok ((.iload_n 1), 1) := by decide +kernel
theorem d_Division_holds_5 : decode b_Division_holds 5 = .ok ((.aload_n 0), 1) := by decide +kernel
theorem d_Division_holds_6 : decode b_Division_holds 6 = .ok ((.getfield 26), 3) := by decide +kernel
theorem d_Division_holds_9 : decode b_Division_holds 9 = .ok ((.if_icmp .ge 7), 3) := by decide +kernel
theorem d_Division_holds_12 : decode b_Division_holds 12 = .ok ((.iconst 1), 1) := by decide +kernel
theorem d_Division_holds_13 : decode b_Division_holds 13 = .ok ((.goto 4), 3) := by decide +kernel
theorem d_Division_holds_16 : decode b_Division_holds 16 = .ok ((.iconst 0), 1) := by decide +kernel
theorem d_Division_holds_17 : decode b_Division_holds 17 = .ok (.ireturn, 1) := by decide +kernel
theorem d_Division_product_0 : decode b_Division_product 0 = .ok ((.aload_n 0), 1) := by decide +kernel
theorem d_Division_product_1 : decode b_Division_product 1 = .ok ((.getfield 18), 3) := by decide +kernel
theorem d_Division_product_4 : decode b_Division_product 4 = .ok ((.iload_n 1), 1) := by decide +kernel
theorem d_Division_product_5 : decode b_Division_product 5 = .ok (.iaload, 1) := by decide +kernel
theorem d_Division_product_6 : decode b_Division_product 6 = .ok (.ireturn, 1) := by decide +kernel
end
section
theorem d_JInteger_bitCount_II_0 : decode b_JInteger_bitCount_II 0 = .ok ((.iload_n 0), 1) := by decide +kernel
theorem d_JInteger_bitCount_II_1 : decode b_JInteger_bitCount_II 1 = .ok ((.iload_n 0), 1) := by decide +kernel
theorem d_JInteger_bitCount_II_2 : decode b_JInteger_bitCount_II 2 = .ok ((.iconst 1), 1) := by decide +kernel
theorem d_JInteger_bitCount_II_3 : decode b_JInteger_bitCount_II 3 = .ok (.iushr, 1) := by decide +kernel
theorem d_JInteger_bitCount_II_4 : decode b_JInteger_bitCount_II 4 = .ok ((.ldc_w 265), 3) := by decide +kernel
theorem d_JInteger_bitCount_II_7 : decode b_JInteger_bitCount_II 7 = .ok (.iand, 1) := by decide +kernel
theorem d_JInteger_bitCount_II_8 : decode b_JInteger_bitCount_II 8 = .ok (.isub, 1) := by decide +kernel
theorem d_JInteger_bitCount_II_9 : decode b_JInteger_bitCount_II 9 = .ok ((.istore_n 0), 1) := by decide +kernel
theorem d_JInteger_bitCount_II_10 : decode b_JInteger_bitCount_II 10 = .ok ((.iload_n 0), 1) := by decide +kernel
theorem d_JInteger_bitCount_II_11 : decode b_JInteger_bitCount_II 11 = .ok ((.ldc_w 266), 3) := by decide +kernel
theorem d_JInteger_bitCount_II_14 : decode b_JInteger_bitCount_II 14 = .ok (.iand, 1) := by decide +kernel
theorem d_JInteger_bitCount_II_15 : decode b_JInteger_bitCount_II 15 = .ok ((.iload_n 0), 1) := by decide +kernel
theorem d_JInteger_bitCount_II_16 : decode b_JInteger_bitCount_II 16 = .ok ((.iconst 2), 1) := by decide +kernel
theorem d_JInteger_bitCount_II_17 : decode b_JInteger_bitCount_II 17 = .ok (.iushr, 1) := by decide +kernel
theorem d_JInteger_bitCount_II_18 : decode b_JInteger_bitCount_II 18 = .ok ((.ldc_w 266), 3) := by decide +kernel
theorem d_JInteger_bitCount_II_21 : decode b_JInteger_bitCount_II 21 = .ok (.iand, 1) := by decide +kernel
theorem d_JInteger_bitCount_II_22 : decode b_JInteger_bitCount_II 22 = .ok (.iadd, 1) := by decide +kernel
theorem d_JInteger_bitCount_II_23 : decode b_JInteger_bitCount_II 23 = .ok ((.istore_n 0), 1) := by decide +kernel
theorem d_JInteger_bitCount_II_24 : decode b_JInteger_bitCount_II 24 = .ok ((.iload_n 0), 1) := by decide +kernel
theorem d_JInteger_bitCount_II_25 : decode b_JInteger_bitCount_II 25 = .ok ((.iload_n 0), 1) := by decide +kernel
theorem d_JInteger_bitCount_II_26 : decode b_JInteger_bitCount_II 26 = .ok ((.iconst 4), 1) := by decide +kernel
theorem d_JInteger_bitCount_II_27 : decode b_JInteger_bitCount_II 27 = .ok (.iushr, 1) := by decide +kernel
theorem d_JInteger_bitCount_II_28 : decode b_JInteger_bitCount_II 28 = .ok (.iadd, 1) := by decide +kernel
theorem d_JInteger_bitCount_II_29 : decode b_JInteger_bitCount_II 29 = .ok ((.ldc_w 267), 3) := by decide +kernel
theorem d_JInteger_bitCount_II_32 : decode b_JInteger_bitCount_II 32 = .ok (.iand, 1) := by decide +kernel
theorem d_JInteger_bitCount_II_33 : decode b_JInteger_bitCount_II 33 = .ok ((.istore_n 0), 1) := by decide +kernel
theorem d_JInteger_bitCount_II_34 : decode b_JInteger_bitCount_II 34 = .ok ((.iload_n 0), 1) := by decide +kernel
theorem d_JInteger_bitCount_II_35 : decode b_JInteger_bitCount_II 35 = .ok ((.iload_n 0), 1) := by decide +kernel
theorem d_JInteger_bitCount_II_36 : decode b_JInteger_bitCount_II 36 = .ok ((.bipush 8), 2) := by decide +kernel
theorem d_JInteger_bitCount_II_38 : decode b_JInteger_bitCount_II 38 = .ok (.iushr, 1) := by decide +kernel
theorem d_JInteger_bitCount_II_39 : decode b_JInteger_bitCount_II 39 = .ok (.iadd, 1) := by decide +kernel
theorem d_JInteger_bitCount_II_40 : decode b_JInteger_bitCount_II 40 = .ok ((.istore_n 0), 1) := by decide +kernel
theorem d_JInteger_bitCount_II_41 : decode b_JInteger_bitCount_II 41 = .ok ((.iload_n 0), 1) := by decide +kernel
theorem d_JInteger_bitCount_II_42 : decode b_JInteger_bitCount_II 42 = .ok ((.iload_n 0), 1) := by decide +kernel
theorem d_JInteger_bitCount_II_43 : decode b_JInteger_bitCount_II 43 = .ok ((.bipush 16), 2) := by decide +kernel
theorem d_JInteger_bitCount_II_45 : decode b_JInteger_bitCount_II 45 = .ok (.iushr, 1) := by decide +kernel
theorem d_JInteger_bitCount_II_46 : decode b_JInteger_bitCount_II 46 = .ok (.iadd, 1) := by decide +kernel
theorem d_JInteger_bitCount_II_47 : decode b_JInteger_bitCount_II 47 = .ok ((.istore_n 0), 1) := by decide +kernel
theorem d_JInteger_bitCount_II_48 : decode b_JInteger_bitCount_II 48 = .ok ((.iload_n 0), 1) := by decide +kernel
theorem d_JInteger_bitCount_II_49 : decode b_JInteger_bitCount_II 49 = .ok ((.bipush 63), 2) := by decide +kernel
theorem d_JInteger_bitCount_II_51 : decode b_JInteger_bitCount_II 51 = .ok (.iand, 1) := by decide +kernel
theorem d_JInteger_bitCount_II_52 : decode b_JInteger_bitCount_II 52 = .ok (.ireturn, 1) := by decide +kernel
end
section
theorem d_JLong_bitCount_JI_0 : decode b_JLong_bitCount_JI 0 = .ok ((.lload_n 0), 1) := by decide +kernel
theorem d_JLong_bitCount_JI_1 : decode b_JLong_bitCount_JI 1 = .ok ((.lload_n 0), 1) := by decide +kernel
theorem d_JLong_bitCount_JI_2 : decode b_JLong_bitCount_JI 2 = .ok ((.iconst 1), 1) := by decide +kernel
theorem d_JLong_bitCount_JI_3 : decode b_JLong_bitCount_JI 3 = .ok (.lushr, 1) := by decide +kernel
theorem d_JLong_bitCount_JI_4 : decode b_JLong_bitCount_JI 4 = .ok ((.ldc2_w 314), 3) := by decide +kernel
theorem d_JLong_bitCount_JI_7 : decode b_JLong_bitCount_JI 7 = .ok (.land, 1) := by decide +kernel
theorem d_JLong_bitCount_JI_8 : decode b_JLong_bitCount_JI 8 = .ok (.lsub, 1) := by decide +kernel
theorem d_JLong_bitCount_JI_9 : decode b_JLong_bitCount_JI 9 = .ok ((.lstore_n 0), 1) := by decide +kernel
theorem d_JLong_bitCount_JI_10 : decode b_JLong_bitCount_JI 10 = .ok ((.lload_n 0), 1) := by decide +kernel
theorem d_JLong_bitCount_JI_11 : decode b_JLong_bitCount_JI 11 = .ok ((.ldc2_w 316), 3) := by decide +kernel
theorem d_JLong_bitCount_JI_14 : decode b_JLong_bitCount_JI 14 = .ok (.land, 1) := by decide +kernel
theorem d_JLong_bitCount_JI_15 : decode b_JLong_bitCount_JI 15 = .ok ((.lload_n 0), 1) := by decide +kernel
theorem d_JLong_bitCount_JI_16 : decode b_JLong_bitCount_JI 16 = .ok ((.iconst 2), 1) := by decide +kernel
theorem d_JLong_bitCount_JI_17 : decode b_JLong_bitCount_JI 17 = .ok (.lushr, 1) := by decide +kernel
theorem d_JLong_bitCount_JI_18 : decode b_JLong_bitCount_JI 18 = .ok ((.ldc2_w 316), 3) := by decide +kernel
theorem d_JLong_bitCount_JI_21 : decode b_JLong_bitCount_JI 21 = .ok (.land, 1) := by decide +kernel
theorem d_JLong_bitCount_JI_22 : decode b_JLong_bitCount_JI 22 = .ok (.ladd, 1) := by decide +kernel
theorem d_JLong_bitCount_JI_23 : decode b_JLong_bitCount_JI 23 = .ok ((.lstore_n 0), 1) := by decide +kernel
theorem d_JLong_bitCount_JI_24 : decode b_JLong_bitCount_JI 24 = .ok ((.lload_n 0), 1) := by decide +kernel
theorem d_JLong_bitCount_JI_25 : decode b_JLong_bitCount_JI 25 = .ok ((.lload_n 0), 1) := by decide +kernel
theorem d_JLong_bitCount_JI_26 : decode b_JLong_bitCount_JI 26 = .ok ((.iconst 4), 1) := by decide +kernel
theorem d_JLong_bitCount_JI_27 : decode b_JLong_bitCount_JI 27 = .ok (.lushr, 1) := by decide +kernel
theorem d_JLong_bitCount_JI_28 : decode b_JLong_bitCount_JI 28 = .ok (.ladd, 1) := by decide +kernel
theorem d_JLong_bitCount_JI_29 : decode b_JLong_bitCount_JI 29 = .ok ((.ldc2_w 318), 3) := by decide +kernel
theorem d_JLong_bitCount_JI_32 : decode b_JLong_bitCount_JI 32 = .ok (.land, 1) := by decide +kernel
theorem d_JLong_bitCount_JI_33 : decode b_JLong_bitCount_JI 33 = .ok ((.lstore_n 0), 1) := by decide +kernel
theorem d_JLong_bitCount_JI_34 : decode b_JLong_bitCount_JI 34 = .ok ((.lload_n 0), 1) := by decide +kernel
theorem d_JLong_bitCount_JI_35 : decode b_JLong_bitCount_JI 35 = .ok ((.lload_n 0), 1) := by decide +kernel
theorem d_JLong_bitCount_JI_36 : decode b_JLong_bitCount_JI 36 = .ok ((.bipush 8), 2) := by decide +kernel
theorem d_JLong_bitCount_JI_38 : decode b_JLong_bitCount_JI 38 = .ok (.lushr, 1) := by decide +kernel
theorem d_JLong_bitCount_JI_39 : decode b_JLong_bitCount_JI 39 = .ok (.ladd, 1) := by decide +kernel
theorem d_JLong_bitCount_JI_40 : decode b_JLong_bitCount_JI 40 = .ok ((.lstore_n 0), 1) := by decide +kernel
theorem d_JLong_bitCount_JI_41 : decode b_JLong_bitCount_JI 41 = .ok ((.lload_n 0), 1) := by decide +kernel
theorem d_JLong_bitCount_JI_42 : decode b_JLong_bitCount_JI 42 = .ok ((.lload_n 0), 1) := by decide +kernel
theorem d_JLong_bitCount_JI_43 : decode b_JLong_bitCount_JI 43 = .ok ((.bipush 16), 2) := by decide +kernel
theorem d_JLong_bitCount_JI_45 : decode b_JLong_bitCount_JI 45 = .ok (.lushr, 1) := by decide +kernel
theorem d_JLong_bitCount_JI_46 : decode b_JLong_bitCount_JI 46 = .ok (.ladd, 1) := by decide +kernel
theorem d_JLong_bitCount_JI_47 : decode b_JLong_bitCount_JI 47 = .ok ((.lstore_n 0), 1) := by decide +kernel
theorem d_JLong_bitCount_JI_48 : decode b_JLong_bitCount_JI 48 = .ok ((.lload_n 0), 1) := by decide +kernel
theorem d_JLong_bitCount_JI_49 : decode b_JLong_bitCount_JI 49 = .ok ((.lload_n 0), 1) := by decide +kernel
theorem d_JLong_bitCount_JI_50 : decode b_JLong_bitCount_JI 50 = .ok ((.bipush 32), 2) := by decide +kernel
theorem d_JLong_bitCount_JI_52 : decode b_JLong_bitCount_JI 52 = .ok (.lushr, 1) := by decide +kernel
theorem d_JLong_bitCount_JI_53 : decode b_JLong_bitCount_JI 53 = .ok (.ladd, 1) := by decide +kernel
theorem d_JLong_bitCount_JI_54 : decode b_JLong_bitCount_JI 54 = .ok ((.lstore_n 0), 1) := by decide +kernel
theorem d_JLong_bitCount_JI_55 : decode b_JLong_bitCount_JI 55 = .ok ((.lload_n 0), 1) := by decide +kernel
theorem d_JLong_bitCount_JI_56 : decode b_JLong_bitCount_JI 56 = .ok (.l2i, 1) := by decide +kernel
theorem d_JLong_bitCount_JI_57 : decode b_JLong_bitCount_JI 57 = .ok ((.bipush 127), 2) := by decide +kernel
theorem d_JLong_bitCount_JI_59 : decode b_JLong_bitCount_JI 59 = .ok (.iand, 1) := by decide +kernel
theorem d_JLong_bitCount_JI_60 : decode b_JLong_bitCount_JI 60 = .ok (.ireturn, 1) := by decide +kernel
end
section
theorem d_Main_init_0 : decode b_Main_init 0 = .ok ((.aload_n 0), 1) := by decide +kernel
theorem d_Main_init_1 : decode b_Main_init 1 = .ok ((.invokespecial 1), 3) := by decide +kernel
theorem d_Main_init_4 : decode b_Main_init 4 = .ok ((.aload_n 0), 1) := by decide +kernel
theorem d_Main_init_5 : decode b_Main_init 5 = .ok ((.iconst 1), 1) := by decide +kernel
theorem d_Main_init_6 : decode b_Main_init 6 = .ok ((.iconst 4), 1) := by decide +kernel
theorem d_Main_init_7 : decode b_Main_init 7 = .ok ((.iload_n 1), 1) := by decide +kernel
theorem d_Main_init_8 : decode b_Main_init 8 = .ok ((.invokestatic 9), 3) := by decide +kernel
theorem d_Main_init_11 : decode b_Main_init 11 = .ok ((.invokestatic 15), 3) := by decide +kernel
theorem d_Main_init_14 : decode b_Main_init 14 = .ok ((.putfield 18), 3) := by decide +kernel
theorem d_Main_init_17 : decode b_Main_init 17 = .ok ((.aload_n 0), 1) := by decide +kernel
theorem d_Main_init_18 : decode b_Main_init 18 = .ok ((.iconst 1), 1) := by decide +kernel
theorem d_Main_init_19 : decode b_Main_init 19 = .ok ((.iconst 2), 1) := by decide +kernel
theorem d_Main_init_20 : decode b_Main_init 20 = .ok ((.iload_n 2), 1) := by decide +kernel
theorem d_Main_init_21 : decode b_Main_init 21 = .ok ((.invokestatic 9), 3) := by decide +kernel
theorem d_Main_init_24 : decode b_Main_init 24 = .ok ((.invokestatic 15), 3) := by decide +kernel
theorem d_Main_init_27 : decode b_Main_init 27 = .ok ((.putfield 22), 3) := by decide +kernel
theorem d_Main_init_30 : decode b_Main_init 30 = .ok ((.new 25), 3) := by decide +kernel
theorem d_Main_init_33 : decode b_Main_init 33 = .ok (.dup, 1) := by decide +kernel
theorem d_Main_init_34 : decode b_Main_init 34 = .ok ((.aload_n 0), 1) := by decide +kernel
theorem d_Main_init_35 : decode b_Main_init 35 = .ok ((.getfield 18), 3) := by decide +kernel
theorem d_Main_init_38 : decode b_Main_init 38 = .ok ((.invokespecial 27), 3) := by decide +kernel
theorem d_Main_init_41 : decode b_Main_init 41 = .ok ((.astore_n 3), 1) := by decide +kernel
theorem d_Main_init_42 : decode b_Main_init 42 = .ok ((.aload_n 0), 1) := by decide +kernel
theorem d_Main_init_43 : decode b_Main_init 43 = .ok ((.new 30), 3) := by decide +kernel
theorem d_Main_init_46 : decode b_Main_init 46 = .ok (.dup, 1) := by decide +kernel
theorem d_Main_init_47 : decode b_Main_init 47 = .ok ((.aload_n 3), 1) := by decide +kernel
theorem d_Main_init_48 : decode b_Main_init 48 = .ok ((.aload_n 0), 1) := by decide +kernel
theorem d_Main_init_49 : decode b_Main_init 49 = .ok ((.getfield 22), 3) := by decide +kernel
theorem d_Main_init_52 : decode b_Main_init 52 = .ok ((.invokespecial 32), 3) := by decide +kernel
theorem d_Main_init_55 : decode b_Main_init 55 = .ok ((.putfield 35), 3) := by decide +kernel
theorem d_Main_init_58 : decode b_Main_init 58 = .ok ((.aload_n 0), 1) := by decide +kernel
theorem d_Main_init_59 : decode b_Main_init 59 = .ok ((.new 39), 3) := by decide +kernel
theorem d_Main_init_62 : decode b_Main_init 62 = .ok (.dup, 1) := by decide +kernel
theorem d_Main_init_63 : decode b_Main_init 63 = .ok ((.aload_n 3), 1) := by decide +kernel
theorem d_Main_init_64 : decode b_Main_init 64 = .ok ((.invokespecial 41), 3) := by decide +kernel
theorem d_Main_init_67 : decode b_Main_init 67 = .ok ((.putfield 44), 3) := by decide +kernel
theorem d_Main_init_70 : decode b_Main_init 70 = .ok ((.aload_n 0), 1) := by decide +kernel
theorem d_Main_init_71 : decode b_Main_init 71 = .ok ((.new 48), 3) := by decide +kernel
theorem d_Main_init_74 : decode b_Main_init 74 = .ok (.dup, 1) := by decide +kernel
theorem d_Main_init_75 : decode b_Main_init 75 = .ok ((.aload_n 3), 1) := by decide +kernel
theorem d_Main_init_76 : decode b_Main_init 76 = .ok ((.aload_n 0), 1) := by decide +kernel
theorem d_Main_init_77 : decode b_Main_init 77 = .ok ((.getfield 22), 3) := by decide +kernel
theorem d_Main_init_80 : decode b_Main_init 80 = .ok ((.invokespecial 50), 3) := by decide +kernel
theorem d_Main_init_83 : decode b_Main_init 83 = .ok ((.putfield 51), 3) := by decide +kernel
theorem d_Main_init_86 : decode b_Main_init 86 = .ok ((.aload_n 0), 1) := by decide +kernel
theorem d_Main_init_87 : decode b_Main_init 87 = .ok ((.new 55), 3) := by decide +kernel
theorem d_Main_init_90 : decode b_Main_init 90 = .ok (.dup, 1) := by decide +kernel
theorem d_Main_init_91 : decode b_Main_init 91 = .ok ((.aload_n 0), 1) := by decide +kernel
theorem d_Main_init_92 : decode b_Main_init 92 = .ok ((.getfield 22), 3) := by decide +kernel
theorem d_Main_init_95 : decode b_Main_init 95 = .ok ((.invokespecial 57), 3) := by decide +kernel
theorem d_Main_init_98 : decode b_Main_init 98 = .ok ((.putfield 58), 3) := by decide +kernel
theorem d_Main_init_101 : decode b_Main_init 101 = .ok ((.aload_n 0), 1) := by decide +kernel
theorem d_Main_init_102 : decode b_Main_init 102 = .ok ((.new 39), 3) := by decide +kernel
theorem d_Main_init_105 : decode b_Main_init 105 = .ok (.dup, 1) := by decide +kernel
theorem d_Main_init_106 : decode b_Main_init 106 = .ok ((.aload_n 3), 1) := by decide +kernel
theorem d_Main_init_107 : decode b_Main_init 107 = .ok ((.invokespecial 41), 3) := by decide +kernel
theorem d_Main_init_110 : decode b_Main_init 110 = .ok ((.putfield 62), 3) := by decide +kernel
theorem d_Main_init_113 : decode b_Main_init 113 = .ok ((.aload_n 0), 1) := by decide +kernel
theorem d_Main_init_114 : decode b_Main_init 114 = .ok ((.new 65), 3) := by decide +kernel
theorem d_Main_init_117 : decode b_Main_init 117 = .ok (.dup, 1) := by decide +kernel
theorem d_Main_init_118 : decode b_Main_init 118 = .ok ((.aload_n 3), 1) := by decide +kernel
theorem d_Main_init_119 : decode b_Main_init 119 = .ok ((.invokespecial 67), 3) := by decide +kernel
theorem d_Main_init_122 : decode b_Main_init 122 = .ok ((.putfield 68), 3) := by decide +kernel
theorem d_Main_init_125 : decode b_Main_init 125 = .ok ((.aload_n 0), 1) := by decide +kernel
theorem d_Main_init_126 : decode b_Main_init 126 = .ok ((.new 72), 3) := by decide +kernel
theorem d_Main_init_129 : decode b_Main_init 129 = .ok (.dup, 1) := by decide +kernel
theorem d_Main_init_130 : decode b_Main_init 130 = .ok ((.aload_n 0), 1) := by decide +kernel
theorem d_Main_init_131 : decode b_Main_init 131 = .ok ((.getfield 18), 3) := by decide +kernel
theorem d_Main_init_134 : decode b_Main_init 134 = .ok ((.aload_n 0), 1) := by decide +kernel
theorem d_Main_init_135 : decode b_Main_init 135 = .ok ((.getfield 22), 3) := by decide +kernel
theorem d_Main_init_138 : decode b_Main_init 138 = .ok ((.invokespecial 74), 3) := by decide +kernel
theorem d_Main_init_141 : decode b_Main_init 141 = .ok ((.putfield 77), 3) := by decide +kernel
theorem d_Main_init_144 : decode b_Main_init 144 = .ok ((.aload_n 0), 1) := by decide +kernel
theorem d_Main_init_145 : decode b_Main_init 145 = .ok ((.iconst 0), 1) := by decide +kernel
theorem d_Main_init_146 : decode b_Main_init 146 = .ok ((.putfield 81), 3) := by decide +kernel
theorem d_Main_init_149 : decode b_Main_init 149 = .ok ((.aload_n 0), 1) := by decide +kernel
theorem d_Main_init_150 : decode b_Main_init 150 = .ok ((.iconst 0), 1) := by decide +kernel
theorem d_Main_init_151 : decode b_Main_init 151 = .ok ((.putfield 85), 3) := by decide +kernel
theorem d_Main_init_154 : decode b_Main_init 154 = .ok (.return_, 1) := by decide +kernel
theorem d_Main_primes_0 : decode b_Main_primes 0 = .ok ((.aload_n 0), 1) := by decide +kernel
theorem d_Main_primes_1 : decode b_Main_primes 1 = .ok ((.invokevirtual 128), 3) := by decide +kernel
theorem d_Main_primes_4 : decode b_Main_primes 4 = .ok ((.aload_n 0), 1) := by decide +kernel
theorem d_Main_primes_5 : decode b_Main_primes 5 = .ok ((.getfield 44), 3) := by decide +kernel
theorem d_Main_primes_8 : decode b_Main_primes 8 = .ok ((.invokevirtual 131), 3) := by decide +kernel
theorem d_Main_primes_11 : decode b_Main_primes 11 = .ok (.ireturn, 1) := by decide +kernel
theorem d_Main_renewPrimes_0 : decode b_Main_renewPrimes 0 = .ok ((.aload_n 0), 1) := by decide +kernel
theorem d_Main_renewPrimes_1 : decode b_Main_renewPrimes 1 = .ok ((.getfield 85), 3) := by decide +kernel
theorem d_Main_renewPrimes_4 : decode b_Main_renewPrimes 4 = .ok ((.ifCond .eq 23), 3) := by decide +kernel
theorem d_Main_renewPrimes_7 : decode b_Main_renewPrimes 7 = .ok ((.aload_n 0), 1) := by decide +kernel
theorem d_Main_renewPrimes_8 : decode b_Main_renewPrimes 8 = .ok ((.getfield 51), 3) := by decide +kernel
theorem d_Main_renewPrimes_11 : decode b_Main_renewPrimes 11 = .ok ((.aload_n 0), 1) := by decide +kernel
theorem d_Main_renewPrimes_12 : decode b_Main_renewPrimes 12 = .ok ((.getfield 35), 3) := by decide +kernel
theorem d_Main_renewPrimes_15 : decode b_Main_renewPrimes 15 = .ok ((.aload_n 0), 1) := by decide +kernel
theorem d_Main_renewPrimes_16 : decode b_Main_renewPrimes 16 = .ok ((.getfield 44), 3) := by decide +kernel
theorem d_Main_renewPrimes_19 : decode b_Main_renewPrimes 19 = .ok ((.invokevirtual 222), 3) := by decide +kernel
theorem d_Main_renewPrimes_22 : decode b_Main_renewPrimes 22 = .ok ((.aload_n 0), 1) := by decide +kernel
theorem d_Main_renewPrimes_23 : decode b_Main_renewPrimes 23 = .ok ((.iconst 0), 1) := by decide +kernel
theorem d_Main_renewPrimes_24 : decode b_Main_renewPrimes 24 = .ok ((.putfield 85), 3) := by decide +kernel
theorem d_Main_renewPrimes_27 : decode b_Main_renewPrimes 27 = .ok (.return_, 1) := by decide +kernel
theorem d_Main_tautology_0 : decode b_Main_tautology 0 = .ok ((.iconst 1), 1) := by decide +kernel
theorem d_Main_tautology_1 : decode b_Main_tautology 1 = .ok ((.iconst 1), 1) := by decide +kernel
theorem d_Main_tautology_2 : decode b_Main_tautology 2 = .ok ((.aload_n 0), 1) := by decide +kernel
theorem d_Main_tautology_3 : decode b_Main_tautology 3 = .ok ((.getfield 18), 3) := by decide +kernel
theorem d_Main_tautology_6 : decode b_Main_tautology 6 = .ok (.ishl, 1) := by decide +kernel
theorem d_Main_tautology_7 : decode b_Main_tautology 7 = .ok (.ishl, 1) := by decide +kernel
theorem d_Main_tautology_8 : decode b_Main_tautology 8 = .ok ((.iconst 1), 1) := by decide +kernel
theorem d_Main_tautology_9 : decode b_Main_tautology 9 = .ok (.isub, 1) := by decide +kernel
theorem d_Main_tautology_10 : decode b_Main_tautology 10 = .ok ((.istore_n 1), 1) := by decide +kernel
theorem d_Main_tautology_11 : decode b_Main_tautology 11 = .ok ((.iconst 0), 1) := by decide +kernel
theorem d_Main_tautology_12 : decode b_Main_tautology 12 = .ok ((.istore_n 2), 1) := by decide +kernel
theorem d_Main_tautology_13 : decode b_Main_tautology 13 = .ok ((.iload_n 2), 1) := by decide +kernel
theorem d_Main_tautology_14 : decode b_Main_tautology 14 = .ok ((.aload_n 0), 1) := by decide +kernel
theorem d_Main_tautology_15 : decode b_Main_tautology 15 = .ok ((.getfield 22), 3) := by decide +kernel
theorem d_Main_tautology_18 : decode b_Main_tautology 18 = .ok ((.if_icmp .ge 23), 3) := by decide +kernel
theorem d_Main_tautology_21 : decode b_Main_tautology 21 = .ok ((.aload_n 0), 1) := by decide +kernel
theorem d_Main_tautology_22 : decode b_Main_tautology 22 = .ok ((.getfield 35), 3) := by decide +kernel
theorem d_Main_tautology_25 : decode b_Main_tautology 25 = .ok ((.iload_n 2), 1) := by decide +kernel
theorem d_Main_tautology_26 : decode b_Main_tautology 26 = .ok ((.invokevirtual 165), 3) := by decide +kernel
theorem d_Main_tautology_29 : decode b_Main_tautology 29 = .ok ((.iload_n 1), 1) := by decide +kernel
theorem d_Main_tautology_30 : decode b_Main_tautology 30 = .ok ((.if_icmp .eq 5), 3) := by decide +kernel
theorem d_Main_tautology_33 : decode b_Main_tautology 33 = .ok ((.iconst 0), 1) := by decide +kernel
theorem d_Main_tautology_34 : decode b_Main_tautology 34 = .ok (.ireturn, 1) := by decide +kernel
theorem d_Main_tautology_35 : decode b_Main_tautology 35 = .ok ((.iinc 2 1), 3) := by decide +kernel
theorem d_Main_tautology_38 : decode b_Main_tautology 38 = .ok ((.goto (-25)), 3) := by decide +kernel
theorem d_Main_tautology_41 : decode b_Main_tautology 41 = .ok ((.iconst 1), 1) := by decide +kernel
theorem d_Main_tautology_42 : decode b_Main_tautology 42 = .ok (.ireturn, 1) := by decide +kernel
theorem d_Main_order_0 : decode b_Main_order 0 = .ok ((.iconst 0), 1) := by decide +kernel
theorem d_Main_order_1 : decode b_Main_order 1 = .ok ((.istore_n 1), 1) := by decide +kernel
theorem d_Main_order_2 : decode b_Main_order 2 = .ok ((.aload_n 0), 1) := by decide +kernel
theorem d_Main_order_3 : decode b_Main_order 3 = .ok ((.getfield 77), 3) := by decide +kernel
theorem d_Main_order_6 : decode b_Main_order 6 = .ok ((.iconst 0), 1) := by decide +kernel
theorem d_Main_order_7 : decode b_Main_order 7 = .ok ((.aload_n 0), 1) := by decide +kernel
theorem d_Main_order_8 : decode b_Main_order 8 = .ok ((.getfield 35), 3) := by decide +kernel
theorem d_Main_order_11 : decode b_Main_order 11 = .ok ((.invokevirtual 197), 3) := by decide +kernel
theorem d_Main_order_14 : decode b_Main_order 14 = .ok ((.istore_n 2), 1) := by decide +kernel
theorem d_Main_order_15 : decode b_Main_order 15 = .ok ((.iconst 1), 1) := by decide +kernel
theorem d_Main_order_16 : decode b_Main_order 16 = .ok ((.istore_n 3), 1) := by decide +kernel
theorem d_Main_order_17 : decode b_Main_order 17 = .ok ((.iload_n 3), 1) := by decide +kernel
theorem d_Main_order_18 : decode b_Main_order 18 = .ok ((.aload_n 0), 1) := by decide +kernel
theorem d_Main_order_19 : decode b_Main_order 19 = .ok ((.getfield 77), 3) := by decide +kernel
theorem d_Main_order_22 : decode b_Main_order 22 = .ok ((.invokevirtual 192), 3) := by decide +kernel
theorem d_Main_order_25 : decode b_Main_order 25 = .ok ((.if_icmp .ge 34), 3) := by decide +kernel
theorem d_Main_order_28 : decode b_Main_order 28 = .ok ((.aload_n 0), 1) := by decide +kernel
theorem d_Main_order_29 : decode b_Main_order 29 = .ok ((.getfield 77), 3) := by decide +kernel
theorem d_Main_order_32 : decode b_Main_order 32 = .ok ((.iload_n 3), 1) := by decide +kernel
theorem d_Main_order_33 : decode b_Main_order 33 = .ok ((.aload_n 0), 1) := by decide +kernel
theorem d_Main_order_34 : decode b_Main_order 34 = .ok ((.getfield 35), 3) := by decide +kernel
theorem d_Main_order_37 : decode b_Main_order 37 = .ok ((.invokevirtual 197), 3) := by decide +kernel
theorem d_Main_order_40 : decode b_Main_order 40 = .ok ((.istore 4), 2) := by decide +kernel
theorem d_Main_order_42 : decode b_Main_order 42 = .ok ((.iload 4), 2) := by decide +kernel
theorem d_Main_order_44 : decode b_Main_order 44 = .ok ((.iload_n 2), 1) := by decide +kernel
theorem d_Main_order_45 : decode b_Main_order 45 = .ok ((.if_icmp .ge 8), 3) := by decide +kernel
theorem d_Main_order_48 : decode b_Main_order 48 = .ok ((.iload 4), 2) := by decide +kernel
theorem d_Main_order_50 : decode b_Main_order 50 = .ok ((.istore_n 2), 1) := by decide +kernel
theorem d_Main_order_51 : decode b_Main_order 51 = .ok ((.iload_n 3), 1) := by decide +kernel
theorem d_Main_order_52 : decode b_Main_order 52 = .ok ((.istore_n 1), 1) := by decide +kernel
theorem d_Main_order_53 : decode b_Main_order 53 = .ok ((.iinc 3 1), 3) := by decide +kernel
theorem d_Main_order_56 : decode b_Main_order 56 = .ok ((.goto (-39)), 3) := by decide +kernel
theorem d_Main_order_59 : decode b_Main_order 59 = .ok ((.iload_n 1), 1) := by decide +kernel
theorem d_Main_order_60 : decode b_Main_order 60 = .ok (.ireturn, 1) := by decide +kernel
theorem d_Main_clear_0 : decode b_Main_clear 0 = .ok ((.aload_n 0), 1) := by decide +kernel
theorem d_Main_clear_1 : decode b_Main_clear 1 = .ok ((.getfield 35), 3) := by decide +kernel
theorem d_Main_clear_4 : decode b_Main_clear 4 = .ok ((.invokevirtual 211), 3) := by decide +kernel
theorem d_Main_clear_7 : decode b_Main_clear 7 = .ok ((.aload_n 0), 1) := by decide +kernel
theorem d_Main_clear_8 : decode b_Main_clear 8 = .ok ((.iconst 1), 1) := by decide +kernel
theorem d_Main_clear_9 : decode b_Main_clear 9 = .ok ((.putfield 85), 3) := by decide +kernel
theorem d_Main_clear_12 : decode b_Main_clear 12 = .ok ((.aload_n 0), 1) := by decide +kernel
theorem d_Main_clear_13 : decode b_Main_clear 13 = .ok ((.getfield 62), 3) := by decide +kernel
theorem d_Main_clear_16 : decode b_Main_clear 16 = .ok ((.invokevirtual 214), 3) := by decide +kernel
theorem d_Main_clear_19 : decode b_Main_clear 19 = .ok ((.aload_n 0), 1) := by decide +kernel
theorem d_Main_clear_20 : decode b_Main_clear 20 = .ok ((.iconst 0), 1) := by decide +kernel
theorem d_Main_clear_21 : decode b_Main_clear 21 = .ok ((.putfield 81), 3) := by decide +kernel
theorem d_Main_clear_24 : decode b_Main_clear 24 = .ok (.return_, 1) := by decide +kernel
theorem d_Main_cube_0 : decode b_Main_cube 0 = .ok ((.aload_n 0), 1) := by decide +kernel
theorem d_Main_cube_1 : decode b_Main_cube 1 = .ok ((.getfield 35), 3) := by decide +kernel
theorem d_Main_cube_4 : decode b_Main_cube 4 = .ok ((.invokevirtual 88), 3) := by decide +kernel
theorem d_Main_cube_7 : decode b_Main_cube 7 = .ok ((.ifCond .eq 13), 3) := by decide +kernel
theorem d_Main_cube_10 : decode b_Main_cube 10 = .ok ((.new 92), 3) := by decide +kernel
theorem d_Main_cube_13 : decode b_Main_cube 13 = .ok (.dup, 1) := by decide +kernel
theorem d_Main_cube_14 : decode b_Main_cube 14 = .ok ((.ldc 94), 2) := by decide +kernel
theorem d_Main_cube_16 : decode b_Main_cube 16 = .ok ((.invokespecial 96), 3) := by decide +kernel
theorem d_Main_cube_19 : decode b_Main_cube 19 = .ok (.athrow, 1) := by decide +kernel
theorem d_Main_cube_20 : decode b_Main_cube 20 = .ok ((.aload_n 0), 1) := by decide +kernel
theorem d_Main_cube_21 : decode b_Main_cube 21 = .ok ((.getfield 35), 3) := by decide +kernel
theorem d_Main_cube_24 : decode b_Main_cube 24 = .ok ((.invokevirtual 99), 3) := by decide +kernel
theorem d_Main_cube_27 : decode b_Main_cube 27 = .ok (.ireturn, 1) := by decide +kernel
theorem d_Main_literal_0 : decode b_Main_literal 0 = .ok ((.aload_n 0), 1) := by decide +kernel
theorem d_Main_literal_1 : decode b_Main_literal 1 = .ok ((.getfield 35), 3) := by decide +kernel
theorem d_Main_literal_4 : decode b_Main_literal 4 = .ok ((.iload_n 1), 1) := by decide +kernel
theorem d_Main_literal_5 : decode b_Main_literal 5 = .ok ((.invokevirtual 103), 3) := by decide +kernel
theorem d_Main_literal_8 : decode b_Main_literal 8 = .ok ((.ifCond .eq 15), 3) := by decide +kernel
theorem d_Main_literal_11 : decode b_Main_literal 11 = .ok ((.iload_n 2), 1) := by decide +kernel
theorem d_Main_literal_12 : decode b_Main_literal 12 = .ok ((.ifCond .lt 11), 3) := by decide +kernel
theorem d_Main_literal_15 : decode b_Main_literal 15 = .ok ((.iload_n 2), 1) := by decide +kernel
theorem d_Main_literal_16 : decode b_Main_literal 16 = .ok ((.aload_n 0), 1) := by decide +kernel
theorem d_Main_literal_17 : decode b_Main_literal 17 = .ok ((.getfield 18), 3) := by decide +kernel
theorem d_Main_literal_20 : decode b_Main_literal 20 = .ok ((.if_icmp .lt 13), 3) := by decide +kernel
theorem d_Main_literal_23 : decode b_Main_literal 23 = .ok ((.new 107), 3) := by decide +kernel
theorem d_Main_literal_26 : decode b_Main_literal 26 = .ok (.dup, 1) := by decide +kernel
theorem d_Main_literal_27 : decode b_Main_literal 27 = .ok ((.ldc 109), 2) := by decide +kernel
theorem d_Main_literal_29 : decode b_Main_literal 29 = .ok ((.invokespecial 111), 3) := by decide +kernel
theorem d_Main_literal_32 : decode b_Main_literal 32 = .ok (.athrow, 1) := by decide +kernel
theorem d_Main_literal_33 : decode b_Main_literal 33 = .ok ((.iload_n 3), 1) := by decide +kernel
theorem d_Main_literal_34 : decode b_Main_literal 34 = .ok ((.ifCond .lt 8), 3) := by decide +kernel
theorem d_Main_literal_37 : decode b_Main_literal 37 = .ok ((.iload_n 3), 1) := by decide +kernel
theorem d_Main_literal_38 : decode b_Main_literal 38 = .ok ((.iconst 2), 1) := by decide +kernel
theorem d_Main_literal_39 : decode b_Main_literal 39 = .ok ((.if_icmp .le 13), 3) := by decide +kernel
theorem d_Main_literal_42 : decode b_Main_literal 42 = .ok ((.new 112), 3) := by decide +kernel
theorem d_Main_literal_45 : decode b_Main_literal 45 = .ok (.dup, 1) := by decide +kernel
theorem d_Main_literal_46 : decode b_Main_literal 46 = .ok ((.ldc 114), 2) := by decide +kernel
theorem d_Main_literal_48 : decode b_Main_literal 48 = .ok ((.invokespecial 116), 3) := by decide +kernel
theorem d_Main_literal_51 : decode b_Main_literal 51 = .ok (.athrow, 1) := by decide +kernel
theorem d_Main_literal_52 : decode b_Main_literal 52 = .ok ((.aload_n 0), 1) := by decide +kernel
theorem d_Main_literal_53 : decode b_Main_literal 53 = .ok ((.getfield 35), 3) := by decide +kernel
theorem d_Main_literal_56 : decode b_Main_literal 56 = .ok ((.iload_n 1), 1) := by decide +kernel
theorem d_Main_literal_57 : decode b_Main_literal 57 = .ok ((.iload_n 2), 1) := by decide +kernel
theorem d_Main_literal_58 : decode b_Main_literal 58 = .ok ((.iload_n 3), 1) := by decide +kernel
theorem d_Main_literal_59 : decode b_Main_literal 59 = .ok ((.invokevirtual 117), 3) := by decide +kernel
theorem d_Main_literal_62 : decode b_Main_literal 62 = .ok ((.istore 4), 2) := by decide +kernel
theorem d_Main_literal_64 : decode b_Main_literal 64 = .ok ((.aload_n 0), 1) := by decide +kernel
theorem d_Main_literal_65 : decode b_Main_literal 65 = .ok ((.aload_n 0), 1) := by decide +kernel
theorem d_Main_literal_66 : decode b_Main_literal 66 = .ok ((.getfield 85), 3) := by decide +kernel
theorem d_Main_literal_69 : decode b_Main_literal 69 = .ok ((.ifCond .ne 8), 3) := by decide +kernel
theorem d_Main_literal_72 : decode b_Main_literal 72 = .ok ((.iload 4), 2) := by decide +kernel
theorem d_Main_literal_74 : decode b_Main_literal 74 = .ok ((.ifCond .eq 7), 3) := by decide +kernel
theorem d_Main_literal_77 : decode b_Main_literal 77 = .ok ((.iconst 1), 1) := by decide +kernel
theorem d_Main_literal_78 : decode b_Main_literal 78 = .ok ((.goto 4), 3) := by decide +kernel
theorem d_Main_literal_81 : decode b_Main_literal 81 = .ok ((.iconst 0), 1) := by decide +kernel
theorem d_Main_literal_82 : decode b_Main_literal 82 = .ok ((.putfield 85), 3) := by decide +kernel
theorem d_Main_literal_85 : decode b_Main_literal 85 = .ok ((.iload 4), 2) := by decide +kernel
theorem d_Main_literal_87 : decode b_Main_literal 87 = .ok (.ireturn, 1) := by decide +kernel
theorem d_Main_to_0 : decode b_Main_to 0 = .ok ((.aload_n 0), 1) := by decide +kernel
theorem d_Main_to_1 : decode b_Main_to 1 = .ok ((.getfield 35), 3) := by decide +kernel
theorem d_Main_to_4 : decode b_Main_to 4 = .ok ((.iload_n 1), 1) := by decide +kernel
theorem d_Main_to_5 : decode b_Main_to 5 = .ok ((.invokevirtual 103), 3) := by decide +kernel
theorem d_Main_to_8 : decode b_Main_to 8 = .ok ((.ifCond .eq 15), 3) := by decide +kernel
theorem d_Main_to_11 : decode b_Main_to 11 = .ok ((.iload_n 2), 1) := by decide +kernel
theorem d_Main_to_12 : decode b_Main_to 12 = .ok ((.ifCond .lt 11), 3) := by decide +kernel
theorem d_Main_to_15 : decode b_Main_to 15 = .ok ((.iload_n 2), 1) := by decide +kernel
theorem d_Main_to_16 : decode b_Main_to 16 = .ok ((.aload_n 0), 1) := by decide +kernel
theorem d_Main_to_17 : decode b_Main_to 17 = .ok ((.getfield 22), 3) := by decide +kernel
theorem d_Main_to_20 : decode b_Main_to 20 = .ok ((.if_icmp .lt 13), 3) := by decide +kernel
theorem d_Main_to_23 : decode b_Main_to 23 = .ok ((.new 107), 3) := by decide +kernel
theorem d_Main_to_26 : decode b_Main_to 26 = .ok (.dup, 1) := by decide +kernel
theorem d_Main_to_27 : decode b_Main_to 27 = .ok ((.ldc 121), 2) := by decide +kernel
theorem d_Main_to_29 : decode b_Main_to 29 = .ok ((.invokespecial 111), 3) := by decide +kernel
theorem d_Main_to_32 : decode b_Main_to 32 = .ok (.athrow, 1) := by decide +kernel
theorem d_Main_to_33 : decode b_Main_to 33 = .ok ((.iload_n 3), 1) := by decide +kernel
theorem d_Main_to_34 : decode b_Main_to 34 = .ok ((.ifCond .lt 8), 3) := by decide +kernel
theorem d_Main_to_37 : decode b_Main_to 37 = .ok ((.iload_n 3), 1) := by decide +kernel
theorem d_Main_to_38 : decode b_Main_to 38 = .ok ((.iconst 2), 1) := by decide +kernel
theorem d_Main_to_39 : decode b_Main_to 39 = .ok ((.if_icmp .le 13), 3) := by decide +kernel
theorem d_Main_to_42 : decode b_Main_to 42 = .ok ((.new 112), 3) := by decide +kernel
theorem d_Main_to_45 : decode b_Main_to 45 = .ok (.dup, 1) := by decide +kernel
theorem d_Main_to_46 : decode b_Main_to 46 = .ok ((.ldc 123), 2) := by decide +kernel
theorem d_Main_to_48 : decode b_Main_to 48 = .ok ((.invokespecial 116), 3) := by decide +kernel
theorem d_Main_to_51 : decode b_Main_to 51 = .ok (.athrow, 1) := by decide +kernel
theorem d_Main_to_52 : decode b_Main_to 52 = .ok ((.aload_n 0), 1) := by decide +kernel
theorem d_Main_to_53 : decode b_Main_to 53 = .ok ((.getfield 35), 3) := by decide +kernel
theorem d_Main_to_56 : decode b_Main_to 56 = .ok ((.iload_n 1), 1) := by decide +kernel
theorem d_Main_to_57 : decode b_Main_to 57 = .ok ((.iload_n 2), 1) := by decide +kernel
theorem d_Main_to_58 : decode b_Main_to 58 = .ok ((.iload_n 3), 1) := by decide +kernel
theorem d_Main_to_59 : decode b_Main_to 59 = .ok ((.invokevirtual 125), 3) := by decide +kernel
theorem d_Main_to_62 : decode b_Main_to 62 = .ok ((.istore 4), 2) := by decide +kernel
theorem d_Main_to_64 : decode b_Main_to 64 = .ok ((.aload_n 0), 1) := by decide +kernel
theorem d_Main_to_65 : decode b_Main_to 65 = .ok ((.aload_n 0), 1) := by decide +kernel
theorem d_Main_to_66 : decode b_Main_to 66 = .ok ((.getfield 85), 3) := by decide +kernel
theorem d_Main_to_69 : decode b_Main_to 69 = .ok ((.ifCond .ne 8), 3) := by decide +kernel
theorem d_Main_to_72 : decode b_Main_to 72 = .ok ((.iload 4), 2) := by decide +kernel
theorem d_Main_to_74 : decode b_Main_to 74 = .ok ((.ifCond .eq 7), 3) := by decide +kernel
theorem d_Main_to_77 : decode b_Main_to 77 = .ok ((.iconst 1), 1) := by decide +kernel
theorem d_Main_to_78 : decode b_Main_to 78 = .ok ((.goto 4), 3) := by decide +kernel
theorem d_Main_to_81 : decode b_Main_to 81 = .ok ((.iconst 0), 1) := by decide +kernel
theorem d_Main_to_82 : decode b_Main_to 82 = .ok ((.putfield 85), 3) := by decide +kernel
theorem d_Main_to_85 : decode b_Main_to 85 = .ok ((.iload 4), 2) := by decide +kernel
theorem d_Main_to_87 : decode b_Main_to 87 = .ok (.ireturn, 1) := by decide +kernel
theorem d_Main_prime_0 : decode b_Main_prime 0 = .ok ((.aload_n 0), 1) := by decide +kernel
theorem d_Main_prime_1 : decode b_Main_prime 1 = .ok ((.invokevirtual 128), 3) := by decide +kernel
theorem d_Main_prime_4 : decode b_Main_prime 4 = .ok ((.aload_n 0), 1) := by decide +kernel
theorem d_Main_prime_5 : decode b_Main_prime 5 = .ok ((.getfield 44), 3) := by decide +kernel
theorem d_Main_prime_8 : decode b_Main_prime 8 = .ok ((.iload_n 1), 1) := by decide +kernel
theorem d_Main_prime_9 : decode b_Main_prime 9 = .ok ((.invokevirtual 134), 3) := by decide +kernel
theorem d_Main_prime_12 : decode b_Main_prime 12 = .ok ((.ifCond .eq 11), 3) := by decide +kernel
theorem d_Main_prime_15 : decode b_Main_prime 15 = .ok ((.aload_n 0), 1) := by decide +kernel
theorem d_Main_prime_16 : decode b_Main_prime 16 = .ok ((.iload_n 2), 1) := by decide +kernel
theorem d_Main_prime_17 : decode b_Main_prime 17 = .ok ((.invokevirtual 135), 3) := by decide +kernel
theorem d_Main_prime_20 : decode b_Main_prime 20 = .ok ((.ifCond .ne 13), 3) := by decide +kernel
theorem d_Main_prime_23 : decode b_Main_prime 23 = .ok ((.new 107), 3) := by decide +kernel
theorem d_Main_prime_26 : decode b_Main_prime 26 = .ok (.dup, 1) := by decide +kernel
theorem d_Main_prime_27 : decode b_Main_prime 27 = .ok ((.ldc 138), 2) := by decide +kernel
theorem d_Main_prime_29 : decode b_Main_prime 29 = .ok ((.invokespecial 111), 3) := by decide +kernel
theorem d_Main_prime_32 : decode b_Main_prime 32 = .ok (.athrow, 1) := by decide +kernel
theorem d_Main_prime_33 : decode b_Main_prime 33 = .ok ((.aload_n 0), 1) := by decide +kernel
theorem d_Main_prime_34 : decode b_Main_prime 34 = .ok ((.getfield 44), 3) := by decide +kernel
theorem d_Main_prime_37 : decode b_Main_prime 37 = .ok ((.iload_n 1), 1) := by decide +kernel
theorem d_Main_prime_38 : decode b_Main_prime 38 = .ok ((.iload_n 2), 1) := by decide +kernel
theorem d_Main_prime_39 : decode b_Main_prime 39 = .ok ((.invokevirtual 140), 3) := by decide +kernel
theorem d_Main_prime_42 : decode b_Main_prime 42 = .ok (.ireturn, 1) := by decide +kernel
theorem d_Main_isColumn_0 : decode b_Main_isColumn 0 = .ok ((.iload_n 1), 1) := by decide +kernel
theorem d_Main_isColumn_1 : decode b_Main_isColumn 1 = .ok ((.ifCond .lt 20), 3) := by decide +kernel
theorem d_Main_isColumn_4 : decode b_Main_isColumn 4 = .ok ((.iload_n 1), 1) := by decide +kernel
theorem d_Main_isColumn_5 : decode b_Main_isColumn 5 = .ok ((.aload_n 0), 1) := by decide +kernel
theorem d_Main_isColumn_6 : decode b_Main_isColumn 6 = .ok ((.getfield 18), 3) := by decide +kernel
theorem d_Main_isColumn_9 : decode b_Main_isColumn 9 = .ok ((.aload_n 0), 1) := by decide +kernel
theorem d_Main_isColumn_10 : decode b_Main_isColumn 10 = .ok ((.getfield 22), 3) := by decide +kernel
theorem d_Main_isColumn_13 : decode b_Main_isColumn 13 = .ok (.iadd, 1) := by decide +kernel
theorem d_Main_isColumn_14 : decode b_Main_isColumn 14 = .ok ((.if_icmp .ge 7), 3) := by decide +kernel
theorem d_Main_isColumn_17 : decode b_Main_isColumn 17 = .ok ((.iconst 1), 1) := by decide +kernel
theorem d_Main_isColumn_18 : decode b_Main_isColumn 18 = .ok ((.goto 4), 3) := by decide +kernel
theorem d_Main_isColumn_21 : decode b_Main_isColumn 21 = .ok ((.iconst 0), 1) := by decide +kernel
theorem d_Main_isColumn_22 : decode b_Main_isColumn 22 = .ok (.ireturn, 1) := by decide +kernel
theorem d_Main_run_0 : decode b_Main_run 0 = .ok ((.lload_n 2), 1) := by decide +kernel
theorem d_Main_run_1 : decode b_Main_run 1 = .ok ((.lconst 0), 1) := by decide +kernel
theorem d_Main_run_2 : decode b_Main_run 2 = .ok (.lcmp, 1) := by decide +kernel
theorem d_Main_run_3 : decode b_Main_run 3 = .ok ((.ifCond .ge 13), 3) := by decide +kernel
theorem d_Main_run_6 : decode b_Main_run 6 = .ok ((.new 112), 3) := by decide +kernel
theorem d_Main_run_9 : decode b_Main_run 9 = .ok (.dup, 1) := by decide +kernel
theorem d_Main_run_10 : decode b_Main_run 10 = .ok ((.ldc 143), 2) := by decide +kernel
theorem d_Main_run_12 : decode b_Main_run 12 = .ok ((.invokespecial 116), 3) := by decide +kernel
theorem d_Main_run_15 : decode b_Main_run 15 = .ok (.athrow, 1) := by decide +kernel
theorem d_Main_run_16 : decode b_Main_run 16 = .ok ((.aload_n 0), 1) := by decide +kernel
theorem d_Main_run_17 : decode b_Main_run 17 = .ok ((.invokevirtual 128), 3) := by decide +kernel
theorem d_Main_run_20 : decode b_Main_run 20 = .ok ((.aload_n 0), 1) := by decide +kernel
theorem d_Main_run_21 : decode b_Main_run 21 = .ok ((.getfield 44), 3) := by decide +kernel
theorem d_Main_run_24 : decode b_Main_run 24 = .ok ((.invokevirtual 131), 3) := by decide +kernel
theorem d_Main_run_27 : decode b_Main_run 27 = .ok (.i2l, 1) := by decide +kernel
theorem d_Main_run_28 : decode b_Main_run 28 = .ok ((.lload_n 2), 1) := by decide +kernel
theorem d_Main_run_29 : decode b_Main_run 29 = .ok (.lcmp, 1) := by decide +kernel
theorem d_Main_run_30 : decode b_Main_run 30 = .ok ((.ifCond .le 5), 3) := by decide +kernel
theorem d_Main_run_33 : decode b_Main_run 33 = .ok ((.iconst (-1)), 1) := by decide +kernel
theorem d_Main_run_34 : decode b_Main_run 34 = .ok (.ireturn, 1) := by decide +kernel
theorem d_Main_run_35 : decode b_Main_run 35 = .ok ((.aload_n 0), 1) := by decide +kernel
theorem d_Main_run_36 : decode b_Main_run 36 = .ok ((.getfield 58), 3) := by decide +kernel
theorem d_Main_run_39 : decode b_Main_run 39 = .ok ((.aload_n 0), 1) := by decide +kernel
theorem d_Main_run_40 : decode b_Main_run 40 = .ok ((.getfield 44), 3) := by decide +kernel
theorem d_Main_run_43 : decode b_Main_run 43 = .ok ((.aload_n 0), 1) := by decide +kernel
theorem d_Main_run_44 : decode b_Main_run 44 = .ok ((.getfield 35), 3) := by decide +kernel
theorem d_Main_run_47 : decode b_Main_run 47 = .ok ((.iload_n 1), 1) := by decide +kernel
theorem d_Main_run_48 : decode b_Main_run 48 = .ok ((.invokevirtual 145), 3) := by decide +kernel
theorem d_Main_run_51 : decode b_Main_run 51 = .ok ((.aload_n 0), 1) := by decide +kernel
theorem d_Main_run_52 : decode b_Main_run 52 = .ok ((.getfield 62), 3) := by decide +kernel
theorem d_Main_run_55 : decode b_Main_run 55 = .ok ((.aload_n 0), 1) := by decide +kernel
theorem d_Main_run_56 : decode b_Main_run 56 = .ok ((.getfield 44), 3) := by decide +kernel
theorem d_Main_run_59 : decode b_Main_run 59 = .ok ((.aload_n 0), 1) := by decide +kernel
theorem d_Main_run_60 : decode b_Main_run 60 = .ok ((.getfield 58), 3) := by decide +kernel
theorem d_Main_run_63 : decode b_Main_run 63 = .ok ((.invokevirtual 149), 3) := by decide +kernel
theorem d_Main_run_66 : decode b_Main_run 66 = .ok ((.invokevirtual 153), 3) := by decide +kernel
theorem d_Main_run_69 : decode b_Main_run 69 = .ok ((.aload_n 0), 1) := by decide +kernel
theorem d_Main_run_70 : decode b_Main_run 70 = .ok ((.iconst 1), 1) := by decide +kernel
theorem d_Main_run_71 : decode b_Main_run 71 = .ok ((.putfield 81), 3) := by decide +kernel
theorem d_Main_run_74 : decode b_Main_run 74 = .ok ((.aload_n 0), 1) := by decide +kernel
theorem d_Main_run_75 : decode b_Main_run 75 = .ok ((.getfield 68), 3) := by decide +kernel
theorem d_Main_run_78 : decode b_Main_run 78 = .ok ((.invokevirtual 157), 3) := by decide +kernel
theorem d_Main_run_81 : decode b_Main_run 81 = .ok ((.aload_n 0), 1) := by decide +kernel
theorem d_Main_run_82 : decode b_Main_run 82 = .ok ((.getfield 62), 3) := by decide +kernel
theorem d_Main_run_85 : decode b_Main_run 85 = .ok ((.invokevirtual 131), 3) := by decide +kernel
theorem d_Main_run_88 : decode b_Main_run 88 = .ok (.ireturn, 1) := by decide +kernel
theorem d_Main_at_0 : decode b_Main_at 0 = .ok ((.aload_n 0), 1) := by decide +kernel
theorem d_Main_at_1 : decode b_Main_at 1 = .ok ((.invokevirtual 160), 3) := by decide +kernel
theorem d_Main_at_4 : decode b_Main_at 4 = .ok ((.aload_n 0), 1) := by decide +kernel
theorem d_Main_at_5 : decode b_Main_at 5 = .ok ((.getfield 62), 3) := by decide +kernel
theorem d_Main_at_8 : decode b_Main_at 8 = .ok ((.iload_n 1), 1) := by decide +kernel
theorem d_Main_at_9 : decode b_Main_at 9 = .ok ((.invokevirtual 134), 3) := by decide +kernel
theorem d_Main_at_12 : decode b_Main_at 12 = .ok ((.ifCond .eq 11), 3) := by decide +kernel
theorem d_Main_at_15 : decode b_Main_at 15 = .ok ((.aload_n 0), 1) := by decide +kernel
theorem d_Main_at_16 : decode b_Main_at 16 = .ok ((.iload_n 2), 1) := by decide +kernel
theorem d_Main_at_17 : decode b_Main_at 17 = .ok ((.invokevirtual 135), 3) := by decide +kernel
theorem d_Main_at_20 : decode b_Main_at 20 = .ok ((.ifCond .ne 13), 3) := by decide +kernel
theorem d_Main_at_23 : decode b_Main_at 23 = .ok ((.new 107), 3) := by decide +kernel
theorem d_Main_at_26 : decode b_Main_at 26 = .ok (.dup, 1) := by decide +kernel
theorem d_Main_at_27 : decode b_Main_at 27 = .ok ((.ldc 163), 2) := by decide +kernel
theorem d_Main_at_29 : decode b_Main_at 29 = .ok ((.invokespecial 111), 3) := by decide +kernel
theorem d_Main_at_32 : decode b_Main_at 32 = .ok (.athrow, 1) := by decide +kernel
theorem d_Main_at_33 : decode b_Main_at 33 = .ok ((.aload_n 0), 1) := by decide +kernel
theorem d_Main_at_34 : decode b_Main_at 34 = .ok ((.getfield 62), 3) := by decide +kernel
theorem d_Main_at_37 : decode b_Main_at 37 = .ok ((.iload_n 1), 1) := by decide +kernel
theorem d_Main_at_38 : decode b_Main_at 38 = .ok ((.iload_n 2), 1) := by decide +kernel
theorem d_Main_at_39 : decode b_Main_at 39 = .ok ((.invokevirtual 140), 3) := by decide +kernel
theorem d_Main_at_42 : decode b_Main_at 42 = .ok (.ireturn, 1) := by decide +kernel
theorem d_Main_needKept_0 : decode b_Main_needKept 0 = .ok ((.aload_n 0), 1) := by decide +kernel
theorem d_Main_needKept_1 : decode b_Main_needKept 1 = .ok ((.getfield 81), 3) := by decide +kernel
theorem d_Main_needKept_4 : decode b_Main_needKept 4 = .ok ((.ifCond .ne 13), 3) := by decide +kernel
theorem d_Main_needKept_7 : decode b_Main_needKept 7 = .ok ((.new 215), 3) := by decide +kernel
theorem d_Main_needKept_10 : decode b_Main_needKept 10 = .ok (.dup, 1) := by decide +kernel
theorem d_Main_needKept_11 : decode b_Main_needKept 11 = .ok ((.ldc 217), 2) := by decide +kernel
theorem d_Main_needKept_13 : decode b_Main_needKept 13 = .ok ((.invokespecial 219), 3) := by decide +kernel
theorem d_Main_needKept_16 : decode b_Main_needKept 16 = .ok (.athrow, 1) := by decide +kernel
theorem d_Main_needKept_17 : decode b_Main_needKept 17 = .ok (.return_, 1) := by decide +kernel
theorem d_Main_cost_0 : decode b_Main_cost 0 = .ok ((.aload_n 0), 1) := by decide +kernel
theorem d_Main_cost_1 : decode b_Main_cost 1 = .ok ((.invokevirtual 160), 3) := by decide +kernel
theorem d_Main_cost_4 : decode b_Main_cost 4 = .ok ((.lconst 0), 1) := by decide +kernel
theorem d_Main_cost_5 : decode b_Main_cost 5 = .ok ((.lstore_n 1), 1) := by decide +kernel
theorem d_Main_cost_6 : decode b_Main_cost 6 = .ok ((.iconst 0), 1) := by decide +kernel
theorem d_Main_cost_7 : decode b_Main_cost 7 = .ok ((.istore_n 3), 1) := by decide +kernel
theorem d_Main_cost_8 : decode b_Main_cost 8 = .ok ((.iload_n 3), 1) := by decide +kernel
theorem d_Main_cost_9 : decode b_Main_cost 9 = .ok ((.aload_n 0), 1) := by decide +kernel
theorem d_Main_cost_10 : decode b_Main_cost 10 = .ok ((.getfield 62), 3) := by decide +kernel
theorem d_Main_cost_13 : decode b_Main_cost 13 = .ok ((.invokevirtual 131), 3) := by decide +kernel
theorem d_Main_cost_16 : decode b_Main_cost 16 = .ok ((.if_icmp .ge 21), 3) := by decide +kernel
theorem d_Main_cost_19 : decode b_Main_cost 19 = .ok ((.lload_n 1), 1) := by decide +kernel
theorem d_Main_cost_20 : decode b_Main_cost 20 = .ok ((.aload_n 0), 1) := by decide +kernel
theorem d_Main_cost_21 : decode b_Main_cost 21 = .ok ((.getfield 62), 3) := by decide +kernel
theorem d_Main_cost_24 : decode b_Main_cost 24 = .ok ((.iload_n 3), 1) := by decide +kernel
theorem d_Main_cost_25 : decode b_Main_cost 25 = .ok ((.invokevirtual 169), 3) := by decide +kernel
theorem d_Main_cost_28 : decode b_Main_cost 28 = .ok (.i2l, 1) := by decide +kernel
theorem d_Main_cost_29 : decode b_Main_cost 29 = .ok (.ladd, 1) := by decide +kernel
theorem d_Main_cost_30 : decode b_Main_cost 30 = .ok ((.lstore_n 1), 1) := by decide +kernel
theorem d_Main_cost_31 : decode b_Main_cost 31 = .ok ((.iinc 3 1), 3) := by decide +kernel
theorem d_Main_cost_34 : decode b_Main_cost 34 = .ok ((.goto (-26)), 3) := by decide +kernel
theorem d_Main_cost_37 : decode b_Main_cost 37 = .ok ((.lload_n 1), 1) := by decide +kernel
theorem d_Main_cost_38 : decode b_Main_cost 38 = .ok (.lreturn, 1) := by decide +kernel
theorem d_Main_kernels_0 : decode b_Main_kernels 0 = .ok ((.aload_n 0), 1) := by decide +kernel
theorem d_Main_kernels_1 : decode b_Main_kernels 1 = .ok ((.invokevirtual 160), 3) := by decide +kernel
theorem d_Main_kernels_4 : decode b_Main_kernels 4 = .ok ((.aload_n 0), 1) := by decide +kernel
theorem d_Main_kernels_5 : decode b_Main_kernels 5 = .ok ((.getfield 68), 3) := by decide +kernel
theorem d_Main_kernels_8 : decode b_Main_kernels 8 = .ok ((.aload_n 0), 1) := by decide +kernel
theorem d_Main_kernels_9 : decode b_Main_kernels 9 = .ok ((.getfield 62), 3) := by decide +kernel
theorem d_Main_kernels_12 : decode b_Main_kernels 12 = .ok ((.invokevirtual 172), 3) := by decide +kernel
theorem d_Main_kernels_15 : decode b_Main_kernels 15 = .ok (.ireturn, 1) := by decide +kernel
theorem d_Main_divide_0 : decode b_Main_divide 0 = .ok ((.aload_n 0), 1) := by decide +kernel
theorem d_Main_divide_1 : decode b_Main_divide 1 = .ok ((.invokevirtual 160), 3) := by decide +kernel
theorem d_Main_divide_4 : decode b_Main_divide 4 = .ok ((.iload_n 1), 1) := by decide +kernel
theorem d_Main_divide_5 : decode b_Main_divide 5 = .ok ((.ifCond .eq 17), 3) := by decide +kernel
theorem d_Main_divide_8 : decode b_Main_divide 8 = .ok ((.iload_n 1), 1) := by decide +kernel
theorem d_Main_divide_9 : decode b_Main_divide 9 = .ok ((.aload_n 0), 1) := by decide +kernel
theorem d_Main_divide_10 : decode b_Main_divide 10 = .ok ((.getfield 62), 3) := by decide +kernel
theorem d_Main_divide_13 : decode b_Main_divide 13 = .ok ((.invokevirtual 131), 3) := by decide +kernel
theorem d_Main_divide_16 : decode b_Main_divide 16 = .ok ((.invokestatic 176), 3) := by decide +kernel
theorem d_Main_divide_19 : decode b_Main_divide 19 = .ok ((.ifCond .eq 13), 3) := by decide +kernel
theorem d_Main_divide_22 : decode b_Main_divide 22 = .ok ((.new 112), 3) := by decide +kernel
theorem d_Main_divide_25 : decode b_Main_divide 25 = .ok (.dup, 1) := by decide +kernel
theorem d_Main_divide_26 : decode b_Main_divide 26 = .ok ((.ldc 180), 2) := by decide +kernel
theorem d_Main_divide_28 : decode b_Main_divide 28 = .ok ((.invokespecial 116), 3) := by decide +kernel
theorem d_Main_divide_31 : decode b_Main_divide 31 = .ok (.athrow, 1) := by decide +kernel
theorem d_Main_divide_32 : decode b_Main_divide 32 = .ok ((.aload_n 0), 1) := by decide +kernel
theorem d_Main_divide_33 : decode b_Main_divide 33 = .ok ((.getfield 68), 3) := by decide +kernel
theorem d_Main_divide_36 : decode b_Main_divide 36 = .ok ((.aload_n 0), 1) := by decide +kernel
theorem d_Main_divide_37 : decode b_Main_divide 37 = .ok ((.getfield 62), 3) := by decide +kernel
theorem d_Main_divide_40 : decode b_Main_divide 40 = .ok ((.iload_n 1), 1) := by decide +kernel
theorem d_Main_divide_41 : decode b_Main_divide 41 = .ok ((.invokevirtual 182), 3) := by decide +kernel
theorem d_Main_divide_44 : decode b_Main_divide 44 = .ok (.ireturn, 1) := by decide +kernel
theorem d_Main_hasBitFrom_0 : decode b_Main_hasBitFrom 0 = .ok ((.iload_n 1), 1) := by decide +kernel
theorem d_Main_hasBitFrom_1 : decode b_Main_hasBitFrom 1 = .ok ((.bipush 32), 2) := by decide +kernel
theorem d_Main_hasBitFrom_3 : decode b_Main_hasBitFrom 3 = .ok ((.if_icmp .ge 13), 3) := by decide +kernel
theorem d_Main_hasBitFrom_6 : decode b_Main_hasBitFrom 6 = .ok ((.iload_n 0), 1) := by decide +kernel
theorem d_Main_hasBitFrom_7 : decode b_Main_hasBitFrom 7 = .ok ((.iload_n 1), 1) := by decide +kernel
theorem d_Main_hasBitFrom_8 : decode b_Main_hasBitFrom 8 = .ok (.iushr, 1) := by decide +kernel
theorem d_Main_hasBitFrom_9 : decode b_Main_hasBitFrom 9 = .ok ((.ifCond .eq 7), 3) := by decide +kernel
theorem d_Main_hasBitFrom_12 : decode b_Main_hasBitFrom 12 = .ok ((.iconst 1), 1) := by decide +kernel
theorem d_Main_hasBitFrom_13 : decode b_Main_hasBitFrom 13 = .ok ((.goto 4), 3) := by decide +kernel
theorem d_Main_hasBitFrom_16 : decode b_Main_hasBitFrom 16 = .ok ((.iconst 0), 1) := by decide +kernel
theorem d_Main_hasBitFrom_17 : decode b_Main_hasBitFrom 17 = .ok (.ireturn, 1) := by decide +kernel
theorem d_Main_quotient_0 : decode b_Main_quotient 0 = .ok ((.aload_n 0), 1) := by decide +kernel
theorem d_Main_quotient_1 : decode b_Main_quotient 1 = .ok ((.getfield 68), 3) := by decide +kernel
theorem d_Main_quotient_4 : decode b_Main_quotient 4 = .ok ((.iload_n 1), 1) := by decide +kernel
theorem d_Main_quotient_5 : decode b_Main_quotient 5 = .ok ((.invokevirtual 186), 3) := by decide +kernel
theorem d_Main_quotient_8 : decode b_Main_quotient 8 = .ok ((.ifCond .ne 13), 3) := by decide +kernel
theorem d_Main_quotient_11 : decode b_Main_quotient 11 = .ok ((.new 107), 3) := by decide +kernel
theorem d_Main_quotient_14 : decode b_Main_quotient 14 = .ok (.dup, 1) := by decide +kernel
theorem d_Main_quotient_15 : decode b_Main_quotient 15 = .ok ((.ldc 187), 2) := by decide +kernel
theorem d_Main_quotient_17 : decode b_Main_quotient 17 = .ok ((.invokespecial 111), 3) := by decide +kernel
theorem d_Main_quotient_20 : decode b_Main_quotient 20 = .ok (.athrow, 1) := by decide +kernel
theorem d_Main_quotient_21 : decode b_Main_quotient 21 = .ok ((.aload_n 0), 1) := by decide +kernel
theorem d_Main_quotient_22 : decode b_Main_quotient 22 = .ok ((.getfield 68), 3) := by decide +kernel
theorem d_Main_quotient_25 : decode b_Main_quotient 25 = .ok ((.iload_n 1), 1) := by decide +kernel
theorem d_Main_quotient_26 : decode b_Main_quotient 26 = .ok ((.invokevirtual 189), 3) := by decide +kernel
theorem d_Main_quotient_29 : decode b_Main_quotient 29 = .ok (.ireturn, 1) := by decide +kernel
theorem d_Main_diagram_0 : decode b_Main_diagram 0 = .ok ((.iload_n 1), 1) := by decide +kernel
theorem d_Main_diagram_1 : decode b_Main_diagram 1 = .ok ((.ifCond .lt 14), 3) := by decide +kernel
theorem d_Main_diagram_4 : decode b_Main_diagram 4 = .ok ((.iload_n 1), 1) := by decide +kernel
theorem d_Main_diagram_5 : decode b_Main_diagram 5 = .ok ((.aload_n 0), 1) := by decide +kernel
theorem d_Main_diagram_6 : decode b_Main_diagram 6 = .ok ((.getfield 77), 3) := by decide +kernel
theorem d_Main_diagram_9 : decode b_Main_diagram 9 = .ok ((.invokevirtual 192), 3) := by decide +kernel
theorem d_Main_diagram_12 : decode b_Main_diagram 12 = .ok ((.if_icmp .lt 13), 3) := by decide +kernel
theorem d_Main_diagram_15 : decode b_Main_diagram 15 = .ok ((.new 112), 3) := by decide +kernel
theorem d_Main_diagram_18 : decode b_Main_diagram 18 = .ok (.dup, 1) := by decide +kernel
theorem d_Main_diagram_19 : decode b_Main_diagram 19 = .ok ((.ldc 195), 2) := by decide +kernel
theorem d_Main_diagram_21 : decode b_Main_diagram 21 = .ok ((.invokespecial 116), 3) := by decide +kernel
theorem d_Main_diagram_24 : decode b_Main_diagram 24 = .ok (.athrow, 1) := by decide +kernel
theorem d_Main_diagram_25 : decode b_Main_diagram 25 = .ok ((.aload_n 0), 1) := by decide +kernel
theorem d_Main_diagram_26 : decode b_Main_diagram 26 = .ok ((.getfield 77), 3) := by decide +kernel
theorem d_Main_diagram_29 : decode b_Main_diagram 29 = .ok ((.iload_n 1), 1) := by decide +kernel
theorem d_Main_diagram_30 : decode b_Main_diagram 30 = .ok ((.aload_n 0), 1) := by decide +kernel
theorem d_Main_diagram_31 : decode b_Main_diagram 31 = .ok ((.getfield 35), 3) := by decide +kernel
theorem d_Main_diagram_34 : decode b_Main_diagram 34 = .ok ((.invokevirtual 197), 3) := by decide +kernel
theorem d_Main_diagram_37 : decode b_Main_diagram 37 = .ok (.ireturn, 1) := by decide +kernel
theorem d_Main_equal_0 : decode b_Main_equal 0 = .ok ((.aload_n 0), 1) := by decide +kernel
theorem d_Main_equal_1 : decode b_Main_equal 1 = .ok ((.invokevirtual 160), 3) := by decide +kernel
theorem d_Main_equal_4 : decode b_Main_equal 4 = .ok ((.iconst 0), 1) := by decide +kernel
theorem d_Main_equal_5 : decode b_Main_equal 5 = .ok ((.istore_n 1), 1) := by decide +kernel
theorem d_Main_equal_6 : decode b_Main_equal 6 = .ok ((.iload_n 1), 1) := by decide +kernel
theorem d_Main_equal_7 : decode b_Main_equal 7 = .ok ((.aload_n 0), 1) := by decide +kernel
theorem d_Main_equal_8 : decode b_Main_equal 8 = .ok ((.getfield 22), 3) := by decide +kernel
theorem d_Main_equal_11 : decode b_Main_equal 11 = .ok ((.if_icmp .ge 50), 3) := by decide +kernel
theorem d_Main_equal_14 : decode b_Main_equal 14 = .ok ((.aload_n 0), 1) := by decide +kernel
theorem d_Main_equal_15 : decode b_Main_equal 15 = .ok ((.getfield 62), 3) := by decide +kernel
theorem d_Main_equal_18 : decode b_Main_equal 18 = .ok ((.iload_n 1), 1) := by decide +kernel
theorem d_Main_equal_19 : decode b_Main_equal 19 = .ok ((.invokevirtual 201), 3) := by decide +kernel
theorem d_Main_equal_22 : decode b_Main_equal 22 = .ok ((.istore_n 2), 1) := by decide +kernel
theorem d_Main_equal_23 : decode b_Main_equal 23 = .ok ((.aload_n 0), 1) := by decide +kernel
theorem d_Main_equal_24 : decode b_Main_equal 24 = .ok ((.getfield 35), 3) := by decide +kernel
theorem d_Main_equal_27 : decode b_Main_equal 27 = .ok ((.iload_n 1), 1) := by decide +kernel
theorem d_Main_equal_28 : decode b_Main_equal 28 = .ok ((.invokevirtual 204), 3) := by decide +kernel
theorem d_Main_equal_31 : decode b_Main_equal 31 = .ok ((.iload_n 2), 1) := by decide +kernel
theorem d_Main_equal_32 : decode b_Main_equal 32 = .ok ((.iconst (-1)), 1) := by decide +kernel
theorem d_Main_equal_33 : decode b_Main_equal 33 = .ok (.ixor, 1) := by decide +kernel
theorem d_Main_equal_34 : decode b_Main_equal 34 = .ok (.iand, 1) := by decide +kernel
theorem d_Main_equal_35 : decode b_Main_equal 35 = .ok ((.ifCond .ne 18), 3) := by decide +kernel
theorem d_Main_equal_38 : decode b_Main_equal 38 = .ok ((.iload_n 2), 1) := by decide +kernel
theorem d_Main_equal_39 : decode b_Main_equal 39 = .ok ((.aload_n 0), 1) := by decide +kernel
theorem d_Main_equal_40 : decode b_Main_equal 40 = .ok ((.getfield 35), 3) := by decide +kernel
theorem d_Main_equal_43 : decode b_Main_equal 43 = .ok ((.iload_n 1), 1) := by decide +kernel
theorem d_Main_equal_44 : decode b_Main_equal 44 = .ok ((.invokevirtual 165), 3) := by decide +kernel
theorem d_Main_equal_47 : decode b_Main_equal 47 = .ok ((.iconst (-1)), 1) := by decide +kernel
theorem d_Main_equal_48 : decode b_Main_equal 48 = .ok (.ixor, 1) := by decide +kernel
theorem d_Main_equal_49 : decode b_Main_equal 49 = .ok (.iand, 1) := by decide +kernel
theorem d_Main_equal_50 : decode b_Main_equal 50 = .ok ((.ifCond .eq 5), 3) := by decide +kernel
theorem d_Main_equal_53 : decode b_Main_equal 53 = .ok ((.iconst 0), 1) := by decide +kernel
theorem d_Main_equal_54 : decode b_Main_equal 54 = .ok (.ireturn, 1) := by decide +kernel
theorem d_Main_equal_55 : decode b_Main_equal 55 = .ok ((.iinc 1 1), 3) := by decide +kernel
theorem d_Main_equal_58 : decode b_Main_equal 58 = .ok ((.goto (-52)), 3) := by decide +kernel
theorem d_Main_equal_61 : decode b_Main_equal 61 = .ok ((.iconst 1), 1) := by decide +kernel
theorem d_Main_equal_62 : decode b_Main_equal 62 = .ok (.ireturn, 1) := by decide +kernel
theorem d_Main_value_0 : decode b_Main_value 0 = .ok ((.aload_n 0), 1) := by decide +kernel
theorem d_Main_value_1 : decode b_Main_value 1 = .ok ((.invokevirtual 160), 3) := by decide +kernel
theorem d_Main_value_4 : decode b_Main_value 4 = .ok ((.iload_n 3), 1) := by decide +kernel
theorem d_Main_value_5 : decode b_Main_value 5 = .ok ((.ifCond .lt 11), 3) := by decide +kernel
theorem d_Main_value_8 : decode b_Main_value 8 = .ok ((.iload_n 3), 1) := by decide +kernel
theorem d_Main_value_9 : decode b_Main_value 9 = .ok ((.aload_n 0), 1) := by decide +kernel
theorem d_Main_value_10 : decode b_Main_value 10 = .ok ((.getfield 22), 3) := by decide +kernel
theorem d_Main_value_13 : decode b_Main_value 13 = .ok ((.if_icmp .lt 13), 3) := by decide +kernel
theorem d_Main_value_16 : decode b_Main_value 16 = .ok ((.new 107), 3) := by decide +kernel
theorem d_Main_value_19 : decode b_Main_value 19 = .ok (.dup, 1) := by decide +kernel
theorem d_Main_value_20 : decode b_Main_value 20 = .ok ((.ldc 207), 2) := by decide +kernel
theorem d_Main_value_22 : decode b_Main_value 22 = .ok ((.invokespecial 111), 3) := by decide +kernel
theorem d_Main_value_25 : decode b_Main_value 25 = .ok (.athrow, 1) := by decide +kernel
theorem d_Main_value_26 : decode b_Main_value 26 = .ok ((.lload_n 1), 1) := by decide +kernel
theorem d_Main_value_27 : decode b_Main_value 27 = .ok ((.lconst 0), 1) := by decide +kernel
theorem d_Main_value_28 : decode b_Main_value 28 = .ok (.lcmp, 1) := by decide +kernel
theorem d_Main_value_29 : decode b_Main_value 29 = .ok ((.ifCond .lt 15), 3) := by decide +kernel
theorem d_Main_value_32 : decode b_Main_value 32 = .ok ((.lload_n 1), 1) := by decide +kernel
theorem d_Main_value_33 : decode b_Main_value 33 = .ok ((.iconst 1), 1) := by decide +kernel
theorem d_Main_value_34 : decode b_Main_value 34 = .ok ((.aload_n 0), 1) := by decide +kernel
theorem d_Main_value_35 : decode b_Main_value 35 = .ok ((.getfield 18), 3) := by decide +kernel
theorem d_Main_value_38 : decode b_Main_value 38 = .ok (.ishl, 1) := by decide +kernel
theorem d_Main_value_39 : decode b_Main_value 39 = .ok (.i2l, 1) := by decide +kernel
theorem d_Main_value_40 : decode b_Main_value 40 = .ok (.lcmp, 1) := by decide +kernel
theorem d_Main_value_41 : decode b_Main_value 41 = .ok ((.ifCond .lt 13), 3) := by decide +kernel
theorem d_Main_value_44 : decode b_Main_value 44 = .ok ((.new 112), 3) := by decide +kernel
theorem d_Main_value_47 : decode b_Main_value 47 = .ok (.dup, 1) := by decide +kernel
theorem d_Main_value_48 : decode b_Main_value 48 = .ok ((.ldc 209), 2) := by decide +kernel
theorem d_Main_value_50 : decode b_Main_value 50 = .ok ((.invokespecial 116), 3) := by decide +kernel
theorem d_Main_value_53 : decode b_Main_value 53 = .ok (.athrow, 1) := by decide +kernel
theorem d_Main_value_54 : decode b_Main_value 54 = .ok ((.aload_n 0), 1) := by decide +kernel
theorem d_Main_value_55 : decode b_Main_value 55 = .ok ((.getfield 62), 3) := by decide +kernel
theorem d_Main_value_58 : decode b_Main_value 58 = .ok ((.iload_n 3), 1) := by decide +kernel
theorem d_Main_value_59 : decode b_Main_value 59 = .ok ((.invokevirtual 201), 3) := by decide +kernel
theorem d_Main_value_62 : decode b_Main_value 62 = .ok ((.lload_n 1), 1) := by decide +kernel
theorem d_Main_value_63 : decode b_Main_value 63 = .ok (.l2i, 1) := by decide +kernel
theorem d_Main_value_64 : decode b_Main_value 64 = .ok (.ishr, 1) := by decide +kernel
theorem d_Main_value_65 : decode b_Main_value 65 = .ok ((.iconst 1), 1) := by decide +kernel
theorem d_Main_value_66 : decode b_Main_value 66 = .ok (.iand, 1) := by decide +kernel
theorem d_Main_value_67 : decode b_Main_value 67 = .ok ((.iconst 1), 1) := by decide +kernel
theorem d_Main_value_68 : decode b_Main_value 68 = .ok ((.if_icmp .ne 7), 3) := by decide +kernel
theorem d_Main_value_71 : decode b_Main_value 71 = .ok ((.iconst 1), 1) := by decide +kernel
theorem d_Main_value_72 : decode b_Main_value 72 = .ok ((.goto 4), 3) := by decide +kernel
theorem d_Main_value_75 : decode b_Main_value 75 = .ok ((.iconst 0), 1) := by decide +kernel
theorem d_Main_value_76 : decode b_Main_value 76 = .ok (.ireturn, 1) := by decide +kernel
end
section
theorem d_PrimeFinder_init_0 : decode b_PrimeFinder_init 0 = .ok ((.aload_n 0), 1) := by decide +kernel
theorem d_PrimeFinder_init_1 : decode b_PrimeFinder_init 1 = .ok ((.invokespecial 3), 3) := by decide +kernel
theorem d_PrimeFinder_init_4 : decode b_PrimeFinder_init 4 = .ok ((.aload_n 0), 1) := by decide +kernel
theorem d_PrimeFinder_init_5 : decode b_PrimeFinder_init 5 = .ok ((.bipush 81), 2) := by decide +kernel
theorem d_PrimeFinder_init_7 : decode b_PrimeFinder_init 7 = .ok ((.newarray .int), 2) := by decide +kernel
theorem d_PrimeFinder_init_9 : decode b_PrimeFinder_init 9 = .ok ((.putfield 9), 3) := by decide +kernel
theorem d_PrimeFinder_init_12 : decode b_PrimeFinder_init 12 = .ok ((.aload_n 0), 1) := by decide +kernel
theorem d_PrimeFinder_init_13 : decode b_PrimeFinder_init 13 = .ok ((.aload_n 1), 1) := by decide +kernel
theorem d_PrimeFinder_init_14 : decode b_PrimeFinder_init 14 = .ok ((.putfield 15), 3) := by decide +kernel
theorem d_PrimeFinder_init_17 : decode b_PrimeFinder_init 17 = .ok ((.aload_n 0), 1) := by decide +kernel
theorem d_PrimeFinder_init_18 : decode b_PrimeFinder_init 18 = .ok ((.iload_n 2), 1) := by decide +kernel
theorem d_PrimeFinder_init_19 : decode b_PrimeFinder_init 19 = .ok ((.putfield 19), 3) := by decide +kernel
theorem d_PrimeFinder_init_22 : decode b_PrimeFinder_init 22 = .ok (.return_, 1) := by decide +kernel
theorem d_PrimeFinder_find_0 : decode b_PrimeFinder_find 0 = .ok ((.aload_n 0), 1) := by decide +kernel
theorem d_PrimeFinder_find_1 : decode b_PrimeFinder_find 1 = .ok ((.aload_n 1), 1) := by decide +kernel
theorem d_PrimeFinder_find_2 : decode b_PrimeFinder_find 2 = .ok ((.invokevirtual 23), 3) := by decide +kernel
theorem d_PrimeFinder_find_5 : decode b_PrimeFinder_find 5 = .ok ((.aload_n 2), 1) := by decide +kernel
theorem d_PrimeFinder_find_6 : decode b_PrimeFinder_find 6 = .ok ((.invokevirtual 27), 3) := by decide +kernel
theorem d_PrimeFinder_find_9 : decode b_PrimeFinder_find 9 = .ok ((.iconst 0), 1) := by decide +kernel
theorem d_PrimeFinder_find_10 : decode b_PrimeFinder_find 10 = .ok ((.istore_n 3), 1) := by decide +kernel
theorem d_PrimeFinder_find_11 : decode b_PrimeFinder_find 11 = .ok ((.iload_n 3), 1) := by decide +kernel
theorem d_PrimeFinder_find_12 : decode b_PrimeFinder_find 12 = .ok ((.aload_n 0), 1) := by decide +kernel
theorem d_PrimeFinder_find_13 : decode b_PrimeFinder_find 13 = .ok ((.getfield 15), 3) := by decide +kernel
theorem d_PrimeFinder_find_16 : decode b_PrimeFinder_find 16 = .ok ((.invokevirtual 32), 3) := by decide +kernel
theorem d_PrimeFinder_find_19 : decode b_PrimeFinder_find 19 = .ok ((.if_icmp .ge 37), 3) := by decide +kernel
theorem d_PrimeFinder_find_22 : decode b_PrimeFinder_find 22 = .ok ((.aload_n 0), 1) := by decide +kernel
theorem d_PrimeFinder_find_23 : decode b_PrimeFinder_find 23 = .ok ((.getfield 9), 3) := by decide +kernel
theorem d_PrimeFinder_find_26 : decode b_PrimeFinder_find 26 = .ok ((.iload_n 3), 1) := by decide +kernel
theorem d_PrimeFinder_find_27 : decode b_PrimeFinder_find 27 = .ok (.iaload, 1) := by decide +kernel
theorem d_PrimeFinder_find_28 : decode b_PrimeFinder_find 28 = .ok ((.ifCond .eq 22), 3) := by decide +kernel
theorem d_PrimeFinder_find_31 : decode b_PrimeFinder_find 31 = .ok ((.aload_n 0), 1) := by decide +kernel
theorem d_PrimeFinder_find_32 : decode b_PrimeFinder_find 32 = .ok ((.iload_n 3), 1) := by decide +kernel
theorem d_PrimeFinder_find_33 : decode b_PrimeFinder_find 33 = .ok ((.invokevirtual 38), 3) := by decide +kernel
theorem d_PrimeFinder_find_36 : decode b_PrimeFinder_find 36 = .ok ((.ifCond .ne 14), 3) := by decide +kernel
theorem d_PrimeFinder_find_39 : decode b_PrimeFinder_find 39 = .ok ((.aload_n 2), 1) := by decide +kernel
theorem d_PrimeFinder_find_40 : decode b_PrimeFinder_find 40 = .ok ((.iload_n 3), 1) := by decide +kernel
theorem d_PrimeFinder_find_41 : decode b_PrimeFinder_find 41 = .ok ((.aload_n 0), 1) := by decide +kernel
theorem d_PrimeFinder_find_42 : decode b_PrimeFinder_find 42 = .ok ((.getfield 9), 3) := by decide +kernel
theorem d_PrimeFinder_find_45 : decode b_PrimeFinder_find 45 = .ok ((.iload_n 3), 1) := by decide +kernel
theorem d_PrimeFinder_find_46 : decode b_PrimeFinder_find 46 = .ok (.iaload, 1) := by decide +kernel
theorem d_PrimeFinder_find_47 : decode b_PrimeFinder_find 47 = .ok ((.invokevirtual 42), 3) := by decide +kernel
theorem d_PrimeFinder_find_50 : decode b_PrimeFinder_find 50 = .ok ((.iinc 3 1), 3) := by decide +kernel
theorem d_PrimeFinder_find_53 : decode b_PrimeFinder_find 53 = .ok ((.goto (-42)), 3) := by decide +kernel
theorem d_PrimeFinder_find_56 : decode b_PrimeFinder_find 56 = .ok (.return_, 1) := by decide +kernel
theorem d_PrimeFinder_fillOuts_0 : decode b_PrimeFinder_fillOuts 0 = .ok ((.iconst 0), 1) := by decide +kernel
theorem d_PrimeFinder_fillOuts_1 : decode b_PrimeFinder_fillOuts 1 = .ok ((.istore_n 2), 1) := by decide +kernel
theorem d_PrimeFinder_fillOuts_2 : decode b_PrimeFinder_fillOuts 2 = .ok ((.iload_n 2), 1) := by decide +kernel
theorem d_PrimeFinder_fillOuts_3 : decode b_PrimeFinder_fillOuts 3 = .ok ((.aload_n 0), 1) := by decide +kernel
theorem d_PrimeFinder_fillOuts_4 : decode b_PrimeFinder_fillOuts 4 = .ok ((.getfield 15), 3) := by decide +kernel
theorem d_PrimeFinder_fillOuts_7 : decode b_PrimeFinder_fillOuts 7 = .ok ((.invokevirtual 32), 3) := by decide +kernel
theorem d_PrimeFinder_fillOuts_10 : decode b_PrimeFinder_fillOuts 10 = .ok ((.if_icmp .ge 16), 3) := by decide +kernel
theorem d_PrimeFinder_fillOuts_13 : decode b_PrimeFinder_fillOuts 13 = .ok ((.aload_n 0), 1) := by decide +kernel
theorem d_PrimeFinder_fillOuts_14 : decode b_PrimeFinder_fillOuts 14 = .ok ((.getfield 9), 3) := by decide +kernel
theorem d_PrimeFinder_fillOuts_17 : decode b_PrimeFinder_fillOuts 17 = .ok ((.iload_n 2), 1) := by decide +kernel
theorem d_PrimeFinder_fillOuts_18 : decode b_PrimeFinder_fillOuts 18 = .ok ((.iconst 0), 1) := by decide +kernel
theorem d_PrimeFinder_fillOuts_19 : decode b_PrimeFinder_fillOuts 19 = .ok (.iastore, 1) := by decide +kernel
theorem d_PrimeFinder_fillOuts_20 : decode b_PrimeFinder_fillOuts 20 = .ok ((.iinc 2 1), 3) := by decide +kernel
theorem d_PrimeFinder_fillOuts_23 : decode b_PrimeFinder_fillOuts 23 = .ok ((.goto (-21)), 3) := by decide +kernel
theorem d_PrimeFinder_fillOuts_26 : decode b_PrimeFinder_fillOuts 26 = .ok ((.iconst 0), 1) := by decide +kernel
theorem d_PrimeFinder_fillOuts_27 : decode b_PrimeFinder_fillOuts 27 = .ok ((.istore_n 2), 1) := by decide +kernel
theorem d_PrimeFinder_fillOuts_28 : decode b_PrimeFinder_fillOuts 28 = .ok ((.iload_n 2), 1) := by decide +kernel
theorem d_PrimeFinder_fillOuts_29 : decode b_PrimeFinder_fillOuts 29 = .ok ((.aload_n 0), 1) := by decide +kernel
theorem d_PrimeFinder_fillOuts_30 : decode b_PrimeFinder_fillOuts 30 = .ok ((.getfield 19), 3) := by decide +kernel
theorem d_PrimeFinder_fillOuts_33 : decode b_PrimeFinder_fillOuts 33 = .ok ((.if_icmp .ge 65), 3) := by decide +kernel
theorem d_PrimeFinder_fillOuts_36 : decode b_PrimeFinder_fillOuts 36 = .ok ((.aload_n 1), 1) := by decide +kernel
theorem d_PrimeFinder_fillOuts_37 : decode b_PrimeFinder_fillOuts 37 = .ok ((.iload_n 2), 1) := by decide +kernel
theorem d_PrimeFinder_fillOuts_38 : decode b_PrimeFinder_fillOuts 38 = .ok ((.invokevirtual 46), 3) := by decide +kernel
theorem d_PrimeFinder_fillOuts_41 : decode b_PrimeFinder_fillOuts 41 = .ok ((.iconst (-1)), 1) := by decide +kernel
theorem d_PrimeFinder_fillOuts_42 : decode b_PrimeFinder_fillOuts 42 = .ok (.ixor, 1) := by decide +kernel
theorem d_PrimeFinder_fillOuts_43 : decode b_PrimeFinder_fillOuts 43 = .ok ((.istore_n 3), 1) := by decide +kernel
theorem d_PrimeFinder_fillOuts_44 : decode b_PrimeFinder_fillOuts 44 = .ok ((.iconst 0), 1) := by decide +kernel
theorem d_PrimeFinder_fillOuts_45 : decode b_PrimeFinder_fillOuts 45 = .ok ((.istore 4), 2) := by decide +kernel
theorem d_PrimeFinder_fillOuts_47 : decode b_PrimeFinder_fillOuts 47 = .ok ((.iload 4), 2) := by decide +kernel
theorem d_PrimeFinder_fillOuts_49 : decode b_PrimeFinder_fillOuts 49 = .ok ((.aload_n 0), 1) := by decide +kernel
theorem d_PrimeFinder_fillOuts_50 : decode b_PrimeFinder_fillOuts 50 = .ok ((.getfield 15), 3) := by decide +kernel
theorem d_PrimeFinder_fillOuts_53 : decode b_PrimeFinder_fillOuts 53 = .ok ((.invokevirtual 32), 3) := by decide +kernel
theorem d_PrimeFinder_fillOuts_56 : decode b_PrimeFinder_fillOuts 56 = .ok ((.if_icmp .ge 36), 3) := by decide +kernel
theorem d_PrimeFinder_fillOuts_59 : decode b_PrimeFinder_fillOuts 59 = .ok ((.aload_n 0), 1) := by decide +kernel
theorem d_PrimeFinder_fillOuts_60 : decode b_PrimeFinder_fillOuts 60 = .ok ((.getfield 15), 3) := by decide +kernel
theorem d_PrimeFinder_fillOuts_63 : decode b_PrimeFinder_fillOuts 63 = .ok ((.iload 4), 2) := by decide +kernel
theorem d_PrimeFinder_fillOuts_65 : decode b_PrimeFinder_fillOuts 65 = .ok ((.invokevirtual 52), 3) := by decide +kernel
theorem d_PrimeFinder_fillOuts_68 : decode b_PrimeFinder_fillOuts 68 = .ok ((.iload_n 3), 1) := by decide +kernel
theorem d_PrimeFinder_fillOuts_69 : decode b_PrimeFinder_fillOuts 69 = .ok (.iand, 1) := by decide +kernel
theorem d_PrimeFinder_fillOuts_70 : decode b_PrimeFinder_fillOuts 70 = .ok ((.ifCond .ne 16), 3) := by decide +kernel
theorem d_PrimeFinder_fillOuts_73 : decode b_PrimeFinder_fillOuts 73 = .ok ((.aload_n 0), 1) := by decide +kernel
theorem d_PrimeFinder_fillOuts_74 : decode b_PrimeFinder_fillOuts 74 = .ok ((.getfield 9), 3) := by decide +kernel
theorem d_PrimeFinder_fillOuts_77 : decode b_PrimeFinder_fillOuts 77 = .ok ((.iload 4), 2) := by decide +kernel
theorem d_PrimeFinder_fillOuts_79 : decode b_PrimeFinder_fillOuts 79 = .ok (.dup2, 1) := by decide +kernel
theorem d_PrimeFinder_fillOuts_80 : decode b_PrimeFinder_fillOuts 80 = .ok (.iaload, 1) := by decide +kernel
theorem d_PrimeFinder_fillOuts_81 : decode b_PrimeFinder_fillOuts 81 = .ok ((.iconst 1), 1) := by decide +kernel
theorem d_PrimeFinder_fillOuts_82 : decode b_PrimeFinder_fillOuts 82 = .ok ((.iload_n 2), 1) := by decide +kernel
theorem d_PrimeFinder_fillOuts_83 : decode b_PrimeFinder_fillOuts 83 = .ok (.ishl, 1) := by decide +kernel
theorem d_PrimeFinder_fillOuts_84 : decode b_PrimeFinder_fillOuts 84 = .ok (.ior, 1) := by decide +kernel
theorem d_PrimeFinder_fillOuts_85 : decode b_PrimeFinder_fillOuts 85 = .ok (.iastore, 1) := by decide +kernel
theorem d_PrimeFinder_fillOuts_86 : decode b_PrimeFinder_fillOuts 86 = .ok ((.iinc 4 1), 3) := by decide +kernel
theorem d_PrimeFinder_fillOuts_89 : decode b_PrimeFinder_fillOuts 89 = .ok ((.goto (-42)), 3) := by decide +kernel
theorem d_PrimeFinder_fillOuts_92 : decode b_PrimeFinder_fillOuts 92 = .ok ((.iinc 2 1), 3) := by decide +kernel
theorem d_PrimeFinder_fillOuts_95 : decode b_PrimeFinder_fillOuts 95 = .ok ((.goto (-67)), 3) := by decide +kernel
theorem d_PrimeFinder_fillOuts_98 : decode b_PrimeFinder_fillOuts 98 = .ok (.return_, 1) := by decide +kernel
theorem d_PrimeFinder_isWithinWider_0 : decode b_PrimeFinder_isWithinWider 0 = .ok ((.iconst 0), 1) := by decide +kernel
theorem d_PrimeFinder_isWithinWider_1 : decode b_PrimeFinder_isWithinWider 1 = .ok ((.istore_n 2), 1) := by decide +kernel
theorem d_PrimeFinder_isWithinWider_2 : decode b_PrimeFinder_isWithinWider 2 = .ok ((.iload_n 2), 1) := by decide +kernel
theorem d_PrimeFinder_isWithinWider_3 : decode b_PrimeFinder_isWithinWider 3 = .ok ((.aload_n 0), 1) := by decide +kernel
theorem d_PrimeFinder_isWithinWider_4 : decode b_PrimeFinder_isWithinWider 4 = .ok ((.getfield 15), 3) := by decide +kernel
theorem d_PrimeFinder_isWithinWider_7 : decode b_PrimeFinder_isWithinWider 7 = .ok ((.invokevirtual 55), 3) := by decide +kernel
theorem d_PrimeFinder_isWithinWider_10 : decode b_PrimeFinder_isWithinWider 10 = .ok ((.if_icmp .ge 53), 3) := by decide +kernel
theorem d_PrimeFinder_isWithinWider_13 : decode b_PrimeFinder_isWithinWider 13 = .ok ((.aload_n 0), 1) := by decide +kernel
theorem d_PrimeFinder_isWithinWider_14 : decode b_PrimeFinder_isWithinWider 14 = .ok ((.getfield 15), 3) := by decide +kernel
theorem d_PrimeFinder_isWithinWider_17 : decode b_PrimeFinder_isWithinWider 17 = .ok ((.iload_n 1), 1) := by decide +kernel
theorem d_PrimeFinder_isWithinWider_18 : decode b_PrimeFinder_isWithinWider 18 = .ok ((.iload_n 2), 1) := by decide +kernel
theorem d_PrimeFinder_isWithinWider_19 : decode b_PrimeFinder_isWithinWider 19 = .ok ((.invokevirtual 58), 3) := by decide +kernel
theorem d_PrimeFinder_isWithinWider_22 : decode b_PrimeFinder_isWithinWider 22 = .ok ((.iconst 2), 1) := by decide +kernel
theorem d_PrimeFinder_isWithinWider_23 : decode b_PrimeFinder_isWithinWider 23 = .ok ((.if_icmp .eq 34), 3) := by decide +kernel
theorem d_PrimeFinder_isWithinWider_26 : decode b_PrimeFinder_isWithinWider 26 = .ok ((.aload_n 0), 1) := by decide +kernel
theorem d_PrimeFinder_isWithinWider_27 : decode b_PrimeFinder_isWithinWider 27 = .ok ((.getfield 15), 3) := by decide +kernel
theorem d_PrimeFinder_isWithinWider_30 : decode b_PrimeFinder_isWithinWider 30 = .ok ((.iload_n 1), 1) := by decide +kernel
theorem d_PrimeFinder_isWithinWider_31 : decode b_PrimeFinder_isWithinWider 31 = .ok ((.iload_n 2), 1) := by decide +kernel
theorem d_PrimeFinder_isWithinWider_32 : decode b_PrimeFinder_isWithinWider 32 = .ok ((.iconst 2), 1) := by decide +kernel
theorem d_PrimeFinder_isWithinWider_33 : decode b_PrimeFinder_isWithinWider 33 = .ok ((.invokevirtual 62), 3) := by decide +kernel
theorem d_PrimeFinder_isWithinWider_36 : decode b_PrimeFinder_isWithinWider 36 = .ok ((.istore_n 3), 1) := by decide +kernel
theorem d_PrimeFinder_isWithinWider_37 : decode b_PrimeFinder_isWithinWider 37 = .ok ((.aload_n 0), 1) := by decide +kernel
theorem d_PrimeFinder_isWithinWider_38 : decode b_PrimeFinder_isWithinWider 38 = .ok ((.getfield 9), 3) := by decide +kernel
theorem d_PrimeFinder_isWithinWider_41 : decode b_PrimeFinder_isWithinWider 41 = .ok ((.iload_n 1), 1) := by decide +kernel
theorem d_PrimeFinder_isWithinWider_42 : decode b_PrimeFinder_isWithinWider 42 = .ok (.iaload, 1) := by decide +kernel
theorem d_PrimeFinder_isWithinWider_43 : decode b_PrimeFinder_isWithinWider 43 = .ok ((.aload_n 0), 1) := by decide +kernel
theorem d_PrimeFinder_isWithinWider_44 : decode b_PrimeFinder_isWithinWider 44 = .ok ((.getfield 9), 3) := by decide +kernel
theorem d_PrimeFinder_isWithinWider_47 : decode b_PrimeFinder_isWithinWider 47 = .ok ((.iload_n 3), 1) := by decide +kernel
theorem d_PrimeFinder_isWithinWider_48 : decode b_PrimeFinder_isWithinWider 48 = .ok (.iaload, 1) := by decide +kernel
theorem d_PrimeFinder_isWithinWider_49 : decode b_PrimeFinder_isWithinWider 49 = .ok ((.iconst (-1)), 1) := by decide +kernel
theorem d_PrimeFinder_isWithinWider_50 : decode b_PrimeFinder_isWithinWider 50 = .ok (.ixor, 1) := by decide +kernel
theorem d_PrimeFinder_isWithinWider_51 : decode b_PrimeFinder_isWithinWider 51 = .ok (.iand, 1) := by decide +kernel
theorem d_PrimeFinder_isWithinWider_52 : decode b_PrimeFinder_isWithinWider 52 = .ok ((.ifCond .ne 5), 3) := by decide +kernel
theorem d_PrimeFinder_isWithinWider_55 : decode b_PrimeFinder_isWithinWider 55 = .ok ((.iconst 1), 1) := by decide +kernel
theorem d_PrimeFinder_isWithinWider_56 : decode b_PrimeFinder_isWithinWider 56 = .ok (.ireturn, 1) := by decide +kernel
theorem d_PrimeFinder_isWithinWider_57 : decode b_PrimeFinder_isWithinWider 57 = .ok ((.iinc 2 1), 3) := by decide +kernel
theorem d_PrimeFinder_isWithinWider_60 : decode b_PrimeFinder_isWithinWider 60 = .ok ((.goto (-58)), 3) := by decide +kernel
theorem d_PrimeFinder_isWithinWider_63 : decode b_PrimeFinder_isWithinWider 63 = .ok ((.iconst 0), 1) := by decide +kernel
theorem d_PrimeFinder_isWithinWider_64 : decode b_PrimeFinder_isWithinWider 64 = .ok (.ireturn, 1) := by decide +kernel
end
section
theorem d_Products_init_0 : decode b_Products_init 0 = .ok ((.aload_n 0), 1) := by decide +kernel
theorem d_Products_init_1 : decode b_Products_init 1 = .ok ((.invokespecial 3), 3) := by decide +kernel
theorem d_Products_init_4 : decode b_Products_init 4 = .ok ((.aload_n 0), 1) := by decide +kernel
theorem d_Products_init_5 : decode b_Products_init 5 = .ok ((.bipush 81), 2) := by decide +kernel
theorem d_Products_init_7 : decode b_Products_init 7 = .ok ((.newarray .int), 2) := by decide +kernel
theorem d_Products_init_9 : decode b_Products_init 9 = .ok ((.putfield 9), 3) := by decide +kernel
theorem d_Products_init_12 : decode b_Products_init 12 = .ok ((.aload_n 0), 1) := by decide +kernel
theorem d_Products_init_13 : decode b_Products_init 13 = .ok ((.bipush 81), 2) := by decide +kernel
theorem d_Products_init_15 : decode b_Products_init 15 = .ok ((.newarray .int), 2) := by decide +kernel
theorem d_Products_init_17 : decode b_Products_init 17 = .ok ((.putfield 15), 3) := by decide +kernel
theorem d_Products_init_20 : decode b_Products_init 20 = .ok ((.aload_n 0), 1) := by decide +kernel
theorem d_Products_init_21 : decode b_Products_init 21 = .ok ((.bipush 81), 2) := by decide +kernel
theorem d_Products_init_23 : decode b_Products_init 23 = .ok ((.newarray .int), 2) := by decide +kernel
theorem d_Products_init_25 : decode b_Products_init 25 = .ok ((.putfield 18), 3) := by decide +kernel
theorem d_Products_init_28 : decode b_Products_init 28 = .ok ((.aload_n 0), 1) := by decide +kernel
theorem d_Products_init_29 : decode b_Products_init 29 = .ok ((.iload_n 1), 1) := by decide +kernel
theorem d_Products_init_30 : decode b_Products_init 30 = .ok ((.putfield 21), 3) := by decide +kernel
theorem d_Products_init_33 : decode b_Products_init 33 = .ok ((.iconst 1), 1) := by decide +kernel
theorem d_Products_init_34 : decode b_Products_init 34 = .ok ((.istore_n 2), 1) := by decide +kernel
theorem d_Products_init_35 : decode b_Products_init 35 = .ok ((.iconst 0), 1) := by decide +kernel
theorem d_Products_init_36 : decode b_Products_init 36 = .ok ((.istore_n 3), 1) := by decide +kernel
theorem d_Products_init_37 : decode b_Products_init 37 = .ok ((.iload_n 3), 1) := by decide +kernel
theorem d_Products_init_38 : decode b_Products_init 38 = .ok ((.iload_n 1), 1) := by decide +kernel
theorem d_Products_init_39 : decode b_Products_init 39 = .ok ((.if_icmp .ge 13), 3) := by decide +kernel
theorem d_Products_init_42 : decode b_Products_init 42 = .ok ((.iload_n 2), 1) := by decide +kernel
theorem d_Products_init_43 : decode b_Products_init 43 = .ok ((.iconst 3), 1) := by decide +kernel
theorem d_Products_init_44 : decode b_Products_init 44 = .ok (.imul, 1) := by decide +kernel
theorem d_Products_init_45 : decode b_Products_init 45 = .ok ((.istore_n 2), 1) := by decide +kernel
theorem d_Products_init_46 : decode b_Products_init 46 = .ok ((.iinc 3 1), 3) := by decide +kernel
theorem d_Products_init_49 : decode b_Products_init 49 = .ok ((.goto (-12)), 3) := by decide +kernel
theorem d_Products_init_52 : decode b_Products_init 52 = .ok ((.aload_n 0), 1) := by decide +kernel
theorem d_Products_init_53 : decode b_Products_init 53 = .ok ((.iload_n 2), 1) := by decide +kernel
theorem d_Products_init_54 : decode b_Products_init 54 = .ok ((.bipush 81), 2) := by decide +kernel
theorem d_Products_init_56 : decode b_Products_init 56 = .ok ((.invokestatic 25), 3) := by decide +kernel
theorem d_Products_init_59 : decode b_Products_init 59 = .ok ((.putfield 31), 3) := by decide +kernel
theorem d_Products_init_62 : decode b_Products_init 62 = .ok ((.iconst 0), 1) := by decide +kernel
theorem d_Products_init_63 : decode b_Products_init 63 = .ok ((.istore_n 3), 1) := by decide +kernel
theorem d_Products_init_64 : decode b_Products_init 64 = .ok ((.iload_n 3), 1) := by decide +kernel
theorem d_Products_init_65 : decode b_Products_init 65 = .ok ((.aload_n 0), 1) := by decide +kernel
theorem d_Products_init_66 : decode b_Products_init 66 = .ok ((.getfield 31), 3) := by decide +kernel
theorem d_Products_init_69 : decode b_Products_init 69 = .ok ((.if_icmp .ge 19), 3) := by decide +kernel
theorem d_Products_init_72 : decode b_Products_init 72 = .ok ((.aload_n 0), 1) := by decide +kernel
theorem d_Products_init_73 : decode b_Products_init 73 = .ok ((.iload_n 3), 1) := by decide +kernel
theorem d_Products_init_74 : decode b_Products_init 74 = .ok ((.invokevirtual 34), 3) := by decide +kernel
theorem d_Products_init_77 : decode b_Products_init 77 = .ok ((.aload_n 0), 1) := by decide +kernel
theorem d_Products_init_78 : decode b_Products_init 78 = .ok ((.iload_n 3), 1) := by decide +kernel
theorem d_Products_init_79 : decode b_Products_init 79 = .ok ((.invokevirtual 38), 3) := by decide +kernel
theorem d_Products_init_82 : decode b_Products_init 82 = .ok ((.iinc 3 1), 3) := by decide +kernel
theorem d_Products_init_85 : decode b_Products_init 85 = .ok ((.goto (-21)), 3) := by decide +kernel
theorem d_Products_init_88 : decode b_Products_init 88 = .ok (.return_, 1) := by decide +kernel
theorem d_Products_fillDigits_0 : decode b_Products_fillDigits 0 = .ok ((.iload_n 1), 1) := by decide +kernel
theorem d_Products_fillDigits_1 : decode b_Products_fillDigits 1 = .ok ((.istore_n 2), 1) := by decide +kernel
theorem d_Products_fillDigits_2 : decode b_Products_fillDigits 2 = .ok ((.aload_n 0), 1) := by decide +kernel
theorem d_Products_fillDigits_3 : decode b_Products_fillDigits 3 = .ok ((.getfield 21), 3) := by decide +kernel
theorem d_Products_fillDigits_6 : decode b_Products_fillDigits 6 = .ok ((.iconst 1), 1) := by decide +kernel
theorem d_Products_fillDigits_7 : decode b_Products_fillDigits 7 = .ok (.isub, 1) := by decide +kernel
theorem d_Products_fillDigits_8 : decode b_Products_fillDigits 8 = .ok ((.istore_n 3), 1) := by decide +kernel
theorem d_Products_fillDigits_9 : decode b_Products_fillDigits 9 = .ok ((.iload_n 3), 1) := by decide +kernel
theorem d_Products_fillDigits_10 : decode b_Products_fillDigits 10 = .ok ((.ifCond .lt 49), 3) := by decide +kernel
theorem d_Products_fillDigits_13 : decode b_Products_fillDigits 13 = .ok ((.iload_n 2), 1) := by decide +kernel
theorem d_Products_fillDigits_14 : decode b_Products_fillDigits 14 = .ok ((.iconst 3), 1) := by decide +kernel
theorem d_Products_fillDigits_15 : decode b_Products_fillDigits 15 = .ok (.irem, 1) := by decide +kernel
theorem d_Products_fillDigits_16 : decode b_Products_fillDigits 16 = .ok ((.istore 4), 2) := by decide +kernel
theorem d_Products_fillDigits_18 : decode b_Products_fillDigits 18 = .ok ((.iload_n 2), 1) := by decide +kernel
theorem d_Products_fillDigits_19 : decode b_Products_fillDigits 19 = .ok ((.iconst 3), 1) := by decide +kernel
theorem d_Products_fillDigits_20 : decode b_Products_fillDigits 20 = .ok (.idiv, 1) := by decide +kernel
theorem d_Products_fillDigits_21 : decode b_Products_fillDigits 21 = .ok ((.istore_n 2), 1) := by decide +kernel
theorem d_Products_fillDigits_22 : decode b_Products_fillDigits 22 = .ok ((.iload 4), 2) := by decide +kernel
theorem d_Products_fillDigits_24 : decode b_Products_fillDigits 24 = .ok ((.iconst 2), 1) := by decide +kernel
theorem d_Products_fillDigits_25 : decode b_Products_fillDigits 25 = .ok ((.if_icmp .eq 28), 3) := by decide +kernel
theorem d_Products_fillDigits_28 : decode b_Products_fillDigits 28 = .ok ((.aload_n 0), 1) := by decide +kernel
theorem d_Products_fillDigits_29 : decode b_Products_fillDigits 29 = .ok ((.getfield 9), 3) := by decide +kernel
theorem d_Products_fillDigits_32 : decode b_Products_fillDigits 32 = .ok ((.iload_n 1), 1) := by decide +kernel
theorem d_Products_fillDigits_33 : decode b_Products_fillDigits 33 = .ok (.dup2, 1) := by decide +kernel
theorem d_Products_fillDigits_34 : decode b_Products_fillDigits 34 = .ok (.iaload, 1) := by decide +kernel
theorem d_Products_fillDigits_35 : decode b_Products_fillDigits 35 = .ok ((.iconst 1), 1) := by decide +kernel
theorem d_Products_fillDigits_36 : decode b_Products_fillDigits 36 = .ok ((.iload_n 3), 1) := by decide +kernel
theorem d_Products_fillDigits_37 : decode b_Products_fillDigits 37 = .ok (.ishl, 1) := by decide +kernel
theorem d_Products_fillDigits_38 : decode b_Products_fillDigits 38 = .ok (.ior, 1) := by decide +kernel
theorem d_Products_fillDigits_39 : decode b_Products_fillDigits 39 = .ok (.iastore, 1) := by decide +kernel
theorem d_Products_fillDigits_40 : decode b_Products_fillDigits 40 = .ok ((.aload_n 0), 1) := by decide +kernel
theorem d_Products_fillDigits_41 : decode b_Products_fillDigits 41 = .ok ((.getfield 15), 3) := by decide +kernel
theorem d_Products_fillDigits_44 : decode b_Products_fillDigits 44 = .ok ((.iload_n 1), 1) := by decide +kernel
theorem d_Products_fillDigits_45 : decode b_Products_fillDigits 45 = .ok (.dup2, 1) := by decide +kernel
theorem d_Products_fillDigits_46 : decode b_Products_fillDigits 46 = .ok (.iaload, 1) := by decide +kernel
theorem d_Products_fillDigits_47 : decode b_Products_fillDigits 47 = .ok ((.iload 4), 2) := by decide +kernel
theorem d_Products_fillDigits_49 : decode b_Products_fillDigits 49 = .ok ((.iload_n 3), 1) := by decide +kernel
theorem d_Products_fillDigits_50 : decode b_Products_fillDigits 50 = .ok (.ishl, 1) := by decide +kernel
theorem d_Products_fillDigits_51 : decode b_Products_fillDigits 51 = .ok (.ior, 1) := by decide +kernel
theorem d_Products_fillDigits_52 : decode b_Products_fillDigits 52 = .ok (.iastore, 1) := by decide +kernel
theorem d_Products_fillDigits_53 : decode b_Products_fillDigits 53 = .ok ((.iinc 3 (-1)), 3) := by decide +kernel
theorem d_Products_fillDigits_56 : decode b_Products_fillDigits 56 = .ok ((.goto (-47)), 3) := by decide +kernel
theorem d_Products_fillDigits_59 : decode b_Products_fillDigits 59 = .ok (.return_, 1) := by decide +kernel
theorem d_Products_fillHad_0 : decode b_Products_fillHad 0 = .ok ((.iconst 0), 1) := by decide +kernel
theorem d_Products_fillHad_1 : decode b_Products_fillHad 1 = .ok ((.istore_n 2), 1) := by decide +kernel
theorem d_Products_fillHad_2 : decode b_Products_fillHad 2 = .ok ((.iload_n 2), 1) := by decide +kernel
theorem d_Products_fillHad_3 : decode b_Products_fillHad 3 = .ok ((.iconst 1), 1) := by decide +kernel
theorem d_Products_fillHad_4 : decode b_Products_fillHad 4 = .ok ((.aload_n 0), 1) := by decide +kernel
theorem d_Products_fillHad_5 : decode b_Products_fillHad 5 = .ok ((.getfield 21), 3) := by decide +kernel
theorem d_Products_fillHad_8 : decode b_Products_fillHad 8 = .ok (.ishl, 1) := by decide +kernel
theorem d_Products_fillHad_9 : decode b_Products_fillHad 9 = .ok ((.if_icmp .ge 38), 3) := by decide +kernel
theorem d_Products_fillHad_12 : decode b_Products_fillHad 12 = .ok ((.iload_n 2), 1) := by decide +kernel
theorem d_Products_fillHad_13 : decode b_Products_fillHad 13 = .ok ((.aload_n 0), 1) := by decide +kernel
theorem d_Products_fillHad_14 : decode b_Products_fillHad 14 = .ok ((.getfield 9), 3) := by decide +kernel
theorem d_Products_fillHad_17 : decode b_Products_fillHad 17 = .ok ((.iload_n 1), 1) := by decide +kernel
theorem d_Products_fillHad_18 : decode b_Products_fillHad 18 = .ok (.iaload, 1) := by decide +kernel
theorem d_Products_fillHad_19 : decode b_Products_fillHad 19 = .ok (.iand, 1) := by decide +kernel
theorem d_Products_fillHad_20 : decode b_Products_fillHad 20 = .ok ((.aload_n 0), 1) := by decide +kernel
theorem d_Products_fillHad_21 : decode b_Products_fillHad 21 = .ok ((.getfield 15), 3) := by decide +kernel
theorem d_Products_fillHad_24 : decode b_Products_fillHad 24 = .ok ((.iload_n 1), 1) := by decide +kernel
theorem d_Products_fillHad_25 : decode b_Products_fillHad 25 = .ok (.iaload, 1) := by decide +kernel
theorem d_Products_fillHad_26 : decode b_Products_fillHad 26 = .ok ((.if_icmp .ne 15), 3) := by decide +kernel
theorem d_Products_fillHad_29 : decode b_Products_fillHad 29 = .ok ((.aload_n 0), 1) := by decide +kernel
theorem d_Products_fillHad_30 : decode b_Products_fillHad 30 = .ok ((.getfield 18), 3) := by decide +kernel
theorem d_Products_fillHad_33 : decode b_Products_fillHad 33 = .ok ((.iload_n 1), 1) := by decide +kernel
theorem d_Products_fillHad_34 : decode b_Products_fillHad 34 = .ok (.dup2, 1) := by decide +kernel
theorem d_Products_fillHad_35 : decode b_Products_fillHad 35 = .ok (.iaload, 1) := by decide +kernel
theorem d_Products_fillHad_36 : decode b_Products_fillHad 36 = .ok ((.iconst 1), 1) := by decide +kernel
theorem d_Products_fillHad_37 : decode b_Products_fillHad 37 = .ok ((.iload_n 2), 1) := by decide +kernel
theorem d_Products_fillHad_38 : decode b_Products_fillHad 38 = .ok (.ishl, 1) := by decide +kernel
theorem d_Products_fillHad_39 : decode b_Products_fillHad 39 = .ok (.ior, 1) := by decide +kernel
theorem d_Products_fillHad_40 : decode b_Products_fillHad 40 = .ok (.iastore, 1) := by decide +kernel
theorem d_Products_fillHad_41 : decode b_Products_fillHad 41 = .ok ((.iinc 2 1), 3) := by decide +kernel
theorem d_Products_fillHad_44 : decode b_Products_fillHad 44 = .ok ((.goto (-42)), 3) := by decide +kernel
theorem d_Products_fillHad_47 : decode b_Products_fillHad 47 = .ok (.return_, 1) := by decide +kernel
theorem d_Products_size_0 : decode b_Products_size 0 = .ok ((.aload_n 0), 1) := by decide +kernel
theorem d_Products_size_1 : decode b_Products_size 1 = .ok ((.getfield 31), 3) := by decide +kernel
theorem d_Products_size_4 : decode b_Products_size 4 = .ok (.ireturn, 1) := by decide +kernel
theorem d_Products_had_0 : decode b_Products_had 0 = .ok ((.aload_n 0), 1) := by decide +kernel
theorem d_Products_had_1 : decode b_Products_had 1 = .ok ((.getfield 18), 3) := by decide +kernel
theorem d_Products_had_4 : decode b_Products_had 4 = .ok ((.iload_n 1), 1) := by decide +kernel
theorem d_Products_had_5 : decode b_Products_had 5 = .ok (.iaload, 1) := by decide +kernel
theorem d_Products_had_6 : decode b_Products_had 6 = .ok (.ireturn, 1) := by decide +kernel
theorem d_Products_inputs_0 : decode b_Products_inputs 0 = .ok ((.aload_n 0), 1) := by decide +kernel
theorem d_Products_inputs_1 : decode b_Products_inputs 1 = .ok ((.getfield 21), 3) := by decide +kernel
theorem d_Products_inputs_4 : decode b_Products_inputs 4 = .ok (.ireturn, 1) := by decide +kernel
theorem d_Products_digit_0 : decode b_Products_digit 0 = .ok ((.aload_n 0), 1) := by decide +kernel
theorem d_Products_digit_1 : decode b_Products_digit 1 = .ok ((.getfield 9), 3) := by decide +kernel
theorem d_Products_digit_4 : decode b_Products_digit 4 = .ok ((.iload_n 1), 1) := by decide +kernel
theorem d_Products_digit_5 : decode b_Products_digit 5 = .ok (.iaload, 1) := by decide +kernel
theorem d_Products_digit_6 : decode b_Products_digit 6 = .ok ((.iload_n 2), 1) := by decide +kernel
theorem d_Products_digit_7 : decode b_Products_digit 7 = .ok (.ishr, 1) := by decide +kernel
theorem d_Products_digit_8 : decode b_Products_digit 8 = .ok ((.iconst 1), 1) := by decide +kernel
theorem d_Products_digit_9 : decode b_Products_digit 9 = .ok (.iand, 1) := by decide +kernel
theorem d_Products_digit_10 : decode b_Products_digit 10 = .ok ((.ifCond .ne 7), 3) := by decide +kernel
theorem d_Products_digit_13 : decode b_Products_digit 13 = .ok ((.iconst 2), 1) := by decide +kernel
theorem d_Products_digit_14 : decode b_Products_digit 14 = .ok ((.goto 13), 3) := by decide +kernel
theorem d_Products_digit_17 : decode b_Products_digit 17 = .ok ((.aload_n 0), 1) := by decide +kernel
theorem d_Products_digit_18 : decode b_Products_digit 18 = .ok ((.getfield 15), 3) := by decide +kernel
theorem d_Products_digit_21 : decode b_Products_digit 21 = .ok ((.iload_n 1), 1) := by decide +kernel
theorem d_Products_digit_22 : decode b_Products_digit 22 = .ok (.iaload, 1) := by decide +kernel
theorem d_Products_digit_23 : decode b_Products_digit 23 = .ok ((.iload_n 2), 1) := by decide +kernel
theorem d_Products_digit_24 : decode b_Products_digit 24 = .ok (.ishr, 1) := by decide +kernel
theorem d_Products_digit_25 : decode b_Products_digit 25 = .ok ((.iconst 1), 1) := by decide +kernel
theorem d_Products_digit_26 : decode b_Products_digit 26 = .ok (.iand, 1) := by decide +kernel
theorem d_Products_digit_27 : decode b_Products_digit 27 = .ok (.ireturn, 1) := by decide +kernel
theorem d_Products_withDigit_0 : decode b_Products_withDigit 0 = .ok ((.iconst 1), 1) := by decide +kernel
theorem d_Products_withDigit_1 : decode b_Products_withDigit 1 = .ok ((.iload_n 2), 1) := by decide +kernel
theorem d_Products_withDigit_2 : decode b_Products_withDigit 2 = .ok (.ishl, 1) := by decide +kernel
theorem d_Products_withDigit_3 : decode b_Products_withDigit 3 = .ok ((.istore 4), 2) := by decide +kernel
theorem d_Products_withDigit_5 : decode b_Products_withDigit 5 = .ok ((.iload_n 3), 1) := by decide +kernel
theorem d_Products_withDigit_6 : decode b_Products_withDigit 6 = .ok ((.iconst 2), 1) := by decide +kernel
theorem d_Products_withDigit_7 : decode b_Products_withDigit 7 = .ok ((.if_icmp .ne 17), 3) := by decide +kernel
theorem d_Products_withDigit_10 : decode b_Products_withDigit 10 = .ok ((.aload_n 0), 1) := by decide +kernel
theorem d_Products_withDigit_11 : decode b_Products_withDigit 11 = .ok ((.getfield 9), 3) := by decide +kernel
theorem d_Products_withDigit_14 : decode b_Products_withDigit 14 = .ok ((.iload_n 1), 1) := by decide +kernel
theorem d_Products_withDigit_15 : decode b_Products_withDigit 15 = .ok (.iaload, 1) := by decide +kernel
theorem d_Products_withDigit_16 : decode b_Products_withDigit 16 = .ok ((.iload 4), 2) := by decide +kernel
theorem d_Products_withDigit_18 : decode b_Products_withDigit 18 = .ok ((.iconst (-1)), 1) := by decide +kernel
theorem d_Products_withDigit_19 : decode b_Products_withDigit 19 = .ok (.ixor, 1) := by decide +kernel
theorem d_Products_withDigit_20 : decode b_Products_withDigit 20 = .ok (.iand, 1) := by decide +kernel
theorem d_Products_withDigit_21 : decode b_Products_withDigit 21 = .ok ((.goto 12), 3) := by decide +kernel
theorem d_Products_withDigit_24 : decode b_Products_withDigit 24 = .ok ((.aload_n 0), 1) := by decide +kernel
theorem d_Products_withDigit_25 : decode b_Products_withDigit 25 = .ok ((.getfield 9), 3) := by decide +kernel
theorem d_Products_withDigit_28 : decode b_Products_withDigit 28 = .ok ((.iload_n 1), 1) := by decide +kernel
theorem d_Products_withDigit_29 : decode b_Products_withDigit 29 = .ok (.iaload, 1) := by decide +kernel
theorem d_Products_withDigit_30 : decode b_Products_withDigit 30 = .ok ((.iload 4), 2) := by decide +kernel
theorem d_Products_withDigit_32 : decode b_Products_withDigit 32 = .ok (.ior, 1) := by decide +kernel
theorem d_Products_withDigit_33 : decode b_Products_withDigit 33 = .ok ((.istore 5), 2) := by decide +kernel
theorem d_Products_withDigit_35 : decode b_Products_withDigit 35 = .ok ((.iload_n 3), 1) := by decide +kernel
theorem d_Products_withDigit_36 : decode b_Products_withDigit 36 = .ok ((.iconst 1), 1) := by decide +kernel
theorem d_Products_withDigit_37 : decode b_Products_withDigit 37 = .ok ((.if_icmp .ne 15), 3) := by decide +kernel
theorem d_Products_withDigit_40 : decode b_Products_withDigit 40 = .ok ((.aload_n 0), 1) := by decide +kernel
theorem d_Products_withDigit_41 : decode b_Products_withDigit 41 = .ok ((.getfield 15), 3) := by decide +kernel
theorem d_Products_withDigit_44 : decode b_Products_withDigit 44 = .ok ((.iload_n 1), 1) := by decide +kernel
theorem d_Products_withDigit_45 : decode b_Products_withDigit 45 = .ok (.iaload, 1) := by decide +kernel
theorem d_Products_withDigit_46 : decode b_Products_withDigit 46 = .ok ((.iload 4), 2) := by decide +kernel
theorem d_Products_withDigit_48 : decode b_Products_withDigit 48 = .ok (.ior, 1) := by decide +kernel
theorem d_Products_withDigit_49 : decode b_Products_withDigit 49 = .ok ((.goto 14), 3) := by decide +kernel
theorem d_Products_withDigit_52 : decode b_Products_withDigit 52 = .ok ((.aload_n 0), 1) := by decide +kernel
theorem d_Products_withDigit_53 : decode b_Products_withDigit 53 = .ok ((.getfield 15), 3) := by decide +kernel
theorem d_Products_withDigit_56 : decode b_Products_withDigit 56 = .ok ((.iload_n 1), 1) := by decide +kernel
theorem d_Products_withDigit_57 : decode b_Products_withDigit 57 = .ok (.iaload, 1) := by decide +kernel
theorem d_Products_withDigit_58 : decode b_Products_withDigit 58 = .ok ((.iload 4), 2) := by decide +kernel
theorem d_Products_withDigit_60 : decode b_Products_withDigit 60 = .ok ((.iconst (-1)), 1) := by decide +kernel
theorem d_Products_withDigit_61 : decode b_Products_withDigit 61 = .ok (.ixor, 1) := by decide +kernel
theorem d_Products_withDigit_62 : decode b_Products_withDigit 62 = .ok (.iand, 1) := by decide +kernel
theorem d_Products_withDigit_63 : decode b_Products_withDigit 63 = .ok ((.istore 6), 2) := by decide +kernel
theorem d_Products_withDigit_65 : decode b_Products_withDigit 65 = .ok ((.aload_n 0), 1) := by decide +kernel
theorem d_Products_withDigit_66 : decode b_Products_withDigit 66 = .ok ((.iload 5), 2) := by decide +kernel
theorem d_Products_withDigit_68 : decode b_Products_withDigit 68 = .ok ((.iload 6), 2) := by decide +kernel
theorem d_Products_withDigit_70 : decode b_Products_withDigit 70 = .ok ((.invokevirtual 41), 3) := by decide +kernel
theorem d_Products_withDigit_73 : decode b_Products_withDigit 73 = .ok (.ireturn, 1) := by decide +kernel
theorem d_Products_numberOf_0 : decode b_Products_numberOf 0 = .ok ((.iconst 0), 1) := by decide +kernel
theorem d_Products_numberOf_1 : decode b_Products_numberOf 1 = .ok ((.istore_n 3), 1) := by decide +kernel
theorem d_Products_numberOf_2 : decode b_Products_numberOf 2 = .ok ((.iconst 0), 1) := by decide +kernel
theorem d_Products_numberOf_3 : decode b_Products_numberOf 3 = .ok ((.istore 4), 2) := by decide +kernel
theorem d_Products_numberOf_5 : decode b_Products_numberOf 5 = .ok ((.iload 4), 2) := by decide +kernel
theorem d_Products_numberOf_7 : decode b_Products_numberOf 7 = .ok ((.aload_n 0), 1) := by decide +kernel
theorem d_Products_numberOf_8 : decode b_Products_numberOf 8 = .ok ((.getfield 21), 3) := by decide +kernel
theorem d_Products_numberOf_11 : decode b_Products_numberOf 11 = .ok ((.if_icmp .ge 37), 3) := by decide +kernel
theorem d_Products_numberOf_14 : decode b_Products_numberOf 14 = .ok ((.iload_n 1), 1) := by decide +kernel
theorem d_Products_numberOf_15 : decode b_Products_numberOf 15 = .ok ((.iload 4), 2) := by decide +kernel
theorem d_Products_numberOf_17 : decode b_Products_numberOf 17 = .ok (.ishr, 1) := by decide +kernel
theorem d_Products_numberOf_18 : decode b_Products_numberOf 18 = .ok ((.iconst 1), 1) := by decide +kernel
theorem d_Products_numberOf_19 : decode b_Products_numberOf 19 = .ok (.iand, 1) := by decide +kernel
theorem d_Products_numberOf_20 : decode b_Products_numberOf 20 = .ok ((.ifCond .ne 7), 3) := by decide +kernel
theorem d_Products_numberOf_23 : decode b_Products_numberOf 23 = .ok ((.iconst 2), 1) := by decide +kernel
theorem d_Products_numberOf_24 : decode b_Products_numberOf 24 = .ok ((.goto 9), 3) := by decide +kernel
theorem d_Products_numberOf_27 : decode b_Products_numberOf 27 = .ok ((.iload_n 2), 1) := by decide +kernel
theorem d_Products_numberOf_28 : decode b_Products_numberOf 28 = .ok ((.iload 4), 2) := by decide +kernel
theorem d_Products_numberOf_30 : decode b_Products_numberOf 30 = .ok (.ishr, 1) := by decide +kernel
theorem d_Products_numberOf_31 : decode b_Products_numberOf 31 = .ok ((.iconst 1), 1) := by decide +kernel
theorem d_Products_numberOf_32 : decode b_Products_numberOf 32 = .ok (.iand, 1) := by decide +kernel
theorem d_Products_numberOf_33 : decode b_Products_numberOf 33 = .ok ((.istore 5), 2) := by decide +kernel
theorem d_Products_numberOf_35 : decode b_Products_numberOf 35 = .ok ((.iload_n 3), 1) := by decide +kernel
theorem d_Products_numberOf_36 : decode b_Products_numberOf 36 = .ok ((.iconst 3), 1) := by decide +kernel
theorem d_Products_numberOf_37 : decode b_Products_numberOf 37 = .ok (.imul, 1) := by decide +kernel
theorem d_Products_numberOf_38 : decode b_Products_numberOf 38 = .ok ((.iload 5), 2) := by decide +kernel
theorem d_Products_numberOf_40 : decode b_Products_numberOf 40 = .ok (.iadd, 1) := by decide +kernel
theorem d_Products_numberOf_41 : decode b_Products_numberOf 41 = .ok ((.istore_n 3), 1) := by decide +kernel
theorem d_Products_numberOf_42 : decode b_Products_numberOf 42 = .ok ((.iinc 4 1), 3) := by decide +kernel
theorem d_Products_numberOf_45 : decode b_Products_numberOf 45 = .ok ((.goto (-40)), 3) := by decide +kernel
theorem d_Products_numberOf_48 : decode b_Products_numberOf 48 = .ok ((.iload_n 3), 1) := by decide +kernel
theorem d_Products_numberOf_49 : decode b_Products_numberOf 49 = .ok (.ireturn, 1) := by decide +kernel
theorem d_Products_allFree_0 : decode b_Products_allFree 0 = .ok ((.aload_n 0), 1) := by decide +kernel
theorem d_Products_allFree_1 : decode b_Products_allFree 1 = .ok ((.getfield 31), 3) := by decide +kernel
theorem d_Products_allFree_4 : decode b_Products_allFree 4 = .ok ((.iconst 1), 1) := by decide +kernel
theorem d_Products_allFree_5 : decode b_Products_allFree 5 = .ok (.isub, 1) := by decide +kernel
theorem d_Products_allFree_6 : decode b_Products_allFree 6 = .ok (.ireturn, 1) := by decide +kernel
theorem d_Products_care_0 : decode b_Products_care 0 = .ok ((.aload_n 0), 1) := by decide +kernel
theorem d_Products_care_1 : decode b_Products_care 1 = .ok ((.getfield 9), 3) := by decide +kernel
theorem d_Products_care_4 : decode b_Products_care 4 = .ok ((.iload_n 1), 1) := by decide +kernel
theorem d_Products_care_5 : decode b_Products_care 5 = .ok (.iaload, 1) := by decide +kernel
theorem d_Products_care_6 : decode b_Products_care 6 = .ok (.ireturn, 1) := by decide +kernel
theorem d_Products_bits_0 : decode b_Products_bits 0 = .ok ((.aload_n 0), 1) := by decide +kernel
theorem d_Products_bits_1 : decode b_Products_bits 1 = .ok ((.getfield 15), 3) := by decide +kernel
theorem d_Products_bits_4 : decode b_Products_bits 4 = .ok ((.iload_n 1), 1) := by decide +kernel
theorem d_Products_bits_5 : decode b_Products_bits 5 = .ok (.iaload, 1) := by decide +kernel
theorem d_Products_bits_6 : decode b_Products_bits 6 = .ok (.ireturn, 1) := by decide +kernel
end
section
theorem d_Ref_init_0 : decode b_Ref_init 0 = .ok ((.aload_n 0), 1) := by decide +kernel
theorem d_Ref_init_1 : decode b_Ref_init 1 = .ok ((.invokespecial 1), 3) := by decide +kernel
theorem d_Ref_init_4 : decode b_Ref_init 4 = .ok ((.aload_n 0), 1) := by decide +kernel
theorem d_Ref_init_5 : decode b_Ref_init 5 = .ok ((.bipush 96), 2) := by decide +kernel
theorem d_Ref_init_7 : decode b_Ref_init 7 = .ok ((.newarray .int), 2) := by decide +kernel
theorem d_Ref_init_9 : decode b_Ref_init 9 = .ok ((.putfield 7), 3) := by decide +kernel
theorem d_Ref_init_12 : decode b_Ref_init 12 = .ok ((.aload_n 0), 1) := by decide +kernel
theorem d_Ref_init_13 : decode b_Ref_init 13 = .ok ((.bipush 48), 2) := by decide +kernel
theorem d_Ref_init_15 : decode b_Ref_init 15 = .ok ((.newarray .int), 2) := by decide +kernel
theorem d_Ref_init_17 : decode b_Ref_init 17 = .ok ((.putfield 13), 3) := by decide +kernel
theorem d_Ref_init_20 : decode b_Ref_init 20 = .ok ((.aload_n 0), 1) := by decide +kernel
theorem d_Ref_init_21 : decode b_Ref_init 21 = .ok ((.iconst 2), 1) := by decide +kernel
theorem d_Ref_init_22 : decode b_Ref_init 22 = .ok ((.newarray .int), 2) := by decide +kernel
theorem d_Ref_init_24 : decode b_Ref_init 24 = .ok ((.putfield 16), 3) := by decide +kernel
theorem d_Ref_init_27 : decode b_Ref_init 27 = .ok ((.aload_n 0), 1) := by decide +kernel
theorem d_Ref_init_28 : decode b_Ref_init 28 = .ok ((.iconst 2), 1) := by decide +kernel
theorem d_Ref_init_29 : decode b_Ref_init 29 = .ok ((.newarray .int), 2) := by decide +kernel
theorem d_Ref_init_31 : decode b_Ref_init 31 = .ok ((.putfield 19), 3) := by decide +kernel
theorem d_Ref_init_34 : decode b_Ref_init 34 = .ok ((.aload_n 0), 1) := by decide +kernel
theorem d_Ref_init_35 : decode b_Ref_init 35 = .ok ((.bipush 81), 2) := by decide +kernel
theorem d_Ref_init_37 : decode b_Ref_init 37 = .ok ((.newarray .int), 2) := by decide +kernel
theorem d_Ref_init_39 : decode b_Ref_init 39 = .ok ((.putfield 22), 3) := by decide +kernel
theorem d_Ref_init_42 : decode b_Ref_init 42 = .ok ((.aload_n 0), 1) := by decide +kernel
theorem d_Ref_init_43 : decode b_Ref_init 43 = .ok ((.bipush 81), 2) := by decide +kernel
theorem d_Ref_init_45 : decode b_Ref_init 45 = .ok ((.newarray .int), 2) := by decide +kernel
theorem d_Ref_init_47 : decode b_Ref_init 47 = .ok ((.putfield 25), 3) := by decide +kernel
theorem d_Ref_init_50 : decode b_Ref_init 50 = .ok ((.aload_n 0), 1) := by decide +kernel
theorem d_Ref_init_51 : decode b_Ref_init 51 = .ok ((.bipush 81), 2) := by decide +kernel
theorem d_Ref_init_53 : decode b_Ref_init 53 = .ok ((.newarray .int), 2) := by decide +kernel
theorem d_Ref_init_55 : decode b_Ref_init 55 = .ok ((.putfield 28), 3) := by decide +kernel
theorem d_Ref_init_58 : decode b_Ref_init 58 = .ok ((.aload_n 0), 1) := by decide +kernel
theorem d_Ref_init_59 : decode b_Ref_init 59 = .ok ((.bipush 81), 2) := by decide +kernel
theorem d_Ref_init_61 : decode b_Ref_init 61 = .ok ((.newarray .int), 2) := by decide +kernel
theorem d_Ref_init_63 : decode b_Ref_init 63 = .ok ((.putfield 31), 3) := by decide +kernel
theorem d_Ref_init_66 : decode b_Ref_init 66 = .ok ((.aload_n 0), 1) := by decide +kernel
theorem d_Ref_init_67 : decode b_Ref_init 67 = .ok ((.bipush 82), 2) := by decide +kernel
theorem d_Ref_init_69 : decode b_Ref_init 69 = .ok ((.newarray .int), 2) := by decide +kernel
theorem d_Ref_init_71 : decode b_Ref_init 71 = .ok ((.putfield 34), 3) := by decide +kernel
theorem d_Ref_init_74 : decode b_Ref_init 74 = .ok ((.aload_n 0), 1) := by decide +kernel
theorem d_Ref_init_75 : decode b_Ref_init 75 = .ok ((.bipush 81), 2) := by decide +kernel
theorem d_Ref_init_77 : decode b_Ref_init 77 = .ok ((.newarray .int), 2) := by decide +kernel
theorem d_Ref_init_79 : decode b_Ref_init 79 = .ok ((.putfield 37), 3) := by decide +kernel
theorem d_Ref_init_82 : decode b_Ref_init 82 = .ok ((.aload_n 0), 1) := by decide +kernel
theorem d_Ref_init_83 : decode b_Ref_init 83 = .ok ((.bipush 81), 2) := by decide +kernel
theorem d_Ref_init_85 : decode b_Ref_init 85 = .ok ((.newarray .int), 2) := by decide +kernel
theorem d_Ref_init_87 : decode b_Ref_init 87 = .ok ((.putfield 40), 3) := by decide +kernel
theorem d_Ref_init_90 : decode b_Ref_init 90 = .ok ((.aload_n 0), 1) := by decide +kernel
theorem d_Ref_init_91 : decode b_Ref_init 91 = .ok ((.bipush 81), 2) := by decide +kernel
theorem d_Ref_init_93 : decode b_Ref_init 93 = .ok ((.newarray .int), 2) := by decide +kernel
theorem d_Ref_init_95 : decode b_Ref_init 95 = .ok ((.putfield 43), 3) := by decide +kernel
theorem d_Ref_init_98 : decode b_Ref_init 98 = .ok ((.aload_n 0), 1) := by decide +kernel
theorem d_Ref_init_99 : decode b_Ref_init 99 = .ok ((.bipush 82), 2) := by decide +kernel
theorem d_Ref_init_101 : decode b_Ref_init 101 = .ok ((.newarray .int), 2) := by decide +kernel
theorem d_Ref_init_103 : decode b_Ref_init 103 = .ok ((.putfield 46), 3) := by decide +kernel
theorem d_Ref_init_106 : decode b_Ref_init 106 = .ok ((.aload_n 0), 1) := by decide +kernel
theorem d_Ref_init_107 : decode b_Ref_init 107 = .ok ((.bipush 82), 2) := by decide +kernel
theorem d_Ref_init_109 : decode b_Ref_init 109 = .ok ((.newarray .int), 2) := by decide +kernel
theorem d_Ref_init_111 : decode b_Ref_init 111 = .ok ((.putfield 49), 3) := by decide +kernel
theorem d_Ref_init_114 : decode b_Ref_init 114 = .ok ((.aload_n 0), 1) := by decide +kernel
theorem d_Ref_init_115 : decode b_Ref_init 115 = .ok ((.bipush 64), 2) := by decide +kernel
theorem d_Ref_init_117 : decode b_Ref_init 117 = .ok ((.newarray .int), 2) := by decide +kernel
theorem d_Ref_init_119 : decode b_Ref_init 119 = .ok ((.putfield 52), 3) := by decide +kernel
theorem d_Ref_init_122 : decode b_Ref_init 122 = .ok ((.aload_n 0), 1) := by decide +kernel
theorem d_Ref_init_123 : decode b_Ref_init 123 = .ok ((.iload_n 1), 1) := by decide +kernel
theorem d_Ref_init_124 : decode b_Ref_init 124 = .ok ((.iconst 1), 1) := by decide +kernel
theorem d_Ref_init_125 : decode b_Ref_init 125 = .ok ((.if_icmp .ge 7), 3) := by decide +kernel
theorem d_Ref_init_128 : decode b_Ref_init 128 = .ok ((.iconst 1), 1) := by decide +kernel
theorem d_Ref_init_129 : decode b_Ref_init 129 = .ok ((.goto 13), 3) := by decide +kernel
theorem d_Ref_init_132 : decode b_Ref_init 132 = .ok ((.iload_n 1), 1) := by decide +kernel
theorem d_Ref_init_133 : decode b_Ref_init 133 = .ok ((.iconst 4), 1) := by decide +kernel
theorem d_Ref_init_134 : decode b_Ref_init 134 = .ok ((.if_icmp .le 7), 3) := by decide +kernel
theorem d_Ref_init_137 : decode b_Ref_init 137 = .ok ((.iconst 4), 1) := by decide +kernel
theorem d_Ref_init_138 : decode b_Ref_init 138 = .ok ((.goto 4), 3) := by decide +kernel
theorem d_Ref_init_141 : decode b_Ref_init 141 = .ok ((.iload_n 1), 1) := by decide +kernel
theorem d_Ref_init_142 : decode b_Ref_init 142 = .ok ((.putfield 55), 3) := by decide +kernel
theorem d_Ref_init_145 : decode b_Ref_init 145 = .ok ((.aload_n 0), 1) := by decide +kernel
theorem d_Ref_init_146 : decode b_Ref_init 146 = .ok ((.iload_n 2), 1) := by decide +kernel
theorem d_Ref_init_147 : decode b_Ref_init 147 = .ok ((.iconst 1), 1) := by decide +kernel
theorem d_Ref_init_148 : decode b_Ref_init 148 = .ok ((.if_icmp .ge 7), 3) := by decide +kernel
theorem d_Ref_init_151 : decode b_Ref_init 151 = .ok ((.iconst 1), 1) := by decide +kernel
theorem d_Ref_init_152 : decode b_Ref_init 152 = .ok ((.goto 13), 3) := by decide +kernel
theorem d_Ref_init_155 : decode b_Ref_init 155 = .ok ((.iload_n 2), 1) := by decide +kernel
theorem d_Ref_init_156 : decode b_Ref_init 156 = .ok ((.iconst 2), 1) := by decide +kernel
theorem d_Ref_init_157 : decode b_Ref_init 157 = .ok ((.if_icmp .le 7), 3) := by decide +kernel
theorem d_Ref_init_160 : decode b_Ref_init 160 = .ok ((.iconst 2), 1) := by decide +kernel
theorem d_Ref_init_161 : decode b_Ref_init 161 = .ok ((.goto 4), 3) := by decide +kernel
theorem d_Ref_init_164 : decode b_Ref_init 164 = .ok ((.iload_n 2), 1) := by decide +kernel
theorem d_Ref_init_165 : decode b_Ref_init 165 = .ok ((.putfield 59), 3) := by decide +kernel
theorem d_Ref_init_168 : decode b_Ref_init 168 = .ok ((.iconst 1), 1) := by decide +kernel
theorem d_Ref_init_169 : decode b_Ref_init 169 = .ok ((.istore_n 3), 1) := by decide +kernel
theorem d_Ref_init_170 : decode b_Ref_init 170 = .ok ((.iconst 0), 1) := by decide +kernel
theorem d_Ref_init_171 : decode b_Ref_init 171 = .ok ((.istore 4), 2) := by decide +kernel
theorem d_Ref_init_173 : decode b_Ref_init 173 = .ok ((.iload 4), 2) := by decide +kernel
theorem d_Ref_init_175 : decode b_Ref_init 175 = .ok ((.aload_n 0), 1) := by decide +kernel
theorem d_Ref_init_176 : decode b_Ref_init 176 = .ok ((.getfield 55), 3) := by decide +kernel
theorem d_Ref_init_179 : decode b_Ref_init 179 = .ok ((.if_icmp .ge 13), 3) := by decide +kernel
theorem d_Ref_init_182 : decode b_Ref_init 182 = .ok ((.iconst 3), 1) := by decide +kernel
theorem d_Ref_init_183 : decode b_Ref_init 183 = .ok ((.iload_n 3), 1) := by decide +kernel
theorem d_Ref_init_184 : decode b_Ref_init 184 = .ok (.imul, 1) := by decide +kernel
theorem d_Ref_init_185 : decode b_Ref_init 185 = .ok ((.istore_n 3), 1) := by decide +kernel
theorem d_Ref_init_186 : decode b_Ref_init 186 = .ok ((.iinc 4 1), 3) := by decide +kernel
theorem d_Ref_init_189 : decode b_Ref_init 189 = .ok ((.goto (-16)), 3) := by decide +kernel
theorem d_Ref_init_192 : decode b_Ref_init 192 = .ok ((.aload_n 0), 1) := by decide +kernel
theorem d_Ref_init_193 : decode b_Ref_init 193 = .ok ((.iload_n 3), 1) := by decide +kernel
theorem d_Ref_init_194 : decode b_Ref_init 194 = .ok ((.putfield 62), 3) := by decide +kernel
theorem d_Ref_init_197 : decode b_Ref_init 197 = .ok (.return_, 1) := by decide +kernel
theorem d_Ref_thrown_0 : decode b_Ref_thrown 0 = .ok ((.aload_n 0), 1) := by decide +kernel
theorem d_Ref_thrown_1 : decode b_Ref_thrown 1 = .ok ((.getfield 65), 3) := by decide +kernel
theorem d_Ref_thrown_4 : decode b_Ref_thrown 4 = .ok (.ireturn, 1) := by decide +kernel
theorem d_Ref_cube_0 : decode b_Ref_cube 0 = .ok ((.aload_n 0), 1) := by decide +kernel
theorem d_Ref_cube_1 : decode b_Ref_cube 1 = .ok ((.aload_n 0), 1) := by decide +kernel
theorem d_Ref_cube_2 : decode b_Ref_cube 2 = .ok ((.getfield 72), 3) := by decide +kernel
theorem d_Ref_cube_5 : decode b_Ref_cube 5 = .ok ((.bipush 24), 2) := by decide +kernel
theorem d_Ref_cube_7 : decode b_Ref_cube 7 = .ok ((.if_icmp .ne 7), 3) := by decide +kernel
theorem d_Ref_cube_10 : decode b_Ref_cube 10 = .ok ((.iconst 1), 1) := by decide +kernel
theorem d_Ref_cube_11 : decode b_Ref_cube 11 = .ok ((.goto 4), 3) := by decide +kernel
theorem d_Ref_cube_14 : decode b_Ref_cube 14 = .ok ((.iconst 0), 1) := by decide +kernel
theorem d_Ref_cube_15 : decode b_Ref_cube 15 = .ok ((.putfield 65), 3) := by decide +kernel
theorem d_Ref_cube_18 : decode b_Ref_cube 18 = .ok ((.aload_n 0), 1) := by decide +kernel
theorem d_Ref_cube_19 : decode b_Ref_cube 19 = .ok ((.getfield 65), 3) := by decide +kernel
theorem d_Ref_cube_22 : decode b_Ref_cube 22 = .ok ((.ifCond .le 5), 3) := by decide +kernel
theorem d_Ref_cube_25 : decode b_Ref_cube 25 = .ok ((.iconst 0), 1) := by decide +kernel
theorem d_Ref_cube_26 : decode b_Ref_cube 26 = .ok (.ireturn, 1) := by decide +kernel
theorem d_Ref_cube_27 : decode b_Ref_cube 27 = .ok ((.iconst 0), 1) := by decide +kernel
theorem d_Ref_cube_28 : decode b_Ref_cube 28 = .ok ((.istore_n 1), 1) := by decide +kernel
theorem d_Ref_cube_29 : decode b_Ref_cube 29 = .ok ((.iload_n 1), 1) := by decide +kernel
theorem d_Ref_cube_30 : decode b_Ref_cube 30 = .ok ((.iconst 4), 1) := by decide +kernel
theorem d_Ref_cube_31 : decode b_Ref_cube 31 = .ok ((.if_icmp .ge 23), 3) := by decide +kernel
theorem d_Ref_cube_34 : decode b_Ref_cube 34 = .ok ((.aload_n 0), 1) := by decide +kernel
theorem d_Ref_cube_35 : decode b_Ref_cube 35 = .ok ((.getfield 7), 3) := by decide +kernel
theorem d_Ref_cube_38 : decode b_Ref_cube 38 = .ok ((.iconst 4), 1) := by decide +kernel
theorem d_Ref_cube_39 : decode b_Ref_cube 39 = .ok ((.aload_n 0), 1) := by decide +kernel
theorem d_Ref_cube_40 : decode b_Ref_cube 40 = .ok ((.getfield 72), 3) := by decide +kernel
theorem d_Ref_cube_43 : decode b_Ref_cube 43 = .ok (.imul, 1) := by decide +kernel
theorem d_Ref_cube_44 : decode b_Ref_cube 44 = .ok ((.iload_n 1), 1) := by decide +kernel
theorem d_Ref_cube_45 : decode b_Ref_cube 45 = .ok (.iadd, 1) := by decide +kernel
theorem d_Ref_cube_46 : decode b_Ref_cube 46 = .ok ((.iconst 2), 1) := by decide +kernel
theorem d_Ref_cube_47 : decode b_Ref_cube 47 = .ok (.iastore, 1) := by decide +kernel
theorem d_Ref_cube_48 : decode b_Ref_cube 48 = .ok ((.iinc 1 1), 3) := by decide +kernel
theorem d_Ref_cube_51 : decode b_Ref_cube 51 = .ok ((.goto (-22)), 3) := by decide +kernel
theorem d_Ref_cube_54 : decode b_Ref_cube 54 = .ok ((.aload_n 0), 1) := by decide +kernel
theorem d_Ref_cube_55 : decode b_Ref_cube 55 = .ok ((.getfield 13), 3) := by decide +kernel
theorem d_Ref_cube_58 : decode b_Ref_cube 58 = .ok ((.iconst 2), 1) := by decide +kernel
theorem d_Ref_cube_59 : decode b_Ref_cube 59 = .ok ((.aload_n 0), 1) := by decide +kernel
theorem d_Ref_cube_60 : decode b_Ref_cube 60 = .ok ((.getfield 72), 3) := by decide +kernel
theorem d_Ref_cube_63 : decode b_Ref_cube 63 = .ok (.imul, 1) := by decide +kernel
theorem d_Ref_cube_64 : decode b_Ref_cube 64 = .ok ((.iconst 0), 1) := by decide +kernel
theorem d_Ref_cube_65 : decode b_Ref_cube 65 = .ok (.iastore, 1) := by decide +kernel
theorem d_Ref_cube_66 : decode b_Ref_cube 66 = .ok ((.aload_n 0), 1) := by decide +kernel
theorem d_Ref_cube_67 : decode b_Ref_cube 67 = .ok ((.getfield 13), 3) := by decide +kernel
theorem d_Ref_cube_70 : decode b_Ref_cube 70 = .ok ((.iconst 2), 1) := by decide +kernel
theorem d_Ref_cube_71 : decode b_Ref_cube 71 = .ok ((.aload_n 0), 1) := by decide +kernel
theorem d_Ref_cube_72 : decode b_Ref_cube 72 = .ok ((.getfield 72), 3) := by decide +kernel
theorem d_Ref_cube_75 : decode b_Ref_cube 75 = .ok (.imul, 1) := by decide +kernel
theorem d_Ref_cube_76 : decode b_Ref_cube 76 = .ok ((.iconst 1), 1) := by decide +kernel
theorem d_Ref_cube_77 : decode b_Ref_cube 77 = .ok (.iadd, 1) := by decide +kernel
theorem d_Ref_cube_78 : decode b_Ref_cube 78 = .ok ((.iconst 0), 1) := by decide +kernel
theorem d_Ref_cube_79 : decode b_Ref_cube 79 = .ok (.iastore, 1) := by decide +kernel
theorem d_Ref_cube_80 : decode b_Ref_cube 80 = .ok ((.aload_n 0), 1) := by decide +kernel
theorem d_Ref_cube_81 : decode b_Ref_cube 81 = .ok (.dup, 1) := by decide +kernel
theorem d_Ref_cube_82 : decode b_Ref_cube 82 = .ok ((.getfield 72), 3) := by decide +kernel
theorem d_Ref_cube_85 : decode b_Ref_cube 85 = .ok ((.iconst 1), 1) := by decide +kernel
theorem d_Ref_cube_86 : decode b_Ref_cube 86 = .ok (.iadd, 1) := by decide +kernel
theorem d_Ref_cube_87 : decode b_Ref_cube 87 = .ok ((.putfield 72), 3) := by decide +kernel
theorem d_Ref_cube_90 : decode b_Ref_cube 90 = .ok ((.aload_n 0), 1) := by decide +kernel
theorem d_Ref_cube_91 : decode b_Ref_cube 91 = .ok ((.getfield 72), 3) := by decide +kernel
theorem d_Ref_cube_94 : decode b_Ref_cube 94 = .ok ((.iconst 1), 1) := by decide +kernel
theorem d_Ref_cube_95 : decode b_Ref_cube 95 = .ok (.isub, 1) := by decide +kernel
theorem d_Ref_cube_96 : decode b_Ref_cube 96 = .ok (.ireturn, 1) := by decide +kernel
theorem d_Ref_literal_0 : decode b_Ref_literal 0 = .ok ((.aload_n 0), 1) := by decide +kernel
theorem d_Ref_literal_1 : decode b_Ref_literal 1 = .ok ((.iload_n 1), 1) := by decide +kernel
theorem d_Ref_literal_2 : decode b_Ref_literal 2 = .ok ((.ifCond .lt 23), 3) := by decide +kernel
theorem d_Ref_literal_5 : decode b_Ref_literal 5 = .ok ((.iload_n 1), 1) := by decide +kernel
theorem d_Ref_literal_6 : decode b_Ref_literal 6 = .ok ((.aload_n 0), 1) := by decide +kernel
theorem d_Ref_literal_7 : decode b_Ref_literal 7 = .ok ((.getfield 72), 3) := by decide +kernel
theorem d_Ref_literal_10 : decode b_Ref_literal 10 = .ok ((.if_icmp .ge 15), 3) := by decide +kernel
theorem d_Ref_literal_13 : decode b_Ref_literal 13 = .ok ((.iload_n 2), 1) := by decide +kernel
theorem d_Ref_literal_14 : decode b_Ref_literal 14 = .ok ((.ifCond .lt 11), 3) := by decide +kernel
theorem d_Ref_literal_17 : decode b_Ref_literal 17 = .ok ((.iload_n 2), 1) := by decide +kernel
theorem d_Ref_literal_18 : decode b_Ref_literal 18 = .ok ((.aload_n 0), 1) := by decide +kernel
theorem d_Ref_literal_19 : decode b_Ref_literal 19 = .ok ((.getfield 55), 3) := by decide +kernel
theorem d_Ref_literal_22 : decode b_Ref_literal 22 = .ok ((.if_icmp .lt 7), 3) := by decide +kernel
theorem d_Ref_literal_25 : decode b_Ref_literal 25 = .ok ((.iconst 1), 1) := by decide +kernel
theorem d_Ref_literal_26 : decode b_Ref_literal 26 = .ok ((.goto 17), 3) := by decide +kernel
theorem d_Ref_literal_29 : decode b_Ref_literal 29 = .ok ((.iload_n 3), 1) := by decide +kernel
theorem d_Ref_literal_30 : decode b_Ref_literal 30 = .ok ((.ifCond .lt 8), 3) := by decide +kernel
theorem d_Ref_literal_33 : decode b_Ref_literal 33 = .ok ((.iload_n 3), 1) := by decide +kernel
theorem d_Ref_literal_34 : decode b_Ref_literal 34 = .ok ((.iconst 2), 1) := by decide +kernel
theorem d_Ref_literal_35 : decode b_Ref_literal 35 = .ok ((.if_icmp .le 7), 3) := by decide +kernel
theorem d_Ref_literal_38 : decode b_Ref_literal 38 = .ok ((.iconst 2), 1) := by decide +kernel
theorem d_Ref_literal_39 : decode b_Ref_literal 39 = .ok ((.goto 4), 3) := by decide +kernel
theorem d_Ref_literal_42 : decode b_Ref_literal 42 = .ok ((.iconst 0), 1) := by decide +kernel
theorem d_Ref_literal_43 : decode b_Ref_literal 43 = .ok ((.putfield 65), 3) := by decide +kernel
theorem d_Ref_literal_46 : decode b_Ref_literal 46 = .ok ((.aload_n 0), 1) := by decide +kernel
theorem d_Ref_literal_47 : decode b_Ref_literal 47 = .ok ((.getfield 65), 3) := by decide +kernel
theorem d_Ref_literal_50 : decode b_Ref_literal 50 = .ok ((.ifCond .le 5), 3) := by decide +kernel
theorem d_Ref_literal_53 : decode b_Ref_literal 53 = .ok ((.iconst 0), 1) := by decide +kernel
theorem d_Ref_literal_54 : decode b_Ref_literal 54 = .ok (.ireturn, 1) := by decide +kernel
theorem d_Ref_literal_55 : decode b_Ref_literal 55 = .ok ((.aload_n 0), 1) := by decide +kernel
theorem d_Ref_literal_56 : decode b_Ref_literal 56 = .ok ((.getfield 7), 3) := by decide +kernel
theorem d_Ref_literal_59 : decode b_Ref_literal 59 = .ok ((.iconst 4), 1) := by decide +kernel
theorem d_Ref_literal_60 : decode b_Ref_literal 60 = .ok ((.iload_n 1), 1) := by decide +kernel
theorem d_Ref_literal_61 : decode b_Ref_literal 61 = .ok (.imul, 1) := by decide +kernel
theorem d_Ref_literal_62 : decode b_Ref_literal 62 = .ok ((.iload_n 2), 1) := by decide +kernel
theorem d_Ref_literal_63 : decode b_Ref_literal 63 = .ok (.iadd, 1) := by decide +kernel
theorem d_Ref_literal_64 : decode b_Ref_literal 64 = .ok (.iaload, 1) := by decide +kernel
theorem d_Ref_literal_65 : decode b_Ref_literal 65 = .ok ((.iload_n 3), 1) := by decide +kernel
theorem d_Ref_literal_66 : decode b_Ref_literal 66 = .ok ((.if_icmp .eq 7), 3) := by decide +kernel
theorem d_Ref_literal_69 : decode b_Ref_literal 69 = .ok ((.iconst 1), 1) := by decide +kernel
theorem d_Ref_literal_70 : decode b_Ref_literal 70 = .ok ((.goto 4), 3) := by decide +kernel
theorem d_Ref_literal_73 : decode b_Ref_literal 73 = .ok ((.iconst 0), 1) := by decide +kernel
theorem d_Ref_literal_74 : decode b_Ref_literal 74 = .ok ((.istore 4), 2) := by decide +kernel
theorem d_Ref_literal_76 : decode b_Ref_literal 76 = .ok ((.aload_n 0), 1) := by decide +kernel
theorem d_Ref_literal_77 : decode b_Ref_literal 77 = .ok ((.getfield 7), 3) := by decide +kernel
theorem d_Ref_literal_80 : decode b_Ref_literal 80 = .ok ((.iconst 4), 1) := by decide +kernel
theorem d_Ref_literal_81 : decode b_Ref_literal 81 = .ok ((.iload_n 1), 1) := by decide +kernel
theorem d_Ref_literal_82 : decode b_Ref_literal 82 = .ok (.imul, 1) := by decide +kernel
theorem d_Ref_literal_83 : decode b_Ref_literal 83 = .ok ((.iload_n 2), 1) := by decide +kernel
theorem d_Ref_literal_84 : decode b_Ref_literal 84 = .ok (.iadd, 1) := by decide +kernel
theorem d_Ref_literal_85 : decode b_Ref_literal 85 = .ok ((.iload_n 3), 1) := by decide +kernel
theorem d_Ref_literal_86 : decode b_Ref_literal 86 = .ok (.iastore, 1) := by decide +kernel
theorem d_Ref_literal_87 : decode b_Ref_literal 87 = .ok ((.iload 4), 2) := by decide +kernel
theorem d_Ref_literal_89 : decode b_Ref_literal 89 = .ok (.ireturn, 1) := by decide +kernel
theorem d_Ref_to_0 : decode b_Ref_to 0 = .ok ((.aload_n 0), 1) := by decide +kernel
theorem d_Ref_to_1 : decode b_Ref_to 1 = .ok ((.iload_n 1), 1) := by decide +kernel
theorem d_Ref_to_2 : decode b_Ref_to 2 = .ok ((.ifCond .lt 23), 3) := by decide +kernel
theorem d_Ref_to_5 : decode b_Ref_to 5 = .ok ((.iload_n 1), 1) := by decide +kernel
theorem d_Ref_to_6 : decode b_Ref_to 6 = .ok ((.aload_n 0), 1) := by decide +kernel
theorem d_Ref_to_7 : decode b_Ref_to 7 = .ok ((.getfield 72), 3) := by decide +kernel
theorem d_Ref_to_10 : decode b_Ref_to 10 = .ok ((.if_icmp .ge 15), 3) := by decide +kernel
theorem d_Ref_to_13 : decode b_Ref_to 13 = .ok ((.iload_n 2), 1) := by decide +kernel
theorem d_Ref_to_14 : decode b_Ref_to 14 = .ok ((.ifCond .lt 11), 3) := by decide +kernel
theorem d_Ref_to_17 : decode b_Ref_to 17 = .ok ((.iload_n 2), 1) := by decide +kernel
theorem d_Ref_to_18 : decode b_Ref_to 18 = .ok ((.aload_n 0), 1) := by decide +kernel
theorem d_Ref_to_19 : decode b_Ref_to 19 = .ok ((.getfield 59), 3) := by decide +kernel
theorem d_Ref_to_22 : decode b_Ref_to 22 = .ok ((.if_icmp .lt 7), 3) := by decide +kernel
theorem d_Ref_to_25 : decode b_Ref_to 25 = .ok ((.iconst 1), 1) := by decide +kernel
theorem d_Ref_to_26 : decode b_Ref_to 26 = .ok ((.goto 17), 3) := by decide +kernel
theorem d_Ref_to_29 : decode b_Ref_to 29 = .ok ((.iload_n 3), 1) := by decide +kernel
theorem d_Ref_to_30 : decode b_Ref_to 30 = .ok ((.ifCond .lt 8), 3) := by decide +kernel
theorem d_Ref_to_33 : decode b_Ref_to 33 = .ok ((.iload_n 3), 1) := by decide +kernel
theorem d_Ref_to_34 : decode b_Ref_to 34 = .ok ((.iconst 2), 1) := by decide +kernel
theorem d_Ref_to_35 : decode b_Ref_to 35 = .ok ((.if_icmp .le 7), 3) := by decide +kernel
theorem d_Ref_to_38 : decode b_Ref_to 38 = .ok ((.iconst 2), 1) := by decide +kernel
theorem d_Ref_to_39 : decode b_Ref_to 39 = .ok ((.goto 4), 3) := by decide +kernel
theorem d_Ref_to_42 : decode b_Ref_to 42 = .ok ((.iconst 0), 1) := by decide +kernel
theorem d_Ref_to_43 : decode b_Ref_to 43 = .ok ((.putfield 65), 3) := by decide +kernel
theorem d_Ref_to_46 : decode b_Ref_to 46 = .ok ((.aload_n 0), 1) := by decide +kernel
theorem d_Ref_to_47 : decode b_Ref_to 47 = .ok ((.getfield 65), 3) := by decide +kernel
theorem d_Ref_to_50 : decode b_Ref_to 50 = .ok ((.ifCond .le 5), 3) := by decide +kernel
theorem d_Ref_to_53 : decode b_Ref_to 53 = .ok ((.iconst 0), 1) := by decide +kernel
theorem d_Ref_to_54 : decode b_Ref_to 54 = .ok (.ireturn, 1) := by decide +kernel
theorem d_Ref_to_55 : decode b_Ref_to 55 = .ok ((.aload_n 0), 1) := by decide +kernel
theorem d_Ref_to_56 : decode b_Ref_to 56 = .ok ((.getfield 13), 3) := by decide +kernel
theorem d_Ref_to_59 : decode b_Ref_to 59 = .ok ((.iconst 2), 1) := by decide +kernel
theorem d_Ref_to_60 : decode b_Ref_to 60 = .ok ((.iload_n 1), 1) := by decide +kernel
theorem d_Ref_to_61 : decode b_Ref_to 61 = .ok (.imul, 1) := by decide +kernel
theorem d_Ref_to_62 : decode b_Ref_to 62 = .ok ((.iload_n 2), 1) := by decide +kernel
theorem d_Ref_to_63 : decode b_Ref_to 63 = .ok (.iadd, 1) := by decide +kernel
theorem d_Ref_to_64 : decode b_Ref_to 64 = .ok (.iaload, 1) := by decide +kernel
theorem d_Ref_to_65 : decode b_Ref_to 65 = .ok ((.iload_n 3), 1) := by decide +kernel
theorem d_Ref_to_66 : decode b_Ref_to 66 = .ok ((.if_icmp .eq 7), 3) := by decide +kernel
theorem d_Ref_to_69 : decode b_Ref_to 69 = .ok ((.iconst 1), 1) := by decide +kernel
theorem d_Ref_to_70 : decode b_Ref_to 70 = .ok ((.goto 4), 3) := by decide +kernel
theorem d_Ref_to_73 : decode b_Ref_to 73 = .ok ((.iconst 0), 1) := by decide +kernel
theorem d_Ref_to_74 : decode b_Ref_to 74 = .ok ((.istore 4), 2) := by decide +kernel
theorem d_Ref_to_76 : decode b_Ref_to 76 = .ok ((.aload_n 0), 1) := by decide +kernel
theorem d_Ref_to_77 : decode b_Ref_to 77 = .ok ((.getfield 13), 3) := by decide +kernel
theorem d_Ref_to_80 : decode b_Ref_to 80 = .ok ((.iconst 2), 1) := by decide +kernel
theorem d_Ref_to_81 : decode b_Ref_to 81 = .ok ((.iload_n 1), 1) := by decide +kernel
theorem d_Ref_to_82 : decode b_Ref_to 82 = .ok (.imul, 1) := by decide +kernel
theorem d_Ref_to_83 : decode b_Ref_to 83 = .ok ((.iload_n 2), 1) := by decide +kernel
theorem d_Ref_to_84 : decode b_Ref_to 84 = .ok (.iadd, 1) := by decide +kernel
theorem d_Ref_to_85 : decode b_Ref_to 85 = .ok ((.iload_n 3), 1) := by decide +kernel
theorem d_Ref_to_86 : decode b_Ref_to 86 = .ok (.iastore, 1) := by decide +kernel
theorem d_Ref_to_87 : decode b_Ref_to 87 = .ok ((.iload 4), 2) := by decide +kernel
theorem d_Ref_to_89 : decode b_Ref_to 89 = .ok (.ireturn, 1) := by decide +kernel
theorem d_Ref_primes_0 : decode b_Ref_primes 0 = .ok ((.aload_n 0), 1) := by decide +kernel
theorem d_Ref_primes_1 : decode b_Ref_primes 1 = .ok ((.iconst 0), 1) := by decide +kernel
theorem d_Ref_primes_2 : decode b_Ref_primes 2 = .ok ((.putfield 65), 3) := by decide +kernel
theorem d_Ref_primes_5 : decode b_Ref_primes 5 = .ok ((.aload_n 0), 1) := by decide +kernel
theorem d_Ref_primes_6 : decode b_Ref_primes 6 = .ok ((.invokevirtual 91), 3) := by decide +kernel
theorem d_Ref_primes_9 : decode b_Ref_primes 9 = .ok ((.aload_n 0), 1) := by decide +kernel
theorem d_Ref_primes_10 : decode b_Ref_primes 10 = .ok ((.getfield 82), 3) := by decide +kernel
theorem d_Ref_primes_13 : decode b_Ref_primes 13 = .ok (.ireturn, 1) := by decide +kernel
theorem d_Ref_findPrimes_0 : decode b_Ref_findPrimes 0 = .ok ((.aload_n 0), 1) := by decide +kernel
theorem d_Ref_findPrimes_1 : decode b_Ref_findPrimes 1 = .ok ((.invokevirtual 79), 3) := by decide +kernel
theorem d_Ref_findPrimes_4 : decode b_Ref_findPrimes 4 = .ok ((.aload_n 0), 1) := by decide +kernel
theorem d_Ref_findPrimes_5 : decode b_Ref_findPrimes 5 = .ok ((.iconst 0), 1) := by decide +kernel
theorem d_Ref_findPrimes_6 : decode b_Ref_findPrimes 6 = .ok ((.putfield 82), 3) := by decide +kernel
theorem d_Ref_findPrimes_9 : decode b_Ref_findPrimes 9 = .ok ((.iconst 0), 1) := by decide +kernel
theorem d_Ref_findPrimes_10 : decode b_Ref_findPrimes 10 = .ok ((.istore_n 1), 1) := by decide +kernel
theorem d_Ref_findPrimes_11 : decode b_Ref_findPrimes 11 = .ok ((.iload_n 1), 1) := by decide +kernel
theorem d_Ref_findPrimes_12 : decode b_Ref_findPrimes 12 = .ok ((.aload_n 0), 1) := by decide +kernel
theorem d_Ref_findPrimes_13 : decode b_Ref_findPrimes 13 = .ok ((.getfield 62), 3) := by decide +kernel
theorem d_Ref_findPrimes_16 : decode b_Ref_findPrimes 16 = .ok ((.if_icmp .ge 193), 3) := by decide +kernel
theorem d_Ref_findPrimes_19 : decode b_Ref_findPrimes 19 = .ok ((.aload_n 0), 1) := by decide +kernel
theorem d_Ref_findPrimes_20 : decode b_Ref_findPrimes 20 = .ok ((.iload_n 1), 1) := by decide +kernel
theorem d_Ref_findPrimes_21 : decode b_Ref_findPrimes 21 = .ok ((.invokevirtual 85), 3) := by decide +kernel
theorem d_Ref_findPrimes_24 : decode b_Ref_findPrimes 24 = .ok ((.istore_n 2), 1) := by decide +kernel
theorem d_Ref_findPrimes_25 : decode b_Ref_findPrimes 25 = .ok ((.aload_n 0), 1) := by decide +kernel
theorem d_Ref_findPrimes_26 : decode b_Ref_findPrimes 26 = .ok ((.iload_n 1), 1) := by decide +kernel
theorem d_Ref_findPrimes_27 : decode b_Ref_findPrimes 27 = .ok ((.invokevirtual 75), 3) := by decide +kernel
theorem d_Ref_findPrimes_30 : decode b_Ref_findPrimes 30 = .ok ((.istore_n 3), 1) := by decide +kernel
theorem d_Ref_findPrimes_31 : decode b_Ref_findPrimes 31 = .ok ((.iload_n 2), 1) := by decide +kernel
theorem d_Ref_findPrimes_32 : decode b_Ref_findPrimes 32 = .ok ((.ifCond .le 7), 3) := by decide +kernel
theorem d_Ref_findPrimes_35 : decode b_Ref_findPrimes 35 = .ok ((.iconst 1), 1) := by decide +kernel
theorem d_Ref_findPrimes_36 : decode b_Ref_findPrimes 36 = .ok ((.goto 4), 3) := by decide +kernel
theorem d_Ref_findPrimes_39 : decode b_Ref_findPrimes 39 = .ok ((.iconst 0), 1) := by decide +kernel
theorem d_Ref_findPrimes_40 : decode b_Ref_findPrimes 40 = .ok ((.istore 4), 2) := by decide +kernel
theorem d_Ref_findPrimes_42 : decode b_Ref_findPrimes 42 = .ok ((.iconst 0), 1) := by decide +kernel
theorem d_Ref_findPrimes_43 : decode b_Ref_findPrimes 43 = .ok ((.istore 5), 2) := by decide +kernel
theorem d_Ref_findPrimes_45 : decode b_Ref_findPrimes 45 = .ok ((.iload 5), 2) := by decide +kernel
theorem d_Ref_findPrimes_47 : decode b_Ref_findPrimes 47 = .ok ((.aload_n 0), 1) := by decide +kernel
theorem d_Ref_findPrimes_48 : decode b_Ref_findPrimes 48 = .ok ((.getfield 62), 3) := by decide +kernel
theorem d_Ref_findPrimes_51 : decode b_Ref_findPrimes 51 = .ok ((.if_icmp .ge 53), 3) := by decide +kernel
theorem d_Ref_findPrimes_54 : decode b_Ref_findPrimes 54 = .ok ((.iload 4), 2) := by decide +kernel
theorem d_Ref_findPrimes_56 : decode b_Ref_findPrimes 56 = .ok ((.ifCond .eq 48), 3) := by decide +kernel
theorem d_Ref_findPrimes_59 : decode b_Ref_findPrimes 59 = .ok ((.iload 5), 2) := by decide +kernel
theorem d_Ref_findPrimes_61 : decode b_Ref_findPrimes 61 = .ok ((.iload_n 1), 1) := by decide +kernel
theorem d_Ref_findPrimes_62 : decode b_Ref_findPrimes 62 = .ok ((.if_icmp .eq 29), 3) := by decide +kernel
theorem d_Ref_findPrimes_65 : decode b_Ref_findPrimes 65 = .ok ((.iload_n 3), 1) := by decide +kernel
theorem d_Ref_findPrimes_66 : decode b_Ref_findPrimes 66 = .ok ((.aload_n 0), 1) := by decide +kernel
theorem d_Ref_findPrimes_67 : decode b_Ref_findPrimes 67 = .ok ((.iload 5), 2) := by decide +kernel
theorem d_Ref_findPrimes_69 : decode b_Ref_findPrimes 69 = .ok ((.invokevirtual 75), 3) := by decide +kernel
theorem d_Ref_findPrimes_72 : decode b_Ref_findPrimes 72 = .ok ((.iconst (-1)), 1) := by decide +kernel
theorem d_Ref_findPrimes_73 : decode b_Ref_findPrimes 73 = .ok (.ixor, 1) := by decide +kernel
theorem d_Ref_findPrimes_74 : decode b_Ref_findPrimes 74 = .ok (.iand, 1) := by decide +kernel
theorem d_Ref_findPrimes_75 : decode b_Ref_findPrimes 75 = .ok ((.ifCond .ne 16), 3) := by decide +kernel
theorem d_Ref_findPrimes_78 : decode b_Ref_findPrimes 78 = .ok ((.iload_n 2), 1) := by decide +kernel
theorem d_Ref_findPrimes_79 : decode b_Ref_findPrimes 79 = .ok ((.aload_n 0), 1) := by decide +kernel
theorem d_Ref_findPrimes_80 : decode b_Ref_findPrimes 80 = .ok ((.iload 5), 2) := by decide +kernel
theorem d_Ref_findPrimes_82 : decode b_Ref_findPrimes 82 = .ok ((.invokevirtual 85), 3) := by decide +kernel
theorem d_Ref_findPrimes_85 : decode b_Ref_findPrimes 85 = .ok ((.iconst (-1)), 1) := by decide +kernel
theorem d_Ref_findPrimes_86 : decode b_Ref_findPrimes 86 = .ok (.ixor, 1) := by decide +kernel
theorem d_Ref_findPrimes_87 : decode b_Ref_findPrimes 87 = .ok (.iand, 1) := by decide +kernel
theorem d_Ref_findPrimes_88 : decode b_Ref_findPrimes 88 = .ok ((.ifCond .eq 7), 3) := by decide +kernel
theorem d_Ref_findPrimes_91 : decode b_Ref_findPrimes 91 = .ok ((.iconst 1), 1) := by decide +kernel
theorem d_Ref_findPrimes_92 : decode b_Ref_findPrimes 92 = .ok ((.goto 4), 3) := by decide +kernel
theorem d_Ref_findPrimes_95 : decode b_Ref_findPrimes 95 = .ok ((.iconst 0), 1) := by decide +kernel
theorem d_Ref_findPrimes_96 : decode b_Ref_findPrimes 96 = .ok ((.istore 4), 2) := by decide +kernel
theorem d_Ref_findPrimes_98 : decode b_Ref_findPrimes 98 = .ok ((.iinc 5 1), 3) := by decide +kernel
theorem d_Ref_findPrimes_101 : decode b_Ref_findPrimes 101 = .ok ((.goto (-56)), 3) := by decide +kernel
theorem d_Ref_findPrimes_104 : decode b_Ref_findPrimes 104 = .ok ((.iload 4), 2) := by decide +kernel
theorem d_Ref_findPrimes_106 : decode b_Ref_findPrimes 106 = .ok ((.ifCond .eq 97), 3) := by decide +kernel
theorem d_Ref_findPrimes_109 : decode b_Ref_findPrimes 109 = .ok ((.aload_n 0), 1) := by decide +kernel
theorem d_Ref_findPrimes_110 : decode b_Ref_findPrimes 110 = .ok ((.getfield 22), 3) := by decide +kernel
theorem d_Ref_findPrimes_113 : decode b_Ref_findPrimes 113 = .ok ((.aload_n 0), 1) := by decide +kernel
theorem d_Ref_findPrimes_114 : decode b_Ref_findPrimes 114 = .ok ((.getfield 82), 3) := by decide +kernel
theorem d_Ref_findPrimes_117 : decode b_Ref_findPrimes 117 = .ok ((.iload_n 1), 1) := by decide +kernel
theorem d_Ref_findPrimes_118 : decode b_Ref_findPrimes 118 = .ok (.iastore, 1) := by decide +kernel
theorem d_Ref_findPrimes_119 : decode b_Ref_findPrimes 119 = .ok ((.aload_n 0), 1) := by decide +kernel
theorem d_Ref_findPrimes_120 : decode b_Ref_findPrimes 120 = .ok ((.getfield 25), 3) := by decide +kernel
theorem d_Ref_findPrimes_123 : decode b_Ref_findPrimes 123 = .ok ((.aload_n 0), 1) := by decide +kernel
theorem d_Ref_findPrimes_124 : decode b_Ref_findPrimes 124 = .ok ((.getfield 82), 3) := by decide +kernel
theorem d_Ref_findPrimes_127 : decode b_Ref_findPrimes 127 = .ok ((.iload_n 2), 1) := by decide +kernel
theorem d_Ref_findPrimes_128 : decode b_Ref_findPrimes 128 = .ok (.iastore, 1) := by decide +kernel
theorem d_Ref_findPrimes_129 : decode b_Ref_findPrimes 129 = .ok ((.aload_n 0), 1) := by decide +kernel
theorem d_Ref_findPrimes_130 : decode b_Ref_findPrimes 130 = .ok ((.getfield 28), 3) := by decide +kernel
theorem d_Ref_findPrimes_133 : decode b_Ref_findPrimes 133 = .ok ((.aload_n 0), 1) := by decide +kernel
theorem d_Ref_findPrimes_134 : decode b_Ref_findPrimes 134 = .ok ((.getfield 82), 3) := by decide +kernel
theorem d_Ref_findPrimes_137 : decode b_Ref_findPrimes 137 = .ok ((.aload_n 0), 1) := by decide +kernel
theorem d_Ref_findPrimes_138 : decode b_Ref_findPrimes 138 = .ok ((.iload_n 1), 1) := by decide +kernel
theorem d_Ref_findPrimes_139 : decode b_Ref_findPrimes 139 = .ok ((.iload_n 2), 1) := by decide +kernel
theorem d_Ref_findPrimes_140 : decode b_Ref_findPrimes 140 = .ok ((.invokevirtual 88), 3) := by decide +kernel
theorem d_Ref_findPrimes_143 : decode b_Ref_findPrimes 143 = .ok (.iastore, 1) := by decide +kernel
theorem d_Ref_findPrimes_144 : decode b_Ref_findPrimes 144 = .ok ((.aload_n 0), 1) := by decide +kernel
theorem d_Ref_findPrimes_145 : decode b_Ref_findPrimes 145 = .ok ((.getfield 31), 3) := by decide +kernel
theorem d_Ref_findPrimes_148 : decode b_Ref_findPrimes 148 = .ok ((.aload_n 0), 1) := by decide +kernel
theorem d_Ref_findPrimes_149 : decode b_Ref_findPrimes 149 = .ok ((.getfield 82), 3) := by decide +kernel
theorem d_Ref_findPrimes_152 : decode b_Ref_findPrimes 152 = .ok ((.iload_n 2), 1) := by decide +kernel
theorem d_Ref_findPrimes_153 : decode b_Ref_findPrimes 153 = .ok ((.iconst 1), 1) := by decide +kernel
theorem d_Ref_findPrimes_154 : decode b_Ref_findPrimes 154 = .ok (.iand, 1) := by decide +kernel
theorem d_Ref_findPrimes_155 : decode b_Ref_findPrimes 155 = .ok ((.iconst 1), 1) := by decide +kernel
theorem d_Ref_findPrimes_156 : decode b_Ref_findPrimes 156 = .ok ((.if_icmp .ne 14), 3) := by decide +kernel
theorem d_Ref_findPrimes_159 : decode b_Ref_findPrimes 159 = .ok ((.iload_n 3), 1) := by decide +kernel
theorem d_Ref_findPrimes_160 : decode b_Ref_findPrimes 160 = .ok ((.aload_n 0), 1) := by decide +kernel
theorem d_Ref_findPrimes_161 : decode b_Ref_findPrimes 161 = .ok ((.getfield 16), 3) := by decide +kernel
theorem d_Ref_findPrimes_164 : decode b_Ref_findPrimes 164 = .ok ((.iconst 0), 1) := by decide +kernel
theorem d_Ref_findPrimes_165 : decode b_Ref_findPrimes 165 = .ok (.iaload, 1) := by decide +kernel
theorem d_Ref_findPrimes_166 : decode b_Ref_findPrimes 166 = .ok (.iand, 1) := by decide +kernel
theorem d_Ref_findPrimes_167 : decode b_Ref_findPrimes 167 = .ok ((.goto 4), 3) := by decide +kernel
theorem d_Ref_findPrimes_170 : decode b_Ref_findPrimes 170 = .ok ((.iconst 0), 1) := by decide +kernel
theorem d_Ref_findPrimes_171 : decode b_Ref_findPrimes 171 = .ok ((.iload_n 2), 1) := by decide +kernel
theorem d_Ref_findPrimes_172 : decode b_Ref_findPrimes 172 = .ok ((.iconst 1), 1) := by decide +kernel
theorem d_Ref_findPrimes_173 : decode b_Ref_findPrimes 173 = .ok ((.if_icmp .le 17), 3) := by decide +kernel
theorem d_Ref_findPrimes_176 : decode b_Ref_findPrimes 176 = .ok ((.iload_n 3), 1) := by decide +kernel
theorem d_Ref_findPrimes_177 : decode b_Ref_findPrimes 177 = .ok ((.aload_n 0), 1) := by decide +kernel
theorem d_Ref_findPrimes_178 : decode b_Ref_findPrimes 178 = .ok ((.getfield 16), 3) := by decide +kernel
theorem d_Ref_findPrimes_181 : decode b_Ref_findPrimes 181 = .ok ((.iconst 1), 1) := by decide +kernel
theorem d_Ref_findPrimes_182 : decode b_Ref_findPrimes 182 = .ok (.iaload, 1) := by decide +kernel
theorem d_Ref_findPrimes_183 : decode b_Ref_findPrimes 183 = .ok (.iand, 1) := by decide +kernel
theorem d_Ref_findPrimes_184 : decode b_Ref_findPrimes 184 = .ok ((.bipush 16), 2) := by decide +kernel
theorem d_Ref_findPrimes_186 : decode b_Ref_findPrimes 186 = .ok (.ishl, 1) := by decide +kernel
theorem d_Ref_findPrimes_187 : decode b_Ref_findPrimes 187 = .ok ((.goto 4), 3) := by decide +kernel
theorem d_Ref_findPrimes_190 : decode b_Ref_findPrimes 190 = .ok ((.iconst 0), 1) := by decide +kernel
theorem d_Ref_findPrimes_191 : decode b_Ref_findPrimes 191 = .ok (.ior, 1) := by decide +kernel
theorem d_Ref_findPrimes_192 : decode b_Ref_findPrimes 192 = .ok (.iastore, 1) := by decide +kernel
theorem d_Ref_findPrimes_193 : decode b_Ref_findPrimes 193 = .ok ((.aload_n 0), 1) := by decide +kernel
theorem d_Ref_findPrimes_194 : decode b_Ref_findPrimes 194 = .ok (.dup, 1) := by decide +kernel
theorem d_Ref_findPrimes_195 : decode b_Ref_findPrimes 195 = .ok ((.getfield 82), 3) := by decide +kernel
theorem d_Ref_findPrimes_198 : decode b_Ref_findPrimes 198 = .ok ((.iconst 1), 1) := by decide +kernel
theorem d_Ref_findPrimes_199 : decode b_Ref_findPrimes 199 = .ok (.iadd, 1) := by decide +kernel
theorem d_Ref_findPrimes_200 : decode b_Ref_findPrimes 200 = .ok ((.putfield 82), 3) := by decide +kernel
theorem d_Ref_findPrimes_203 : decode b_Ref_findPrimes 203 = .ok ((.iinc 1 1), 3) := by decide +kernel
theorem d_Ref_findPrimes_206 : decode b_Ref_findPrimes 206 = .ok ((.goto (-195)), 3) := by decide +kernel
theorem d_Ref_findPrimes_209 : decode b_Ref_findPrimes 209 = .ok (.return_, 1) := by decide +kernel
theorem d_Ref_work_0 : decode b_Ref_work 0 = .ok ((.iconst 0), 1) := by decide +kernel
theorem d_Ref_work_1 : decode b_Ref_work 1 = .ok ((.istore_n 1), 1) := by decide +kernel
theorem d_Ref_work_2 : decode b_Ref_work 2 = .ok ((.iload_n 1), 1) := by decide +kernel
theorem d_Ref_work_3 : decode b_Ref_work 3 = .ok ((.iconst 2), 1) := by decide +kernel
theorem d_Ref_work_4 : decode b_Ref_work 4 = .ok ((.if_icmp .ge 157), 3) := by decide +kernel
theorem d_Ref_work_7 : decode b_Ref_work 7 = .ok ((.aload_n 0), 1) := by decide +kernel
theorem d_Ref_work_8 : decode b_Ref_work 8 = .ok ((.getfield 16), 3) := by decide +kernel
theorem d_Ref_work_11 : decode b_Ref_work 11 = .ok ((.iload_n 1), 1) := by decide +kernel
theorem d_Ref_work_12 : decode b_Ref_work 12 = .ok ((.iconst 0), 1) := by decide +kernel
theorem d_Ref_work_13 : decode b_Ref_work 13 = .ok (.iastore, 1) := by decide +kernel
theorem d_Ref_work_14 : decode b_Ref_work 14 = .ok ((.aload_n 0), 1) := by decide +kernel
theorem d_Ref_work_15 : decode b_Ref_work 15 = .ok ((.getfield 19), 3) := by decide +kernel
theorem d_Ref_work_18 : decode b_Ref_work 18 = .ok ((.iload_n 1), 1) := by decide +kernel
theorem d_Ref_work_19 : decode b_Ref_work 19 = .ok ((.iconst 0), 1) := by decide +kernel
theorem d_Ref_work_20 : decode b_Ref_work 20 = .ok (.iastore, 1) := by decide +kernel
theorem d_Ref_work_21 : decode b_Ref_work 21 = .ok ((.iconst 0), 1) := by decide +kernel
theorem d_Ref_work_22 : decode b_Ref_work 22 = .ok ((.istore_n 2), 1) := by decide +kernel
theorem d_Ref_work_23 : decode b_Ref_work 23 = .ok ((.iload_n 2), 1) := by decide +kernel
theorem d_Ref_work_24 : decode b_Ref_work 24 = .ok ((.aload_n 0), 1) := by decide +kernel
theorem d_Ref_work_25 : decode b_Ref_work 25 = .ok ((.getfield 72), 3) := by decide +kernel
theorem d_Ref_work_28 : decode b_Ref_work 28 = .ok ((.if_icmp .ge 127), 3) := by decide +kernel
theorem d_Ref_work_31 : decode b_Ref_work 31 = .ok ((.iconst 0), 1) := by decide +kernel
theorem d_Ref_work_32 : decode b_Ref_work 32 = .ok ((.istore_n 3), 1) := by decide +kernel
theorem d_Ref_work_33 : decode b_Ref_work 33 = .ok ((.iconst 0), 1) := by decide +kernel
theorem d_Ref_work_34 : decode b_Ref_work 34 = .ok ((.istore 4), 2) := by decide +kernel
theorem d_Ref_work_36 : decode b_Ref_work 36 = .ok ((.iload 4), 2) := by decide +kernel
theorem d_Ref_work_38 : decode b_Ref_work 38 = .ok ((.aload_n 0), 1) := by decide +kernel
theorem d_Ref_work_39 : decode b_Ref_work 39 = .ok ((.getfield 55), 3) := by decide +kernel
theorem d_Ref_work_42 : decode b_Ref_work 42 = .ok ((.if_icmp .ge 25), 3) := by decide +kernel
theorem d_Ref_work_45 : decode b_Ref_work 45 = .ok ((.iconst 3), 1) := by decide +kernel
theorem d_Ref_work_46 : decode b_Ref_work 46 = .ok ((.iload_n 3), 1) := by decide +kernel
theorem d_Ref_work_47 : decode b_Ref_work 47 = .ok (.imul, 1) := by decide +kernel
theorem d_Ref_work_48 : decode b_Ref_work 48 = .ok ((.aload_n 0), 1) := by decide +kernel
theorem d_Ref_work_49 : decode b_Ref_work 49 = .ok ((.getfield 7), 3) := by decide +kernel
theorem d_Ref_work_52 : decode b_Ref_work 52 = .ok ((.iconst 4), 1) := by decide +kernel
theorem d_Ref_work_53 : decode b_Ref_work 53 = .ok ((.iload_n 2), 1) := by decide +kernel
theorem d_Ref_work_54 : decode b_Ref_work 54 = .ok (.imul, 1) := by decide +kernel
theorem d_Ref_work_55 : decode b_Ref_work 55 = .ok ((.iload 4), 2) := by decide +kernel
theorem d_Ref_work_57 : decode b_Ref_work 57 = .ok (.iadd, 1) := by decide +kernel
theorem d_Ref_work_58 : decode b_Ref_work 58 = .ok (.iaload, 1) := by decide +kernel
theorem d_Ref_work_59 : decode b_Ref_work 59 = .ok (.iadd, 1) := by decide +kernel
theorem d_Ref_work_60 : decode b_Ref_work 60 = .ok ((.istore_n 3), 1) := by decide +kernel
theorem d_Ref_work_61 : decode b_Ref_work 61 = .ok ((.iinc 4 1), 3) := by decide +kernel
theorem d_Ref_work_64 : decode b_Ref_work 64 = .ok ((.goto (-28)), 3) := by decide +kernel
theorem d_Ref_work_67 : decode b_Ref_work 67 = .ok ((.aload_n 0), 1) := by decide +kernel
theorem d_Ref_work_68 : decode b_Ref_work 68 = .ok ((.iload_n 3), 1) := by decide +kernel
theorem d_Ref_work_69 : decode b_Ref_work 69 = .ok ((.invokevirtual 75), 3) := by decide +kernel
theorem d_Ref_work_72 : decode b_Ref_work 72 = .ok ((.istore 4), 2) := by decide +kernel
theorem d_Ref_work_74 : decode b_Ref_work 74 = .ok ((.aload_n 0), 1) := by decide +kernel
theorem d_Ref_work_75 : decode b_Ref_work 75 = .ok ((.getfield 16), 3) := by decide +kernel
theorem d_Ref_work_78 : decode b_Ref_work 78 = .ok ((.iload_n 1), 1) := by decide +kernel
theorem d_Ref_work_79 : decode b_Ref_work 79 = .ok ((.aload_n 0), 1) := by decide +kernel
theorem d_Ref_work_80 : decode b_Ref_work 80 = .ok ((.getfield 13), 3) := by decide +kernel
theorem d_Ref_work_83 : decode b_Ref_work 83 = .ok ((.iconst 2), 1) := by decide +kernel
theorem d_Ref_work_84 : decode b_Ref_work 84 = .ok ((.iload_n 2), 1) := by decide +kernel
theorem d_Ref_work_85 : decode b_Ref_work 85 = .ok (.imul, 1) := by decide +kernel
theorem d_Ref_work_86 : decode b_Ref_work 86 = .ok ((.iload_n 1), 1) := by decide +kernel
theorem d_Ref_work_87 : decode b_Ref_work 87 = .ok (.iadd, 1) := by decide +kernel
theorem d_Ref_work_88 : decode b_Ref_work 88 = .ok (.iaload, 1) := by decide +kernel
theorem d_Ref_work_89 : decode b_Ref_work 89 = .ok ((.iconst 1), 1) := by decide +kernel
theorem d_Ref_work_90 : decode b_Ref_work 90 = .ok ((.if_icmp .ne 15), 3) := by decide +kernel
theorem d_Ref_work_93 : decode b_Ref_work 93 = .ok ((.aload_n 0), 1) := by decide +kernel
theorem d_Ref_work_94 : decode b_Ref_work 94 = .ok ((.getfield 16), 3) := by decide +kernel
theorem d_Ref_work_97 : decode b_Ref_work 97 = .ok ((.iload_n 1), 1) := by decide +kernel
theorem d_Ref_work_98 : decode b_Ref_work 98 = .ok (.iaload, 1) := by decide +kernel
theorem d_Ref_work_99 : decode b_Ref_work 99 = .ok ((.iload 4), 2) := by decide +kernel
theorem d_Ref_work_101 : decode b_Ref_work 101 = .ok (.ior, 1) := by decide +kernel
theorem d_Ref_work_102 : decode b_Ref_work 102 = .ok ((.goto 9), 3) := by decide +kernel
theorem d_Ref_work_105 : decode b_Ref_work 105 = .ok ((.aload_n 0), 1) := by decide +kernel
theorem d_Ref_work_106 : decode b_Ref_work 106 = .ok ((.getfield 16), 3) := by decide +kernel
theorem d_Ref_work_109 : decode b_Ref_work 109 = .ok ((.iload_n 1), 1) := by decide +kernel
theorem d_Ref_work_110 : decode b_Ref_work 110 = .ok (.iaload, 1) := by decide +kernel
theorem d_Ref_work_111 : decode b_Ref_work 111 = .ok (.iastore, 1) := by decide +kernel
theorem d_Ref_work_112 : decode b_Ref_work 112 = .ok ((.aload_n 0), 1) := by decide +kernel
theorem d_Ref_work_113 : decode b_Ref_work 113 = .ok ((.getfield 19), 3) := by decide +kernel
theorem d_Ref_work_116 : decode b_Ref_work 116 = .ok ((.iload_n 1), 1) := by decide +kernel
theorem d_Ref_work_117 : decode b_Ref_work 117 = .ok ((.aload_n 0), 1) := by decide +kernel
theorem d_Ref_work_118 : decode b_Ref_work 118 = .ok ((.getfield 13), 3) := by decide +kernel
theorem d_Ref_work_121 : decode b_Ref_work 121 = .ok ((.iconst 2), 1) := by decide +kernel
theorem d_Ref_work_122 : decode b_Ref_work 122 = .ok ((.iload_n 2), 1) := by decide +kernel
theorem d_Ref_work_123 : decode b_Ref_work 123 = .ok (.imul, 1) := by decide +kernel
theorem d_Ref_work_124 : decode b_Ref_work 124 = .ok ((.iload_n 1), 1) := by decide +kernel
theorem d_Ref_work_125 : decode b_Ref_work 125 = .ok (.iadd, 1) := by decide +kernel
theorem d_Ref_work_126 : decode b_Ref_work 126 = .ok (.iaload, 1) := by decide +kernel
theorem d_Ref_work_127 : decode b_Ref_work 127 = .ok ((.ifCond .le 15), 3) := by decide +kernel
theorem d_Ref_work_130 : decode b_Ref_work 130 = .ok ((.aload_n 0), 1) := by decide +kernel
theorem d_Ref_work_131 : decode b_Ref_work 131 = .ok ((.getfield 19), 3) := by decide +kernel
theorem d_Ref_work_134 : decode b_Ref_work 134 = .ok ((.iload_n 1), 1) := by decide +kernel
theorem d_Ref_work_135 : decode b_Ref_work 135 = .ok (.iaload, 1) := by decide +kernel
theorem d_Ref_work_136 : decode b_Ref_work 136 = .ok ((.iload 4), 2) := by decide +kernel
theorem d_Ref_work_138 : decode b_Ref_work 138 = .ok (.ior, 1) := by decide +kernel
theorem d_Ref_work_139 : decode b_Ref_work 139 = .ok ((.goto 9), 3) := by decide +kernel
theorem d_Ref_work_142 : decode b_Ref_work 142 = .ok ((.aload_n 0), 1) := by decide +kernel
theorem d_Ref_work_143 : decode b_Ref_work 143 = .ok ((.getfield 19), 3) := by decide +kernel
theorem d_Ref_work_146 : decode b_Ref_work 146 = .ok ((.iload_n 1), 1) := by decide +kernel
theorem d_Ref_work_147 : decode b_Ref_work 147 = .ok (.iaload, 1) := by decide +kernel
theorem d_Ref_work_148 : decode b_Ref_work 148 = .ok (.iastore, 1) := by decide +kernel
theorem d_Ref_work_149 : decode b_Ref_work 149 = .ok ((.iinc 2 1), 3) := by decide +kernel
theorem d_Ref_work_152 : decode b_Ref_work 152 = .ok ((.goto (-129)), 3) := by decide +kernel
theorem d_Ref_work_155 : decode b_Ref_work 155 = .ok ((.iinc 1 1), 3) := by decide +kernel
theorem d_Ref_work_158 : decode b_Ref_work 158 = .ok ((.goto (-156)), 3) := by decide +kernel
theorem d_Ref_work_161 : decode b_Ref_work 161 = .ok (.return_, 1) := by decide +kernel
theorem d_Ref_points_0 : decode b_Ref_points 0 = .ok ((.iconst 0), 1) := by decide +kernel
theorem d_Ref_points_1 : decode b_Ref_points 1 = .ok ((.istore_n 2), 1) := by decide +kernel
theorem d_Ref_points_2 : decode b_Ref_points 2 = .ok ((.iconst 0), 1) := by decide +kernel
theorem d_Ref_points_3 : decode b_Ref_points 3 = .ok ((.istore_n 3), 1) := by decide +kernel
theorem d_Ref_points_4 : decode b_Ref_points 4 = .ok ((.iload_n 3), 1) := by decide +kernel
theorem d_Ref_points_5 : decode b_Ref_points 5 = .ok ((.iconst 1), 1) := by decide +kernel
theorem d_Ref_points_6 : decode b_Ref_points 6 = .ok ((.aload_n 0), 1) := by decide +kernel
theorem d_Ref_points_7 : decode b_Ref_points 7 = .ok ((.getfield 55), 3) := by decide +kernel
theorem d_Ref_points_10 : decode b_Ref_points 10 = .ok (.ishl, 1) := by decide +kernel
theorem d_Ref_points_11 : decode b_Ref_points 11 = .ok ((.if_icmp .ge 83), 3) := by decide +kernel
theorem d_Ref_points_14 : decode b_Ref_points 14 = .ok ((.iconst 1), 1) := by decide +kernel
theorem d_Ref_points_15 : decode b_Ref_points 15 = .ok ((.istore 4), 2) := by decide +kernel
theorem d_Ref_points_17 : decode b_Ref_points 17 = .ok ((.iconst 0), 1) := by decide +kernel
theorem d_Ref_points_18 : decode b_Ref_points 18 = .ok ((.istore 5), 2) := by decide +kernel
theorem d_Ref_points_20 : decode b_Ref_points 20 = .ok ((.iload 5), 2) := by decide +kernel
theorem d_Ref_points_22 : decode b_Ref_points 22 = .ok ((.aload_n 0), 1) := by decide +kernel
theorem d_Ref_points_23 : decode b_Ref_points 23 = .ok ((.getfield 55), 3) := by decide +kernel
theorem d_Ref_points_26 : decode b_Ref_points 26 = .ok ((.if_icmp .ge 47), 3) := by decide +kernel
theorem d_Ref_points_29 : decode b_Ref_points 29 = .ok ((.aload_n 0), 1) := by decide +kernel
theorem d_Ref_points_30 : decode b_Ref_points 30 = .ok ((.iload_n 1), 1) := by decide +kernel
theorem d_Ref_points_31 : decode b_Ref_points 31 = .ok ((.iload 5), 2) := by decide +kernel
theorem d_Ref_points_33 : decode b_Ref_points 33 = .ok ((.invokevirtual 68), 3) := by decide +kernel
theorem d_Ref_points_36 : decode b_Ref_points 36 = .ok ((.istore 6), 2) := by decide +kernel
theorem d_Ref_points_38 : decode b_Ref_points 38 = .ok ((.iload 4), 2) := by decide +kernel
theorem d_Ref_points_40 : decode b_Ref_points 40 = .ok ((.ifCond .eq 24), 3) := by decide +kernel
theorem d_Ref_points_43 : decode b_Ref_points 43 = .ok ((.iload 6), 2) := by decide +kernel
theorem d_Ref_points_45 : decode b_Ref_points 45 = .ok ((.iconst 2), 1) := by decide +kernel
theorem d_Ref_points_46 : decode b_Ref_points 46 = .ok ((.if_icmp .eq 14), 3) := by decide +kernel
theorem d_Ref_points_49 : decode b_Ref_points 49 = .ok ((.iload 6), 2) := by decide +kernel
theorem d_Ref_points_51 : decode b_Ref_points 51 = .ok ((.iload_n 3), 1) := by decide +kernel
theorem d_Ref_points_52 : decode b_Ref_points 52 = .ok ((.iload 5), 2) := by decide +kernel
theorem d_Ref_points_54 : decode b_Ref_points 54 = .ok (.ishr, 1) := by decide +kernel
theorem d_Ref_points_55 : decode b_Ref_points 55 = .ok ((.iconst 1), 1) := by decide +kernel
theorem d_Ref_points_56 : decode b_Ref_points 56 = .ok (.iand, 1) := by decide +kernel
theorem d_Ref_points_57 : decode b_Ref_points 57 = .ok ((.if_icmp .ne 7), 3) := by decide +kernel
theorem d_Ref_points_60 : decode b_Ref_points 60 = .ok ((.iconst 1), 1) := by decide +kernel
theorem d_Ref_points_61 : decode b_Ref_points 61 = .ok ((.goto 4), 3) := by decide +kernel
theorem d_Ref_points_64 : decode b_Ref_points 64 = .ok ((.iconst 0), 1) := by decide +kernel
theorem d_Ref_points_65 : decode b_Ref_points 65 = .ok ((.istore 4), 2) := by decide +kernel
theorem d_Ref_points_67 : decode b_Ref_points 67 = .ok ((.iinc 5 1), 3) := by decide +kernel
theorem d_Ref_points_70 : decode b_Ref_points 70 = .ok ((.goto (-50)), 3) := by decide +kernel
theorem d_Ref_points_73 : decode b_Ref_points 73 = .ok ((.iload 4), 2) := by decide +kernel
theorem d_Ref_points_75 : decode b_Ref_points 75 = .ok ((.ifCond .eq 11), 3) := by decide +kernel
theorem d_Ref_points_78 : decode b_Ref_points 78 = .ok ((.iload_n 2), 1) := by decide +kernel
theorem d_Ref_points_79 : decode b_Ref_points 79 = .ok ((.iconst 1), 1) := by decide +kernel
theorem d_Ref_points_80 : decode b_Ref_points 80 = .ok ((.iload_n 3), 1) := by decide +kernel
theorem d_Ref_points_81 : decode b_Ref_points 81 = .ok (.ishl, 1) := by decide +kernel
theorem d_Ref_points_82 : decode b_Ref_points 82 = .ok (.ior, 1) := by decide +kernel
theorem d_Ref_points_83 : decode b_Ref_points 83 = .ok ((.goto 4), 3) := by decide +kernel
theorem d_Ref_points_86 : decode b_Ref_points 86 = .ok ((.iload_n 2), 1) := by decide +kernel
theorem d_Ref_points_87 : decode b_Ref_points 87 = .ok ((.istore_n 2), 1) := by decide +kernel
theorem d_Ref_points_88 : decode b_Ref_points 88 = .ok ((.iinc 3 1), 3) := by decide +kernel
theorem d_Ref_points_91 : decode b_Ref_points 91 = .ok ((.goto (-87)), 3) := by decide +kernel
theorem d_Ref_points_94 : decode b_Ref_points 94 = .ok ((.iload_n 2), 1) := by decide +kernel
theorem d_Ref_points_95 : decode b_Ref_points 95 = .ok (.ireturn, 1) := by decide +kernel
theorem d_Ref_digit_0 : decode b_Ref_digit 0 = .ok ((.iload_n 1), 1) := by decide +kernel
theorem d_Ref_digit_1 : decode b_Ref_digit 1 = .ok ((.istore_n 3), 1) := by decide +kernel
theorem d_Ref_digit_2 : decode b_Ref_digit 2 = .ok ((.aload_n 0), 1) := by decide +kernel
theorem d_Ref_digit_3 : decode b_Ref_digit 3 = .ok ((.getfield 55), 3) := by decide +kernel
theorem d_Ref_digit_6 : decode b_Ref_digit 6 = .ok ((.iconst 1), 1) := by decide +kernel
theorem d_Ref_digit_7 : decode b_Ref_digit 7 = .ok (.isub, 1) := by decide +kernel
theorem d_Ref_digit_8 : decode b_Ref_digit 8 = .ok ((.istore 4), 2) := by decide +kernel
theorem d_Ref_digit_10 : decode b_Ref_digit 10 = .ok ((.iload 4), 2) := by decide +kernel
theorem d_Ref_digit_12 : decode b_Ref_digit 12 = .ok ((.iload_n 2), 1) := by decide +kernel
theorem d_Ref_digit_13 : decode b_Ref_digit 13 = .ok ((.if_icmp .le 13), 3) := by decide +kernel
theorem d_Ref_digit_16 : decode b_Ref_digit 16 = .ok ((.iload_n 3), 1) := by decide +kernel
theorem d_Ref_digit_17 : decode b_Ref_digit 17 = .ok ((.iconst 3), 1) := by decide +kernel
theorem d_Ref_digit_18 : decode b_Ref_digit 18 = .ok (.idiv, 1) := by decide +kernel
theorem d_Ref_digit_19 : decode b_Ref_digit 19 = .ok ((.istore_n 3), 1) := by decide +kernel
theorem d_Ref_digit_20 : decode b_Ref_digit 20 = .ok ((.iinc 4 (-1)), 3) := by decide +kernel
theorem d_Ref_digit_23 : decode b_Ref_digit 23 = .ok ((.goto (-13)), 3) := by decide +kernel
theorem d_Ref_digit_26 : decode b_Ref_digit 26 = .ok ((.iload_n 3), 1) := by decide +kernel
theorem d_Ref_digit_27 : decode b_Ref_digit 27 = .ok ((.iconst 3), 1) := by decide +kernel
theorem d_Ref_digit_28 : decode b_Ref_digit 28 = .ok (.irem, 1) := by decide +kernel
theorem d_Ref_digit_29 : decode b_Ref_digit 29 = .ok (.ireturn, 1) := by decide +kernel
theorem d_Ref_outputsOf_0 : decode b_Ref_outputsOf 0 = .ok ((.aload_n 0), 1) := by decide +kernel
theorem d_Ref_outputsOf_1 : decode b_Ref_outputsOf 1 = .ok ((.iload_n 1), 1) := by decide +kernel
theorem d_Ref_outputsOf_2 : decode b_Ref_outputsOf 2 = .ok ((.invokevirtual 75), 3) := by decide +kernel
theorem d_Ref_outputsOf_5 : decode b_Ref_outputsOf 5 = .ok ((.istore_n 2), 1) := by decide +kernel
theorem d_Ref_outputsOf_6 : decode b_Ref_outputsOf 6 = .ok ((.iconst 0), 1) := by decide +kernel
theorem d_Ref_outputsOf_7 : decode b_Ref_outputsOf 7 = .ok ((.istore_n 3), 1) := by decide +kernel
theorem d_Ref_outputsOf_8 : decode b_Ref_outputsOf 8 = .ok ((.iconst 0), 1) := by decide +kernel
theorem d_Ref_outputsOf_9 : decode b_Ref_outputsOf 9 = .ok ((.istore 4), 2) := by decide +kernel
theorem d_Ref_outputsOf_11 : decode b_Ref_outputsOf 11 = .ok ((.iload 4), 2) := by decide +kernel
theorem d_Ref_outputsOf_13 : decode b_Ref_outputsOf 13 = .ok ((.aload_n 0), 1) := by decide +kernel
theorem d_Ref_outputsOf_14 : decode b_Ref_outputsOf 14 = .ok ((.getfield 59), 3) := by decide +kernel
theorem d_Ref_outputsOf_17 : decode b_Ref_outputsOf 17 = .ok ((.if_icmp .ge 34), 3) := by decide +kernel
theorem d_Ref_outputsOf_20 : decode b_Ref_outputsOf 20 = .ok ((.iload_n 2), 1) := by decide +kernel
theorem d_Ref_outputsOf_21 : decode b_Ref_outputsOf 21 = .ok ((.aload_n 0), 1) := by decide +kernel
theorem d_Ref_outputsOf_22 : decode b_Ref_outputsOf 22 = .ok ((.getfield 19), 3) := by decide +kernel
theorem d_Ref_outputsOf_25 : decode b_Ref_outputsOf 25 = .ok ((.iload 4), 2) := by decide +kernel
theorem d_Ref_outputsOf_27 : decode b_Ref_outputsOf 27 = .ok (.iaload, 1) := by decide +kernel
theorem d_Ref_outputsOf_28 : decode b_Ref_outputsOf 28 = .ok ((.iconst (-1)), 1) := by decide +kernel
theorem d_Ref_outputsOf_29 : decode b_Ref_outputsOf 29 = .ok (.ixor, 1) := by decide +kernel
theorem d_Ref_outputsOf_30 : decode b_Ref_outputsOf 30 = .ok (.iand, 1) := by decide +kernel
theorem d_Ref_outputsOf_31 : decode b_Ref_outputsOf 31 = .ok ((.ifCond .ne 12), 3) := by decide +kernel
theorem d_Ref_outputsOf_34 : decode b_Ref_outputsOf 34 = .ok ((.iload_n 3), 1) := by decide +kernel
theorem d_Ref_outputsOf_35 : decode b_Ref_outputsOf 35 = .ok ((.iconst 1), 1) := by decide +kernel
theorem d_Ref_outputsOf_36 : decode b_Ref_outputsOf 36 = .ok ((.iload 4), 2) := by decide +kernel
theorem d_Ref_outputsOf_38 : decode b_Ref_outputsOf 38 = .ok (.ishl, 1) := by decide +kernel
theorem d_Ref_outputsOf_39 : decode b_Ref_outputsOf 39 = .ok (.ior, 1) := by decide +kernel
theorem d_Ref_outputsOf_40 : decode b_Ref_outputsOf 40 = .ok ((.goto 4), 3) := by decide +kernel
theorem d_Ref_outputsOf_43 : decode b_Ref_outputsOf 43 = .ok ((.iload_n 3), 1) := by decide +kernel
theorem d_Ref_outputsOf_44 : decode b_Ref_outputsOf 44 = .ok ((.istore_n 3), 1) := by decide +kernel
theorem d_Ref_outputsOf_45 : decode b_Ref_outputsOf 45 = .ok ((.iinc 4 1), 3) := by decide +kernel
theorem d_Ref_outputsOf_48 : decode b_Ref_outputsOf 48 = .ok ((.goto (-37)), 3) := by decide +kernel
theorem d_Ref_outputsOf_51 : decode b_Ref_outputsOf 51 = .ok ((.iload_n 3), 1) := by decide +kernel
theorem d_Ref_outputsOf_52 : decode b_Ref_outputsOf 52 = .ok (.ireturn, 1) := by decide +kernel
theorem d_Ref_costOf_0 : decode b_Ref_costOf 0 = .ok ((.iload_n 2), 1) := by decide +kernel
theorem d_Ref_costOf_1 : decode b_Ref_costOf 1 = .ok ((.iconst 1), 1) := by decide +kernel
theorem d_Ref_costOf_2 : decode b_Ref_costOf 2 = .ok (.iand, 1) := by decide +kernel
theorem d_Ref_costOf_3 : decode b_Ref_costOf 3 = .ok ((.iload_n 2), 1) := by decide +kernel
theorem d_Ref_costOf_4 : decode b_Ref_costOf 4 = .ok ((.iconst 1), 1) := by decide +kernel
theorem d_Ref_costOf_5 : decode b_Ref_costOf 5 = .ok (.ishr, 1) := by decide +kernel
theorem d_Ref_costOf_6 : decode b_Ref_costOf 6 = .ok (.iadd, 1) := by decide +kernel
theorem d_Ref_costOf_7 : decode b_Ref_costOf 7 = .ok ((.istore_n 3), 1) := by decide +kernel
theorem d_Ref_costOf_8 : decode b_Ref_costOf 8 = .ok ((.iconst 0), 1) := by decide +kernel
theorem d_Ref_costOf_9 : decode b_Ref_costOf 9 = .ok ((.istore 4), 2) := by decide +kernel
theorem d_Ref_costOf_11 : decode b_Ref_costOf 11 = .ok ((.iload 4), 2) := by decide +kernel
theorem d_Ref_costOf_13 : decode b_Ref_costOf 13 = .ok ((.aload_n 0), 1) := by decide +kernel
theorem d_Ref_costOf_14 : decode b_Ref_costOf 14 = .ok ((.getfield 55), 3) := by decide +kernel
theorem d_Ref_costOf_17 : decode b_Ref_costOf 17 = .ok ((.if_icmp .ge 28), 3) := by decide +kernel
theorem d_Ref_costOf_20 : decode b_Ref_costOf 20 = .ok ((.aload_n 0), 1) := by decide +kernel
theorem d_Ref_costOf_21 : decode b_Ref_costOf 21 = .ok ((.iload_n 1), 1) := by decide +kernel
theorem d_Ref_costOf_22 : decode b_Ref_costOf 22 = .ok ((.iload 4), 2) := by decide +kernel
theorem d_Ref_costOf_24 : decode b_Ref_costOf 24 = .ok ((.invokevirtual 68), 3) := by decide +kernel
theorem d_Ref_costOf_27 : decode b_Ref_costOf 27 = .ok ((.iconst 2), 1) := by decide +kernel
theorem d_Ref_costOf_28 : decode b_Ref_costOf 28 = .ok ((.if_icmp .ge 9), 3) := by decide +kernel
theorem d_Ref_costOf_31 : decode b_Ref_costOf 31 = .ok ((.iload_n 3), 1) := by decide +kernel
theorem d_Ref_costOf_32 : decode b_Ref_costOf 32 = .ok ((.iconst 1), 1) := by decide +kernel
theorem d_Ref_costOf_33 : decode b_Ref_costOf 33 = .ok (.iadd, 1) := by decide +kernel
theorem d_Ref_costOf_34 : decode b_Ref_costOf 34 = .ok ((.goto 4), 3) := by decide +kernel
theorem d_Ref_costOf_37 : decode b_Ref_costOf 37 = .ok ((.iload_n 3), 1) := by decide +kernel
theorem d_Ref_costOf_38 : decode b_Ref_costOf 38 = .ok ((.istore_n 3), 1) := by decide +kernel
theorem d_Ref_costOf_39 : decode b_Ref_costOf 39 = .ok ((.iinc 4 1), 3) := by decide +kernel
theorem d_Ref_costOf_42 : decode b_Ref_costOf 42 = .ok ((.goto (-31)), 3) := by decide +kernel
theorem d_Ref_costOf_45 : decode b_Ref_costOf 45 = .ok ((.iload_n 3), 1) := by decide +kernel
theorem d_Ref_costOf_46 : decode b_Ref_costOf 46 = .ok (.ireturn, 1) := by decide +kernel
theorem d_Ref_prime_0 : decode b_Ref_prime 0 = .ok ((.aload_n 0), 1) := by decide +kernel
theorem d_Ref_prime_1 : decode b_Ref_prime 1 = .ok ((.invokevirtual 91), 3) := by decide +kernel
theorem d_Ref_prime_4 : decode b_Ref_prime 4 = .ok ((.aload_n 0), 1) := by decide +kernel
theorem d_Ref_prime_5 : decode b_Ref_prime 5 = .ok ((.iload_n 1), 1) := by decide +kernel
theorem d_Ref_prime_6 : decode b_Ref_prime 6 = .ok ((.ifCond .lt 32), 3) := by decide +kernel
theorem d_Ref_prime_9 : decode b_Ref_prime 9 = .ok ((.iload_n 1), 1) := by decide +kernel
theorem d_Ref_prime_10 : decode b_Ref_prime 10 = .ok ((.aload_n 0), 1) := by decide +kernel
theorem d_Ref_prime_11 : decode b_Ref_prime 11 = .ok ((.getfield 82), 3) := by decide +kernel
theorem d_Ref_prime_14 : decode b_Ref_prime 14 = .ok ((.if_icmp .ge 24), 3) := by decide +kernel
theorem d_Ref_prime_17 : decode b_Ref_prime 17 = .ok ((.iload_n 2), 1) := by decide +kernel
theorem d_Ref_prime_18 : decode b_Ref_prime 18 = .ok ((.ifCond .lt 20), 3) := by decide +kernel
theorem d_Ref_prime_21 : decode b_Ref_prime 21 = .ok ((.iload_n 2), 1) := by decide +kernel
theorem d_Ref_prime_22 : decode b_Ref_prime 22 = .ok ((.aload_n 0), 1) := by decide +kernel
theorem d_Ref_prime_23 : decode b_Ref_prime 23 = .ok ((.getfield 55), 3) := by decide +kernel
theorem d_Ref_prime_26 : decode b_Ref_prime 26 = .ok ((.aload_n 0), 1) := by decide +kernel
theorem d_Ref_prime_27 : decode b_Ref_prime 27 = .ok ((.getfield 59), 3) := by decide +kernel
theorem d_Ref_prime_30 : decode b_Ref_prime 30 = .ok (.iadd, 1) := by decide +kernel
theorem d_Ref_prime_31 : decode b_Ref_prime 31 = .ok ((.if_icmp .ge 7), 3) := by decide +kernel
theorem d_Ref_prime_34 : decode b_Ref_prime 34 = .ok ((.iconst 0), 1) := by decide +kernel
theorem d_Ref_prime_35 : decode b_Ref_prime 35 = .ok ((.goto 4), 3) := by decide +kernel
theorem d_Ref_prime_38 : decode b_Ref_prime 38 = .ok ((.iconst 1), 1) := by decide +kernel
theorem d_Ref_prime_39 : decode b_Ref_prime 39 = .ok ((.putfield 65), 3) := by decide +kernel
theorem d_Ref_prime_42 : decode b_Ref_prime 42 = .ok ((.aload_n 0), 1) := by decide +kernel
theorem d_Ref_prime_43 : decode b_Ref_prime 43 = .ok ((.getfield 65), 3) := by decide +kernel
theorem d_Ref_prime_46 : decode b_Ref_prime 46 = .ok ((.ifCond .le 5), 3) := by decide +kernel
theorem d_Ref_prime_49 : decode b_Ref_prime 49 = .ok ((.iconst 0), 1) := by decide +kernel
theorem d_Ref_prime_50 : decode b_Ref_prime 50 = .ok (.ireturn, 1) := by decide +kernel
theorem d_Ref_prime_51 : decode b_Ref_prime 51 = .ok ((.iload_n 2), 1) := by decide +kernel
theorem d_Ref_prime_52 : decode b_Ref_prime 52 = .ok ((.aload_n 0), 1) := by decide +kernel
theorem d_Ref_prime_53 : decode b_Ref_prime 53 = .ok ((.getfield 55), 3) := by decide +kernel
theorem d_Ref_prime_56 : decode b_Ref_prime 56 = .ok ((.if_icmp .ge 17), 3) := by decide +kernel
theorem d_Ref_prime_59 : decode b_Ref_prime 59 = .ok ((.aload_n 0), 1) := by decide +kernel
theorem d_Ref_prime_60 : decode b_Ref_prime 60 = .ok ((.aload_n 0), 1) := by decide +kernel
theorem d_Ref_prime_61 : decode b_Ref_prime 61 = .ok ((.getfield 22), 3) := by decide +kernel
theorem d_Ref_prime_64 : decode b_Ref_prime 64 = .ok ((.iload_n 1), 1) := by decide +kernel
theorem d_Ref_prime_65 : decode b_Ref_prime 65 = .ok (.iaload, 1) := by decide +kernel
theorem d_Ref_prime_66 : decode b_Ref_prime 66 = .ok ((.iload_n 2), 1) := by decide +kernel
theorem d_Ref_prime_67 : decode b_Ref_prime 67 = .ok ((.invokevirtual 68), 3) := by decide +kernel
theorem d_Ref_prime_70 : decode b_Ref_prime 70 = .ok ((.goto 18), 3) := by decide +kernel
theorem d_Ref_prime_73 : decode b_Ref_prime 73 = .ok ((.aload_n 0), 1) := by decide +kernel
theorem d_Ref_prime_74 : decode b_Ref_prime 74 = .ok ((.getfield 25), 3) := by decide +kernel
theorem d_Ref_prime_77 : decode b_Ref_prime 77 = .ok ((.iload_n 1), 1) := by decide +kernel
theorem d_Ref_prime_78 : decode b_Ref_prime 78 = .ok (.iaload, 1) := by decide +kernel
theorem d_Ref_prime_79 : decode b_Ref_prime 79 = .ok ((.iload_n 2), 1) := by decide +kernel
theorem d_Ref_prime_80 : decode b_Ref_prime 80 = .ok ((.aload_n 0), 1) := by decide +kernel
theorem d_Ref_prime_81 : decode b_Ref_prime 81 = .ok ((.getfield 55), 3) := by decide +kernel
theorem d_Ref_prime_84 : decode b_Ref_prime 84 = .ok (.isub, 1) := by decide +kernel
theorem d_Ref_prime_85 : decode b_Ref_prime 85 = .ok (.ishr, 1) := by decide +kernel
theorem d_Ref_prime_86 : decode b_Ref_prime 86 = .ok ((.iconst 1), 1) := by decide +kernel
theorem d_Ref_prime_87 : decode b_Ref_prime 87 = .ok (.iand, 1) := by decide +kernel
theorem d_Ref_prime_88 : decode b_Ref_prime 88 = .ok (.ireturn, 1) := by decide +kernel
theorem d_Ref_run_0 : decode b_Ref_run 0 = .ok ((.aload_n 0), 1) := by decide +kernel
theorem d_Ref_run_1 : decode b_Ref_run 1 = .ok ((.lload_n 2), 1) := by decide +kernel
end
section
theorem d_Ref_run_2 : decode b_Ref_run 2 = .ok ((.lconst 0), 1) := by decide +kernel
theorem d_Ref_run_3 : decode b_Ref_run 3 = .ok (.lcmp, 1) := by decide +kernel
theorem d_Ref_run_4 : decode b_Ref_run 4 = .ok ((.ifCond .ge 7), 3) := by decide +kernel
theorem d_Ref_run_7 : decode b_Ref_run 7 = .ok ((.iconst 1), 1) := by decide +kernel
theorem d_Ref_run_8 : decode b_Ref_run 8 = .ok ((.goto 4), 3) := by decide +kernel
theorem d_Ref_run_11 : decode b_Ref_run 11 = .ok ((.iconst 0), 1) := by decide +kernel
theorem d_Ref_run_12 : decode b_Ref_run 12 = .ok ((.putfield 65), 3) := by decide +kernel
theorem d_Ref_run_15 : decode b_Ref_run 15 = .ok ((.aload_n 0), 1) := by decide +kernel
theorem d_Ref_run_16 : decode b_Ref_run 16 = .ok ((.getfield 65), 3) := by decide +kernel
theorem d_Ref_run_19 : decode b_Ref_run 19 = .ok ((.ifCond .le 5), 3) := by decide +kernel
theorem d_Ref_run_22 : decode b_Ref_run 22 = .ok ((.iconst 0), 1) := by decide +kernel
theorem d_Ref_run_23 : decode b_Ref_run 23 = .ok (.ireturn, 1) := by decide +kernel
theorem d_Ref_run_24 : decode b_Ref_run 24 = .ok ((.aload_n 0), 1) := by decide +kernel
theorem d_Ref_run_25 : decode b_Ref_run 25 = .ok ((.invokevirtual 91), 3) := by decide +kernel
theorem d_Ref_run_28 : decode b_Ref_run 28 = .ok ((.aload_n 0), 1) := by decide +kernel
theorem d_Ref_run_29 : decode b_Ref_run 29 = .ok ((.getfield 82), 3) := by decide +kernel
theorem d_Ref_run_32 : decode b_Ref_run 32 = .ok (.i2l, 1) := by decide +kernel
theorem d_Ref_run_33 : decode b_Ref_run 33 = .ok ((.lload_n 2), 1) := by decide +kernel
theorem d_Ref_run_34 : decode b_Ref_run 34 = .ok (.lcmp, 1) := by decide +kernel
theorem d_Ref_run_35 : decode b_Ref_run 35 = .ok ((.ifCond .le 5), 3) := by decide +kernel
theorem d_Ref_run_38 : decode b_Ref_run 38 = .ok ((.iconst (-1)), 1) := by decide +kernel
theorem d_Ref_run_39 : decode b_Ref_run 39 = .ok (.ireturn, 1) := by decide +kernel
theorem d_Ref_run_40 : decode b_Ref_run 40 = .ok ((.aload_n 0), 1) := by decide +kernel
theorem d_Ref_run_41 : decode b_Ref_run 41 = .ok ((.getfield 16), 3) := by decide +kernel
theorem d_Ref_run_44 : decode b_Ref_run 44 = .ok ((.iconst 0), 1) := by decide +kernel
theorem d_Ref_run_45 : decode b_Ref_run 45 = .ok (.iaload, 1) := by decide +kernel
theorem d_Ref_run_46 : decode b_Ref_run 46 = .ok ((.aload_n 0), 1) := by decide +kernel
theorem d_Ref_run_47 : decode b_Ref_run 47 = .ok ((.getfield 59), 3) := by decide +kernel
theorem d_Ref_run_50 : decode b_Ref_run 50 = .ok ((.iconst 2), 1) := by decide +kernel
theorem d_Ref_run_51 : decode b_Ref_run 51 = .ok ((.if_icmp .ne 15), 3) := by decide +kernel
theorem d_Ref_run_54 : decode b_Ref_run 54 = .ok ((.aload_n 0), 1) := by decide +kernel
theorem d_Ref_run_55 : decode b_Ref_run 55 = .ok ((.getfield 16), 3) := by decide +kernel
theorem d_Ref_run_58 : decode b_Ref_run 58 = .ok ((.iconst 1), 1) := by decide +kernel
theorem d_Ref_run_59 : decode b_Ref_run 59 = .ok (.iaload, 1) := by decide +kernel
theorem d_Ref_run_60 : decode b_Ref_run 60 = .ok ((.bipush 16), 2) := by decide +kernel
theorem d_Ref_run_62 : decode b_Ref_run 62 = .ok (.ishl, 1) := by decide +kernel
theorem d_Ref_run_63 : decode b_Ref_run 63 = .ok ((.goto 4), 3) := by decide +kernel
theorem d_Ref_run_66 : decode b_Ref_run 66 = .ok ((.iconst 0), 1) := by decide +kernel
theorem d_Ref_run_67 : decode b_Ref_run 67 = .ok (.ior, 1) := by decide +kernel
theorem d_Ref_run_68 : decode b_Ref_run 68 = .ok ((.istore 4), 2) := by decide +kernel
theorem d_Ref_run_70 : decode b_Ref_run 70 = .ok ((.aload_n 0), 1) := by decide +kernel
theorem d_Ref_run_71 : decode b_Ref_run 71 = .ok ((.iload_n 1), 1) := by decide +kernel
theorem d_Ref_run_72 : decode b_Ref_run 72 = .ok ((.ifCond .eq 12), 3) := by decide +kernel
theorem d_Ref_run_75 : decode b_Ref_run 75 = .ok ((.aload_n 0), 1) := by decide +kernel
theorem d_Ref_run_76 : decode b_Ref_run 76 = .ok ((.iload 4), 2) := by decide +kernel
theorem d_Ref_run_78 : decode b_Ref_run 78 = .ok ((.invokevirtual 104), 3) := by decide +kernel
theorem d_Ref_run_81 : decode b_Ref_run 81 = .ok ((.goto 9), 3) := by decide +kernel
theorem d_Ref_run_84 : decode b_Ref_run 84 = .ok ((.aload_n 0), 1) := by decide +kernel
theorem d_Ref_run_85 : decode b_Ref_run 85 = .ok ((.iload 4), 2) := by decide +kernel
theorem d_Ref_run_87 : decode b_Ref_run 87 = .ok ((.invokevirtual 107), 3) := by decide +kernel
theorem d_Ref_run_90 : decode b_Ref_run 90 = .ok ((.putfield 110), 3) := by decide +kernel
theorem d_Ref_run_93 : decode b_Ref_run 93 = .ok ((.iconst 0), 1) := by decide +kernel
theorem d_Ref_run_94 : decode b_Ref_run 94 = .ok ((.istore 5), 2) := by decide +kernel
theorem d_Ref_run_96 : decode b_Ref_run 96 = .ok ((.iload 5), 2) := by decide +kernel
theorem d_Ref_run_98 : decode b_Ref_run 98 = .ok ((.aload_n 0), 1) := by decide +kernel
theorem d_Ref_run_99 : decode b_Ref_run 99 = .ok ((.getfield 110), 3) := by decide +kernel
theorem d_Ref_run_102 : decode b_Ref_run 102 = .ok ((.if_icmp .ge 47), 3) := by decide +kernel
theorem d_Ref_run_105 : decode b_Ref_run 105 = .ok ((.aload_n 0), 1) := by decide +kernel
theorem d_Ref_run_106 : decode b_Ref_run 106 = .ok ((.getfield 37), 3) := by decide +kernel
theorem d_Ref_run_109 : decode b_Ref_run 109 = .ok ((.iload 5), 2) := by decide +kernel
theorem d_Ref_run_111 : decode b_Ref_run 111 = .ok ((.aload_n 0), 1) := by decide +kernel
theorem d_Ref_run_112 : decode b_Ref_run 112 = .ok ((.getfield 22), 3) := by decide +kernel
theorem d_Ref_run_115 : decode b_Ref_run 115 = .ok ((.aload_n 0), 1) := by decide +kernel
theorem d_Ref_run_116 : decode b_Ref_run 116 = .ok ((.getfield 49), 3) := by decide +kernel
theorem d_Ref_run_119 : decode b_Ref_run 119 = .ok ((.iload 5), 2) := by decide +kernel
theorem d_Ref_run_121 : decode b_Ref_run 121 = .ok (.iaload, 1) := by decide +kernel
theorem d_Ref_run_122 : decode b_Ref_run 122 = .ok (.iaload, 1) := by decide +kernel
theorem d_Ref_run_123 : decode b_Ref_run 123 = .ok (.iastore, 1) := by decide +kernel
theorem d_Ref_run_124 : decode b_Ref_run 124 = .ok ((.aload_n 0), 1) := by decide +kernel
theorem d_Ref_run_125 : decode b_Ref_run 125 = .ok ((.getfield 40), 3) := by decide +kernel
theorem d_Ref_run_128 : decode b_Ref_run 128 = .ok ((.iload 5), 2) := by decide +kernel
theorem d_Ref_run_130 : decode b_Ref_run 130 = .ok ((.aload_n 0), 1) := by decide +kernel
theorem d_Ref_run_131 : decode b_Ref_run 131 = .ok ((.getfield 25), 3) := by decide +kernel
theorem d_Ref_run_134 : decode b_Ref_run 134 = .ok ((.aload_n 0), 1) := by decide +kernel
theorem d_Ref_run_135 : decode b_Ref_run 135 = .ok ((.getfield 49), 3) := by decide +kernel
theorem d_Ref_run_138 : decode b_Ref_run 138 = .ok ((.iload 5), 2) := by decide +kernel
theorem d_Ref_run_140 : decode b_Ref_run 140 = .ok (.iaload, 1) := by decide +kernel
theorem d_Ref_run_141 : decode b_Ref_run 141 = .ok (.iaload, 1) := by decide +kernel
theorem d_Ref_run_142 : decode b_Ref_run 142 = .ok (.iastore, 1) := by decide +kernel
theorem d_Ref_run_143 : decode b_Ref_run 143 = .ok ((.iinc 5 1), 3) := by decide +kernel
theorem d_Ref_run_146 : decode b_Ref_run 146 = .ok ((.goto (-50)), 3) := by decide +kernel
theorem d_Ref_run_149 : decode b_Ref_run 149 = .ok ((.aload_n 0), 1) := by decide +kernel
theorem d_Ref_run_150 : decode b_Ref_run 150 = .ok ((.iconst 1), 1) := by decide +kernel
theorem d_Ref_run_151 : decode b_Ref_run 151 = .ok ((.putfield 113), 3) := by decide +kernel
theorem d_Ref_run_154 : decode b_Ref_run 154 = .ok ((.aload_n 0), 1) := by decide +kernel
theorem d_Ref_run_155 : decode b_Ref_run 155 = .ok ((.iconst 0), 1) := by decide +kernel
theorem d_Ref_run_156 : decode b_Ref_run 156 = .ok ((.putfield 117), 3) := by decide +kernel
theorem d_Ref_run_159 : decode b_Ref_run 159 = .ok ((.aload_n 0), 1) := by decide +kernel
theorem d_Ref_run_160 : decode b_Ref_run 160 = .ok ((.getfield 110), 3) := by decide +kernel
theorem d_Ref_run_163 : decode b_Ref_run 163 = .ok (.ireturn, 1) := by decide +kernel
theorem d_Ref_exact_0 : decode b_Ref_exact 0 = .ok ((.aload_n 0), 1) := by decide +kernel
theorem d_Ref_exact_1 : decode b_Ref_exact 1 = .ok ((.getfield 34), 3) := by decide +kernel
theorem d_Ref_exact_4 : decode b_Ref_exact 4 = .ok ((.aload_n 0), 1) := by decide +kernel
theorem d_Ref_exact_5 : decode b_Ref_exact 5 = .ok ((.getfield 82), 3) := by decide +kernel
theorem d_Ref_exact_8 : decode b_Ref_exact 8 = .ok ((.iconst 0), 1) := by decide +kernel
theorem d_Ref_exact_9 : decode b_Ref_exact 9 = .ok (.iastore, 1) := by decide +kernel
theorem d_Ref_exact_10 : decode b_Ref_exact 10 = .ok ((.aload_n 0), 1) := by decide +kernel
theorem d_Ref_exact_11 : decode b_Ref_exact 11 = .ok ((.getfield 82), 3) := by decide +kernel
theorem d_Ref_exact_14 : decode b_Ref_exact 14 = .ok ((.iconst 1), 1) := by decide +kernel
theorem d_Ref_exact_15 : decode b_Ref_exact 15 = .ok (.isub, 1) := by decide +kernel
theorem d_Ref_exact_16 : decode b_Ref_exact 16 = .ok ((.istore_n 2), 1) := by decide +kernel
theorem d_Ref_exact_17 : decode b_Ref_exact 17 = .ok ((.iload_n 2), 1) := by decide +kernel
theorem d_Ref_exact_18 : decode b_Ref_exact 18 = .ok ((.ifCond .lt 30), 3) := by decide +kernel
theorem d_Ref_exact_21 : decode b_Ref_exact 21 = .ok ((.aload_n 0), 1) := by decide +kernel
theorem d_Ref_exact_22 : decode b_Ref_exact 22 = .ok ((.getfield 34), 3) := by decide +kernel
theorem d_Ref_exact_25 : decode b_Ref_exact 25 = .ok ((.iload_n 2), 1) := by decide +kernel
theorem d_Ref_exact_26 : decode b_Ref_exact 26 = .ok ((.aload_n 0), 1) := by decide +kernel
theorem d_Ref_exact_27 : decode b_Ref_exact 27 = .ok ((.getfield 34), 3) := by decide +kernel
theorem d_Ref_exact_30 : decode b_Ref_exact 30 = .ok ((.iload_n 2), 1) := by decide +kernel
theorem d_Ref_exact_31 : decode b_Ref_exact 31 = .ok ((.iconst 1), 1) := by decide +kernel
theorem d_Ref_exact_32 : decode b_Ref_exact 32 = .ok (.iadd, 1) := by decide +kernel
theorem d_Ref_exact_33 : decode b_Ref_exact 33 = .ok (.iaload, 1) := by decide +kernel
theorem d_Ref_exact_34 : decode b_Ref_exact 34 = .ok ((.aload_n 0), 1) := by decide +kernel
theorem d_Ref_exact_35 : decode b_Ref_exact 35 = .ok ((.getfield 31), 3) := by decide +kernel
theorem d_Ref_exact_38 : decode b_Ref_exact 38 = .ok ((.iload_n 2), 1) := by decide +kernel
theorem d_Ref_exact_39 : decode b_Ref_exact 39 = .ok (.iaload, 1) := by decide +kernel
theorem d_Ref_exact_40 : decode b_Ref_exact 40 = .ok (.ior, 1) := by decide +kernel
theorem d_Ref_exact_41 : decode b_Ref_exact 41 = .ok (.iastore, 1) := by decide +kernel
theorem d_Ref_exact_42 : decode b_Ref_exact 42 = .ok ((.iinc 2 (-1)), 3) := by decide +kernel
theorem d_Ref_exact_45 : decode b_Ref_exact 45 = .ok ((.goto (-28)), 3) := by decide +kernel
theorem d_Ref_exact_48 : decode b_Ref_exact 48 = .ok ((.iconst 0), 1) := by decide +kernel
theorem d_Ref_exact_49 : decode b_Ref_exact 49 = .ok ((.istore_n 2), 1) := by decide +kernel
theorem d_Ref_exact_50 : decode b_Ref_exact 50 = .ok ((.aload_n 0), 1) := by decide +kernel
theorem d_Ref_exact_51 : decode b_Ref_exact 51 = .ok ((.iload_n 2), 1) := by decide +kernel
theorem d_Ref_exact_52 : decode b_Ref_exact 52 = .ok ((.iload_n 1), 1) := by decide +kernel
theorem d_Ref_exact_53 : decode b_Ref_exact 53 = .ok ((.invokevirtual 97), 3) := by decide +kernel
theorem d_Ref_exact_56 : decode b_Ref_exact 56 = .ok ((.ifCond .ne 9), 3) := by decide +kernel
theorem d_Ref_exact_59 : decode b_Ref_exact 59 = .ok ((.iinc 2 1), 3) := by decide +kernel
theorem d_Ref_exact_62 : decode b_Ref_exact 62 = .ok ((.goto (-12)), 3) := by decide +kernel
theorem d_Ref_exact_65 : decode b_Ref_exact 65 = .ok ((.iload_n 2), 1) := by decide +kernel
theorem d_Ref_exact_66 : decode b_Ref_exact 66 = .ok (.ireturn, 1) := by decide +kernel
theorem d_Ref_tryAll_0 : decode b_Ref_tryAll 0 = .ok ((.iconst 0), 1) := by decide +kernel
theorem d_Ref_tryAll_1 : decode b_Ref_tryAll 1 = .ok ((.istore_n 3), 1) := by decide +kernel
theorem d_Ref_tryAll_2 : decode b_Ref_tryAll 2 = .ok ((.iconst 0), 1) := by decide +kernel
theorem d_Ref_tryAll_3 : decode b_Ref_tryAll 3 = .ok ((.istore 4), 2) := by decide +kernel
theorem d_Ref_tryAll_5 : decode b_Ref_tryAll 5 = .ok ((.aload_n 0), 1) := by decide +kernel
theorem d_Ref_tryAll_6 : decode b_Ref_tryAll 6 = .ok ((.getfield 46), 3) := by decide +kernel
theorem d_Ref_tryAll_9 : decode b_Ref_tryAll 9 = .ok ((.iconst 0), 1) := by decide +kernel
theorem d_Ref_tryAll_10 : decode b_Ref_tryAll 10 = .ok ((.iconst (-1)), 1) := by decide +kernel
theorem d_Ref_tryAll_11 : decode b_Ref_tryAll 11 = .ok (.iastore, 1) := by decide +kernel
theorem d_Ref_tryAll_12 : decode b_Ref_tryAll 12 = .ok ((.iload 4), 2) := by decide +kernel
theorem d_Ref_tryAll_14 : decode b_Ref_tryAll 14 = .ok ((.ifCond .lt 255), 3) := by decide +kernel
theorem d_Ref_tryAll_17 : decode b_Ref_tryAll 17 = .ok ((.iconst 0), 1) := by decide +kernel
theorem d_Ref_tryAll_18 : decode b_Ref_tryAll 18 = .ok ((.istore 5), 2) := by decide +kernel
theorem d_Ref_tryAll_20 : decode b_Ref_tryAll 20 = .ok ((.iconst 0), 1) := by decide +kernel
theorem d_Ref_tryAll_21 : decode b_Ref_tryAll 21 = .ok ((.istore 6), 2) := by decide +kernel
theorem d_Ref_tryAll_23 : decode b_Ref_tryAll 23 = .ok ((.iconst 0), 1) := by decide +kernel
theorem d_Ref_tryAll_24 : decode b_Ref_tryAll 24 = .ok ((.istore 7), 2) := by decide +kernel
theorem d_Ref_tryAll_26 : decode b_Ref_tryAll 26 = .ok ((.iload 7), 2) := by decide +kernel
theorem d_Ref_tryAll_28 : decode b_Ref_tryAll 28 = .ok ((.iload 4), 2) := by decide +kernel
theorem d_Ref_tryAll_30 : decode b_Ref_tryAll 30 = .ok ((.if_icmp .ge 43), 3) := by decide +kernel
theorem d_Ref_tryAll_33 : decode b_Ref_tryAll 33 = .ok ((.iload 5), 2) := by decide +kernel
theorem d_Ref_tryAll_35 : decode b_Ref_tryAll 35 = .ok ((.aload_n 0), 1) := by decide +kernel
theorem d_Ref_tryAll_36 : decode b_Ref_tryAll 36 = .ok ((.getfield 31), 3) := by decide +kernel
theorem d_Ref_tryAll_39 : decode b_Ref_tryAll 39 = .ok ((.aload_n 0), 1) := by decide +kernel
theorem d_Ref_tryAll_40 : decode b_Ref_tryAll 40 = .ok ((.getfield 46), 3) := by decide +kernel
theorem d_Ref_tryAll_43 : decode b_Ref_tryAll 43 = .ok ((.iload 7), 2) := by decide +kernel
theorem d_Ref_tryAll_45 : decode b_Ref_tryAll 45 = .ok (.iaload, 1) := by decide +kernel
theorem d_Ref_tryAll_46 : decode b_Ref_tryAll 46 = .ok (.iaload, 1) := by decide +kernel
theorem d_Ref_tryAll_47 : decode b_Ref_tryAll 47 = .ok (.ior, 1) := by decide +kernel
theorem d_Ref_tryAll_48 : decode b_Ref_tryAll 48 = .ok ((.istore 5), 2) := by decide +kernel
theorem d_Ref_tryAll_50 : decode b_Ref_tryAll 50 = .ok ((.iload 6), 2) := by decide +kernel
theorem d_Ref_tryAll_52 : decode b_Ref_tryAll 52 = .ok ((.aload_n 0), 1) := by decide +kernel
theorem d_Ref_tryAll_53 : decode b_Ref_tryAll 53 = .ok ((.getfield 28), 3) := by decide +kernel
theorem d_Ref_tryAll_56 : decode b_Ref_tryAll 56 = .ok ((.aload_n 0), 1) := by decide +kernel
theorem d_Ref_tryAll_57 : decode b_Ref_tryAll 57 = .ok ((.getfield 46), 3) := by decide +kernel
theorem d_Ref_tryAll_60 : decode b_Ref_tryAll 60 = .ok ((.iload 7), 2) := by decide +kernel
theorem d_Ref_tryAll_62 : decode b_Ref_tryAll 62 = .ok (.iaload, 1) := by decide +kernel
theorem d_Ref_tryAll_63 : decode b_Ref_tryAll 63 = .ok (.iaload, 1) := by decide +kernel
theorem d_Ref_tryAll_64 : decode b_Ref_tryAll 64 = .ok (.iadd, 1) := by decide +kernel
theorem d_Ref_tryAll_65 : decode b_Ref_tryAll 65 = .ok ((.istore 6), 2) := by decide +kernel
theorem d_Ref_tryAll_67 : decode b_Ref_tryAll 67 = .ok ((.iinc 7 1), 3) := by decide +kernel
theorem d_Ref_tryAll_70 : decode b_Ref_tryAll 70 = .ok ((.goto (-44)), 3) := by decide +kernel
theorem d_Ref_tryAll_73 : decode b_Ref_tryAll 73 = .ok ((.iload 4), 2) := by decide +kernel
theorem d_Ref_tryAll_75 : decode b_Ref_tryAll 75 = .ok ((.iload_n 1), 1) := by decide +kernel
theorem d_Ref_tryAll_76 : decode b_Ref_tryAll 76 = .ok ((.if_icmp .ne 68), 3) := by decide +kernel
theorem d_Ref_tryAll_79 : decode b_Ref_tryAll 79 = .ok ((.iload_n 2), 1) := by decide +kernel
theorem d_Ref_tryAll_80 : decode b_Ref_tryAll 80 = .ok ((.iload 5), 2) := by decide +kernel
theorem d_Ref_tryAll_82 : decode b_Ref_tryAll 82 = .ok ((.iconst (-1)), 1) := by decide +kernel
theorem d_Ref_tryAll_83 : decode b_Ref_tryAll 83 = .ok (.ixor, 1) := by decide +kernel
theorem d_Ref_tryAll_84 : decode b_Ref_tryAll 84 = .ok (.iand, 1) := by decide +kernel
theorem d_Ref_tryAll_85 : decode b_Ref_tryAll 85 = .ok ((.ifCond .ne 53), 3) := by decide +kernel
theorem d_Ref_tryAll_88 : decode b_Ref_tryAll 88 = .ok ((.iload_n 3), 1) := by decide +kernel
theorem d_Ref_tryAll_89 : decode b_Ref_tryAll 89 = .ok ((.ifCond .eq 12), 3) := by decide +kernel
theorem d_Ref_tryAll_92 : decode b_Ref_tryAll 92 = .ok ((.iload 6), 2) := by decide +kernel
theorem d_Ref_tryAll_94 : decode b_Ref_tryAll 94 = .ok ((.aload_n 0), 1) := by decide +kernel
theorem d_Ref_tryAll_95 : decode b_Ref_tryAll 95 = .ok ((.getfield 94), 3) := by decide +kernel
theorem d_Ref_tryAll_98 : decode b_Ref_tryAll 98 = .ok ((.if_icmp .ge 40), 3) := by decide +kernel
theorem d_Ref_tryAll_101 : decode b_Ref_tryAll 101 = .ok ((.iconst 1), 1) := by decide +kernel
theorem d_Ref_tryAll_102 : decode b_Ref_tryAll 102 = .ok ((.istore_n 3), 1) := by decide +kernel
theorem d_Ref_tryAll_103 : decode b_Ref_tryAll 103 = .ok ((.aload_n 0), 1) := by decide +kernel
theorem d_Ref_tryAll_104 : decode b_Ref_tryAll 104 = .ok ((.iload 6), 2) := by decide +kernel
theorem d_Ref_tryAll_106 : decode b_Ref_tryAll 106 = .ok ((.putfield 94), 3) := by decide +kernel
theorem d_Ref_tryAll_109 : decode b_Ref_tryAll 109 = .ok ((.iconst 0), 1) := by decide +kernel
theorem d_Ref_tryAll_110 : decode b_Ref_tryAll 110 = .ok ((.istore 7), 2) := by decide +kernel
theorem d_Ref_tryAll_112 : decode b_Ref_tryAll 112 = .ok ((.iload 7), 2) := by decide +kernel
theorem d_Ref_tryAll_114 : decode b_Ref_tryAll 114 = .ok ((.iload_n 1), 1) := by decide +kernel
theorem d_Ref_tryAll_115 : decode b_Ref_tryAll 115 = .ok ((.if_icmp .ge 23), 3) := by decide +kernel
theorem d_Ref_tryAll_118 : decode b_Ref_tryAll 118 = .ok ((.aload_n 0), 1) := by decide +kernel
theorem d_Ref_tryAll_119 : decode b_Ref_tryAll 119 = .ok ((.getfield 49), 3) := by decide +kernel
theorem d_Ref_tryAll_122 : decode b_Ref_tryAll 122 = .ok ((.iload 7), 2) := by decide +kernel
theorem d_Ref_tryAll_124 : decode b_Ref_tryAll 124 = .ok ((.aload_n 0), 1) := by decide +kernel
theorem d_Ref_tryAll_125 : decode b_Ref_tryAll 125 = .ok ((.getfield 46), 3) := by decide +kernel
theorem d_Ref_tryAll_128 : decode b_Ref_tryAll 128 = .ok ((.iload 7), 2) := by decide +kernel
theorem d_Ref_tryAll_130 : decode b_Ref_tryAll 130 = .ok (.iaload, 1) := by decide +kernel
theorem d_Ref_tryAll_131 : decode b_Ref_tryAll 131 = .ok (.iastore, 1) := by decide +kernel
theorem d_Ref_tryAll_132 : decode b_Ref_tryAll 132 = .ok ((.iinc 7 1), 3) := by decide +kernel
theorem d_Ref_tryAll_135 : decode b_Ref_tryAll 135 = .ok ((.goto (-23)), 3) := by decide +kernel
theorem d_Ref_tryAll_138 : decode b_Ref_tryAll 138 = .ok ((.iinc 4 (-1)), 3) := by decide +kernel
theorem d_Ref_tryAll_141 : decode b_Ref_tryAll 141 = .ok ((.goto 125), 3) := by decide +kernel
theorem d_Ref_tryAll_144 : decode b_Ref_tryAll 144 = .ok ((.aload_n 0), 1) := by decide +kernel
theorem d_Ref_tryAll_145 : decode b_Ref_tryAll 145 = .ok ((.getfield 46), 3) := by decide +kernel
theorem d_Ref_tryAll_148 : decode b_Ref_tryAll 148 = .ok ((.iload 4), 2) := by decide +kernel
theorem d_Ref_tryAll_150 : decode b_Ref_tryAll 150 = .ok (.dup2, 1) := by decide +kernel
theorem d_Ref_tryAll_151 : decode b_Ref_tryAll 151 = .ok (.iaload, 1) := by decide +kernel
theorem d_Ref_tryAll_152 : decode b_Ref_tryAll 152 = .ok ((.iconst 1), 1) := by decide +kernel
theorem d_Ref_tryAll_153 : decode b_Ref_tryAll 153 = .ok (.iadd, 1) := by decide +kernel
theorem d_Ref_tryAll_154 : decode b_Ref_tryAll 154 = .ok (.iastore, 1) := by decide +kernel
theorem d_Ref_tryAll_155 : decode b_Ref_tryAll 155 = .ok ((.aload_n 0), 1) := by decide +kernel
theorem d_Ref_tryAll_156 : decode b_Ref_tryAll 156 = .ok ((.getfield 46), 3) := by decide +kernel
theorem d_Ref_tryAll_159 : decode b_Ref_tryAll 159 = .ok ((.iload 4), 2) := by decide +kernel
theorem d_Ref_tryAll_161 : decode b_Ref_tryAll 161 = .ok (.iaload, 1) := by decide +kernel
theorem d_Ref_tryAll_162 : decode b_Ref_tryAll 162 = .ok ((.istore 7), 2) := by decide +kernel
theorem d_Ref_tryAll_164 : decode b_Ref_tryAll 164 = .ok ((.iload 7), 2) := by decide +kernel
theorem d_Ref_tryAll_166 : decode b_Ref_tryAll 166 = .ok ((.aload_n 0), 1) := by decide +kernel
theorem d_Ref_tryAll_167 : decode b_Ref_tryAll 167 = .ok ((.getfield 82), 3) := by decide +kernel
theorem d_Ref_tryAll_170 : decode b_Ref_tryAll 170 = .ok ((.if_icmp .ge 20), 3) := by decide +kernel
theorem d_Ref_tryAll_173 : decode b_Ref_tryAll 173 = .ok ((.iload_n 2), 1) := by decide +kernel
theorem d_Ref_tryAll_174 : decode b_Ref_tryAll 174 = .ok ((.iload 5), 2) := by decide +kernel
theorem d_Ref_tryAll_176 : decode b_Ref_tryAll 176 = .ok ((.aload_n 0), 1) := by decide +kernel
theorem d_Ref_tryAll_177 : decode b_Ref_tryAll 177 = .ok ((.getfield 34), 3) := by decide +kernel
theorem d_Ref_tryAll_180 : decode b_Ref_tryAll 180 = .ok ((.iload 7), 2) := by decide +kernel
theorem d_Ref_tryAll_182 : decode b_Ref_tryAll 182 = .ok (.iaload, 1) := by decide +kernel
theorem d_Ref_tryAll_183 : decode b_Ref_tryAll 183 = .ok (.ior, 1) := by decide +kernel
theorem d_Ref_tryAll_184 : decode b_Ref_tryAll 184 = .ok ((.iconst (-1)), 1) := by decide +kernel
theorem d_Ref_tryAll_185 : decode b_Ref_tryAll 185 = .ok (.ixor, 1) := by decide +kernel
theorem d_Ref_tryAll_186 : decode b_Ref_tryAll 186 = .ok (.iand, 1) := by decide +kernel
theorem d_Ref_tryAll_187 : decode b_Ref_tryAll 187 = .ok ((.ifCond .eq 9), 3) := by decide +kernel
theorem d_Ref_tryAll_190 : decode b_Ref_tryAll 190 = .ok ((.iinc 4 (-1)), 3) := by decide +kernel
theorem d_Ref_tryAll_193 : decode b_Ref_tryAll 193 = .ok ((.goto 73), 3) := by decide +kernel
theorem d_Ref_tryAll_196 : decode b_Ref_tryAll 196 = .ok ((.iload_n 2), 1) := by decide +kernel
theorem d_Ref_tryAll_197 : decode b_Ref_tryAll 197 = .ok ((.iload 5), 2) := by decide +kernel
theorem d_Ref_tryAll_199 : decode b_Ref_tryAll 199 = .ok ((.aload_n 0), 1) := by decide +kernel
theorem d_Ref_tryAll_200 : decode b_Ref_tryAll 200 = .ok ((.getfield 31), 3) := by decide +kernel
theorem d_Ref_tryAll_203 : decode b_Ref_tryAll 203 = .ok ((.iload 7), 2) := by decide +kernel
theorem d_Ref_tryAll_205 : decode b_Ref_tryAll 205 = .ok (.iaload, 1) := by decide +kernel
theorem d_Ref_tryAll_206 : decode b_Ref_tryAll 206 = .ok (.ior, 1) := by decide +kernel
theorem d_Ref_tryAll_207 : decode b_Ref_tryAll 207 = .ok ((.iconst (-1)), 1) := by decide +kernel
theorem d_Ref_tryAll_208 : decode b_Ref_tryAll 208 = .ok (.ixor, 1) := by decide +kernel
theorem d_Ref_tryAll_209 : decode b_Ref_tryAll 209 = .ok (.iand, 1) := by decide +kernel
theorem d_Ref_tryAll_210 : decode b_Ref_tryAll 210 = .ok ((.istore 8), 2) := by decide +kernel
theorem d_Ref_tryAll_212 : decode b_Ref_tryAll 212 = .ok ((.iload 8), 2) := by decide +kernel
theorem d_Ref_tryAll_214 : decode b_Ref_tryAll 214 = .ok ((.ifCond .eq 11), 3) := by decide +kernel
theorem d_Ref_tryAll_217 : decode b_Ref_tryAll 217 = .ok ((.iload 4), 2) := by decide +kernel
theorem d_Ref_tryAll_219 : decode b_Ref_tryAll 219 = .ok ((.iconst 1), 1) := by decide +kernel
theorem d_Ref_tryAll_220 : decode b_Ref_tryAll 220 = .ok (.iadd, 1) := by decide +kernel
theorem d_Ref_tryAll_221 : decode b_Ref_tryAll 221 = .ok ((.iload_n 1), 1) := by decide +kernel
theorem d_Ref_tryAll_222 : decode b_Ref_tryAll 222 = .ok ((.if_icmp .eq 20), 3) := by decide +kernel
theorem d_Ref_tryAll_225 : decode b_Ref_tryAll 225 = .ok ((.iload 8), 2) := by decide +kernel
theorem d_Ref_tryAll_227 : decode b_Ref_tryAll 227 = .ok ((.aload_n 0), 1) := by decide +kernel
theorem d_Ref_tryAll_228 : decode b_Ref_tryAll 228 = .ok ((.getfield 34), 3) := by decide +kernel
theorem d_Ref_tryAll_231 : decode b_Ref_tryAll 231 = .ok ((.iload 7), 2) := by decide +kernel
theorem d_Ref_tryAll_233 : decode b_Ref_tryAll 233 = .ok ((.iconst 1), 1) := by decide +kernel
theorem d_Ref_tryAll_234 : decode b_Ref_tryAll 234 = .ok (.iadd, 1) := by decide +kernel
theorem d_Ref_tryAll_235 : decode b_Ref_tryAll 235 = .ok (.iaload, 1) := by decide +kernel
theorem d_Ref_tryAll_236 : decode b_Ref_tryAll 236 = .ok ((.iconst (-1)), 1) := by decide +kernel
theorem d_Ref_tryAll_237 : decode b_Ref_tryAll 237 = .ok (.ixor, 1) := by decide +kernel
theorem d_Ref_tryAll_238 : decode b_Ref_tryAll 238 = .ok (.iand, 1) := by decide +kernel
theorem d_Ref_tryAll_239 : decode b_Ref_tryAll 239 = .ok ((.ifCond .eq 7), 3) := by decide +kernel
theorem d_Ref_tryAll_242 : decode b_Ref_tryAll 242 = .ok ((.iconst 1), 1) := by decide +kernel
theorem d_Ref_tryAll_243 : decode b_Ref_tryAll 243 = .ok ((.goto 4), 3) := by decide +kernel
theorem d_Ref_tryAll_246 : decode b_Ref_tryAll 246 = .ok ((.iconst 0), 1) := by decide +kernel
theorem d_Ref_tryAll_247 : decode b_Ref_tryAll 247 = .ok ((.istore 9), 2) := by decide +kernel
theorem d_Ref_tryAll_249 : decode b_Ref_tryAll 249 = .ok ((.iload 9), 2) := by decide +kernel
theorem d_Ref_tryAll_251 : decode b_Ref_tryAll 251 = .ok ((.ifCond .ne 15), 3) := by decide +kernel
theorem d_Ref_tryAll_254 : decode b_Ref_tryAll 254 = .ok ((.iinc 4 1), 3) := by decide +kernel
theorem d_Ref_tryAll_257 : decode b_Ref_tryAll 257 = .ok ((.aload_n 0), 1) := by decide +kernel
theorem d_Ref_tryAll_258 : decode b_Ref_tryAll 258 = .ok ((.getfield 46), 3) := by decide +kernel
theorem d_Ref_tryAll_261 : decode b_Ref_tryAll 261 = .ok ((.iload 4), 2) := by decide +kernel
theorem d_Ref_tryAll_263 : decode b_Ref_tryAll 263 = .ok ((.iload 7), 2) := by decide +kernel
theorem d_Ref_tryAll_265 : decode b_Ref_tryAll 265 = .ok (.iastore, 1) := by decide +kernel
theorem d_Ref_tryAll_266 : decode b_Ref_tryAll 266 = .ok ((.goto (-254)), 3) := by decide +kernel
theorem d_Ref_tryAll_269 : decode b_Ref_tryAll 269 = .ok ((.iload_n 3), 1) := by decide +kernel
theorem d_Ref_tryAll_270 : decode b_Ref_tryAll 270 = .ok (.ireturn, 1) := by decide +kernel
theorem d_Ref_quick_0 : decode b_Ref_quick 0 = .ok ((.iconst 0), 1) := by decide +kernel
theorem d_Ref_quick_1 : decode b_Ref_quick 1 = .ok ((.istore_n 2), 1) := by decide +kernel
theorem d_Ref_quick_2 : decode b_Ref_quick 2 = .ok ((.iconst 0), 1) := by decide +kernel
theorem d_Ref_quick_3 : decode b_Ref_quick 3 = .ok ((.istore_n 3), 1) := by decide +kernel
theorem d_Ref_quick_4 : decode b_Ref_quick 4 = .ok ((.iload_n 1), 1) := by decide +kernel
theorem d_Ref_quick_5 : decode b_Ref_quick 5 = .ok ((.iload_n 3), 1) := by decide +kernel
theorem d_Ref_quick_6 : decode b_Ref_quick 6 = .ok ((.iconst (-1)), 1) := by decide +kernel
theorem d_Ref_quick_7 : decode b_Ref_quick 7 = .ok (.ixor, 1) := by decide +kernel
theorem d_Ref_quick_8 : decode b_Ref_quick 8 = .ok (.iand, 1) := by decide +kernel
theorem d_Ref_quick_9 : decode b_Ref_quick 9 = .ok ((.ifCond .eq 146), 3) := by decide +kernel
theorem d_Ref_quick_12 : decode b_Ref_quick 12 = .ok ((.iconst (-1)), 1) := by decide +kernel
theorem d_Ref_quick_13 : decode b_Ref_quick 13 = .ok ((.istore 4), 2) := by decide +kernel
theorem d_Ref_quick_15 : decode b_Ref_quick 15 = .ok ((.iconst 0), 1) := by decide +kernel
theorem d_Ref_quick_16 : decode b_Ref_quick 16 = .ok ((.istore 5), 2) := by decide +kernel
theorem d_Ref_quick_18 : decode b_Ref_quick 18 = .ok ((.iload 5), 2) := by decide +kernel
theorem d_Ref_quick_20 : decode b_Ref_quick 20 = .ok ((.aload_n 0), 1) := by decide +kernel
theorem d_Ref_quick_21 : decode b_Ref_quick 21 = .ok ((.getfield 82), 3) := by decide +kernel
theorem d_Ref_quick_24 : decode b_Ref_quick 24 = .ok ((.if_icmp .ge 107), 3) := by decide +kernel
theorem d_Ref_quick_27 : decode b_Ref_quick 27 = .ok ((.aload_n 0), 1) := by decide +kernel
theorem d_Ref_quick_28 : decode b_Ref_quick 28 = .ok ((.getfield 31), 3) := by decide +kernel
theorem d_Ref_quick_31 : decode b_Ref_quick 31 = .ok ((.iload 5), 2) := by decide +kernel
theorem d_Ref_quick_33 : decode b_Ref_quick 33 = .ok (.iaload, 1) := by decide +kernel
theorem d_Ref_quick_34 : decode b_Ref_quick 34 = .ok ((.iload_n 3), 1) := by decide +kernel
theorem d_Ref_quick_35 : decode b_Ref_quick 35 = .ok ((.iconst (-1)), 1) := by decide +kernel
theorem d_Ref_quick_36 : decode b_Ref_quick 36 = .ok (.ixor, 1) := by decide +kernel
theorem d_Ref_quick_37 : decode b_Ref_quick 37 = .ok (.iand, 1) := by decide +kernel
theorem d_Ref_quick_38 : decode b_Ref_quick 38 = .ok ((.invokestatic 101), 3) := by decide +kernel
theorem d_Ref_quick_41 : decode b_Ref_quick 41 = .ok ((.istore 6), 2) := by decide +kernel
theorem d_Ref_quick_43 : decode b_Ref_quick 43 = .ok ((.iload 4), 2) := by decide +kernel
theorem d_Ref_quick_45 : decode b_Ref_quick 45 = .ok ((.ifCond .ge 7), 3) := by decide +kernel
theorem d_Ref_quick_48 : decode b_Ref_quick 48 = .ok ((.iconst 0), 1) := by decide +kernel
theorem d_Ref_quick_49 : decode b_Ref_quick 49 = .ok ((.goto 17), 3) := by decide +kernel
theorem d_Ref_quick_52 : decode b_Ref_quick 52 = .ok ((.aload_n 0), 1) := by decide +kernel
theorem d_Ref_quick_53 : decode b_Ref_quick 53 = .ok ((.getfield 31), 3) := by decide +kernel
theorem d_Ref_quick_56 : decode b_Ref_quick 56 = .ok ((.iload 4), 2) := by decide +kernel
theorem d_Ref_quick_58 : decode b_Ref_quick 58 = .ok (.iaload, 1) := by decide +kernel
theorem d_Ref_quick_59 : decode b_Ref_quick 59 = .ok ((.iload_n 3), 1) := by decide +kernel
theorem d_Ref_quick_60 : decode b_Ref_quick 60 = .ok ((.iconst (-1)), 1) := by decide +kernel
theorem d_Ref_quick_61 : decode b_Ref_quick 61 = .ok (.ixor, 1) := by decide +kernel
theorem d_Ref_quick_62 : decode b_Ref_quick 62 = .ok (.iand, 1) := by decide +kernel
theorem d_Ref_quick_63 : decode b_Ref_quick 63 = .ok ((.invokestatic 101), 3) := by decide +kernel
theorem d_Ref_quick_66 : decode b_Ref_quick 66 = .ok ((.istore 7), 2) := by decide +kernel
theorem d_Ref_quick_68 : decode b_Ref_quick 68 = .ok ((.iload 6), 2) := by decide +kernel
theorem d_Ref_quick_70 : decode b_Ref_quick 70 = .ok ((.iload 7), 2) := by decide +kernel
theorem d_Ref_quick_72 : decode b_Ref_quick 72 = .ok ((.if_icmp .gt 32), 3) := by decide +kernel
theorem d_Ref_quick_75 : decode b_Ref_quick 75 = .ok ((.iload 4), 2) := by decide +kernel
theorem d_Ref_quick_77 : decode b_Ref_quick 77 = .ok ((.ifCond .lt 31), 3) := by decide +kernel
theorem d_Ref_quick_80 : decode b_Ref_quick 80 = .ok ((.iload 6), 2) := by decide +kernel
theorem d_Ref_quick_82 : decode b_Ref_quick 82 = .ok ((.iload 7), 2) := by decide +kernel
theorem d_Ref_quick_84 : decode b_Ref_quick 84 = .ok ((.if_icmp .ne 24), 3) := by decide +kernel
theorem d_Ref_quick_87 : decode b_Ref_quick 87 = .ok ((.aload_n 0), 1) := by decide +kernel
theorem d_Ref_quick_88 : decode b_Ref_quick 88 = .ok ((.getfield 28), 3) := by decide +kernel
theorem d_Ref_quick_91 : decode b_Ref_quick 91 = .ok ((.iload 5), 2) := by decide +kernel
theorem d_Ref_quick_93 : decode b_Ref_quick 93 = .ok (.iaload, 1) := by decide +kernel
theorem d_Ref_quick_94 : decode b_Ref_quick 94 = .ok ((.aload_n 0), 1) := by decide +kernel
theorem d_Ref_quick_95 : decode b_Ref_quick 95 = .ok ((.getfield 28), 3) := by decide +kernel
theorem d_Ref_quick_98 : decode b_Ref_quick 98 = .ok ((.iload 4), 2) := by decide +kernel
theorem d_Ref_quick_100 : decode b_Ref_quick 100 = .ok (.iaload, 1) := by decide +kernel
theorem d_Ref_quick_101 : decode b_Ref_quick 101 = .ok ((.if_icmp .ge 7), 3) := by decide +kernel
theorem d_Ref_quick_104 : decode b_Ref_quick 104 = .ok ((.iconst 1), 1) := by decide +kernel
theorem d_Ref_quick_105 : decode b_Ref_quick 105 = .ok ((.goto 4), 3) := by decide +kernel
theorem d_Ref_quick_108 : decode b_Ref_quick 108 = .ok ((.iconst 0), 1) := by decide +kernel
theorem d_Ref_quick_109 : decode b_Ref_quick 109 = .ok ((.istore 8), 2) := by decide +kernel
theorem d_Ref_quick_111 : decode b_Ref_quick 111 = .ok ((.iload 8), 2) := by decide +kernel
theorem d_Ref_quick_113 : decode b_Ref_quick 113 = .ok ((.ifCond .eq 8), 3) := by decide +kernel
theorem d_Ref_quick_116 : decode b_Ref_quick 116 = .ok ((.iload 5), 2) := by decide +kernel
theorem d_Ref_quick_118 : decode b_Ref_quick 118 = .ok ((.goto 5), 3) := by decide +kernel
theorem d_Ref_quick_121 : decode b_Ref_quick 121 = .ok ((.iload 4), 2) := by decide +kernel
theorem d_Ref_quick_123 : decode b_Ref_quick 123 = .ok ((.istore 4), 2) := by decide +kernel
theorem d_Ref_quick_125 : decode b_Ref_quick 125 = .ok ((.iinc 5 1), 3) := by decide +kernel
theorem d_Ref_quick_128 : decode b_Ref_quick 128 = .ok ((.goto (-110)), 3) := by decide +kernel
theorem d_Ref_quick_131 : decode b_Ref_quick 131 = .ok ((.aload_n 0), 1) := by decide +kernel
theorem d_Ref_quick_132 : decode b_Ref_quick 132 = .ok ((.getfield 46), 3) := by decide +kernel
theorem d_Ref_quick_135 : decode b_Ref_quick 135 = .ok ((.iload_n 2), 1) := by decide +kernel
theorem d_Ref_quick_136 : decode b_Ref_quick 136 = .ok ((.iload 4), 2) := by decide +kernel
theorem d_Ref_quick_138 : decode b_Ref_quick 138 = .ok (.iastore, 1) := by decide +kernel
theorem d_Ref_quick_139 : decode b_Ref_quick 139 = .ok ((.iinc 2 1), 3) := by decide +kernel
theorem d_Ref_quick_142 : decode b_Ref_quick 142 = .ok ((.iload_n 3), 1) := by decide +kernel
theorem d_Ref_quick_143 : decode b_Ref_quick 143 = .ok ((.aload_n 0), 1) := by decide +kernel
theorem d_Ref_quick_144 : decode b_Ref_quick 144 = .ok ((.getfield 31), 3) := by decide +kernel
theorem d_Ref_quick_147 : decode b_Ref_quick 147 = .ok ((.iload 4), 2) := by decide +kernel
theorem d_Ref_quick_149 : decode b_Ref_quick 149 = .ok (.iaload, 1) := by decide +kernel
theorem d_Ref_quick_150 : decode b_Ref_quick 150 = .ok (.ior, 1) := by decide +kernel
theorem d_Ref_quick_151 : decode b_Ref_quick 151 = .ok ((.istore_n 3), 1) := by decide +kernel
theorem d_Ref_quick_152 : decode b_Ref_quick 152 = .ok ((.goto (-148)), 3) := by decide +kernel
theorem d_Ref_quick_155 : decode b_Ref_quick 155 = .ok ((.iload_n 2), 1) := by decide +kernel
theorem d_Ref_quick_156 : decode b_Ref_quick 156 = .ok ((.iconst 1), 1) := by decide +kernel
theorem d_Ref_quick_157 : decode b_Ref_quick 157 = .ok (.isub, 1) := by decide +kernel
theorem d_Ref_quick_158 : decode b_Ref_quick 158 = .ok ((.istore 4), 2) := by decide +kernel
theorem d_Ref_quick_160 : decode b_Ref_quick 160 = .ok ((.iload 4), 2) := by decide +kernel
theorem d_Ref_quick_162 : decode b_Ref_quick 162 = .ok ((.ifCond .lt 93), 3) := by decide +kernel
theorem d_Ref_quick_165 : decode b_Ref_quick 165 = .ok ((.iconst 0), 1) := by decide +kernel
theorem d_Ref_quick_166 : decode b_Ref_quick 166 = .ok ((.istore 5), 2) := by decide +kernel
theorem d_Ref_quick_168 : decode b_Ref_quick 168 = .ok ((.iconst 0), 1) := by decide +kernel
theorem d_Ref_quick_169 : decode b_Ref_quick 169 = .ok ((.istore 6), 2) := by decide +kernel
theorem d_Ref_quick_171 : decode b_Ref_quick 171 = .ok ((.iload 6), 2) := by decide +kernel
theorem d_Ref_quick_173 : decode b_Ref_quick 173 = .ok ((.iload_n 2), 1) := by decide +kernel
theorem d_Ref_quick_174 : decode b_Ref_quick 174 = .ok ((.if_icmp .ge 48), 3) := by decide +kernel
theorem d_Ref_quick_177 : decode b_Ref_quick 177 = .ok ((.iload 6), 2) := by decide +kernel
theorem d_Ref_quick_179 : decode b_Ref_quick 179 = .ok ((.iload 4), 2) := by decide +kernel
theorem d_Ref_quick_181 : decode b_Ref_quick 181 = .ok ((.if_icmp .eq 13), 3) := by decide +kernel
theorem d_Ref_quick_184 : decode b_Ref_quick 184 = .ok ((.aload_n 0), 1) := by decide +kernel
theorem d_Ref_quick_185 : decode b_Ref_quick 185 = .ok ((.getfield 46), 3) := by decide +kernel
theorem d_Ref_quick_188 : decode b_Ref_quick 188 = .ok ((.iload 6), 2) := by decide +kernel
theorem d_Ref_quick_190 : decode b_Ref_quick 190 = .ok (.iaload, 1) := by decide +kernel
theorem d_Ref_quick_191 : decode b_Ref_quick 191 = .ok ((.ifCond .ge 8), 3) := by decide +kernel
theorem d_Ref_quick_194 : decode b_Ref_quick 194 = .ok ((.iload 5), 2) := by decide +kernel
theorem d_Ref_quick_196 : decode b_Ref_quick 196 = .ok ((.goto 18), 3) := by decide +kernel
theorem d_Ref_quick_199 : decode b_Ref_quick 199 = .ok ((.iload 5), 2) := by decide +kernel
theorem d_Ref_quick_201 : decode b_Ref_quick 201 = .ok ((.aload_n 0), 1) := by decide +kernel
theorem d_Ref_quick_202 : decode b_Ref_quick 202 = .ok ((.getfield 31), 3) := by decide +kernel
theorem d_Ref_quick_205 : decode b_Ref_quick 205 = .ok ((.aload_n 0), 1) := by decide +kernel
theorem d_Ref_quick_206 : decode b_Ref_quick 206 = .ok ((.getfield 46), 3) := by decide +kernel
theorem d_Ref_quick_209 : decode b_Ref_quick 209 = .ok ((.iload 6), 2) := by decide +kernel
theorem d_Ref_quick_211 : decode b_Ref_quick 211 = .ok (.iaload, 1) := by decide +kernel
theorem d_Ref_quick_212 : decode b_Ref_quick 212 = .ok (.iaload, 1) := by decide +kernel
theorem d_Ref_quick_213 : decode b_Ref_quick 213 = .ok (.ior, 1) := by decide +kernel
theorem d_Ref_quick_214 : decode b_Ref_quick 214 = .ok ((.istore 5), 2) := by decide +kernel
theorem d_Ref_quick_216 : decode b_Ref_quick 216 = .ok ((.iinc 6 1), 3) := by decide +kernel
theorem d_Ref_quick_219 : decode b_Ref_quick 219 = .ok ((.goto (-48)), 3) := by decide +kernel
theorem d_Ref_quick_222 : decode b_Ref_quick 222 = .ok ((.aload_n 0), 1) := by decide +kernel
theorem d_Ref_quick_223 : decode b_Ref_quick 223 = .ok ((.getfield 46), 3) := by decide +kernel
theorem d_Ref_quick_226 : decode b_Ref_quick 226 = .ok ((.iload 4), 2) := by decide +kernel
theorem d_Ref_quick_228 : decode b_Ref_quick 228 = .ok ((.iload_n 1), 1) := by decide +kernel
theorem d_Ref_quick_229 : decode b_Ref_quick 229 = .ok ((.iload 5), 2) := by decide +kernel
theorem d_Ref_quick_231 : decode b_Ref_quick 231 = .ok ((.iconst (-1)), 1) := by decide +kernel
theorem d_Ref_quick_232 : decode b_Ref_quick 232 = .ok (.ixor, 1) := by decide +kernel
theorem d_Ref_quick_233 : decode b_Ref_quick 233 = .ok (.iand, 1) := by decide +kernel
theorem d_Ref_quick_234 : decode b_Ref_quick 234 = .ok ((.ifCond .ne 7), 3) := by decide +kernel
theorem d_Ref_quick_237 : decode b_Ref_quick 237 = .ok ((.iconst (-1)), 1) := by decide +kernel
theorem d_Ref_quick_238 : decode b_Ref_quick 238 = .ok ((.goto 10), 3) := by decide +kernel
theorem d_Ref_quick_241 : decode b_Ref_quick 241 = .ok ((.aload_n 0), 1) := by decide +kernel
theorem d_Ref_quick_242 : decode b_Ref_quick 242 = .ok ((.getfield 46), 3) := by decide +kernel
theorem d_Ref_quick_245 : decode b_Ref_quick 245 = .ok ((.iload 4), 2) := by decide +kernel
theorem d_Ref_quick_247 : decode b_Ref_quick 247 = .ok (.iaload, 1) := by decide +kernel
theorem d_Ref_quick_248 : decode b_Ref_quick 248 = .ok (.iastore, 1) := by decide +kernel
theorem d_Ref_quick_249 : decode b_Ref_quick 249 = .ok ((.iinc 4 (-1)), 3) := by decide +kernel
theorem d_Ref_quick_252 : decode b_Ref_quick 252 = .ok ((.goto (-92)), 3) := by decide +kernel
theorem d_Ref_quick_255 : decode b_Ref_quick 255 = .ok ((.iconst 0), 1) := by decide +kernel
theorem d_Ref_quick_256 : decode b_Ref_quick 256 = .ok ((.istore 4), 2) := by decide +kernel
theorem d_Ref_quick_258 : decode b_Ref_quick 258 = .ok ((.iconst 0), 1) := by decide +kernel
theorem d_Ref_quick_259 : decode b_Ref_quick 259 = .ok ((.istore 5), 2) := by decide +kernel
theorem d_Ref_quick_261 : decode b_Ref_quick 261 = .ok ((.iload 5), 2) := by decide +kernel
theorem d_Ref_quick_263 : decode b_Ref_quick 263 = .ok ((.aload_n 0), 1) := by decide +kernel
theorem d_Ref_quick_264 : decode b_Ref_quick 264 = .ok ((.getfield 82), 3) := by decide +kernel
theorem d_Ref_quick_267 : decode b_Ref_quick 267 = .ok ((.if_icmp .ge 48), 3) := by decide +kernel
theorem d_Ref_quick_270 : decode b_Ref_quick 270 = .ok ((.iconst 0), 1) := by decide +kernel
theorem d_Ref_quick_271 : decode b_Ref_quick 271 = .ok ((.istore 6), 2) := by decide +kernel
theorem d_Ref_quick_273 : decode b_Ref_quick 273 = .ok ((.iload 6), 2) := by decide +kernel
theorem d_Ref_quick_275 : decode b_Ref_quick 275 = .ok ((.iload_n 2), 1) := by decide +kernel
theorem d_Ref_quick_276 : decode b_Ref_quick 276 = .ok ((.if_icmp .ge 33), 3) := by decide +kernel
theorem d_Ref_quick_279 : decode b_Ref_quick 279 = .ok ((.aload_n 0), 1) := by decide +kernel
theorem d_Ref_quick_280 : decode b_Ref_quick 280 = .ok ((.getfield 46), 3) := by decide +kernel
theorem d_Ref_quick_283 : decode b_Ref_quick 283 = .ok ((.iload 6), 2) := by decide +kernel
theorem d_Ref_quick_285 : decode b_Ref_quick 285 = .ok (.iaload, 1) := by decide +kernel
theorem d_Ref_quick_286 : decode b_Ref_quick 286 = .ok ((.iload 5), 2) := by decide +kernel
theorem d_Ref_quick_288 : decode b_Ref_quick 288 = .ok ((.if_icmp .ne 15), 3) := by decide +kernel
theorem d_Ref_quick_291 : decode b_Ref_quick 291 = .ok ((.aload_n 0), 1) := by decide +kernel
theorem d_Ref_quick_292 : decode b_Ref_quick 292 = .ok ((.getfield 49), 3) := by decide +kernel
theorem d_Ref_quick_295 : decode b_Ref_quick 295 = .ok ((.iload 4), 2) := by decide +kernel
theorem d_Ref_quick_297 : decode b_Ref_quick 297 = .ok ((.iload 5), 2) := by decide +kernel
theorem d_Ref_quick_299 : decode b_Ref_quick 299 = .ok (.iastore, 1) := by decide +kernel
theorem d_Ref_quick_300 : decode b_Ref_quick 300 = .ok ((.iinc 4 1), 3) := by decide +kernel
theorem d_Ref_quick_303 : decode b_Ref_quick 303 = .ok ((.iinc 6 1), 3) := by decide +kernel
theorem d_Ref_quick_306 : decode b_Ref_quick 306 = .ok ((.goto (-33)), 3) := by decide +kernel
theorem d_Ref_quick_309 : decode b_Ref_quick 309 = .ok ((.iinc 5 1), 3) := by decide +kernel
theorem d_Ref_quick_312 : decode b_Ref_quick 312 = .ok ((.goto (-51)), 3) := by decide +kernel
theorem d_Ref_quick_315 : decode b_Ref_quick 315 = .ok ((.iload 4), 2) := by decide +kernel
theorem d_Ref_quick_317 : decode b_Ref_quick 317 = .ok (.ireturn, 1) := by decide +kernel
theorem d_Ref_ones_0 : decode b_Ref_ones 0 = .ok ((.iconst 0), 1) := by decide +kernel
theorem d_Ref_ones_1 : decode b_Ref_ones 1 = .ok ((.istore_n 1), 1) := by decide +kernel
theorem d_Ref_ones_2 : decode b_Ref_ones 2 = .ok ((.iconst 0), 1) := by decide +kernel
theorem d_Ref_ones_3 : decode b_Ref_ones 3 = .ok ((.istore_n 2), 1) := by decide +kernel
theorem d_Ref_ones_4 : decode b_Ref_ones 4 = .ok ((.iload_n 2), 1) := by decide +kernel
theorem d_Ref_ones_5 : decode b_Ref_ones 5 = .ok ((.bipush 32), 2) := by decide +kernel
theorem d_Ref_ones_7 : decode b_Ref_ones 7 = .ok ((.if_icmp .ge 17), 3) := by decide +kernel
theorem d_Ref_ones_10 : decode b_Ref_ones 10 = .ok ((.iload_n 1), 1) := by decide +kernel
theorem d_Ref_ones_11 : decode b_Ref_ones 11 = .ok ((.iload_n 0), 1) := by decide +kernel
theorem d_Ref_ones_12 : decode b_Ref_ones 12 = .ok ((.iload_n 2), 1) := by decide +kernel
theorem d_Ref_ones_13 : decode b_Ref_ones 13 = .ok (.iushr, 1) := by decide +kernel
theorem d_Ref_ones_14 : decode b_Ref_ones 14 = .ok ((.iconst 1), 1) := by decide +kernel
theorem d_Ref_ones_15 : decode b_Ref_ones 15 = .ok (.iand, 1) := by decide +kernel
theorem d_Ref_ones_16 : decode b_Ref_ones 16 = .ok (.iadd, 1) := by decide +kernel
theorem d_Ref_ones_17 : decode b_Ref_ones 17 = .ok ((.istore_n 1), 1) := by decide +kernel
theorem d_Ref_ones_18 : decode b_Ref_ones 18 = .ok ((.iinc 2 1), 3) := by decide +kernel
theorem d_Ref_ones_21 : decode b_Ref_ones 21 = .ok ((.goto (-17)), 3) := by decide +kernel
theorem d_Ref_ones_24 : decode b_Ref_ones 24 = .ok ((.iload_n 1), 1) := by decide +kernel
theorem d_Ref_ones_25 : decode b_Ref_ones 25 = .ok (.ireturn, 1) := by decide +kernel
theorem d_Ref_at_0 : decode b_Ref_at 0 = .ok ((.aload_n 0), 1) := by decide +kernel
theorem d_Ref_at_1 : decode b_Ref_at 1 = .ok ((.aload_n 0), 1) := by decide +kernel
theorem d_Ref_at_2 : decode b_Ref_at 2 = .ok ((.getfield 113), 3) := by decide +kernel
theorem d_Ref_at_5 : decode b_Ref_at 5 = .ok ((.ifCond .ne 7), 3) := by decide +kernel
theorem d_Ref_at_8 : decode b_Ref_at 8 = .ok ((.iconst 1), 1) := by decide +kernel
theorem d_Ref_at_9 : decode b_Ref_at 9 = .ok ((.goto 37), 3) := by decide +kernel
theorem d_Ref_at_12 : decode b_Ref_at 12 = .ok ((.iload_n 1), 1) := by decide +kernel
theorem d_Ref_at_13 : decode b_Ref_at 13 = .ok ((.ifCond .lt 32), 3) := by decide +kernel
theorem d_Ref_at_16 : decode b_Ref_at 16 = .ok ((.iload_n 1), 1) := by decide +kernel
theorem d_Ref_at_17 : decode b_Ref_at 17 = .ok ((.aload_n 0), 1) := by decide +kernel
theorem d_Ref_at_18 : decode b_Ref_at 18 = .ok ((.getfield 110), 3) := by decide +kernel
theorem d_Ref_at_21 : decode b_Ref_at 21 = .ok ((.if_icmp .ge 24), 3) := by decide +kernel
theorem d_Ref_at_24 : decode b_Ref_at 24 = .ok ((.iload_n 2), 1) := by decide +kernel
theorem d_Ref_at_25 : decode b_Ref_at 25 = .ok ((.ifCond .lt 20), 3) := by decide +kernel
theorem d_Ref_at_28 : decode b_Ref_at 28 = .ok ((.iload_n 2), 1) := by decide +kernel
theorem d_Ref_at_29 : decode b_Ref_at 29 = .ok ((.aload_n 0), 1) := by decide +kernel
theorem d_Ref_at_30 : decode b_Ref_at 30 = .ok ((.getfield 55), 3) := by decide +kernel
theorem d_Ref_at_33 : decode b_Ref_at 33 = .ok ((.aload_n 0), 1) := by decide +kernel
theorem d_Ref_at_34 : decode b_Ref_at 34 = .ok ((.getfield 59), 3) := by decide +kernel
theorem d_Ref_at_37 : decode b_Ref_at 37 = .ok (.iadd, 1) := by decide +kernel
theorem d_Ref_at_38 : decode b_Ref_at 38 = .ok ((.if_icmp .ge 7), 3) := by decide +kernel
theorem d_Ref_at_41 : decode b_Ref_at 41 = .ok ((.iconst 0), 1) := by decide +kernel
theorem d_Ref_at_42 : decode b_Ref_at 42 = .ok ((.goto 4), 3) := by decide +kernel
theorem d_Ref_at_45 : decode b_Ref_at 45 = .ok ((.iconst 2), 1) := by decide +kernel
theorem d_Ref_at_46 : decode b_Ref_at 46 = .ok ((.putfield 65), 3) := by decide +kernel
theorem d_Ref_at_49 : decode b_Ref_at 49 = .ok ((.aload_n 0), 1) := by decide +kernel
theorem d_Ref_at_50 : decode b_Ref_at 50 = .ok ((.getfield 65), 3) := by decide +kernel
theorem d_Ref_at_53 : decode b_Ref_at 53 = .ok ((.ifCond .le 5), 3) := by decide +kernel
theorem d_Ref_at_56 : decode b_Ref_at 56 = .ok ((.iconst 0), 1) := by decide +kernel
theorem d_Ref_at_57 : decode b_Ref_at 57 = .ok (.ireturn, 1) := by decide +kernel
theorem d_Ref_at_58 : decode b_Ref_at 58 = .ok ((.iload_n 2), 1) := by decide +kernel
theorem d_Ref_at_59 : decode b_Ref_at 59 = .ok ((.aload_n 0), 1) := by decide +kernel
theorem d_Ref_at_60 : decode b_Ref_at 60 = .ok ((.getfield 55), 3) := by decide +kernel
theorem d_Ref_at_63 : decode b_Ref_at 63 = .ok ((.if_icmp .ge 17), 3) := by decide +kernel
theorem d_Ref_at_66 : decode b_Ref_at 66 = .ok ((.aload_n 0), 1) := by decide +kernel
theorem d_Ref_at_67 : decode b_Ref_at 67 = .ok ((.aload_n 0), 1) := by decide +kernel
theorem d_Ref_at_68 : decode b_Ref_at 68 = .ok ((.getfield 37), 3) := by decide +kernel
theorem d_Ref_at_71 : decode b_Ref_at 71 = .ok ((.iload_n 1), 1) := by decide +kernel
theorem d_Ref_at_72 : decode b_Ref_at 72 = .ok (.iaload, 1) := by decide +kernel
theorem d_Ref_at_73 : decode b_Ref_at 73 = .ok ((.iload_n 2), 1) := by decide +kernel
theorem d_Ref_at_74 : decode b_Ref_at 74 = .ok ((.invokevirtual 68), 3) := by decide +kernel
theorem d_Ref_at_77 : decode b_Ref_at 77 = .ok ((.goto 18), 3) := by decide +kernel
theorem d_Ref_at_80 : decode b_Ref_at 80 = .ok ((.aload_n 0), 1) := by decide +kernel
theorem d_Ref_at_81 : decode b_Ref_at 81 = .ok ((.getfield 40), 3) := by decide +kernel
theorem d_Ref_at_84 : decode b_Ref_at 84 = .ok ((.iload_n 1), 1) := by decide +kernel
theorem d_Ref_at_85 : decode b_Ref_at 85 = .ok (.iaload, 1) := by decide +kernel
theorem d_Ref_at_86 : decode b_Ref_at 86 = .ok ((.iload_n 2), 1) := by decide +kernel
theorem d_Ref_at_87 : decode b_Ref_at 87 = .ok ((.aload_n 0), 1) := by decide +kernel
theorem d_Ref_at_88 : decode b_Ref_at 88 = .ok ((.getfield 55), 3) := by decide +kernel
theorem d_Ref_at_91 : decode b_Ref_at 91 = .ok (.isub, 1) := by decide +kernel
theorem d_Ref_at_92 : decode b_Ref_at 92 = .ok (.ishr, 1) := by decide +kernel
theorem d_Ref_at_93 : decode b_Ref_at 93 = .ok ((.iconst 1), 1) := by decide +kernel
theorem d_Ref_at_94 : decode b_Ref_at 94 = .ok (.iand, 1) := by decide +kernel
theorem d_Ref_at_95 : decode b_Ref_at 95 = .ok (.ireturn, 1) := by decide +kernel
theorem d_Ref_tautology_0 : decode b_Ref_tautology 0 = .ok ((.aload_n 0), 1) := by decide +kernel
theorem d_Ref_tautology_1 : decode b_Ref_tautology 1 = .ok ((.iconst 0), 1) := by decide +kernel
theorem d_Ref_tautology_2 : decode b_Ref_tautology 2 = .ok ((.putfield 65), 3) := by decide +kernel
theorem d_Ref_tautology_5 : decode b_Ref_tautology 5 = .ok ((.aload_n 0), 1) := by decide +kernel
theorem d_Ref_tautology_6 : decode b_Ref_tautology 6 = .ok ((.invokevirtual 79), 3) := by decide +kernel
theorem d_Ref_tautology_9 : decode b_Ref_tautology 9 = .ok ((.iconst 1), 1) := by decide +kernel
theorem d_Ref_tautology_10 : decode b_Ref_tautology 10 = .ok ((.istore_n 1), 1) := by decide +kernel
theorem d_Ref_tautology_11 : decode b_Ref_tautology 11 = .ok ((.iconst 0), 1) := by decide +kernel
theorem d_Ref_tautology_12 : decode b_Ref_tautology 12 = .ok ((.istore_n 2), 1) := by decide +kernel
theorem d_Ref_tautology_13 : decode b_Ref_tautology 13 = .ok ((.iload_n 2), 1) := by decide +kernel
theorem d_Ref_tautology_14 : decode b_Ref_tautology 14 = .ok ((.aload_n 0), 1) := by decide +kernel
theorem d_Ref_tautology_15 : decode b_Ref_tautology 15 = .ok ((.getfield 59), 3) := by decide +kernel
theorem d_Ref_tautology_18 : decode b_Ref_tautology 18 = .ok ((.if_icmp .ge 38), 3) := by decide +kernel
theorem d_Ref_tautology_21 : decode b_Ref_tautology 21 = .ok ((.iload_n 1), 1) := by decide +kernel
theorem d_Ref_tautology_22 : decode b_Ref_tautology 22 = .ok ((.ifCond .eq 26), 3) := by decide +kernel
theorem d_Ref_tautology_25 : decode b_Ref_tautology 25 = .ok ((.aload_n 0), 1) := by decide +kernel
theorem d_Ref_tautology_26 : decode b_Ref_tautology 26 = .ok ((.getfield 19), 3) := by decide +kernel
theorem d_Ref_tautology_29 : decode b_Ref_tautology 29 = .ok ((.iload_n 2), 1) := by decide +kernel
theorem d_Ref_tautology_30 : decode b_Ref_tautology 30 = .ok (.iaload, 1) := by decide +kernel
theorem d_Ref_tautology_31 : decode b_Ref_tautology 31 = .ok ((.iconst 1), 1) := by decide +kernel
theorem d_Ref_tautology_32 : decode b_Ref_tautology 32 = .ok ((.iconst 1), 1) := by decide +kernel
theorem d_Ref_tautology_33 : decode b_Ref_tautology 33 = .ok ((.aload_n 0), 1) := by decide +kernel
theorem d_Ref_tautology_34 : decode b_Ref_tautology 34 = .ok ((.getfield 55), 3) := by decide +kernel
theorem d_Ref_tautology_37 : decode b_Ref_tautology 37 = .ok (.ishl, 1) := by decide +kernel
theorem d_Ref_tautology_38 : decode b_Ref_tautology 38 = .ok (.ishl, 1) := by decide +kernel
theorem d_Ref_tautology_39 : decode b_Ref_tautology 39 = .ok ((.iconst 1), 1) := by decide +kernel
theorem d_Ref_tautology_40 : decode b_Ref_tautology 40 = .ok (.isub, 1) := by decide +kernel
theorem d_Ref_tautology_41 : decode b_Ref_tautology 41 = .ok ((.if_icmp .ne 7), 3) := by decide +kernel
theorem d_Ref_tautology_44 : decode b_Ref_tautology 44 = .ok ((.iconst 1), 1) := by decide +kernel
theorem d_Ref_tautology_45 : decode b_Ref_tautology 45 = .ok ((.goto 4), 3) := by decide +kernel
theorem d_Ref_tautology_48 : decode b_Ref_tautology 48 = .ok ((.iconst 0), 1) := by decide +kernel
theorem d_Ref_tautology_49 : decode b_Ref_tautology 49 = .ok ((.istore_n 1), 1) := by decide +kernel
theorem d_Ref_tautology_50 : decode b_Ref_tautology 50 = .ok ((.iinc 2 1), 3) := by decide +kernel
theorem d_Ref_tautology_53 : decode b_Ref_tautology 53 = .ok ((.goto (-40)), 3) := by decide +kernel
theorem d_Ref_tautology_56 : decode b_Ref_tautology 56 = .ok ((.iload_n 1), 1) := by decide +kernel
theorem d_Ref_tautology_57 : decode b_Ref_tautology 57 = .ok (.ireturn, 1) := by decide +kernel
theorem d_Ref_cost_0 : decode b_Ref_cost 0 = .ok ((.aload_n 0), 1) := by decide +kernel
theorem d_Ref_cost_1 : decode b_Ref_cost 1 = .ok ((.aload_n 0), 1) := by decide +kernel
theorem d_Ref_cost_2 : decode b_Ref_cost 2 = .ok ((.getfield 113), 3) := by decide +kernel
theorem d_Ref_cost_5 : decode b_Ref_cost 5 = .ok ((.ifCond .eq 7), 3) := by decide +kernel
theorem d_Ref_cost_8 : decode b_Ref_cost 8 = .ok ((.iconst 0), 1) := by decide +kernel
theorem d_Ref_cost_9 : decode b_Ref_cost 9 = .ok ((.goto 4), 3) := by decide +kernel
theorem d_Ref_cost_12 : decode b_Ref_cost 12 = .ok ((.iconst 1), 1) := by decide +kernel
theorem d_Ref_cost_13 : decode b_Ref_cost 13 = .ok ((.putfield 65), 3) := by decide +kernel
theorem d_Ref_cost_16 : decode b_Ref_cost 16 = .ok ((.iconst 0), 1) := by decide +kernel
theorem d_Ref_cost_17 : decode b_Ref_cost 17 = .ok ((.istore_n 1), 1) := by decide +kernel
theorem d_Ref_cost_18 : decode b_Ref_cost 18 = .ok ((.iconst 0), 1) := by decide +kernel
theorem d_Ref_cost_19 : decode b_Ref_cost 19 = .ok ((.istore_n 2), 1) := by decide +kernel
theorem d_Ref_cost_20 : decode b_Ref_cost 20 = .ok ((.iload_n 2), 1) := by decide +kernel
theorem d_Ref_cost_21 : decode b_Ref_cost 21 = .ok ((.aload_n 0), 1) := by decide +kernel
theorem d_Ref_cost_22 : decode b_Ref_cost 22 = .ok ((.getfield 110), 3) := by decide +kernel
theorem d_Ref_cost_25 : decode b_Ref_cost 25 = .ok ((.if_icmp .ge 35), 3) := by decide +kernel
theorem d_Ref_cost_28 : decode b_Ref_cost 28 = .ok ((.aload_n 0), 1) := by decide +kernel
theorem d_Ref_cost_29 : decode b_Ref_cost 29 = .ok ((.getfield 113), 3) := by decide +kernel
theorem d_Ref_cost_32 : decode b_Ref_cost 32 = .ok ((.ifCond .eq 28), 3) := by decide +kernel
theorem d_Ref_cost_35 : decode b_Ref_cost 35 = .ok ((.iload_n 1), 1) := by decide +kernel
theorem d_Ref_cost_36 : decode b_Ref_cost 36 = .ok ((.aload_n 0), 1) := by decide +kernel
theorem d_Ref_cost_37 : decode b_Ref_cost 37 = .ok ((.aload_n 0), 1) := by decide +kernel
theorem d_Ref_cost_38 : decode b_Ref_cost 38 = .ok ((.getfield 37), 3) := by decide +kernel
theorem d_Ref_cost_41 : decode b_Ref_cost 41 = .ok ((.iload_n 2), 1) := by decide +kernel
theorem d_Ref_cost_42 : decode b_Ref_cost 42 = .ok (.iaload, 1) := by decide +kernel
theorem d_Ref_cost_43 : decode b_Ref_cost 43 = .ok ((.aload_n 0), 1) := by decide +kernel
theorem d_Ref_cost_44 : decode b_Ref_cost 44 = .ok ((.getfield 40), 3) := by decide +kernel
theorem d_Ref_cost_47 : decode b_Ref_cost 47 = .ok ((.iload_n 2), 1) := by decide +kernel
theorem d_Ref_cost_48 : decode b_Ref_cost 48 = .ok (.iaload, 1) := by decide +kernel
theorem d_Ref_cost_49 : decode b_Ref_cost 49 = .ok ((.invokevirtual 88), 3) := by decide +kernel
theorem d_Ref_cost_52 : decode b_Ref_cost 52 = .ok (.iadd, 1) := by decide +kernel
theorem d_Ref_cost_53 : decode b_Ref_cost 53 = .ok ((.istore_n 1), 1) := by decide +kernel
theorem d_Ref_cost_54 : decode b_Ref_cost 54 = .ok ((.iinc 2 1), 3) := by decide +kernel
theorem d_Ref_cost_57 : decode b_Ref_cost 57 = .ok ((.goto (-37)), 3) := by decide +kernel
theorem d_Ref_cost_60 : decode b_Ref_cost 60 = .ok ((.iload_n 1), 1) := by decide +kernel
theorem d_Ref_cost_61 : decode b_Ref_cost 61 = .ok (.i2l, 1) := by decide +kernel
theorem d_Ref_cost_62 : decode b_Ref_cost 62 = .ok (.lreturn, 1) := by decide +kernel
theorem d_Ref_equal_0 : decode b_Ref_equal 0 = .ok ((.aload_n 0), 1) := by decide +kernel
theorem d_Ref_equal_1 : decode b_Ref_equal 1 = .ok ((.aload_n 0), 1) := by decide +kernel
theorem d_Ref_equal_2 : decode b_Ref_equal 2 = .ok ((.getfield 113), 3) := by decide +kernel
theorem d_Ref_equal_5 : decode b_Ref_equal 5 = .ok ((.ifCond .eq 7), 3) := by decide +kernel
theorem d_Ref_equal_8 : decode b_Ref_equal 8 = .ok ((.iconst 0), 1) := by decide +kernel
theorem d_Ref_equal_9 : decode b_Ref_equal 9 = .ok ((.goto 4), 3) := by decide +kernel
theorem d_Ref_equal_12 : decode b_Ref_equal 12 = .ok ((.iconst 1), 1) := by decide +kernel
theorem d_Ref_equal_13 : decode b_Ref_equal 13 = .ok ((.putfield 65), 3) := by decide +kernel
theorem d_Ref_equal_16 : decode b_Ref_equal 16 = .ok ((.aload_n 0), 1) := by decide +kernel
theorem d_Ref_equal_17 : decode b_Ref_equal 17 = .ok ((.getfield 65), 3) := by decide +kernel
theorem d_Ref_equal_20 : decode b_Ref_equal 20 = .ok ((.ifCond .le 5), 3) := by decide +kernel
theorem d_Ref_equal_23 : decode b_Ref_equal 23 = .ok ((.iconst 0), 1) := by decide +kernel
theorem d_Ref_equal_24 : decode b_Ref_equal 24 = .ok (.ireturn, 1) := by decide +kernel
theorem d_Ref_equal_25 : decode b_Ref_equal 25 = .ok ((.aload_n 0), 1) := by decide +kernel
theorem d_Ref_equal_26 : decode b_Ref_equal 26 = .ok ((.invokevirtual 79), 3) := by decide +kernel
theorem d_Ref_equal_29 : decode b_Ref_equal 29 = .ok ((.iconst 1), 1) := by decide +kernel
theorem d_Ref_equal_30 : decode b_Ref_equal 30 = .ok ((.istore_n 1), 1) := by decide +kernel
theorem d_Ref_equal_31 : decode b_Ref_equal 31 = .ok ((.iconst 0), 1) := by decide +kernel
theorem d_Ref_equal_32 : decode b_Ref_equal 32 = .ok ((.istore_n 2), 1) := by decide +kernel
theorem d_Ref_equal_33 : decode b_Ref_equal 33 = .ok ((.iload_n 2), 1) := by decide +kernel
theorem d_Ref_equal_34 : decode b_Ref_equal 34 = .ok ((.aload_n 0), 1) := by decide +kernel
theorem d_Ref_equal_35 : decode b_Ref_equal 35 = .ok ((.getfield 59), 3) := by decide +kernel
theorem d_Ref_equal_38 : decode b_Ref_equal 38 = .ok ((.if_icmp .ge 51), 3) := by decide +kernel
theorem d_Ref_equal_41 : decode b_Ref_equal 41 = .ok ((.aload_n 0), 1) := by decide +kernel
theorem d_Ref_equal_42 : decode b_Ref_equal 42 = .ok ((.iload_n 2), 1) := by decide +kernel
theorem d_Ref_equal_43 : decode b_Ref_equal 43 = .ok ((.invokevirtual 120), 3) := by decide +kernel
theorem d_Ref_equal_46 : decode b_Ref_equal 46 = .ok ((.istore_n 3), 1) := by decide +kernel
theorem d_Ref_equal_47 : decode b_Ref_equal 47 = .ok ((.iload_n 1), 1) := by decide +kernel
theorem d_Ref_equal_48 : decode b_Ref_equal 48 = .ok ((.ifCond .eq 33), 3) := by decide +kernel
theorem d_Ref_equal_51 : decode b_Ref_equal 51 = .ok ((.aload_n 0), 1) := by decide +kernel
theorem d_Ref_equal_52 : decode b_Ref_equal 52 = .ok ((.getfield 16), 3) := by decide +kernel
theorem d_Ref_equal_55 : decode b_Ref_equal 55 = .ok ((.iload_n 2), 1) := by decide +kernel
theorem d_Ref_equal_56 : decode b_Ref_equal 56 = .ok (.iaload, 1) := by decide +kernel
theorem d_Ref_equal_57 : decode b_Ref_equal 57 = .ok ((.iload_n 3), 1) := by decide +kernel
theorem d_Ref_equal_58 : decode b_Ref_equal 58 = .ok ((.iconst (-1)), 1) := by decide +kernel
theorem d_Ref_equal_59 : decode b_Ref_equal 59 = .ok (.ixor, 1) := by decide +kernel
theorem d_Ref_equal_60 : decode b_Ref_equal 60 = .ok (.iand, 1) := by decide +kernel
theorem d_Ref_equal_61 : decode b_Ref_equal 61 = .ok ((.ifCond .ne 20), 3) := by decide +kernel
theorem d_Ref_equal_64 : decode b_Ref_equal 64 = .ok ((.iload_n 3), 1) := by decide +kernel
theorem d_Ref_equal_65 : decode b_Ref_equal 65 = .ok ((.aload_n 0), 1) := by decide +kernel
theorem d_Ref_equal_66 : decode b_Ref_equal 66 = .ok ((.getfield 19), 3) := by decide +kernel
theorem d_Ref_equal_69 : decode b_Ref_equal 69 = .ok ((.iload_n 2), 1) := by decide +kernel
theorem d_Ref_equal_70 : decode b_Ref_equal 70 = .ok (.iaload, 1) := by decide +kernel
theorem d_Ref_equal_71 : decode b_Ref_equal 71 = .ok ((.iconst (-1)), 1) := by decide +kernel
theorem d_Ref_equal_72 : decode b_Ref_equal 72 = .ok (.ixor, 1) := by decide +kernel
theorem d_Ref_equal_73 : decode b_Ref_equal 73 = .ok (.iand, 1) := by decide +kernel
theorem d_Ref_equal_74 : decode b_Ref_equal 74 = .ok ((.ifCond .ne 7), 3) := by decide +kernel
theorem d_Ref_equal_77 : decode b_Ref_equal 77 = .ok ((.iconst 1), 1) := by decide +kernel
theorem d_Ref_equal_78 : decode b_Ref_equal 78 = .ok ((.goto 4), 3) := by decide +kernel
theorem d_Ref_equal_81 : decode b_Ref_equal 81 = .ok ((.iconst 0), 1) := by decide +kernel
theorem d_Ref_equal_82 : decode b_Ref_equal 82 = .ok ((.istore_n 1), 1) := by decide +kernel
theorem d_Ref_equal_83 : decode b_Ref_equal 83 = .ok ((.iinc 2 1), 3) := by decide +kernel
theorem d_Ref_equal_86 : decode b_Ref_equal 86 = .ok ((.goto (-53)), 3) := by decide +kernel
theorem d_Ref_equal_89 : decode b_Ref_equal 89 = .ok ((.iload_n 1), 1) := by decide +kernel
theorem d_Ref_equal_90 : decode b_Ref_equal 90 = .ok (.ireturn, 1) := by decide +kernel
theorem d_Ref_keptPoints_0 : decode b_Ref_keptPoints 0 = .ok ((.iconst 0), 1) := by decide +kernel
theorem d_Ref_keptPoints_1 : decode b_Ref_keptPoints 1 = .ok ((.istore_n 2), 1) := by decide +kernel
theorem d_Ref_keptPoints_2 : decode b_Ref_keptPoints 2 = .ok ((.iconst 0), 1) := by decide +kernel
theorem d_Ref_keptPoints_3 : decode b_Ref_keptPoints 3 = .ok ((.istore_n 3), 1) := by decide +kernel
theorem d_Ref_keptPoints_4 : decode b_Ref_keptPoints 4 = .ok ((.iload_n 3), 1) := by decide +kernel
theorem d_Ref_keptPoints_5 : decode b_Ref_keptPoints 5 = .ok ((.aload_n 0), 1) := by decide +kernel
theorem d_Ref_keptPoints_6 : decode b_Ref_keptPoints 6 = .ok ((.getfield 110), 3) := by decide +kernel
theorem d_Ref_keptPoints_9 : decode b_Ref_keptPoints 9 = .ok ((.if_icmp .ge 40), 3) := by decide +kernel
theorem d_Ref_keptPoints_12 : decode b_Ref_keptPoints 12 = .ok ((.aload_n 0), 1) := by decide +kernel
theorem d_Ref_keptPoints_13 : decode b_Ref_keptPoints 13 = .ok ((.getfield 40), 3) := by decide +kernel
theorem d_Ref_keptPoints_16 : decode b_Ref_keptPoints 16 = .ok ((.iload_n 3), 1) := by decide +kernel
theorem d_Ref_keptPoints_17 : decode b_Ref_keptPoints 17 = .ok (.iaload, 1) := by decide +kernel
theorem d_Ref_keptPoints_18 : decode b_Ref_keptPoints 18 = .ok ((.iload_n 1), 1) := by decide +kernel
theorem d_Ref_keptPoints_19 : decode b_Ref_keptPoints 19 = .ok (.ishr, 1) := by decide +kernel
theorem d_Ref_keptPoints_20 : decode b_Ref_keptPoints 20 = .ok ((.iconst 1), 1) := by decide +kernel
theorem d_Ref_keptPoints_21 : decode b_Ref_keptPoints 21 = .ok (.iand, 1) := by decide +kernel
theorem d_Ref_keptPoints_22 : decode b_Ref_keptPoints 22 = .ok ((.iconst 1), 1) := by decide +kernel
theorem d_Ref_keptPoints_23 : decode b_Ref_keptPoints 23 = .ok ((.if_icmp .ne 18), 3) := by decide +kernel
theorem d_Ref_keptPoints_26 : decode b_Ref_keptPoints 26 = .ok ((.iload_n 2), 1) := by decide +kernel
theorem d_Ref_keptPoints_27 : decode b_Ref_keptPoints 27 = .ok ((.aload_n 0), 1) := by decide +kernel
theorem d_Ref_keptPoints_28 : decode b_Ref_keptPoints 28 = .ok ((.aload_n 0), 1) := by decide +kernel
theorem d_Ref_keptPoints_29 : decode b_Ref_keptPoints 29 = .ok ((.getfield 37), 3) := by decide +kernel
theorem d_Ref_keptPoints_32 : decode b_Ref_keptPoints 32 = .ok ((.iload_n 3), 1) := by decide +kernel
theorem d_Ref_keptPoints_33 : decode b_Ref_keptPoints 33 = .ok (.iaload, 1) := by decide +kernel
theorem d_Ref_keptPoints_34 : decode b_Ref_keptPoints 34 = .ok ((.invokevirtual 75), 3) := by decide +kernel
theorem d_Ref_keptPoints_37 : decode b_Ref_keptPoints 37 = .ok (.ior, 1) := by decide +kernel
theorem d_Ref_keptPoints_38 : decode b_Ref_keptPoints 38 = .ok ((.goto 4), 3) := by decide +kernel
theorem d_Ref_keptPoints_41 : decode b_Ref_keptPoints 41 = .ok ((.iload_n 2), 1) := by decide +kernel
theorem d_Ref_keptPoints_42 : decode b_Ref_keptPoints 42 = .ok ((.istore_n 2), 1) := by decide +kernel
theorem d_Ref_keptPoints_43 : decode b_Ref_keptPoints 43 = .ok ((.iinc 3 1), 3) := by decide +kernel
theorem d_Ref_keptPoints_46 : decode b_Ref_keptPoints 46 = .ok ((.goto (-42)), 3) := by decide +kernel
theorem d_Ref_keptPoints_49 : decode b_Ref_keptPoints 49 = .ok ((.iload_n 2), 1) := by decide +kernel
theorem d_Ref_keptPoints_50 : decode b_Ref_keptPoints 50 = .ok (.ireturn, 1) := by decide +kernel
theorem d_Ref_value_0 : decode b_Ref_value 0 = .ok ((.aload_n 0), 1) := by decide +kernel
theorem d_Ref_value_1 : decode b_Ref_value 1 = .ok ((.aload_n 0), 1) := by decide +kernel
theorem d_Ref_value_2 : decode b_Ref_value 2 = .ok ((.getfield 113), 3) := by decide +kernel
theorem d_Ref_value_5 : decode b_Ref_value 5 = .ok ((.ifCond .ne 7), 3) := by decide +kernel
theorem d_Ref_value_8 : decode b_Ref_value 8 = .ok ((.iconst 1), 1) := by decide +kernel
theorem d_Ref_value_9 : decode b_Ref_value 9 = .ok ((.goto 42), 3) := by decide +kernel
theorem d_Ref_value_12 : decode b_Ref_value 12 = .ok ((.iload_n 3), 1) := by decide +kernel
theorem d_Ref_value_13 : decode b_Ref_value 13 = .ok ((.ifCond .lt 11), 3) := by decide +kernel
theorem d_Ref_value_16 : decode b_Ref_value 16 = .ok ((.iload_n 3), 1) := by decide +kernel
theorem d_Ref_value_17 : decode b_Ref_value 17 = .ok ((.aload_n 0), 1) := by decide +kernel
theorem d_Ref_value_18 : decode b_Ref_value 18 = .ok ((.getfield 59), 3) := by decide +kernel
theorem d_Ref_value_21 : decode b_Ref_value 21 = .ok ((.if_icmp .lt 7), 3) := by decide +kernel
theorem d_Ref_value_24 : decode b_Ref_value 24 = .ok ((.iconst 2), 1) := by decide +kernel
end
section
theorem d_Ref_value_25 : decode b_Ref_value 25 = .ok ((.goto 26), 3) := by decide +kernel
theorem d_Ref_value_28 : decode b_Ref_value 28 = .ok ((.lload_n 1), 1) := by decide +kernel
theorem d_Ref_value_29 : decode b_Ref_value 29 = .ok ((.lconst 0), 1) := by decide +kernel
theorem d_Ref_value_30 : decode b_Ref_value 30 = .ok (.lcmp, 1) := by decide +kernel
theorem d_Ref_value_31 : decode b_Ref_value 31 = .ok ((.ifCond .lt 15), 3) := by decide +kernel
theorem d_Ref_value_34 : decode b_Ref_value 34 = .ok ((.lload_n 1), 1) := by decide +kernel
theorem d_Ref_value_35 : decode b_Ref_value 35 = .ok ((.iconst 1), 1) := by decide +kernel
theorem d_Ref_value_36 : decode b_Ref_value 36 = .ok ((.aload_n 0), 1) := by decide +kernel
theorem d_Ref_value_37 : decode b_Ref_value 37 = .ok ((.getfield 55), 3) := by decide +kernel
theorem d_Ref_value_40 : decode b_Ref_value 40 = .ok (.ishl, 1) := by decide +kernel
theorem d_Ref_value_41 : decode b_Ref_value 41 = .ok (.i2l, 1) := by decide +kernel
theorem d_Ref_value_42 : decode b_Ref_value 42 = .ok (.lcmp, 1) := by decide +kernel
theorem d_Ref_value_43 : decode b_Ref_value 43 = .ok ((.ifCond .lt 7), 3) := by decide +kernel
theorem d_Ref_value_46 : decode b_Ref_value 46 = .ok ((.iconst 3), 1) := by decide +kernel
theorem d_Ref_value_47 : decode b_Ref_value 47 = .ok ((.goto 4), 3) := by decide +kernel
theorem d_Ref_value_50 : decode b_Ref_value 50 = .ok ((.iconst 0), 1) := by decide +kernel
theorem d_Ref_value_51 : decode b_Ref_value 51 = .ok ((.putfield 65), 3) := by decide +kernel
theorem d_Ref_value_54 : decode b_Ref_value 54 = .ok ((.aload_n 0), 1) := by decide +kernel
theorem d_Ref_value_55 : decode b_Ref_value 55 = .ok ((.getfield 65), 3) := by decide +kernel
theorem d_Ref_value_58 : decode b_Ref_value 58 = .ok ((.ifCond .ne 21), 3) := by decide +kernel
theorem d_Ref_value_61 : decode b_Ref_value 61 = .ok ((.aload_n 0), 1) := by decide +kernel
theorem d_Ref_value_62 : decode b_Ref_value 62 = .ok ((.iload_n 3), 1) := by decide +kernel
theorem d_Ref_value_63 : decode b_Ref_value 63 = .ok ((.invokevirtual 120), 3) := by decide +kernel
theorem d_Ref_value_66 : decode b_Ref_value 66 = .ok ((.lload_n 1), 1) := by decide +kernel
theorem d_Ref_value_67 : decode b_Ref_value 67 = .ok (.l2i, 1) := by decide +kernel
theorem d_Ref_value_68 : decode b_Ref_value 68 = .ok (.ishr, 1) := by decide +kernel
theorem d_Ref_value_69 : decode b_Ref_value 69 = .ok ((.iconst 1), 1) := by decide +kernel
theorem d_Ref_value_70 : decode b_Ref_value 70 = .ok (.iand, 1) := by decide +kernel
theorem d_Ref_value_71 : decode b_Ref_value 71 = .ok ((.iconst 1), 1) := by decide +kernel
theorem d_Ref_value_72 : decode b_Ref_value 72 = .ok ((.if_icmp .ne 7), 3) := by decide +kernel
theorem d_Ref_value_75 : decode b_Ref_value 75 = .ok ((.iconst 1), 1) := by decide +kernel
theorem d_Ref_value_76 : decode b_Ref_value 76 = .ok ((.goto 4), 3) := by decide +kernel
theorem d_Ref_value_79 : decode b_Ref_value 79 = .ok ((.iconst 0), 1) := by decide +kernel
theorem d_Ref_value_80 : decode b_Ref_value 80 = .ok (.ireturn, 1) := by decide +kernel
theorem d_Ref_divide_0 : decode b_Ref_divide 0 = .ok ((.aload_n 0), 1) := by decide +kernel
theorem d_Ref_divide_1 : decode b_Ref_divide 1 = .ok ((.aload_n 0), 1) := by decide +kernel
theorem d_Ref_divide_2 : decode b_Ref_divide 2 = .ok ((.getfield 113), 3) := by decide +kernel
theorem d_Ref_divide_5 : decode b_Ref_divide 5 = .ok ((.ifCond .ne 7), 3) := by decide +kernel
theorem d_Ref_divide_8 : decode b_Ref_divide 8 = .ok ((.iconst 1), 1) := by decide +kernel
theorem d_Ref_divide_9 : decode b_Ref_divide 9 = .ok ((.goto 30), 3) := by decide +kernel
theorem d_Ref_divide_12 : decode b_Ref_divide 12 = .ok ((.iload_n 1), 1) := by decide +kernel
theorem d_Ref_divide_13 : decode b_Ref_divide 13 = .ok ((.ifCond .le 21), 3) := by decide +kernel
theorem d_Ref_divide_16 : decode b_Ref_divide 16 = .ok ((.aload_n 0), 1) := by decide +kernel
theorem d_Ref_divide_17 : decode b_Ref_divide 17 = .ok ((.getfield 110), 3) := by decide +kernel
theorem d_Ref_divide_20 : decode b_Ref_divide 20 = .ok ((.bipush 31), 2) := by decide +kernel
theorem d_Ref_divide_22 : decode b_Ref_divide 22 = .ok ((.if_icmp .ge 16), 3) := by decide +kernel
theorem d_Ref_divide_25 : decode b_Ref_divide 25 = .ok ((.iload_n 1), 1) := by decide +kernel
theorem d_Ref_divide_26 : decode b_Ref_divide 26 = .ok ((.aload_n 0), 1) := by decide +kernel
theorem d_Ref_divide_27 : decode b_Ref_divide 27 = .ok ((.getfield 110), 3) := by decide +kernel
theorem d_Ref_divide_30 : decode b_Ref_divide 30 = .ok (.ishr, 1) := by decide +kernel
theorem d_Ref_divide_31 : decode b_Ref_divide 31 = .ok ((.ifCond .eq 7), 3) := by decide +kernel
theorem d_Ref_divide_34 : decode b_Ref_divide 34 = .ok ((.iconst 2), 1) := by decide +kernel
theorem d_Ref_divide_35 : decode b_Ref_divide 35 = .ok ((.goto 4), 3) := by decide +kernel
theorem d_Ref_divide_38 : decode b_Ref_divide 38 = .ok ((.iconst 0), 1) := by decide +kernel
theorem d_Ref_divide_39 : decode b_Ref_divide 39 = .ok ((.putfield 65), 3) := by decide +kernel
theorem d_Ref_divide_42 : decode b_Ref_divide 42 = .ok ((.aload_n 0), 1) := by decide +kernel
theorem d_Ref_divide_43 : decode b_Ref_divide 43 = .ok ((.getfield 65), 3) := by decide +kernel
theorem d_Ref_divide_46 : decode b_Ref_divide 46 = .ok ((.ifCond .le 5), 3) := by decide +kernel
theorem d_Ref_divide_49 : decode b_Ref_divide 49 = .ok ((.iconst 0), 1) := by decide +kernel
theorem d_Ref_divide_50 : decode b_Ref_divide 50 = .ok (.ireturn, 1) := by decide +kernel
theorem d_Ref_divide_51 : decode b_Ref_divide 51 = .ok ((.aload_n 0), 1) := by decide +kernel
theorem d_Ref_divide_52 : decode b_Ref_divide 52 = .ok ((.iconst 0), 1) := by decide +kernel
theorem d_Ref_divide_53 : decode b_Ref_divide 53 = .ok ((.putfield 117), 3) := by decide +kernel
theorem d_Ref_divide_56 : decode b_Ref_divide 56 = .ok ((.iconst 0), 1) := by decide +kernel
theorem d_Ref_divide_57 : decode b_Ref_divide 57 = .ok ((.istore_n 2), 1) := by decide +kernel
theorem d_Ref_divide_58 : decode b_Ref_divide 58 = .ok ((.iload_n 2), 1) := by decide +kernel
theorem d_Ref_divide_59 : decode b_Ref_divide 59 = .ok ((.aload_n 0), 1) := by decide +kernel
theorem d_Ref_divide_60 : decode b_Ref_divide 60 = .ok ((.getfield 62), 3) := by decide +kernel
theorem d_Ref_divide_63 : decode b_Ref_divide 63 = .ok ((.if_icmp .ge 87), 3) := by decide +kernel
theorem d_Ref_divide_66 : decode b_Ref_divide 66 = .ok ((.iconst 1), 1) := by decide +kernel
theorem d_Ref_divide_67 : decode b_Ref_divide 67 = .ok ((.istore_n 3), 1) := by decide +kernel
theorem d_Ref_divide_68 : decode b_Ref_divide 68 = .ok ((.iconst 0), 1) := by decide +kernel
theorem d_Ref_divide_69 : decode b_Ref_divide 69 = .ok ((.istore 4), 2) := by decide +kernel
theorem d_Ref_divide_71 : decode b_Ref_divide 71 = .ok ((.iload 4), 2) := by decide +kernel
theorem d_Ref_divide_73 : decode b_Ref_divide 73 = .ok ((.aload_n 0), 1) := by decide +kernel
theorem d_Ref_divide_74 : decode b_Ref_divide 74 = .ok ((.getfield 110), 3) := by decide +kernel
theorem d_Ref_divide_77 : decode b_Ref_divide 77 = .ok ((.if_icmp .ge 43), 3) := by decide +kernel
theorem d_Ref_divide_80 : decode b_Ref_divide 80 = .ok ((.iload_n 3), 1) := by decide +kernel
theorem d_Ref_divide_81 : decode b_Ref_divide 81 = .ok ((.ifCond .eq 31), 3) := by decide +kernel
theorem d_Ref_divide_84 : decode b_Ref_divide 84 = .ok ((.iload_n 1), 1) := by decide +kernel
theorem d_Ref_divide_85 : decode b_Ref_divide 85 = .ok ((.iload 4), 2) := by decide +kernel
theorem d_Ref_divide_87 : decode b_Ref_divide 87 = .ok (.ishr, 1) := by decide +kernel
theorem d_Ref_divide_88 : decode b_Ref_divide 88 = .ok ((.iconst 1), 1) := by decide +kernel
theorem d_Ref_divide_89 : decode b_Ref_divide 89 = .ok (.iand, 1) := by decide +kernel
theorem d_Ref_divide_90 : decode b_Ref_divide 90 = .ok ((.ifCond .eq 18), 3) := by decide +kernel
theorem d_Ref_divide_93 : decode b_Ref_divide 93 = .ok ((.aload_n 0), 1) := by decide +kernel
theorem d_Ref_divide_94 : decode b_Ref_divide 94 = .ok ((.iload_n 2), 1) := by decide +kernel
theorem d_Ref_divide_95 : decode b_Ref_divide 95 = .ok ((.aload_n 0), 1) := by decide +kernel
theorem d_Ref_divide_96 : decode b_Ref_divide 96 = .ok ((.getfield 37), 3) := by decide +kernel
theorem d_Ref_divide_99 : decode b_Ref_divide 99 = .ok ((.iload 4), 2) := by decide +kernel
theorem d_Ref_divide_101 : decode b_Ref_divide 101 = .ok (.iaload, 1) := by decide +kernel
theorem d_Ref_divide_102 : decode b_Ref_divide 102 = .ok ((.invokevirtual 126), 3) := by decide +kernel
theorem d_Ref_divide_105 : decode b_Ref_divide 105 = .ok ((.ifCond .eq 7), 3) := by decide +kernel
theorem d_Ref_divide_108 : decode b_Ref_divide 108 = .ok ((.iconst 1), 1) := by decide +kernel
theorem d_Ref_divide_109 : decode b_Ref_divide 109 = .ok ((.goto 4), 3) := by decide +kernel
theorem d_Ref_divide_112 : decode b_Ref_divide 112 = .ok ((.iconst 0), 1) := by decide +kernel
theorem d_Ref_divide_113 : decode b_Ref_divide 113 = .ok ((.istore_n 3), 1) := by decide +kernel
theorem d_Ref_divide_114 : decode b_Ref_divide 114 = .ok ((.iinc 4 1), 3) := by decide +kernel
theorem d_Ref_divide_117 : decode b_Ref_divide 117 = .ok ((.goto (-46)), 3) := by decide +kernel
theorem d_Ref_divide_120 : decode b_Ref_divide 120 = .ok ((.iload_n 3), 1) := by decide +kernel
theorem d_Ref_divide_121 : decode b_Ref_divide 121 = .ok ((.ifCond .eq 23), 3) := by decide +kernel
theorem d_Ref_divide_124 : decode b_Ref_divide 124 = .ok ((.aload_n 0), 1) := by decide +kernel
theorem d_Ref_divide_125 : decode b_Ref_divide 125 = .ok ((.getfield 43), 3) := by decide +kernel
theorem d_Ref_divide_128 : decode b_Ref_divide 128 = .ok ((.aload_n 0), 1) := by decide +kernel
theorem d_Ref_divide_129 : decode b_Ref_divide 129 = .ok ((.getfield 117), 3) := by decide +kernel
theorem d_Ref_divide_132 : decode b_Ref_divide 132 = .ok ((.iload_n 2), 1) := by decide +kernel
theorem d_Ref_divide_133 : decode b_Ref_divide 133 = .ok (.iastore, 1) := by decide +kernel
theorem d_Ref_divide_134 : decode b_Ref_divide 134 = .ok ((.aload_n 0), 1) := by decide +kernel
theorem d_Ref_divide_135 : decode b_Ref_divide 135 = .ok (.dup, 1) := by decide +kernel
theorem d_Ref_divide_136 : decode b_Ref_divide 136 = .ok ((.getfield 117), 3) := by decide +kernel
theorem d_Ref_divide_139 : decode b_Ref_divide 139 = .ok ((.iconst 1), 1) := by decide +kernel
theorem d_Ref_divide_140 : decode b_Ref_divide 140 = .ok (.iadd, 1) := by decide +kernel
theorem d_Ref_divide_141 : decode b_Ref_divide 141 = .ok ((.putfield 117), 3) := by decide +kernel
theorem d_Ref_divide_144 : decode b_Ref_divide 144 = .ok ((.iinc 2 1), 3) := by decide +kernel
theorem d_Ref_divide_147 : decode b_Ref_divide 147 = .ok ((.goto (-89)), 3) := by decide +kernel
theorem d_Ref_divide_150 : decode b_Ref_divide 150 = .ok ((.aload_n 0), 1) := by decide +kernel
theorem d_Ref_divide_151 : decode b_Ref_divide 151 = .ok ((.getfield 117), 3) := by decide +kernel
theorem d_Ref_divide_154 : decode b_Ref_divide 154 = .ok (.ireturn, 1) := by decide +kernel
theorem d_Ref_isIn_0 : decode b_Ref_isIn 0 = .ok ((.iconst 0), 1) := by decide +kernel
theorem d_Ref_isIn_1 : decode b_Ref_isIn 1 = .ok ((.istore_n 3), 1) := by decide +kernel
theorem d_Ref_isIn_2 : decode b_Ref_isIn 2 = .ok ((.iconst 0), 1) := by decide +kernel
theorem d_Ref_isIn_3 : decode b_Ref_isIn 3 = .ok ((.istore 4), 2) := by decide +kernel
theorem d_Ref_isIn_5 : decode b_Ref_isIn 5 = .ok ((.iload 4), 2) := by decide +kernel
theorem d_Ref_isIn_7 : decode b_Ref_isIn 7 = .ok ((.aload_n 0), 1) := by decide +kernel
theorem d_Ref_isIn_8 : decode b_Ref_isIn 8 = .ok ((.getfield 110), 3) := by decide +kernel
theorem d_Ref_isIn_11 : decode b_Ref_isIn 11 = .ok ((.if_icmp .ge 35), 3) := by decide +kernel
theorem d_Ref_isIn_14 : decode b_Ref_isIn 14 = .ok ((.iload_n 3), 1) := by decide +kernel
theorem d_Ref_isIn_15 : decode b_Ref_isIn 15 = .ok ((.ifCond .ne 19), 3) := by decide +kernel
theorem d_Ref_isIn_18 : decode b_Ref_isIn 18 = .ok ((.aload_n 0), 1) := by decide +kernel
theorem d_Ref_isIn_19 : decode b_Ref_isIn 19 = .ok ((.aload_n 0), 1) := by decide +kernel
theorem d_Ref_isIn_20 : decode b_Ref_isIn 20 = .ok ((.getfield 37), 3) := by decide +kernel
theorem d_Ref_isIn_23 : decode b_Ref_isIn 23 = .ok ((.iload 4), 2) := by decide +kernel
theorem d_Ref_isIn_25 : decode b_Ref_isIn 25 = .ok (.iaload, 1) := by decide +kernel
theorem d_Ref_isIn_26 : decode b_Ref_isIn 26 = .ok ((.iload_n 2), 1) := by decide +kernel
theorem d_Ref_isIn_27 : decode b_Ref_isIn 27 = .ok ((.invokevirtual 123), 3) := by decide +kernel
theorem d_Ref_isIn_30 : decode b_Ref_isIn 30 = .ok ((.iload_n 1), 1) := by decide +kernel
theorem d_Ref_isIn_31 : decode b_Ref_isIn 31 = .ok ((.if_icmp .ne 7), 3) := by decide +kernel
theorem d_Ref_isIn_34 : decode b_Ref_isIn 34 = .ok ((.iconst 1), 1) := by decide +kernel
theorem d_Ref_isIn_35 : decode b_Ref_isIn 35 = .ok ((.goto 4), 3) := by decide +kernel
theorem d_Ref_isIn_38 : decode b_Ref_isIn 38 = .ok ((.iconst 0), 1) := by decide +kernel
theorem d_Ref_isIn_39 : decode b_Ref_isIn 39 = .ok ((.istore_n 3), 1) := by decide +kernel
theorem d_Ref_isIn_40 : decode b_Ref_isIn 40 = .ok ((.iinc 4 1), 3) := by decide +kernel
theorem d_Ref_isIn_43 : decode b_Ref_isIn 43 = .ok ((.goto (-38)), 3) := by decide +kernel
theorem d_Ref_isIn_46 : decode b_Ref_isIn 46 = .ok ((.iload_n 3), 1) := by decide +kernel
theorem d_Ref_isIn_47 : decode b_Ref_isIn 47 = .ok (.ireturn, 1) := by decide +kernel
theorem d_Ref_divided_0 : decode b_Ref_divided 0 = .ok ((.iconst 0), 1) := by decide +kernel
theorem d_Ref_divided_1 : decode b_Ref_divided 1 = .ok ((.istore_n 3), 1) := by decide +kernel
theorem d_Ref_divided_2 : decode b_Ref_divided 2 = .ok ((.iconst 0), 1) := by decide +kernel
theorem d_Ref_divided_3 : decode b_Ref_divided 3 = .ok ((.istore 4), 2) := by decide +kernel
theorem d_Ref_divided_5 : decode b_Ref_divided 5 = .ok ((.iload 4), 2) := by decide +kernel
theorem d_Ref_divided_7 : decode b_Ref_divided 7 = .ok ((.aload_n 0), 1) := by decide +kernel
theorem d_Ref_divided_8 : decode b_Ref_divided 8 = .ok ((.getfield 55), 3) := by decide +kernel
theorem d_Ref_divided_11 : decode b_Ref_divided 11 = .ok ((.if_icmp .ge 59), 3) := by decide +kernel
theorem d_Ref_divided_14 : decode b_Ref_divided 14 = .ok ((.aload_n 0), 1) := by decide +kernel
theorem d_Ref_divided_15 : decode b_Ref_divided 15 = .ok ((.iload_n 1), 1) := by decide +kernel
theorem d_Ref_divided_16 : decode b_Ref_divided 16 = .ok ((.iload 4), 2) := by decide +kernel
theorem d_Ref_divided_18 : decode b_Ref_divided 18 = .ok ((.invokevirtual 68), 3) := by decide +kernel
theorem d_Ref_divided_21 : decode b_Ref_divided 21 = .ok ((.istore 5), 2) := by decide +kernel
theorem d_Ref_divided_23 : decode b_Ref_divided 23 = .ok ((.aload_n 0), 1) := by decide +kernel
theorem d_Ref_divided_24 : decode b_Ref_divided 24 = .ok ((.iload_n 2), 1) := by decide +kernel
theorem d_Ref_divided_25 : decode b_Ref_divided 25 = .ok ((.iload 4), 2) := by decide +kernel
theorem d_Ref_divided_27 : decode b_Ref_divided 27 = .ok ((.invokevirtual 68), 3) := by decide +kernel
theorem d_Ref_divided_30 : decode b_Ref_divided 30 = .ok ((.istore 6), 2) := by decide +kernel
theorem d_Ref_divided_32 : decode b_Ref_divided 32 = .ok ((.iload 6), 2) := by decide +kernel
theorem d_Ref_divided_34 : decode b_Ref_divided 34 = .ok ((.iconst 2), 1) := by decide +kernel
theorem d_Ref_divided_35 : decode b_Ref_divided 35 = .ok ((.if_icmp .eq 12), 3) := by decide +kernel
theorem d_Ref_divided_38 : decode b_Ref_divided 38 = .ok ((.iload 5), 2) := by decide +kernel
theorem d_Ref_divided_40 : decode b_Ref_divided 40 = .ok ((.iload 6), 2) := by decide +kernel
theorem d_Ref_divided_42 : decode b_Ref_divided 42 = .ok ((.if_icmp .eq 5), 3) := by decide +kernel
theorem d_Ref_divided_45 : decode b_Ref_divided 45 = .ok ((.iconst (-1)), 1) := by decide +kernel
theorem d_Ref_divided_46 : decode b_Ref_divided 46 = .ok (.ireturn, 1) := by decide +kernel
theorem d_Ref_divided_47 : decode b_Ref_divided 47 = .ok ((.iconst 3), 1) := by decide +kernel
theorem d_Ref_divided_48 : decode b_Ref_divided 48 = .ok ((.iload_n 3), 1) := by decide +kernel
theorem d_Ref_divided_49 : decode b_Ref_divided 49 = .ok (.imul, 1) := by decide +kernel
theorem d_Ref_divided_50 : decode b_Ref_divided 50 = .ok ((.iload 6), 2) := by decide +kernel
theorem d_Ref_divided_52 : decode b_Ref_divided 52 = .ok ((.iconst 2), 1) := by decide +kernel
theorem d_Ref_divided_53 : decode b_Ref_divided 53 = .ok ((.if_icmp .eq 7), 3) := by decide +kernel
theorem d_Ref_divided_56 : decode b_Ref_divided 56 = .ok ((.iconst 2), 1) := by decide +kernel
theorem d_Ref_divided_57 : decode b_Ref_divided 57 = .ok ((.goto 5), 3) := by decide +kernel
theorem d_Ref_divided_60 : decode b_Ref_divided 60 = .ok ((.iload 5), 2) := by decide +kernel
theorem d_Ref_divided_62 : decode b_Ref_divided 62 = .ok (.iadd, 1) := by decide +kernel
theorem d_Ref_divided_63 : decode b_Ref_divided 63 = .ok ((.istore_n 3), 1) := by decide +kernel
theorem d_Ref_divided_64 : decode b_Ref_divided 64 = .ok ((.iinc 4 1), 3) := by decide +kernel
theorem d_Ref_divided_67 : decode b_Ref_divided 67 = .ok ((.goto (-62)), 3) := by decide +kernel
theorem d_Ref_divided_70 : decode b_Ref_divided 70 = .ok ((.iload_n 3), 1) := by decide +kernel
theorem d_Ref_divided_71 : decode b_Ref_divided 71 = .ok (.ireturn, 1) := by decide +kernel
theorem d_Ref_quotient_0 : decode b_Ref_quotient 0 = .ok ((.aload_n 0), 1) := by decide +kernel
theorem d_Ref_quotient_1 : decode b_Ref_quotient 1 = .ok ((.iload_n 1), 1) := by decide +kernel
theorem d_Ref_quotient_2 : decode b_Ref_quotient 2 = .ok ((.ifCond .lt 15), 3) := by decide +kernel
theorem d_Ref_quotient_5 : decode b_Ref_quotient 5 = .ok ((.iload_n 1), 1) := by decide +kernel
theorem d_Ref_quotient_6 : decode b_Ref_quotient 6 = .ok ((.aload_n 0), 1) := by decide +kernel
theorem d_Ref_quotient_7 : decode b_Ref_quotient 7 = .ok ((.getfield 117), 3) := by decide +kernel
theorem d_Ref_quotient_10 : decode b_Ref_quotient 10 = .ok ((.if_icmp .ge 7), 3) := by decide +kernel
theorem d_Ref_quotient_13 : decode b_Ref_quotient 13 = .ok ((.iconst 0), 1) := by decide +kernel
theorem d_Ref_quotient_14 : decode b_Ref_quotient 14 = .ok ((.goto 4), 3) := by decide +kernel
theorem d_Ref_quotient_17 : decode b_Ref_quotient 17 = .ok ((.iconst 1), 1) := by decide +kernel
theorem d_Ref_quotient_18 : decode b_Ref_quotient 18 = .ok ((.putfield 65), 3) := by decide +kernel
theorem d_Ref_quotient_21 : decode b_Ref_quotient 21 = .ok ((.aload_n 0), 1) := by decide +kernel
theorem d_Ref_quotient_22 : decode b_Ref_quotient 22 = .ok ((.getfield 65), 3) := by decide +kernel
theorem d_Ref_quotient_25 : decode b_Ref_quotient 25 = .ok ((.ifCond .le 7), 3) := by decide +kernel
theorem d_Ref_quotient_28 : decode b_Ref_quotient 28 = .ok ((.iconst 0), 1) := by decide +kernel
theorem d_Ref_quotient_29 : decode b_Ref_quotient 29 = .ok ((.goto 9), 3) := by decide +kernel
theorem d_Ref_quotient_32 : decode b_Ref_quotient 32 = .ok ((.aload_n 0), 1) := by decide +kernel
theorem d_Ref_quotient_33 : decode b_Ref_quotient 33 = .ok ((.getfield 43), 3) := by decide +kernel
theorem d_Ref_quotient_36 : decode b_Ref_quotient 36 = .ok ((.iload_n 1), 1) := by decide +kernel
theorem d_Ref_quotient_37 : decode b_Ref_quotient 37 = .ok (.iaload, 1) := by decide +kernel
theorem d_Ref_quotient_38 : decode b_Ref_quotient 38 = .ok (.ireturn, 1) := by decide +kernel
theorem d_Ref_kernels_0 : decode b_Ref_kernels 0 = .ok ((.aload_n 0), 1) := by decide +kernel
theorem d_Ref_kernels_1 : decode b_Ref_kernels 1 = .ok ((.aload_n 0), 1) := by decide +kernel
theorem d_Ref_kernels_2 : decode b_Ref_kernels 2 = .ok ((.getfield 113), 3) := by decide +kernel
theorem d_Ref_kernels_5 : decode b_Ref_kernels 5 = .ok ((.ifCond .eq 7), 3) := by decide +kernel
theorem d_Ref_kernels_8 : decode b_Ref_kernels 8 = .ok ((.iconst 0), 1) := by decide +kernel
theorem d_Ref_kernels_9 : decode b_Ref_kernels 9 = .ok ((.goto 4), 3) := by decide +kernel
theorem d_Ref_kernels_12 : decode b_Ref_kernels 12 = .ok ((.iconst 1), 1) := by decide +kernel
theorem d_Ref_kernels_13 : decode b_Ref_kernels 13 = .ok ((.putfield 65), 3) := by decide +kernel
theorem d_Ref_kernels_16 : decode b_Ref_kernels 16 = .ok ((.iconst 0), 1) := by decide +kernel
theorem d_Ref_kernels_17 : decode b_Ref_kernels 17 = .ok ((.istore_n 1), 1) := by decide +kernel
theorem d_Ref_kernels_18 : decode b_Ref_kernels 18 = .ok ((.iconst 0), 1) := by decide +kernel
theorem d_Ref_kernels_19 : decode b_Ref_kernels 19 = .ok ((.istore_n 2), 1) := by decide +kernel
theorem d_Ref_kernels_20 : decode b_Ref_kernels 20 = .ok ((.iload_n 2), 1) := by decide +kernel
theorem d_Ref_kernels_21 : decode b_Ref_kernels 21 = .ok ((.aload_n 0), 1) := by decide +kernel
theorem d_Ref_kernels_22 : decode b_Ref_kernels 22 = .ok ((.getfield 62), 3) := by decide +kernel
theorem d_Ref_kernels_25 : decode b_Ref_kernels 25 = .ok ((.if_icmp .ge 120), 3) := by decide +kernel
theorem d_Ref_kernels_28 : decode b_Ref_kernels 28 = .ok ((.aload_n 0), 1) := by decide +kernel
theorem d_Ref_kernels_29 : decode b_Ref_kernels 29 = .ok ((.getfield 113), 3) := by decide +kernel
theorem d_Ref_kernels_32 : decode b_Ref_kernels 32 = .ok ((.ifCond .eq 113), 3) := by decide +kernel
theorem d_Ref_kernels_35 : decode b_Ref_kernels 35 = .ok ((.aload_n 0), 1) := by decide +kernel
theorem d_Ref_kernels_36 : decode b_Ref_kernels 36 = .ok ((.iload_n 2), 1) := by decide +kernel
theorem d_Ref_kernels_37 : decode b_Ref_kernels 37 = .ok ((.invokevirtual 129), 3) := by decide +kernel
theorem d_Ref_kernels_40 : decode b_Ref_kernels 40 = .ok ((.istore_n 3), 1) := by decide +kernel
theorem d_Ref_kernels_41 : decode b_Ref_kernels 41 = .ok ((.iconst 0), 1) := by decide +kernel
theorem d_Ref_kernels_42 : decode b_Ref_kernels 42 = .ok ((.istore 4), 2) := by decide +kernel
theorem d_Ref_kernels_44 : decode b_Ref_kernels 44 = .ok ((.iload 4), 2) := by decide +kernel
theorem d_Ref_kernels_46 : decode b_Ref_kernels 46 = .ok ((.iload_n 2), 1) := by decide +kernel
theorem d_Ref_kernels_47 : decode b_Ref_kernels 47 = .ok ((.if_icmp .ge 80), 3) := by decide +kernel
theorem d_Ref_kernels_50 : decode b_Ref_kernels 50 = .ok ((.iload_n 3), 1) := by decide +kernel
theorem d_Ref_kernels_51 : decode b_Ref_kernels 51 = .ok ((.ifCond .eq 76), 3) := by decide +kernel
theorem d_Ref_kernels_54 : decode b_Ref_kernels 54 = .ok ((.aload_n 0), 1) := by decide +kernel
theorem d_Ref_kernels_55 : decode b_Ref_kernels 55 = .ok ((.iload 4), 2) := by decide +kernel
theorem d_Ref_kernels_57 : decode b_Ref_kernels 57 = .ok ((.invokevirtual 129), 3) := by decide +kernel
theorem d_Ref_kernels_60 : decode b_Ref_kernels 60 = .ok ((.istore 5), 2) := by decide +kernel
theorem d_Ref_kernels_62 : decode b_Ref_kernels 62 = .ok ((.iconst 0), 1) := by decide +kernel
theorem d_Ref_kernels_63 : decode b_Ref_kernels 63 = .ok ((.istore 6), 2) := by decide +kernel
theorem d_Ref_kernels_65 : decode b_Ref_kernels 65 = .ok ((.iload 6), 2) := by decide +kernel
theorem d_Ref_kernels_67 : decode b_Ref_kernels 67 = .ok ((.aload_n 0), 1) := by decide +kernel
theorem d_Ref_kernels_68 : decode b_Ref_kernels 68 = .ok ((.getfield 62), 3) := by decide +kernel
theorem d_Ref_kernels_71 : decode b_Ref_kernels 71 = .ok ((.if_icmp .ge 39), 3) := by decide +kernel
theorem d_Ref_kernels_74 : decode b_Ref_kernels 74 = .ok ((.iload 5), 2) := by decide +kernel
theorem d_Ref_kernels_76 : decode b_Ref_kernels 76 = .ok ((.ifCond .eq 34), 3) := by decide +kernel
theorem d_Ref_kernels_79 : decode b_Ref_kernels 79 = .ok ((.aload_n 0), 1) := by decide +kernel
theorem d_Ref_kernels_80 : decode b_Ref_kernels 80 = .ok ((.iload 6), 2) := by decide +kernel
theorem d_Ref_kernels_82 : decode b_Ref_kernels 82 = .ok ((.iload_n 2), 1) := by decide +kernel
theorem d_Ref_kernels_83 : decode b_Ref_kernels 83 = .ok ((.invokevirtual 126), 3) := by decide +kernel
theorem d_Ref_kernels_86 : decode b_Ref_kernels 86 = .ok ((.aload_n 0), 1) := by decide +kernel
theorem d_Ref_kernels_87 : decode b_Ref_kernels 87 = .ok ((.iload 6), 2) := by decide +kernel
theorem d_Ref_kernels_89 : decode b_Ref_kernels 89 = .ok ((.iload 4), 2) := by decide +kernel
theorem d_Ref_kernels_91 : decode b_Ref_kernels 91 = .ok ((.invokevirtual 126), 3) := by decide +kernel
theorem d_Ref_kernels_94 : decode b_Ref_kernels 94 = .ok ((.if_icmp .ne 7), 3) := by decide +kernel
theorem d_Ref_kernels_97 : decode b_Ref_kernels 97 = .ok ((.iconst 1), 1) := by decide +kernel
theorem d_Ref_kernels_98 : decode b_Ref_kernels 98 = .ok ((.goto 4), 3) := by decide +kernel
theorem d_Ref_kernels_101 : decode b_Ref_kernels 101 = .ok ((.iconst 0), 1) := by decide +kernel
theorem d_Ref_kernels_102 : decode b_Ref_kernels 102 = .ok ((.istore 5), 2) := by decide +kernel
theorem d_Ref_kernels_104 : decode b_Ref_kernels 104 = .ok ((.iinc 6 1), 3) := by decide +kernel
theorem d_Ref_kernels_107 : decode b_Ref_kernels 107 = .ok ((.goto (-42)), 3) := by decide +kernel
theorem d_Ref_kernels_110 : decode b_Ref_kernels 110 = .ok ((.iload 5), 2) := by decide +kernel
theorem d_Ref_kernels_112 : decode b_Ref_kernels 112 = .ok ((.ifCond .ne 7), 3) := by decide +kernel
theorem d_Ref_kernels_115 : decode b_Ref_kernels 115 = .ok ((.iconst 1), 1) := by decide +kernel
theorem d_Ref_kernels_116 : decode b_Ref_kernels 116 = .ok ((.goto 4), 3) := by decide +kernel
theorem d_Ref_kernels_119 : decode b_Ref_kernels 119 = .ok ((.iconst 0), 1) := by decide +kernel
theorem d_Ref_kernels_120 : decode b_Ref_kernels 120 = .ok ((.istore_n 3), 1) := by decide +kernel
theorem d_Ref_kernels_121 : decode b_Ref_kernels 121 = .ok ((.iinc 4 1), 3) := by decide +kernel
theorem d_Ref_kernels_124 : decode b_Ref_kernels 124 = .ok ((.goto (-80)), 3) := by decide +kernel
theorem d_Ref_kernels_127 : decode b_Ref_kernels 127 = .ok ((.iload_n 3), 1) := by decide +kernel
theorem d_Ref_kernels_128 : decode b_Ref_kernels 128 = .ok ((.ifCond .eq 9), 3) := by decide +kernel
theorem d_Ref_kernels_131 : decode b_Ref_kernels 131 = .ok ((.iload_n 1), 1) := by decide +kernel
theorem d_Ref_kernels_132 : decode b_Ref_kernels 132 = .ok ((.iconst 1), 1) := by decide +kernel
theorem d_Ref_kernels_133 : decode b_Ref_kernels 133 = .ok (.iadd, 1) := by decide +kernel
theorem d_Ref_kernels_134 : decode b_Ref_kernels 134 = .ok ((.goto 4), 3) := by decide +kernel
theorem d_Ref_kernels_137 : decode b_Ref_kernels 137 = .ok ((.iload_n 1), 1) := by decide +kernel
theorem d_Ref_kernels_138 : decode b_Ref_kernels 138 = .ok ((.istore_n 1), 1) := by decide +kernel
theorem d_Ref_kernels_139 : decode b_Ref_kernels 139 = .ok ((.iinc 2 1), 3) := by decide +kernel
theorem d_Ref_kernels_142 : decode b_Ref_kernels 142 = .ok ((.goto (-122)), 3) := by decide +kernel
theorem d_Ref_kernels_145 : decode b_Ref_kernels 145 = .ok ((.iload_n 1), 1) := by decide +kernel
theorem d_Ref_kernels_146 : decode b_Ref_kernels 146 = .ok (.ireturn, 1) := by decide +kernel
theorem d_Ref_isKernel_0 : decode b_Ref_isKernel 0 = .ok ((.iconst 0), 1) := by decide +kernel
theorem d_Ref_isKernel_1 : decode b_Ref_isKernel 1 = .ok ((.istore_n 2), 1) := by decide +kernel
theorem d_Ref_isKernel_2 : decode b_Ref_isKernel 2 = .ok ((.iconst 0), 1) := by decide +kernel
theorem d_Ref_isKernel_3 : decode b_Ref_isKernel 3 = .ok ((.istore_n 3), 1) := by decide +kernel
theorem d_Ref_isKernel_4 : decode b_Ref_isKernel 4 = .ok ((.iload_n 3), 1) := by decide +kernel
theorem d_Ref_isKernel_5 : decode b_Ref_isKernel 5 = .ok ((.aload_n 0), 1) := by decide +kernel
theorem d_Ref_isKernel_6 : decode b_Ref_isKernel 6 = .ok ((.getfield 62), 3) := by decide +kernel
theorem d_Ref_isKernel_9 : decode b_Ref_isKernel 9 = .ok ((.if_icmp .ge 26), 3) := by decide +kernel
theorem d_Ref_isKernel_12 : decode b_Ref_isKernel 12 = .ok ((.aload_n 0), 1) := by decide +kernel
theorem d_Ref_isKernel_13 : decode b_Ref_isKernel 13 = .ok ((.iload_n 3), 1) := by decide +kernel
theorem d_Ref_isKernel_14 : decode b_Ref_isKernel 14 = .ok ((.iload_n 1), 1) := by decide +kernel
theorem d_Ref_isKernel_15 : decode b_Ref_isKernel 15 = .ok ((.invokevirtual 126), 3) := by decide +kernel
theorem d_Ref_isKernel_18 : decode b_Ref_isKernel 18 = .ok ((.ifCond .eq 9), 3) := by decide +kernel
theorem d_Ref_isKernel_21 : decode b_Ref_isKernel 21 = .ok ((.iload_n 2), 1) := by decide +kernel
theorem d_Ref_isKernel_22 : decode b_Ref_isKernel 22 = .ok ((.iconst 1), 1) := by decide +kernel
theorem d_Ref_isKernel_23 : decode b_Ref_isKernel 23 = .ok (.iadd, 1) := by decide +kernel
theorem d_Ref_isKernel_24 : decode b_Ref_isKernel 24 = .ok ((.goto 4), 3) := by decide +kernel
theorem d_Ref_isKernel_27 : decode b_Ref_isKernel 27 = .ok ((.iload_n 2), 1) := by decide +kernel
theorem d_Ref_isKernel_28 : decode b_Ref_isKernel 28 = .ok ((.istore_n 2), 1) := by decide +kernel
theorem d_Ref_isKernel_29 : decode b_Ref_isKernel 29 = .ok ((.iinc 3 1), 3) := by decide +kernel
theorem d_Ref_isKernel_32 : decode b_Ref_isKernel 32 = .ok ((.goto (-28)), 3) := by decide +kernel
theorem d_Ref_isKernel_35 : decode b_Ref_isKernel 35 = .ok ((.iload_n 2), 1) := by decide +kernel
theorem d_Ref_isKernel_36 : decode b_Ref_isKernel 36 = .ok ((.iconst 2), 1) := by decide +kernel
theorem d_Ref_isKernel_37 : decode b_Ref_isKernel 37 = .ok ((.if_icmp .lt 7), 3) := by decide +kernel
theorem d_Ref_isKernel_40 : decode b_Ref_isKernel 40 = .ok ((.iconst 1), 1) := by decide +kernel
theorem d_Ref_isKernel_41 : decode b_Ref_isKernel 41 = .ok ((.goto 4), 3) := by decide +kernel
theorem d_Ref_isKernel_44 : decode b_Ref_isKernel 44 = .ok ((.iconst 0), 1) := by decide +kernel
theorem d_Ref_isKernel_45 : decode b_Ref_isKernel 45 = .ok ((.istore_n 3), 1) := by decide +kernel
theorem d_Ref_isKernel_46 : decode b_Ref_isKernel 46 = .ok ((.iconst 0), 1) := by decide +kernel
theorem d_Ref_isKernel_47 : decode b_Ref_isKernel 47 = .ok ((.istore 4), 2) := by decide +kernel
theorem d_Ref_isKernel_49 : decode b_Ref_isKernel 49 = .ok ((.iload 4), 2) := by decide +kernel
theorem d_Ref_isKernel_51 : decode b_Ref_isKernel 51 = .ok ((.aload_n 0), 1) := by decide +kernel
theorem d_Ref_isKernel_52 : decode b_Ref_isKernel 52 = .ok ((.getfield 55), 3) := by decide +kernel
theorem d_Ref_isKernel_55 : decode b_Ref_isKernel 55 = .ok ((.if_icmp .ge 104), 3) := by decide +kernel
theorem d_Ref_isKernel_58 : decode b_Ref_isKernel 58 = .ok ((.iload_n 3), 1) := by decide +kernel
theorem d_Ref_isKernel_59 : decode b_Ref_isKernel 59 = .ok ((.ifCond .eq 100), 3) := by decide +kernel
theorem d_Ref_isKernel_62 : decode b_Ref_isKernel 62 = .ok ((.iconst (-1)), 1) := by decide +kernel
theorem d_Ref_isKernel_63 : decode b_Ref_isKernel 63 = .ok ((.istore 5), 2) := by decide +kernel
theorem d_Ref_isKernel_65 : decode b_Ref_isKernel 65 = .ok ((.iconst 1), 1) := by decide +kernel
theorem d_Ref_isKernel_66 : decode b_Ref_isKernel 66 = .ok ((.istore 6), 2) := by decide +kernel
theorem d_Ref_isKernel_68 : decode b_Ref_isKernel 68 = .ok ((.iconst 0), 1) := by decide +kernel
theorem d_Ref_isKernel_69 : decode b_Ref_isKernel 69 = .ok ((.istore 7), 2) := by decide +kernel
theorem d_Ref_isKernel_71 : decode b_Ref_isKernel 71 = .ok ((.iload 7), 2) := by decide +kernel
theorem d_Ref_isKernel_73 : decode b_Ref_isKernel 73 = .ok ((.aload_n 0), 1) := by decide +kernel
theorem d_Ref_isKernel_74 : decode b_Ref_isKernel 74 = .ok ((.getfield 62), 3) := by decide +kernel
theorem d_Ref_isKernel_77 : decode b_Ref_isKernel 77 = .ok ((.if_icmp .ge 59), 3) := by decide +kernel
theorem d_Ref_isKernel_80 : decode b_Ref_isKernel 80 = .ok ((.aload_n 0), 1) := by decide +kernel
theorem d_Ref_isKernel_81 : decode b_Ref_isKernel 81 = .ok ((.iload 7), 2) := by decide +kernel
theorem d_Ref_isKernel_83 : decode b_Ref_isKernel 83 = .ok ((.iload_n 1), 1) := by decide +kernel
theorem d_Ref_isKernel_84 : decode b_Ref_isKernel 84 = .ok ((.invokevirtual 126), 3) := by decide +kernel
theorem d_Ref_isKernel_87 : decode b_Ref_isKernel 87 = .ok ((.ifCond .eq 43), 3) := by decide +kernel
theorem d_Ref_isKernel_90 : decode b_Ref_isKernel 90 = .ok ((.iload 6), 2) := by decide +kernel
theorem d_Ref_isKernel_92 : decode b_Ref_isKernel 92 = .ok ((.ifCond .eq 25), 3) := by decide +kernel
theorem d_Ref_isKernel_95 : decode b_Ref_isKernel 95 = .ok ((.iload 5), 2) := by decide +kernel
theorem d_Ref_isKernel_97 : decode b_Ref_isKernel 97 = .ok ((.ifCond .lt 16), 3) := by decide +kernel
theorem d_Ref_isKernel_100 : decode b_Ref_isKernel 100 = .ok ((.iload 5), 2) := by decide +kernel
theorem d_Ref_isKernel_102 : decode b_Ref_isKernel 102 = .ok ((.aload_n 0), 1) := by decide +kernel
theorem d_Ref_isKernel_103 : decode b_Ref_isKernel 103 = .ok ((.iload 7), 2) := by decide +kernel
theorem d_Ref_isKernel_105 : decode b_Ref_isKernel 105 = .ok ((.iload 4), 2) := by decide +kernel
theorem d_Ref_isKernel_107 : decode b_Ref_isKernel 107 = .ok ((.invokevirtual 68), 3) := by decide +kernel
theorem d_Ref_isKernel_110 : decode b_Ref_isKernel 110 = .ok ((.if_icmp .ne 7), 3) := by decide +kernel
theorem d_Ref_isKernel_113 : decode b_Ref_isKernel 113 = .ok ((.iconst 1), 1) := by decide +kernel
theorem d_Ref_isKernel_114 : decode b_Ref_isKernel 114 = .ok ((.goto 4), 3) := by decide +kernel
theorem d_Ref_isKernel_117 : decode b_Ref_isKernel 117 = .ok ((.iconst 0), 1) := by decide +kernel
theorem d_Ref_isKernel_118 : decode b_Ref_isKernel 118 = .ok ((.istore 6), 2) := by decide +kernel
theorem d_Ref_isKernel_120 : decode b_Ref_isKernel 120 = .ok ((.aload_n 0), 1) := by decide +kernel
theorem d_Ref_isKernel_121 : decode b_Ref_isKernel 121 = .ok ((.iload 7), 2) := by decide +kernel
theorem d_Ref_isKernel_123 : decode b_Ref_isKernel 123 = .ok ((.iload 4), 2) := by decide +kernel
theorem d_Ref_isKernel_125 : decode b_Ref_isKernel 125 = .ok ((.invokevirtual 68), 3) := by decide +kernel
theorem d_Ref_isKernel_128 : decode b_Ref_isKernel 128 = .ok ((.istore 5), 2) := by decide +kernel
theorem d_Ref_isKernel_130 : decode b_Ref_isKernel 130 = .ok ((.iinc 7 1), 3) := by decide +kernel
theorem d_Ref_isKernel_133 : decode b_Ref_isKernel 133 = .ok ((.goto (-62)), 3) := by decide +kernel
theorem d_Ref_isKernel_136 : decode b_Ref_isKernel 136 = .ok ((.iload 6), 2) := by decide +kernel
theorem d_Ref_isKernel_138 : decode b_Ref_isKernel 138 = .ok ((.ifCond .eq 9), 3) := by decide +kernel
theorem d_Ref_isKernel_141 : decode b_Ref_isKernel 141 = .ok ((.iload 5), 2) := by decide +kernel
theorem d_Ref_isKernel_143 : decode b_Ref_isKernel 143 = .ok ((.iconst 2), 1) := by decide +kernel
theorem d_Ref_isKernel_144 : decode b_Ref_isKernel 144 = .ok ((.if_icmp .ne 7), 3) := by decide +kernel
theorem d_Ref_isKernel_147 : decode b_Ref_isKernel 147 = .ok ((.iconst 1), 1) := by decide +kernel
theorem d_Ref_isKernel_148 : decode b_Ref_isKernel 148 = .ok ((.goto 4), 3) := by decide +kernel
theorem d_Ref_isKernel_151 : decode b_Ref_isKernel 151 = .ok ((.iconst 0), 1) := by decide +kernel
theorem d_Ref_isKernel_152 : decode b_Ref_isKernel 152 = .ok ((.istore_n 3), 1) := by decide +kernel
theorem d_Ref_isKernel_153 : decode b_Ref_isKernel 153 = .ok ((.iinc 4 1), 3) := by decide +kernel
theorem d_Ref_isKernel_156 : decode b_Ref_isKernel 156 = .ok ((.goto (-107)), 3) := by decide +kernel
theorem d_Ref_isKernel_159 : decode b_Ref_isKernel 159 = .ok ((.iload_n 3), 1) := by decide +kernel
theorem d_Ref_isKernel_160 : decode b_Ref_isKernel 160 = .ok (.ireturn, 1) := by decide +kernel
theorem d_Ref_diagram_0 : decode b_Ref_diagram 0 = .ok ((.aload_n 0), 1) := by decide +kernel
theorem d_Ref_diagram_1 : decode b_Ref_diagram 1 = .ok ((.iload_n 1), 1) := by decide +kernel
theorem d_Ref_diagram_2 : decode b_Ref_diagram 2 = .ok ((.ifCond .lt 15), 3) := by decide +kernel
theorem d_Ref_diagram_5 : decode b_Ref_diagram 5 = .ok ((.iload_n 1), 1) := by decide +kernel
theorem d_Ref_diagram_6 : decode b_Ref_diagram 6 = .ok ((.aload_n 0), 1) := by decide +kernel
theorem d_Ref_diagram_7 : decode b_Ref_diagram 7 = .ok ((.invokevirtual 133), 3) := by decide +kernel
theorem d_Ref_diagram_10 : decode b_Ref_diagram 10 = .ok ((.if_icmp .ge 7), 3) := by decide +kernel
theorem d_Ref_diagram_13 : decode b_Ref_diagram 13 = .ok ((.iconst 0), 1) := by decide +kernel
theorem d_Ref_diagram_14 : decode b_Ref_diagram 14 = .ok ((.goto 4), 3) := by decide +kernel
theorem d_Ref_diagram_17 : decode b_Ref_diagram 17 = .ok ((.iconst 1), 1) := by decide +kernel
theorem d_Ref_diagram_18 : decode b_Ref_diagram 18 = .ok ((.putfield 65), 3) := by decide +kernel
theorem d_Ref_diagram_21 : decode b_Ref_diagram 21 = .ok ((.aload_n 0), 1) := by decide +kernel
theorem d_Ref_diagram_22 : decode b_Ref_diagram 22 = .ok ((.getfield 65), 3) := by decide +kernel
theorem d_Ref_diagram_25 : decode b_Ref_diagram 25 = .ok ((.ifCond .le 5), 3) := by decide +kernel
theorem d_Ref_diagram_28 : decode b_Ref_diagram 28 = .ok ((.iconst 0), 1) := by decide +kernel
theorem d_Ref_diagram_29 : decode b_Ref_diagram 29 = .ok (.ireturn, 1) := by decide +kernel
theorem d_Ref_diagram_30 : decode b_Ref_diagram 30 = .ok ((.aload_n 0), 1) := by decide +kernel
theorem d_Ref_diagram_31 : decode b_Ref_diagram 31 = .ok ((.invokevirtual 79), 3) := by decide +kernel
theorem d_Ref_diagram_34 : decode b_Ref_diagram 34 = .ok ((.aload_n 0), 1) := by decide +kernel
theorem d_Ref_diagram_35 : decode b_Ref_diagram 35 = .ok ((.iload_n 1), 1) := by decide +kernel
theorem d_Ref_diagram_36 : decode b_Ref_diagram 36 = .ok ((.invokevirtual 147), 3) := by decide +kernel
theorem d_Ref_diagram_39 : decode b_Ref_diagram 39 = .ok (.ireturn, 1) := by decide +kernel
theorem d_Ref_orders_0 : decode b_Ref_orders 0 = .ok ((.aload_n 0), 1) := by decide +kernel
theorem d_Ref_orders_1 : decode b_Ref_orders 1 = .ok ((.getfield 55), 3) := by decide +kernel
theorem d_Ref_orders_4 : decode b_Ref_orders 4 = .ok ((.iconst 3), 1) := by decide +kernel
theorem d_Ref_orders_5 : decode b_Ref_orders 5 = .ok ((.if_icmp .ge 10), 3) := by decide +kernel
theorem d_Ref_orders_8 : decode b_Ref_orders 8 = .ok ((.aload_n 0), 1) := by decide +kernel
theorem d_Ref_orders_9 : decode b_Ref_orders 9 = .ok ((.getfield 55), 3) := by decide +kernel
theorem d_Ref_orders_12 : decode b_Ref_orders 12 = .ok ((.goto 18), 3) := by decide +kernel
theorem d_Ref_orders_15 : decode b_Ref_orders 15 = .ok ((.aload_n 0), 1) := by decide +kernel
theorem d_Ref_orders_16 : decode b_Ref_orders 16 = .ok ((.getfield 55), 3) := by decide +kernel
theorem d_Ref_orders_19 : decode b_Ref_orders 19 = .ok ((.iconst 3), 1) := by decide +kernel
theorem d_Ref_orders_20 : decode b_Ref_orders 20 = .ok ((.if_icmp .ne 8), 3) := by decide +kernel
theorem d_Ref_orders_23 : decode b_Ref_orders 23 = .ok ((.bipush 6), 2) := by decide +kernel
theorem d_Ref_orders_25 : decode b_Ref_orders 25 = .ok ((.goto 5), 3) := by decide +kernel
theorem d_Ref_orders_28 : decode b_Ref_orders 28 = .ok ((.bipush 24), 2) := by decide +kernel
theorem d_Ref_orders_30 : decode b_Ref_orders 30 = .ok (.ireturn, 1) := by decide +kernel
theorem d_Ref_nodes_0 : decode b_Ref_nodes 0 = .ok ((.iconst 0), 1) := by decide +kernel
theorem d_Ref_nodes_1 : decode b_Ref_nodes 1 = .ok ((.istore_n 2), 1) := by decide +kernel
theorem d_Ref_nodes_2 : decode b_Ref_nodes 2 = .ok ((.iconst 0), 1) := by decide +kernel
theorem d_Ref_nodes_3 : decode b_Ref_nodes 3 = .ok ((.istore_n 3), 1) := by decide +kernel
theorem d_Ref_nodes_4 : decode b_Ref_nodes 4 = .ok ((.iload_n 3), 1) := by decide +kernel
theorem d_Ref_nodes_5 : decode b_Ref_nodes 5 = .ok ((.aload_n 0), 1) := by decide +kernel
theorem d_Ref_nodes_6 : decode b_Ref_nodes 6 = .ok ((.getfield 55), 3) := by decide +kernel
theorem d_Ref_nodes_9 : decode b_Ref_nodes 9 = .ok ((.if_icmp .ge 144), 3) := by decide +kernel
theorem d_Ref_nodes_12 : decode b_Ref_nodes 12 = .ok ((.iconst 0), 1) := by decide +kernel
theorem d_Ref_nodes_13 : decode b_Ref_nodes 13 = .ok ((.istore 4), 2) := by decide +kernel
theorem d_Ref_nodes_15 : decode b_Ref_nodes 15 = .ok ((.aload_n 0), 1) := by decide +kernel
theorem d_Ref_nodes_16 : decode b_Ref_nodes 16 = .ok ((.iload_n 1), 1) := by decide +kernel
theorem d_Ref_nodes_17 : decode b_Ref_nodes 17 = .ok ((.iload_n 3), 1) := by decide +kernel
theorem d_Ref_nodes_18 : decode b_Ref_nodes 18 = .ok ((.invokevirtual 137), 3) := by decide +kernel
theorem d_Ref_nodes_21 : decode b_Ref_nodes 21 = .ok ((.istore 5), 2) := by decide +kernel
theorem d_Ref_nodes_23 : decode b_Ref_nodes 23 = .ok ((.iconst 0), 1) := by decide +kernel
theorem d_Ref_nodes_24 : decode b_Ref_nodes 24 = .ok ((.istore 6), 2) := by decide +kernel
theorem d_Ref_nodes_26 : decode b_Ref_nodes 26 = .ok ((.iload 6), 2) := by decide +kernel
theorem d_Ref_nodes_28 : decode b_Ref_nodes 28 = .ok ((.aload_n 0), 1) := by decide +kernel
theorem d_Ref_nodes_29 : decode b_Ref_nodes 29 = .ok ((.getfield 59), 3) := by decide +kernel
theorem d_Ref_nodes_32 : decode b_Ref_nodes 32 = .ok ((.if_icmp .ge 110), 3) := by decide +kernel
theorem d_Ref_nodes_35 : decode b_Ref_nodes 35 = .ok ((.iconst 0), 1) := by decide +kernel
theorem d_Ref_nodes_36 : decode b_Ref_nodes 36 = .ok ((.istore 7), 2) := by decide +kernel
theorem d_Ref_nodes_38 : decode b_Ref_nodes 38 = .ok ((.iload 7), 2) := by decide +kernel
theorem d_Ref_nodes_40 : decode b_Ref_nodes 40 = .ok ((.iconst 1), 1) := by decide +kernel
theorem d_Ref_nodes_41 : decode b_Ref_nodes 41 = .ok ((.iload_n 3), 1) := by decide +kernel
theorem d_Ref_nodes_42 : decode b_Ref_nodes 42 = .ok (.ishl, 1) := by decide +kernel
theorem d_Ref_nodes_43 : decode b_Ref_nodes 43 = .ok ((.if_icmp .ge 93), 3) := by decide +kernel
theorem d_Ref_nodes_46 : decode b_Ref_nodes 46 = .ok ((.aload_n 0), 1) := by decide +kernel
theorem d_Ref_nodes_47 : decode b_Ref_nodes 47 = .ok ((.aload_n 0), 1) := by decide +kernel
theorem d_Ref_nodes_48 : decode b_Ref_nodes 48 = .ok ((.getfield 16), 3) := by decide +kernel
theorem d_Ref_nodes_51 : decode b_Ref_nodes 51 = .ok ((.iload 6), 2) := by decide +kernel
theorem d_Ref_nodes_53 : decode b_Ref_nodes 53 = .ok (.iaload, 1) := by decide +kernel
theorem d_Ref_nodes_54 : decode b_Ref_nodes 54 = .ok ((.iload_n 1), 1) := by decide +kernel
theorem d_Ref_nodes_55 : decode b_Ref_nodes 55 = .ok ((.iload_n 3), 1) := by decide +kernel
theorem d_Ref_nodes_56 : decode b_Ref_nodes 56 = .ok ((.iload 7), 2) := by decide +kernel
theorem d_Ref_nodes_58 : decode b_Ref_nodes 58 = .ok ((.invokevirtual 140), 3) := by decide +kernel
theorem d_Ref_nodes_61 : decode b_Ref_nodes 61 = .ok ((.istore 8), 2) := by decide +kernel
theorem d_Ref_nodes_63 : decode b_Ref_nodes 63 = .ok ((.aload_n 0), 1) := by decide +kernel
theorem d_Ref_nodes_64 : decode b_Ref_nodes 64 = .ok ((.iload 8), 2) := by decide +kernel
theorem d_Ref_nodes_66 : decode b_Ref_nodes 66 = .ok ((.iload 5), 2) := by decide +kernel
theorem d_Ref_nodes_68 : decode b_Ref_nodes 68 = .ok ((.invokevirtual 144), 3) := by decide +kernel
theorem d_Ref_nodes_71 : decode b_Ref_nodes 71 = .ok ((.istore 9), 2) := by decide +kernel
theorem d_Ref_nodes_73 : decode b_Ref_nodes 73 = .ok ((.iconst 0), 1) := by decide +kernel
theorem d_Ref_nodes_74 : decode b_Ref_nodes 74 = .ok ((.istore 10), 2) := by decide +kernel
theorem d_Ref_nodes_76 : decode b_Ref_nodes 76 = .ok ((.iload 10), 2) := by decide +kernel
theorem d_Ref_nodes_78 : decode b_Ref_nodes 78 = .ok ((.iload 4), 2) := by decide +kernel
theorem d_Ref_nodes_80 : decode b_Ref_nodes 80 = .ok ((.if_icmp .ge 33), 3) := by decide +kernel
theorem d_Ref_nodes_83 : decode b_Ref_nodes 83 = .ok ((.iload 9), 2) := by decide +kernel
theorem d_Ref_nodes_85 : decode b_Ref_nodes 85 = .ok ((.ifCond .eq 19), 3) := by decide +kernel
theorem d_Ref_nodes_88 : decode b_Ref_nodes 88 = .ok ((.aload_n 0), 1) := by decide +kernel
theorem d_Ref_nodes_89 : decode b_Ref_nodes 89 = .ok ((.getfield 52), 3) := by decide +kernel
theorem d_Ref_nodes_92 : decode b_Ref_nodes 92 = .ok ((.iload 10), 2) := by decide +kernel
theorem d_Ref_nodes_94 : decode b_Ref_nodes 94 = .ok (.iaload, 1) := by decide +kernel
theorem d_Ref_nodes_95 : decode b_Ref_nodes 95 = .ok ((.iload 8), 2) := by decide +kernel
theorem d_Ref_nodes_97 : decode b_Ref_nodes 97 = .ok ((.if_icmp .eq 7), 3) := by decide +kernel
theorem d_Ref_nodes_100 : decode b_Ref_nodes 100 = .ok ((.iconst 1), 1) := by decide +kernel
theorem d_Ref_nodes_101 : decode b_Ref_nodes 101 = .ok ((.goto 4), 3) := by decide +kernel
theorem d_Ref_nodes_104 : decode b_Ref_nodes 104 = .ok ((.iconst 0), 1) := by decide +kernel
theorem d_Ref_nodes_105 : decode b_Ref_nodes 105 = .ok ((.istore 9), 2) := by decide +kernel
theorem d_Ref_nodes_107 : decode b_Ref_nodes 107 = .ok ((.iinc 10 1), 3) := by decide +kernel
theorem d_Ref_nodes_110 : decode b_Ref_nodes 110 = .ok ((.goto (-34)), 3) := by decide +kernel
theorem d_Ref_nodes_113 : decode b_Ref_nodes 113 = .ok ((.iload 9), 2) := by decide +kernel
theorem d_Ref_nodes_115 : decode b_Ref_nodes 115 = .ok ((.ifCond .eq 15), 3) := by decide +kernel
theorem d_Ref_nodes_118 : decode b_Ref_nodes 118 = .ok ((.aload_n 0), 1) := by decide +kernel
theorem d_Ref_nodes_119 : decode b_Ref_nodes 119 = .ok ((.getfield 52), 3) := by decide +kernel
theorem d_Ref_nodes_122 : decode b_Ref_nodes 122 = .ok ((.iload 4), 2) := by decide +kernel
theorem d_Ref_nodes_124 : decode b_Ref_nodes 124 = .ok ((.iload 8), 2) := by decide +kernel
theorem d_Ref_nodes_126 : decode b_Ref_nodes 126 = .ok (.iastore, 1) := by decide +kernel
theorem d_Ref_nodes_127 : decode b_Ref_nodes 127 = .ok ((.iinc 4 1), 3) := by decide +kernel
theorem d_Ref_nodes_130 : decode b_Ref_nodes 130 = .ok ((.iinc 7 1), 3) := by decide +kernel
theorem d_Ref_nodes_133 : decode b_Ref_nodes 133 = .ok ((.goto (-95)), 3) := by decide +kernel
theorem d_Ref_nodes_136 : decode b_Ref_nodes 136 = .ok ((.iinc 6 1), 3) := by decide +kernel
theorem d_Ref_nodes_139 : decode b_Ref_nodes 139 = .ok ((.goto (-113)), 3) := by decide +kernel
theorem d_Ref_nodes_142 : decode b_Ref_nodes 142 = .ok ((.iload_n 2), 1) := by decide +kernel
theorem d_Ref_nodes_143 : decode b_Ref_nodes 143 = .ok ((.iload 4), 2) := by decide +kernel
theorem d_Ref_nodes_145 : decode b_Ref_nodes 145 = .ok (.iadd, 1) := by decide +kernel
theorem d_Ref_nodes_146 : decode b_Ref_nodes 146 = .ok ((.istore_n 2), 1) := by decide +kernel
theorem d_Ref_nodes_147 : decode b_Ref_nodes 147 = .ok ((.iinc 3 1), 3) := by decide +kernel
theorem d_Ref_nodes_150 : decode b_Ref_nodes 150 = .ok ((.goto (-146)), 3) := by decide +kernel
theorem d_Ref_nodes_153 : decode b_Ref_nodes 153 = .ok ((.iload_n 2), 1) := by decide +kernel
theorem d_Ref_nodes_154 : decode b_Ref_nodes 154 = .ok (.ireturn, 1) := by decide +kernel
theorem d_Ref_inputAt_0 : decode b_Ref_inputAt 0 = .ok ((.iload_n 1), 1) := by decide +kernel
theorem d_Ref_inputAt_1 : decode b_Ref_inputAt 1 = .ok ((.istore_n 3), 1) := by decide +kernel
theorem d_Ref_inputAt_2 : decode b_Ref_inputAt 2 = .ok ((.aload_n 0), 1) := by decide +kernel
theorem d_Ref_inputAt_3 : decode b_Ref_inputAt 3 = .ok ((.invokevirtual 133), 3) := by decide +kernel
theorem d_Ref_inputAt_6 : decode b_Ref_inputAt 6 = .ok ((.istore 4), 2) := by decide +kernel
theorem d_Ref_inputAt_8 : decode b_Ref_inputAt 8 = .ok ((.iconst 1), 1) := by decide +kernel
theorem d_Ref_inputAt_9 : decode b_Ref_inputAt 9 = .ok ((.aload_n 0), 1) := by decide +kernel
theorem d_Ref_inputAt_10 : decode b_Ref_inputAt 10 = .ok ((.getfield 55), 3) := by decide +kernel
theorem d_Ref_inputAt_13 : decode b_Ref_inputAt 13 = .ok (.ishl, 1) := by decide +kernel
theorem d_Ref_inputAt_14 : decode b_Ref_inputAt 14 = .ok ((.iconst 1), 1) := by decide +kernel
theorem d_Ref_inputAt_15 : decode b_Ref_inputAt 15 = .ok (.isub, 1) := by decide +kernel
theorem d_Ref_inputAt_16 : decode b_Ref_inputAt 16 = .ok ((.istore 5), 2) := by decide +kernel
theorem d_Ref_inputAt_18 : decode b_Ref_inputAt 18 = .ok ((.iconst 0), 1) := by decide +kernel
theorem d_Ref_inputAt_19 : decode b_Ref_inputAt 19 = .ok ((.istore 6), 2) := by decide +kernel
theorem d_Ref_inputAt_21 : decode b_Ref_inputAt 21 = .ok ((.iconst 0), 1) := by decide +kernel
theorem d_Ref_inputAt_22 : decode b_Ref_inputAt 22 = .ok ((.istore 7), 2) := by decide +kernel
theorem d_Ref_inputAt_24 : decode b_Ref_inputAt 24 = .ok ((.iload 7), 2) := by decide +kernel
theorem d_Ref_inputAt_26 : decode b_Ref_inputAt 26 = .ok ((.iload_n 2), 1) := by decide +kernel
theorem d_Ref_inputAt_27 : decode b_Ref_inputAt 27 = .ok ((.if_icmp .gt 87), 3) := by decide +kernel
theorem d_Ref_inputAt_30 : decode b_Ref_inputAt 30 = .ok ((.iload 4), 2) := by decide +kernel
theorem d_Ref_inputAt_32 : decode b_Ref_inputAt 32 = .ok ((.aload_n 0), 1) := by decide +kernel
theorem d_Ref_inputAt_33 : decode b_Ref_inputAt 33 = .ok ((.getfield 55), 3) := by decide +kernel
theorem d_Ref_inputAt_36 : decode b_Ref_inputAt 36 = .ok ((.iload 7), 2) := by decide +kernel
theorem d_Ref_inputAt_38 : decode b_Ref_inputAt 38 = .ok (.isub, 1) := by decide +kernel
theorem d_Ref_inputAt_39 : decode b_Ref_inputAt 39 = .ok (.idiv, 1) := by decide +kernel
theorem d_Ref_inputAt_40 : decode b_Ref_inputAt 40 = .ok ((.istore 4), 2) := by decide +kernel
theorem d_Ref_inputAt_42 : decode b_Ref_inputAt 42 = .ok ((.iload_n 3), 1) := by decide +kernel
theorem d_Ref_inputAt_43 : decode b_Ref_inputAt 43 = .ok ((.iload 4), 2) := by decide +kernel
theorem d_Ref_inputAt_45 : decode b_Ref_inputAt 45 = .ok (.idiv, 1) := by decide +kernel
theorem d_Ref_inputAt_46 : decode b_Ref_inputAt 46 = .ok ((.istore 8), 2) := by decide +kernel
theorem d_Ref_inputAt_48 : decode b_Ref_inputAt 48 = .ok ((.iload_n 3), 1) := by decide +kernel
theorem d_Ref_inputAt_49 : decode b_Ref_inputAt 49 = .ok ((.iload 4), 2) := by decide +kernel
theorem d_Ref_inputAt_51 : decode b_Ref_inputAt 51 = .ok (.irem, 1) := by decide +kernel
theorem d_Ref_inputAt_52 : decode b_Ref_inputAt 52 = .ok ((.istore_n 3), 1) := by decide +kernel
theorem d_Ref_inputAt_53 : decode b_Ref_inputAt 53 = .ok ((.iconst 0), 1) := by decide +kernel
theorem d_Ref_inputAt_54 : decode b_Ref_inputAt 54 = .ok ((.istore 6), 2) := by decide +kernel
theorem d_Ref_inputAt_56 : decode b_Ref_inputAt 56 = .ok ((.iload 5), 2) := by decide +kernel
theorem d_Ref_inputAt_58 : decode b_Ref_inputAt 58 = .ok ((.iload 6), 2) := by decide +kernel
theorem d_Ref_inputAt_60 : decode b_Ref_inputAt 60 = .ok (.ishr, 1) := by decide +kernel
theorem d_Ref_inputAt_61 : decode b_Ref_inputAt 61 = .ok ((.iconst 1), 1) := by decide +kernel
theorem d_Ref_inputAt_62 : decode b_Ref_inputAt 62 = .ok (.iand, 1) := by decide +kernel
theorem d_Ref_inputAt_63 : decode b_Ref_inputAt 63 = .ok ((.ifCond .eq 8), 3) := by decide +kernel
theorem d_Ref_inputAt_66 : decode b_Ref_inputAt 66 = .ok ((.iload 8), 2) := by decide +kernel
theorem d_Ref_inputAt_68 : decode b_Ref_inputAt 68 = .ok ((.ifCond .le 31), 3) := by decide +kernel
theorem d_Ref_inputAt_71 : decode b_Ref_inputAt 71 = .ok ((.iload 5), 2) := by decide +kernel
theorem d_Ref_inputAt_73 : decode b_Ref_inputAt 73 = .ok ((.iload 6), 2) := by decide +kernel
theorem d_Ref_inputAt_75 : decode b_Ref_inputAt 75 = .ok (.ishr, 1) := by decide +kernel
theorem d_Ref_inputAt_76 : decode b_Ref_inputAt 76 = .ok ((.iconst 1), 1) := by decide +kernel
theorem d_Ref_inputAt_77 : decode b_Ref_inputAt 77 = .ok (.iand, 1) := by decide +kernel
theorem d_Ref_inputAt_78 : decode b_Ref_inputAt 78 = .ok ((.iconst 1), 1) := by decide +kernel
theorem d_Ref_inputAt_79 : decode b_Ref_inputAt 79 = .ok ((.if_icmp .ne 10), 3) := by decide +kernel
theorem d_Ref_inputAt_82 : decode b_Ref_inputAt 82 = .ok ((.iload 8), 2) := by decide +kernel
theorem d_Ref_inputAt_84 : decode b_Ref_inputAt 84 = .ok ((.iconst 1), 1) := by decide +kernel
theorem d_Ref_inputAt_85 : decode b_Ref_inputAt 85 = .ok (.isub, 1) := by decide +kernel
theorem d_Ref_inputAt_86 : decode b_Ref_inputAt 86 = .ok ((.goto 5), 3) := by decide +kernel
theorem d_Ref_inputAt_89 : decode b_Ref_inputAt 89 = .ok ((.iload 8), 2) := by decide +kernel
theorem d_Ref_inputAt_91 : decode b_Ref_inputAt 91 = .ok ((.istore 8), 2) := by decide +kernel
theorem d_Ref_inputAt_93 : decode b_Ref_inputAt 93 = .ok ((.iinc 6 1), 3) := by decide +kernel
theorem d_Ref_inputAt_96 : decode b_Ref_inputAt 96 = .ok ((.goto (-40)), 3) := by decide +kernel
theorem d_Ref_inputAt_99 : decode b_Ref_inputAt 99 = .ok ((.iload 5), 2) := by decide +kernel
theorem d_Ref_inputAt_101 : decode b_Ref_inputAt 101 = .ok ((.iconst 1), 1) := by decide +kernel
theorem d_Ref_inputAt_102 : decode b_Ref_inputAt 102 = .ok ((.iload 6), 2) := by decide +kernel
theorem d_Ref_inputAt_104 : decode b_Ref_inputAt 104 = .ok (.ishl, 1) := by decide +kernel
theorem d_Ref_inputAt_105 : decode b_Ref_inputAt 105 = .ok (.ixor, 1) := by decide +kernel
theorem d_Ref_inputAt_106 : decode b_Ref_inputAt 106 = .ok ((.istore 5), 2) := by decide +kernel
theorem d_Ref_inputAt_108 : decode b_Ref_inputAt 108 = .ok ((.iinc 7 1), 3) := by decide +kernel
theorem d_Ref_inputAt_111 : decode b_Ref_inputAt 111 = .ok ((.goto (-87)), 3) := by decide +kernel
theorem d_Ref_inputAt_114 : decode b_Ref_inputAt 114 = .ok ((.iload 6), 2) := by decide +kernel
theorem d_Ref_inputAt_116 : decode b_Ref_inputAt 116 = .ok (.ireturn, 1) := by decide +kernel
theorem d_Ref_part_0 : decode b_Ref_part 0 = .ok ((.iconst 0), 1) := by decide +kernel
theorem d_Ref_part_1 : decode b_Ref_part 1 = .ok ((.istore 5), 2) := by decide +kernel
theorem d_Ref_part_3 : decode b_Ref_part 3 = .ok ((.iconst 0), 1) := by decide +kernel
theorem d_Ref_part_4 : decode b_Ref_part 4 = .ok ((.istore 6), 2) := by decide +kernel
theorem d_Ref_part_6 : decode b_Ref_part 6 = .ok ((.iload 6), 2) := by decide +kernel
theorem d_Ref_part_8 : decode b_Ref_part 8 = .ok ((.iconst 1), 1) := by decide +kernel
theorem d_Ref_part_9 : decode b_Ref_part 9 = .ok ((.aload_n 0), 1) := by decide +kernel
theorem d_Ref_part_10 : decode b_Ref_part 10 = .ok ((.getfield 55), 3) := by decide +kernel
theorem d_Ref_part_13 : decode b_Ref_part 13 = .ok (.ishl, 1) := by decide +kernel
theorem d_Ref_part_14 : decode b_Ref_part 14 = .ok ((.if_icmp .ge 83), 3) := by decide +kernel
theorem d_Ref_part_17 : decode b_Ref_part 17 = .ok ((.iload 6), 2) := by decide +kernel
theorem d_Ref_part_19 : decode b_Ref_part 19 = .ok ((.istore 7), 2) := by decide +kernel
theorem d_Ref_part_21 : decode b_Ref_part 21 = .ok ((.iconst 0), 1) := by decide +kernel
theorem d_Ref_part_22 : decode b_Ref_part 22 = .ok ((.istore 8), 2) := by decide +kernel
theorem d_Ref_part_24 : decode b_Ref_part 24 = .ok ((.iload 8), 2) := by decide +kernel
theorem d_Ref_part_26 : decode b_Ref_part 26 = .ok ((.iload_n 3), 1) := by decide +kernel
theorem d_Ref_part_27 : decode b_Ref_part 27 = .ok ((.if_icmp .ge 40), 3) := by decide +kernel
theorem d_Ref_part_30 : decode b_Ref_part 30 = .ok ((.aload_n 0), 1) := by decide +kernel
theorem d_Ref_part_31 : decode b_Ref_part 31 = .ok ((.iload_n 2), 1) := by decide +kernel
theorem d_Ref_part_32 : decode b_Ref_part 32 = .ok ((.iload 8), 2) := by decide +kernel
theorem d_Ref_part_34 : decode b_Ref_part 34 = .ok ((.invokevirtual 137), 3) := by decide +kernel
theorem d_Ref_part_37 : decode b_Ref_part 37 = .ok ((.istore 9), 2) := by decide +kernel
theorem d_Ref_part_39 : decode b_Ref_part 39 = .ok ((.iload 7), 2) := by decide +kernel
theorem d_Ref_part_41 : decode b_Ref_part 41 = .ok ((.iconst 1), 1) := by decide +kernel
theorem d_Ref_part_42 : decode b_Ref_part 42 = .ok ((.iload 9), 2) := by decide +kernel
theorem d_Ref_part_44 : decode b_Ref_part 44 = .ok (.ishl, 1) := by decide +kernel
theorem d_Ref_part_45 : decode b_Ref_part 45 = .ok ((.iconst (-1)), 1) := by decide +kernel
theorem d_Ref_part_46 : decode b_Ref_part 46 = .ok (.ixor, 1) := by decide +kernel
theorem d_Ref_part_47 : decode b_Ref_part 47 = .ok (.iand, 1) := by decide +kernel
theorem d_Ref_part_48 : decode b_Ref_part 48 = .ok ((.iload 4), 2) := by decide +kernel
theorem d_Ref_part_50 : decode b_Ref_part 50 = .ok ((.iload 8), 2) := by decide +kernel
theorem d_Ref_part_52 : decode b_Ref_part 52 = .ok (.ishr, 1) := by decide +kernel
theorem d_Ref_part_53 : decode b_Ref_part 53 = .ok ((.iconst 1), 1) := by decide +kernel
theorem d_Ref_part_54 : decode b_Ref_part 54 = .ok (.iand, 1) := by decide +kernel
theorem d_Ref_part_55 : decode b_Ref_part 55 = .ok ((.iload 9), 2) := by decide +kernel
theorem d_Ref_part_57 : decode b_Ref_part 57 = .ok (.ishl, 1) := by decide +kernel
theorem d_Ref_part_58 : decode b_Ref_part 58 = .ok (.ior, 1) := by decide +kernel
theorem d_Ref_part_59 : decode b_Ref_part 59 = .ok ((.istore 7), 2) := by decide +kernel
theorem d_Ref_part_61 : decode b_Ref_part 61 = .ok ((.iinc 8 1), 3) := by decide +kernel
theorem d_Ref_part_64 : decode b_Ref_part 64 = .ok ((.goto (-40)), 3) := by decide +kernel
theorem d_Ref_part_67 : decode b_Ref_part 67 = .ok ((.iload_n 1), 1) := by decide +kernel
theorem d_Ref_part_68 : decode b_Ref_part 68 = .ok ((.iload 7), 2) := by decide +kernel
theorem d_Ref_part_70 : decode b_Ref_part 70 = .ok (.ishr, 1) := by decide +kernel
theorem d_Ref_part_71 : decode b_Ref_part 71 = .ok ((.iconst 1), 1) := by decide +kernel
theorem d_Ref_part_72 : decode b_Ref_part 72 = .ok (.iand, 1) := by decide +kernel
theorem d_Ref_part_73 : decode b_Ref_part 73 = .ok ((.iconst 1), 1) := by decide +kernel
theorem d_Ref_part_74 : decode b_Ref_part 74 = .ok ((.if_icmp .ne 13), 3) := by decide +kernel
theorem d_Ref_part_77 : decode b_Ref_part 77 = .ok ((.iload 5), 2) := by decide +kernel
theorem d_Ref_part_79 : decode b_Ref_part 79 = .ok ((.iconst 1), 1) := by decide +kernel
theorem d_Ref_part_80 : decode b_Ref_part 80 = .ok ((.iload 6), 2) := by decide +kernel
theorem d_Ref_part_82 : decode b_Ref_part 82 = .ok (.ishl, 1) := by decide +kernel
theorem d_Ref_part_83 : decode b_Ref_part 83 = .ok (.ior, 1) := by decide +kernel
theorem d_Ref_part_84 : decode b_Ref_part 84 = .ok ((.goto 5), 3) := by decide +kernel
theorem d_Ref_part_87 : decode b_Ref_part 87 = .ok ((.iload 5), 2) := by decide +kernel
theorem d_Ref_part_89 : decode b_Ref_part 89 = .ok ((.istore 5), 2) := by decide +kernel
theorem d_Ref_part_91 : decode b_Ref_part 91 = .ok ((.iinc 6 1), 3) := by decide +kernel
theorem d_Ref_part_94 : decode b_Ref_part 94 = .ok ((.goto (-88)), 3) := by decide +kernel
theorem d_Ref_part_97 : decode b_Ref_part 97 = .ok ((.iload 5), 2) := by decide +kernel
theorem d_Ref_part_99 : decode b_Ref_part 99 = .ok (.ireturn, 1) := by decide +kernel
theorem d_Ref_asks_0 : decode b_Ref_asks 0 = .ok ((.iconst 0), 1) := by decide +kernel
theorem d_Ref_asks_1 : decode b_Ref_asks 1 = .ok ((.istore_n 3), 1) := by decide +kernel
theorem d_Ref_asks_2 : decode b_Ref_asks 2 = .ok ((.iconst 0), 1) := by decide +kernel
theorem d_Ref_asks_3 : decode b_Ref_asks 3 = .ok ((.istore 4), 2) := by decide +kernel
theorem d_Ref_asks_5 : decode b_Ref_asks 5 = .ok ((.iload 4), 2) := by decide +kernel
theorem d_Ref_asks_7 : decode b_Ref_asks 7 = .ok ((.iconst 1), 1) := by decide +kernel
theorem d_Ref_asks_8 : decode b_Ref_asks 8 = .ok ((.aload_n 0), 1) := by decide +kernel
theorem d_Ref_asks_9 : decode b_Ref_asks 9 = .ok ((.getfield 55), 3) := by decide +kernel
theorem d_Ref_asks_12 : decode b_Ref_asks 12 = .ok (.ishl, 1) := by decide +kernel
theorem d_Ref_asks_13 : decode b_Ref_asks 13 = .ok ((.if_icmp .ge 38), 3) := by decide +kernel
theorem d_Ref_asks_16 : decode b_Ref_asks 16 = .ok ((.iload_n 3), 1) := by decide +kernel
theorem d_Ref_asks_17 : decode b_Ref_asks 17 = .ok ((.ifCond .ne 22), 3) := by decide +kernel
theorem d_Ref_asks_20 : decode b_Ref_asks 20 = .ok ((.iload_n 1), 1) := by decide +kernel
theorem d_Ref_asks_21 : decode b_Ref_asks 21 = .ok ((.iload 4), 2) := by decide +kernel
theorem d_Ref_asks_23 : decode b_Ref_asks 23 = .ok (.ishr, 1) := by decide +kernel
theorem d_Ref_asks_24 : decode b_Ref_asks 24 = .ok ((.iconst 1), 1) := by decide +kernel
theorem d_Ref_asks_25 : decode b_Ref_asks 25 = .ok (.iand, 1) := by decide +kernel
theorem d_Ref_asks_26 : decode b_Ref_asks 26 = .ok ((.iload_n 1), 1) := by decide +kernel
theorem d_Ref_asks_27 : decode b_Ref_asks 27 = .ok ((.iload 4), 2) := by decide +kernel
theorem d_Ref_asks_29 : decode b_Ref_asks 29 = .ok ((.iconst 1), 1) := by decide +kernel
theorem d_Ref_asks_30 : decode b_Ref_asks 30 = .ok ((.iload_n 2), 1) := by decide +kernel
theorem d_Ref_asks_31 : decode b_Ref_asks 31 = .ok (.ishl, 1) := by decide +kernel
theorem d_Ref_asks_32 : decode b_Ref_asks 32 = .ok (.ixor, 1) := by decide +kernel
theorem d_Ref_asks_33 : decode b_Ref_asks 33 = .ok (.ishr, 1) := by decide +kernel
theorem d_Ref_asks_34 : decode b_Ref_asks 34 = .ok ((.iconst 1), 1) := by decide +kernel
theorem d_Ref_asks_35 : decode b_Ref_asks 35 = .ok (.iand, 1) := by decide +kernel
theorem d_Ref_asks_36 : decode b_Ref_asks 36 = .ok ((.if_icmp .eq 7), 3) := by decide +kernel
theorem d_Ref_asks_39 : decode b_Ref_asks 39 = .ok ((.iconst 1), 1) := by decide +kernel
theorem d_Ref_asks_40 : decode b_Ref_asks 40 = .ok ((.goto 4), 3) := by decide +kernel
theorem d_Ref_asks_43 : decode b_Ref_asks 43 = .ok ((.iconst 0), 1) := by decide +kernel
theorem d_Ref_asks_44 : decode b_Ref_asks 44 = .ok ((.istore_n 3), 1) := by decide +kernel
theorem d_Ref_asks_45 : decode b_Ref_asks 45 = .ok ((.iinc 4 1), 3) := by decide +kernel
theorem d_Ref_asks_48 : decode b_Ref_asks 48 = .ok ((.goto (-43)), 3) := by decide +kernel
theorem d_Ref_asks_51 : decode b_Ref_asks 51 = .ok ((.iload_n 3), 1) := by decide +kernel
theorem d_Ref_asks_52 : decode b_Ref_asks 52 = .ok (.ireturn, 1) := by decide +kernel
theorem d_Ref_order_0 : decode b_Ref_order 0 = .ok ((.aload_n 0), 1) := by decide +kernel
theorem d_Ref_order_1 : decode b_Ref_order 1 = .ok ((.iconst 0), 1) := by decide +kernel
theorem d_Ref_order_2 : decode b_Ref_order 2 = .ok ((.putfield 65), 3) := by decide +kernel
theorem d_Ref_order_5 : decode b_Ref_order 5 = .ok ((.aload_n 0), 1) := by decide +kernel
theorem d_Ref_order_6 : decode b_Ref_order 6 = .ok ((.invokevirtual 79), 3) := by decide +kernel
theorem d_Ref_order_9 : decode b_Ref_order 9 = .ok ((.iconst 0), 1) := by decide +kernel
theorem d_Ref_order_10 : decode b_Ref_order 10 = .ok ((.istore_n 1), 1) := by decide +kernel
theorem d_Ref_order_11 : decode b_Ref_order 11 = .ok ((.aload_n 0), 1) := by decide +kernel
theorem d_Ref_order_12 : decode b_Ref_order 12 = .ok ((.iconst 0), 1) := by decide +kernel
theorem d_Ref_order_13 : decode b_Ref_order 13 = .ok ((.invokevirtual 147), 3) := by decide +kernel
theorem d_Ref_order_16 : decode b_Ref_order 16 = .ok ((.istore_n 2), 1) := by decide +kernel
theorem d_Ref_order_17 : decode b_Ref_order 17 = .ok ((.iconst 1), 1) := by decide +kernel
theorem d_Ref_order_18 : decode b_Ref_order 18 = .ok ((.istore_n 3), 1) := by decide +kernel
theorem d_Ref_order_19 : decode b_Ref_order 19 = .ok ((.iload_n 3), 1) := by decide +kernel
theorem d_Ref_order_20 : decode b_Ref_order 20 = .ok ((.aload_n 0), 1) := by decide +kernel
theorem d_Ref_order_21 : decode b_Ref_order 21 = .ok ((.invokevirtual 133), 3) := by decide +kernel
theorem d_Ref_order_24 : decode b_Ref_order 24 = .ok ((.if_icmp .ge 41), 3) := by decide +kernel
theorem d_Ref_order_27 : decode b_Ref_order 27 = .ok ((.aload_n 0), 1) := by decide +kernel
theorem d_Ref_order_28 : decode b_Ref_order 28 = .ok ((.iload_n 3), 1) := by decide +kernel
theorem d_Ref_order_29 : decode b_Ref_order 29 = .ok ((.invokevirtual 147), 3) := by decide +kernel
theorem d_Ref_order_32 : decode b_Ref_order 32 = .ok ((.istore 4), 2) := by decide +kernel
theorem d_Ref_order_34 : decode b_Ref_order 34 = .ok ((.iload 4), 2) := by decide +kernel
theorem d_Ref_order_36 : decode b_Ref_order 36 = .ok ((.iload_n 2), 1) := by decide +kernel
theorem d_Ref_order_37 : decode b_Ref_order 37 = .ok ((.if_icmp .ge 7), 3) := by decide +kernel
theorem d_Ref_order_40 : decode b_Ref_order 40 = .ok ((.iload_n 3), 1) := by decide +kernel
theorem d_Ref_order_41 : decode b_Ref_order 41 = .ok ((.goto 4), 3) := by decide +kernel
theorem d_Ref_order_44 : decode b_Ref_order 44 = .ok ((.iload_n 1), 1) := by decide +kernel
theorem d_Ref_order_45 : decode b_Ref_order 45 = .ok ((.istore_n 1), 1) := by decide +kernel
theorem d_Ref_order_46 : decode b_Ref_order 46 = .ok ((.iload 4), 2) := by decide +kernel
theorem d_Ref_order_48 : decode b_Ref_order 48 = .ok ((.iload_n 2), 1) := by decide +kernel
theorem d_Ref_order_49 : decode b_Ref_order 49 = .ok ((.if_icmp .ge 8), 3) := by decide +kernel
theorem d_Ref_order_52 : decode b_Ref_order 52 = .ok ((.iload 4), 2) := by decide +kernel
theorem d_Ref_order_54 : decode b_Ref_order 54 = .ok ((.goto 4), 3) := by decide +kernel
theorem d_Ref_order_57 : decode b_Ref_order 57 = .ok ((.iload_n 2), 1) := by decide +kernel
theorem d_Ref_order_58 : decode b_Ref_order 58 = .ok ((.istore_n 2), 1) := by decide +kernel
theorem d_Ref_order_59 : decode b_Ref_order 59 = .ok ((.iinc 3 1), 3) := by decide +kernel
theorem d_Ref_order_62 : decode b_Ref_order 62 = .ok ((.goto (-43)), 3) := by decide +kernel
theorem d_Ref_order_65 : decode b_Ref_order 65 = .ok ((.iload_n 1), 1) := by decide +kernel
theorem d_Ref_order_66 : decode b_Ref_order 66 = .ok (.ireturn, 1) := by decide +kernel
theorem d_Ref_clear_0 : decode b_Ref_clear 0 = .ok ((.aload_n 0), 1) := by decide +kernel
theorem d_Ref_clear_1 : decode b_Ref_clear 1 = .ok ((.iconst 0), 1) := by decide +kernel
theorem d_Ref_clear_2 : decode b_Ref_clear 2 = .ok ((.putfield 65), 3) := by decide +kernel
theorem d_Ref_clear_5 : decode b_Ref_clear 5 = .ok ((.aload_n 0), 1) := by decide +kernel
theorem d_Ref_clear_6 : decode b_Ref_clear 6 = .ok ((.iconst 0), 1) := by decide +kernel
theorem d_Ref_clear_7 : decode b_Ref_clear 7 = .ok ((.putfield 72), 3) := by decide +kernel
theorem d_Ref_clear_10 : decode b_Ref_clear 10 = .ok ((.aload_n 0), 1) := by decide +kernel
theorem d_Ref_clear_11 : decode b_Ref_clear 11 = .ok ((.iconst 0), 1) := by decide +kernel
theorem d_Ref_clear_12 : decode b_Ref_clear 12 = .ok ((.putfield 113), 3) := by decide +kernel
theorem d_Ref_clear_15 : decode b_Ref_clear 15 = .ok ((.aload_n 0), 1) := by decide +kernel
end
section
theorem d_Ref_clear_16 : decode b_Ref_clear 16 = .ok ((.iconst 0), 1) := by decide +kernel
theorem d_Ref_clear_17 : decode b_Ref_clear 17 = .ok ((.putfield 110), 3) := by decide +kernel
theorem d_Ref_clear_20 : decode b_Ref_clear 20 = .ok ((.aload_n 0), 1) := by decide +kernel
theorem d_Ref_clear_21 : decode b_Ref_clear 21 = .ok ((.iconst 0), 1) := by decide +kernel
theorem d_Ref_clear_22 : decode b_Ref_clear 22 = .ok ((.putfield 117), 3) := by decide +kernel
theorem d_Ref_clear_25 : decode b_Ref_clear 25 = .ok (.return_, 1) := by decide +kernel
end
section
theorem d_Terms_init_0 : decode b_Terms_init 0 = .ok ((.aload_n 0), 1) := by decide +kernel
theorem d_Terms_init_1 : decode b_Terms_init 1 = .ok ((.invokespecial 3), 3) := by decide +kernel
theorem d_Terms_init_4 : decode b_Terms_init 4 = .ok ((.aload_n 0), 1) := by decide +kernel
theorem d_Terms_init_5 : decode b_Terms_init 5 = .ok ((.bipush 81), 2) := by decide +kernel
theorem d_Terms_init_7 : decode b_Terms_init 7 = .ok ((.newarray .int), 2) := by decide +kernel
theorem d_Terms_init_9 : decode b_Terms_init 9 = .ok ((.putfield 9), 3) := by decide +kernel
theorem d_Terms_init_12 : decode b_Terms_init 12 = .ok ((.aload_n 0), 1) := by decide +kernel
theorem d_Terms_init_13 : decode b_Terms_init 13 = .ok ((.bipush 81), 2) := by decide +kernel
theorem d_Terms_init_15 : decode b_Terms_init 15 = .ok ((.newarray .int), 2) := by decide +kernel
theorem d_Terms_init_17 : decode b_Terms_init 17 = .ok ((.putfield 15), 3) := by decide +kernel
theorem d_Terms_init_20 : decode b_Terms_init 20 = .ok ((.aload_n 0), 1) := by decide +kernel
theorem d_Terms_init_21 : decode b_Terms_init 21 = .ok ((.aload_n 1), 1) := by decide +kernel
theorem d_Terms_init_22 : decode b_Terms_init 22 = .ok ((.putfield 18), 3) := by decide +kernel
theorem d_Terms_init_25 : decode b_Terms_init 25 = .ok ((.aload_n 0), 1) := by decide +kernel
theorem d_Terms_init_26 : decode b_Terms_init 26 = .ok ((.iconst 0), 1) := by decide +kernel
theorem d_Terms_init_27 : decode b_Terms_init 27 = .ok ((.putfield 22), 3) := by decide +kernel
theorem d_Terms_init_30 : decode b_Terms_init 30 = .ok (.return_, 1) := by decide +kernel
theorem d_Terms_dropAll_0 : decode b_Terms_dropAll 0 = .ok ((.aload_n 0), 1) := by decide +kernel
theorem d_Terms_dropAll_1 : decode b_Terms_dropAll 1 = .ok ((.iconst 0), 1) := by decide +kernel
theorem d_Terms_dropAll_2 : decode b_Terms_dropAll 2 = .ok ((.putfield 22), 3) := by decide +kernel
theorem d_Terms_dropAll_5 : decode b_Terms_dropAll 5 = .ok (.return_, 1) := by decide +kernel
theorem d_Terms_add_0 : decode b_Terms_add 0 = .ok ((.aload_n 0), 1) := by decide +kernel
theorem d_Terms_add_1 : decode b_Terms_add 1 = .ok ((.getfield 22), 3) := by decide +kernel
theorem d_Terms_add_4 : decode b_Terms_add 4 = .ok ((.bipush 81), 2) := by decide +kernel
theorem d_Terms_add_6 : decode b_Terms_add 6 = .ok ((.if_icmp .ge 33), 3) := by decide +kernel
theorem d_Terms_add_9 : decode b_Terms_add 9 = .ok ((.aload_n 0), 1) := by decide +kernel
theorem d_Terms_add_10 : decode b_Terms_add 10 = .ok ((.getfield 9), 3) := by decide +kernel
theorem d_Terms_add_13 : decode b_Terms_add 13 = .ok ((.aload_n 0), 1) := by decide +kernel
theorem d_Terms_add_14 : decode b_Terms_add 14 = .ok ((.getfield 22), 3) := by decide +kernel
theorem d_Terms_add_17 : decode b_Terms_add 17 = .ok ((.iload_n 1), 1) := by decide +kernel
theorem d_Terms_add_18 : decode b_Terms_add 18 = .ok (.iastore, 1) := by decide +kernel
theorem d_Terms_add_19 : decode b_Terms_add 19 = .ok ((.aload_n 0), 1) := by decide +kernel
theorem d_Terms_add_20 : decode b_Terms_add 20 = .ok ((.getfield 15), 3) := by decide +kernel
theorem d_Terms_add_23 : decode b_Terms_add 23 = .ok ((.aload_n 0), 1) := by decide +kernel
theorem d_Terms_add_24 : decode b_Terms_add 24 = .ok ((.getfield 22), 3) := by decide +kernel
theorem d_Terms_add_27 : decode b_Terms_add 27 = .ok ((.iload_n 2), 1) := by decide +kernel
theorem d_Terms_add_28 : decode b_Terms_add 28 = .ok (.iastore, 1) := by decide +kernel
theorem d_Terms_add_29 : decode b_Terms_add 29 = .ok ((.aload_n 0), 1) := by decide +kernel
theorem d_Terms_add_30 : decode b_Terms_add 30 = .ok (.dup, 1) := by decide +kernel
theorem d_Terms_add_31 : decode b_Terms_add 31 = .ok ((.getfield 22), 3) := by decide +kernel
theorem d_Terms_add_34 : decode b_Terms_add 34 = .ok ((.iconst 1), 1) := by decide +kernel
theorem d_Terms_add_35 : decode b_Terms_add 35 = .ok (.iadd, 1) := by decide +kernel
theorem d_Terms_add_36 : decode b_Terms_add 36 = .ok ((.putfield 22), 3) := by decide +kernel
theorem d_Terms_add_39 : decode b_Terms_add 39 = .ok (.return_, 1) := by decide +kernel
theorem d_Terms_size_0 : decode b_Terms_size 0 = .ok ((.aload_n 0), 1) := by decide +kernel
theorem d_Terms_size_1 : decode b_Terms_size 1 = .ok ((.getfield 22), 3) := by decide +kernel
theorem d_Terms_size_4 : decode b_Terms_size 4 = .ok (.ireturn, 1) := by decide +kernel
theorem d_Terms_holds_0 : decode b_Terms_holds 0 = .ok ((.iload_n 1), 1) := by decide +kernel
theorem d_Terms_holds_1 : decode b_Terms_holds 1 = .ok ((.ifCond .lt 15), 3) := by decide +kernel
theorem d_Terms_holds_4 : decode b_Terms_holds 4 = .ok ((.iload_n 1), 1) := by decide +kernel
theorem d_Terms_holds_5 : decode b_Terms_holds 5 = .ok ((.aload_n 0), 1) := by decide +kernel
theorem d_Terms_holds_6 : decode b_Terms_holds 6 = .ok ((.getfield 22), 3) := by decide +kernel
theorem d_Terms_holds_9 : decode b_Terms_holds 9 = .ok ((.if_icmp .ge 7), 3) := by decide +kernel
theorem d_Terms_holds_12 : decode b_Terms_holds 12 = .ok ((.iconst 1), 1) := by decide +kernel
theorem d_Terms_holds_13 : decode b_Terms_holds 13 = .ok ((.goto 4), 3) := by decide +kernel
theorem d_Terms_holds_16 : decode b_Terms_holds 16 = .ok ((.iconst 0), 1) := by decide +kernel
theorem d_Terms_holds_17 : decode b_Terms_holds 17 = .ok (.ireturn, 1) := by decide +kernel
theorem d_Terms_column_0 : decode b_Terms_column 0 = .ok ((.aload_n 0), 1) := by decide +kernel
theorem d_Terms_column_1 : decode b_Terms_column 1 = .ok ((.getfield 18), 3) := by decide +kernel
theorem d_Terms_column_4 : decode b_Terms_column 4 = .ok ((.invokevirtual 33), 3) := by decide +kernel
theorem d_Terms_column_7 : decode b_Terms_column 7 = .ok ((.istore_n 3), 1) := by decide +kernel
theorem d_Terms_column_8 : decode b_Terms_column 8 = .ok ((.iload_n 2), 1) := by decide +kernel
theorem d_Terms_column_9 : decode b_Terms_column 9 = .ok ((.iload_n 3), 1) := by decide +kernel
theorem d_Terms_column_10 : decode b_Terms_column 10 = .ok ((.if_icmp .ge 20), 3) := by decide +kernel
theorem d_Terms_column_13 : decode b_Terms_column 13 = .ok ((.aload_n 0), 1) := by decide +kernel
theorem d_Terms_column_14 : decode b_Terms_column 14 = .ok ((.getfield 18), 3) := by decide +kernel
theorem d_Terms_column_17 : decode b_Terms_column 17 = .ok ((.aload_n 0), 1) := by decide +kernel
theorem d_Terms_column_18 : decode b_Terms_column 18 = .ok ((.getfield 9), 3) := by decide +kernel
theorem d_Terms_column_21 : decode b_Terms_column 21 = .ok ((.iload_n 1), 1) := by decide +kernel
theorem d_Terms_column_22 : decode b_Terms_column 22 = .ok (.iaload, 1) := by decide +kernel
theorem d_Terms_column_23 : decode b_Terms_column 23 = .ok ((.iload_n 2), 1) := by decide +kernel
theorem d_Terms_column_24 : decode b_Terms_column 24 = .ok ((.invokevirtual 39), 3) := by decide +kernel
theorem d_Terms_column_27 : decode b_Terms_column 27 = .ok ((.goto 15), 3) := by decide +kernel
theorem d_Terms_column_30 : decode b_Terms_column 30 = .ok ((.aload_n 0), 1) := by decide +kernel
theorem d_Terms_column_31 : decode b_Terms_column 31 = .ok ((.getfield 15), 3) := by decide +kernel
theorem d_Terms_column_34 : decode b_Terms_column 34 = .ok ((.iload_n 1), 1) := by decide +kernel
theorem d_Terms_column_35 : decode b_Terms_column 35 = .ok (.iaload, 1) := by decide +kernel
theorem d_Terms_column_36 : decode b_Terms_column 36 = .ok ((.iload_n 2), 1) := by decide +kernel
theorem d_Terms_column_37 : decode b_Terms_column 37 = .ok ((.iload_n 3), 1) := by decide +kernel
theorem d_Terms_column_38 : decode b_Terms_column 38 = .ok (.isub, 1) := by decide +kernel
theorem d_Terms_column_39 : decode b_Terms_column 39 = .ok (.ishr, 1) := by decide +kernel
theorem d_Terms_column_40 : decode b_Terms_column 40 = .ok ((.iconst 1), 1) := by decide +kernel
theorem d_Terms_column_41 : decode b_Terms_column 41 = .ok (.iand, 1) := by decide +kernel
theorem d_Terms_column_42 : decode b_Terms_column 42 = .ok (.ireturn, 1) := by decide +kernel
theorem d_Terms_hadFor_0 : decode b_Terms_hadFor 0 = .ok ((.aload_n 0), 1) := by decide +kernel
theorem d_Terms_hadFor_1 : decode b_Terms_hadFor 1 = .ok ((.getfield 15), 3) := by decide +kernel
theorem d_Terms_hadFor_4 : decode b_Terms_hadFor 4 = .ok ((.iload_n 1), 1) := by decide +kernel
theorem d_Terms_hadFor_5 : decode b_Terms_hadFor 5 = .ok (.iaload, 1) := by decide +kernel
theorem d_Terms_hadFor_6 : decode b_Terms_hadFor 6 = .ok ((.iload_n 2), 1) := by decide +kernel
theorem d_Terms_hadFor_7 : decode b_Terms_hadFor 7 = .ok (.ishr, 1) := by decide +kernel
theorem d_Terms_hadFor_8 : decode b_Terms_hadFor 8 = .ok ((.iconst 1), 1) := by decide +kernel
theorem d_Terms_hadFor_9 : decode b_Terms_hadFor 9 = .ok (.iand, 1) := by decide +kernel
theorem d_Terms_hadFor_10 : decode b_Terms_hadFor 10 = .ok ((.iconst 1), 1) := by decide +kernel
theorem d_Terms_hadFor_11 : decode b_Terms_hadFor 11 = .ok ((.if_icmp .ne 19), 3) := by decide +kernel
theorem d_Terms_hadFor_14 : decode b_Terms_hadFor 14 = .ok ((.aload_n 0), 1) := by decide +kernel
theorem d_Terms_hadFor_15 : decode b_Terms_hadFor 15 = .ok ((.getfield 18), 3) := by decide +kernel
theorem d_Terms_hadFor_18 : decode b_Terms_hadFor 18 = .ok ((.aload_n 0), 1) := by decide +kernel
theorem d_Terms_hadFor_19 : decode b_Terms_hadFor 19 = .ok ((.getfield 9), 3) := by decide +kernel
theorem d_Terms_hadFor_22 : decode b_Terms_hadFor 22 = .ok ((.iload_n 1), 1) := by decide +kernel
theorem d_Terms_hadFor_23 : decode b_Terms_hadFor 23 = .ok (.iaload, 1) := by decide +kernel
theorem d_Terms_hadFor_24 : decode b_Terms_hadFor 24 = .ok ((.invokevirtual 52), 3) := by decide +kernel
theorem d_Terms_hadFor_27 : decode b_Terms_hadFor 27 = .ok ((.goto 4), 3) := by decide +kernel
theorem d_Terms_hadFor_30 : decode b_Terms_hadFor 30 = .ok ((.iconst 0), 1) := by decide +kernel
theorem d_Terms_hadFor_31 : decode b_Terms_hadFor 31 = .ok (.ireturn, 1) := by decide +kernel
theorem d_Terms_costOf_0 : decode b_Terms_costOf 0 = .ok ((.aload_n 0), 1) := by decide +kernel
theorem d_Terms_costOf_1 : decode b_Terms_costOf 1 = .ok ((.getfield 18), 3) := by decide +kernel
theorem d_Terms_costOf_4 : decode b_Terms_costOf 4 = .ok ((.aload_n 0), 1) := by decide +kernel
theorem d_Terms_costOf_5 : decode b_Terms_costOf 5 = .ok ((.getfield 9), 3) := by decide +kernel
theorem d_Terms_costOf_8 : decode b_Terms_costOf 8 = .ok ((.iload_n 1), 1) := by decide +kernel
theorem d_Terms_costOf_9 : decode b_Terms_costOf 9 = .ok (.iaload, 1) := by decide +kernel
theorem d_Terms_costOf_10 : decode b_Terms_costOf 10 = .ok ((.invokevirtual 43), 3) := by decide +kernel
theorem d_Terms_costOf_13 : decode b_Terms_costOf 13 = .ok ((.invokestatic 47), 3) := by decide +kernel
theorem d_Terms_costOf_16 : decode b_Terms_costOf 16 = .ok ((.aload_n 0), 1) := by decide +kernel
theorem d_Terms_costOf_17 : decode b_Terms_costOf 17 = .ok ((.getfield 15), 3) := by decide +kernel
theorem d_Terms_costOf_20 : decode b_Terms_costOf 20 = .ok ((.iload_n 1), 1) := by decide +kernel
theorem d_Terms_costOf_21 : decode b_Terms_costOf 21 = .ok (.iaload, 1) := by decide +kernel
theorem d_Terms_costOf_22 : decode b_Terms_costOf 22 = .ok ((.invokestatic 47), 3) := by decide +kernel
theorem d_Terms_costOf_25 : decode b_Terms_costOf 25 = .ok (.iadd, 1) := by decide +kernel
theorem d_Terms_costOf_26 : decode b_Terms_costOf 26 = .ok (.ireturn, 1) := by decide +kernel
theorem d_Terms_takeFrom_0 : decode b_Terms_takeFrom 0 = .ok ((.aload_n 0), 1) := by decide +kernel
theorem d_Terms_takeFrom_1 : decode b_Terms_takeFrom 1 = .ok ((.invokevirtual 26), 3) := by decide +kernel
theorem d_Terms_takeFrom_4 : decode b_Terms_takeFrom 4 = .ok ((.iconst 0), 1) := by decide +kernel
theorem d_Terms_takeFrom_5 : decode b_Terms_takeFrom 5 = .ok ((.istore 4), 2) := by decide +kernel
theorem d_Terms_takeFrom_7 : decode b_Terms_takeFrom 7 = .ok ((.iload 4), 2) := by decide +kernel
theorem d_Terms_takeFrom_9 : decode b_Terms_takeFrom 9 = .ok ((.aload_n 1), 1) := by decide +kernel
theorem d_Terms_takeFrom_10 : decode b_Terms_takeFrom 10 = .ok ((.getfield 22), 3) := by decide +kernel
theorem d_Terms_takeFrom_13 : decode b_Terms_takeFrom 13 = .ok ((.if_icmp .ge 38), 3) := by decide +kernel
theorem d_Terms_takeFrom_16 : decode b_Terms_takeFrom 16 = .ok ((.lload_n 2), 1) := by decide +kernel
theorem d_Terms_takeFrom_17 : decode b_Terms_takeFrom 17 = .ok ((.iload 4), 2) := by decide +kernel
theorem d_Terms_takeFrom_19 : decode b_Terms_takeFrom 19 = .ok (.lshr, 1) := by decide +kernel
theorem d_Terms_takeFrom_20 : decode b_Terms_takeFrom 20 = .ok ((.lconst 1), 1) := by decide +kernel
theorem d_Terms_takeFrom_21 : decode b_Terms_takeFrom 21 = .ok (.land, 1) := by decide +kernel
theorem d_Terms_takeFrom_22 : decode b_Terms_takeFrom 22 = .ok ((.lconst 1), 1) := by decide +kernel
theorem d_Terms_takeFrom_23 : decode b_Terms_takeFrom 23 = .ok (.lcmp, 1) := by decide +kernel
theorem d_Terms_takeFrom_24 : decode b_Terms_takeFrom 24 = .ok ((.ifCond .ne 21), 3) := by decide +kernel
theorem d_Terms_takeFrom_27 : decode b_Terms_takeFrom 27 = .ok ((.aload_n 0), 1) := by decide +kernel
theorem d_Terms_takeFrom_28 : decode b_Terms_takeFrom 28 = .ok ((.aload_n 1), 1) := by decide +kernel
theorem d_Terms_takeFrom_29 : decode b_Terms_takeFrom 29 = .ok ((.getfield 9), 3) := by decide +kernel
theorem d_Terms_takeFrom_32 : decode b_Terms_takeFrom 32 = .ok ((.iload 4), 2) := by decide +kernel
theorem d_Terms_takeFrom_34 : decode b_Terms_takeFrom 34 = .ok (.iaload, 1) := by decide +kernel
theorem d_Terms_takeFrom_35 : decode b_Terms_takeFrom 35 = .ok ((.aload_n 1), 1) := by decide +kernel
theorem d_Terms_takeFrom_36 : decode b_Terms_takeFrom 36 = .ok ((.getfield 15), 3) := by decide +kernel
theorem d_Terms_takeFrom_39 : decode b_Terms_takeFrom 39 = .ok ((.iload 4), 2) := by decide +kernel
theorem d_Terms_takeFrom_41 : decode b_Terms_takeFrom 41 = .ok (.iaload, 1) := by decide +kernel
theorem d_Terms_takeFrom_42 : decode b_Terms_takeFrom 42 = .ok ((.invokevirtual 29), 3) := by decide +kernel
theorem d_Terms_takeFrom_45 : decode b_Terms_takeFrom 45 = .ok ((.iinc 4 1), 3) := by decide +kernel
theorem d_Terms_takeFrom_48 : decode b_Terms_takeFrom 48 = .ok ((.goto (-41)), 3) := by decide +kernel
theorem d_Terms_takeFrom_51 : decode b_Terms_takeFrom 51 = .ok (.return_, 1) := by decide +kernel
theorem d_Terms_product_0 : decode b_Terms_product 0 = .ok ((.aload_n 0), 1) := by decide +kernel
theorem d_Terms_product_1 : decode b_Terms_product 1 = .ok ((.getfield 9), 3) := by decide +kernel
theorem d_Terms_product_4 : decode b_Terms_product 4 = .ok ((.iload_n 1), 1) := by decide +kernel
theorem d_Terms_product_5 : decode b_Terms_product 5 = .ok (.iaload, 1) := by decide +kernel
theorem d_Terms_product_6 : decode b_Terms_product 6 = .ok (.ireturn, 1) := by decide +kernel
theorem d_Terms_hadByAllFor_0 : decode b_Terms_hadByAllFor 0 = .ok ((.iconst 0), 1) := by decide +kernel
theorem d_Terms_hadByAllFor_1 : decode b_Terms_hadByAllFor 1 = .ok ((.istore_n 2), 1) := by decide +kernel
theorem d_Terms_hadByAllFor_2 : decode b_Terms_hadByAllFor 2 = .ok ((.iconst 0), 1) := by decide +kernel
theorem d_Terms_hadByAllFor_3 : decode b_Terms_hadByAllFor 3 = .ok ((.istore_n 3), 1) := by decide +kernel
theorem d_Terms_hadByAllFor_4 : decode b_Terms_hadByAllFor 4 = .ok ((.iload_n 3), 1) := by decide +kernel
theorem d_Terms_hadByAllFor_5 : decode b_Terms_hadByAllFor 5 = .ok ((.aload_n 0), 1) := by decide +kernel
theorem d_Terms_hadByAllFor_6 : decode b_Terms_hadByAllFor 6 = .ok ((.getfield 22), 3) := by decide +kernel
theorem d_Terms_hadByAllFor_9 : decode b_Terms_hadByAllFor 9 = .ok ((.if_icmp .ge 18), 3) := by decide +kernel
theorem d_Terms_hadByAllFor_12 : decode b_Terms_hadByAllFor 12 = .ok ((.iload_n 2), 1) := by decide +kernel
theorem d_Terms_hadByAllFor_13 : decode b_Terms_hadByAllFor 13 = .ok ((.aload_n 0), 1) := by decide +kernel
theorem d_Terms_hadByAllFor_14 : decode b_Terms_hadByAllFor 14 = .ok ((.iload_n 3), 1) := by decide +kernel
theorem d_Terms_hadByAllFor_15 : decode b_Terms_hadByAllFor 15 = .ok ((.iload_n 1), 1) := by decide +kernel
theorem d_Terms_hadByAllFor_16 : decode b_Terms_hadByAllFor 16 = .ok ((.invokevirtual 55), 3) := by decide +kernel
theorem d_Terms_hadByAllFor_19 : decode b_Terms_hadByAllFor 19 = .ok (.ior, 1) := by decide +kernel
theorem d_Terms_hadByAllFor_20 : decode b_Terms_hadByAllFor 20 = .ok ((.istore_n 2), 1) := by decide +kernel
theorem d_Terms_hadByAllFor_21 : decode b_Terms_hadByAllFor 21 = .ok ((.iinc 3 1), 3) := by decide +kernel
theorem d_Terms_hadByAllFor_24 : decode b_Terms_hadByAllFor 24 = .ok ((.goto (-20)), 3) := by decide +kernel
theorem d_Terms_hadByAllFor_27 : decode b_Terms_hadByAllFor 27 = .ok ((.iload_n 2), 1) := by decide +kernel
theorem d_Terms_hadByAllFor_28 : decode b_Terms_hadByAllFor 28 = .ok (.ireturn, 1) := by decide +kernel
end
section
-- ===== PART A: goes FIRST, ahead of the names: the tables' words, and 'selects' of the private methods out of them =====
/-- a private method of a class that the tables say can be made, by its rows of tables_1 -/
def lw_okq (q : MethodName × Nat) : Prop := (q.1.cls ≠ "java/lang/invoke/MethodHandle" ∧ q.1.cls ≠ "java/lang/invoke/VarHandle") ∧ Cond.instantiable q.1.cls q.2 ∈ tables_1 ∧ Cond.privateMethod q.1 ∈ tables_1 ∧ Cond.instanceMethod q.1 ∈ tables_1
theorem lw_p0 : lw_okq (⟨"CoverRows$Products", "fillDigits", "(I)V"⟩, 5) := ⟨⟨by decide +kernel, by decide +kernel⟩, List.mem_of_getElem? (i := 35) (by decide +kernel), List.mem_of_getElem? (i := 42) (by decide +kernel), List.mem_of_getElem? (i := 43) (by decide +kernel)⟩
theorem lw_p1 : lw_okq (⟨"CoverRows$Products", "fillHad", "(I)V"⟩, 5) := ⟨⟨by decide +kernel, by decide +kernel⟩, List.mem_of_getElem? (i := 35) (by decide +kernel), List.mem_of_getElem? (i := 46) (by decide +kernel), List.mem_of_getElem? (i := 47) (by decide +kernel)⟩
theorem lw_p2 : lw_okq (⟨"CoverRows", "renewPrimes", "()V"⟩, 11) := ⟨⟨by decide +kernel, by decide +kernel⟩, List.mem_of_getElem? (i := 21) (by decide +kernel), List.mem_of_getElem? (i := 256) (by decide +kernel), List.mem_of_getElem? (i := 257) (by decide +kernel)⟩
theorem lw_p3 : lw_okq (⟨"CoverRows$PrimeFinder", "fillOuts", "(LCoverRows$Cubes;)V"⟩, 3) := ⟨⟨by decide +kernel, by decide +kernel⟩, List.mem_of_getElem? (i := 108) (by decide +kernel), List.mem_of_getElem? (i := 264) (by decide +kernel), List.mem_of_getElem? (i := 265) (by decide +kernel)⟩
theorem lw_p4 : lw_okq (⟨"CoverRows$Cubes", "hadByKind", "(II)I"⟩, 5) := ⟨⟨by decide +kernel, by decide +kernel⟩, List.mem_of_getElem? (i := 67) (by decide +kernel), List.mem_of_getElem? (i := 276) (by decide +kernel), List.mem_of_getElem? (i := 277) (by decide +kernel)⟩
theorem lw_p5 : lw_okq (⟨"CoverRows$PrimeFinder", "isWithinWider", "(I)Z"⟩, 3) := ⟨⟨by decide +kernel, by decide +kernel⟩, List.mem_of_getElem? (i := 108) (by decide +kernel), List.mem_of_getElem? (i := 289) (by decide +kernel), List.mem_of_getElem? (i := 290) (by decide +kernel)⟩
theorem lw_p6 : lw_okq (⟨"CoverRows$Diagrams", "fillAsked", "(I)V"⟩, 5) := ⟨⟨by decide +kernel, by decide +kernel⟩, List.mem_of_getElem? (i := 196) (by decide +kernel), List.mem_of_getElem? (i := 330) (by decide +kernel), List.mem_of_getElem? (i := 331) (by decide +kernel)⟩
theorem lw_p7 : lw_okq (⟨"CoverRows$Diagrams", "inputAfter", "(II)I"⟩, 5) := ⟨⟨by decide +kernel, by decide +kernel⟩, List.mem_of_getElem? (i := 196) (by decide +kernel), List.mem_of_getElem? (i := 336) (by decide +kernel), List.mem_of_getElem? (i := 337) (by decide +kernel)⟩
theorem lw_p8 : lw_okq (⟨"CoverRows$Diagrams", "reordered", "(I)I"⟩, 5) := ⟨⟨by decide +kernel, by decide +kernel⟩, List.mem_of_getElem? (i := 196) (by decide +kernel), List.mem_of_getElem? (i := 344) (by decide +kernel), List.mem_of_getElem? (i := 345) (by decide +kernel)⟩
theorem lw_p9 : lw_okq (⟨"CoverRows$Diagrams", "nodesOfLevel", "(I)I"⟩, 5) := ⟨⟨by decide +kernel, by decide +kernel⟩, List.mem_of_getElem? (i := 196) (by decide +kernel), List.mem_of_getElem? (i := 348) (by decide +kernel), List.mem_of_getElem? (i := 349) (by decide +kernel)⟩
theorem lw_p10 : lw_okq (⟨"CoverRows$Diagrams", "isSeen", "(II)Z"⟩, 5) := ⟨⟨by decide +kernel, by decide +kernel⟩, List.mem_of_getElem? (i := 196) (by decide +kernel), List.mem_of_getElem? (i := 352) (by decide +kernel), List.mem_of_getElem? (i := 353) (by decide +kernel)⟩
theorem lw_p11 : lw_okq (⟨"java/lang/Throwable", "fillInStackTrace", "(I)Ljava/lang/Throwable;"⟩, 6) := ⟨⟨by decide +kernel, by decide +kernel⟩, List.mem_of_getElem? (i := 423) (by decide +kernel), List.mem_of_getElem? (i := 421) (by decide +kernel), List.mem_of_getElem? (i := 422) (by decide +kernel)⟩
theorem lw_p12 : lw_okq (⟨"CoverRows", "isColumn", "(I)Z"⟩, 11) := ⟨⟨by decide +kernel, by decide +kernel⟩, List.mem_of_getElem? (i := 21) (by decide +kernel), List.mem_of_getElem? (i := 537) (by decide +kernel), List.mem_of_getElem? (i := 538) (by decide +kernel)⟩
theorem lw_p13 : lw_okq (⟨"CoverRows$CoverFinder", "fillRows", "(LCoverRows$Terms;LCoverRows$Cubes;)V"⟩, 10) := ⟨⟨by decide +kernel, by decide +kernel⟩, List.mem_of_getElem? (i := 124) (by decide +kernel), List.mem_of_getElem? (i := 560) (by decide +kernel), List.mem_of_getElem? (i := 561) (by decide +kernel)⟩
theorem lw_p14 : lw_okq (⟨"CoverRows$CoverFinder", "weigh", "(I)J"⟩, 10) := ⟨⟨by decide +kernel, by decide +kernel⟩, List.mem_of_getElem? (i := 124) (by decide +kernel), List.mem_of_getElem? (i := 585) (by decide +kernel), List.mem_of_getElem? (i := 586) (by decide +kernel)⟩
theorem lw_p15 : lw_okq (⟨"CoverRows$CoverFinder", "haversOf", "(I)J"⟩, 10) := ⟨⟨by decide +kernel, by decide +kernel⟩, List.mem_of_getElem? (i := 124) (by decide +kernel), List.mem_of_getElem? (i := 590) (by decide +kernel), List.mem_of_getElem? (i := 591) (by decide +kernel)⟩
def lw_privs_1 : List (MethodName × Nat) := [(⟨"CoverRows$Products", "fillDigits", "(I)V"⟩, 5), (⟨"CoverRows$Products", "fillHad", "(I)V"⟩, 5), (⟨"CoverRows", "renewPrimes", "()V"⟩, 11), (⟨"CoverRows$PrimeFinder", "fillOuts", "(LCoverRows$Cubes;)V"⟩, 3), (⟨"CoverRows$Cubes", "hadByKind", "(II)I"⟩, 5), (⟨"CoverRows$PrimeFinder", "isWithinWider", "(I)Z"⟩, 3), (⟨"CoverRows$Diagrams", "fillAsked", "(I)V"⟩, 5), (⟨"CoverRows$Diagrams", "inputAfter", "(II)I"⟩, 5), (⟨"CoverRows$Diagrams", "reordered", "(I)I"⟩, 5), (⟨"CoverRows$Diagrams", "nodesOfLevel", "(I)I"⟩, 5), (⟨"CoverRows$Diagrams", "isSeen", "(II)Z"⟩, 5), (⟨"java/lang/Throwable", "fillInStackTrace", "(I)Ljava/lang/Throwable;"⟩, 6), (⟨"CoverRows", "isColumn", "(I)Z"⟩, 11), (⟨"CoverRows$CoverFinder", "fillRows", "(LCoverRows$Terms;LCoverRows$Cubes;)V"⟩, 10), (⟨"CoverRows$CoverFinder", "weigh", "(I)J"⟩, 10), (⟨"CoverRows$CoverFinder", "haversOf", "(I)J"⟩, 10)]
theorem lw_r1 : ∀ q ∈ lw_privs_1, lw_okq q := List.forall_mem_cons.mpr ⟨lw_p0, List.forall_mem_cons.mpr ⟨lw_p1, List.forall_mem_cons.mpr ⟨lw_p2, List.forall_mem_cons.mpr ⟨lw_p3, List.forall_mem_cons.mpr ⟨lw_p4, List.forall_mem_cons.mpr ⟨lw_p5, List.forall_mem_cons.mpr ⟨lw_p6, List.forall_mem_cons.mpr ⟨lw_p7, List.forall_mem_cons.mpr ⟨lw_p8, List.forall_mem_cons.mpr ⟨lw_p9, List.forall_mem_cons.mpr ⟨lw_p10, List.forall_mem_cons.mpr ⟨lw_p11, List.forall_mem_cons.mpr ⟨lw_p12, List.forall_mem_cons.mpr ⟨lw_p13, List.forall_mem_cons.mpr ⟨lw_p14, List.forall_mem_cons.mpr ⟨lw_p15, fun _ h => absurd h List.not_mem_nil⟩⟩⟩⟩⟩⟩⟩⟩⟩⟩⟩⟩⟩⟩⟩⟩
theorem lw_p16 : lw_okq (⟨"CoverRows$CoverFinder", "quickSet", "()J"⟩, 10) := ⟨⟨by decide +kernel, by decide +kernel⟩, List.mem_of_getElem? (i := 124) (by decide +kernel), List.mem_of_getElem? (i := 594) (by decide +kernel), List.mem_of_getElem? (i := 595) (by decide +kernel)⟩
theorem lw_p17 : lw_okq (⟨"CoverRows$CoverFinder", "quickPick", "(I)I"⟩, 10) := ⟨⟨by decide +kernel, by decide +kernel⟩, List.mem_of_getElem? (i := 124) (by decide +kernel), List.mem_of_getElem? (i := 598) (by decide +kernel), List.mem_of_getElem? (i := 599) (by decide +kernel)⟩
theorem lw_p18 : lw_okq (⟨"CoverRows$CoverFinder", "isCover", "(J)Z"⟩, 10) := ⟨⟨by decide +kernel, by decide +kernel⟩, List.mem_of_getElem? (i := 124) (by decide +kernel), List.mem_of_getElem? (i := 604) (by decide +kernel), List.mem_of_getElem? (i := 605) (by decide +kernel)⟩
theorem lw_p19 : lw_okq (⟨"CoverRows$CoverFinder", "weightOf", "(J)J"⟩, 10) := ⟨⟨by decide +kernel, by decide +kernel⟩, List.mem_of_getElem? (i := 124) (by decide +kernel), List.mem_of_getElem? (i := 611) (by decide +kernel), List.mem_of_getElem? (i := 612) (by decide +kernel)⟩
theorem lw_p20 : lw_okq (⟨"CoverRows$CoverFinder", "improve", "(IJJJI)V"⟩, 10) := ⟨⟨by decide +kernel, by decide +kernel⟩, List.mem_of_getElem? (i := 124) (by decide +kernel), List.mem_of_getElem? (i := 615) (by decide +kernel), List.mem_of_getElem? (i := 616) (by decide +kernel)⟩
theorem lw_p21 : lw_okq (⟨"CoverRows$CoverFinder", "keepIfLighter", "(JJ)V"⟩, 10) := ⟨⟨by decide +kernel, by decide +kernel⟩, List.mem_of_getElem? (i := 124) (by decide +kernel), List.mem_of_getElem? (i := 619) (by decide +kernel), List.mem_of_getElem? (i := 620) (by decide +kernel)⟩
theorem lw_p22 : lw_okq (⟨"CoverRows$CoverFinder", "rarestPoint", "(IJ)I"⟩, 10) := ⟨⟨by decide +kernel, by decide +kernel⟩, List.mem_of_getElem? (i := 124) (by decide +kernel), List.mem_of_getElem? (i := 623) (by decide +kernel), List.mem_of_getElem? (i := 624) (by decide +kernel)⟩
theorem lw_p23 : lw_okq (⟨"CoverRows$CoverFinder", "withoutDominated", "(IJ)J"⟩, 10) := ⟨⟨by decide +kernel, by decide +kernel⟩, List.mem_of_getElem? (i := 124) (by decide +kernel), List.mem_of_getElem? (i := 633) (by decide +kernel), List.mem_of_getElem? (i := 634) (by decide +kernel)⟩
theorem lw_p24 : lw_okq (⟨"CoverRows$CoverFinder", "isDominated", "(IIJ)Z"⟩, 10) := ⟨⟨by decide +kernel, by decide +kernel⟩, List.mem_of_getElem? (i := 124) (by decide +kernel), List.mem_of_getElem? (i := 637) (by decide +kernel), List.mem_of_getElem? (i := 638) (by decide +kernel)⟩
theorem lw_p25 : lw_okq (⟨"CoverRows$CoverFinder", "leastWeight", "(IJ)J"⟩, 10) := ⟨⟨by decide +kernel, by decide +kernel⟩, List.mem_of_getElem? (i := 124) (by decide +kernel), List.mem_of_getElem? (i := 641) (by decide +kernel), List.mem_of_getElem? (i := 642) (by decide +kernel)⟩
theorem lw_p26 : lw_okq (⟨"CoverRows$CoverFinder", "tryHavers", "(JIJJJI)V"⟩, 10) := ⟨⟨by decide +kernel, by decide +kernel⟩, List.mem_of_getElem? (i := 124) (by decide +kernel), List.mem_of_getElem? (i := 649) (by decide +kernel), List.mem_of_getElem? (i := 650) (by decide +kernel)⟩
theorem lw_p27 : lw_okq (⟨"CoverRows", "needKept", "()V"⟩, 11) := ⟨⟨by decide +kernel, by decide +kernel⟩, List.mem_of_getElem? (i := 21) (by decide +kernel), List.mem_of_getElem? (i := 675) (by decide +kernel), List.mem_of_getElem? (i := 676) (by decide +kernel)⟩
theorem lw_p28 : lw_okq (⟨"CoverRows$Division", "divideBy", "(LCoverRows$Terms;I)V"⟩, 9) := ⟨⟨by decide +kernel, by decide +kernel⟩, List.mem_of_getElem? (i := 162) (by decide +kernel), List.mem_of_getElem? (i := 716) (by decide +kernel), List.mem_of_getElem? (i := 717) (by decide +kernel)⟩
theorem lw_p29 : lw_okq (⟨"CoverRows$Division", "addProduct", "(II)V"⟩, 9) := ⟨⟨by decide +kernel, by decide +kernel⟩, List.mem_of_getElem? (i := 162) (by decide +kernel), List.mem_of_getElem? (i := 730) (by decide +kernel), List.mem_of_getElem? (i := 731) (by decide +kernel)⟩
theorem lw_p30 : lw_okq (⟨"CoverRows$Division", "isKernel", "()Z"⟩, 9) := ⟨⟨by decide +kernel, by decide +kernel⟩, List.mem_of_getElem? (i := 162) (by decide +kernel), List.mem_of_getElem? (i := 735) (by decide +kernel), List.mem_of_getElem? (i := 736) (by decide +kernel)⟩
theorem lw_p31 : lw_okq (⟨"CoverRows$Division", "isKnown", "(I)Z"⟩, 9) := ⟨⟨by decide +kernel, by decide +kernel⟩, List.mem_of_getElem? (i := 162) (by decide +kernel), List.mem_of_getElem? (i := 740) (by decide +kernel), List.mem_of_getElem? (i := 741) (by decide +kernel)⟩
def lw_privs_2 : List (MethodName × Nat) := [(⟨"CoverRows$CoverFinder", "quickSet", "()J"⟩, 10), (⟨"CoverRows$CoverFinder", "quickPick", "(I)I"⟩, 10), (⟨"CoverRows$CoverFinder", "isCover", "(J)Z"⟩, 10), (⟨"CoverRows$CoverFinder", "weightOf", "(J)J"⟩, 10), (⟨"CoverRows$CoverFinder", "improve", "(IJJJI)V"⟩, 10), (⟨"CoverRows$CoverFinder", "keepIfLighter", "(JJ)V"⟩, 10), (⟨"CoverRows$CoverFinder", "rarestPoint", "(IJ)I"⟩, 10), (⟨"CoverRows$CoverFinder", "withoutDominated", "(IJ)J"⟩, 10), (⟨"CoverRows$CoverFinder", "isDominated", "(IIJ)Z"⟩, 10), (⟨"CoverRows$CoverFinder", "leastWeight", "(IJ)J"⟩, 10), (⟨"CoverRows$CoverFinder", "tryHavers", "(JIJJJI)V"⟩, 10), (⟨"CoverRows", "needKept", "()V"⟩, 11), (⟨"CoverRows$Division", "divideBy", "(LCoverRows$Terms;I)V"⟩, 9), (⟨"CoverRows$Division", "addProduct", "(II)V"⟩, 9), (⟨"CoverRows$Division", "isKernel", "()Z"⟩, 9), (⟨"CoverRows$Division", "isKnown", "(I)Z"⟩, 9)]
theorem lw_r2 : ∀ q ∈ lw_privs_2, lw_okq q := List.forall_mem_cons.mpr ⟨lw_p16, List.forall_mem_cons.mpr ⟨lw_p17, List.forall_mem_cons.mpr ⟨lw_p18, List.forall_mem_cons.mpr ⟨lw_p19, List.forall_mem_cons.mpr ⟨lw_p20, List.forall_mem_cons.mpr ⟨lw_p21, List.forall_mem_cons.mpr ⟨lw_p22, List.forall_mem_cons.mpr ⟨lw_p23, List.forall_mem_cons.mpr ⟨lw_p24, List.forall_mem_cons.mpr ⟨lw_p25, List.forall_mem_cons.mpr ⟨lw_p26, List.forall_mem_cons.mpr ⟨lw_p27, List.forall_mem_cons.mpr ⟨lw_p28, List.forall_mem_cons.mpr ⟨lw_p29, List.forall_mem_cons.mpr ⟨lw_p30, List.forall_mem_cons.mpr ⟨lw_p31, fun _ h => absurd h List.not_mem_nil⟩⟩⟩⟩⟩⟩⟩⟩⟩⟩⟩⟩⟩⟩⟩⟩
theorem lw_p32 : lw_okq (⟨"CoverRows$Division", "fillRow", "(JJ)V"⟩, 9) := ⟨⟨by decide +kernel, by decide +kernel⟩, List.mem_of_getElem? (i := 162) (by decide +kernel), List.mem_of_getElem? (i := 760) (by decide +kernel), List.mem_of_getElem? (i := 761) (by decide +kernel)⟩
theorem lw_p33 : lw_okq (⟨"CoverRowsModel", "findPrimes", "()V"⟩, 25) := ⟨⟨by decide +kernel, by decide +kernel⟩, List.mem_of_getElem? (i := 810) (by decide +kernel), List.mem_of_getElem? (i := 912) (by decide +kernel), List.mem_of_getElem? (i := 913) (by decide +kernel)⟩
theorem lw_p34 : lw_okq (⟨"CoverRowsModel", "work", "()V"⟩, 25) := ⟨⟨by decide +kernel, by decide +kernel⟩, List.mem_of_getElem? (i := 810) (by decide +kernel), List.mem_of_getElem? (i := 916) (by decide +kernel), List.mem_of_getElem? (i := 917) (by decide +kernel)⟩
theorem lw_p35 : lw_okq (⟨"CoverRowsModel", "points", "(I)I"⟩, 25) := ⟨⟨by decide +kernel, by decide +kernel⟩, List.mem_of_getElem? (i := 810) (by decide +kernel), List.mem_of_getElem? (i := 920) (by decide +kernel), List.mem_of_getElem? (i := 921) (by decide +kernel)⟩
theorem lw_p36 : lw_okq (⟨"CoverRowsModel", "digit", "(II)I"⟩, 25) := ⟨⟨by decide +kernel, by decide +kernel⟩, List.mem_of_getElem? (i := 810) (by decide +kernel), List.mem_of_getElem? (i := 924) (by decide +kernel), List.mem_of_getElem? (i := 925) (by decide +kernel)⟩
theorem lw_p37 : lw_okq (⟨"CoverRowsModel", "outputsOf", "(I)I"⟩, 25) := ⟨⟨by decide +kernel, by decide +kernel⟩, List.mem_of_getElem? (i := 810) (by decide +kernel), List.mem_of_getElem? (i := 928) (by decide +kernel), List.mem_of_getElem? (i := 929) (by decide +kernel)⟩
theorem lw_p38 : lw_okq (⟨"CoverRowsModel", "costOf", "(II)I"⟩, 25) := ⟨⟨by decide +kernel, by decide +kernel⟩, List.mem_of_getElem? (i := 810) (by decide +kernel), List.mem_of_getElem? (i := 932) (by decide +kernel), List.mem_of_getElem? (i := 933) (by decide +kernel)⟩
theorem lw_p39 : lw_okq (⟨"CoverRowsModel", "exact", "(I)I"⟩, 25) := ⟨⟨by decide +kernel, by decide +kernel⟩, List.mem_of_getElem? (i := 810) (by decide +kernel), List.mem_of_getElem? (i := 944) (by decide +kernel), List.mem_of_getElem? (i := 945) (by decide +kernel)⟩
theorem lw_p40 : lw_okq (⟨"CoverRowsModel", "tryAll", "(II)Z"⟩, 25) := ⟨⟨by decide +kernel, by decide +kernel⟩, List.mem_of_getElem? (i := 810) (by decide +kernel), List.mem_of_getElem? (i := 948) (by decide +kernel), List.mem_of_getElem? (i := 949) (by decide +kernel)⟩
theorem lw_p41 : lw_okq (⟨"CoverRowsModel", "quick", "(I)I"⟩, 25) := ⟨⟨by decide +kernel, by decide +kernel⟩, List.mem_of_getElem? (i := 810) (by decide +kernel), List.mem_of_getElem? (i := 952) (by decide +kernel), List.mem_of_getElem? (i := 953) (by decide +kernel)⟩
theorem lw_p42 : lw_okq (⟨"CoverRowsModel", "keptPoints", "(I)I"⟩, 25) := ⟨⟨by decide +kernel, by decide +kernel⟩, List.mem_of_getElem? (i := 810) (by decide +kernel), List.mem_of_getElem? (i := 975) (by decide +kernel), List.mem_of_getElem? (i := 976) (by decide +kernel)⟩
theorem lw_p43 : lw_okq (⟨"CoverRowsModel", "isIn", "(II)Z"⟩, 25) := ⟨⟨by decide +kernel, by decide +kernel⟩, List.mem_of_getElem? (i := 810) (by decide +kernel), List.mem_of_getElem? (i := 987) (by decide +kernel), List.mem_of_getElem? (i := 988) (by decide +kernel)⟩
theorem lw_p44 : lw_okq (⟨"CoverRowsModel", "divided", "(II)I"⟩, 25) := ⟨⟨by decide +kernel, by decide +kernel⟩, List.mem_of_getElem? (i := 810) (by decide +kernel), List.mem_of_getElem? (i := 991) (by decide +kernel), List.mem_of_getElem? (i := 992) (by decide +kernel)⟩
theorem lw_p45 : lw_okq (⟨"CoverRowsModel", "isKernel", "(I)Z"⟩, 25) := ⟨⟨by decide +kernel, by decide +kernel⟩, List.mem_of_getElem? (i := 810) (by decide +kernel), List.mem_of_getElem? (i := 1003) (by decide +kernel), List.mem_of_getElem? (i := 1004) (by decide +kernel)⟩
theorem lw_p46 : lw_okq (⟨"CoverRowsModel", "orders", "()I"⟩, 25) := ⟨⟨by decide +kernel, by decide +kernel⟩, List.mem_of_getElem? (i := 810) (by decide +kernel), List.mem_of_getElem? (i := 1011) (by decide +kernel), List.mem_of_getElem? (i := 1012) (by decide +kernel)⟩
theorem lw_p47 : lw_okq (⟨"CoverRowsModel", "nodes", "(I)I"⟩, 25) := ⟨⟨by decide +kernel, by decide +kernel⟩, List.mem_of_getElem? (i := 810) (by decide +kernel), List.mem_of_getElem? (i := 1015) (by decide +kernel), List.mem_of_getElem? (i := 1016) (by decide +kernel)⟩
def lw_privs_3 : List (MethodName × Nat) := [(⟨"CoverRows$Division", "fillRow", "(JJ)V"⟩, 9), (⟨"CoverRowsModel", "findPrimes", "()V"⟩, 25), (⟨"CoverRowsModel", "work", "()V"⟩, 25), (⟨"CoverRowsModel", "points", "(I)I"⟩, 25), (⟨"CoverRowsModel", "digit", "(II)I"⟩, 25), (⟨"CoverRowsModel", "outputsOf", "(I)I"⟩, 25), (⟨"CoverRowsModel", "costOf", "(II)I"⟩, 25), (⟨"CoverRowsModel", "exact", "(I)I"⟩, 25), (⟨"CoverRowsModel", "tryAll", "(II)Z"⟩, 25), (⟨"CoverRowsModel", "quick", "(I)I"⟩, 25), (⟨"CoverRowsModel", "keptPoints", "(I)I"⟩, 25), (⟨"CoverRowsModel", "isIn", "(II)Z"⟩, 25), (⟨"CoverRowsModel", "divided", "(II)I"⟩, 25), (⟨"CoverRowsModel", "isKernel", "(I)Z"⟩, 25), (⟨"CoverRowsModel", "orders", "()I"⟩, 25), (⟨"CoverRowsModel", "nodes", "(I)I"⟩, 25)]
theorem lw_r3 : ∀ q ∈ lw_privs_3, lw_okq q := List.forall_mem_cons.mpr ⟨lw_p32, List.forall_mem_cons.mpr ⟨lw_p33, List.forall_mem_cons.mpr ⟨lw_p34, List.forall_mem_cons.mpr ⟨lw_p35, List.forall_mem_cons.mpr ⟨lw_p36, List.forall_mem_cons.mpr ⟨lw_p37, List.forall_mem_cons.mpr ⟨lw_p38, List.forall_mem_cons.mpr ⟨lw_p39, List.forall_mem_cons.mpr ⟨lw_p40, List.forall_mem_cons.mpr ⟨lw_p41, List.forall_mem_cons.mpr ⟨lw_p42, List.forall_mem_cons.mpr ⟨lw_p43, List.forall_mem_cons.mpr ⟨lw_p44, List.forall_mem_cons.mpr ⟨lw_p45, List.forall_mem_cons.mpr ⟨lw_p46, List.forall_mem_cons.mpr ⟨lw_p47, fun _ h => absurd h List.not_mem_nil⟩⟩⟩⟩⟩⟩⟩⟩⟩⟩⟩⟩⟩⟩⟩⟩
theorem lw_p48 : lw_okq (⟨"CoverRowsModel", "inputAt", "(II)I"⟩, 25) := ⟨⟨by decide +kernel, by decide +kernel⟩, List.mem_of_getElem? (i := 810) (by decide +kernel), List.mem_of_getElem? (i := 1019) (by decide +kernel), List.mem_of_getElem? (i := 1020) (by decide +kernel)⟩
theorem lw_p49 : lw_okq (⟨"CoverRowsModel", "part", "(IIII)I"⟩, 25) := ⟨⟨by decide +kernel, by decide +kernel⟩, List.mem_of_getElem? (i := 810) (by decide +kernel), List.mem_of_getElem? (i := 1023) (by decide +kernel), List.mem_of_getElem? (i := 1024) (by decide +kernel)⟩
theorem lw_p50 : lw_okq (⟨"CoverRowsModel", "asks", "(II)Z"⟩, 25) := ⟨⟨by decide +kernel, by decide +kernel⟩, List.mem_of_getElem? (i := 810) (by decide +kernel), List.mem_of_getElem? (i := 1027) (by decide +kernel), List.mem_of_getElem? (i := 1028) (by decide +kernel)⟩
def lw_privs_4 : List (MethodName × Nat) := [(⟨"CoverRowsModel", "inputAt", "(II)I"⟩, 25), (⟨"CoverRowsModel", "part", "(IIII)I"⟩, 25), (⟨"CoverRowsModel", "asks", "(II)Z"⟩, 25)]
theorem lw_r4 : ∀ q ∈ lw_privs_4, lw_okq q := List.forall_mem_cons.mpr ⟨lw_p48, List.forall_mem_cons.mpr ⟨lw_p49, List.forall_mem_cons.mpr ⟨lw_p50, fun _ h => absurd h List.not_mem_nil⟩⟩⟩
def lw_privs : List (MethodName × Nat) := lw_privs_1 ++ (lw_privs_2 ++ (lw_privs_3 ++ (lw_privs_4)))
def lw_tbl : List Cond := k2_sels lw_privs ++ tables_1
theorem lw_privs_ok : ∀ q ∈ lw_privs, lw_okq q := by
  show ∀ q ∈ lw_privs_1 ++ (lw_privs_2 ++ (lw_privs_3 ++ (lw_privs_4))), lw_okq q
  exact List.forall_mem_append.mpr ⟨lw_r1, List.forall_mem_append.mpr ⟨lw_r2, List.forall_mem_append.mpr ⟨lw_r3, lw_r4⟩⟩⟩
def lwg : List Cond := lw_tbl.filter goodWord
theorem lw_in {i : Nat} {w : Cond} (h : tables_1[i]? = some w) (hg : goodWord w = true) : w ∈ lwg := List.mem_filter.mpr ⟨List.mem_append_right _ (List.mem_of_getElem? h), hg⟩
theorem lwg_good : ∀ w ∈ lwg, goodWord w = true := fun w h => (List.mem_filter.mp h).2
theorem lwg_in : ∀ w ∈ lwg, w ∈ lw_tbl := fun w h => (List.mem_filter.mp h).1
end
section
theorem mw_ini_Law : (Cond.initialized "CoverRowsLaw" : Cond) ∈ lwg := lw_in (i := 0) (by decide +kernel) (by decide +kernel)
theorem mw_ini_Main : (Cond.initialized "CoverRows" : Cond) ∈ lwg := lw_in (i := 1) (by decide +kernel) (by decide +kernel)
theorem mw_ini_JMath : (Cond.initialized "java/lang/Math" : Cond) ∈ lwg := lw_in (i := 2) (by decide +kernel) (by decide +kernel)
theorem mw_ini_Products : (Cond.initialized "CoverRows$Products" : Cond) ∈ lwg := lw_in (i := 3) (by decide +kernel) (by decide +kernel)
theorem mw_ini_Cubes : (Cond.initialized "CoverRows$Cubes" : Cond) ∈ lwg := lw_in (i := 4) (by decide +kernel) (by decide +kernel)
theorem mw_ini_Terms : (Cond.initialized "CoverRows$Terms" : Cond) ∈ lwg := lw_in (i := 5) (by decide +kernel) (by decide +kernel)
theorem mw_ini_PrimeFinder : (Cond.initialized "CoverRows$PrimeFinder" : Cond) ∈ lwg := lw_in (i := 6) (by decide +kernel) (by decide +kernel)
theorem mw_ini_CoverFinder : (Cond.initialized "CoverRows$CoverFinder" : Cond) ∈ lwg := lw_in (i := 7) (by decide +kernel) (by decide +kernel)
theorem mw_ini_Division : (Cond.initialized "CoverRows$Division" : Cond) ∈ lwg := lw_in (i := 8) (by decide +kernel) (by decide +kernel)
theorem mw_ini_Diagrams : (Cond.initialized "CoverRows$Diagrams" : Cond) ∈ lwg := lw_in (i := 9) (by decide +kernel) (by decide +kernel)
theorem mw_ini_Ref : (Cond.initialized "CoverRowsModel" : Cond) ∈ lwg := lw_in (i := 10) (by decide +kernel) (by decide +kernel)
theorem mw_ini_JThrowable : (Cond.initialized "java/lang/Throwable" : Cond) ∈ lwg := lw_in (i := 11) (by decide +kernel) (by decide +kernel)
theorem mw_ini_JException : (Cond.initialized "java/lang/Exception" : Cond) ∈ lwg := lw_in (i := 12) (by decide +kernel) (by decide +kernel)
theorem mw_ini_JRuntimeException : (Cond.initialized "java/lang/RuntimeException" : Cond) ∈ lwg := lw_in (i := 13) (by decide +kernel) (by decide +kernel)
theorem mw_ini_JUnsupportedOperationException : (Cond.initialized "java/lang/UnsupportedOperationException" : Cond) ∈ lwg := lw_in (i := 14) (by decide +kernel) (by decide +kernel)
theorem mw_ini_JIndexOutOfBoundsException : (Cond.initialized "java/lang/IndexOutOfBoundsException" : Cond) ∈ lwg := lw_in (i := 15) (by decide +kernel) (by decide +kernel)
theorem mw_ini_JIllegalArgumentException : (Cond.initialized "java/lang/IllegalArgumentException" : Cond) ∈ lwg := lw_in (i := 16) (by decide +kernel) (by decide +kernel)
theorem mw_ini_JInteger : (Cond.initialized "java/lang/Integer" : Cond) ∈ lwg := lw_in (i := 17) (by decide +kernel) (by decide +kernel)
theorem mw_ini_JLong : (Cond.initialized "java/lang/Long" : Cond) ∈ lwg := lw_in (i := 18) (by decide +kernel) (by decide +kernel)
theorem mw_ini_JIllegalStateException : (Cond.initialized "java/lang/IllegalStateException" : Cond) ∈ lwg := lw_in (i := 19) (by decide +kernel) (by decide +kernel)
theorem mw_cl_Law_8 : (Cond.classLink "CoverRowsLaw" (8 : Nat) "CoverRows" : Cond) ∈ lwg := lw_in (i := 20) (by decide +kernel) (by decide +kernel)
theorem mw_ins_Main : (Cond.instantiable "CoverRows" (11 : Nat) : Cond) ∈ lwg := lw_in (i := 21) (by decide +kernel) (by decide +kernel)
theorem mw_ml_Law_70 : (Cond.methodLink "CoverRowsLaw" (70 : Nat) ({ cls := "CoverRows", name := "<init>", desc := "(II)V" } : MethodName) : Cond) ∈ lwg := lw_in (i := 22) (by decide +kernel) (by decide +kernel)
theorem mw_im_Main_init : (Cond.instanceMethod ({ cls := "CoverRows", name := "<init>", desc := "(II)V" } : MethodName) : Cond) ∈ lwg := lw_in (i := 23) (by decide +kernel) (by decide +kernel)
theorem mw_code_Main_init : (Cond.code ({ cls := "CoverRows", name := "<init>", desc := "(II)V" } : MethodName) prog_1_method_1_code (4 : Nat) (Option.none : Option FieldType) : Cond) ∈ lwg := lw_in (i := 24) (by decide +kernel) (by decide +kernel)
theorem mw_ml_Main_1 : (Cond.methodLink "CoverRows" (1 : Nat) ({ cls := "java/lang/Object", name := "<init>", desc := "()V" } : MethodName) : Cond) ∈ lwg := lw_in (i := 25) (by decide +kernel) (by decide +kernel)
theorem mw_im_JObject_init_V : (Cond.instanceMethod ({ cls := "java/lang/Object", name := "<init>", desc := "()V" } : MethodName) : Cond) ∈ lwg := lw_in (i := 26) (by decide +kernel) (by decide +kernel)
theorem mw_code_JObject_init_V : (Cond.code ({ cls := "java/lang/Object", name := "<init>", desc := "()V" } : MethodName) object_method_1_code (1 : Nat) (Option.none : Option FieldType) : Cond) ∈ lwg := lw_in (i := 27) (by decide +kernel) (by decide +kernel)
theorem mw_ml_Main_9 : (Cond.methodLink "CoverRows" (9 : Nat) ({ cls := "java/lang/Math", name := "min", desc := "(II)I" } : MethodName) : Cond) ∈ lwg := lw_in (i := 28) (by decide +kernel) (by decide +kernel)
theorem mw_st_JMath_min_III : (Cond.static ({ cls := "java/lang/Math", name := "min", desc := "(II)I" } : MethodName) : Cond) ∈ lwg := lw_in (i := 29) (by decide +kernel) (by decide +kernel)
theorem mw_code_JMath_min_III : (Cond.code ({ cls := "java/lang/Math", name := "min", desc := "(II)I" } : MethodName) prog_17_method_69_code (2 : Nat) (Option.some FieldType.int) : Cond) ∈ lwg := lw_in (i := 30) (by decide +kernel) (by decide +kernel)
theorem mw_ml_Main_15 : (Cond.methodLink "CoverRows" (15 : Nat) ({ cls := "java/lang/Math", name := "max", desc := "(II)I" } : MethodName) : Cond) ∈ lwg := lw_in (i := 31) (by decide +kernel) (by decide +kernel)
theorem mw_st_JMath_max_III : (Cond.static ({ cls := "java/lang/Math", name := "max", desc := "(II)I" } : MethodName) : Cond) ∈ lwg := lw_in (i := 32) (by decide +kernel) (by decide +kernel)
theorem mw_code_JMath_max_III : (Cond.code ({ cls := "java/lang/Math", name := "max", desc := "(II)I" } : MethodName) prog_17_method_65_code (2 : Nat) (Option.some FieldType.int) : Cond) ∈ lwg := lw_in (i := 33) (by decide +kernel) (by decide +kernel)
theorem mw_cl_Main_25 : (Cond.classLink "CoverRows" (25 : Nat) "CoverRows$Products" : Cond) ∈ lwg := lw_in (i := 34) (by decide +kernel) (by decide +kernel)
theorem mw_ins_Products : (Cond.instantiable "CoverRows$Products" (5 : Nat) : Cond) ∈ lwg := lw_in (i := 35) (by decide +kernel) (by decide +kernel)
theorem mw_ml_Main_27 : (Cond.methodLink "CoverRows" (27 : Nat) ({ cls := "CoverRows$Products", name := "<init>", desc := "(I)V" } : MethodName) : Cond) ∈ lwg := lw_in (i := 36) (by decide +kernel) (by decide +kernel)
theorem mw_im_Products_init : (Cond.instanceMethod ({ cls := "CoverRows$Products", name := "<init>", desc := "(I)V" } : MethodName) : Cond) ∈ lwg := lw_in (i := 37) (by decide +kernel) (by decide +kernel)
theorem mw_code_Products_init : (Cond.code ({ cls := "CoverRows$Products", name := "<init>", desc := "(I)V" } : MethodName) prog_7_method_1_code (4 : Nat) (Option.none : Option FieldType) : Cond) ∈ lwg := lw_in (i := 38) (by decide +kernel) (by decide +kernel)
theorem mw_ml_Products_3 : (Cond.methodLink "CoverRows$Products" (3 : Nat) ({ cls := "java/lang/Object", name := "<init>", desc := "()V" } : MethodName) : Cond) ∈ lwg := lw_in (i := 39) (by decide +kernel) (by decide +kernel)
theorem mw_ml_Products_25 : (Cond.methodLink "CoverRows$Products" (25 : Nat) ({ cls := "java/lang/Math", name := "min", desc := "(II)I" } : MethodName) : Cond) ∈ lwg := lw_in (i := 40) (by decide +kernel) (by decide +kernel)
theorem mw_ml_Products_34 : (Cond.methodLink "CoverRows$Products" (34 : Nat) ({ cls := "CoverRows$Products", name := "fillDigits", desc := "(I)V" } : MethodName) : Cond) ∈ lwg := lw_in (i := 41) (by decide +kernel) (by decide +kernel)
theorem mw_im_Products_fillDigits : (Cond.instanceMethod ({ cls := "CoverRows$Products", name := "fillDigits", desc := "(I)V" } : MethodName) : Cond) ∈ lwg := lw_in (i := 43) (by decide +kernel) (by decide +kernel)
theorem mw_code_Products_fillDigits : (Cond.code ({ cls := "CoverRows$Products", name := "fillDigits", desc := "(I)V" } : MethodName) prog_7_method_2_code (5 : Nat) (Option.none : Option FieldType) : Cond) ∈ lwg := lw_in (i := 44) (by decide +kernel) (by decide +kernel)
theorem mw_ml_Products_38 : (Cond.methodLink "CoverRows$Products" (38 : Nat) ({ cls := "CoverRows$Products", name := "fillHad", desc := "(I)V" } : MethodName) : Cond) ∈ lwg := lw_in (i := 45) (by decide +kernel) (by decide +kernel)
theorem mw_im_Products_fillHad : (Cond.instanceMethod ({ cls := "CoverRows$Products", name := "fillHad", desc := "(I)V" } : MethodName) : Cond) ∈ lwg := lw_in (i := 47) (by decide +kernel) (by decide +kernel)
theorem mw_code_Products_fillHad : (Cond.code ({ cls := "CoverRows$Products", name := "fillHad", desc := "(I)V" } : MethodName) prog_7_method_3_code (3 : Nat) (Option.none : Option FieldType) : Cond) ∈ lwg := lw_in (i := 48) (by decide +kernel) (by decide +kernel)
theorem mw_fl_Products_21 : (Cond.fieldLink "CoverRows$Products" (21 : Nat) "CoverRows$Products" "inputs" "I" : Cond) ∈ lwg := lw_in (i := 49) (by decide +kernel) (by decide +kernel)
theorem mw_fl_Products_31 : (Cond.fieldLink "CoverRows$Products" (31 : Nat) "CoverRows$Products" "size" "I" : Cond) ∈ lwg := lw_in (i := 50) (by decide +kernel) (by decide +kernel)
theorem mw_fl_Products_9 : (Cond.fieldLink "CoverRows$Products" (9 : Nat) "CoverRows$Products" "care" "[I" : Cond) ∈ lwg := lw_in (i := 51) (by decide +kernel) (by decide +kernel)
theorem mw_fl_Products_15 : (Cond.fieldLink "CoverRows$Products" (15 : Nat) "CoverRows$Products" "bits" "[I" : Cond) ∈ lwg := lw_in (i := 52) (by decide +kernel) (by decide +kernel)
theorem mw_fl_Products_18 : (Cond.fieldLink "CoverRows$Products" (18 : Nat) "CoverRows$Products" "had" "[I" : Cond) ∈ lwg := lw_in (i := 53) (by decide +kernel) (by decide +kernel)
theorem mw_arr_int : (Cond.arrayClass FieldType.int : Cond) ∈ lwg := lw_in (i := 65) (by decide +kernel) (by decide +kernel)
theorem mw_cl_Main_30 : (Cond.classLink "CoverRows" (30 : Nat) "CoverRows$Cubes" : Cond) ∈ lwg := lw_in (i := 66) (by decide +kernel) (by decide +kernel)
theorem mw_ins_Cubes : (Cond.instantiable "CoverRows$Cubes" (5 : Nat) : Cond) ∈ lwg := lw_in (i := 67) (by decide +kernel) (by decide +kernel)
theorem mw_ml_Main_32 : (Cond.methodLink "CoverRows" (32 : Nat) ({ cls := "CoverRows$Cubes", name := "<init>", desc := "(LCoverRows$Products;I)V" } : MethodName) : Cond) ∈ lwg := lw_in (i := 68) (by decide +kernel) (by decide +kernel)
theorem mw_im_Cubes_init : (Cond.instanceMethod ({ cls := "CoverRows$Cubes", name := "<init>", desc := "(LCoverRows$Products;I)V" } : MethodName) : Cond) ∈ lwg := lw_in (i := 69) (by decide +kernel) (by decide +kernel)
theorem mw_code_Cubes_init : (Cond.code ({ cls := "CoverRows$Cubes", name := "<init>", desc := "(LCoverRows$Products;I)V" } : MethodName) prog_3_method_1_code (3 : Nat) (Option.none : Option FieldType) : Cond) ∈ lwg := lw_in (i := 70) (by decide +kernel) (by decide +kernel)
theorem mw_ml_Cubes_3 : (Cond.methodLink "CoverRows$Cubes" (3 : Nat) ({ cls := "java/lang/Object", name := "<init>", desc := "()V" } : MethodName) : Cond) ∈ lwg := lw_in (i := 71) (by decide +kernel) (by decide +kernel)
theorem mw_fl_Cubes_18 : (Cond.fieldLink "CoverRows$Cubes" (18 : Nat) "CoverRows$Cubes" "products" "LCoverRows$Products;" : Cond) ∈ lwg := lw_in (i := 72) (by decide +kernel) (by decide +kernel)
theorem mw_fl_Cubes_22 : (Cond.fieldLink "CoverRows$Cubes" (22 : Nat) "CoverRows$Cubes" "outputs" "I" : Cond) ∈ lwg := lw_in (i := 73) (by decide +kernel) (by decide +kernel)
theorem mw_fl_Cubes_9 : (Cond.fieldLink "CoverRows$Cubes" (9 : Nat) "CoverRows$Cubes" "product" "[I" : Cond) ∈ lwg := lw_in (i := 74) (by decide +kernel) (by decide +kernel)
theorem mw_fl_Cubes_15 : (Cond.fieldLink "CoverRows$Cubes" (15 : Nat) "CoverRows$Cubes" "kind" "[I" : Cond) ∈ lwg := lw_in (i := 75) (by decide +kernel) (by decide +kernel)
theorem mw_fl_Cubes_26 : (Cond.fieldLink "CoverRows$Cubes" (26 : Nat) "CoverRows$Cubes" "size" "I" : Cond) ∈ lwg := lw_in (i := 76) (by decide +kernel) (by decide +kernel)
theorem mw_cl_Main_39 : (Cond.classLink "CoverRows" (39 : Nat) "CoverRows$Terms" : Cond) ∈ lwg := lw_in (i := 88) (by decide +kernel) (by decide +kernel)
theorem mw_ins_Terms : (Cond.instantiable "CoverRows$Terms" (4 : Nat) : Cond) ∈ lwg := lw_in (i := 89) (by decide +kernel) (by decide +kernel)
theorem mw_ml_Main_41 : (Cond.methodLink "CoverRows" (41 : Nat) ({ cls := "CoverRows$Terms", name := "<init>", desc := "(LCoverRows$Products;)V" } : MethodName) : Cond) ∈ lwg := lw_in (i := 90) (by decide +kernel) (by decide +kernel)
theorem mw_im_Terms_init : (Cond.instanceMethod ({ cls := "CoverRows$Terms", name := "<init>", desc := "(LCoverRows$Products;)V" } : MethodName) : Cond) ∈ lwg := lw_in (i := 91) (by decide +kernel) (by decide +kernel)
theorem mw_code_Terms_init : (Cond.code ({ cls := "CoverRows$Terms", name := "<init>", desc := "(LCoverRows$Products;)V" } : MethodName) prog_8_method_1_code (2 : Nat) (Option.none : Option FieldType) : Cond) ∈ lwg := lw_in (i := 92) (by decide +kernel) (by decide +kernel)
theorem mw_ml_Terms_3 : (Cond.methodLink "CoverRows$Terms" (3 : Nat) ({ cls := "java/lang/Object", name := "<init>", desc := "()V" } : MethodName) : Cond) ∈ lwg := lw_in (i := 93) (by decide +kernel) (by decide +kernel)
theorem mw_fl_Terms_18 : (Cond.fieldLink "CoverRows$Terms" (18 : Nat) "CoverRows$Terms" "products" "LCoverRows$Products;" : Cond) ∈ lwg := lw_in (i := 94) (by decide +kernel) (by decide +kernel)
theorem mw_fl_Terms_9 : (Cond.fieldLink "CoverRows$Terms" (9 : Nat) "CoverRows$Terms" "product" "[I" : Cond) ∈ lwg := lw_in (i := 95) (by decide +kernel) (by decide +kernel)
theorem mw_fl_Terms_15 : (Cond.fieldLink "CoverRows$Terms" (15 : Nat) "CoverRows$Terms" "outs" "[I" : Cond) ∈ lwg := lw_in (i := 96) (by decide +kernel) (by decide +kernel)
theorem mw_fl_Terms_22 : (Cond.fieldLink "CoverRows$Terms" (22 : Nat) "CoverRows$Terms" "size" "I" : Cond) ∈ lwg := lw_in (i := 97) (by decide +kernel) (by decide +kernel)
theorem mw_cl_Main_48 : (Cond.classLink "CoverRows" (48 : Nat) "CoverRows$PrimeFinder" : Cond) ∈ lwg := lw_in (i := 107) (by decide +kernel) (by decide +kernel)
theorem mw_ins_PrimeFinder : (Cond.instantiable "CoverRows$PrimeFinder" (3 : Nat) : Cond) ∈ lwg := lw_in (i := 108) (by decide +kernel) (by decide +kernel)
theorem mw_ml_Main_50 : (Cond.methodLink "CoverRows" (50 : Nat) ({ cls := "CoverRows$PrimeFinder", name := "<init>", desc := "(LCoverRows$Products;I)V" } : MethodName) : Cond) ∈ lwg := lw_in (i := 109) (by decide +kernel) (by decide +kernel)
theorem mw_im_PrimeFinder_init : (Cond.instanceMethod ({ cls := "CoverRows$PrimeFinder", name := "<init>", desc := "(LCoverRows$Products;I)V" } : MethodName) : Cond) ∈ lwg := lw_in (i := 110) (by decide +kernel) (by decide +kernel)
theorem mw_code_PrimeFinder_init : (Cond.code ({ cls := "CoverRows$PrimeFinder", name := "<init>", desc := "(LCoverRows$Products;I)V" } : MethodName) prog_6_method_1_code (3 : Nat) (Option.none : Option FieldType) : Cond) ∈ lwg := lw_in (i := 111) (by decide +kernel) (by decide +kernel)
theorem mw_ml_PrimeFinder_3 : (Cond.methodLink "CoverRows$PrimeFinder" (3 : Nat) ({ cls := "java/lang/Object", name := "<init>", desc := "()V" } : MethodName) : Cond) ∈ lwg := lw_in (i := 112) (by decide +kernel) (by decide +kernel)
theorem mw_fl_PrimeFinder_15 : (Cond.fieldLink "CoverRows$PrimeFinder" (15 : Nat) "CoverRows$PrimeFinder" "products" "LCoverRows$Products;" : Cond) ∈ lwg := lw_in (i := 113) (by decide +kernel) (by decide +kernel)
theorem mw_fl_PrimeFinder_19 : (Cond.fieldLink "CoverRows$PrimeFinder" (19 : Nat) "CoverRows$PrimeFinder" "outputs" "I" : Cond) ∈ lwg := lw_in (i := 114) (by decide +kernel) (by decide +kernel)
theorem mw_fl_PrimeFinder_9 : (Cond.fieldLink "CoverRows$PrimeFinder" (9 : Nat) "CoverRows$PrimeFinder" "outs" "[I" : Cond) ∈ lwg := lw_in (i := 115) (by decide +kernel) (by decide +kernel)
theorem mw_cl_Main_55 : (Cond.classLink "CoverRows" (55 : Nat) "CoverRows$CoverFinder" : Cond) ∈ lwg := lw_in (i := 123) (by decide +kernel) (by decide +kernel)
theorem mw_ins_CoverFinder : (Cond.instantiable "CoverRows$CoverFinder" (10 : Nat) : Cond) ∈ lwg := lw_in (i := 124) (by decide +kernel) (by decide +kernel)
theorem mw_ml_Main_57 : (Cond.methodLink "CoverRows" (57 : Nat) ({ cls := "CoverRows$CoverFinder", name := "<init>", desc := "(I)V" } : MethodName) : Cond) ∈ lwg := lw_in (i := 125) (by decide +kernel) (by decide +kernel)
theorem mw_im_CoverFinder_init : (Cond.instanceMethod ({ cls := "CoverRows$CoverFinder", name := "<init>", desc := "(I)V" } : MethodName) : Cond) ∈ lwg := lw_in (i := 126) (by decide +kernel) (by decide +kernel)
theorem mw_code_CoverFinder_init : (Cond.code ({ cls := "CoverRows$CoverFinder", name := "<init>", desc := "(I)V" } : MethodName) prog_2_method_1_code (2 : Nat) (Option.none : Option FieldType) : Cond) ∈ lwg := lw_in (i := 127) (by decide +kernel) (by decide +kernel)
theorem mw_ml_CoverFinder_3 : (Cond.methodLink "CoverRows$CoverFinder" (3 : Nat) ({ cls := "java/lang/Object", name := "<init>", desc := "()V" } : MethodName) : Cond) ∈ lwg := lw_in (i := 128) (by decide +kernel) (by decide +kernel)
theorem mw_fl_CoverFinder_28 : (Cond.fieldLink "CoverRows$CoverFinder" (28 : Nat) "CoverRows$CoverFinder" "outputs" "I" : Cond) ∈ lwg := lw_in (i := 129) (by decide +kernel) (by decide +kernel)
theorem mw_fl_CoverFinder_9 : (Cond.fieldLink "CoverRows$CoverFinder" (9 : Nat) "CoverRows$CoverFinder" "points" "[I" : Cond) ∈ lwg := lw_in (i := 130) (by decide +kernel) (by decide +kernel)
theorem mw_fl_CoverFinder_15 : (Cond.fieldLink "CoverRows$CoverFinder" (15 : Nat) "CoverRows$CoverFinder" "costs" "[I" : Cond) ∈ lwg := lw_in (i := 131) (by decide +kernel) (by decide +kernel)
theorem mw_fl_CoverFinder_18 : (Cond.fieldLink "CoverRows$CoverFinder" (18 : Nat) "CoverRows$CoverFinder" "weights" "[J" : Cond) ∈ lwg := lw_in (i := 132) (by decide +kernel) (by decide +kernel)
theorem mw_fl_CoverFinder_22 : (Cond.fieldLink "CoverRows$CoverFinder" (22 : Nat) "CoverRows$CoverFinder" "havers" "[J" : Cond) ∈ lwg := lw_in (i := 133) (by decide +kernel) (by decide +kernel)
theorem mw_fl_CoverFinder_25 : (Cond.fieldLink "CoverRows$CoverFinder" (25 : Nat) "CoverRows$CoverFinder" "picks" "[I" : Cond) ∈ lwg := lw_in (i := 134) (by decide +kernel) (by decide +kernel)
theorem mw_fl_CoverFinder_51 : (Cond.fieldLink "CoverRows$CoverFinder" (51 : Nat) "CoverRows$CoverFinder" "size" "I" : Cond) ∈ lwg := lw_in (i := 135) (by decide +kernel) (by decide +kernel)
theorem mw_fl_CoverFinder_58 : (Cond.fieldLink "CoverRows$CoverFinder" (58 : Nat) "CoverRows$CoverFinder" "allPoints" "I" : Cond) ∈ lwg := lw_in (i := 136) (by decide +kernel) (by decide +kernel)
theorem mw_fl_CoverFinder_32 : (Cond.fieldLink "CoverRows$CoverFinder" (32 : Nat) "CoverRows$CoverFinder" "found" "J" : Cond) ∈ lwg := lw_in (i := 137) (by decide +kernel) (by decide +kernel)
theorem mw_fl_CoverFinder_48 : (Cond.fieldLink "CoverRows$CoverFinder" (48 : Nat) "CoverRows$CoverFinder" "foundWeight" "J" : Cond) ∈ lwg := lw_in (i := 138) (by decide +kernel) (by decide +kernel)
theorem mw_arr_long : (Cond.arrayClass FieldType.long : Cond) ∈ lwg := lw_in (i := 160) (by decide +kernel) (by decide +kernel)
theorem mw_cl_Main_65 : (Cond.classLink "CoverRows" (65 : Nat) "CoverRows$Division" : Cond) ∈ lwg := lw_in (i := 161) (by decide +kernel) (by decide +kernel)
theorem mw_ins_Division : (Cond.instantiable "CoverRows$Division" (9 : Nat) : Cond) ∈ lwg := lw_in (i := 162) (by decide +kernel) (by decide +kernel)
theorem mw_ml_Main_67 : (Cond.methodLink "CoverRows" (67 : Nat) ({ cls := "CoverRows$Division", name := "<init>", desc := "(LCoverRows$Products;)V" } : MethodName) : Cond) ∈ lwg := lw_in (i := 163) (by decide +kernel) (by decide +kernel)
theorem mw_im_Division_init : (Cond.instanceMethod ({ cls := "CoverRows$Division", name := "<init>", desc := "(LCoverRows$Products;)V" } : MethodName) : Cond) ∈ lwg := lw_in (i := 164) (by decide +kernel) (by decide +kernel)
theorem mw_code_Division_init : (Cond.code ({ cls := "CoverRows$Division", name := "<init>", desc := "(LCoverRows$Products;)V" } : MethodName) prog_5_method_1_code (2 : Nat) (Option.none : Option FieldType) : Cond) ∈ lwg := lw_in (i := 165) (by decide +kernel) (by decide +kernel)
theorem mw_ml_Division_3 : (Cond.methodLink "CoverRows$Division" (3 : Nat) ({ cls := "java/lang/Object", name := "<init>", desc := "()V" } : MethodName) : Cond) ∈ lwg := lw_in (i := 166) (by decide +kernel) (by decide +kernel)
theorem mw_fl_Division_22 : (Cond.fieldLink "CoverRows$Division" (22 : Nat) "CoverRows$Division" "products" "LCoverRows$Products;" : Cond) ∈ lwg := lw_in (i := 167) (by decide +kernel) (by decide +kernel)
theorem mw_fl_Division_9 : (Cond.fieldLink "CoverRows$Division" (9 : Nat) "CoverRows$Division" "kernelLow" "[J" : Cond) ∈ lwg := lw_in (i := 168) (by decide +kernel) (by decide +kernel)
theorem mw_fl_Division_15 : (Cond.fieldLink "CoverRows$Division" (15 : Nat) "CoverRows$Division" "kernelHigh" "[J" : Cond) ∈ lwg := lw_in (i := 169) (by decide +kernel) (by decide +kernel)
theorem mw_fl_Division_18 : (Cond.fieldLink "CoverRows$Division" (18 : Nat) "CoverRows$Division" "row" "[I" : Cond) ∈ lwg := lw_in (i := 170) (by decide +kernel) (by decide +kernel)
theorem mw_fl_Division_26 : (Cond.fieldLink "CoverRows$Division" (26 : Nat) "CoverRows$Division" "size" "I" : Cond) ∈ lwg := lw_in (i := 171) (by decide +kernel) (by decide +kernel)
theorem mw_fl_Division_47 : (Cond.fieldLink "CoverRows$Division" (47 : Nat) "CoverRows$Division" "low" "J" : Cond) ∈ lwg := lw_in (i := 172) (by decide +kernel) (by decide +kernel)
theorem mw_fl_Division_51 : (Cond.fieldLink "CoverRows$Division" (51 : Nat) "CoverRows$Division" "high" "J" : Cond) ∈ lwg := lw_in (i := 173) (by decide +kernel) (by decide +kernel)
theorem mw_fl_Division_75 : (Cond.fieldLink "CoverRows$Division" (75 : Nat) "CoverRows$Division" "sharedOnes" "I" : Cond) ∈ lwg := lw_in (i := 174) (by decide +kernel) (by decide +kernel)
theorem mw_fl_Division_78 : (Cond.fieldLink "CoverRows$Division" (78 : Nat) "CoverRows$Division" "sharedZeros" "I" : Cond) ∈ lwg := lw_in (i := 175) (by decide +kernel) (by decide +kernel)
theorem mw_cl_Main_72 : (Cond.classLink "CoverRows" (72 : Nat) "CoverRows$Diagrams" : Cond) ∈ lwg := lw_in (i := 195) (by decide +kernel) (by decide +kernel)
theorem mw_ins_Diagrams : (Cond.instantiable "CoverRows$Diagrams" (5 : Nat) : Cond) ∈ lwg := lw_in (i := 196) (by decide +kernel) (by decide +kernel)
theorem mw_ml_Main_74 : (Cond.methodLink "CoverRows" (74 : Nat) ({ cls := "CoverRows$Diagrams", name := "<init>", desc := "(II)V" } : MethodName) : Cond) ∈ lwg := lw_in (i := 197) (by decide +kernel) (by decide +kernel)
theorem mw_im_Diagrams_init : (Cond.instanceMethod ({ cls := "CoverRows$Diagrams", name := "<init>", desc := "(II)V" } : MethodName) : Cond) ∈ lwg := lw_in (i := 198) (by decide +kernel) (by decide +kernel)
theorem mw_code_Diagrams_init : (Cond.code ({ cls := "CoverRows$Diagrams", name := "<init>", desc := "(II)V" } : MethodName) prog_4_method_1_code (3 : Nat) (Option.none : Option FieldType) : Cond) ∈ lwg := lw_in (i := 199) (by decide +kernel) (by decide +kernel)
theorem mw_ml_Diagrams_3 : (Cond.methodLink "CoverRows$Diagrams" (3 : Nat) ({ cls := "java/lang/Object", name := "<init>", desc := "()V" } : MethodName) : Cond) ∈ lwg := lw_in (i := 200) (by decide +kernel) (by decide +kernel)
theorem mw_fl_Diagrams_21 : (Cond.fieldLink "CoverRows$Diagrams" (21 : Nat) "CoverRows$Diagrams" "inputs" "I" : Cond) ∈ lwg := lw_in (i := 201) (by decide +kernel) (by decide +kernel)
theorem mw_fl_Diagrams_25 : (Cond.fieldLink "CoverRows$Diagrams" (25 : Nat) "CoverRows$Diagrams" "outputs" "I" : Cond) ∈ lwg := lw_in (i := 202) (by decide +kernel) (by decide +kernel)
theorem mw_fl_Diagrams_9 : (Cond.fieldLink "CoverRows$Diagrams" (9 : Nat) "CoverRows$Diagrams" "asked" "[I" : Cond) ∈ lwg := lw_in (i := 203) (by decide +kernel) (by decide +kernel)
theorem mw_fl_Diagrams_15 : (Cond.fieldLink "CoverRows$Diagrams" (15 : Nat) "CoverRows$Diagrams" "tables" "[I" : Cond) ∈ lwg := lw_in (i := 204) (by decide +kernel) (by decide +kernel)
theorem mw_fl_Diagrams_18 : (Cond.fieldLink "CoverRows$Diagrams" (18 : Nat) "CoverRows$Diagrams" "seen" "[I" : Cond) ∈ lwg := lw_in (i := 205) (by decide +kernel) (by decide +kernel)
theorem mw_fl_Main_18 : (Cond.fieldLink "CoverRows" (18 : Nat) "CoverRows" "inputs" "I" : Cond) ∈ lwg := lw_in (i := 217) (by decide +kernel) (by decide +kernel)
theorem mw_fl_Main_22 : (Cond.fieldLink "CoverRows" (22 : Nat) "CoverRows" "outputs" "I" : Cond) ∈ lwg := lw_in (i := 218) (by decide +kernel) (by decide +kernel)
theorem mw_fl_Main_35 : (Cond.fieldLink "CoverRows" (35 : Nat) "CoverRows" "cubes" "LCoverRows$Cubes;" : Cond) ∈ lwg := lw_in (i := 219) (by decide +kernel) (by decide +kernel)
theorem mw_fl_Main_44 : (Cond.fieldLink "CoverRows" (44 : Nat) "CoverRows" "primes" "LCoverRows$Terms;" : Cond) ∈ lwg := lw_in (i := 220) (by decide +kernel) (by decide +kernel)
theorem mw_fl_Main_51 : (Cond.fieldLink "CoverRows" (51 : Nat) "CoverRows" "primeFinder" "LCoverRows$PrimeFinder;" : Cond) ∈ lwg := lw_in (i := 221) (by decide +kernel) (by decide +kernel)
theorem mw_fl_Main_58 : (Cond.fieldLink "CoverRows" (58 : Nat) "CoverRows" "coverFinder" "LCoverRows$CoverFinder;" : Cond) ∈ lwg := lw_in (i := 222) (by decide +kernel) (by decide +kernel)
theorem mw_fl_Main_62 : (Cond.fieldLink "CoverRows" (62 : Nat) "CoverRows" "kept" "LCoverRows$Terms;" : Cond) ∈ lwg := lw_in (i := 223) (by decide +kernel) (by decide +kernel)
theorem mw_fl_Main_68 : (Cond.fieldLink "CoverRows" (68 : Nat) "CoverRows" "division" "LCoverRows$Division;" : Cond) ∈ lwg := lw_in (i := 224) (by decide +kernel) (by decide +kernel)
theorem mw_fl_Main_77 : (Cond.fieldLink "CoverRows" (77 : Nat) "CoverRows" "diagrams" "LCoverRows$Diagrams;" : Cond) ∈ lwg := lw_in (i := 225) (by decide +kernel) (by decide +kernel)
theorem mw_fl_Main_81 : (Cond.fieldLink "CoverRows" (81 : Nat) "CoverRows" "hasKept" "Z" : Cond) ∈ lwg := lw_in (i := 226) (by decide +kernel) (by decide +kernel)
theorem mw_fl_Main_85 : (Cond.fieldLink "CoverRows" (85 : Nat) "CoverRows" "primesAreOld" "Z" : Cond) ∈ lwg := lw_in (i := 227) (by decide +kernel) (by decide +kernel)
theorem mw_ml_Law_90 : (Cond.methodLink "CoverRowsLaw" (90 : Nat) ({ cls := "CoverRows", name := "primes", desc := "()I" } : MethodName) : Cond) ∈ lwg := lw_in (i := 251) (by decide +kernel) (by decide +kernel)
theorem mw_im_Main_primes : (Cond.instanceMethod ({ cls := "CoverRows", name := "primes", desc := "()I" } : MethodName) : Cond) ∈ lwg := lw_in (i := 252) (by decide +kernel) (by decide +kernel)
theorem mw_se_Main_primes : (Cond.selects "CoverRows" ({ cls := "CoverRows", name := "primes", desc := "()I" } : MethodName) ({ cls := "CoverRows", name := "primes", desc := "()I" } : MethodName) : Cond) ∈ lwg := lw_in (i := 253) (by decide +kernel) (by decide +kernel)
theorem mw_code_Main_primes : (Cond.code ({ cls := "CoverRows", name := "primes", desc := "()I" } : MethodName) prog_1_method_5_code (1 : Nat) (Option.some FieldType.int) : Cond) ∈ lwg := lw_in (i := 254) (by decide +kernel) (by decide +kernel)
theorem mw_ml_Main_128 : (Cond.methodLink "CoverRows" (128 : Nat) ({ cls := "CoverRows", name := "renewPrimes", desc := "()V" } : MethodName) : Cond) ∈ lwg := lw_in (i := 255) (by decide +kernel) (by decide +kernel)
theorem mw_im_Main_renewPrimes : (Cond.instanceMethod ({ cls := "CoverRows", name := "renewPrimes", desc := "()V" } : MethodName) : Cond) ∈ lwg := lw_in (i := 257) (by decide +kernel) (by decide +kernel)
theorem mw_code_Main_renewPrimes : (Cond.code ({ cls := "CoverRows", name := "renewPrimes", desc := "()V" } : MethodName) prog_1_method_22_code (1 : Nat) (Option.none : Option FieldType) : Cond) ∈ lwg := lw_in (i := 258) (by decide +kernel) (by decide +kernel)
theorem mw_ml_Main_222 : (Cond.methodLink "CoverRows" (222 : Nat) ({ cls := "CoverRows$PrimeFinder", name := "find", desc := "(LCoverRows$Cubes;LCoverRows$Terms;)V" } : MethodName) : Cond) ∈ lwg := lw_in (i := 259) (by decide +kernel) (by decide +kernel)
theorem mw_im_PrimeFinder_find : (Cond.instanceMethod ({ cls := "CoverRows$PrimeFinder", name := "find", desc := "(LCoverRows$Cubes;LCoverRows$Terms;)V" } : MethodName) : Cond) ∈ lwg := lw_in (i := 260) (by decide +kernel) (by decide +kernel)
theorem mw_se_PrimeFinder_find : (Cond.selects "CoverRows$PrimeFinder" ({ cls := "CoverRows$PrimeFinder", name := "find", desc := "(LCoverRows$Cubes;LCoverRows$Terms;)V" } : MethodName) ({ cls := "CoverRows$PrimeFinder", name := "find", desc := "(LCoverRows$Cubes;LCoverRows$Terms;)V" } : MethodName) : Cond) ∈ lwg := lw_in (i := 261) (by decide +kernel) (by decide +kernel)
theorem mw_code_PrimeFinder_find : (Cond.code ({ cls := "CoverRows$PrimeFinder", name := "find", desc := "(LCoverRows$Cubes;LCoverRows$Terms;)V" } : MethodName) prog_6_method_2_code (4 : Nat) (Option.none : Option FieldType) : Cond) ∈ lwg := lw_in (i := 262) (by decide +kernel) (by decide +kernel)
theorem mw_ml_PrimeFinder_23 : (Cond.methodLink "CoverRows$PrimeFinder" (23 : Nat) ({ cls := "CoverRows$PrimeFinder", name := "fillOuts", desc := "(LCoverRows$Cubes;)V" } : MethodName) : Cond) ∈ lwg := lw_in (i := 263) (by decide +kernel) (by decide +kernel)
theorem mw_im_PrimeFinder_fillOuts : (Cond.instanceMethod ({ cls := "CoverRows$PrimeFinder", name := "fillOuts", desc := "(LCoverRows$Cubes;)V" } : MethodName) : Cond) ∈ lwg := lw_in (i := 265) (by decide +kernel) (by decide +kernel)
theorem mw_code_PrimeFinder_fillOuts : (Cond.code ({ cls := "CoverRows$PrimeFinder", name := "fillOuts", desc := "(LCoverRows$Cubes;)V" } : MethodName) prog_6_method_3_code (5 : Nat) (Option.none : Option FieldType) : Cond) ∈ lwg := lw_in (i := 266) (by decide +kernel) (by decide +kernel)
theorem mw_ml_PrimeFinder_32 : (Cond.methodLink "CoverRows$PrimeFinder" (32 : Nat) ({ cls := "CoverRows$Products", name := "size", desc := "()I" } : MethodName) : Cond) ∈ lwg := lw_in (i := 267) (by decide +kernel) (by decide +kernel)
theorem mw_im_Products_size : (Cond.instanceMethod ({ cls := "CoverRows$Products", name := "size", desc := "()I" } : MethodName) : Cond) ∈ lwg := lw_in (i := 268) (by decide +kernel) (by decide +kernel)
theorem mw_se_Products_size : (Cond.selects "CoverRows$Products" ({ cls := "CoverRows$Products", name := "size", desc := "()I" } : MethodName) ({ cls := "CoverRows$Products", name := "size", desc := "()I" } : MethodName) : Cond) ∈ lwg := lw_in (i := 269) (by decide +kernel) (by decide +kernel)
theorem mw_code_Products_size : (Cond.code ({ cls := "CoverRows$Products", name := "size", desc := "()I" } : MethodName) prog_7_method_5_code (1 : Nat) (Option.some FieldType.int) : Cond) ∈ lwg := lw_in (i := 270) (by decide +kernel) (by decide +kernel)
theorem mw_ml_PrimeFinder_46 : (Cond.methodLink "CoverRows$PrimeFinder" (46 : Nat) ({ cls := "CoverRows$Cubes", name := "notOff", desc := "(I)I" } : MethodName) : Cond) ∈ lwg := lw_in (i := 271) (by decide +kernel) (by decide +kernel)
theorem mw_im_Cubes_notOff : (Cond.instanceMethod ({ cls := "CoverRows$Cubes", name := "notOff", desc := "(I)I" } : MethodName) : Cond) ∈ lwg := lw_in (i := 272) (by decide +kernel) (by decide +kernel)
theorem mw_se_Cubes_notOff : (Cond.selects "CoverRows$Cubes" ({ cls := "CoverRows$Cubes", name := "notOff", desc := "(I)I" } : MethodName) ({ cls := "CoverRows$Cubes", name := "notOff", desc := "(I)I" } : MethodName) : Cond) ∈ lwg := lw_in (i := 273) (by decide +kernel) (by decide +kernel)
theorem mw_code_Cubes_notOff : (Cond.code ({ cls := "CoverRows$Cubes", name := "notOff", desc := "(I)I" } : MethodName) prog_3_method_9_code (2 : Nat) (Option.some FieldType.int) : Cond) ∈ lwg := lw_in (i := 274) (by decide +kernel) (by decide +kernel)
theorem mw_ml_Cubes_47 : (Cond.methodLink "CoverRows$Cubes" (47 : Nat) ({ cls := "CoverRows$Cubes", name := "hadByKind", desc := "(II)I" } : MethodName) : Cond) ∈ lwg := lw_in (i := 275) (by decide +kernel) (by decide +kernel)
theorem mw_im_Cubes_hadByKind : (Cond.instanceMethod ({ cls := "CoverRows$Cubes", name := "hadByKind", desc := "(II)I" } : MethodName) : Cond) ∈ lwg := lw_in (i := 277) (by decide +kernel) (by decide +kernel)
theorem mw_code_Cubes_hadByKind : (Cond.code ({ cls := "CoverRows$Cubes", name := "hadByKind", desc := "(II)I" } : MethodName) prog_3_method_10_code (5 : Nat) (Option.some FieldType.int) : Cond) ∈ lwg := lw_in (i := 278) (by decide +kernel) (by decide +kernel)
theorem mw_ml_Cubes_50 : (Cond.methodLink "CoverRows$Cubes" (50 : Nat) ({ cls := "CoverRows$Products", name := "had", desc := "(I)I" } : MethodName) : Cond) ∈ lwg := lw_in (i := 279) (by decide +kernel) (by decide +kernel)
theorem mw_im_Products_had : (Cond.instanceMethod ({ cls := "CoverRows$Products", name := "had", desc := "(I)I" } : MethodName) : Cond) ∈ lwg := lw_in (i := 280) (by decide +kernel) (by decide +kernel)
theorem mw_se_Products_had : (Cond.selects "CoverRows$Products" ({ cls := "CoverRows$Products", name := "had", desc := "(I)I" } : MethodName) ({ cls := "CoverRows$Products", name := "had", desc := "(I)I" } : MethodName) : Cond) ∈ lwg := lw_in (i := 281) (by decide +kernel) (by decide +kernel)
theorem mw_code_Products_had : (Cond.code ({ cls := "CoverRows$Products", name := "had", desc := "(I)I" } : MethodName) prog_7_method_9_code (2 : Nat) (Option.some FieldType.int) : Cond) ∈ lwg := lw_in (i := 282) (by decide +kernel) (by decide +kernel)
theorem mw_ml_PrimeFinder_52 : (Cond.methodLink "CoverRows$PrimeFinder" (52 : Nat) ({ cls := "CoverRows$Products", name := "had", desc := "(I)I" } : MethodName) : Cond) ∈ lwg := lw_in (i := 283) (by decide +kernel) (by decide +kernel)
theorem mw_ml_PrimeFinder_27 : (Cond.methodLink "CoverRows$PrimeFinder" (27 : Nat) ({ cls := "CoverRows$Terms", name := "dropAll", desc := "()V" } : MethodName) : Cond) ∈ lwg := lw_in (i := 284) (by decide +kernel) (by decide +kernel)
theorem mw_im_Terms_dropAll : (Cond.instanceMethod ({ cls := "CoverRows$Terms", name := "dropAll", desc := "()V" } : MethodName) : Cond) ∈ lwg := lw_in (i := 285) (by decide +kernel) (by decide +kernel)
theorem mw_se_Terms_dropAll : (Cond.selects "CoverRows$Terms" ({ cls := "CoverRows$Terms", name := "dropAll", desc := "()V" } : MethodName) ({ cls := "CoverRows$Terms", name := "dropAll", desc := "()V" } : MethodName) : Cond) ∈ lwg := lw_in (i := 286) (by decide +kernel) (by decide +kernel)
theorem mw_code_Terms_dropAll : (Cond.code ({ cls := "CoverRows$Terms", name := "dropAll", desc := "()V" } : MethodName) prog_8_method_5_code (1 : Nat) (Option.none : Option FieldType) : Cond) ∈ lwg := lw_in (i := 287) (by decide +kernel) (by decide +kernel)
theorem mw_ml_PrimeFinder_38 : (Cond.methodLink "CoverRows$PrimeFinder" (38 : Nat) ({ cls := "CoverRows$PrimeFinder", name := "isWithinWider", desc := "(I)Z" } : MethodName) : Cond) ∈ lwg := lw_in (i := 288) (by decide +kernel) (by decide +kernel)
theorem mw_im_PrimeFinder_isWithinWider : (Cond.instanceMethod ({ cls := "CoverRows$PrimeFinder", name := "isWithinWider", desc := "(I)Z" } : MethodName) : Cond) ∈ lwg := lw_in (i := 290) (by decide +kernel) (by decide +kernel)
theorem mw_code_PrimeFinder_isWithinWider : (Cond.code ({ cls := "CoverRows$PrimeFinder", name := "isWithinWider", desc := "(I)Z" } : MethodName) prog_6_method_4_code (4 : Nat) (Option.some FieldType.boolean) : Cond) ∈ lwg := lw_in (i := 291) (by decide +kernel) (by decide +kernel)
theorem mw_ml_PrimeFinder_55 : (Cond.methodLink "CoverRows$PrimeFinder" (55 : Nat) ({ cls := "CoverRows$Products", name := "inputs", desc := "()I" } : MethodName) : Cond) ∈ lwg := lw_in (i := 292) (by decide +kernel) (by decide +kernel)
theorem mw_im_Products_inputs : (Cond.instanceMethod ({ cls := "CoverRows$Products", name := "inputs", desc := "()I" } : MethodName) : Cond) ∈ lwg := lw_in (i := 293) (by decide +kernel) (by decide +kernel)
theorem mw_se_Products_inputs : (Cond.selects "CoverRows$Products" ({ cls := "CoverRows$Products", name := "inputs", desc := "()I" } : MethodName) ({ cls := "CoverRows$Products", name := "inputs", desc := "()I" } : MethodName) : Cond) ∈ lwg := lw_in (i := 294) (by decide +kernel) (by decide +kernel)
theorem mw_code_Products_inputs : (Cond.code ({ cls := "CoverRows$Products", name := "inputs", desc := "()I" } : MethodName) prog_7_method_4_code (1 : Nat) (Option.some FieldType.int) : Cond) ∈ lwg := lw_in (i := 295) (by decide +kernel) (by decide +kernel)
theorem mw_ml_PrimeFinder_58 : (Cond.methodLink "CoverRows$PrimeFinder" (58 : Nat) ({ cls := "CoverRows$Products", name := "digit", desc := "(II)I" } : MethodName) : Cond) ∈ lwg := lw_in (i := 296) (by decide +kernel) (by decide +kernel)
theorem mw_im_Products_digit : (Cond.instanceMethod ({ cls := "CoverRows$Products", name := "digit", desc := "(II)I" } : MethodName) : Cond) ∈ lwg := lw_in (i := 297) (by decide +kernel) (by decide +kernel)
theorem mw_se_Products_digit : (Cond.selects "CoverRows$Products" ({ cls := "CoverRows$Products", name := "digit", desc := "(II)I" } : MethodName) ({ cls := "CoverRows$Products", name := "digit", desc := "(II)I" } : MethodName) : Cond) ∈ lwg := lw_in (i := 298) (by decide +kernel) (by decide +kernel)
theorem mw_code_Products_digit : (Cond.code ({ cls := "CoverRows$Products", name := "digit", desc := "(II)I" } : MethodName) prog_7_method_10_code (3 : Nat) (Option.some FieldType.int) : Cond) ∈ lwg := lw_in (i := 299) (by decide +kernel) (by decide +kernel)
theorem mw_ml_PrimeFinder_62 : (Cond.methodLink "CoverRows$PrimeFinder" (62 : Nat) ({ cls := "CoverRows$Products", name := "withDigit", desc := "(III)I" } : MethodName) : Cond) ∈ lwg := lw_in (i := 300) (by decide +kernel) (by decide +kernel)
theorem mw_im_Products_withDigit : (Cond.instanceMethod ({ cls := "CoverRows$Products", name := "withDigit", desc := "(III)I" } : MethodName) : Cond) ∈ lwg := lw_in (i := 301) (by decide +kernel) (by decide +kernel)
theorem mw_se_Products_withDigit : (Cond.selects "CoverRows$Products" ({ cls := "CoverRows$Products", name := "withDigit", desc := "(III)I" } : MethodName) ({ cls := "CoverRows$Products", name := "withDigit", desc := "(III)I" } : MethodName) : Cond) ∈ lwg := lw_in (i := 302) (by decide +kernel) (by decide +kernel)
theorem mw_code_Products_withDigit : (Cond.code ({ cls := "CoverRows$Products", name := "withDigit", desc := "(III)I" } : MethodName) prog_7_method_11_code (7 : Nat) (Option.some FieldType.int) : Cond) ∈ lwg := lw_in (i := 303) (by decide +kernel) (by decide +kernel)
theorem mw_ml_Products_41 : (Cond.methodLink "CoverRows$Products" (41 : Nat) ({ cls := "CoverRows$Products", name := "numberOf", desc := "(II)I" } : MethodName) : Cond) ∈ lwg := lw_in (i := 304) (by decide +kernel) (by decide +kernel)
theorem mw_im_Products_numberOf : (Cond.instanceMethod ({ cls := "CoverRows$Products", name := "numberOf", desc := "(II)I" } : MethodName) : Cond) ∈ lwg := lw_in (i := 305) (by decide +kernel) (by decide +kernel)
theorem mw_se_Products_numberOf : (Cond.selects "CoverRows$Products" ({ cls := "CoverRows$Products", name := "numberOf", desc := "(II)I" } : MethodName) ({ cls := "CoverRows$Products", name := "numberOf", desc := "(II)I" } : MethodName) : Cond) ∈ lwg := lw_in (i := 306) (by decide +kernel) (by decide +kernel)
theorem mw_code_Products_numberOf : (Cond.code ({ cls := "CoverRows$Products", name := "numberOf", desc := "(II)I" } : MethodName) prog_7_method_12_code (6 : Nat) (Option.some FieldType.int) : Cond) ∈ lwg := lw_in (i := 307) (by decide +kernel) (by decide +kernel)
theorem mw_ml_PrimeFinder_42 : (Cond.methodLink "CoverRows$PrimeFinder" (42 : Nat) ({ cls := "CoverRows$Terms", name := "add", desc := "(II)V" } : MethodName) : Cond) ∈ lwg := lw_in (i := 308) (by decide +kernel) (by decide +kernel)
theorem mw_im_Terms_add : (Cond.instanceMethod ({ cls := "CoverRows$Terms", name := "add", desc := "(II)V" } : MethodName) : Cond) ∈ lwg := lw_in (i := 309) (by decide +kernel) (by decide +kernel)
theorem mw_se_Terms_add : (Cond.selects "CoverRows$Terms" ({ cls := "CoverRows$Terms", name := "add", desc := "(II)V" } : MethodName) ({ cls := "CoverRows$Terms", name := "add", desc := "(II)V" } : MethodName) : Cond) ∈ lwg := lw_in (i := 310) (by decide +kernel) (by decide +kernel)
theorem mw_code_Terms_add : (Cond.code ({ cls := "CoverRows$Terms", name := "add", desc := "(II)V" } : MethodName) prog_8_method_6_code (3 : Nat) (Option.none : Option FieldType) : Cond) ∈ lwg := lw_in (i := 311) (by decide +kernel) (by decide +kernel)
theorem mw_ml_Main_131 : (Cond.methodLink "CoverRows" (131 : Nat) ({ cls := "CoverRows$Terms", name := "size", desc := "()I" } : MethodName) : Cond) ∈ lwg := lw_in (i := 312) (by decide +kernel) (by decide +kernel)
theorem mw_im_Terms_size : (Cond.instanceMethod ({ cls := "CoverRows$Terms", name := "size", desc := "()I" } : MethodName) : Cond) ∈ lwg := lw_in (i := 313) (by decide +kernel) (by decide +kernel)
theorem mw_se_Terms_size : (Cond.selects "CoverRows$Terms" ({ cls := "CoverRows$Terms", name := "size", desc := "()I" } : MethodName) ({ cls := "CoverRows$Terms", name := "size", desc := "()I" } : MethodName) : Cond) ∈ lwg := lw_in (i := 314) (by decide +kernel) (by decide +kernel)
theorem mw_code_Terms_size : (Cond.code ({ cls := "CoverRows$Terms", name := "size", desc := "()I" } : MethodName) prog_8_method_2_code (1 : Nat) (Option.some FieldType.int) : Cond) ∈ lwg := lw_in (i := 315) (by decide +kernel) (by decide +kernel)
theorem mw_ml_Law_107 : (Cond.methodLink "CoverRowsLaw" (107 : Nat) ({ cls := "CoverRows", name := "tautology", desc := "()Z" } : MethodName) : Cond) ∈ lwg := lw_in (i := 316) (by decide +kernel) (by decide +kernel)
theorem mw_im_Main_tautology : (Cond.instanceMethod ({ cls := "CoverRows", name := "tautology", desc := "()Z" } : MethodName) : Cond) ∈ lwg := lw_in (i := 317) (by decide +kernel) (by decide +kernel)
theorem mw_se_Main_tautology : (Cond.selects "CoverRows" ({ cls := "CoverRows", name := "tautology", desc := "()Z" } : MethodName) ({ cls := "CoverRows", name := "tautology", desc := "()Z" } : MethodName) : Cond) ∈ lwg := lw_in (i := 318) (by decide +kernel) (by decide +kernel)
theorem mw_code_Main_tautology : (Cond.code ({ cls := "CoverRows", name := "tautology", desc := "()Z" } : MethodName) prog_1_method_9_code (3 : Nat) (Option.some FieldType.boolean) : Cond) ∈ lwg := lw_in (i := 319) (by decide +kernel) (by decide +kernel)
theorem mw_ml_Main_165 : (Cond.methodLink "CoverRows" (165 : Nat) ({ cls := "CoverRows$Cubes", name := "notOff", desc := "(I)I" } : MethodName) : Cond) ∈ lwg := lw_in (i := 320) (by decide +kernel) (by decide +kernel)
theorem mw_ml_Law_127 : (Cond.methodLink "CoverRowsLaw" (127 : Nat) ({ cls := "CoverRows", name := "order", desc := "()I" } : MethodName) : Cond) ∈ lwg := lw_in (i := 321) (by decide +kernel) (by decide +kernel)
theorem mw_im_Main_order : (Cond.instanceMethod ({ cls := "CoverRows", name := "order", desc := "()I" } : MethodName) : Cond) ∈ lwg := lw_in (i := 322) (by decide +kernel) (by decide +kernel)
theorem mw_se_Main_order : (Cond.selects "CoverRows" ({ cls := "CoverRows", name := "order", desc := "()I" } : MethodName) ({ cls := "CoverRows", name := "order", desc := "()I" } : MethodName) : Cond) ∈ lwg := lw_in (i := 323) (by decide +kernel) (by decide +kernel)
theorem mw_code_Main_order : (Cond.code ({ cls := "CoverRows", name := "order", desc := "()I" } : MethodName) prog_1_method_15_code (5 : Nat) (Option.some FieldType.int) : Cond) ∈ lwg := lw_in (i := 324) (by decide +kernel) (by decide +kernel)
theorem mw_ml_Main_197 : (Cond.methodLink "CoverRows" (197 : Nat) ({ cls := "CoverRows$Diagrams", name := "nodes", desc := "(ILCoverRows$Cubes;)I" } : MethodName) : Cond) ∈ lwg := lw_in (i := 325) (by decide +kernel) (by decide +kernel)
theorem mw_im_Diagrams_nodes : (Cond.instanceMethod ({ cls := "CoverRows$Diagrams", name := "nodes", desc := "(ILCoverRows$Cubes;)I" } : MethodName) : Cond) ∈ lwg := lw_in (i := 326) (by decide +kernel) (by decide +kernel)
theorem mw_se_Diagrams_nodes : (Cond.selects "CoverRows$Diagrams" ({ cls := "CoverRows$Diagrams", name := "nodes", desc := "(ILCoverRows$Cubes;)I" } : MethodName) ({ cls := "CoverRows$Diagrams", name := "nodes", desc := "(ILCoverRows$Cubes;)I" } : MethodName) : Cond) ∈ lwg := lw_in (i := 327) (by decide +kernel) (by decide +kernel)
theorem mw_code_Diagrams_nodes : (Cond.code ({ cls := "CoverRows$Diagrams", name := "nodes", desc := "(ILCoverRows$Cubes;)I" } : MethodName) prog_4_method_3_code (5 : Nat) (Option.some FieldType.int) : Cond) ∈ lwg := lw_in (i := 328) (by decide +kernel) (by decide +kernel)
theorem mw_ml_Diagrams_31 : (Cond.methodLink "CoverRows$Diagrams" (31 : Nat) ({ cls := "CoverRows$Diagrams", name := "fillAsked", desc := "(I)V" } : MethodName) : Cond) ∈ lwg := lw_in (i := 329) (by decide +kernel) (by decide +kernel)
theorem mw_im_Diagrams_fillAsked : (Cond.instanceMethod ({ cls := "CoverRows$Diagrams", name := "fillAsked", desc := "(I)V" } : MethodName) : Cond) ∈ lwg := lw_in (i := 331) (by decide +kernel) (by decide +kernel)
theorem mw_code_Diagrams_fillAsked : (Cond.code ({ cls := "CoverRows$Diagrams", name := "fillAsked", desc := "(I)V" } : MethodName) prog_4_method_4_code (7 : Nat) (Option.none : Option FieldType) : Cond) ∈ lwg := lw_in (i := 332) (by decide +kernel) (by decide +kernel)
theorem mw_fl_Diagrams_28 : (Cond.fieldLink "CoverRows$Diagrams" (28 : Nat) "CoverRows$Diagrams" "FACTORIALS" "[I" : Cond) ∈ lwg := lw_in (i := 333) (by decide +kernel) (by decide +kernel)
theorem mw_ml_Diagrams_47 : (Cond.methodLink "CoverRows$Diagrams" (47 : Nat) ({ cls := "CoverRows$Diagrams", name := "inputAfter", desc := "(II)I" } : MethodName) : Cond) ∈ lwg := lw_in (i := 335) (by decide +kernel) (by decide +kernel)
theorem mw_im_Diagrams_inputAfter : (Cond.instanceMethod ({ cls := "CoverRows$Diagrams", name := "inputAfter", desc := "(II)I" } : MethodName) : Cond) ∈ lwg := lw_in (i := 337) (by decide +kernel) (by decide +kernel)
theorem mw_code_Diagrams_inputAfter : (Cond.code ({ cls := "CoverRows$Diagrams", name := "inputAfter", desc := "(II)I" } : MethodName) prog_4_method_5_code (5 : Nat) (Option.some FieldType.int) : Cond) ∈ lwg := lw_in (i := 338) (by decide +kernel) (by decide +kernel)
theorem mw_ml_Diagrams_35 : (Cond.methodLink "CoverRows$Diagrams" (35 : Nat) ({ cls := "CoverRows$Cubes", name := "on", desc := "(I)I" } : MethodName) : Cond) ∈ lwg := lw_in (i := 339) (by decide +kernel) (by decide +kernel)
theorem mw_im_Cubes_on : (Cond.instanceMethod ({ cls := "CoverRows$Cubes", name := "on", desc := "(I)I" } : MethodName) : Cond) ∈ lwg := lw_in (i := 340) (by decide +kernel) (by decide +kernel)
theorem mw_se_Cubes_on : (Cond.selects "CoverRows$Cubes" ({ cls := "CoverRows$Cubes", name := "on", desc := "(I)I" } : MethodName) ({ cls := "CoverRows$Cubes", name := "on", desc := "(I)I" } : MethodName) : Cond) ∈ lwg := lw_in (i := 341) (by decide +kernel) (by decide +kernel)
theorem mw_code_Cubes_on : (Cond.code ({ cls := "CoverRows$Cubes", name := "on", desc := "(I)I" } : MethodName) prog_3_method_8_code (2 : Nat) (Option.some FieldType.int) : Cond) ∈ lwg := lw_in (i := 342) (by decide +kernel) (by decide +kernel)
theorem mw_ml_Diagrams_41 : (Cond.methodLink "CoverRows$Diagrams" (41 : Nat) ({ cls := "CoverRows$Diagrams", name := "reordered", desc := "(I)I" } : MethodName) : Cond) ∈ lwg := lw_in (i := 343) (by decide +kernel) (by decide +kernel)
theorem mw_im_Diagrams_reordered : (Cond.instanceMethod ({ cls := "CoverRows$Diagrams", name := "reordered", desc := "(I)I" } : MethodName) : Cond) ∈ lwg := lw_in (i := 345) (by decide +kernel) (by decide +kernel)
theorem mw_code_Diagrams_reordered : (Cond.code ({ cls := "CoverRows$Diagrams", name := "reordered", desc := "(I)I" } : MethodName) prog_4_method_6_code (7 : Nat) (Option.some FieldType.int) : Cond) ∈ lwg := lw_in (i := 346) (by decide +kernel) (by decide +kernel)
theorem mw_ml_Diagrams_44 : (Cond.methodLink "CoverRows$Diagrams" (44 : Nat) ({ cls := "CoverRows$Diagrams", name := "nodesOfLevel", desc := "(I)I" } : MethodName) : Cond) ∈ lwg := lw_in (i := 347) (by decide +kernel) (by decide +kernel)
theorem mw_im_Diagrams_nodesOfLevel : (Cond.instanceMethod ({ cls := "CoverRows$Diagrams", name := "nodesOfLevel", desc := "(I)I" } : MethodName) : Cond) ∈ lwg := lw_in (i := 349) (by decide +kernel) (by decide +kernel)
theorem mw_code_Diagrams_nodesOfLevel : (Cond.code ({ cls := "CoverRows$Diagrams", name := "nodesOfLevel", desc := "(I)I" } : MethodName) prog_4_method_7_code (11 : Nat) (Option.some FieldType.int) : Cond) ∈ lwg := lw_in (i := 350) (by decide +kernel) (by decide +kernel)
theorem mw_ml_Diagrams_51 : (Cond.methodLink "CoverRows$Diagrams" (51 : Nat) ({ cls := "CoverRows$Diagrams", name := "isSeen", desc := "(II)Z" } : MethodName) : Cond) ∈ lwg := lw_in (i := 351) (by decide +kernel) (by decide +kernel)
theorem mw_im_Diagrams_isSeen : (Cond.instanceMethod ({ cls := "CoverRows$Diagrams", name := "isSeen", desc := "(II)Z" } : MethodName) : Cond) ∈ lwg := lw_in (i := 353) (by decide +kernel) (by decide +kernel)
theorem mw_code_Diagrams_isSeen : (Cond.code ({ cls := "CoverRows$Diagrams", name := "isSeen", desc := "(II)Z" } : MethodName) prog_4_method_8_code (4 : Nat) (Option.some FieldType.boolean) : Cond) ∈ lwg := lw_in (i := 354) (by decide +kernel) (by decide +kernel)
theorem mw_ml_Main_192 : (Cond.methodLink "CoverRows" (192 : Nat) ({ cls := "CoverRows$Diagrams", name := "orders", desc := "()I" } : MethodName) : Cond) ∈ lwg := lw_in (i := 355) (by decide +kernel) (by decide +kernel)
theorem mw_im_Diagrams_orders : (Cond.instanceMethod ({ cls := "CoverRows$Diagrams", name := "orders", desc := "()I" } : MethodName) : Cond) ∈ lwg := lw_in (i := 356) (by decide +kernel) (by decide +kernel)
theorem mw_se_Diagrams_orders : (Cond.selects "CoverRows$Diagrams" ({ cls := "CoverRows$Diagrams", name := "orders", desc := "()I" } : MethodName) ({ cls := "CoverRows$Diagrams", name := "orders", desc := "()I" } : MethodName) : Cond) ∈ lwg := lw_in (i := 357) (by decide +kernel) (by decide +kernel)
theorem mw_code_Diagrams_orders : (Cond.code ({ cls := "CoverRows$Diagrams", name := "orders", desc := "()I" } : MethodName) prog_4_method_2_code (1 : Nat) (Option.some FieldType.int) : Cond) ∈ lwg := lw_in (i := 358) (by decide +kernel) (by decide +kernel)
theorem mw_ml_Law_138 : (Cond.methodLink "CoverRowsLaw" (138 : Nat) ({ cls := "CoverRows", name := "clear", desc := "()V" } : MethodName) : Cond) ∈ lwg := lw_in (i := 359) (by decide +kernel) (by decide +kernel)
theorem mw_im_Main_clear : (Cond.instanceMethod ({ cls := "CoverRows", name := "clear", desc := "()V" } : MethodName) : Cond) ∈ lwg := lw_in (i := 360) (by decide +kernel) (by decide +kernel)
theorem mw_se_Main_clear : (Cond.selects "CoverRows" ({ cls := "CoverRows", name := "clear", desc := "()V" } : MethodName) ({ cls := "CoverRows", name := "clear", desc := "()V" } : MethodName) : Cond) ∈ lwg := lw_in (i := 361) (by decide +kernel) (by decide +kernel)
theorem mw_code_Main_clear : (Cond.code ({ cls := "CoverRows", name := "clear", desc := "()V" } : MethodName) prog_1_method_18_code (1 : Nat) (Option.none : Option FieldType) : Cond) ∈ lwg := lw_in (i := 362) (by decide +kernel) (by decide +kernel)
theorem mw_ml_Main_211 : (Cond.methodLink "CoverRows" (211 : Nat) ({ cls := "CoverRows$Cubes", name := "dropAll", desc := "()V" } : MethodName) : Cond) ∈ lwg := lw_in (i := 363) (by decide +kernel) (by decide +kernel)
theorem mw_im_Cubes_dropAll : (Cond.instanceMethod ({ cls := "CoverRows$Cubes", name := "dropAll", desc := "()V" } : MethodName) : Cond) ∈ lwg := lw_in (i := 364) (by decide +kernel) (by decide +kernel)
theorem mw_se_Cubes_dropAll : (Cond.selects "CoverRows$Cubes" ({ cls := "CoverRows$Cubes", name := "dropAll", desc := "()V" } : MethodName) ({ cls := "CoverRows$Cubes", name := "dropAll", desc := "()V" } : MethodName) : Cond) ∈ lwg := lw_in (i := 365) (by decide +kernel) (by decide +kernel)
theorem mw_code_Cubes_dropAll : (Cond.code ({ cls := "CoverRows$Cubes", name := "dropAll", desc := "()V" } : MethodName) prog_3_method_5_code (1 : Nat) (Option.none : Option FieldType) : Cond) ∈ lwg := lw_in (i := 366) (by decide +kernel) (by decide +kernel)
theorem mw_ml_Main_214 : (Cond.methodLink "CoverRows" (214 : Nat) ({ cls := "CoverRows$Terms", name := "dropAll", desc := "()V" } : MethodName) : Cond) ∈ lwg := lw_in (i := 367) (by decide +kernel) (by decide +kernel)
theorem mw_ml_Law_64 : (Cond.methodLink "CoverRowsLaw" (64 : Nat) ({ cls := "CoverRowsLaw", name := "cell", desc := "([II)I" } : MethodName) : Cond) ∈ lwg := lw_in (i := 368) (by decide +kernel) (by decide +kernel)
theorem mw_st_Law_cell : (Cond.static ({ cls := "CoverRowsLaw", name := "cell", desc := "([II)I" } : MethodName) : Cond) ∈ lwg := lw_in (i := 369) (by decide +kernel) (by decide +kernel)
theorem mw_code_Law_cell : (Cond.code ({ cls := "CoverRowsLaw", name := "cell", desc := "([II)I" } : MethodName) method_2_code (2 : Nat) (Option.some FieldType.int) : Cond) ∈ lwg := lw_in (i := 370) (by decide +kernel) (by decide +kernel)
theorem mw_ml_Law_76 : (Cond.methodLink "CoverRowsLaw" (76 : Nat) ({ cls := "CoverRowsLaw", name := "cube", desc := "(LCoverRows;[J)I" } : MethodName) : Cond) ∈ lwg := lw_in (i := 371) (by decide +kernel) (by decide +kernel)
theorem mw_st_Law_cube : (Cond.static ({ cls := "CoverRowsLaw", name := "cube", desc := "(LCoverRows;[J)I" } : MethodName) : Cond) ∈ lwg := lw_in (i := 372) (by decide +kernel) (by decide +kernel)
theorem mw_code_Law_cube : (Cond.codeWith ({ cls := "CoverRowsLaw", name := "cube", desc := "(LCoverRows;[J)I" } : MethodName) method_3_code (3 : Nat) (Option.some FieldType.int) [((0 : Nat), (8 : Nat), (11 : Nat), (13 : Nat))] : Cond) ∈ lwg := lw_in (i := 373) (by decide +kernel) (by decide +kernel)
theorem mw_cl_Law_13 : (Cond.classLink "CoverRowsLaw" (13 : Nat) "java/lang/UnsupportedOperationException" : Cond) ∈ lwg := lw_in (i := 374) (by decide +kernel) (by decide +kernel)
theorem mw_ml_Law_7 : (Cond.methodLink "CoverRowsLaw" (7 : Nat) ({ cls := "CoverRows", name := "cube", desc := "()I" } : MethodName) : Cond) ∈ lwg := lw_in (i := 375) (by decide +kernel) (by decide +kernel)
theorem mw_im_Main_cube : (Cond.instanceMethod ({ cls := "CoverRows", name := "cube", desc := "()I" } : MethodName) : Cond) ∈ lwg := lw_in (i := 376) (by decide +kernel) (by decide +kernel)
theorem mw_se_Main_cube : (Cond.selects "CoverRows" ({ cls := "CoverRows", name := "cube", desc := "()I" } : MethodName) ({ cls := "CoverRows", name := "cube", desc := "()I" } : MethodName) : Cond) ∈ lwg := lw_in (i := 377) (by decide +kernel) (by decide +kernel)
theorem mw_code_Main_cube : (Cond.code ({ cls := "CoverRows", name := "cube", desc := "()I" } : MethodName) prog_1_method_2_code (1 : Nat) (Option.some FieldType.int) : Cond) ∈ lwg := lw_in (i := 378) (by decide +kernel) (by decide +kernel)
theorem mw_ml_Main_88 : (Cond.methodLink "CoverRows" (88 : Nat) ({ cls := "CoverRows$Cubes", name := "isFull", desc := "()Z" } : MethodName) : Cond) ∈ lwg := lw_in (i := 379) (by decide +kernel) (by decide +kernel)
theorem mw_im_Cubes_isFull : (Cond.instanceMethod ({ cls := "CoverRows$Cubes", name := "isFull", desc := "()Z" } : MethodName) : Cond) ∈ lwg := lw_in (i := 380) (by decide +kernel) (by decide +kernel)
theorem mw_se_Cubes_isFull : (Cond.selects "CoverRows$Cubes" ({ cls := "CoverRows$Cubes", name := "isFull", desc := "()Z" } : MethodName) ({ cls := "CoverRows$Cubes", name := "isFull", desc := "()Z" } : MethodName) : Cond) ∈ lwg := lw_in (i := 381) (by decide +kernel) (by decide +kernel)
theorem mw_code_Cubes_isFull : (Cond.code ({ cls := "CoverRows$Cubes", name := "isFull", desc := "()Z" } : MethodName) prog_3_method_3_code (1 : Nat) (Option.some FieldType.boolean) : Cond) ∈ lwg := lw_in (i := 382) (by decide +kernel) (by decide +kernel)
theorem mw_cl_Main_92 : (Cond.classLink "CoverRows" (92 : Nat) "java/lang/UnsupportedOperationException" : Cond) ∈ lwg := lw_in (i := 383) (by decide +kernel) (by decide +kernel)
theorem mw_ins_JUnsupportedOperationException : (Cond.instantiable "java/lang/UnsupportedOperationException" (6 : Nat) : Cond) ∈ lwg := lw_in (i := 384) (by decide +kernel) (by decide +kernel)
theorem mw_fl_JThrowable_198 : (Cond.fieldLink "java/lang/Throwable" (198 : Nat) "java/lang/Throwable" "backtrace" "Ljava/lang/Object;" : Cond) ∈ lwg := lw_in (i := 404) (by decide +kernel) (by decide +kernel)
theorem mw_im_JThrowable_init_V : (Cond.instanceMethod ({ cls := "java/lang/Throwable", name := "<init>", desc := "()V" } : MethodName) : Cond) ∈ lwg := lw_in (i := 406) (by decide +kernel) (by decide +kernel)
theorem mw_code_JThrowable_init_V : (Cond.code ({ cls := "java/lang/Throwable", name := "<init>", desc := "()V" } : MethodName) prog_20_method_1_code (1 : Nat) (Option.none : Option FieldType) : Cond) ∈ lwg := lw_in (i := 407) (by decide +kernel) (by decide +kernel)
theorem mw_ml_JThrowable_1 : (Cond.methodLink "java/lang/Throwable" (1 : Nat) ({ cls := "java/lang/Object", name := "<init>", desc := "()V" } : MethodName) : Cond) ∈ lwg := lw_in (i := 408) (by decide +kernel) (by decide +kernel)
theorem mw_fl_JThrowable_13 : (Cond.fieldLink "java/lang/Throwable" (13 : Nat) "java/lang/Throwable" "UNASSIGNED_STACK" "[Ljava/lang/StackTraceElement;" : Cond) ∈ lwg := lw_in (i := 409) (by decide +kernel) (by decide +kernel)
theorem mw_fl_JThrowable_20 : (Cond.fieldLink "java/lang/Throwable" (20 : Nat) "java/lang/Throwable" "SUPPRESSED_SENTINEL" "Ljava/util/List;" : Cond) ∈ lwg := lw_in (i := 411) (by decide +kernel) (by decide +kernel)
theorem mw_ml_JThrowable_27 : (Cond.methodLink "java/lang/Throwable" (27 : Nat) ({ cls := "java/lang/Throwable", name := "fillInStackTrace", desc := "()Ljava/lang/Throwable;" } : MethodName) : Cond) ∈ lwg := lw_in (i := 413) (by decide +kernel) (by decide +kernel)
theorem mw_im_JThrowable_fillInStackTrace_LjavalangThrowable : (Cond.instanceMethod ({ cls := "java/lang/Throwable", name := "fillInStackTrace", desc := "()Ljava/lang/Throwable;" } : MethodName) : Cond) ∈ lwg := lw_in (i := 414) (by decide +kernel) (by decide +kernel)
theorem mw_code_JThrowable_fillInStackTrace_LjavalangThrowable : (Cond.codeSync ({ cls := "java/lang/Throwable", name := "fillInStackTrace", desc := "()Ljava/lang/Throwable;" } : MethodName) prog_20_method_18_code (1 : Nat) (Option.some (FieldType.object "java/lang/Throwable")) : Cond) ∈ lwg := lw_in (i := 419) (by decide +kernel) (by decide +kernel)
theorem mw_ml_JThrowable_202 : (Cond.methodLink "java/lang/Throwable" (202 : Nat) ({ cls := "java/lang/Throwable", name := "fillInStackTrace", desc := "(I)Ljava/lang/Throwable;" } : MethodName) : Cond) ∈ lwg := lw_in (i := 420) (by decide +kernel) (by decide +kernel)
theorem mw_im_JThrowable_fillInStackTrace_ILjavalangThrowable : (Cond.instanceMethod ({ cls := "java/lang/Throwable", name := "fillInStackTrace", desc := "(I)Ljava/lang/Throwable;" } : MethodName) : Cond) ∈ lwg := lw_in (i := 422) (by decide +kernel) (by decide +kernel)
theorem mw_ins_JThrowable : (Cond.instantiable "java/lang/Throwable" (6 : Nat) : Cond) ∈ lwg := lw_in (i := 423) (by decide +kernel) (by decide +kernel)
theorem mw_ml_Main_96 : (Cond.methodLink "CoverRows" (96 : Nat) ({ cls := "java/lang/UnsupportedOperationException", name := "<init>", desc := "(Ljava/lang/String;)V" } : MethodName) : Cond) ∈ lwg := lw_in (i := 426) (by decide +kernel) (by decide +kernel)
theorem mw_im_JUnsupportedOperationException_init_LjavalangStringV : (Cond.instanceMethod ({ cls := "java/lang/UnsupportedOperationException", name := "<init>", desc := "(Ljava/lang/String;)V" } : MethodName) : Cond) ∈ lwg := lw_in (i := 427) (by decide +kernel) (by decide +kernel)
theorem mw_code_JUnsupportedOperationException_init_LjavalangStringV : (Cond.code ({ cls := "java/lang/UnsupportedOperationException", name := "<init>", desc := "(Ljava/lang/String;)V" } : MethodName) prog_21_method_2_code (2 : Nat) (Option.none : Option FieldType) : Cond) ∈ lwg := lw_in (i := 428) (by decide +kernel) (by decide +kernel)
theorem mw_ml_JUnsupportedOperationException_7 : (Cond.methodLink "java/lang/UnsupportedOperationException" (7 : Nat) ({ cls := "java/lang/RuntimeException", name := "<init>", desc := "(Ljava/lang/String;)V" } : MethodName) : Cond) ∈ lwg := lw_in (i := 429) (by decide +kernel) (by decide +kernel)
theorem mw_im_JRuntimeException_init_LjavalangStringV : (Cond.instanceMethod ({ cls := "java/lang/RuntimeException", name := "<init>", desc := "(Ljava/lang/String;)V" } : MethodName) : Cond) ∈ lwg := lw_in (i := 430) (by decide +kernel) (by decide +kernel)
theorem mw_code_JRuntimeException_init_LjavalangStringV : (Cond.code ({ cls := "java/lang/RuntimeException", name := "<init>", desc := "(Ljava/lang/String;)V" } : MethodName) prog_18_method_2_code (2 : Nat) (Option.none : Option FieldType) : Cond) ∈ lwg := lw_in (i := 431) (by decide +kernel) (by decide +kernel)
theorem mw_ml_JRuntimeException_7 : (Cond.methodLink "java/lang/RuntimeException" (7 : Nat) ({ cls := "java/lang/Exception", name := "<init>", desc := "(Ljava/lang/String;)V" } : MethodName) : Cond) ∈ lwg := lw_in (i := 432) (by decide +kernel) (by decide +kernel)
theorem mw_im_JException_init_LjavalangStringV : (Cond.instanceMethod ({ cls := "java/lang/Exception", name := "<init>", desc := "(Ljava/lang/String;)V" } : MethodName) : Cond) ∈ lwg := lw_in (i := 433) (by decide +kernel) (by decide +kernel)
theorem mw_code_JException_init_LjavalangStringV : (Cond.code ({ cls := "java/lang/Exception", name := "<init>", desc := "(Ljava/lang/String;)V" } : MethodName) prog_11_method_2_code (2 : Nat) (Option.none : Option FieldType) : Cond) ∈ lwg := lw_in (i := 434) (by decide +kernel) (by decide +kernel)
theorem mw_ml_JException_7 : (Cond.methodLink "java/lang/Exception" (7 : Nat) ({ cls := "java/lang/Throwable", name := "<init>", desc := "(Ljava/lang/String;)V" } : MethodName) : Cond) ∈ lwg := lw_in (i := 435) (by decide +kernel) (by decide +kernel)
theorem mw_im_JThrowable_init_LjavalangStringV : (Cond.instanceMethod ({ cls := "java/lang/Throwable", name := "<init>", desc := "(Ljava/lang/String;)V" } : MethodName) : Cond) ∈ lwg := lw_in (i := 436) (by decide +kernel) (by decide +kernel)
theorem mw_code_JThrowable_init_LjavalangStringV : (Cond.code ({ cls := "java/lang/Throwable", name := "<init>", desc := "(Ljava/lang/String;)V" } : MethodName) prog_20_method_2_code (2 : Nat) (Option.none : Option FieldType) : Cond) ∈ lwg := lw_in (i := 437) (by decide +kernel) (by decide +kernel)
theorem mw_fl_JThrowable_31 : (Cond.fieldLink "java/lang/Throwable" (31 : Nat) "java/lang/Throwable" "detailMessage" "Ljava/lang/String;" : Cond) ∈ lwg := lw_in (i := 439) (by decide +kernel) (by decide +kernel)
theorem mw_fl_JThrowable_7 : (Cond.fieldLink "java/lang/Throwable" (7 : Nat) "java/lang/Throwable" "cause" "Ljava/lang/Throwable;" : Cond) ∈ lwg := lw_in (i := 440) (by decide +kernel) (by decide +kernel)
theorem mw_fl_JThrowable_17 : (Cond.fieldLink "java/lang/Throwable" (17 : Nat) "java/lang/Throwable" "stackTrace" "[Ljava/lang/StackTraceElement;" : Cond) ∈ lwg := lw_in (i := 441) (by decide +kernel) (by decide +kernel)
theorem mw_fl_JThrowable_24 : (Cond.fieldLink "java/lang/Throwable" (24 : Nat) "java/lang/Throwable" "suppressedExceptions" "Ljava/util/List;" : Cond) ∈ lwg := lw_in (i := 442) (by decide +kernel) (by decide +kernel)
theorem mw_arr_byte : (Cond.arrayClass FieldType.byte : Cond) ∈ lwg := lw_in (i := 451) (by decide +kernel) (by decide +kernel)
theorem mw_ml_Main_99 : (Cond.methodLink "CoverRows" (99 : Nat) ({ cls := "CoverRows$Cubes", name := "add", desc := "()I" } : MethodName) : Cond) ∈ lwg := lw_in (i := 452) (by decide +kernel) (by decide +kernel)
theorem mw_im_Cubes_add : (Cond.instanceMethod ({ cls := "CoverRows$Cubes", name := "add", desc := "()I" } : MethodName) : Cond) ∈ lwg := lw_in (i := 453) (by decide +kernel) (by decide +kernel)
theorem mw_se_Cubes_add : (Cond.selects "CoverRows$Cubes" ({ cls := "CoverRows$Cubes", name := "add", desc := "()I" } : MethodName) ({ cls := "CoverRows$Cubes", name := "add", desc := "()I" } : MethodName) : Cond) ∈ lwg := lw_in (i := 454) (by decide +kernel) (by decide +kernel)
theorem mw_code_Cubes_add : (Cond.code ({ cls := "CoverRows$Cubes", name := "add", desc := "()I" } : MethodName) prog_3_method_4_code (2 : Nat) (Option.some FieldType.int) : Cond) ∈ lwg := lw_in (i := 455) (by decide +kernel) (by decide +kernel)
theorem mw_ml_Cubes_29 : (Cond.methodLink "CoverRows$Cubes" (29 : Nat) ({ cls := "CoverRows$Cubes", name := "isFull", desc := "()Z" } : MethodName) : Cond) ∈ lwg := lw_in (i := 456) (by decide +kernel) (by decide +kernel)
theorem mw_ml_Cubes_33 : (Cond.methodLink "CoverRows$Cubes" (33 : Nat) ({ cls := "CoverRows$Products", name := "allFree", desc := "()I" } : MethodName) : Cond) ∈ lwg := lw_in (i := 457) (by decide +kernel) (by decide +kernel)
theorem mw_im_Products_allFree : (Cond.instanceMethod ({ cls := "CoverRows$Products", name := "allFree", desc := "()I" } : MethodName) : Cond) ∈ lwg := lw_in (i := 458) (by decide +kernel) (by decide +kernel)
theorem mw_se_Products_allFree : (Cond.selects "CoverRows$Products" ({ cls := "CoverRows$Products", name := "allFree", desc := "()I" } : MethodName) ({ cls := "CoverRows$Products", name := "allFree", desc := "()I" } : MethodName) : Cond) ∈ lwg := lw_in (i := 459) (by decide +kernel) (by decide +kernel)
theorem mw_code_Products_allFree : (Cond.code ({ cls := "CoverRows$Products", name := "allFree", desc := "()I" } : MethodName) prog_7_method_6_code (1 : Nat) (Option.some FieldType.int) : Cond) ∈ lwg := lw_in (i := 460) (by decide +kernel) (by decide +kernel)
theorem mw_ml_Law_83 : (Cond.methodLink "CoverRowsLaw" (83 : Nat) ({ cls := "CoverRowsLaw", name := "literal", desc := "(LCoverRows;III[J)I" } : MethodName) : Cond) ∈ lwg := lw_in (i := 461) (by decide +kernel) (by decide +kernel)
end
section
theorem mw_st_Law_literal : (Cond.static ({ cls := "CoverRowsLaw", name := "literal", desc := "(LCoverRows;III[J)I" } : MethodName) : Cond) ∈ lwg := lw_in (i := 462) (by decide +kernel) (by decide +kernel)
theorem mw_code_Law_literal : (Cond.codeWith ({ cls := "CoverRowsLaw", name := "literal", desc := "(LCoverRows;III[J)I" } : MethodName) method_4_code (6 : Nat) (Option.some FieldType.int) [((0 : Nat), (19 : Nat), (22 : Nat), (19 : Nat)), ((0 : Nat), (19 : Nat), (26 : Nat), (21 : Nat))] : Cond) ∈ lwg := lw_in (i := 463) (by decide +kernel) (by decide +kernel)
theorem mw_cl_Law_19 : (Cond.classLink "CoverRowsLaw" (19 : Nat) "java/lang/IndexOutOfBoundsException" : Cond) ∈ lwg := lw_in (i := 464) (by decide +kernel) (by decide +kernel)
theorem mw_cl_Law_21 : (Cond.classLink "CoverRowsLaw" (21 : Nat) "java/lang/IllegalArgumentException" : Cond) ∈ lwg := lw_in (i := 465) (by decide +kernel) (by decide +kernel)
theorem mw_ml_Law_15 : (Cond.methodLink "CoverRowsLaw" (15 : Nat) ({ cls := "CoverRows", name := "literal", desc := "(III)Z" } : MethodName) : Cond) ∈ lwg := lw_in (i := 466) (by decide +kernel) (by decide +kernel)
theorem mw_im_Main_literal : (Cond.instanceMethod ({ cls := "CoverRows", name := "literal", desc := "(III)Z" } : MethodName) : Cond) ∈ lwg := lw_in (i := 467) (by decide +kernel) (by decide +kernel)
theorem mw_se_Main_literal : (Cond.selects "CoverRows" ({ cls := "CoverRows", name := "literal", desc := "(III)Z" } : MethodName) ({ cls := "CoverRows", name := "literal", desc := "(III)Z" } : MethodName) : Cond) ∈ lwg := lw_in (i := 468) (by decide +kernel) (by decide +kernel)
theorem mw_code_Main_literal : (Cond.code ({ cls := "CoverRows", name := "literal", desc := "(III)Z" } : MethodName) prog_1_method_3_code (5 : Nat) (Option.some FieldType.boolean) : Cond) ∈ lwg := lw_in (i := 469) (by decide +kernel) (by decide +kernel)
theorem mw_ml_Main_103 : (Cond.methodLink "CoverRows" (103 : Nat) ({ cls := "CoverRows$Cubes", name := "holds", desc := "(I)Z" } : MethodName) : Cond) ∈ lwg := lw_in (i := 470) (by decide +kernel) (by decide +kernel)
theorem mw_im_Cubes_holds : (Cond.instanceMethod ({ cls := "CoverRows$Cubes", name := "holds", desc := "(I)Z" } : MethodName) : Cond) ∈ lwg := lw_in (i := 471) (by decide +kernel) (by decide +kernel)
theorem mw_se_Cubes_holds : (Cond.selects "CoverRows$Cubes" ({ cls := "CoverRows$Cubes", name := "holds", desc := "(I)Z" } : MethodName) ({ cls := "CoverRows$Cubes", name := "holds", desc := "(I)Z" } : MethodName) : Cond) ∈ lwg := lw_in (i := 472) (by decide +kernel) (by decide +kernel)
theorem mw_code_Cubes_holds : (Cond.code ({ cls := "CoverRows$Cubes", name := "holds", desc := "(I)Z" } : MethodName) prog_3_method_2_code (2 : Nat) (Option.some FieldType.boolean) : Cond) ∈ lwg := lw_in (i := 473) (by decide +kernel) (by decide +kernel)
theorem mw_cl_Main_107 : (Cond.classLink "CoverRows" (107 : Nat) "java/lang/IndexOutOfBoundsException" : Cond) ∈ lwg := lw_in (i := 474) (by decide +kernel) (by decide +kernel)
theorem mw_ins_JIndexOutOfBoundsException : (Cond.instantiable "java/lang/IndexOutOfBoundsException" (6 : Nat) : Cond) ∈ lwg := lw_in (i := 475) (by decide +kernel) (by decide +kernel)
theorem mw_ml_Main_111 : (Cond.methodLink "CoverRows" (111 : Nat) ({ cls := "java/lang/IndexOutOfBoundsException", name := "<init>", desc := "(Ljava/lang/String;)V" } : MethodName) : Cond) ∈ lwg := lw_in (i := 484) (by decide +kernel) (by decide +kernel)
theorem mw_im_JIndexOutOfBoundsException_init_LjavalangStringV : (Cond.instanceMethod ({ cls := "java/lang/IndexOutOfBoundsException", name := "<init>", desc := "(Ljava/lang/String;)V" } : MethodName) : Cond) ∈ lwg := lw_in (i := 485) (by decide +kernel) (by decide +kernel)
theorem mw_code_JIndexOutOfBoundsException_init_LjavalangStringV : (Cond.code ({ cls := "java/lang/IndexOutOfBoundsException", name := "<init>", desc := "(Ljava/lang/String;)V" } : MethodName) prog_14_method_2_code (2 : Nat) (Option.none : Option FieldType) : Cond) ∈ lwg := lw_in (i := 486) (by decide +kernel) (by decide +kernel)
theorem mw_ml_JIndexOutOfBoundsException_7 : (Cond.methodLink "java/lang/IndexOutOfBoundsException" (7 : Nat) ({ cls := "java/lang/RuntimeException", name := "<init>", desc := "(Ljava/lang/String;)V" } : MethodName) : Cond) ∈ lwg := lw_in (i := 487) (by decide +kernel) (by decide +kernel)
theorem mw_cl_Main_112 : (Cond.classLink "CoverRows" (112 : Nat) "java/lang/IllegalArgumentException" : Cond) ∈ lwg := lw_in (i := 490) (by decide +kernel) (by decide +kernel)
theorem mw_ins_JIllegalArgumentException : (Cond.instantiable "java/lang/IllegalArgumentException" (6 : Nat) : Cond) ∈ lwg := lw_in (i := 491) (by decide +kernel) (by decide +kernel)
theorem mw_ml_Main_116 : (Cond.methodLink "CoverRows" (116 : Nat) ({ cls := "java/lang/IllegalArgumentException", name := "<init>", desc := "(Ljava/lang/String;)V" } : MethodName) : Cond) ∈ lwg := lw_in (i := 500) (by decide +kernel) (by decide +kernel)
theorem mw_im_JIllegalArgumentException_init_LjavalangStringV : (Cond.instanceMethod ({ cls := "java/lang/IllegalArgumentException", name := "<init>", desc := "(Ljava/lang/String;)V" } : MethodName) : Cond) ∈ lwg := lw_in (i := 501) (by decide +kernel) (by decide +kernel)
theorem mw_code_JIllegalArgumentException_init_LjavalangStringV : (Cond.code ({ cls := "java/lang/IllegalArgumentException", name := "<init>", desc := "(Ljava/lang/String;)V" } : MethodName) prog_12_method_2_code (2 : Nat) (Option.none : Option FieldType) : Cond) ∈ lwg := lw_in (i := 502) (by decide +kernel) (by decide +kernel)
theorem mw_ml_JIllegalArgumentException_7 : (Cond.methodLink "java/lang/IllegalArgumentException" (7 : Nat) ({ cls := "java/lang/RuntimeException", name := "<init>", desc := "(Ljava/lang/String;)V" } : MethodName) : Cond) ∈ lwg := lw_in (i := 503) (by decide +kernel) (by decide +kernel)
theorem mw_ml_Main_117 : (Cond.methodLink "CoverRows" (117 : Nat) ({ cls := "CoverRows$Cubes", name := "setDigit", desc := "(III)Z" } : MethodName) : Cond) ∈ lwg := lw_in (i := 506) (by decide +kernel) (by decide +kernel)
theorem mw_im_Cubes_setDigit : (Cond.instanceMethod ({ cls := "CoverRows$Cubes", name := "setDigit", desc := "(III)Z" } : MethodName) : Cond) ∈ lwg := lw_in (i := 507) (by decide +kernel) (by decide +kernel)
theorem mw_se_Cubes_setDigit : (Cond.selects "CoverRows$Cubes" ({ cls := "CoverRows$Cubes", name := "setDigit", desc := "(III)Z" } : MethodName) ({ cls := "CoverRows$Cubes", name := "setDigit", desc := "(III)Z" } : MethodName) : Cond) ∈ lwg := lw_in (i := 508) (by decide +kernel) (by decide +kernel)
theorem mw_code_Cubes_setDigit : (Cond.code ({ cls := "CoverRows$Cubes", name := "setDigit", desc := "(III)Z" } : MethodName) prog_3_method_6_code (4 : Nat) (Option.some FieldType.boolean) : Cond) ∈ lwg := lw_in (i := 509) (by decide +kernel) (by decide +kernel)
theorem mw_ml_Cubes_39 : (Cond.methodLink "CoverRows$Cubes" (39 : Nat) ({ cls := "CoverRows$Products", name := "digit", desc := "(II)I" } : MethodName) : Cond) ∈ lwg := lw_in (i := 510) (by decide +kernel) (by decide +kernel)
theorem mw_ml_Cubes_43 : (Cond.methodLink "CoverRows$Cubes" (43 : Nat) ({ cls := "CoverRows$Products", name := "withDigit", desc := "(III)I" } : MethodName) : Cond) ∈ lwg := lw_in (i := 511) (by decide +kernel) (by decide +kernel)
theorem mw_ml_Law_87 : (Cond.methodLink "CoverRowsLaw" (87 : Nat) ({ cls := "CoverRowsLaw", name := "to", desc := "(LCoverRows;III[J)I" } : MethodName) : Cond) ∈ lwg := lw_in (i := 512) (by decide +kernel) (by decide +kernel)
theorem mw_st_Law_to : (Cond.static ({ cls := "CoverRowsLaw", name := "to", desc := "(LCoverRows;III[J)I" } : MethodName) : Cond) ∈ lwg := lw_in (i := 513) (by decide +kernel) (by decide +kernel)
theorem mw_code_Law_to : (Cond.codeWith ({ cls := "CoverRowsLaw", name := "to", desc := "(LCoverRows;III[J)I" } : MethodName) method_5_code (6 : Nat) (Option.some FieldType.int) [((0 : Nat), (19 : Nat), (22 : Nat), (19 : Nat)), ((0 : Nat), (19 : Nat), (26 : Nat), (21 : Nat))] : Cond) ∈ lwg := lw_in (i := 514) (by decide +kernel) (by decide +kernel)
theorem mw_ml_Law_23 : (Cond.methodLink "CoverRowsLaw" (23 : Nat) ({ cls := "CoverRows", name := "to", desc := "(III)Z" } : MethodName) : Cond) ∈ lwg := lw_in (i := 515) (by decide +kernel) (by decide +kernel)
theorem mw_im_Main_to : (Cond.instanceMethod ({ cls := "CoverRows", name := "to", desc := "(III)Z" } : MethodName) : Cond) ∈ lwg := lw_in (i := 516) (by decide +kernel) (by decide +kernel)
theorem mw_se_Main_to : (Cond.selects "CoverRows" ({ cls := "CoverRows", name := "to", desc := "(III)Z" } : MethodName) ({ cls := "CoverRows", name := "to", desc := "(III)Z" } : MethodName) : Cond) ∈ lwg := lw_in (i := 517) (by decide +kernel) (by decide +kernel)
theorem mw_code_Main_to : (Cond.code ({ cls := "CoverRows", name := "to", desc := "(III)Z" } : MethodName) prog_1_method_4_code (5 : Nat) (Option.some FieldType.boolean) : Cond) ∈ lwg := lw_in (i := 518) (by decide +kernel) (by decide +kernel)
theorem mw_ml_Main_125 : (Cond.methodLink "CoverRows" (125 : Nat) ({ cls := "CoverRows$Cubes", name := "setKind", desc := "(III)Z" } : MethodName) : Cond) ∈ lwg := lw_in (i := 521) (by decide +kernel) (by decide +kernel)
theorem mw_im_Cubes_setKind : (Cond.instanceMethod ({ cls := "CoverRows$Cubes", name := "setKind", desc := "(III)Z" } : MethodName) : Cond) ∈ lwg := lw_in (i := 522) (by decide +kernel) (by decide +kernel)
theorem mw_se_Cubes_setKind : (Cond.selects "CoverRows$Cubes" ({ cls := "CoverRows$Cubes", name := "setKind", desc := "(III)Z" } : MethodName) ({ cls := "CoverRows$Cubes", name := "setKind", desc := "(III)Z" } : MethodName) : Cond) ∈ lwg := lw_in (i := 523) (by decide +kernel) (by decide +kernel)
theorem mw_code_Cubes_setKind : (Cond.code ({ cls := "CoverRows$Cubes", name := "setKind", desc := "(III)Z" } : MethodName) prog_3_method_7_code (5 : Nat) (Option.some FieldType.boolean) : Cond) ∈ lwg := lw_in (i := 524) (by decide +kernel) (by decide +kernel)
theorem mw_ml_Law_94 : (Cond.methodLink "CoverRowsLaw" (94 : Nat) ({ cls := "CoverRowsLaw", name := "prime", desc := "(LCoverRows;II[J)I" } : MethodName) : Cond) ∈ lwg := lw_in (i := 525) (by decide +kernel) (by decide +kernel)
theorem mw_st_Law_prime : (Cond.static ({ cls := "CoverRowsLaw", name := "prime", desc := "(LCoverRows;II[J)I" } : MethodName) : Cond) ∈ lwg := lw_in (i := 526) (by decide +kernel) (by decide +kernel)
theorem mw_code_Law_prime : (Cond.codeWith ({ cls := "CoverRowsLaw", name := "prime", desc := "(LCoverRows;II[J)I" } : MethodName) method_6_code (5 : Nat) (Option.some FieldType.int) [((0 : Nat), (10 : Nat), (13 : Nat), (19 : Nat))] : Cond) ∈ lwg := lw_in (i := 527) (by decide +kernel) (by decide +kernel)
theorem mw_ml_Law_26 : (Cond.methodLink "CoverRowsLaw" (26 : Nat) ({ cls := "CoverRows", name := "prime", desc := "(II)I" } : MethodName) : Cond) ∈ lwg := lw_in (i := 528) (by decide +kernel) (by decide +kernel)
theorem mw_im_Main_prime : (Cond.instanceMethod ({ cls := "CoverRows", name := "prime", desc := "(II)I" } : MethodName) : Cond) ∈ lwg := lw_in (i := 529) (by decide +kernel) (by decide +kernel)
theorem mw_se_Main_prime : (Cond.selects "CoverRows" ({ cls := "CoverRows", name := "prime", desc := "(II)I" } : MethodName) ({ cls := "CoverRows", name := "prime", desc := "(II)I" } : MethodName) : Cond) ∈ lwg := lw_in (i := 530) (by decide +kernel) (by decide +kernel)
theorem mw_code_Main_prime : (Cond.code ({ cls := "CoverRows", name := "prime", desc := "(II)I" } : MethodName) prog_1_method_6_code (3 : Nat) (Option.some FieldType.int) : Cond) ∈ lwg := lw_in (i := 531) (by decide +kernel) (by decide +kernel)
theorem mw_ml_Main_134 : (Cond.methodLink "CoverRows" (134 : Nat) ({ cls := "CoverRows$Terms", name := "holds", desc := "(I)Z" } : MethodName) : Cond) ∈ lwg := lw_in (i := 532) (by decide +kernel) (by decide +kernel)
theorem mw_im_Terms_holds : (Cond.instanceMethod ({ cls := "CoverRows$Terms", name := "holds", desc := "(I)Z" } : MethodName) : Cond) ∈ lwg := lw_in (i := 533) (by decide +kernel) (by decide +kernel)
theorem mw_se_Terms_holds : (Cond.selects "CoverRows$Terms" ({ cls := "CoverRows$Terms", name := "holds", desc := "(I)Z" } : MethodName) ({ cls := "CoverRows$Terms", name := "holds", desc := "(I)Z" } : MethodName) : Cond) ∈ lwg := lw_in (i := 534) (by decide +kernel) (by decide +kernel)
theorem mw_code_Terms_holds : (Cond.code ({ cls := "CoverRows$Terms", name := "holds", desc := "(I)Z" } : MethodName) prog_8_method_3_code (2 : Nat) (Option.some FieldType.boolean) : Cond) ∈ lwg := lw_in (i := 535) (by decide +kernel) (by decide +kernel)
theorem mw_ml_Main_135 : (Cond.methodLink "CoverRows" (135 : Nat) ({ cls := "CoverRows", name := "isColumn", desc := "(I)Z" } : MethodName) : Cond) ∈ lwg := lw_in (i := 536) (by decide +kernel) (by decide +kernel)
theorem mw_im_Main_isColumn : (Cond.instanceMethod ({ cls := "CoverRows", name := "isColumn", desc := "(I)Z" } : MethodName) : Cond) ∈ lwg := lw_in (i := 538) (by decide +kernel) (by decide +kernel)
theorem mw_code_Main_isColumn : (Cond.code ({ cls := "CoverRows", name := "isColumn", desc := "(I)Z" } : MethodName) prog_1_method_20_code (2 : Nat) (Option.some FieldType.boolean) : Cond) ∈ lwg := lw_in (i := 539) (by decide +kernel) (by decide +kernel)
theorem mw_ml_Main_140 : (Cond.methodLink "CoverRows" (140 : Nat) ({ cls := "CoverRows$Terms", name := "column", desc := "(II)I" } : MethodName) : Cond) ∈ lwg := lw_in (i := 541) (by decide +kernel) (by decide +kernel)
theorem mw_im_Terms_column : (Cond.instanceMethod ({ cls := "CoverRows$Terms", name := "column", desc := "(II)I" } : MethodName) : Cond) ∈ lwg := lw_in (i := 542) (by decide +kernel) (by decide +kernel)
theorem mw_se_Terms_column : (Cond.selects "CoverRows$Terms" ({ cls := "CoverRows$Terms", name := "column", desc := "(II)I" } : MethodName) ({ cls := "CoverRows$Terms", name := "column", desc := "(II)I" } : MethodName) : Cond) ∈ lwg := lw_in (i := 543) (by decide +kernel) (by decide +kernel)
theorem mw_code_Terms_column : (Cond.code ({ cls := "CoverRows$Terms", name := "column", desc := "(II)I" } : MethodName) prog_8_method_8_code (4 : Nat) (Option.some FieldType.int) : Cond) ∈ lwg := lw_in (i := 544) (by decide +kernel) (by decide +kernel)
theorem mw_ml_Terms_33 : (Cond.methodLink "CoverRows$Terms" (33 : Nat) ({ cls := "CoverRows$Products", name := "inputs", desc := "()I" } : MethodName) : Cond) ∈ lwg := lw_in (i := 545) (by decide +kernel) (by decide +kernel)
theorem mw_ml_Terms_39 : (Cond.methodLink "CoverRows$Terms" (39 : Nat) ({ cls := "CoverRows$Products", name := "digit", desc := "(II)I" } : MethodName) : Cond) ∈ lwg := lw_in (i := 546) (by decide +kernel) (by decide +kernel)
theorem mw_ml_Law_100 : (Cond.methodLink "CoverRowsLaw" (100 : Nat) ({ cls := "CoverRowsLaw", name := "run", desc := "(LCoverRows;ZJ[J)I" } : MethodName) : Cond) ∈ lwg := lw_in (i := 547) (by decide +kernel) (by decide +kernel)
theorem mw_st_Law_run : (Cond.static ({ cls := "CoverRowsLaw", name := "run", desc := "(LCoverRows;ZJ[J)I" } : MethodName) : Cond) ∈ lwg := lw_in (i := 548) (by decide +kernel) (by decide +kernel)
theorem mw_code_Law_run : (Cond.codeWith ({ cls := "CoverRowsLaw", name := "run", desc := "(LCoverRows;ZJ[J)I" } : MethodName) method_7_code (6 : Nat) (Option.some FieldType.int) [((0 : Nat), (11 : Nat), (14 : Nat), (21 : Nat))] : Cond) ∈ lwg := lw_in (i := 549) (by decide +kernel) (by decide +kernel)
theorem mw_ml_Law_30 : (Cond.methodLink "CoverRowsLaw" (30 : Nat) ({ cls := "CoverRows", name := "run", desc := "(ZJ)I" } : MethodName) : Cond) ∈ lwg := lw_in (i := 550) (by decide +kernel) (by decide +kernel)
theorem mw_im_Main_run : (Cond.instanceMethod ({ cls := "CoverRows", name := "run", desc := "(ZJ)I" } : MethodName) : Cond) ∈ lwg := lw_in (i := 551) (by decide +kernel) (by decide +kernel)
theorem mw_se_Main_run : (Cond.selects "CoverRows" ({ cls := "CoverRows", name := "run", desc := "(ZJ)I" } : MethodName) ({ cls := "CoverRows", name := "run", desc := "(ZJ)I" } : MethodName) : Cond) ∈ lwg := lw_in (i := 552) (by decide +kernel) (by decide +kernel)
theorem mw_code_Main_run : (Cond.code ({ cls := "CoverRows", name := "run", desc := "(ZJ)I" } : MethodName) prog_1_method_7_code (4 : Nat) (Option.some FieldType.int) : Cond) ∈ lwg := lw_in (i := 553) (by decide +kernel) (by decide +kernel)
theorem mw_ml_Main_145 : (Cond.methodLink "CoverRows" (145 : Nat) ({ cls := "CoverRows$CoverFinder", name := "find", desc := "(LCoverRows$Terms;LCoverRows$Cubes;Z)V" } : MethodName) : Cond) ∈ lwg := lw_in (i := 555) (by decide +kernel) (by decide +kernel)
theorem mw_im_CoverFinder_find : (Cond.instanceMethod ({ cls := "CoverRows$CoverFinder", name := "find", desc := "(LCoverRows$Terms;LCoverRows$Cubes;Z)V" } : MethodName) : Cond) ∈ lwg := lw_in (i := 556) (by decide +kernel) (by decide +kernel)
theorem mw_se_CoverFinder_find : (Cond.selects "CoverRows$CoverFinder" ({ cls := "CoverRows$CoverFinder", name := "find", desc := "(LCoverRows$Terms;LCoverRows$Cubes;Z)V" } : MethodName) ({ cls := "CoverRows$CoverFinder", name := "find", desc := "(LCoverRows$Terms;LCoverRows$Cubes;Z)V" } : MethodName) : Cond) ∈ lwg := lw_in (i := 557) (by decide +kernel) (by decide +kernel)
theorem mw_code_CoverFinder_find : (Cond.code ({ cls := "CoverRows$CoverFinder", name := "find", desc := "(LCoverRows$Terms;LCoverRows$Cubes;Z)V" } : MethodName) prog_2_method_3_code (6 : Nat) (Option.none : Option FieldType) : Cond) ∈ lwg := lw_in (i := 558) (by decide +kernel) (by decide +kernel)
theorem mw_ml_CoverFinder_36 : (Cond.methodLink "CoverRows$CoverFinder" (36 : Nat) ({ cls := "CoverRows$CoverFinder", name := "fillRows", desc := "(LCoverRows$Terms;LCoverRows$Cubes;)V" } : MethodName) : Cond) ∈ lwg := lw_in (i := 559) (by decide +kernel) (by decide +kernel)
theorem mw_im_CoverFinder_fillRows : (Cond.instanceMethod ({ cls := "CoverRows$CoverFinder", name := "fillRows", desc := "(LCoverRows$Terms;LCoverRows$Cubes;)V" } : MethodName) : Cond) ∈ lwg := lw_in (i := 561) (by decide +kernel) (by decide +kernel)
theorem mw_code_CoverFinder_fillRows : (Cond.code ({ cls := "CoverRows$CoverFinder", name := "fillRows", desc := "(LCoverRows$Terms;LCoverRows$Cubes;)V" } : MethodName) prog_2_method_4_code (6 : Nat) (Option.none : Option FieldType) : Cond) ∈ lwg := lw_in (i := 562) (by decide +kernel) (by decide +kernel)
theorem mw_ml_CoverFinder_65 : (Cond.methodLink "CoverRows$CoverFinder" (65 : Nat) ({ cls := "CoverRows$Terms", name := "size", desc := "()I" } : MethodName) : Cond) ∈ lwg := lw_in (i := 563) (by decide +kernel) (by decide +kernel)
theorem mw_ml_CoverFinder_70 : (Cond.methodLink "CoverRows$CoverFinder" (70 : Nat) ({ cls := "CoverRows$Cubes", name := "on", desc := "(I)I" } : MethodName) : Cond) ∈ lwg := lw_in (i := 564) (by decide +kernel) (by decide +kernel)
theorem mw_ml_CoverFinder_76 : (Cond.methodLink "CoverRows$CoverFinder" (76 : Nat) ({ cls := "CoverRows$Terms", name := "hadFor", desc := "(II)I" } : MethodName) : Cond) ∈ lwg := lw_in (i := 565) (by decide +kernel) (by decide +kernel)
theorem mw_im_Terms_hadFor : (Cond.instanceMethod ({ cls := "CoverRows$Terms", name := "hadFor", desc := "(II)I" } : MethodName) : Cond) ∈ lwg := lw_in (i := 566) (by decide +kernel) (by decide +kernel)
theorem mw_se_Terms_hadFor : (Cond.selects "CoverRows$Terms" ({ cls := "CoverRows$Terms", name := "hadFor", desc := "(II)I" } : MethodName) ({ cls := "CoverRows$Terms", name := "hadFor", desc := "(II)I" } : MethodName) : Cond) ∈ lwg := lw_in (i := 567) (by decide +kernel) (by decide +kernel)
theorem mw_code_Terms_hadFor : (Cond.code ({ cls := "CoverRows$Terms", name := "hadFor", desc := "(II)I" } : MethodName) prog_8_method_10_code (3 : Nat) (Option.some FieldType.int) : Cond) ∈ lwg := lw_in (i := 568) (by decide +kernel) (by decide +kernel)
theorem mw_ml_Terms_52 : (Cond.methodLink "CoverRows$Terms" (52 : Nat) ({ cls := "CoverRows$Products", name := "had", desc := "(I)I" } : MethodName) : Cond) ∈ lwg := lw_in (i := 569) (by decide +kernel) (by decide +kernel)
theorem mw_ml_CoverFinder_80 : (Cond.methodLink "CoverRows$CoverFinder" (80 : Nat) ({ cls := "CoverRows$Terms", name := "costOf", desc := "(I)I" } : MethodName) : Cond) ∈ lwg := lw_in (i := 570) (by decide +kernel) (by decide +kernel)
theorem mw_im_Terms_costOf : (Cond.instanceMethod ({ cls := "CoverRows$Terms", name := "costOf", desc := "(I)I" } : MethodName) : Cond) ∈ lwg := lw_in (i := 571) (by decide +kernel) (by decide +kernel)
theorem mw_se_Terms_costOf : (Cond.selects "CoverRows$Terms" ({ cls := "CoverRows$Terms", name := "costOf", desc := "(I)I" } : MethodName) ({ cls := "CoverRows$Terms", name := "costOf", desc := "(I)I" } : MethodName) : Cond) ∈ lwg := lw_in (i := 572) (by decide +kernel) (by decide +kernel)
theorem mw_code_Terms_costOf : (Cond.code ({ cls := "CoverRows$Terms", name := "costOf", desc := "(I)I" } : MethodName) prog_8_method_9_code (2 : Nat) (Option.some FieldType.int) : Cond) ∈ lwg := lw_in (i := 573) (by decide +kernel) (by decide +kernel)
theorem mw_ml_Terms_43 : (Cond.methodLink "CoverRows$Terms" (43 : Nat) ({ cls := "CoverRows$Products", name := "care", desc := "(I)I" } : MethodName) : Cond) ∈ lwg := lw_in (i := 574) (by decide +kernel) (by decide +kernel)
theorem mw_im_Products_care : (Cond.instanceMethod ({ cls := "CoverRows$Products", name := "care", desc := "(I)I" } : MethodName) : Cond) ∈ lwg := lw_in (i := 575) (by decide +kernel) (by decide +kernel)
theorem mw_se_Products_care : (Cond.selects "CoverRows$Products" ({ cls := "CoverRows$Products", name := "care", desc := "(I)I" } : MethodName) ({ cls := "CoverRows$Products", name := "care", desc := "(I)I" } : MethodName) : Cond) ∈ lwg := lw_in (i := 576) (by decide +kernel) (by decide +kernel)
theorem mw_code_Products_care : (Cond.code ({ cls := "CoverRows$Products", name := "care", desc := "(I)I" } : MethodName) prog_7_method_7_code (2 : Nat) (Option.some FieldType.int) : Cond) ∈ lwg := lw_in (i := 577) (by decide +kernel) (by decide +kernel)
theorem mw_ml_Terms_47 : (Cond.methodLink "CoverRows$Terms" (47 : Nat) ({ cls := "java/lang/Integer", name := "bitCount", desc := "(I)I" } : MethodName) : Cond) ∈ lwg := lw_in (i := 578) (by decide +kernel) (by decide +kernel)
theorem mw_st_JInteger_bitCount_II : (Cond.static ({ cls := "java/lang/Integer", name := "bitCount", desc := "(I)I" } : MethodName) : Cond) ∈ lwg := lw_in (i := 579) (by decide +kernel) (by decide +kernel)
theorem mw_code_JInteger_bitCount_II : (Cond.code ({ cls := "java/lang/Integer", name := "bitCount", desc := "(I)I" } : MethodName) prog_15_method_49_code (1 : Nat) (Option.some FieldType.int) : Cond) ∈ lwg := lw_in (i := 580) (by decide +kernel) (by decide +kernel)
theorem mw_co_JInteger_265 : (Cond.constant "java/lang/Integer" (265 : Nat) (1431655765 : Int32) : Cond) ∈ lwg := lw_in (i := 581) (by decide +kernel) (by decide +kernel)
theorem mw_co_JInteger_266 : (Cond.constant "java/lang/Integer" (266 : Nat) (858993459 : Int32) : Cond) ∈ lwg := lw_in (i := 582) (by decide +kernel) (by decide +kernel)
theorem mw_co_JInteger_267 : (Cond.constant "java/lang/Integer" (267 : Nat) (252645135 : Int32) : Cond) ∈ lwg := lw_in (i := 583) (by decide +kernel) (by decide +kernel)
theorem mw_ml_CoverFinder_83 : (Cond.methodLink "CoverRows$CoverFinder" (83 : Nat) ({ cls := "CoverRows$CoverFinder", name := "weigh", desc := "(I)J" } : MethodName) : Cond) ∈ lwg := lw_in (i := 584) (by decide +kernel) (by decide +kernel)
theorem mw_im_CoverFinder_weigh : (Cond.instanceMethod ({ cls := "CoverRows$CoverFinder", name := "weigh", desc := "(I)J" } : MethodName) : Cond) ∈ lwg := lw_in (i := 586) (by decide +kernel) (by decide +kernel)
theorem mw_code_CoverFinder_weigh : (Cond.code ({ cls := "CoverRows$CoverFinder", name := "weigh", desc := "(I)J" } : MethodName) prog_2_method_5_code (2 : Nat) (Option.some FieldType.long) : Cond) ∈ lwg := lw_in (i := 587) (by decide +kernel) (by decide +kernel)
theorem mw_co_CoverFinder_90 : (Cond.constantLong "CoverRows$CoverFinder" (90 : Nat) (72057594037927936 : Int64) : Cond) ∈ lwg := lw_in (i := 588) (by decide +kernel) (by decide +kernel)
theorem mw_ml_CoverFinder_87 : (Cond.methodLink "CoverRows$CoverFinder" (87 : Nat) ({ cls := "CoverRows$CoverFinder", name := "haversOf", desc := "(I)J" } : MethodName) : Cond) ∈ lwg := lw_in (i := 589) (by decide +kernel) (by decide +kernel)
theorem mw_im_CoverFinder_haversOf : (Cond.instanceMethod ({ cls := "CoverRows$CoverFinder", name := "haversOf", desc := "(I)J" } : MethodName) : Cond) ∈ lwg := lw_in (i := 591) (by decide +kernel) (by decide +kernel)
theorem mw_code_CoverFinder_haversOf : (Cond.code ({ cls := "CoverRows$CoverFinder", name := "haversOf", desc := "(I)J" } : MethodName) prog_2_method_7_code (5 : Nat) (Option.some FieldType.long) : Cond) ∈ lwg := lw_in (i := 592) (by decide +kernel) (by decide +kernel)
theorem mw_ml_CoverFinder_40 : (Cond.methodLink "CoverRows$CoverFinder" (40 : Nat) ({ cls := "CoverRows$CoverFinder", name := "quickSet", desc := "()J" } : MethodName) : Cond) ∈ lwg := lw_in (i := 593) (by decide +kernel) (by decide +kernel)
theorem mw_im_CoverFinder_quickSet : (Cond.instanceMethod ({ cls := "CoverRows$CoverFinder", name := "quickSet", desc := "()J" } : MethodName) : Cond) ∈ lwg := lw_in (i := 595) (by decide +kernel) (by decide +kernel)
theorem mw_code_CoverFinder_quickSet : (Cond.code ({ cls := "CoverRows$CoverFinder", name := "quickSet", desc := "()J" } : MethodName) prog_2_method_9_code (8 : Nat) (Option.some FieldType.long) : Cond) ∈ lwg := lw_in (i := 596) (by decide +kernel) (by decide +kernel)
theorem mw_ml_CoverFinder_96 : (Cond.methodLink "CoverRows$CoverFinder" (96 : Nat) ({ cls := "CoverRows$CoverFinder", name := "quickPick", desc := "(I)I" } : MethodName) : Cond) ∈ lwg := lw_in (i := 597) (by decide +kernel) (by decide +kernel)
theorem mw_im_CoverFinder_quickPick : (Cond.instanceMethod ({ cls := "CoverRows$CoverFinder", name := "quickPick", desc := "(I)I" } : MethodName) : Cond) ∈ lwg := lw_in (i := 599) (by decide +kernel) (by decide +kernel)
theorem mw_code_CoverFinder_quickPick : (Cond.code ({ cls := "CoverRows$CoverFinder", name := "quickPick", desc := "(I)I" } : MethodName) prog_2_method_10_code (6 : Nat) (Option.some FieldType.int) : Cond) ∈ lwg := lw_in (i := 600) (by decide +kernel) (by decide +kernel)
theorem mw_ml_CoverFinder_103 : (Cond.methodLink "CoverRows$CoverFinder" (103 : Nat) ({ cls := "java/lang/Integer", name := "bitCount", desc := "(I)I" } : MethodName) : Cond) ∈ lwg := lw_in (i := 601) (by decide +kernel) (by decide +kernel)
theorem mw_co_CoverFinder_56 : (Cond.constantLong "CoverRows$CoverFinder" (56 : Nat) (-1 : Int64) : Cond) ∈ lwg := lw_in (i := 602) (by decide +kernel) (by decide +kernel)
theorem mw_ml_CoverFinder_99 : (Cond.methodLink "CoverRows$CoverFinder" (99 : Nat) ({ cls := "CoverRows$CoverFinder", name := "isCover", desc := "(J)Z" } : MethodName) : Cond) ∈ lwg := lw_in (i := 603) (by decide +kernel) (by decide +kernel)
theorem mw_im_CoverFinder_isCover : (Cond.instanceMethod ({ cls := "CoverRows$CoverFinder", name := "isCover", desc := "(J)Z" } : MethodName) : Cond) ∈ lwg := lw_in (i := 605) (by decide +kernel) (by decide +kernel)
theorem mw_code_CoverFinder_isCover : (Cond.code ({ cls := "CoverRows$CoverFinder", name := "isCover", desc := "(J)Z" } : MethodName) prog_2_method_11_code (5 : Nat) (Option.some FieldType.boolean) : Cond) ∈ lwg := lw_in (i := 606) (by decide +kernel) (by decide +kernel)
theorem mw_ml_CoverFinder_92 : (Cond.methodLink "CoverRows$CoverFinder" (92 : Nat) ({ cls := "CoverRows$CoverFinder", name := "isIn", desc := "(JI)Z" } : MethodName) : Cond) ∈ lwg := lw_in (i := 607) (by decide +kernel) (by decide +kernel)
theorem mw_st_CoverFinder_isIn : (Cond.static ({ cls := "CoverRows$CoverFinder", name := "isIn", desc := "(JI)Z" } : MethodName) : Cond) ∈ lwg := lw_in (i := 608) (by decide +kernel) (by decide +kernel)
theorem mw_code_CoverFinder_isIn : (Cond.code ({ cls := "CoverRows$CoverFinder", name := "isIn", desc := "(JI)Z" } : MethodName) prog_2_method_8_code (3 : Nat) (Option.some FieldType.boolean) : Cond) ∈ lwg := lw_in (i := 609) (by decide +kernel) (by decide +kernel)
theorem mw_ml_CoverFinder_44 : (Cond.methodLink "CoverRows$CoverFinder" (44 : Nat) ({ cls := "CoverRows$CoverFinder", name := "weightOf", desc := "(J)J" } : MethodName) : Cond) ∈ lwg := lw_in (i := 610) (by decide +kernel) (by decide +kernel)
theorem mw_im_CoverFinder_weightOf : (Cond.instanceMethod ({ cls := "CoverRows$CoverFinder", name := "weightOf", desc := "(J)J" } : MethodName) : Cond) ∈ lwg := lw_in (i := 612) (by decide +kernel) (by decide +kernel)
theorem mw_code_CoverFinder_weightOf : (Cond.code ({ cls := "CoverRows$CoverFinder", name := "weightOf", desc := "(J)J" } : MethodName) prog_2_method_6_code (6 : Nat) (Option.some FieldType.long) : Cond) ∈ lwg := lw_in (i := 613) (by decide +kernel) (by decide +kernel)
theorem mw_ml_CoverFinder_61 : (Cond.methodLink "CoverRows$CoverFinder" (61 : Nat) ({ cls := "CoverRows$CoverFinder", name := "improve", desc := "(IJJJI)V" } : MethodName) : Cond) ∈ lwg := lw_in (i := 614) (by decide +kernel) (by decide +kernel)
theorem mw_im_CoverFinder_improve : (Cond.instanceMethod ({ cls := "CoverRows$CoverFinder", name := "improve", desc := "(IJJJI)V" } : MethodName) : Cond) ∈ lwg := lw_in (i := 616) (by decide +kernel) (by decide +kernel)
theorem mw_code_CoverFinder_improve : (Cond.code ({ cls := "CoverRows$CoverFinder", name := "improve", desc := "(IJJJI)V" } : MethodName) prog_2_method_12_code (12 : Nat) (Option.none : Option FieldType) : Cond) ∈ lwg := lw_in (i := 617) (by decide +kernel) (by decide +kernel)
theorem mw_ml_CoverFinder_108 : (Cond.methodLink "CoverRows$CoverFinder" (108 : Nat) ({ cls := "CoverRows$CoverFinder", name := "keepIfLighter", desc := "(JJ)V" } : MethodName) : Cond) ∈ lwg := lw_in (i := 618) (by decide +kernel) (by decide +kernel)
theorem mw_im_CoverFinder_keepIfLighter : (Cond.instanceMethod ({ cls := "CoverRows$CoverFinder", name := "keepIfLighter", desc := "(JJ)V" } : MethodName) : Cond) ∈ lwg := lw_in (i := 620) (by decide +kernel) (by decide +kernel)
theorem mw_code_CoverFinder_keepIfLighter : (Cond.code ({ cls := "CoverRows$CoverFinder", name := "keepIfLighter", desc := "(JJ)V" } : MethodName) prog_2_method_14_code (5 : Nat) (Option.none : Option FieldType) : Cond) ∈ lwg := lw_in (i := 621) (by decide +kernel) (by decide +kernel)
theorem mw_ml_CoverFinder_112 : (Cond.methodLink "CoverRows$CoverFinder" (112 : Nat) ({ cls := "CoverRows$CoverFinder", name := "rarestPoint", desc := "(IJ)I" } : MethodName) : Cond) ∈ lwg := lw_in (i := 622) (by decide +kernel) (by decide +kernel)
theorem mw_im_CoverFinder_rarestPoint : (Cond.instanceMethod ({ cls := "CoverRows$CoverFinder", name := "rarestPoint", desc := "(IJ)I" } : MethodName) : Cond) ∈ lwg := lw_in (i := 624) (by decide +kernel) (by decide +kernel)
theorem mw_code_CoverFinder_rarestPoint : (Cond.code ({ cls := "CoverRows$CoverFinder", name := "rarestPoint", desc := "(IJ)I" } : MethodName) prog_2_method_15_code (8 : Nat) (Option.some FieldType.int) : Cond) ∈ lwg := lw_in (i := 625) (by decide +kernel) (by decide +kernel)
theorem mw_ml_CoverFinder_116 : (Cond.methodLink "CoverRows$CoverFinder" (116 : Nat) ({ cls := "java/lang/Long", name := "bitCount", desc := "(J)I" } : MethodName) : Cond) ∈ lwg := lw_in (i := 626) (by decide +kernel) (by decide +kernel)
theorem mw_st_JLong_bitCount_JI : (Cond.static ({ cls := "java/lang/Long", name := "bitCount", desc := "(J)I" } : MethodName) : Cond) ∈ lwg := lw_in (i := 627) (by decide +kernel) (by decide +kernel)
theorem mw_code_JLong_bitCount_JI : (Cond.code ({ cls := "java/lang/Long", name := "bitCount", desc := "(J)I" } : MethodName) prog_16_method_50_code (2 : Nat) (Option.some FieldType.int) : Cond) ∈ lwg := lw_in (i := 628) (by decide +kernel) (by decide +kernel)
theorem mw_co_JLong_314 : (Cond.constantLong "java/lang/Long" (314 : Nat) (6148914691236517205 : Int64) : Cond) ∈ lwg := lw_in (i := 629) (by decide +kernel) (by decide +kernel)
theorem mw_co_JLong_316 : (Cond.constantLong "java/lang/Long" (316 : Nat) (3689348814741910323 : Int64) : Cond) ∈ lwg := lw_in (i := 630) (by decide +kernel) (by decide +kernel)
theorem mw_co_JLong_318 : (Cond.constantLong "java/lang/Long" (318 : Nat) (1085102592571150095 : Int64) : Cond) ∈ lwg := lw_in (i := 631) (by decide +kernel) (by decide +kernel)
theorem mw_ml_CoverFinder_119 : (Cond.methodLink "CoverRows$CoverFinder" (119 : Nat) ({ cls := "CoverRows$CoverFinder", name := "withoutDominated", desc := "(IJ)J" } : MethodName) : Cond) ∈ lwg := lw_in (i := 632) (by decide +kernel) (by decide +kernel)
theorem mw_im_CoverFinder_withoutDominated : (Cond.instanceMethod ({ cls := "CoverRows$CoverFinder", name := "withoutDominated", desc := "(IJ)J" } : MethodName) : Cond) ∈ lwg := lw_in (i := 634) (by decide +kernel) (by decide +kernel)
theorem mw_code_CoverFinder_withoutDominated : (Cond.code ({ cls := "CoverRows$CoverFinder", name := "withoutDominated", desc := "(IJ)J" } : MethodName) prog_2_method_16_code (7 : Nat) (Option.some FieldType.long) : Cond) ∈ lwg := lw_in (i := 635) (by decide +kernel) (by decide +kernel)
theorem mw_ml_CoverFinder_130 : (Cond.methodLink "CoverRows$CoverFinder" (130 : Nat) ({ cls := "CoverRows$CoverFinder", name := "isDominated", desc := "(IIJ)Z" } : MethodName) : Cond) ∈ lwg := lw_in (i := 636) (by decide +kernel) (by decide +kernel)
theorem mw_im_CoverFinder_isDominated : (Cond.instanceMethod ({ cls := "CoverRows$CoverFinder", name := "isDominated", desc := "(IIJ)Z" } : MethodName) : Cond) ∈ lwg := lw_in (i := 638) (by decide +kernel) (by decide +kernel)
theorem mw_code_CoverFinder_isDominated : (Cond.code ({ cls := "CoverRows$CoverFinder", name := "isDominated", desc := "(IIJ)Z" } : MethodName) prog_2_method_17_code (7 : Nat) (Option.some FieldType.boolean) : Cond) ∈ lwg := lw_in (i := 639) (by decide +kernel) (by decide +kernel)
theorem mw_ml_CoverFinder_123 : (Cond.methodLink "CoverRows$CoverFinder" (123 : Nat) ({ cls := "CoverRows$CoverFinder", name := "leastWeight", desc := "(IJ)J" } : MethodName) : Cond) ∈ lwg := lw_in (i := 640) (by decide +kernel) (by decide +kernel)
theorem mw_im_CoverFinder_leastWeight : (Cond.instanceMethod ({ cls := "CoverRows$CoverFinder", name := "leastWeight", desc := "(IJ)J" } : MethodName) : Cond) ∈ lwg := lw_in (i := 642) (by decide +kernel) (by decide +kernel)
theorem mw_code_CoverFinder_leastWeight : (Cond.code ({ cls := "CoverRows$CoverFinder", name := "leastWeight", desc := "(IJ)J" } : MethodName) prog_2_method_18_code (13 : Nat) (Option.some FieldType.long) : Cond) ∈ lwg := lw_in (i := 643) (by decide +kernel) (by decide +kernel)
theorem mw_co_CoverFinder_134 : (Cond.constantLong "CoverRows$CoverFinder" (134 : Nat) (4611686018427387904 : Int64) : Cond) ∈ lwg := lw_in (i := 644) (by decide +kernel) (by decide +kernel)
theorem mw_ml_CoverFinder_136 : (Cond.methodLink "CoverRows$CoverFinder" (136 : Nat) ({ cls := "java/lang/Math", name := "min", desc := "(JJ)J" } : MethodName) : Cond) ∈ lwg := lw_in (i := 645) (by decide +kernel) (by decide +kernel)
theorem mw_st_JMath_min_JJJ : (Cond.static ({ cls := "java/lang/Math", name := "min", desc := "(JJ)J" } : MethodName) : Cond) ∈ lwg := lw_in (i := 646) (by decide +kernel) (by decide +kernel)
theorem mw_code_JMath_min_JJJ : (Cond.code ({ cls := "java/lang/Math", name := "min", desc := "(JJ)J" } : MethodName) prog_17_method_70_code (4 : Nat) (Option.some FieldType.long) : Cond) ∈ lwg := lw_in (i := 647) (by decide +kernel) (by decide +kernel)
theorem mw_ml_CoverFinder_126 : (Cond.methodLink "CoverRows$CoverFinder" (126 : Nat) ({ cls := "CoverRows$CoverFinder", name := "tryHavers", desc := "(JIJJJI)V" } : MethodName) : Cond) ∈ lwg := lw_in (i := 648) (by decide +kernel) (by decide +kernel)
theorem mw_im_CoverFinder_tryHavers : (Cond.instanceMethod ({ cls := "CoverRows$CoverFinder", name := "tryHavers", desc := "(JIJJJI)V" } : MethodName) : Cond) ∈ lwg := lw_in (i := 650) (by decide +kernel) (by decide +kernel)
theorem mw_code_CoverFinder_tryHavers : (Cond.code ({ cls := "CoverRows$CoverFinder", name := "tryHavers", desc := "(JIJJJI)V" } : MethodName) prog_2_method_13_code (14 : Nat) (Option.none : Option FieldType) : Cond) ∈ lwg := lw_in (i := 651) (by decide +kernel) (by decide +kernel)
theorem mw_ml_Main_149 : (Cond.methodLink "CoverRows" (149 : Nat) ({ cls := "CoverRows$CoverFinder", name := "found", desc := "()J" } : MethodName) : Cond) ∈ lwg := lw_in (i := 652) (by decide +kernel) (by decide +kernel)
theorem mw_im_CoverFinder_found : (Cond.instanceMethod ({ cls := "CoverRows$CoverFinder", name := "found", desc := "()J" } : MethodName) : Cond) ∈ lwg := lw_in (i := 653) (by decide +kernel) (by decide +kernel)
theorem mw_se_CoverFinder_found : (Cond.selects "CoverRows$CoverFinder" ({ cls := "CoverRows$CoverFinder", name := "found", desc := "()J" } : MethodName) ({ cls := "CoverRows$CoverFinder", name := "found", desc := "()J" } : MethodName) : Cond) ∈ lwg := lw_in (i := 654) (by decide +kernel) (by decide +kernel)
theorem mw_code_CoverFinder_found : (Cond.code ({ cls := "CoverRows$CoverFinder", name := "found", desc := "()J" } : MethodName) prog_2_method_2_code (1 : Nat) (Option.some FieldType.long) : Cond) ∈ lwg := lw_in (i := 655) (by decide +kernel) (by decide +kernel)
theorem mw_ml_Main_153 : (Cond.methodLink "CoverRows" (153 : Nat) ({ cls := "CoverRows$Terms", name := "takeFrom", desc := "(LCoverRows$Terms;J)V" } : MethodName) : Cond) ∈ lwg := lw_in (i := 656) (by decide +kernel) (by decide +kernel)
theorem mw_im_Terms_takeFrom : (Cond.instanceMethod ({ cls := "CoverRows$Terms", name := "takeFrom", desc := "(LCoverRows$Terms;J)V" } : MethodName) : Cond) ∈ lwg := lw_in (i := 657) (by decide +kernel) (by decide +kernel)
theorem mw_se_Terms_takeFrom : (Cond.selects "CoverRows$Terms" ({ cls := "CoverRows$Terms", name := "takeFrom", desc := "(LCoverRows$Terms;J)V" } : MethodName) ({ cls := "CoverRows$Terms", name := "takeFrom", desc := "(LCoverRows$Terms;J)V" } : MethodName) : Cond) ∈ lwg := lw_in (i := 658) (by decide +kernel) (by decide +kernel)
theorem mw_code_Terms_takeFrom : (Cond.code ({ cls := "CoverRows$Terms", name := "takeFrom", desc := "(LCoverRows$Terms;J)V" } : MethodName) prog_8_method_7_code (5 : Nat) (Option.none : Option FieldType) : Cond) ∈ lwg := lw_in (i := 659) (by decide +kernel) (by decide +kernel)
theorem mw_ml_Terms_26 : (Cond.methodLink "CoverRows$Terms" (26 : Nat) ({ cls := "CoverRows$Terms", name := "dropAll", desc := "()V" } : MethodName) : Cond) ∈ lwg := lw_in (i := 660) (by decide +kernel) (by decide +kernel)
theorem mw_ml_Terms_29 : (Cond.methodLink "CoverRows$Terms" (29 : Nat) ({ cls := "CoverRows$Terms", name := "add", desc := "(II)V" } : MethodName) : Cond) ∈ lwg := lw_in (i := 661) (by decide +kernel) (by decide +kernel)
theorem mw_ml_Main_157 : (Cond.methodLink "CoverRows" (157 : Nat) ({ cls := "CoverRows$Division", name := "forget", desc := "()V" } : MethodName) : Cond) ∈ lwg := lw_in (i := 662) (by decide +kernel) (by decide +kernel)
theorem mw_im_Division_forget : (Cond.instanceMethod ({ cls := "CoverRows$Division", name := "forget", desc := "()V" } : MethodName) : Cond) ∈ lwg := lw_in (i := 663) (by decide +kernel) (by decide +kernel)
theorem mw_se_Division_forget : (Cond.selects "CoverRows$Division" ({ cls := "CoverRows$Division", name := "forget", desc := "()V" } : MethodName) ({ cls := "CoverRows$Division", name := "forget", desc := "()V" } : MethodName) : Cond) ∈ lwg := lw_in (i := 664) (by decide +kernel) (by decide +kernel)
theorem mw_code_Division_forget : (Cond.code ({ cls := "CoverRows$Division", name := "forget", desc := "()V" } : MethodName) prog_5_method_2_code (1 : Nat) (Option.none : Option FieldType) : Cond) ∈ lwg := lw_in (i := 665) (by decide +kernel) (by decide +kernel)
theorem mw_ml_Law_104 : (Cond.methodLink "CoverRowsLaw" (104 : Nat) ({ cls := "CoverRowsLaw", name := "at", desc := "(LCoverRows;II[J)I" } : MethodName) : Cond) ∈ lwg := lw_in (i := 666) (by decide +kernel) (by decide +kernel)
theorem mw_st_Law_at : (Cond.static ({ cls := "CoverRowsLaw", name := "at", desc := "(LCoverRows;II[J)I" } : MethodName) : Cond) ∈ lwg := lw_in (i := 667) (by decide +kernel) (by decide +kernel)
theorem mw_code_Law_at : (Cond.codeWith ({ cls := "CoverRowsLaw", name := "at", desc := "(LCoverRows;II[J)I" } : MethodName) method_8_code (5 : Nat) (Option.some FieldType.int) [((0 : Nat), (10 : Nat), (13 : Nat), (37 : Nat)), ((0 : Nat), (10 : Nat), (17 : Nat), (19 : Nat))] : Cond) ∈ lwg := lw_in (i := 668) (by decide +kernel) (by decide +kernel)
theorem mw_cl_Law_37 : (Cond.classLink "CoverRowsLaw" (37 : Nat) "java/lang/IllegalStateException" : Cond) ∈ lwg := lw_in (i := 669) (by decide +kernel) (by decide +kernel)
theorem mw_ml_Law_34 : (Cond.methodLink "CoverRowsLaw" (34 : Nat) ({ cls := "CoverRows", name := "at", desc := "(II)I" } : MethodName) : Cond) ∈ lwg := lw_in (i := 670) (by decide +kernel) (by decide +kernel)
theorem mw_im_Main_at : (Cond.instanceMethod ({ cls := "CoverRows", name := "at", desc := "(II)I" } : MethodName) : Cond) ∈ lwg := lw_in (i := 671) (by decide +kernel) (by decide +kernel)
theorem mw_se_Main_at : (Cond.selects "CoverRows" ({ cls := "CoverRows", name := "at", desc := "(II)I" } : MethodName) ({ cls := "CoverRows", name := "at", desc := "(II)I" } : MethodName) : Cond) ∈ lwg := lw_in (i := 672) (by decide +kernel) (by decide +kernel)
theorem mw_code_Main_at : (Cond.code ({ cls := "CoverRows", name := "at", desc := "(II)I" } : MethodName) prog_1_method_8_code (3 : Nat) (Option.some FieldType.int) : Cond) ∈ lwg := lw_in (i := 673) (by decide +kernel) (by decide +kernel)
theorem mw_ml_Main_160 : (Cond.methodLink "CoverRows" (160 : Nat) ({ cls := "CoverRows", name := "needKept", desc := "()V" } : MethodName) : Cond) ∈ lwg := lw_in (i := 674) (by decide +kernel) (by decide +kernel)
theorem mw_im_Main_needKept : (Cond.instanceMethod ({ cls := "CoverRows", name := "needKept", desc := "()V" } : MethodName) : Cond) ∈ lwg := lw_in (i := 676) (by decide +kernel) (by decide +kernel)
theorem mw_code_Main_needKept : (Cond.code ({ cls := "CoverRows", name := "needKept", desc := "()V" } : MethodName) prog_1_method_19_code (1 : Nat) (Option.none : Option FieldType) : Cond) ∈ lwg := lw_in (i := 677) (by decide +kernel) (by decide +kernel)
theorem mw_cl_Main_215 : (Cond.classLink "CoverRows" (215 : Nat) "java/lang/IllegalStateException" : Cond) ∈ lwg := lw_in (i := 678) (by decide +kernel) (by decide +kernel)
theorem mw_ins_JIllegalStateException : (Cond.instantiable "java/lang/IllegalStateException" (6 : Nat) : Cond) ∈ lwg := lw_in (i := 679) (by decide +kernel) (by decide +kernel)
theorem mw_ml_Main_219 : (Cond.methodLink "CoverRows" (219 : Nat) ({ cls := "java/lang/IllegalStateException", name := "<init>", desc := "(Ljava/lang/String;)V" } : MethodName) : Cond) ∈ lwg := lw_in (i := 688) (by decide +kernel) (by decide +kernel)
theorem mw_im_JIllegalStateException_init_LjavalangStringV : (Cond.instanceMethod ({ cls := "java/lang/IllegalStateException", name := "<init>", desc := "(Ljava/lang/String;)V" } : MethodName) : Cond) ∈ lwg := lw_in (i := 689) (by decide +kernel) (by decide +kernel)
theorem mw_code_JIllegalStateException_init_LjavalangStringV : (Cond.code ({ cls := "java/lang/IllegalStateException", name := "<init>", desc := "(Ljava/lang/String;)V" } : MethodName) prog_13_method_2_code (2 : Nat) (Option.none : Option FieldType) : Cond) ∈ lwg := lw_in (i := 690) (by decide +kernel) (by decide +kernel)
theorem mw_ml_JIllegalStateException_7 : (Cond.methodLink "java/lang/IllegalStateException" (7 : Nat) ({ cls := "java/lang/RuntimeException", name := "<init>", desc := "(Ljava/lang/String;)V" } : MethodName) : Cond) ∈ lwg := lw_in (i := 691) (by decide +kernel) (by decide +kernel)
theorem mw_ml_Law_111 : (Cond.methodLink "CoverRowsLaw" (111 : Nat) ({ cls := "CoverRowsLaw", name := "cost", desc := "(LCoverRows;[J)I" } : MethodName) : Cond) ∈ lwg := lw_in (i := 695) (by decide +kernel) (by decide +kernel)
theorem mw_st_Law_cost : (Cond.static ({ cls := "CoverRowsLaw", name := "cost", desc := "(LCoverRows;[J)I" } : MethodName) : Cond) ∈ lwg := lw_in (i := 696) (by decide +kernel) (by decide +kernel)
theorem mw_code_Law_cost : (Cond.codeWith ({ cls := "CoverRowsLaw", name := "cost", desc := "(LCoverRows;[J)I" } : MethodName) method_9_code (3 : Nat) (Option.some FieldType.int) [((0 : Nat), (7 : Nat), (10 : Nat), (37 : Nat))] : Cond) ∈ lwg := lw_in (i := 697) (by decide +kernel) (by decide +kernel)
theorem mw_ml_Law_39 : (Cond.methodLink "CoverRowsLaw" (39 : Nat) ({ cls := "CoverRows", name := "cost", desc := "()J" } : MethodName) : Cond) ∈ lwg := lw_in (i := 698) (by decide +kernel) (by decide +kernel)
theorem mw_im_Main_cost : (Cond.instanceMethod ({ cls := "CoverRows", name := "cost", desc := "()J" } : MethodName) : Cond) ∈ lwg := lw_in (i := 699) (by decide +kernel) (by decide +kernel)
theorem mw_se_Main_cost : (Cond.selects "CoverRows" ({ cls := "CoverRows", name := "cost", desc := "()J" } : MethodName) ({ cls := "CoverRows", name := "cost", desc := "()J" } : MethodName) : Cond) ∈ lwg := lw_in (i := 700) (by decide +kernel) (by decide +kernel)
theorem mw_code_Main_cost : (Cond.code ({ cls := "CoverRows", name := "cost", desc := "()J" } : MethodName) prog_1_method_10_code (4 : Nat) (Option.some FieldType.long) : Cond) ∈ lwg := lw_in (i := 701) (by decide +kernel) (by decide +kernel)
theorem mw_ml_Main_169 : (Cond.methodLink "CoverRows" (169 : Nat) ({ cls := "CoverRows$Terms", name := "costOf", desc := "(I)I" } : MethodName) : Cond) ∈ lwg := lw_in (i := 702) (by decide +kernel) (by decide +kernel)
theorem mw_ml_Law_114 : (Cond.methodLink "CoverRowsLaw" (114 : Nat) ({ cls := "CoverRowsLaw", name := "kernels", desc := "(LCoverRows;[J)I" } : MethodName) : Cond) ∈ lwg := lw_in (i := 703) (by decide +kernel) (by decide +kernel)
theorem mw_st_Law_kernels : (Cond.static ({ cls := "CoverRowsLaw", name := "kernels", desc := "(LCoverRows;[J)I" } : MethodName) : Cond) ∈ lwg := lw_in (i := 704) (by decide +kernel) (by decide +kernel)
theorem mw_code_Law_kernels : (Cond.codeWith ({ cls := "CoverRowsLaw", name := "kernels", desc := "(LCoverRows;[J)I" } : MethodName) method_10_code (3 : Nat) (Option.some FieldType.int) [((0 : Nat), (8 : Nat), (11 : Nat), (37 : Nat))] : Cond) ∈ lwg := lw_in (i := 705) (by decide +kernel) (by decide +kernel)
theorem mw_ml_Law_43 : (Cond.methodLink "CoverRowsLaw" (43 : Nat) ({ cls := "CoverRows", name := "kernels", desc := "()I" } : MethodName) : Cond) ∈ lwg := lw_in (i := 706) (by decide +kernel) (by decide +kernel)
theorem mw_im_Main_kernels : (Cond.instanceMethod ({ cls := "CoverRows", name := "kernels", desc := "()I" } : MethodName) : Cond) ∈ lwg := lw_in (i := 707) (by decide +kernel) (by decide +kernel)
theorem mw_se_Main_kernels : (Cond.selects "CoverRows" ({ cls := "CoverRows", name := "kernels", desc := "()I" } : MethodName) ({ cls := "CoverRows", name := "kernels", desc := "()I" } : MethodName) : Cond) ∈ lwg := lw_in (i := 708) (by decide +kernel) (by decide +kernel)
theorem mw_code_Main_kernels : (Cond.code ({ cls := "CoverRows", name := "kernels", desc := "()I" } : MethodName) prog_1_method_11_code (1 : Nat) (Option.some FieldType.int) : Cond) ∈ lwg := lw_in (i := 709) (by decide +kernel) (by decide +kernel)
theorem mw_ml_Main_172 : (Cond.methodLink "CoverRows" (172 : Nat) ({ cls := "CoverRows$Division", name := "countKernels", desc := "(LCoverRows$Terms;)I" } : MethodName) : Cond) ∈ lwg := lw_in (i := 710) (by decide +kernel) (by decide +kernel)
theorem mw_im_Division_countKernels : (Cond.instanceMethod ({ cls := "CoverRows$Division", name := "countKernels", desc := "(LCoverRows$Terms;)I" } : MethodName) : Cond) ∈ lwg := lw_in (i := 711) (by decide +kernel) (by decide +kernel)
theorem mw_se_Division_countKernels : (Cond.selects "CoverRows$Division" ({ cls := "CoverRows$Division", name := "countKernels", desc := "(LCoverRows$Terms;)I" } : MethodName) ({ cls := "CoverRows$Division", name := "countKernels", desc := "(LCoverRows$Terms;)I" } : MethodName) : Cond) ∈ lwg := lw_in (i := 712) (by decide +kernel) (by decide +kernel)
theorem mw_code_Division_countKernels : (Cond.code ({ cls := "CoverRows$Division", name := "countKernels", desc := "(LCoverRows$Terms;)I" } : MethodName) prog_5_method_7_code (4 : Nat) (Option.some FieldType.int) : Cond) ∈ lwg := lw_in (i := 713) (by decide +kernel) (by decide +kernel)
theorem mw_ml_Division_58 : (Cond.methodLink "CoverRows$Division" (58 : Nat) ({ cls := "CoverRows$Products", name := "size", desc := "()I" } : MethodName) : Cond) ∈ lwg := lw_in (i := 714) (by decide +kernel) (by decide +kernel)
theorem mw_ml_Division_43 : (Cond.methodLink "CoverRows$Division" (43 : Nat) ({ cls := "CoverRows$Division", name := "divideBy", desc := "(LCoverRows$Terms;I)V" } : MethodName) : Cond) ∈ lwg := lw_in (i := 715) (by decide +kernel) (by decide +kernel)
theorem mw_im_Division_divideBy : (Cond.instanceMethod ({ cls := "CoverRows$Division", name := "divideBy", desc := "(LCoverRows$Terms;I)V" } : MethodName) : Cond) ∈ lwg := lw_in (i := 717) (by decide +kernel) (by decide +kernel)
theorem mw_code_Division_divideBy : (Cond.code ({ cls := "CoverRows$Division", name := "divideBy", desc := "(LCoverRows$Terms;I)V" } : MethodName) prog_5_method_10_code (6 : Nat) (Option.none : Option FieldType) : Cond) ∈ lwg := lw_in (i := 718) (by decide +kernel) (by decide +kernel)
theorem mw_ml_Division_81 : (Cond.methodLink "CoverRows$Division" (81 : Nat) ({ cls := "CoverRows$Products", name := "care", desc := "(I)I" } : MethodName) : Cond) ∈ lwg := lw_in (i := 719) (by decide +kernel) (by decide +kernel)
theorem mw_ml_Division_32 : (Cond.methodLink "CoverRows$Division" (32 : Nat) ({ cls := "CoverRows$Terms", name := "size", desc := "()I" } : MethodName) : Cond) ∈ lwg := lw_in (i := 720) (by decide +kernel) (by decide +kernel)
theorem mw_ml_Division_39 : (Cond.methodLink "CoverRows$Division" (39 : Nat) ({ cls := "CoverRows$Terms", name := "product", desc := "(I)I" } : MethodName) : Cond) ∈ lwg := lw_in (i := 721) (by decide +kernel) (by decide +kernel)
theorem mw_im_Terms_product : (Cond.instanceMethod ({ cls := "CoverRows$Terms", name := "product", desc := "(I)I" } : MethodName) : Cond) ∈ lwg := lw_in (i := 722) (by decide +kernel) (by decide +kernel)
theorem mw_se_Terms_product : (Cond.selects "CoverRows$Terms" ({ cls := "CoverRows$Terms", name := "product", desc := "(I)I" } : MethodName) ({ cls := "CoverRows$Terms", name := "product", desc := "(I)I" } : MethodName) : Cond) ∈ lwg := lw_in (i := 723) (by decide +kernel) (by decide +kernel)
theorem mw_code_Terms_product : (Cond.code ({ cls := "CoverRows$Terms", name := "product", desc := "(I)I" } : MethodName) prog_8_method_4_code (2 : Nat) (Option.some FieldType.int) : Cond) ∈ lwg := lw_in (i := 724) (by decide +kernel) (by decide +kernel)
theorem mw_ml_Division_84 : (Cond.methodLink "CoverRows$Division" (84 : Nat) ({ cls := "CoverRows$Products", name := "bits", desc := "(I)I" } : MethodName) : Cond) ∈ lwg := lw_in (i := 725) (by decide +kernel) (by decide +kernel)
theorem mw_im_Products_bits : (Cond.instanceMethod ({ cls := "CoverRows$Products", name := "bits", desc := "(I)I" } : MethodName) : Cond) ∈ lwg := lw_in (i := 726) (by decide +kernel) (by decide +kernel)
theorem mw_se_Products_bits : (Cond.selects "CoverRows$Products" ({ cls := "CoverRows$Products", name := "bits", desc := "(I)I" } : MethodName) ({ cls := "CoverRows$Products", name := "bits", desc := "(I)I" } : MethodName) : Cond) ∈ lwg := lw_in (i := 727) (by decide +kernel) (by decide +kernel)
theorem mw_code_Products_bits : (Cond.code ({ cls := "CoverRows$Products", name := "bits", desc := "(I)I" } : MethodName) prog_7_method_8_code (2 : Nat) (Option.some FieldType.int) : Cond) ∈ lwg := lw_in (i := 728) (by decide +kernel) (by decide +kernel)
theorem mw_ml_Division_87 : (Cond.methodLink "CoverRows$Division" (87 : Nat) ({ cls := "CoverRows$Division", name := "addProduct", desc := "(II)V" } : MethodName) : Cond) ∈ lwg := lw_in (i := 729) (by decide +kernel) (by decide +kernel)
theorem mw_im_Division_addProduct : (Cond.instanceMethod ({ cls := "CoverRows$Division", name := "addProduct", desc := "(II)V" } : MethodName) : Cond) ∈ lwg := lw_in (i := 731) (by decide +kernel) (by decide +kernel)
theorem mw_code_Division_addProduct : (Cond.code ({ cls := "CoverRows$Division", name := "addProduct", desc := "(II)V" } : MethodName) prog_5_method_11_code (4 : Nat) (Option.none : Option FieldType) : Cond) ∈ lwg := lw_in (i := 732) (by decide +kernel) (by decide +kernel)
theorem mw_ml_Division_91 : (Cond.methodLink "CoverRows$Division" (91 : Nat) ({ cls := "CoverRows$Products", name := "numberOf", desc := "(II)I" } : MethodName) : Cond) ∈ lwg := lw_in (i := 733) (by decide +kernel) (by decide +kernel)
theorem mw_ml_Division_63 : (Cond.methodLink "CoverRows$Division" (63 : Nat) ({ cls := "CoverRows$Division", name := "isKernel", desc := "()Z" } : MethodName) : Cond) ∈ lwg := lw_in (i := 734) (by decide +kernel) (by decide +kernel)
theorem mw_im_Division_isKernel : (Cond.instanceMethod ({ cls := "CoverRows$Division", name := "isKernel", desc := "()Z" } : MethodName) : Cond) ∈ lwg := lw_in (i := 736) (by decide +kernel) (by decide +kernel)
theorem mw_code_Division_isKernel : (Cond.code ({ cls := "CoverRows$Division", name := "isKernel", desc := "()Z" } : MethodName) prog_5_method_8_code (1 : Nat) (Option.some FieldType.boolean) : Cond) ∈ lwg := lw_in (i := 737) (by decide +kernel) (by decide +kernel)
theorem mw_ml_Division_71 : (Cond.methodLink "CoverRows$Division" (71 : Nat) ({ cls := "java/lang/Long", name := "bitCount", desc := "(J)I" } : MethodName) : Cond) ∈ lwg := lw_in (i := 738) (by decide +kernel) (by decide +kernel)
theorem mw_ml_Division_67 : (Cond.methodLink "CoverRows$Division" (67 : Nat) ({ cls := "CoverRows$Division", name := "isKnown", desc := "(I)Z" } : MethodName) : Cond) ∈ lwg := lw_in (i := 739) (by decide +kernel) (by decide +kernel)
theorem mw_im_Division_isKnown : (Cond.instanceMethod ({ cls := "CoverRows$Division", name := "isKnown", desc := "(I)Z" } : MethodName) : Cond) ∈ lwg := lw_in (i := 741) (by decide +kernel) (by decide +kernel)
theorem mw_code_Division_isKnown : (Cond.code ({ cls := "CoverRows$Division", name := "isKnown", desc := "(I)Z" } : MethodName) prog_5_method_9_code (3 : Nat) (Option.some FieldType.boolean) : Cond) ∈ lwg := lw_in (i := 742) (by decide +kernel) (by decide +kernel)
theorem mw_ml_Law_117 : (Cond.methodLink "CoverRowsLaw" (117 : Nat) ({ cls := "CoverRowsLaw", name := "divide", desc := "(LCoverRows;I[J)I" } : MethodName) : Cond) ∈ lwg := lw_in (i := 743) (by decide +kernel) (by decide +kernel)
theorem mw_st_Law_divide : (Cond.static ({ cls := "CoverRowsLaw", name := "divide", desc := "(LCoverRows;I[J)I" } : MethodName) : Cond) ∈ lwg := lw_in (i := 744) (by decide +kernel) (by decide +kernel)
theorem mw_code_Law_divide : (Cond.codeWith ({ cls := "CoverRowsLaw", name := "divide", desc := "(LCoverRows;I[J)I" } : MethodName) method_11_code (4 : Nat) (Option.some FieldType.int) [((0 : Nat), (9 : Nat), (12 : Nat), (37 : Nat)), ((0 : Nat), (9 : Nat), (15 : Nat), (21 : Nat))] : Cond) ∈ lwg := lw_in (i := 745) (by decide +kernel) (by decide +kernel)
theorem mw_ml_Law_46 : (Cond.methodLink "CoverRowsLaw" (46 : Nat) ({ cls := "CoverRows", name := "divide", desc := "(I)I" } : MethodName) : Cond) ∈ lwg := lw_in (i := 746) (by decide +kernel) (by decide +kernel)
theorem mw_im_Main_divide : (Cond.instanceMethod ({ cls := "CoverRows", name := "divide", desc := "(I)I" } : MethodName) : Cond) ∈ lwg := lw_in (i := 747) (by decide +kernel) (by decide +kernel)
theorem mw_se_Main_divide : (Cond.selects "CoverRows" ({ cls := "CoverRows", name := "divide", desc := "(I)I" } : MethodName) ({ cls := "CoverRows", name := "divide", desc := "(I)I" } : MethodName) : Cond) ∈ lwg := lw_in (i := 748) (by decide +kernel) (by decide +kernel)
theorem mw_code_Main_divide : (Cond.code ({ cls := "CoverRows", name := "divide", desc := "(I)I" } : MethodName) prog_1_method_12_code (2 : Nat) (Option.some FieldType.int) : Cond) ∈ lwg := lw_in (i := 749) (by decide +kernel) (by decide +kernel)
theorem mw_ml_Main_176 : (Cond.methodLink "CoverRows" (176 : Nat) ({ cls := "CoverRows", name := "hasBitFrom", desc := "(II)Z" } : MethodName) : Cond) ∈ lwg := lw_in (i := 750) (by decide +kernel) (by decide +kernel)
theorem mw_st_Main_hasBitFrom : (Cond.static ({ cls := "CoverRows", name := "hasBitFrom", desc := "(II)Z" } : MethodName) : Cond) ∈ lwg := lw_in (i := 751) (by decide +kernel) (by decide +kernel)
theorem mw_code_Main_hasBitFrom : (Cond.code ({ cls := "CoverRows", name := "hasBitFrom", desc := "(II)Z" } : MethodName) prog_1_method_21_code (2 : Nat) (Option.some FieldType.boolean) : Cond) ∈ lwg := lw_in (i := 752) (by decide +kernel) (by decide +kernel)
theorem mw_ml_Main_182 : (Cond.methodLink "CoverRows" (182 : Nat) ({ cls := "CoverRows$Division", name := "keepQuotient", desc := "(LCoverRows$Terms;I)I" } : MethodName) : Cond) ∈ lwg := lw_in (i := 754) (by decide +kernel) (by decide +kernel)
theorem mw_im_Division_keepQuotient : (Cond.instanceMethod ({ cls := "CoverRows$Division", name := "keepQuotient", desc := "(LCoverRows$Terms;I)I" } : MethodName) : Cond) ∈ lwg := lw_in (i := 755) (by decide +kernel) (by decide +kernel)
theorem mw_se_Division_keepQuotient : (Cond.selects "CoverRows$Division" ({ cls := "CoverRows$Division", name := "keepQuotient", desc := "(LCoverRows$Terms;I)I" } : MethodName) ({ cls := "CoverRows$Division", name := "keepQuotient", desc := "(LCoverRows$Terms;I)I" } : MethodName) : Cond) ∈ lwg := lw_in (i := 756) (by decide +kernel) (by decide +kernel)
theorem mw_code_Division_keepQuotient : (Cond.code ({ cls := "CoverRows$Division", name := "keepQuotient", desc := "(LCoverRows$Terms;I)I" } : MethodName) prog_5_method_5_code (8 : Nat) (Option.some FieldType.int) : Cond) ∈ lwg := lw_in (i := 757) (by decide +kernel) (by decide +kernel)
theorem mw_co_Division_30 : (Cond.constantLong "CoverRows$Division" (30 : Nat) (-1 : Int64) : Cond) ∈ lwg := lw_in (i := 758) (by decide +kernel) (by decide +kernel)
theorem mw_ml_Division_54 : (Cond.methodLink "CoverRows$Division" (54 : Nat) ({ cls := "CoverRows$Division", name := "fillRow", desc := "(JJ)V" } : MethodName) : Cond) ∈ lwg := lw_in (i := 759) (by decide +kernel) (by decide +kernel)
theorem mw_im_Division_fillRow : (Cond.instanceMethod ({ cls := "CoverRows$Division", name := "fillRow", desc := "(JJ)V" } : MethodName) : Cond) ∈ lwg := lw_in (i := 761) (by decide +kernel) (by decide +kernel)
theorem mw_code_Division_fillRow : (Cond.code ({ cls := "CoverRows$Division", name := "fillRow", desc := "(JJ)V" } : MethodName) prog_5_method_6_code (8 : Nat) (Option.none : Option FieldType) : Cond) ∈ lwg := lw_in (i := 762) (by decide +kernel) (by decide +kernel)
theorem mw_ml_Law_121 : (Cond.methodLink "CoverRowsLaw" (121 : Nat) ({ cls := "CoverRowsLaw", name := "quotient", desc := "(LCoverRows;I[J)I" } : MethodName) : Cond) ∈ lwg := lw_in (i := 763) (by decide +kernel) (by decide +kernel)
theorem mw_st_Law_quotient : (Cond.static ({ cls := "CoverRowsLaw", name := "quotient", desc := "(LCoverRows;I[J)I" } : MethodName) : Cond) ∈ lwg := lw_in (i := 764) (by decide +kernel) (by decide +kernel)
theorem mw_code_Law_quotient : (Cond.codeWith ({ cls := "CoverRowsLaw", name := "quotient", desc := "(LCoverRows;I[J)I" } : MethodName) method_12_code (4 : Nat) (Option.some FieldType.int) [((0 : Nat), (9 : Nat), (12 : Nat), (19 : Nat))] : Cond) ∈ lwg := lw_in (i := 765) (by decide +kernel) (by decide +kernel)
theorem mw_ml_Law_50 : (Cond.methodLink "CoverRowsLaw" (50 : Nat) ({ cls := "CoverRows", name := "quotient", desc := "(I)I" } : MethodName) : Cond) ∈ lwg := lw_in (i := 766) (by decide +kernel) (by decide +kernel)
theorem mw_im_Main_quotient : (Cond.instanceMethod ({ cls := "CoverRows", name := "quotient", desc := "(I)I" } : MethodName) : Cond) ∈ lwg := lw_in (i := 767) (by decide +kernel) (by decide +kernel)
theorem mw_se_Main_quotient : (Cond.selects "CoverRows" ({ cls := "CoverRows", name := "quotient", desc := "(I)I" } : MethodName) ({ cls := "CoverRows", name := "quotient", desc := "(I)I" } : MethodName) : Cond) ∈ lwg := lw_in (i := 768) (by decide +kernel) (by decide +kernel)
theorem mw_code_Main_quotient : (Cond.code ({ cls := "CoverRows", name := "quotient", desc := "(I)I" } : MethodName) prog_1_method_13_code (2 : Nat) (Option.some FieldType.int) : Cond) ∈ lwg := lw_in (i := 769) (by decide +kernel) (by decide +kernel)
theorem mw_ml_Main_186 : (Cond.methodLink "CoverRows" (186 : Nat) ({ cls := "CoverRows$Division", name := "holds", desc := "(I)Z" } : MethodName) : Cond) ∈ lwg := lw_in (i := 770) (by decide +kernel) (by decide +kernel)
theorem mw_im_Division_holds : (Cond.instanceMethod ({ cls := "CoverRows$Division", name := "holds", desc := "(I)Z" } : MethodName) : Cond) ∈ lwg := lw_in (i := 771) (by decide +kernel) (by decide +kernel)
theorem mw_se_Division_holds : (Cond.selects "CoverRows$Division" ({ cls := "CoverRows$Division", name := "holds", desc := "(I)Z" } : MethodName) ({ cls := "CoverRows$Division", name := "holds", desc := "(I)Z" } : MethodName) : Cond) ∈ lwg := lw_in (i := 772) (by decide +kernel) (by decide +kernel)
theorem mw_code_Division_holds : (Cond.code ({ cls := "CoverRows$Division", name := "holds", desc := "(I)Z" } : MethodName) prog_5_method_3_code (2 : Nat) (Option.some FieldType.boolean) : Cond) ∈ lwg := lw_in (i := 773) (by decide +kernel) (by decide +kernel)
theorem mw_ml_Main_189 : (Cond.methodLink "CoverRows" (189 : Nat) ({ cls := "CoverRows$Division", name := "product", desc := "(I)I" } : MethodName) : Cond) ∈ lwg := lw_in (i := 775) (by decide +kernel) (by decide +kernel)
theorem mw_im_Division_product : (Cond.instanceMethod ({ cls := "CoverRows$Division", name := "product", desc := "(I)I" } : MethodName) : Cond) ∈ lwg := lw_in (i := 776) (by decide +kernel) (by decide +kernel)
theorem mw_se_Division_product : (Cond.selects "CoverRows$Division" ({ cls := "CoverRows$Division", name := "product", desc := "(I)I" } : MethodName) ({ cls := "CoverRows$Division", name := "product", desc := "(I)I" } : MethodName) : Cond) ∈ lwg := lw_in (i := 777) (by decide +kernel) (by decide +kernel)
theorem mw_code_Division_product : (Cond.code ({ cls := "CoverRows$Division", name := "product", desc := "(I)I" } : MethodName) prog_5_method_4_code (2 : Nat) (Option.some FieldType.int) : Cond) ∈ lwg := lw_in (i := 778) (by decide +kernel) (by decide +kernel)
theorem mw_ml_Law_124 : (Cond.methodLink "CoverRowsLaw" (124 : Nat) ({ cls := "CoverRowsLaw", name := "diagram", desc := "(LCoverRows;I[J)I" } : MethodName) : Cond) ∈ lwg := lw_in (i := 779) (by decide +kernel) (by decide +kernel)
theorem mw_st_Law_diagram : (Cond.static ({ cls := "CoverRowsLaw", name := "diagram", desc := "(LCoverRows;I[J)I" } : MethodName) : Cond) ∈ lwg := lw_in (i := 780) (by decide +kernel) (by decide +kernel)
theorem mw_code_Law_diagram : (Cond.codeWith ({ cls := "CoverRowsLaw", name := "diagram", desc := "(LCoverRows;I[J)I" } : MethodName) method_13_code (4 : Nat) (Option.some FieldType.int) [((0 : Nat), (9 : Nat), (12 : Nat), (21 : Nat))] : Cond) ∈ lwg := lw_in (i := 781) (by decide +kernel) (by decide +kernel)
theorem mw_ml_Law_53 : (Cond.methodLink "CoverRowsLaw" (53 : Nat) ({ cls := "CoverRows", name := "diagram", desc := "(I)I" } : MethodName) : Cond) ∈ lwg := lw_in (i := 782) (by decide +kernel) (by decide +kernel)
theorem mw_im_Main_diagram : (Cond.instanceMethod ({ cls := "CoverRows", name := "diagram", desc := "(I)I" } : MethodName) : Cond) ∈ lwg := lw_in (i := 783) (by decide +kernel) (by decide +kernel)
theorem mw_se_Main_diagram : (Cond.selects "CoverRows" ({ cls := "CoverRows", name := "diagram", desc := "(I)I" } : MethodName) ({ cls := "CoverRows", name := "diagram", desc := "(I)I" } : MethodName) : Cond) ∈ lwg := lw_in (i := 784) (by decide +kernel) (by decide +kernel)
theorem mw_code_Main_diagram : (Cond.code ({ cls := "CoverRows", name := "diagram", desc := "(I)I" } : MethodName) prog_1_method_14_code (2 : Nat) (Option.some FieldType.int) : Cond) ∈ lwg := lw_in (i := 785) (by decide +kernel) (by decide +kernel)
theorem mw_ml_Law_131 : (Cond.methodLink "CoverRowsLaw" (131 : Nat) ({ cls := "CoverRowsLaw", name := "equal", desc := "(LCoverRows;[J)I" } : MethodName) : Cond) ∈ lwg := lw_in (i := 787) (by decide +kernel) (by decide +kernel)
theorem mw_st_Law_equal : (Cond.static ({ cls := "CoverRowsLaw", name := "equal", desc := "(LCoverRows;[J)I" } : MethodName) : Cond) ∈ lwg := lw_in (i := 788) (by decide +kernel) (by decide +kernel)
theorem mw_code_Law_equal : (Cond.codeWith ({ cls := "CoverRowsLaw", name := "equal", desc := "(LCoverRows;[J)I" } : MethodName) method_14_code (3 : Nat) (Option.some FieldType.int) [((0 : Nat), (15 : Nat), (18 : Nat), (37 : Nat))] : Cond) ∈ lwg := lw_in (i := 789) (by decide +kernel) (by decide +kernel)
theorem mw_ml_Law_56 : (Cond.methodLink "CoverRowsLaw" (56 : Nat) ({ cls := "CoverRows", name := "equal", desc := "()Z" } : MethodName) : Cond) ∈ lwg := lw_in (i := 790) (by decide +kernel) (by decide +kernel)
theorem mw_im_Main_equal : (Cond.instanceMethod ({ cls := "CoverRows", name := "equal", desc := "()Z" } : MethodName) : Cond) ∈ lwg := lw_in (i := 791) (by decide +kernel) (by decide +kernel)
theorem mw_se_Main_equal : (Cond.selects "CoverRows" ({ cls := "CoverRows", name := "equal", desc := "()Z" } : MethodName) ({ cls := "CoverRows", name := "equal", desc := "()Z" } : MethodName) : Cond) ∈ lwg := lw_in (i := 792) (by decide +kernel) (by decide +kernel)
theorem mw_code_Main_equal : (Cond.code ({ cls := "CoverRows", name := "equal", desc := "()Z" } : MethodName) prog_1_method_16_code (3 : Nat) (Option.some FieldType.boolean) : Cond) ∈ lwg := lw_in (i := 793) (by decide +kernel) (by decide +kernel)
theorem mw_ml_Main_201 : (Cond.methodLink "CoverRows" (201 : Nat) ({ cls := "CoverRows$Terms", name := "hadByAllFor", desc := "(I)I" } : MethodName) : Cond) ∈ lwg := lw_in (i := 794) (by decide +kernel) (by decide +kernel)
theorem mw_im_Terms_hadByAllFor : (Cond.instanceMethod ({ cls := "CoverRows$Terms", name := "hadByAllFor", desc := "(I)I" } : MethodName) : Cond) ∈ lwg := lw_in (i := 795) (by decide +kernel) (by decide +kernel)
theorem mw_se_Terms_hadByAllFor : (Cond.selects "CoverRows$Terms" ({ cls := "CoverRows$Terms", name := "hadByAllFor", desc := "(I)I" } : MethodName) ({ cls := "CoverRows$Terms", name := "hadByAllFor", desc := "(I)I" } : MethodName) : Cond) ∈ lwg := lw_in (i := 796) (by decide +kernel) (by decide +kernel)
theorem mw_code_Terms_hadByAllFor : (Cond.code ({ cls := "CoverRows$Terms", name := "hadByAllFor", desc := "(I)I" } : MethodName) prog_8_method_11_code (4 : Nat) (Option.some FieldType.int) : Cond) ∈ lwg := lw_in (i := 797) (by decide +kernel) (by decide +kernel)
theorem mw_ml_Terms_55 : (Cond.methodLink "CoverRows$Terms" (55 : Nat) ({ cls := "CoverRows$Terms", name := "hadFor", desc := "(II)I" } : MethodName) : Cond) ∈ lwg := lw_in (i := 798) (by decide +kernel) (by decide +kernel)
theorem mw_ml_Main_204 : (Cond.methodLink "CoverRows" (204 : Nat) ({ cls := "CoverRows$Cubes", name := "on", desc := "(I)I" } : MethodName) : Cond) ∈ lwg := lw_in (i := 799) (by decide +kernel) (by decide +kernel)
theorem mw_ml_Law_134 : (Cond.methodLink "CoverRowsLaw" (134 : Nat) ({ cls := "CoverRowsLaw", name := "value", desc := "(LCoverRows;JI[J)I" } : MethodName) : Cond) ∈ lwg := lw_in (i := 800) (by decide +kernel) (by decide +kernel)
theorem mw_st_Law_value : (Cond.static ({ cls := "CoverRowsLaw", name := "value", desc := "(LCoverRows;JI[J)I" } : MethodName) : Cond) ∈ lwg := lw_in (i := 801) (by decide +kernel) (by decide +kernel)
theorem mw_code_Law_value : (Cond.codeWith ({ cls := "CoverRowsLaw", name := "value", desc := "(LCoverRows;JI[J)I" } : MethodName) method_15_code (6 : Nat) (Option.some FieldType.int) [((0 : Nat), (18 : Nat), (21 : Nat), (37 : Nat)), ((0 : Nat), (18 : Nat), (25 : Nat), (19 : Nat)), ((0 : Nat), (18 : Nat), (29 : Nat), (21 : Nat))] : Cond) ∈ lwg := lw_in (i := 802) (by decide +kernel) (by decide +kernel)
theorem mw_ml_Law_60 : (Cond.methodLink "CoverRowsLaw" (60 : Nat) ({ cls := "CoverRows", name := "value", desc := "(JI)Z" } : MethodName) : Cond) ∈ lwg := lw_in (i := 803) (by decide +kernel) (by decide +kernel)
theorem mw_im_Main_value : (Cond.instanceMethod ({ cls := "CoverRows", name := "value", desc := "(JI)Z" } : MethodName) : Cond) ∈ lwg := lw_in (i := 804) (by decide +kernel) (by decide +kernel)
theorem mw_se_Main_value : (Cond.selects "CoverRows" ({ cls := "CoverRows", name := "value", desc := "(JI)Z" } : MethodName) ({ cls := "CoverRows", name := "value", desc := "(JI)Z" } : MethodName) : Cond) ∈ lwg := lw_in (i := 805) (by decide +kernel) (by decide +kernel)
theorem mw_code_Main_value : (Cond.code ({ cls := "CoverRows", name := "value", desc := "(JI)Z" } : MethodName) prog_1_method_17_code (4 : Nat) (Option.some FieldType.boolean) : Cond) ∈ lwg := lw_in (i := 806) (by decide +kernel) (by decide +kernel)
theorem mw_cl_Law_73 : (Cond.classLink "CoverRowsLaw" (73 : Nat) "CoverRowsModel" : Cond) ∈ lwg := lw_in (i := 809) (by decide +kernel) (by decide +kernel)
theorem mw_ins_Ref : (Cond.instantiable "CoverRowsModel" (25 : Nat) : Cond) ∈ lwg := lw_in (i := 810) (by decide +kernel) (by decide +kernel)
theorem mw_ml_Law_75 : (Cond.methodLink "CoverRowsLaw" (75 : Nat) ({ cls := "CoverRowsModel", name := "<init>", desc := "(II)V" } : MethodName) : Cond) ∈ lwg := lw_in (i := 811) (by decide +kernel) (by decide +kernel)
theorem mw_im_Ref_init : (Cond.instanceMethod ({ cls := "CoverRowsModel", name := "<init>", desc := "(II)V" } : MethodName) : Cond) ∈ lwg := lw_in (i := 812) (by decide +kernel) (by decide +kernel)
theorem mw_code_Ref_init : (Cond.code ({ cls := "CoverRowsModel", name := "<init>", desc := "(II)V" } : MethodName) prog_10_method_1_code (5 : Nat) (Option.none : Option FieldType) : Cond) ∈ lwg := lw_in (i := 813) (by decide +kernel) (by decide +kernel)
theorem mw_ml_Ref_1 : (Cond.methodLink "CoverRowsModel" (1 : Nat) ({ cls := "java/lang/Object", name := "<init>", desc := "()V" } : MethodName) : Cond) ∈ lwg := lw_in (i := 814) (by decide +kernel) (by decide +kernel)
theorem mw_fl_Ref_65 : (Cond.fieldLink "CoverRowsModel" (65 : Nat) "CoverRowsModel" "thrown" "I" : Cond) ∈ lwg := lw_in (i := 815) (by decide +kernel) (by decide +kernel)
theorem mw_fl_Ref_55 : (Cond.fieldLink "CoverRowsModel" (55 : Nat) "CoverRowsModel" "inputs" "I" : Cond) ∈ lwg := lw_in (i := 816) (by decide +kernel) (by decide +kernel)
theorem mw_fl_Ref_59 : (Cond.fieldLink "CoverRowsModel" (59 : Nat) "CoverRowsModel" "outputs" "I" : Cond) ∈ lwg := lw_in (i := 817) (by decide +kernel) (by decide +kernel)
theorem mw_fl_Ref_62 : (Cond.fieldLink "CoverRowsModel" (62 : Nat) "CoverRowsModel" "products" "I" : Cond) ∈ lwg := lw_in (i := 818) (by decide +kernel) (by decide +kernel)
theorem mw_fl_Ref_7 : (Cond.fieldLink "CoverRowsModel" (7 : Nat) "CoverRowsModel" "digits" "[I" : Cond) ∈ lwg := lw_in (i := 819) (by decide +kernel) (by decide +kernel)
theorem mw_fl_Ref_13 : (Cond.fieldLink "CoverRowsModel" (13 : Nat) "CoverRowsModel" "kinds" "[I" : Cond) ∈ lwg := lw_in (i := 820) (by decide +kernel) (by decide +kernel)
theorem mw_fl_Ref_72 : (Cond.fieldLink "CoverRowsModel" (72 : Nat) "CoverRowsModel" "cubes" "I" : Cond) ∈ lwg := lw_in (i := 821) (by decide +kernel) (by decide +kernel)
theorem mw_fl_Ref_16 : (Cond.fieldLink "CoverRowsModel" (16 : Nat) "CoverRowsModel" "on" "[I" : Cond) ∈ lwg := lw_in (i := 822) (by decide +kernel) (by decide +kernel)
end
section
theorem mw_fl_Ref_19 : (Cond.fieldLink "CoverRowsModel" (19 : Nat) "CoverRowsModel" "can" "[I" : Cond) ∈ lwg := lw_in (i := 823) (by decide +kernel) (by decide +kernel)
theorem mw_fl_Ref_22 : (Cond.fieldLink "CoverRowsModel" (22 : Nat) "CoverRowsModel" "primeProducts" "[I" : Cond) ∈ lwg := lw_in (i := 824) (by decide +kernel) (by decide +kernel)
theorem mw_fl_Ref_25 : (Cond.fieldLink "CoverRowsModel" (25 : Nat) "CoverRowsModel" "primeOutputs" "[I" : Cond) ∈ lwg := lw_in (i := 825) (by decide +kernel) (by decide +kernel)
theorem mw_fl_Ref_28 : (Cond.fieldLink "CoverRowsModel" (28 : Nat) "CoverRowsModel" "primeCosts" "[I" : Cond) ∈ lwg := lw_in (i := 826) (by decide +kernel) (by decide +kernel)
theorem mw_fl_Ref_31 : (Cond.fieldLink "CoverRowsModel" (31 : Nat) "CoverRowsModel" "primePoints" "[I" : Cond) ∈ lwg := lw_in (i := 827) (by decide +kernel) (by decide +kernel)
theorem mw_fl_Ref_82 : (Cond.fieldLink "CoverRowsModel" (82 : Nat) "CoverRowsModel" "primes" "I" : Cond) ∈ lwg := lw_in (i := 828) (by decide +kernel) (by decide +kernel)
theorem mw_fl_Ref_34 : (Cond.fieldLink "CoverRowsModel" (34 : Nat) "CoverRowsModel" "rest" "[I" : Cond) ∈ lwg := lw_in (i := 829) (by decide +kernel) (by decide +kernel)
theorem mw_fl_Ref_113 : (Cond.fieldLink "CoverRowsModel" (113 : Nat) "CoverRowsModel" "kept" "Z" : Cond) ∈ lwg := lw_in (i := 830) (by decide +kernel) (by decide +kernel)
theorem mw_fl_Ref_37 : (Cond.fieldLink "CoverRowsModel" (37 : Nat) "CoverRowsModel" "keptProducts" "[I" : Cond) ∈ lwg := lw_in (i := 831) (by decide +kernel) (by decide +kernel)
theorem mw_fl_Ref_40 : (Cond.fieldLink "CoverRowsModel" (40 : Nat) "CoverRowsModel" "keptOutputs" "[I" : Cond) ∈ lwg := lw_in (i := 832) (by decide +kernel) (by decide +kernel)
theorem mw_fl_Ref_110 : (Cond.fieldLink "CoverRowsModel" (110 : Nat) "CoverRowsModel" "terms" "I" : Cond) ∈ lwg := lw_in (i := 833) (by decide +kernel) (by decide +kernel)
theorem mw_fl_Ref_43 : (Cond.fieldLink "CoverRowsModel" (43 : Nat) "CoverRowsModel" "quotients" "[I" : Cond) ∈ lwg := lw_in (i := 834) (by decide +kernel) (by decide +kernel)
theorem mw_fl_Ref_117 : (Cond.fieldLink "CoverRowsModel" (117 : Nat) "CoverRowsModel" "quotientCount" "I" : Cond) ∈ lwg := lw_in (i := 835) (by decide +kernel) (by decide +kernel)
theorem mw_fl_Ref_46 : (Cond.fieldLink "CoverRowsModel" (46 : Nat) "CoverRowsModel" "chosen" "[I" : Cond) ∈ lwg := lw_in (i := 836) (by decide +kernel) (by decide +kernel)
theorem mw_fl_Ref_49 : (Cond.fieldLink "CoverRowsModel" (49 : Nat) "CoverRowsModel" "best" "[I" : Cond) ∈ lwg := lw_in (i := 837) (by decide +kernel) (by decide +kernel)
theorem mw_fl_Ref_94 : (Cond.fieldLink "CoverRowsModel" (94 : Nat) "CoverRowsModel" "bestCost" "I" : Cond) ∈ lwg := lw_in (i := 838) (by decide +kernel) (by decide +kernel)
theorem mw_fl_Ref_52 : (Cond.fieldLink "CoverRowsModel" (52 : Nat) "CoverRowsModel" "found" "[I" : Cond) ∈ lwg := lw_in (i := 839) (by decide +kernel) (by decide +kernel)
theorem mw_ml_Law_80 : (Cond.methodLink "CoverRowsLaw" (80 : Nat) ({ cls := "CoverRowsModel", name := "thrown", desc := "()I" } : MethodName) : Cond) ∈ lwg := lw_in (i := 891) (by decide +kernel) (by decide +kernel)
theorem mw_im_Ref_thrown : (Cond.instanceMethod ({ cls := "CoverRowsModel", name := "thrown", desc := "()I" } : MethodName) : Cond) ∈ lwg := lw_in (i := 892) (by decide +kernel) (by decide +kernel)
theorem mw_se_Ref_thrown : (Cond.selects "CoverRowsModel" ({ cls := "CoverRowsModel", name := "thrown", desc := "()I" } : MethodName) ({ cls := "CoverRowsModel", name := "thrown", desc := "()I" } : MethodName) : Cond) ∈ lwg := lw_in (i := 893) (by decide +kernel) (by decide +kernel)
theorem mw_code_Ref_thrown : (Cond.code ({ cls := "CoverRowsModel", name := "thrown", desc := "()I" } : MethodName) prog_10_method_2_code (1 : Nat) (Option.some FieldType.int) : Cond) ∈ lwg := lw_in (i := 894) (by decide +kernel) (by decide +kernel)
theorem mw_ml_Law_79 : (Cond.methodLink "CoverRowsLaw" (79 : Nat) ({ cls := "CoverRowsModel", name := "cube", desc := "()I" } : MethodName) : Cond) ∈ lwg := lw_in (i := 895) (by decide +kernel) (by decide +kernel)
theorem mw_im_Ref_cube : (Cond.instanceMethod ({ cls := "CoverRowsModel", name := "cube", desc := "()I" } : MethodName) : Cond) ∈ lwg := lw_in (i := 896) (by decide +kernel) (by decide +kernel)
theorem mw_se_Ref_cube : (Cond.selects "CoverRowsModel" ({ cls := "CoverRowsModel", name := "cube", desc := "()I" } : MethodName) ({ cls := "CoverRowsModel", name := "cube", desc := "()I" } : MethodName) : Cond) ∈ lwg := lw_in (i := 897) (by decide +kernel) (by decide +kernel)
theorem mw_code_Ref_cube : (Cond.code ({ cls := "CoverRowsModel", name := "cube", desc := "()I" } : MethodName) prog_10_method_6_code (2 : Nat) (Option.some FieldType.int) : Cond) ∈ lwg := lw_in (i := 898) (by decide +kernel) (by decide +kernel)
theorem mw_ml_Law_86 : (Cond.methodLink "CoverRowsLaw" (86 : Nat) ({ cls := "CoverRowsModel", name := "literal", desc := "(III)Z" } : MethodName) : Cond) ∈ lwg := lw_in (i := 899) (by decide +kernel) (by decide +kernel)
theorem mw_im_Ref_literal : (Cond.instanceMethod ({ cls := "CoverRowsModel", name := "literal", desc := "(III)Z" } : MethodName) : Cond) ∈ lwg := lw_in (i := 900) (by decide +kernel) (by decide +kernel)
theorem mw_se_Ref_literal : (Cond.selects "CoverRowsModel" ({ cls := "CoverRowsModel", name := "literal", desc := "(III)Z" } : MethodName) ({ cls := "CoverRowsModel", name := "literal", desc := "(III)Z" } : MethodName) : Cond) ∈ lwg := lw_in (i := 901) (by decide +kernel) (by decide +kernel)
theorem mw_code_Ref_literal : (Cond.code ({ cls := "CoverRowsModel", name := "literal", desc := "(III)Z" } : MethodName) prog_10_method_7_code (5 : Nat) (Option.some FieldType.boolean) : Cond) ∈ lwg := lw_in (i := 902) (by decide +kernel) (by decide +kernel)
theorem mw_ml_Law_89 : (Cond.methodLink "CoverRowsLaw" (89 : Nat) ({ cls := "CoverRowsModel", name := "to", desc := "(III)Z" } : MethodName) : Cond) ∈ lwg := lw_in (i := 903) (by decide +kernel) (by decide +kernel)
theorem mw_im_Ref_to : (Cond.instanceMethod ({ cls := "CoverRowsModel", name := "to", desc := "(III)Z" } : MethodName) : Cond) ∈ lwg := lw_in (i := 904) (by decide +kernel) (by decide +kernel)
theorem mw_se_Ref_to : (Cond.selects "CoverRowsModel" ({ cls := "CoverRowsModel", name := "to", desc := "(III)Z" } : MethodName) ({ cls := "CoverRowsModel", name := "to", desc := "(III)Z" } : MethodName) : Cond) ∈ lwg := lw_in (i := 905) (by decide +kernel) (by decide +kernel)
theorem mw_code_Ref_to : (Cond.code ({ cls := "CoverRowsModel", name := "to", desc := "(III)Z" } : MethodName) prog_10_method_8_code (5 : Nat) (Option.some FieldType.boolean) : Cond) ∈ lwg := lw_in (i := 906) (by decide +kernel) (by decide +kernel)
theorem mw_ml_Law_93 : (Cond.methodLink "CoverRowsLaw" (93 : Nat) ({ cls := "CoverRowsModel", name := "primes", desc := "()I" } : MethodName) : Cond) ∈ lwg := lw_in (i := 907) (by decide +kernel) (by decide +kernel)
theorem mw_im_Ref_primes : (Cond.instanceMethod ({ cls := "CoverRowsModel", name := "primes", desc := "()I" } : MethodName) : Cond) ∈ lwg := lw_in (i := 908) (by decide +kernel) (by decide +kernel)
theorem mw_se_Ref_primes : (Cond.selects "CoverRowsModel" ({ cls := "CoverRowsModel", name := "primes", desc := "()I" } : MethodName) ({ cls := "CoverRowsModel", name := "primes", desc := "()I" } : MethodName) : Cond) ∈ lwg := lw_in (i := 909) (by decide +kernel) (by decide +kernel)
theorem mw_code_Ref_primes : (Cond.code ({ cls := "CoverRowsModel", name := "primes", desc := "()I" } : MethodName) prog_10_method_12_code (1 : Nat) (Option.some FieldType.int) : Cond) ∈ lwg := lw_in (i := 910) (by decide +kernel) (by decide +kernel)
theorem mw_ml_Ref_91 : (Cond.methodLink "CoverRowsModel" (91 : Nat) ({ cls := "CoverRowsModel", name := "findPrimes", desc := "()V" } : MethodName) : Cond) ∈ lwg := lw_in (i := 911) (by decide +kernel) (by decide +kernel)
theorem mw_im_Ref_findPrimes : (Cond.instanceMethod ({ cls := "CoverRowsModel", name := "findPrimes", desc := "()V" } : MethodName) : Cond) ∈ lwg := lw_in (i := 913) (by decide +kernel) (by decide +kernel)
theorem mw_code_Ref_findPrimes : (Cond.code ({ cls := "CoverRowsModel", name := "findPrimes", desc := "()V" } : MethodName) prog_10_method_11_code (6 : Nat) (Option.none : Option FieldType) : Cond) ∈ lwg := lw_in (i := 914) (by decide +kernel) (by decide +kernel)
theorem mw_ml_Ref_79 : (Cond.methodLink "CoverRowsModel" (79 : Nat) ({ cls := "CoverRowsModel", name := "work", desc := "()V" } : MethodName) : Cond) ∈ lwg := lw_in (i := 915) (by decide +kernel) (by decide +kernel)
theorem mw_im_Ref_work : (Cond.instanceMethod ({ cls := "CoverRowsModel", name := "work", desc := "()V" } : MethodName) : Cond) ∈ lwg := lw_in (i := 917) (by decide +kernel) (by decide +kernel)
theorem mw_code_Ref_work : (Cond.code ({ cls := "CoverRowsModel", name := "work", desc := "()V" } : MethodName) prog_10_method_9_code (5 : Nat) (Option.none : Option FieldType) : Cond) ∈ lwg := lw_in (i := 918) (by decide +kernel) (by decide +kernel)
theorem mw_ml_Ref_75 : (Cond.methodLink "CoverRowsModel" (75 : Nat) ({ cls := "CoverRowsModel", name := "points", desc := "(I)I" } : MethodName) : Cond) ∈ lwg := lw_in (i := 919) (by decide +kernel) (by decide +kernel)
theorem mw_im_Ref_points : (Cond.instanceMethod ({ cls := "CoverRowsModel", name := "points", desc := "(I)I" } : MethodName) : Cond) ∈ lwg := lw_in (i := 921) (by decide +kernel) (by decide +kernel)
theorem mw_code_Ref_points : (Cond.code ({ cls := "CoverRowsModel", name := "points", desc := "(I)I" } : MethodName) prog_10_method_4_code (7 : Nat) (Option.some FieldType.int) : Cond) ∈ lwg := lw_in (i := 922) (by decide +kernel) (by decide +kernel)
theorem mw_ml_Ref_68 : (Cond.methodLink "CoverRowsModel" (68 : Nat) ({ cls := "CoverRowsModel", name := "digit", desc := "(II)I" } : MethodName) : Cond) ∈ lwg := lw_in (i := 923) (by decide +kernel) (by decide +kernel)
theorem mw_im_Ref_digit : (Cond.instanceMethod ({ cls := "CoverRowsModel", name := "digit", desc := "(II)I" } : MethodName) : Cond) ∈ lwg := lw_in (i := 925) (by decide +kernel) (by decide +kernel)
theorem mw_code_Ref_digit : (Cond.code ({ cls := "CoverRowsModel", name := "digit", desc := "(II)I" } : MethodName) prog_10_method_3_code (5 : Nat) (Option.some FieldType.int) : Cond) ∈ lwg := lw_in (i := 926) (by decide +kernel) (by decide +kernel)
theorem mw_ml_Ref_85 : (Cond.methodLink "CoverRowsModel" (85 : Nat) ({ cls := "CoverRowsModel", name := "outputsOf", desc := "(I)I" } : MethodName) : Cond) ∈ lwg := lw_in (i := 927) (by decide +kernel) (by decide +kernel)
theorem mw_im_Ref_outputsOf : (Cond.instanceMethod ({ cls := "CoverRowsModel", name := "outputsOf", desc := "(I)I" } : MethodName) : Cond) ∈ lwg := lw_in (i := 929) (by decide +kernel) (by decide +kernel)
theorem mw_code_Ref_outputsOf : (Cond.code ({ cls := "CoverRowsModel", name := "outputsOf", desc := "(I)I" } : MethodName) prog_10_method_10_code (5 : Nat) (Option.some FieldType.int) : Cond) ∈ lwg := lw_in (i := 930) (by decide +kernel) (by decide +kernel)
theorem mw_ml_Ref_88 : (Cond.methodLink "CoverRowsModel" (88 : Nat) ({ cls := "CoverRowsModel", name := "costOf", desc := "(II)I" } : MethodName) : Cond) ∈ lwg := lw_in (i := 931) (by decide +kernel) (by decide +kernel)
theorem mw_im_Ref_costOf : (Cond.instanceMethod ({ cls := "CoverRowsModel", name := "costOf", desc := "(II)I" } : MethodName) : Cond) ∈ lwg := lw_in (i := 933) (by decide +kernel) (by decide +kernel)
theorem mw_code_Ref_costOf : (Cond.code ({ cls := "CoverRowsModel", name := "costOf", desc := "(II)I" } : MethodName) prog_10_method_5_code (5 : Nat) (Option.some FieldType.int) : Cond) ∈ lwg := lw_in (i := 934) (by decide +kernel) (by decide +kernel)
theorem mw_ml_Law_97 : (Cond.methodLink "CoverRowsLaw" (97 : Nat) ({ cls := "CoverRowsModel", name := "prime", desc := "(II)I" } : MethodName) : Cond) ∈ lwg := lw_in (i := 935) (by decide +kernel) (by decide +kernel)
theorem mw_im_Ref_prime : (Cond.instanceMethod ({ cls := "CoverRowsModel", name := "prime", desc := "(II)I" } : MethodName) : Cond) ∈ lwg := lw_in (i := 936) (by decide +kernel) (by decide +kernel)
theorem mw_se_Ref_prime : (Cond.selects "CoverRowsModel" ({ cls := "CoverRowsModel", name := "prime", desc := "(II)I" } : MethodName) ({ cls := "CoverRowsModel", name := "prime", desc := "(II)I" } : MethodName) : Cond) ∈ lwg := lw_in (i := 937) (by decide +kernel) (by decide +kernel)
theorem mw_code_Ref_prime : (Cond.code ({ cls := "CoverRowsModel", name := "prime", desc := "(II)I" } : MethodName) prog_10_method_13_code (3 : Nat) (Option.some FieldType.int) : Cond) ∈ lwg := lw_in (i := 938) (by decide +kernel) (by decide +kernel)
theorem mw_ml_Law_103 : (Cond.methodLink "CoverRowsLaw" (103 : Nat) ({ cls := "CoverRowsModel", name := "run", desc := "(ZJ)I" } : MethodName) : Cond) ∈ lwg := lw_in (i := 939) (by decide +kernel) (by decide +kernel)
theorem mw_im_Ref_run : (Cond.instanceMethod ({ cls := "CoverRowsModel", name := "run", desc := "(ZJ)I" } : MethodName) : Cond) ∈ lwg := lw_in (i := 940) (by decide +kernel) (by decide +kernel)
theorem mw_se_Ref_run : (Cond.selects "CoverRowsModel" ({ cls := "CoverRowsModel", name := "run", desc := "(ZJ)I" } : MethodName) ({ cls := "CoverRowsModel", name := "run", desc := "(ZJ)I" } : MethodName) : Cond) ∈ lwg := lw_in (i := 941) (by decide +kernel) (by decide +kernel)
theorem mw_code_Ref_run : (Cond.code ({ cls := "CoverRowsModel", name := "run", desc := "(ZJ)I" } : MethodName) prog_10_method_18_code (6 : Nat) (Option.some FieldType.int) : Cond) ∈ lwg := lw_in (i := 942) (by decide +kernel) (by decide +kernel)
theorem mw_ml_Ref_104 : (Cond.methodLink "CoverRowsModel" (104 : Nat) ({ cls := "CoverRowsModel", name := "exact", desc := "(I)I" } : MethodName) : Cond) ∈ lwg := lw_in (i := 943) (by decide +kernel) (by decide +kernel)
theorem mw_im_Ref_exact : (Cond.instanceMethod ({ cls := "CoverRowsModel", name := "exact", desc := "(I)I" } : MethodName) : Cond) ∈ lwg := lw_in (i := 945) (by decide +kernel) (by decide +kernel)
theorem mw_code_Ref_exact : (Cond.code ({ cls := "CoverRowsModel", name := "exact", desc := "(I)I" } : MethodName) prog_10_method_16_code (3 : Nat) (Option.some FieldType.int) : Cond) ∈ lwg := lw_in (i := 946) (by decide +kernel) (by decide +kernel)
theorem mw_ml_Ref_97 : (Cond.methodLink "CoverRowsModel" (97 : Nat) ({ cls := "CoverRowsModel", name := "tryAll", desc := "(II)Z" } : MethodName) : Cond) ∈ lwg := lw_in (i := 947) (by decide +kernel) (by decide +kernel)
theorem mw_im_Ref_tryAll : (Cond.instanceMethod ({ cls := "CoverRowsModel", name := "tryAll", desc := "(II)Z" } : MethodName) : Cond) ∈ lwg := lw_in (i := 949) (by decide +kernel) (by decide +kernel)
theorem mw_code_Ref_tryAll : (Cond.code ({ cls := "CoverRowsModel", name := "tryAll", desc := "(II)Z" } : MethodName) prog_10_method_15_code (10 : Nat) (Option.some FieldType.boolean) : Cond) ∈ lwg := lw_in (i := 950) (by decide +kernel) (by decide +kernel)
theorem mw_ml_Ref_107 : (Cond.methodLink "CoverRowsModel" (107 : Nat) ({ cls := "CoverRowsModel", name := "quick", desc := "(I)I" } : MethodName) : Cond) ∈ lwg := lw_in (i := 951) (by decide +kernel) (by decide +kernel)
theorem mw_im_Ref_quick : (Cond.instanceMethod ({ cls := "CoverRowsModel", name := "quick", desc := "(I)I" } : MethodName) : Cond) ∈ lwg := lw_in (i := 953) (by decide +kernel) (by decide +kernel)
theorem mw_code_Ref_quick : (Cond.code ({ cls := "CoverRowsModel", name := "quick", desc := "(I)I" } : MethodName) prog_10_method_17_code (9 : Nat) (Option.some FieldType.int) : Cond) ∈ lwg := lw_in (i := 954) (by decide +kernel) (by decide +kernel)
theorem mw_ml_Ref_101 : (Cond.methodLink "CoverRowsModel" (101 : Nat) ({ cls := "CoverRowsModel", name := "ones", desc := "(I)I" } : MethodName) : Cond) ∈ lwg := lw_in (i := 955) (by decide +kernel) (by decide +kernel)
theorem mw_st_Ref_ones : (Cond.static ({ cls := "CoverRowsModel", name := "ones", desc := "(I)I" } : MethodName) : Cond) ∈ lwg := lw_in (i := 956) (by decide +kernel) (by decide +kernel)
theorem mw_code_Ref_ones : (Cond.code ({ cls := "CoverRowsModel", name := "ones", desc := "(I)I" } : MethodName) prog_10_method_14_code (3 : Nat) (Option.some FieldType.int) : Cond) ∈ lwg := lw_in (i := 957) (by decide +kernel) (by decide +kernel)
theorem mw_ml_Law_106 : (Cond.methodLink "CoverRowsLaw" (106 : Nat) ({ cls := "CoverRowsModel", name := "at", desc := "(II)I" } : MethodName) : Cond) ∈ lwg := lw_in (i := 958) (by decide +kernel) (by decide +kernel)
theorem mw_im_Ref_at : (Cond.instanceMethod ({ cls := "CoverRowsModel", name := "at", desc := "(II)I" } : MethodName) : Cond) ∈ lwg := lw_in (i := 959) (by decide +kernel) (by decide +kernel)
theorem mw_se_Ref_at : (Cond.selects "CoverRowsModel" ({ cls := "CoverRowsModel", name := "at", desc := "(II)I" } : MethodName) ({ cls := "CoverRowsModel", name := "at", desc := "(II)I" } : MethodName) : Cond) ∈ lwg := lw_in (i := 960) (by decide +kernel) (by decide +kernel)
theorem mw_code_Ref_at : (Cond.code ({ cls := "CoverRowsModel", name := "at", desc := "(II)I" } : MethodName) prog_10_method_19_code (3 : Nat) (Option.some FieldType.int) : Cond) ∈ lwg := lw_in (i := 961) (by decide +kernel) (by decide +kernel)
theorem mw_ml_Law_110 : (Cond.methodLink "CoverRowsLaw" (110 : Nat) ({ cls := "CoverRowsModel", name := "tautology", desc := "()Z" } : MethodName) : Cond) ∈ lwg := lw_in (i := 962) (by decide +kernel) (by decide +kernel)
theorem mw_im_Ref_tautology : (Cond.instanceMethod ({ cls := "CoverRowsModel", name := "tautology", desc := "()Z" } : MethodName) : Cond) ∈ lwg := lw_in (i := 963) (by decide +kernel) (by decide +kernel)
theorem mw_se_Ref_tautology : (Cond.selects "CoverRowsModel" ({ cls := "CoverRowsModel", name := "tautology", desc := "()Z" } : MethodName) ({ cls := "CoverRowsModel", name := "tautology", desc := "()Z" } : MethodName) : Cond) ∈ lwg := lw_in (i := 964) (by decide +kernel) (by decide +kernel)
theorem mw_code_Ref_tautology : (Cond.code ({ cls := "CoverRowsModel", name := "tautology", desc := "()Z" } : MethodName) prog_10_method_20_code (3 : Nat) (Option.some FieldType.boolean) : Cond) ∈ lwg := lw_in (i := 965) (by decide +kernel) (by decide +kernel)
theorem mw_ml_Law_113 : (Cond.methodLink "CoverRowsLaw" (113 : Nat) ({ cls := "CoverRowsModel", name := "cost", desc := "()J" } : MethodName) : Cond) ∈ lwg := lw_in (i := 966) (by decide +kernel) (by decide +kernel)
theorem mw_im_Ref_cost : (Cond.instanceMethod ({ cls := "CoverRowsModel", name := "cost", desc := "()J" } : MethodName) : Cond) ∈ lwg := lw_in (i := 967) (by decide +kernel) (by decide +kernel)
theorem mw_se_Ref_cost : (Cond.selects "CoverRowsModel" ({ cls := "CoverRowsModel", name := "cost", desc := "()J" } : MethodName) ({ cls := "CoverRowsModel", name := "cost", desc := "()J" } : MethodName) : Cond) ∈ lwg := lw_in (i := 968) (by decide +kernel) (by decide +kernel)
theorem mw_code_Ref_cost : (Cond.code ({ cls := "CoverRowsModel", name := "cost", desc := "()J" } : MethodName) prog_10_method_21_code (3 : Nat) (Option.some FieldType.long) : Cond) ∈ lwg := lw_in (i := 969) (by decide +kernel) (by decide +kernel)
theorem mw_ml_Law_133 : (Cond.methodLink "CoverRowsLaw" (133 : Nat) ({ cls := "CoverRowsModel", name := "equal", desc := "()Z" } : MethodName) : Cond) ∈ lwg := lw_in (i := 970) (by decide +kernel) (by decide +kernel)
theorem mw_im_Ref_equal : (Cond.instanceMethod ({ cls := "CoverRowsModel", name := "equal", desc := "()Z" } : MethodName) : Cond) ∈ lwg := lw_in (i := 971) (by decide +kernel) (by decide +kernel)
theorem mw_se_Ref_equal : (Cond.selects "CoverRowsModel" ({ cls := "CoverRowsModel", name := "equal", desc := "()Z" } : MethodName) ({ cls := "CoverRowsModel", name := "equal", desc := "()Z" } : MethodName) : Cond) ∈ lwg := lw_in (i := 972) (by decide +kernel) (by decide +kernel)
theorem mw_code_Ref_equal : (Cond.code ({ cls := "CoverRowsModel", name := "equal", desc := "()Z" } : MethodName) prog_10_method_23_code (4 : Nat) (Option.some FieldType.boolean) : Cond) ∈ lwg := lw_in (i := 973) (by decide +kernel) (by decide +kernel)
theorem mw_ml_Ref_120 : (Cond.methodLink "CoverRowsModel" (120 : Nat) ({ cls := "CoverRowsModel", name := "keptPoints", desc := "(I)I" } : MethodName) : Cond) ∈ lwg := lw_in (i := 974) (by decide +kernel) (by decide +kernel)
theorem mw_im_Ref_keptPoints : (Cond.instanceMethod ({ cls := "CoverRowsModel", name := "keptPoints", desc := "(I)I" } : MethodName) : Cond) ∈ lwg := lw_in (i := 976) (by decide +kernel) (by decide +kernel)
theorem mw_code_Ref_keptPoints : (Cond.code ({ cls := "CoverRowsModel", name := "keptPoints", desc := "(I)I" } : MethodName) prog_10_method_22_code (4 : Nat) (Option.some FieldType.int) : Cond) ∈ lwg := lw_in (i := 977) (by decide +kernel) (by decide +kernel)
theorem mw_ml_Law_137 : (Cond.methodLink "CoverRowsLaw" (137 : Nat) ({ cls := "CoverRowsModel", name := "value", desc := "(JI)Z" } : MethodName) : Cond) ∈ lwg := lw_in (i := 978) (by decide +kernel) (by decide +kernel)
theorem mw_im_Ref_value : (Cond.instanceMethod ({ cls := "CoverRowsModel", name := "value", desc := "(JI)Z" } : MethodName) : Cond) ∈ lwg := lw_in (i := 979) (by decide +kernel) (by decide +kernel)
theorem mw_se_Ref_value : (Cond.selects "CoverRowsModel" ({ cls := "CoverRowsModel", name := "value", desc := "(JI)Z" } : MethodName) ({ cls := "CoverRowsModel", name := "value", desc := "(JI)Z" } : MethodName) : Cond) ∈ lwg := lw_in (i := 980) (by decide +kernel) (by decide +kernel)
theorem mw_code_Ref_value : (Cond.code ({ cls := "CoverRowsModel", name := "value", desc := "(JI)Z" } : MethodName) prog_10_method_24_code (4 : Nat) (Option.some FieldType.boolean) : Cond) ∈ lwg := lw_in (i := 981) (by decide +kernel) (by decide +kernel)
theorem mw_ml_Law_120 : (Cond.methodLink "CoverRowsLaw" (120 : Nat) ({ cls := "CoverRowsModel", name := "divide", desc := "(I)I" } : MethodName) : Cond) ∈ lwg := lw_in (i := 982) (by decide +kernel) (by decide +kernel)
theorem mw_im_Ref_divide : (Cond.instanceMethod ({ cls := "CoverRowsModel", name := "divide", desc := "(I)I" } : MethodName) : Cond) ∈ lwg := lw_in (i := 983) (by decide +kernel) (by decide +kernel)
theorem mw_se_Ref_divide : (Cond.selects "CoverRowsModel" ({ cls := "CoverRowsModel", name := "divide", desc := "(I)I" } : MethodName) ({ cls := "CoverRowsModel", name := "divide", desc := "(I)I" } : MethodName) : Cond) ∈ lwg := lw_in (i := 984) (by decide +kernel) (by decide +kernel)
theorem mw_code_Ref_divide : (Cond.code ({ cls := "CoverRowsModel", name := "divide", desc := "(I)I" } : MethodName) prog_10_method_27_code (5 : Nat) (Option.some FieldType.int) : Cond) ∈ lwg := lw_in (i := 985) (by decide +kernel) (by decide +kernel)
theorem mw_ml_Ref_126 : (Cond.methodLink "CoverRowsModel" (126 : Nat) ({ cls := "CoverRowsModel", name := "isIn", desc := "(II)Z" } : MethodName) : Cond) ∈ lwg := lw_in (i := 986) (by decide +kernel) (by decide +kernel)
theorem mw_im_Ref_isIn : (Cond.instanceMethod ({ cls := "CoverRowsModel", name := "isIn", desc := "(II)Z" } : MethodName) : Cond) ∈ lwg := lw_in (i := 988) (by decide +kernel) (by decide +kernel)
theorem mw_code_Ref_isIn : (Cond.code ({ cls := "CoverRowsModel", name := "isIn", desc := "(II)Z" } : MethodName) prog_10_method_26_code (5 : Nat) (Option.some FieldType.boolean) : Cond) ∈ lwg := lw_in (i := 989) (by decide +kernel) (by decide +kernel)
theorem mw_ml_Ref_123 : (Cond.methodLink "CoverRowsModel" (123 : Nat) ({ cls := "CoverRowsModel", name := "divided", desc := "(II)I" } : MethodName) : Cond) ∈ lwg := lw_in (i := 990) (by decide +kernel) (by decide +kernel)
theorem mw_im_Ref_divided : (Cond.instanceMethod ({ cls := "CoverRowsModel", name := "divided", desc := "(II)I" } : MethodName) : Cond) ∈ lwg := lw_in (i := 992) (by decide +kernel) (by decide +kernel)
theorem mw_code_Ref_divided : (Cond.code ({ cls := "CoverRowsModel", name := "divided", desc := "(II)I" } : MethodName) prog_10_method_25_code (7 : Nat) (Option.some FieldType.int) : Cond) ∈ lwg := lw_in (i := 993) (by decide +kernel) (by decide +kernel)
theorem mw_ml_Law_123 : (Cond.methodLink "CoverRowsLaw" (123 : Nat) ({ cls := "CoverRowsModel", name := "quotient", desc := "(I)I" } : MethodName) : Cond) ∈ lwg := lw_in (i := 994) (by decide +kernel) (by decide +kernel)
theorem mw_im_Ref_quotient : (Cond.instanceMethod ({ cls := "CoverRowsModel", name := "quotient", desc := "(I)I" } : MethodName) : Cond) ∈ lwg := lw_in (i := 995) (by decide +kernel) (by decide +kernel)
theorem mw_se_Ref_quotient : (Cond.selects "CoverRowsModel" ({ cls := "CoverRowsModel", name := "quotient", desc := "(I)I" } : MethodName) ({ cls := "CoverRowsModel", name := "quotient", desc := "(I)I" } : MethodName) : Cond) ∈ lwg := lw_in (i := 996) (by decide +kernel) (by decide +kernel)
theorem mw_code_Ref_quotient : (Cond.code ({ cls := "CoverRowsModel", name := "quotient", desc := "(I)I" } : MethodName) prog_10_method_28_code (2 : Nat) (Option.some FieldType.int) : Cond) ∈ lwg := lw_in (i := 997) (by decide +kernel) (by decide +kernel)
theorem mw_ml_Law_116 : (Cond.methodLink "CoverRowsLaw" (116 : Nat) ({ cls := "CoverRowsModel", name := "kernels", desc := "()I" } : MethodName) : Cond) ∈ lwg := lw_in (i := 998) (by decide +kernel) (by decide +kernel)
theorem mw_im_Ref_kernels : (Cond.instanceMethod ({ cls := "CoverRowsModel", name := "kernels", desc := "()I" } : MethodName) : Cond) ∈ lwg := lw_in (i := 999) (by decide +kernel) (by decide +kernel)
theorem mw_se_Ref_kernels : (Cond.selects "CoverRowsModel" ({ cls := "CoverRowsModel", name := "kernels", desc := "()I" } : MethodName) ({ cls := "CoverRowsModel", name := "kernels", desc := "()I" } : MethodName) : Cond) ∈ lwg := lw_in (i := 1000) (by decide +kernel) (by decide +kernel)
theorem mw_code_Ref_kernels : (Cond.code ({ cls := "CoverRowsModel", name := "kernels", desc := "()I" } : MethodName) prog_10_method_30_code (7 : Nat) (Option.some FieldType.int) : Cond) ∈ lwg := lw_in (i := 1001) (by decide +kernel) (by decide +kernel)
theorem mw_ml_Ref_129 : (Cond.methodLink "CoverRowsModel" (129 : Nat) ({ cls := "CoverRowsModel", name := "isKernel", desc := "(I)Z" } : MethodName) : Cond) ∈ lwg := lw_in (i := 1002) (by decide +kernel) (by decide +kernel)
theorem mw_im_Ref_isKernel : (Cond.instanceMethod ({ cls := "CoverRowsModel", name := "isKernel", desc := "(I)Z" } : MethodName) : Cond) ∈ lwg := lw_in (i := 1004) (by decide +kernel) (by decide +kernel)
theorem mw_code_Ref_isKernel : (Cond.code ({ cls := "CoverRowsModel", name := "isKernel", desc := "(I)Z" } : MethodName) prog_10_method_29_code (8 : Nat) (Option.some FieldType.boolean) : Cond) ∈ lwg := lw_in (i := 1005) (by decide +kernel) (by decide +kernel)
theorem mw_ml_Law_126 : (Cond.methodLink "CoverRowsLaw" (126 : Nat) ({ cls := "CoverRowsModel", name := "diagram", desc := "(I)I" } : MethodName) : Cond) ∈ lwg := lw_in (i := 1006) (by decide +kernel) (by decide +kernel)
theorem mw_im_Ref_diagram : (Cond.instanceMethod ({ cls := "CoverRowsModel", name := "diagram", desc := "(I)I" } : MethodName) : Cond) ∈ lwg := lw_in (i := 1007) (by decide +kernel) (by decide +kernel)
theorem mw_se_Ref_diagram : (Cond.selects "CoverRowsModel" ({ cls := "CoverRowsModel", name := "diagram", desc := "(I)I" } : MethodName) ({ cls := "CoverRowsModel", name := "diagram", desc := "(I)I" } : MethodName) : Cond) ∈ lwg := lw_in (i := 1008) (by decide +kernel) (by decide +kernel)
theorem mw_code_Ref_diagram : (Cond.code ({ cls := "CoverRowsModel", name := "diagram", desc := "(I)I" } : MethodName) prog_10_method_36_code (2 : Nat) (Option.some FieldType.int) : Cond) ∈ lwg := lw_in (i := 1009) (by decide +kernel) (by decide +kernel)
theorem mw_ml_Ref_133 : (Cond.methodLink "CoverRowsModel" (133 : Nat) ({ cls := "CoverRowsModel", name := "orders", desc := "()I" } : MethodName) : Cond) ∈ lwg := lw_in (i := 1010) (by decide +kernel) (by decide +kernel)
theorem mw_im_Ref_orders : (Cond.instanceMethod ({ cls := "CoverRowsModel", name := "orders", desc := "()I" } : MethodName) : Cond) ∈ lwg := lw_in (i := 1012) (by decide +kernel) (by decide +kernel)
theorem mw_code_Ref_orders : (Cond.code ({ cls := "CoverRowsModel", name := "orders", desc := "()I" } : MethodName) prog_10_method_31_code (1 : Nat) (Option.some FieldType.int) : Cond) ∈ lwg := lw_in (i := 1013) (by decide +kernel) (by decide +kernel)
theorem mw_ml_Ref_147 : (Cond.methodLink "CoverRowsModel" (147 : Nat) ({ cls := "CoverRowsModel", name := "nodes", desc := "(I)I" } : MethodName) : Cond) ∈ lwg := lw_in (i := 1014) (by decide +kernel) (by decide +kernel)
theorem mw_im_Ref_nodes : (Cond.instanceMethod ({ cls := "CoverRowsModel", name := "nodes", desc := "(I)I" } : MethodName) : Cond) ∈ lwg := lw_in (i := 1016) (by decide +kernel) (by decide +kernel)
theorem mw_code_Ref_nodes : (Cond.code ({ cls := "CoverRowsModel", name := "nodes", desc := "(I)I" } : MethodName) prog_10_method_35_code (11 : Nat) (Option.some FieldType.int) : Cond) ∈ lwg := lw_in (i := 1017) (by decide +kernel) (by decide +kernel)
theorem mw_ml_Ref_137 : (Cond.methodLink "CoverRowsModel" (137 : Nat) ({ cls := "CoverRowsModel", name := "inputAt", desc := "(II)I" } : MethodName) : Cond) ∈ lwg := lw_in (i := 1018) (by decide +kernel) (by decide +kernel)
theorem mw_im_Ref_inputAt : (Cond.instanceMethod ({ cls := "CoverRowsModel", name := "inputAt", desc := "(II)I" } : MethodName) : Cond) ∈ lwg := lw_in (i := 1020) (by decide +kernel) (by decide +kernel)
theorem mw_code_Ref_inputAt : (Cond.code ({ cls := "CoverRowsModel", name := "inputAt", desc := "(II)I" } : MethodName) prog_10_method_32_code (9 : Nat) (Option.some FieldType.int) : Cond) ∈ lwg := lw_in (i := 1021) (by decide +kernel) (by decide +kernel)
theorem mw_ml_Ref_140 : (Cond.methodLink "CoverRowsModel" (140 : Nat) ({ cls := "CoverRowsModel", name := "part", desc := "(IIII)I" } : MethodName) : Cond) ∈ lwg := lw_in (i := 1022) (by decide +kernel) (by decide +kernel)
theorem mw_im_Ref_part : (Cond.instanceMethod ({ cls := "CoverRowsModel", name := "part", desc := "(IIII)I" } : MethodName) : Cond) ∈ lwg := lw_in (i := 1024) (by decide +kernel) (by decide +kernel)
theorem mw_code_Ref_part : (Cond.code ({ cls := "CoverRowsModel", name := "part", desc := "(IIII)I" } : MethodName) prog_10_method_33_code (10 : Nat) (Option.some FieldType.int) : Cond) ∈ lwg := lw_in (i := 1025) (by decide +kernel) (by decide +kernel)
theorem mw_ml_Ref_144 : (Cond.methodLink "CoverRowsModel" (144 : Nat) ({ cls := "CoverRowsModel", name := "asks", desc := "(II)Z" } : MethodName) : Cond) ∈ lwg := lw_in (i := 1026) (by decide +kernel) (by decide +kernel)
theorem mw_im_Ref_asks : (Cond.instanceMethod ({ cls := "CoverRowsModel", name := "asks", desc := "(II)Z" } : MethodName) : Cond) ∈ lwg := lw_in (i := 1028) (by decide +kernel) (by decide +kernel)
theorem mw_code_Ref_asks : (Cond.code ({ cls := "CoverRowsModel", name := "asks", desc := "(II)Z" } : MethodName) prog_10_method_34_code (5 : Nat) (Option.some FieldType.boolean) : Cond) ∈ lwg := lw_in (i := 1029) (by decide +kernel) (by decide +kernel)
theorem mw_ml_Law_130 : (Cond.methodLink "CoverRowsLaw" (130 : Nat) ({ cls := "CoverRowsModel", name := "order", desc := "()I" } : MethodName) : Cond) ∈ lwg := lw_in (i := 1030) (by decide +kernel) (by decide +kernel)
theorem mw_im_Ref_order : (Cond.instanceMethod ({ cls := "CoverRowsModel", name := "order", desc := "()I" } : MethodName) : Cond) ∈ lwg := lw_in (i := 1031) (by decide +kernel) (by decide +kernel)
theorem mw_se_Ref_order : (Cond.selects "CoverRowsModel" ({ cls := "CoverRowsModel", name := "order", desc := "()I" } : MethodName) ({ cls := "CoverRowsModel", name := "order", desc := "()I" } : MethodName) : Cond) ∈ lwg := lw_in (i := 1032) (by decide +kernel) (by decide +kernel)
theorem mw_code_Ref_order : (Cond.code ({ cls := "CoverRowsModel", name := "order", desc := "()I" } : MethodName) prog_10_method_37_code (5 : Nat) (Option.some FieldType.int) : Cond) ∈ lwg := lw_in (i := 1033) (by decide +kernel) (by decide +kernel)
theorem mw_ml_Law_141 : (Cond.methodLink "CoverRowsLaw" (141 : Nat) ({ cls := "CoverRowsModel", name := "clear", desc := "()V" } : MethodName) : Cond) ∈ lwg := lw_in (i := 1034) (by decide +kernel) (by decide +kernel)
theorem mw_im_Ref_clear : (Cond.instanceMethod ({ cls := "CoverRowsModel", name := "clear", desc := "()V" } : MethodName) : Cond) ∈ lwg := lw_in (i := 1035) (by decide +kernel) (by decide +kernel)
theorem mw_se_Ref_clear : (Cond.selects "CoverRowsModel" ({ cls := "CoverRowsModel", name := "clear", desc := "()V" } : MethodName) ({ cls := "CoverRowsModel", name := "clear", desc := "()V" } : MethodName) : Cond) ∈ lwg := lw_in (i := 1036) (by decide +kernel) (by decide +kernel)
theorem mw_code_Ref_clear : (Cond.code ({ cls := "CoverRowsModel", name := "clear", desc := "()V" } : MethodName) prog_10_method_38_code (1 : Nat) (Option.none : Option FieldType) : Cond) ∈ lwg := lw_in (i := 1037) (by decide +kernel) (by decide +kernel)
theorem mw_co_Law_98 : (Cond.constantLong "CoverRowsLaw" (98 : Nat) (4294967295 : Int64) : Cond) ∈ lwg := lw_in (i := 1038) (by decide +kernel) (by decide +kernel)
end
section
def F_CoverFinder : u_T := fun k => match k with
  | 0 => ("CoverRows$CoverFinder", "outputs", "I", true)
  | 1 => ("CoverRows$CoverFinder", "points", "[I", true)
  | 2 => ("CoverRows$CoverFinder", "costs", "[I", true)
  | 3 => ("CoverRows$CoverFinder", "weights", "[J", true)
  | 4 => ("CoverRows$CoverFinder", "havers", "[J", true)
  | 5 => ("CoverRows$CoverFinder", "picks", "[I", true)
  | 6 => ("CoverRows$CoverFinder", "size", "I", false)
  | 7 => ("CoverRows$CoverFinder", "allPoints", "I", false)
  | 8 => ("CoverRows$CoverFinder", "found", "J", false)
  | _ => ("CoverRows$CoverFinder", "foundWeight", "J", false)
def t_CoverFinder : Nat → FieldType := fun k => match k with
  | 0 => .int
  | 1 => .array .int
  | 2 => .array .int
  | 3 => .array .long
  | 4 => .array .long
  | 5 => .array .int
  | 6 => .int
  | 7 => .int
  | 8 => .long
  | _ => .long
abbrev w_CoverFinder : List Cond := u_ws R_CoverFinder F_CoverFinder 10
theorem n_CoverFinder : ∀ a, a < 10 → ∀ b, b < 10 → a ≠ b → (F_CoverFinder a).2.1 ≠ (F_CoverFinder b).2.1 := by decide +kernel
theorem t_CoverFinder_ok : ∀ k, k < 10 → parseFieldDescriptor (F_CoverFinder k).2.2.1 = some (t_CoverFinder k) := by decide +kernel
theorem i_CoverFinder : ∀ w ∈ w_CoverFinder, w ∈ lwg := by decide +kernel
def F_Cubes : u_T := fun k => match k with
  | 0 => ("CoverRows$Cubes", "products", "LCoverRows$Products;", true)
  | 1 => ("CoverRows$Cubes", "outputs", "I", true)
  | 2 => ("CoverRows$Cubes", "product", "[I", true)
  | 3 => ("CoverRows$Cubes", "kind", "[I", true)
  | _ => ("CoverRows$Cubes", "size", "I", false)
def t_Cubes : Nat → FieldType := fun k => match k with
  | 0 => .object "CoverRows$Products"
  | 1 => .int
  | 2 => .array .int
  | 3 => .array .int
  | _ => .int
abbrev w_Cubes : List Cond := u_ws R_Cubes F_Cubes 5
theorem n_Cubes : ∀ a, a < 5 → ∀ b, b < 5 → a ≠ b → (F_Cubes a).2.1 ≠ (F_Cubes b).2.1 := by decide +kernel
theorem t_Cubes_ok : ∀ k, k < 5 → parseFieldDescriptor (F_Cubes k).2.2.1 = some (t_Cubes k) := by decide +kernel
theorem i_Cubes : ∀ w ∈ w_Cubes, w ∈ lwg := by decide +kernel
def F_Diagrams : u_T := fun k => match k with
  | 0 => ("CoverRows$Diagrams", "inputs", "I", true)
  | 1 => ("CoverRows$Diagrams", "outputs", "I", true)
  | 2 => ("CoverRows$Diagrams", "asked", "[I", true)
  | 3 => ("CoverRows$Diagrams", "tables", "[I", true)
  | _ => ("CoverRows$Diagrams", "seen", "[I", true)
def t_Diagrams : Nat → FieldType := fun k => match k with
  | 0 => .int
  | 1 => .int
  | 2 => .array .int
  | 3 => .array .int
  | _ => .array .int
abbrev w_Diagrams : List Cond := u_ws R_Diagrams F_Diagrams 5
theorem n_Diagrams : ∀ a, a < 5 → ∀ b, b < 5 → a ≠ b → (F_Diagrams a).2.1 ≠ (F_Diagrams b).2.1 := by decide +kernel
theorem t_Diagrams_ok : ∀ k, k < 5 → parseFieldDescriptor (F_Diagrams k).2.2.1 = some (t_Diagrams k) := by decide +kernel
theorem i_Diagrams : ∀ w ∈ w_Diagrams, w ∈ lwg := by decide +kernel
def F_Division : u_T := fun k => match k with
  | 0 => ("CoverRows$Division", "products", "LCoverRows$Products;", true)
  | 1 => ("CoverRows$Division", "kernelLow", "[J", true)
  | 2 => ("CoverRows$Division", "kernelHigh", "[J", true)
  | 3 => ("CoverRows$Division", "row", "[I", true)
  | 4 => ("CoverRows$Division", "size", "I", false)
  | 5 => ("CoverRows$Division", "low", "J", false)
  | 6 => ("CoverRows$Division", "high", "J", false)
  | 7 => ("CoverRows$Division", "sharedOnes", "I", false)
  | _ => ("CoverRows$Division", "sharedZeros", "I", false)
def t_Division : Nat → FieldType := fun k => match k with
  | 0 => .object "CoverRows$Products"
  | 1 => .array .long
  | 2 => .array .long
  | 3 => .array .int
  | 4 => .int
  | 5 => .long
  | 6 => .long
  | 7 => .int
  | _ => .int
abbrev w_Division : List Cond := u_ws R_Division F_Division 9
theorem n_Division : ∀ a, a < 9 → ∀ b, b < 9 → a ≠ b → (F_Division a).2.1 ≠ (F_Division b).2.1 := by decide +kernel
theorem t_Division_ok : ∀ k, k < 9 → parseFieldDescriptor (F_Division k).2.2.1 = some (t_Division k) := by decide +kernel
theorem i_Division : ∀ w ∈ w_Division, w ∈ lwg := by decide +kernel
def F_PrimeFinder : u_T := fun k => match k with
  | 0 => ("CoverRows$PrimeFinder", "products", "LCoverRows$Products;", true)
  | 1 => ("CoverRows$PrimeFinder", "outputs", "I", true)
  | _ => ("CoverRows$PrimeFinder", "outs", "[I", true)
def t_PrimeFinder : Nat → FieldType := fun k => match k with
  | 0 => .object "CoverRows$Products"
  | 1 => .int
  | _ => .array .int
abbrev w_PrimeFinder : List Cond := u_ws R_PrimeFinder F_PrimeFinder 3
theorem n_PrimeFinder : ∀ a, a < 3 → ∀ b, b < 3 → a ≠ b → (F_PrimeFinder a).2.1 ≠ (F_PrimeFinder b).2.1 := by decide +kernel
theorem t_PrimeFinder_ok : ∀ k, k < 3 → parseFieldDescriptor (F_PrimeFinder k).2.2.1 = some (t_PrimeFinder k) := by decide +kernel
theorem i_PrimeFinder : ∀ w ∈ w_PrimeFinder, w ∈ lwg := by decide +kernel
def F_Products : u_T := fun k => match k with
  | 0 => ("CoverRows$Products", "inputs", "I", true)
  | 1 => ("CoverRows$Products", "size", "I", true)
  | 2 => ("CoverRows$Products", "care", "[I", true)
  | 3 => ("CoverRows$Products", "bits", "[I", true)
  | _ => ("CoverRows$Products", "had", "[I", true)
def t_Products : Nat → FieldType := fun k => match k with
  | 0 => .int
  | 1 => .int
  | 2 => .array .int
  | 3 => .array .int
  | _ => .array .int
abbrev w_Products : List Cond := u_ws R_Products F_Products 5
theorem n_Products : ∀ a, a < 5 → ∀ b, b < 5 → a ≠ b → (F_Products a).2.1 ≠ (F_Products b).2.1 := by decide +kernel
theorem t_Products_ok : ∀ k, k < 5 → parseFieldDescriptor (F_Products k).2.2.1 = some (t_Products k) := by decide +kernel
theorem i_Products : ∀ w ∈ w_Products, w ∈ lwg := by decide +kernel
def F_Terms : u_T := fun k => match k with
  | 0 => ("CoverRows$Terms", "products", "LCoverRows$Products;", true)
  | 1 => ("CoverRows$Terms", "product", "[I", true)
  | 2 => ("CoverRows$Terms", "outs", "[I", true)
  | _ => ("CoverRows$Terms", "size", "I", false)
def t_Terms : Nat → FieldType := fun k => match k with
  | 0 => .object "CoverRows$Products"
  | 1 => .array .int
  | 2 => .array .int
  | _ => .int
abbrev w_Terms : List Cond := u_ws R_Terms F_Terms 4
theorem n_Terms : ∀ a, a < 4 → ∀ b, b < 4 → a ≠ b → (F_Terms a).2.1 ≠ (F_Terms b).2.1 := by decide +kernel
theorem t_Terms_ok : ∀ k, k < 4 → parseFieldDescriptor (F_Terms k).2.2.1 = some (t_Terms k) := by decide +kernel
theorem i_Terms : ∀ w ∈ w_Terms, w ∈ lwg := by decide +kernel
def F_Main : u_T := fun k => match k with
  | 0 => ("CoverRows", "inputs", "I", true)
  | 1 => ("CoverRows", "outputs", "I", true)
  | 2 => ("CoverRows", "cubes", "LCoverRows$Cubes;", true)
  | 3 => ("CoverRows", "primes", "LCoverRows$Terms;", true)
  | 4 => ("CoverRows", "primeFinder", "LCoverRows$PrimeFinder;", true)
  | 5 => ("CoverRows", "coverFinder", "LCoverRows$CoverFinder;", true)
  | 6 => ("CoverRows", "kept", "LCoverRows$Terms;", true)
  | 7 => ("CoverRows", "division", "LCoverRows$Division;", true)
  | 8 => ("CoverRows", "diagrams", "LCoverRows$Diagrams;", true)
  | 9 => ("CoverRows", "hasKept", "Z", false)
  | _ => ("CoverRows", "primesAreOld", "Z", false)
def t_Main : Nat → FieldType := fun k => match k with
  | 0 => .int
  | 1 => .int
  | 2 => .object "CoverRows$Cubes"
  | 3 => .object "CoverRows$Terms"
  | 4 => .object "CoverRows$PrimeFinder"
  | 5 => .object "CoverRows$CoverFinder"
  | 6 => .object "CoverRows$Terms"
  | 7 => .object "CoverRows$Division"
  | 8 => .object "CoverRows$Diagrams"
  | 9 => .boolean
  | _ => .boolean
abbrev w_Main : List Cond := u_ws R_Main F_Main 11
theorem n_Main : ∀ a, a < 11 → ∀ b, b < 11 → a ≠ b → (F_Main a).2.1 ≠ (F_Main b).2.1 := by decide +kernel
theorem t_Main_ok : ∀ k, k < 11 → parseFieldDescriptor (F_Main k).2.2.1 = some (t_Main k) := by decide +kernel
theorem i_Main : ∀ w ∈ w_Main, w ∈ lwg := by decide +kernel
def F_Ref : u_T := fun k => match k with
  | 0 => ("CoverRowsModel", "thrown", "I", false)
  | 1 => ("CoverRowsModel", "inputs", "I", true)
  | 2 => ("CoverRowsModel", "outputs", "I", true)
  | 3 => ("CoverRowsModel", "products", "I", true)
  | 4 => ("CoverRowsModel", "digits", "[I", true)
  | 5 => ("CoverRowsModel", "kinds", "[I", true)
  | 6 => ("CoverRowsModel", "cubes", "I", false)
  | 7 => ("CoverRowsModel", "on", "[I", true)
  | 8 => ("CoverRowsModel", "can", "[I", true)
  | 9 => ("CoverRowsModel", "primeProducts", "[I", true)
  | 10 => ("CoverRowsModel", "primeOutputs", "[I", true)
  | 11 => ("CoverRowsModel", "primeCosts", "[I", true)
  | 12 => ("CoverRowsModel", "primePoints", "[I", true)
  | 13 => ("CoverRowsModel", "primes", "I", false)
  | 14 => ("CoverRowsModel", "rest", "[I", true)
  | 15 => ("CoverRowsModel", "kept", "Z", false)
  | 16 => ("CoverRowsModel", "keptProducts", "[I", true)
  | 17 => ("CoverRowsModel", "keptOutputs", "[I", true)
  | 18 => ("CoverRowsModel", "terms", "I", false)
  | 19 => ("CoverRowsModel", "quotients", "[I", true)
  | 20 => ("CoverRowsModel", "quotientCount", "I", false)
  | 21 => ("CoverRowsModel", "chosen", "[I", true)
  | 22 => ("CoverRowsModel", "best", "[I", true)
  | 23 => ("CoverRowsModel", "bestCost", "I", false)
  | _ => ("CoverRowsModel", "found", "[I", true)
def t_Ref : Nat → FieldType := fun k => match k with
  | 0 => .int
  | 1 => .int
  | 2 => .int
  | 3 => .int
  | 4 => .array .int
  | 5 => .array .int
  | 6 => .int
  | 7 => .array .int
  | 8 => .array .int
  | 9 => .array .int
  | 10 => .array .int
  | 11 => .array .int
  | 12 => .array .int
  | 13 => .int
  | 14 => .array .int
  | 15 => .boolean
  | 16 => .array .int
  | 17 => .array .int
  | 18 => .int
  | 19 => .array .int
  | 20 => .int
  | 21 => .array .int
  | 22 => .array .int
  | 23 => .int
  | _ => .array .int
abbrev w_Ref : List Cond := u_ws R_Ref F_Ref 25
theorem n_Ref : ∀ a, a < 25 → ∀ b, b < 25 → a ≠ b → (F_Ref a).2.1 ≠ (F_Ref b).2.1 := by decide +kernel
theorem t_Ref_ok : ∀ k, k < 25 → parseFieldDescriptor (F_Ref k).2.2.1 = some (t_Ref k) := by decide +kernel
theorem i_Ref : ∀ w ∈ w_Ref, w ∈ lwg := by decide +kernel
abbrev classes : List vw_C := [(R_CoverFinder, F_CoverFinder, 10), (R_Cubes, F_Cubes, 5), (R_Diagrams, F_Diagrams, 5), (R_Division, F_Division, 9), (R_PrimeFinder, F_PrimeFinder, 3), (R_Products, F_Products, 5), (R_Terms, F_Terms, 4), (R_Main, F_Main, 11), (R_Ref, F_Ref, 25)]
end
section
/-! ===== calls that may throw, throws, catches: rows of the walking judgement W ===== -/
section XT
variable {p : Program} {l : Launch} {e : Env} {R : Room} {s : State} {m : MethodId} {args : Array Value} {below : List Frame} {meth : Method} {c : Code} {H : Heap} {locs : List Loc} {cells slots : Nat} {Q : State → Prop}
/-- a method's end by a return or by a throw: the tables warmer, the frame -/
def xt_F (st t : State) (L : List Loc) (k n : Nat) : Prop := st.WarmedH t.vm ∧ st.sameButNew ({ t with vm := st.vm } : State) L k n
/-- a contract whose end is a return or a throw -/
def xt_Met (l : Launch) (y : MethodName) (ws : List Cond) (rm : Room) (Pc : Array Value → State → Prop) (Qc : Array Value → State → Outcome → State → Prop) (mc ms : Nat) (free : Addr → Prop) : Prop :=
  MetFree l y (headSpec ws rm) Pc (fun _ _ _ _ _ => True) (fun a st o t => Qc a st o t ∧ ∃ L, xt_F st t L mc ms ∧ ∀ q ∈ L, free q.base)
def xt_MQ (below : List Frame) (Qc : Array Value → State → Outcome → State → Prop) (a : Array Value) (s : State) (mc ms : Nat) (free : Addr → Prop) : State → Prop := fun t =>
  ∃ o, t.status = .running ∧ Ended t below o ∧ Qc a s o t ∧ ∃ L, xt_F s t L mc ms ∧ ∀ q ∈ L, free q.base
/-- the walk with a throw under way over the frame g -/
def xt_W (p : Program) (l : Launch) (e : Env) (R : Room) (s : State) (m : MethodId) (args : Array Value) (below : List Frame) (meth : Method) (c : Code) (H : Heap) (locs : List Loc) (cells slots : Nat) (Q : State → Prop) (x : Addr) (g : JFrame) : Prop :=
  ∀ T : State, T.heap = H → Stand p l e R s m args below meth c T locs cells slots → ∃ t, Steps p.tables e below ((T.setTop g).pushFrame (.throwing x)) t ∧ Q t
theorem xt_imp {Q' : State → Prop} {g : JFrame} (h : ∀ t, Q t → Q' t) (k : W p l e R s m args below meth c H locs cells slots Q g) : W p l e R s m args below meth c H locs cells slots Q' g := by
  intro T hT X
  obtain ⟨t, a, b⟩ := k T hT X
  exact ⟨t, a, h t b⟩
theorem xt_ofMQ {Qc : Array Value → State → Outcome → State → Prop} {a : Array Value} {mc ms : Nat} {free : Addr → Prop} (t : State) (h : MQ below Qc a s mc ms free t) : xt_MQ below Qc a s mc ms free t := by
  obtain ⟨o, h1, h2, h3, L, hF, hL⟩ := h
  exact ⟨o, h1, h2, h3, L, ⟨hF.2.1, hF.2.2⟩, hL⟩
theorem xt_ofW {y : MethodName} {ws ws' : List Cond} {rm : Room} {Pc : Array Value → State → Prop} {Qc : Array Value → State → Outcome → State → Prop} {mc ms : Nat} {free : Addr → Prop} {cc : ByteArray} {maxL : Nat} {ret : Option FieldType}
    (hy : plainName y.cls = true) (hw : ws = Cond.code y cc maxL ret :: ws')
    (body : ∀ p e s m args below meth c s₁, BodyLoose p l y (headSpec ws rm) cc maxL ret e s m args below meth c s₁ → c.maxLocals = maxL → (∀ x ∈ c.exceptionTable.toList, False) → Pc args s →
      W p l e (headSpec ws rm).room s m args below meth c s.heap [] 0 0 (xt_MQ below Qc args s mc ms free) (entryFrame m args maxL)) : xt_Met l y ws rm Pc Qc mc ms free := by
  refine MetFree.of_bodyS (code := cc) (maxLocals := maxL) (ret := ret) hy ?_ ?_
  · intro args s m h hn
    obtain ⟨meth, c, h1, h2, h3, h4, h5, h6, -, -⟩ := Cond.code_spec hn (atoms_spec (ws := ws) h _ (by rw [hw]; exact List.mem_cons_self))
    exact ⟨meth, c, h1, h2, h3, h4, h5, h6⟩
  · intro p e s m args below meth c s₁ B hml hP _
    have hh0 : s₁.heap = s.heap := by rw [B.state]; rfl
    have hcw : (Cond.code y cc maxL ret).before args s = true := atoms_spec (ws := ws) B.pre _ (by rw [hw]; exact List.mem_cons_self)
    have hnh := BodyLoose.noHandlers B hcw
    have hno : ∀ x ∈ c.exceptionTable.toList, False := by
      intro x hx
      have hz : c.exceptionTable = #[] := by simpa using hnh
      rw [hz] at hx
      simp at hx
    obtain ⟨t, a1, o, b1, b2, b3⟩ := body p e s m args below meth c s₁ B hml hno hP s₁ hh0 (Stand.of_body B)
    exact ⟨t, o, a1, b1, b2, ⟨b3.1, b3.2⟩⟩
/-- a contract that only returns is one of the wider kind -/
theorem xt_ofMet {y : MethodName} {ws : List Cond} {rm : Room} {Pc : Array Value → State → Prop} {Qc : Array Value → State → Outcome → State → Prop} {mc ms : Nat} {free : Addr → Prop} (h : Met l y ws rm Pc Qc mc ms free) : xt_Met l y ws rm Pc Qc mc ms free := by
  intro p e ha hc hk s m args below hf happ hP hK
  obtain ⟨n, o, h1, h2, h3, hq, L, hF, hL⟩ := h p e ha hc hk s m args below hf happ hP hK
  exact ⟨n, o, h1, h2, h3, hq, L, ⟨hF.2.1, hF.2.2⟩, hL⟩
/-- a throw leaves a method that has no handler there -/
theorem xt_leave {Qc : Array Value → State → Outcome → State → Prop} {free : Addr → Prop} {x : Addr} {pc : Nat} {ls : Array Slot} {st : List Value} (hno : ∀ x ∈ c.exceptionTable.toList, False) (hlocks : meth.locks = false)
    (hq : ∀ t : State, t.heap = H → s.WarmedH t.vm → Qc args s (.threw x) t) (hf : ∀ q ∈ locs, free q.base) :
    xt_W p l e R s m args below meth c H locs cells slots (xt_MQ below Qc args s cells slots free) x (F0 m pc ls st) := by
  intro T hT X
  obtain ⟨h1, h2, h3, h4, h5⟩ := X.leaveThrown x (g := F0 m pc ls st) rfl rfl rfl (fun y hy => (hno y hy).elim) hlocks
  exact ⟨_, h1, _, h2, h3, hq _ hT h4, locs, ⟨h4, h5⟩, hf⟩
end XT
section XTC
variable {p : Program} {l : Launch} {e : Env} {R : Room} {s : State} {m : MethodId} {args : Array Value} {below : List Frame} {meth : Method} {c : Code} {T : State} {locs : List Loc} {cells slots : Nat}
/-- behind the invoking instruction: the callee comes back, or its throw lies over the caller's frame -/
theorem xt_call {y : MethodName} {ws : List Cond} {rm : Room} {Pc : Array Value → State → Prop} {Qc : Array Value → State → Outcome → State → Prop} {mc ms : Nat} {free : Addr → Prop} {bytes : ByteArray} {maxL : Nat} {ret : Option FieldType}
    (X : Stand p l e R s m args below meth c T locs cells slots) (hM : xt_Met l y ws rm Pc Qc mc ms free) (hbl : FrameBlind Pc) (hrc : rm.cells = mc) (hrs : rm.slots = ms) (hfr : rm.frames + 1 ≤ R.frames) (hlo : 8 + (maxL + 11) + rm.locals ≤ R.locals)
    {a : Array Value} (hws : ∀ w ∈ ws, w.before a T = true) (hcode : (Cond.code y bytes maxL ret).before a T = true) (hini : (Cond.initialized y.cls).before a T = true) (hcells : cells + mc ≤ R.cells) (hslots : slots + ms ≤ R.slots) (hPc : Pc a T)
    {g : JFrame} (hg : g.method = m) (hsize : g.locals.size = c.maxLocals) {ig : Instr} (hdg : decode c.code g.pc = .ok (ig, 3)) (hW : 2 * g.monitorRoom + (g.stack.map fun v => v.category).sum ≤ 8) {mk : MethodId} (hn : T.methodNamed? y = some mk) :
    ∃ (o : Outcome) (t T' : State) (L : List Loc), Stand p l e R s m args below meth c T' (locs ++ L) (cells + mc) (slots + ms) ∧ (∀ q ∈ L, free q.base) ∧ T'.heap = t.heap ∧ T'.vm = t.vm ∧ Qc a (T.calling g mk a) o t ∧
      Steps p.tables e below (doInvoke e (T.setTop g) [] mk a).1 t ∧
      ((∃ v, o = .returned v ∧ t = T'.setTop { g with pc := g.pc + 3, stack := v.toList ++ g.stack }) ∨ (∃ x, o = .threw x ∧ t = (T'.setTop g).pushFrame (.throwing x))) := by
  obtain ⟨methY, cY, hmY, hcY, -, hlY, -, -, -, -⟩ := Cond.code_spec hn hcode
  obtain ⟨kY, hkY, -⟩ := className_of_methodNamed hn
  have hinitY : kY.init = .initialized := Cond.initialized_spec (findClass_of_methodNamed hn) hkY hini
  have h : At T g.method c below := by rw [hg]; exact X.here
  have happ : (headSpec ws rm).appliesLoose y e.platform (T.calling g mk a) = true :=
    Spec.appliesLoose_calling (g := g) h hdg hn hkY hinitY
      (X.room_calling (g := g) (R' := (headSpec ws rm).room) hsize hmY hcY hfr (by rw [hlY]; show _ + (maxL + 11) + rm.locals ≤ R.locals; omega) (by show cells + rm.cells ≤ _; omega) (by show slots + rm.slots ≤ _; omega)) (atoms_intro hws)
  obtain ⟨mid, hmid⟩ := h.above
  have hfr2 : (T.setTop g).frames = (.java g :: mid) ++ below := by rw [State.frames_setTop' g h.top, hmid]; rfl
  obtain ⟨o, s₂, hsteps, -, hend, hq, L, ⟨hW2, hsame⟩, hL⟩ := Steps.callFree hM p X.admits X.cas X.clock (acts := []) hfr2 happ (hbl a T g mk hPc) trivial
  rw [State.frames_setTop' g h.top, X.tail] at hend
  cases o with
  | returned v =>
    obtain ⟨T', X', -, -, ht⟩ := X.outOf hg hdg (mk := mk) (a := a) hend hW2 hsame
    exact ⟨_, s₂, T', L, X', hL, by rw [ht]; simp [State.setTop, State.modifyTopJava], by rw [ht]; simp [State.setTop, State.modifyTopJava], hq, hsteps, Or.inl ⟨v, rfl, ht⟩⟩
  | threw x =>
    obtain ⟨T', X', -, -, ht⟩ := X.outOfThrown hg (mk := mk) (a := a) hend hW2 hsame
    exact ⟨_, s₂, T', L, X', hL, by rw [ht, throwing_heap], by rw [ht, throwing_vm], hq, hsteps, Or.inr ⟨x, rfl, ht⟩⟩
end XTC
end
section
/-! ===== a call (invokevirtual) of a method that may throw; a catch, the caught classes linked cold or warm ===== -/
section XTV
variable {p : Program} {l : Launch} {e : Env} {R : Room} {s : State} {m : MethodId} {args : Array Value} {below : List Frame} {meth : Method} {c : Code} {H : Heap} {locs : List Loc} {cells slots : Nat} {Q : State → Prop}
theorem xt_callV {y : MethodName} {bytes cc : ByteArray} {maxL nL mc ms n index : Nat} {ret : Option FieldType} {ws : List Cond} {rm : Room} {Pc : Array Value → State → Prop} {Qc : Array Value → State → Outcome → State → Prop} {free : Addr → Prop} {Ts : List Cond} {own C : String} {b : Addr} {As rest st0 : List Value} {pc : Nat} {ls : Array Slot}
    (S : CallFix p m c cc nL s args Ts own) (hM : xt_Met l y ws rm Pc Qc mc ms free) (cw : CallW R s args own C index y bytes maxL ret ws rm mc ms n) (hp : PreV s H C b Pc As)
    (hn : As.length = n) (hsize : ls.size = nL) (hstack : st0 = As.reverse ++ .ref b :: rest) (hW : 2 * (F0 m pc ls rest).monitorRoom + (rest.map fun v => v.category).sum ≤ 8) (hdg : decode cc pc = .ok (.invokevirtual index, 3)) (hf : cells + mc ≤ R.cells ∧ slots + ms ≤ R.slots)
    (kr : ∀ (v : Option Value) (st₀ t : State) (H1 : Heap) (L : List Loc), st₀.heap = H → t.heap = H1 → s.vm.Alike t.vm → Qc (Value.ref b :: As).toArray st₀ (.returned v) t → (∀ q ∈ L, free q.base) → W p l e R s m args below meth c H1 (locs ++ L) (cells + mc) (slots + ms) Q (F0 m (pc + 3) ls (v.toList ++ rest)))
    (kx : ∀ (x : Addr) (st₀ t : State) (H1 : Heap) (L : List Loc), st₀.heap = H → t.heap = H1 → s.vm.Alike t.vm → Qc (Value.ref b :: As).toArray st₀ (.threw x) t → (∀ q ∈ L, free q.base) → xt_W p l e R s m args below meth c H1 (locs ++ L) (cells + mc) (slots + ms) Q x (F0 m pc ls rest)) :
    W p l e R s m args below meth c H locs cells slots Q (F0 m pc ls st0) := by
  intro T hT X
  obtain ⟨⟨hrc, hrs, hfr, hlo, hws, hcw, hcode, hini, hy, hlen, hl⟩, hin, hse⟩ := cw
  obtain ⟨hx, hb, hml, ho, -⟩ := S
  obtain ⟨hbl, ⟨cellB, hcB, hoB, hclB⟩, hPc⟩ := hp
  obtain ⟨mk, methM, hnamed, hmethM, hstM, habM⟩ := Cond.instanceMethod_spec hin
  obtain ⟨methM', cM, hmethM', -, -, -, -, -, -, hsigM⟩ := Cond.code_spec hnamed hcode
  cases hmethM.symm.trans hmethM'
  obtain ⟨c2, r2, m2, q1, q2, q3, q4, kP, hkP, hkPi⟩ := Cond.selects_spec hse
  cases hclB.symm.trans q1
  cases (State.methodFound?_of_named hnamed hy).symm.trans q2
  cases hnamed.symm.trans q3
  have hselP : selectMethod e.platform s.vm cellB.cls mk = .method mk := by rw [Launch.admits_selectMethod X.admits]; exact q4
  obtain ⟨vm₁, X₁, hstep₁⟩ := X.invokevirtual hx ho hl hnamed hmethM hstM hkP hkPi hy (a := b) (cell := cellB) (by rw [hT]; exact hcB)
    (fun z h => by rw [h] at hoB; cases hoB) hselP hmethM habM hkP hkPi (g := F0 m pc ls st0) rfl (argsL := As) (rest := rest) (hn.trans (hlen _ hsigM)) hstack (by rw [hb]; exact hdg)
  obtain ⟨o, t, T', L, X', hL, e1, e2, hq, hst, hor⟩ := xt_call X₁ hM hbl hrc hrs hfr hlo (a := (Value.ref b :: As).toArray) (fun w hw => hws w hw _ _ X₁.warmed) (hws _ hcw _ _ X₁.warmed)
    (word_at X₁.warmed (Or.inl (by first | rfl | simp [Cond.onTables, Cond.keeps, Cond.steady])) hini) hf.1 hf.2 (hPc _ hT X₁.warmed) (g := F0 m pc ls rest) rfl (hsize.trans hml.symm) (ig := .invokevirtual index) (by rw [hb]; exact hdg) hW (X₁.named hnamed)
  have hal : s.vm.Alike t.vm := by rw [← e2]; exact X'.warmed.alike
  rcases hor with ⟨v, rfl, ht⟩ | ⟨x, rfl, ht⟩
  · obtain ⟨u, a1, b1⟩ := kr v ((T.setVm vm₁).calling (F0 m pc ls rest) mk (Value.ref b :: As).toArray) t T'.heap L hT e1.symm hal hq hL T' rfl X'
    refine ⟨u, hstep₁ _ fun acts => ?_, b1⟩
    rw [doInvoke_state]
    exact hst.trans (by rw [ht]; exact a1)
  · obtain ⟨u, a1, b1⟩ := kx x ((T.setVm vm₁).calling (F0 m pc ls rest) mk (Value.ref b :: As).toArray) t T'.heap L hT e1.symm hal hq hL T' rfl X'
    refine ⟨u, hstep₁ _ fun acts => ?_, b1⟩
    rw [doInvoke_state]
    exact hst.trans (by rw [ht]; exact a1)
end XTV
section XTH
variable {e : Env} {s : State} {f : JFrame} {a : Addr}
/-- one entry of the table, its class linked: resolved and noted; then caught, or the search goes on -/
theorem xt_entry {S : State} {x : ExceptionTableEntry} {t : List ExceptionTableEntry} {c : ClassId} {cell : Cell} {Q : Handler → Pre} {E : CtlPost} {d : Bool} {acts : List Action} (hx : covers x f.pc = true) (h0 : x.catchType ≠ 0)
    (hl : S.vm.ClassLinks e.platform f.method.cls x.catchType c) (hcell : S.heap[a]? = some cell) (hobj : ∀ k, cell.vm ≠ .statics k)
    (hk : ∃ k, S.vm.classes[cell.cls]? = some k) (hc : ∃ k, S.vm.classes[c]? = some k) {vm' : Vm} (hvm : vm' = S.vm.noted f.method.cls x.catchType (.cls c)) :
    wp (findHandler.go f a (x :: t)) Q E e d acts S ↔
      if S.vm.assignable cell.cls c = true then Q (.found x.handlerPc) d acts (S.setVm vm') else wp (findHandler.go f a t) Q E e d acts (S.setVm vm') := by
  subst hvm
  simp only [covers] at hx
  have hg := (resolveClass_links e.toSetting hl).op (op := VmOp.resolveClass f.method.cls x.catchType) rfl
  have hal := (Vm.Alike.refl S.vm).noted f.method.cls x.catchType (.cls c)
  obtain ⟨k1, hk1⟩ := hk
  obtain ⟨k2, hk2⟩ := hc
  obtain ⟨k3, hk3, -⟩ := hal.2.2 _ _ hk1
  obtain ⟨k4, hk4, -⟩ := hal.2.2 _ _ hk2
  have has : (S.vm.noted f.method.cls x.catchType (.cls c)).assignable cell.cls c = S.vm.assignable cell.cls c := by rw [hal.assignable]
  cases hfit : S.vm.assignable cell.cls c <;> rw [hfit] at has <;> simp [findHandler.go, hx, h0, hg.1, hg.2, hcell, hobj, hk3, hk4, has, VmOp.dirties, VmOp.acts]
end XTH
section XTG
variable {e : Env} {s : State} {f : JFrame} {a : Addr}
/-- an entry whose class is linked (at the invocation's state); whether the thrown object is of that class -/
def xt_link (e : Env) (s : State) (f : JFrame) (cell : Cell) (fits : Bool) (x : ExceptionTableEntry) : Prop :=
  covers x f.pc = true ∧ x.catchType ≠ 0 ∧ ∃ c : ClassId, s.vm.ClassLinks e.platform f.method.cls x.catchType c ∧ s.vm.assignable cell.cls c = fits
/-- the search through a table: entries that don't fit, then one that does -/
theorem xt_search {cell : Cell} {x : ExceptionTableEntry} {rest : List ExceptionTableEntry} (hobj : ∀ k, cell.vm ≠ .statics k) (hk : ∃ k, s.vm.classes[cell.cls]? = some k) (hx : xt_link e s f cell true x) :
    ∀ (pre : List ExceptionTableEntry), (∀ y ∈ pre, xt_link e s f cell false y) → ∀ S : State, S.heap[a]? = some cell → s.WarmedH S.vm →
      ∃ vm', s.WarmedH vm' ∧ ∀ (Q : Handler → Pre) (E : CtlPost) (d : Bool) (acts : List Action), wp (findHandler.go f a (pre ++ x :: rest)) Q E e d acts S ↔ Q (.found x.handlerPc) d acts (S.setVm vm') := by
  intro pre
  induction pre with
  | nil =>
    intro _ S hcell hW
    obtain ⟨h1, h2, c, hl, hfit⟩ := hx
    obtain ⟨dk, _, _, ck, hd, _, _, _, _, hck, _, hopen⟩ := hl.here
    obtain ⟨k1, hk1⟩ := hk
    obtain ⟨k2, hk2, -⟩ := hW.alike.2.2 _ _ hk1
    obtain ⟨k3, hk3, -⟩ := hW.alike.2.2 _ _ hck
    refine ⟨_, hW.noted hd hopen (State.rightAt_cls hl), fun Q E d acts => ?_⟩
    rw [List.nil_append, xt_entry h1 h2 (hW.classLinks hl) hcell hobj ⟨k2, hk2⟩ ⟨k3, hk3⟩ rfl, if_pos (by rw [hW.alike.assignable]; exact hfit)]
  | cons y ys ih =>
    intro hp S hcell hW
    obtain ⟨h1, h2, c, hl, hfit⟩ := hp y List.mem_cons_self
    obtain ⟨dk, _, _, ck, hd, _, _, _, _, hck, _, hopen⟩ := hl.here
    obtain ⟨k1, hk1⟩ := hk
    obtain ⟨k2, hk2, -⟩ := hW.alike.2.2 _ _ hk1
    obtain ⟨k3, hk3, -⟩ := hW.alike.2.2 _ _ hck
    have hW1 := hW.noted hd hopen (State.rightAt_cls hl)
    obtain ⟨vm', hW', hq⟩ := ih (fun z hz => hp z (List.mem_cons_of_mem _ hz)) (S.setVm (S.vm.noted f.method.cls y.catchType (.cls c))) hcell hW1
    refine ⟨vm', hW', fun Q E d acts => ?_⟩
    rw [List.cons_append, xt_entry h1 h2 (hW.classLinks hl) hcell hobj ⟨k2, hk2⟩ ⟨k3, hk3⟩ rfl, if_neg (by rw [hW.alike.assignable, hfit]; decide), hq]
    exact Iff.rfl
/-- a search that ends in a handler, the tables warmer: the step -/
theorem xt_step {S : State} {r : List Frame} {pc : Nat} {vm' : Vm} (hfind : ∀ (Q : Handler → Pre) (E : CtlPost) (d : Bool) (acts : List Action), wp (findHandler f a) Q E e d acts S ↔ Q (.found pc) d acts (S.setVm vm')) :
    (stepThrowing e S a (.java f :: r)).Is ((S.setVm vm').setFrames (.java { f with pc := pc, stack := [.ref a] } :: r)) [] := by
  simp only [stepThrowing, searchFrame, vmDo]
  generalize hr : Sem.go _ e false [] S = res
  obtain ⟨as, rfl, ha⟩ := Sem.eq_ok_of hr (a := Handler.found pc) (s' := S.setVm vm') (acts' := []) (by simp [hfind _ _ _ _])
  exact ⟨rfl, ha⟩
theorem xt_caught {tb : Tables} {target S : State} {g : JFrame} {c : Code} {below : List Frame} (h : At S g.method c below) {pc : Nat} {vm' : Vm}
    (hfind : ∀ (Q : Handler → Pre) (E : CtlPost) (d : Bool) (acts : List Action), wp (findHandler g a) Q E e d acts ((S.setTop g).pushFrame (.throwing a)) ↔ Q (.found pc) d acts (((S.setTop g).pushFrame (.throwing a)).setVm vm'))
    (hrest : Steps tb e below ((S.setVm vm').setTop { g with pc := pc, stack := [.ref a] }) target) : Steps tb e below ((S.setTop g).pushFrame (.throwing a)) target := by
  obtain ⟨hgo, hw⟩ := h.throwing a
  refine Steps.head hgo hw ?_
  rw [stepThread_throwing (frames_entered h.top _), (xt_step hfind).1]
  obtain ⟨g₀, hg⟩ := Option.isSome_iff_exists.mp h.top
  obtain ⟨r, hr⟩ := State.topJava?_eq_some.mp hg
  have hr' : (S.setVm vm').frames = .java g₀ :: r := hr
  rw [State.setTop_of_frames _ hr'] at hrest
  have key : ((((S.setTop g).pushFrame (.throwing a)).setVm vm').setFrames (.java { g with pc := pc, stack := [.ref a] } :: S.frames.tail)) = (S.setVm vm').setFrames (.java { g with pc := pc, stack := [.ref a] } :: r) := by
    rw [State.pushFrame, State.setTop_of_frames _ hr, hr, List.tail_cons, State.setFrames_setFrames]
    show ((S.setVm vm').setFrames _).setFrames _ = _
    rw [State.setFrames_setFrames]
  rw [key]
  exact hrest
end XTG
section XTK
variable {p : Program} {l : Launch} {e : Env} {R : Room} {s : State} {m : MethodId} {args : Array Value} {below : List Frame} {meth : Method} {c : Code} {H : Heap} {locs : List Loc} {cells slots : Nat} {Q : State → Prop}
/-- a throw over the frame is caught at a handler of the method's own -/
theorem xt_catch {x : Addr} {pc hpc : Nat} {ls : Array Slot} {st : List Value} {cell : Cell} (pre : List ExceptionTableEntry) (y : ExceptionTableEntry) (rest : List ExceptionTableEntry) (htab : c.exceptionTable.toList = pre ++ y :: rest) (hy : y.handlerPc = hpc)
    (hcell : H[x]? = some cell) (hobj : ∀ k, cell.vm ≠ .statics k) (hk : ∃ k, s.vm.classes[cell.cls]? = some k)
    (hpre : ∀ z ∈ pre, xt_link e s (F0 m pc ls st) cell false z) (hfit : xt_link e s (F0 m pc ls st) cell true y)
    (kk : W p l e R s m args below meth c H locs cells slots Q (F0 m hpc ls [.ref x])) : xt_W p l e R s m args below meth c H locs cells slots Q x (F0 m pc ls st) := by
  intro T hT X
  subst hy
  have hU : (((T.setTop (F0 m pc ls st)).pushFrame (.throwing x))).heap[x]? = some cell := by rw [throwing_heap, hT]; exact hcell
  have hW : s.WarmedH ((T.setTop (F0 m pc ls st)).pushFrame (.throwing x)).vm := by rw [throwing_vm]; exact X.warmed
  obtain ⟨vm', hW', hq⟩ := xt_search (e := e) (f := F0 m pc ls st) (a := x) (rest := rest) hobj hk hfit pre hpre _ hU hW
  obtain ⟨t, a1, b1⟩ := kk (T.setVm vm') hT (X.noted hW')
  refine ⟨t, xt_caught (c := c) X.here (vm' := vm') (pc := y.handlerPc) (fun Q E d acts => ?_) a1, b1⟩
  rw [Jvm.W.findHandler_eq (meth := meth) (code := c) (by rw [throwing_vm]; exact X.method') X.code, htab]
  exact hq Q E d acts
end XTK
end
section
/-! ===== throw new E("text"): the heap that was there stays as it was ===== -/
section XTB
variable {p : Program} {l : Launch} {e : Env} {R : Room} {s : State} {m : MethodId} {args : Array Value} {below : List Frame} {meth : Method} {c : Code} {T : State} {locs : List Loc} {cells slots : Nat}
/-- the same walk, counted anew from the state at which it stands -/
theorem xt_base (X : Stand p l e R s m args below meth c T locs cells slots) (h1 : cells ≤ R.cells) (h2 : slots ≤ R.slots) :
    Stand p l e { R with cells := R.cells - cells, slots := R.slots - slots } (T.setFrames (.invoking m args :: below)) m args below meth c T [] 0 0 := by
  obtain ⟨g₀, hfr⟩ := X.frames_eq
  have hcur : T.cur < T.threads.size := State.cur_lt_of_frames hfr
  have hfb : (T.setFrames (.invoking m args :: below)).frames = .invoking m args :: below := State.frames_setFrames _ hcur
  have hloc : (T.setFrames (.invoking m args :: below)).localsInUse = s.localsInUse := by
    rw [State.localsInUse_invoking hfb X.method' X.code, State.localsInUse_invoking X.frames X.method X.code]
  have hlim : e.platform.stackLimits (T.setFrames (.invoking m args :: below)).me = e.platform.stackLimits s.me := (State.stackLimits_setFrames _ _ _).trans X.limits
  have hbyt : (T.setFrames (.invoking m args :: below)).me.stackBytes = s.me.stackBytes := (State.stackBytes_setFrames _ _).trans X.bytes
  have hroom := X.room
  have hsz := X.heapSize
  have hus := X.used
  have hbk : (T.setFrames (.invoking m args :: below)).slotsTrue = true := X.book
  refine ⟨X.admits, X.cas, X.clock, hfb, ?_, ?_, X.method', X.code, X.here, X.tail, State.WarmedH.refl _, (State.stackLimits_setFrames _ _ _).symm, (State.stackBytes_setFrames _ _).symm, ?_⟩
  · simp only [State.hasRoom, Bool.and_eq_true, decide_eq_true_eq] at hroom ⊢
    rw [hloc, hfb, hlim, hbyt]
    rw [X.frames] at hroom
    have hh : (T.setFrames (.invoking m args :: below)).heap.size = T.heap.size := rfl
    have hu : (T.setFrames (.invoking m args :: below)).slotsUsed = T.slotsUsed := rfl
    obtain ⟨⟨⟨⟨r1, r2⟩, r3⟩, r4⟩, r5⟩ := hroom
    exact ⟨⟨⟨⟨r1, r2⟩, by rw [hh]; show T.heap.size + (R.cells - cells) ≤ _; omega⟩, by rw [hu]; show T.slotsUsed + (R.slots - slots) ≤ _; omega⟩, hbk⟩
  · have hh := X.hears
    cases below with
    | nil =>
      simp only [State.hears] at hh ⊢
      rw [show (T.setFrames [.invoking m args]).vm.method? m = some meth from X.method']
      rw [X.method] at hh
      exact hh
    | cons fr rs =>
      cases fr with
      | java g =>
        simp only [State.hears] at hh ⊢
        rw [State.code?_eq] at hh ⊢
        rw [show (T.setFrames (.invoking m args :: .java g :: rs)).vm.method? g.method = s.vm.method? g.method from X.warmed.alike.method? _]
        exact hh
      | _ =>
        first
          | rfl
          | (simp only [State.hears] at hh ⊢
             first
               | exact hh
               | (rw [show (T.setFrames _).vm.method? m = some meth from X.method']; rw [X.method] at hh; exact hh))
  · have hself : (T.setFrames (.invoking m args :: below)).setFrames T.frames = T := by
      obtain ⟨th, hth, -⟩ := State.frames_cons hfr
      rw [State.setFrames_setFrames, State.setFrames_self hth]
    have hdrop : T.heap.toList.drop T.heap.size = [] := List.drop_eq_nil_of_le (by simp)
    refine ⟨?_, Nat.le_refl _, Nat.le_refl _, ?_, ?_, ?_⟩
    · show T = _
      rw [show (T.setVm (T.setFrames (.invoking m args :: below)).vm).frames = T.frames from rfl, hself]
      rfl
    · show T.slotsUsed = T.slotsUsed + ((T.heap.toList.drop T.heap.size).map (·.slots.size)).sum
      rw [hdrop]; rfl
    · show ((T.heap.toList.drop T.heap.size).map (·.slots.size)).sum ≤ 0
      rw [hdrop]; exact Nat.le_refl _
    · intro a cl h
      exact ⟨cl, h, rfl, rfl, fun _ _ => rfl⟩
end XTB
/-- a static that holds a reference or null, in a cell that is not written -/
def xt_Z (C n d : String) (A : Nat → Prop) (U : State) (H : Heap) : Prop := ∃ (cf : ClassId) (kf : Class) (fi : Nat) (f : Field) (a : Nat) (cell : Cell) (v : Value), U.vm.findClass C = some cf ∧ U.fieldFound? C n d = some (cf, kf, fi, f) ∧ f.isStatic = true ∧ kf.statics = some a ∧ H[a]? = some cell ∧ cell.vm.isStatics = true ∧ cell.cls = cf ∧ cell.slots[f.slot]? = some v ∧ (v = .null ∨ ∃ t, v = .ref t) ∧ kf.staticTypes[f.slot]? = some f.type ∧ ¬ A a
theorem xt_Z.moved {C n d : String} {A : Nat → Prop} {u U : State} {H : Heap} (hvm : u.vm.Alike U.vm) (h : xt_Z C n d A u H) : xt_Z C n d A U H := by
  obtain ⟨cf, kf, fi, f, a, cell, v, h0, h1, h2, h4, h5, h6, h7, h8, h9, h10, h11⟩ := h
  obtain ⟨k', hi', he⟩ := State.fieldFound?_setVm hvm h1
  exact ⟨cf, k', fi, f, a, cell, v, by rw [hvm.findClass]; exact h0, hi', h2, by rw [he]; exact h4, h5, h6, h7, h8, h9, by rw [he]; exact h10, h11⟩
theorem xt_Z.kept {C n d : String} {A : Nat → Prop} {U : State} {H H1 : Heap} (h : xt_Z C n d A U H) (hq : ∀ a : Nat, a < H.size → ¬ A a → H1[a]? = H[a]?) : xt_Z C n d A U H1 := by
  obtain ⟨cf, kf, fi, f, a, cell, v, h0, h1, h2, h4, h5, h6, h7, h8, h9, h10, h11⟩ := h
  exact ⟨cf, kf, fi, f, a, cell, v, h0, h1, h2, h4, by rw [hq a (Array.getElem?_eq_some_iff.mp h5).1 h11]; exact h5, h6, h7, h8, h9, h10, h11⟩
theorem xt_Z.narrow {C n d : String} {A B : Nat → Prop} {U : State} {H : Heap} (h : xt_Z C n d A U H) (hAB : ∀ q, B q → A q) : xt_Z C n d B U H := by
  obtain ⟨cf, kf, fi, f, a, cell, v, h0, h1, h2, h4, h5, h6, h7, h8, h9, h10, h11⟩ := h
  exact ⟨cf, kf, fi, f, a, cell, v, h0, h1, h2, h4, h5, h6, h7, h8, h9, h10, fun z => h11 (hAB a z)⟩
theorem xt_isRef {C n d : String} {A : Nat → Prop} {U : State} {a : Array Value} (h : xt_Z C n d A U U.heap) : (Cond.isRef (.static C n d)).before a U = true := by
  obtain ⟨cf, kf, fi, f, ad, cell, v, h0, h1, h2, h4, h5, h6, h7, h8, h9, h10, h11⟩ := h
  rcases h9 with rfl | ⟨t, rfl⟩ <;> simp [Cond.before, Cond.holds, Cond.value, Term.eval, State.fieldNamed?, h1, h2, h4, h5, h6, h8]
theorem xt_lays {C n d : String} {A : Nat → Prop} {U : State} {a : Array Value} (h : xt_Z C n d A U U.heap) : (Cond.laysStatic C n d).before a U = true := by
  obtain ⟨cf, kf, fi, f, ad, cell, v, h0, h1, h2, h4, h5, h6, h7, h8, h9, h10, h11⟩ := h
  have hlt : f.slot < cell.slots.size := (Array.getElem?_eq_some_iff.mp h8).1
  simp [Cond.before, Cond.holds, Cond.value, h0, h1, h2, h4, h5, h6, h7, hlt, h10]
theorem xt_Zof {args : Array Value} {s : State} {C n d : String} {A : Nat → Prop} (hl : (Cond.laysStatic C n d).before args s = true) (h : (Cond.isRef (.static C n d)).before args s = true) (hA : ∀ a : Nat, a < s.heap.size → ¬ A a) : xt_Z C n d A s s.heap := by
  obtain ⟨c, k, i, f, a, cell, hc, hi, hst, ha, hcell, hs, hcls, hlt, hty⟩ := Cond.laysStatic_spec hl
  have hv : ∃ v, cell.slots[f.slot]? = some v := ⟨_, Array.getElem?_eq_getElem hlt⟩
  obtain ⟨v, hv⟩ := hv
  refine ⟨c, k, i, f, a, cell, v, hc, hi, hst, ha, hcell, hs, hcls, hv, ?_, hty, hA a (Array.getElem?_eq_some_iff.mp hcell).1⟩
  simp only [Cond.before, Cond.holds, Cond.value, Term.eval, State.fieldNamed?, hi, hst, ha, hcell, hs, hv] at h
  cases v <;> simp_all
/-- what a method that throws new E("text") asks of the tables -/
def xt_isR : Cond → Bool
  | .isRef _ => true
  | .laysStatic _ _ _ => true
  | _ => false
def xt_ws (own : String) (ix ic : Nat) (cls : String) (names : List String) : List Cond := [.classLink own ix cls, .initialized cls] ++ (Bundle.ownAtoms own ic cls names).filter (fun w => !xt_isR w)
theorem xt_noR1 : ∀ a ∈ Bundle.throwableAtoms, xt_isR a = true → a = .laysStatic Bundle.tN "UNASSIGNED_STACK" Bundle.steD ∨ a = .laysStatic Bundle.tN "SUPPRESSED_SENTINEL" Bundle.listD := by decide +kernel
theorem xt_noR2 : ∀ a ∈ Bundle.throwableSAtoms, xt_isR a = false := by decide +kernel
theorem xt_noR3 : ∀ (names : List String) (X : String), ∀ a ∈ Bundle.chainSAtoms X names, xt_isR a = false := by
  intro names
  induction names with
  | nil =>
    intro X a ha
    simp only [Bundle.chainSAtoms, Bundle.passSAtoms, List.mem_cons, List.not_mem_nil, or_false] at ha
    rcases ha with rfl | rfl | rfl | rfl | rfl <;> rfl
  | cons n ns ih =>
    intro X a ha
    simp only [Bundle.chainSAtoms, Bundle.passSAtoms, List.mem_append, List.mem_cons, List.not_mem_nil, or_false] at ha
    rcases ha with (rfl | rfl | rfl | rfl | rfl) | h
    · rfl
    · rfl
    · rfl
    · rfl
    · rfl
    · exact ih n a h
theorem xt_noTrace {l : Launch} {e : Env} (h : l.admits e) (hfl : l.flags = flags0) : e.platform.stackTraces = false := by
  rw [h.platform]
  show l.stackTraces = false
  unfold Launch.stackTraces
  rw [hfl]
  decide +kernel
/-- words of the tables that last, but are not among the kit's lasting kinds -/
def xt_isS : Cond → Bool
  | .declares _ => true
  | .castable _ _ => true
  | _ => false
theorem xt_isS_moved {w : Cond} (hw : xt_isS w = true) {A A' : Array Value} {u U : State} (hvm : u.vm.Alike U.vm) (h : w.before A u = true) : w.before A' U = true := by
  cases w with
  | declares x => exact va_tabs (A := A) (u := u.setVm U.vm) rfl rfl (by rw [Cond.declares_setVm hvm]; exact h)
  | castable a b => exact va_tabs (A := A) (u := u.setVm U.vm) rfl rfl (by rw [Cond.castable_setVm hvm]; exact h)
  | _ => simp [xt_isS] at hw
section XTN
variable {p : Program} {l : Launch} {e : Env} {R : Room} {s : State} {m : MethodId} {args : Array Value} {below : List Frame} {meth : Method} {c : Code} {H : Heap} {locs : List Loc} {cells slots : Nat}
set_option maxHeartbeats 4000000 in
theorem xt_throwNew {cc : ByteArray} {Qc : Array Value → State → Outcome → State → Prop} {free : Addr → Prop} (hx : p.tables.exec = Jvm.exec) (hb : c.code = cc) (hfl : l.flags = flags0) {own cls tx : String} {names : List String} {ix ik ic q pc : Nat} {ls : Array Slot} {st : List Value} {Ts : List Cond}
    {Sd : List Cond} (hts : ∀ w ∈ Ts, w.before args s = true) (hSd : ∀ w ∈ Sd, w.before #[] s = true) (hG : ∀ w ∈ xt_ws own ix ic cls names, (w ∈ Ts ∧ goodWord w = true) ∨ (w ∈ Sd ∧ xt_isS w = true)) (hown : s.vm.findClass own = some m.cls) (hcls : Bundle.fit cls = true) (hnames : ∀ n ∈ names, Bundle.fit n = true) (hno : ∀ x ∈ c.exceptionTable.toList, False) (hlocks : meth.locks = false)
    (hS : vk_R own ik tx q s) {A : Nat → Prop} (hz1 : xt_Z "java/lang/Throwable" "UNASSIGNED_STACK" "[Ljava/lang/StackTraceElement;" A s H) (hz2 : xt_Z "java/lang/Throwable" "SUPPRESSED_SENTINEL" "Ljava/util/List;" A s H)
    (hsize : ls.size = c.maxLocals) (hcells : cells + 1 ≤ R.cells) (hslots : slots + 6 ≤ R.slots) (hRf : names.length + 3 < R.frames) (hRl : (st.map fun v => v.category).sum + 1 + (13 * (names.length + 1) + 42) ≤ R.locals)
    (hd0 : decode cc pc = .ok (.new ix, 3)) (hd3 : decode cc (pc + 3) = .ok (.dup, 1)) (hd4 : decode cc (pc + 3 + 1) = .ok (.ldc ik, 2)) (hd6 : decode cc (pc + 3 + 1 + 2) = .ok (.invokespecial ic, 3)) (hd9 : decode cc (pc + 3 + 1 + 2 + 3) = .ok (.athrow, 1))
    (hq : ∀ (x : Addr) (t : State) (ce : Cell), H.size ≤ x → s.WarmedH t.vm → H.size ≤ t.heap.size → (∀ q : Nat, q < H.size → t.heap[q]? = H[q]?) → t.heap[x]? = some ce → ce.vm = .none → s.vm.findClass cls = some ce.cls → Qc args s (.threw x) t) (hf : ∀ q ∈ locs, free q.base) :
    W p l e R s m args below meth c H locs cells slots (xt_MQ below Qc args s (cells + 1) (slots + 6) free) (F0 m pc ls st) := by
  intro T hT X
  have htr := xt_noTrace X.admits hfl
  have X0 := xt_base X (by omega) (by omega)
  have hW0 : s.WarmedH (T.setFrames (.invoking m args :: below)).vm := X.warmed
  have hw : ∀ w ∈ xt_ws own ix ic cls names, w.before args (T.setFrames (.invoking m args :: below)) = true := fun w h => (hG w h).elim (fun q => word_at hW0 (good_of_word q.2) (hts w q.1)) (fun q => xt_isS_moved q.2 hW0.alike (hSd w q.1))
  have hown' : (T.setFrames (.invoking m args :: below)).vm.findClass own = some m.cls := by rw [hW0.alike.findClass]; exact hown
  have hat : ∀ a ∈ Bundle.ownAtoms own ic cls names, a.before args (T.setFrames (.invoking m args :: below)) = true := by
    intro a ha
    cases hr : xt_isR a with
    | false => exact hw a (List.mem_append_right _ (List.mem_filter.mpr ⟨ha, by rw [hr]; rfl⟩))
    | true =>
      have hZ1 : xt_Z "java/lang/Throwable" "UNASSIGNED_STACK" "[Ljava/lang/StackTraceElement;" A (T.setFrames (.invoking m args :: below)) (T.setFrames (.invoking m args :: below)).heap := by
        have h9 := hz1.moved (U := T.setFrames (.invoking m args :: below)) hW0.alike
        rw [← hT] at h9
        exact h9
      have hZ2 : xt_Z "java/lang/Throwable" "SUPPRESSED_SENTINEL" "Ljava/util/List;" A (T.setFrames (.invoking m args :: below)) (T.setFrames (.invoking m args :: below)).heap := by
        have h9 := hz2.moved (U := T.setFrames (.invoking m args :: below)) hW0.alike
        rw [← hT] at h9
        exact h9
      have hmem : (a = .isRef (.static Bundle.tN "UNASSIGNED_STACK" Bundle.steD) ∨ a = .isRef (.static Bundle.tN "SUPPRESSED_SENTINEL" Bundle.listD)) ∨ a = .laysStatic Bundle.tN "UNASSIGNED_STACK" Bundle.steD ∨ a = .laysStatic Bundle.tN "SUPPRESSED_SENTINEL" Bundle.listD := by
        unfold Bundle.ownAtoms at ha
        rcases List.mem_append.mp ha with h1 | h1
        · rcases List.mem_append.mp h1 with h2 | h2
          · rcases List.mem_append.mp h2 with h3 | h3
            · exact Or.inr (xt_noR1 a h3 hr)
            · rw [xt_noR2 a h3] at hr; cases hr
          · rw [xt_noR3 names cls a h2] at hr; cases hr
        · simp only [List.mem_cons, List.not_mem_nil, or_false] at h1
          rcases h1 with rfl | rfl | rfl | rfl | rfl | rfl | rfl | rfl | rfl | rfl | rfl | rfl | rfl | rfl <;> first | exact Or.inl (Or.inl rfl) | exact Or.inl (Or.inr rfl) | (cases hr)
      rcases hmem with (rfl | rfl) | rfl | rfl
      · exact xt_isRef hZ1
      · exact xt_isRef hZ2
      · exact xt_lays hZ1
      · exact xt_lays hZ2
  obtain ⟨cX, kX, hfc, hkX0, -, -, -, hn6⟩ := Cond.instantiable_spec (hat (.instantiable cls 6) (by simp [Bundle.ownAtoms]))
  have hS' : vk_R own ik tx q (T.setFrames (.invoking m args :: below)) := vk_R.warm hW0 hS
  have key : W p l e { R with cells := R.cells - cells, slots := R.slots - slots } (T.setFrames (.invoking m args :: below)) m args below meth c T.heap [] 0 0 (xt_MQ below Qc args s (cells + 1) (slots + 6) free) (F0 m pc ls st) := by
    refine W.newcK (n := 6) hx hb hown' (hw (.classLink own ix cls) (by simp [xt_ws])) (hat (.instantiable cls 6) (by simp [Bundle.ownAtoms])) (hw (.initialized cls) (by simp [xt_ws])) rfl hd0 (by show 0 + 1 ≤ R.cells - cells; omega) (by show 0 + 6 ≤ R.slots - slots; omega) hfc rfl (fun H1 kY hkY e1 z1 o1 => ?_)
    refine lv_dup hx hb hd3 rfl ?_
    refine va_ldcS hx hb hown' hS' hd4 ?_
    intro W1 hW1 X1
    subst hb
    obtain ⟨U, hst, hrun, hend, hWU, hsame, ce, hce, hO⟩ := X1.ctorThrowS hx htr hown' hcls hnames hat (fun _ h => by cases h) hfc hkY (by rw [hW1]; exact e1) (Nat.le_refl _) (msg := .ref q) rfl (g := F0 m (pc + 3 + 1 + 2) ls (.ref q :: .ref T.heap.size :: .ref T.heap.size :: st)) rfl hsize rfl rfl rfl hd6 hd9 (fun y hy => (hno y hy).elim) hRf (by show 2 * 0 + (1 + (st.map fun v => v.category).sum) + _ ≤ R.locals; omega) hlocks
    have hkeep : ∀ z : Nat, z < H.size → U.heap[z]? = H[z]? := by
      intro z hz
      rw [← hT] at hz ⊢
      have h1 : (T.setFrames (.invoking m args :: below)).heap[z]? = some T.heap[z] := Array.getElem?_eq_getElem hz
      obtain ⟨c', h2, h3, h4, h5⟩ := hsame.2.2.2.2.2 z _ h1
      have h6 : c'.slots = T.heap[z].slots := Array.ext_getElem? (fun i => h5 i (fun h => by cases h))
      rw [h6] at h3
      rw [show U.heap[z]? = some c' from h2, h3, Array.getElem?_eq_getElem hz]
    have hsz : H.size ≤ U.heap.size := by rw [← hT]; exact hsame.2.1
    have hsT : T.sameButNew ({ U with vm := T.vm } : State) [] 1 6 := by
      refine ⟨?_, hsame.2⟩
      have h1 := hsame.1
      rw [State.setFrames_setFrames] at h1
      exact h1
    have hfin : s.sameButNew ({ U with vm := s.vm } : State) locs (cells + 1) (slots + 6) := by
      have h1 := X.same.trans (hsT.setVm s.vm)
      rw [List.append_nil] at h1
      exact h1
    refine ⟨U, hst, .threw T.heap.size, hrun, hend, hq _ U ce (by rw [← hT]; exact Nat.le_refl _) (State.WarmedH.trans X.warmed hWU) hsz hkeep hce hO.vm ?_, locs, ⟨State.WarmedH.trans X.warmed hWU, hfin⟩, hf⟩
    have h1 := hO.cls
    rw [hW0.alike.findClass] at h1
    exact h1
  exact key T rfl X0
end XTN
end
section
/-! ===== the tables' words are all of the lasting kind; a contract's words: its code, then all of them ===== -/
def lws : List Cond := lw_tbl.filter xt_isS
theorem lws_in : ∀ w ∈ lws, w ∈ lw_tbl := fun w h => (List.mem_filter.mp h).1
theorem lws_s : ∀ w ∈ lws, xt_isS w = true := fun w h => (List.mem_filter.mp h).2
theorem lw_goodIn {ws : List Cond} (h : ∀ w ∈ ws, w ∈ lwg) : GoodIn lwg ws := fun w hw => ⟨h w hw, good_of_word (lwg_good w (h w hw))⟩
/-- the words of a contract -/
abbrev ct (y : MethodName) (bytes : ByteArray) (maxL : Nat) (ret : Option FieldType) : List Cond := Cond.code y bytes maxL ret :: lwg
theorem ct_good {y : MethodName} {bytes : ByteArray} {maxL : Nat} {ret : Option FieldType} (h : Cond.code y bytes maxL ret ∈ lwg) : GoodIn lwg (ct y bytes maxL ret) :=
  lw_goodIn (fun w hw => (List.mem_cons.mp hw).elim (fun e => e ▸ h) id)
theorem ct_goodV {own C : String} {idx : Nat} {y : MethodName} {bytes : ByteArray} {maxL : Nat} {ret : Option FieldType} (h1 : Cond.methodLink own idx y ∈ lwg) (h2 : Cond.instanceMethod y ∈ lwg) (h3 : Cond.selects C y y ∈ lwg) (h4 : Cond.initialized C ∈ lwg) (h : Cond.code y bytes maxL ret ∈ lwg) : GoodIn lwg (wsV own idx C y (ct y bytes maxL ret)) := by
  refine lw_goodIn (fun w hw => ?_)
  simp only [wsV, List.mem_append, List.mem_cons, List.not_mem_nil, or_false] at hw
  rcases hw with (rfl | rfl | rfl | rfl) | rfl | hw
  · exact h1
  · exact h2
  · exact h3
  · exact h4
  · exact h
  · exact hw
theorem ct_goodS {own : String} {idx : Nat} {y : MethodName} {bytes : ByteArray} {maxL : Nat} {ret : Option FieldType} (h1 : Cond.methodLink own idx y ∈ lwg) (h2 : Cond.static y ∈ lwg) (h4 : Cond.initialized own ∈ lwg) (h : Cond.code y bytes maxL ret ∈ lwg) : GoodIn lwg (wsS own idx y (ct y bytes maxL ret)) := by
  refine lw_goodIn (fun w hw => ?_)
  simp only [wsS, List.mem_append, List.mem_cons, List.not_mem_nil, or_false] at hw
  rcases hw with (rfl | rfl | rfl) | rfl | hw
  · exact h1
  · exact h2
  · exact h4
  · exact h
  · exact hw
/-- the first n steps of a loop that counts from 0 up -/
def itr {α : Type} (f : Nat → α → α) : Nat → α → α
  | 0, a => a
  | n + 1, a => f n (itr f n a)
theorem itr_0 {α : Type} (f : Nat → α → α) (a : α) : itr f 0 a = a := rfl
theorem itr_s {α : Type} (f : Nat → α → α) (n : Nat) (a : α) : itr f (n + 1) a = f n (itr f n a) := rfl
section TOP
variable {p : Program} {l : Launch} {e : Env} {R : Room} {s : State} {m : MethodId} {args : Array Value} {below : List Frame} {meth : Method} {c : Code} {H : Heap} {locs : List Loc} {cells slots : Nat} {Q : State → Prop} {pc : Nat} {ls : Array Slot} {rest : List Value}
theorem w_ti {x y : Int32} (h : x = y) (k : W p l e R s m args below meth c H locs cells slots Q (F0 m pc ls (.int y :: rest))) : W p l e R s m args below meth c H locs cells slots Q (F0 m pc ls (.int x :: rest)) := h ▸ k
theorem w_tl {x y : Int64} (h : x = y) (k : W p l e R s m args below meth c H locs cells slots Q (F0 m pc ls (.long y :: rest))) : W p l e R s m args below meth c H locs cells slots Q (F0 m pc ls (.long x :: rest)) := h ▸ k
end TOP
theorem xt_ws_chk : ∀ w ∈ xt_ws "CoverRows" 92 96 "java/lang/UnsupportedOperationException" ["java/lang/RuntimeException", "java/lang/Exception"], (w ∈ lwg ∧ goodWord w = true) ∨ (w ∈ lws ∧ xt_isS w = true) := by decide +kernel
end
section
theorem mw_se_Products_fillDigits : (Cond.selects R_Products y_Products_fillDigits y_Products_fillDigits : Cond) ∈ lwg := List.mem_filter.mpr ⟨List.mem_append_left _ (by decide +kernel), by decide +kernel⟩
theorem mw_se_Products_fillHad : (Cond.selects R_Products y_Products_fillHad y_Products_fillHad : Cond) ∈ lwg := List.mem_filter.mpr ⟨List.mem_append_left _ (by decide +kernel), by decide +kernel⟩
theorem mw_se_Main_renewPrimes : (Cond.selects R_Main y_Main_renewPrimes y_Main_renewPrimes : Cond) ∈ lwg := List.mem_filter.mpr ⟨List.mem_append_left _ (by decide +kernel), by decide +kernel⟩
theorem mw_se_PrimeFinder_fillOuts : (Cond.selects R_PrimeFinder y_PrimeFinder_fillOuts y_PrimeFinder_fillOuts : Cond) ∈ lwg := List.mem_filter.mpr ⟨List.mem_append_left _ (by decide +kernel), by decide +kernel⟩
theorem mw_se_Cubes_hadByKind : (Cond.selects R_Cubes y_Cubes_hadByKind y_Cubes_hadByKind : Cond) ∈ lwg := List.mem_filter.mpr ⟨List.mem_append_left _ (by decide +kernel), by decide +kernel⟩
theorem mw_se_PrimeFinder_isWithinWider : (Cond.selects R_PrimeFinder y_PrimeFinder_isWithinWider y_PrimeFinder_isWithinWider : Cond) ∈ lwg := List.mem_filter.mpr ⟨List.mem_append_left _ (by decide +kernel), by decide +kernel⟩
theorem mw_se_Diagrams_fillAsked : (Cond.selects R_Diagrams y_Diagrams_fillAsked y_Diagrams_fillAsked : Cond) ∈ lwg := List.mem_filter.mpr ⟨List.mem_append_left _ (by decide +kernel), by decide +kernel⟩
theorem mw_se_Diagrams_inputAfter : (Cond.selects R_Diagrams y_Diagrams_inputAfter y_Diagrams_inputAfter : Cond) ∈ lwg := List.mem_filter.mpr ⟨List.mem_append_left _ (by decide +kernel), by decide +kernel⟩
theorem mw_se_Diagrams_reordered : (Cond.selects R_Diagrams y_Diagrams_reordered y_Diagrams_reordered : Cond) ∈ lwg := List.mem_filter.mpr ⟨List.mem_append_left _ (by decide +kernel), by decide +kernel⟩
theorem mw_se_Diagrams_nodesOfLevel : (Cond.selects R_Diagrams y_Diagrams_nodesOfLevel y_Diagrams_nodesOfLevel : Cond) ∈ lwg := List.mem_filter.mpr ⟨List.mem_append_left _ (by decide +kernel), by decide +kernel⟩
theorem mw_se_Diagrams_isSeen : (Cond.selects R_Diagrams y_Diagrams_isSeen y_Diagrams_isSeen : Cond) ∈ lwg := List.mem_filter.mpr ⟨List.mem_append_left _ (by decide +kernel), by decide +kernel⟩
theorem mw_se_Main_isColumn : (Cond.selects R_Main y_Main_isColumn y_Main_isColumn : Cond) ∈ lwg := List.mem_filter.mpr ⟨List.mem_append_left _ (by decide +kernel), by decide +kernel⟩
theorem mw_se_CoverFinder_fillRows : (Cond.selects R_CoverFinder y_CoverFinder_fillRows y_CoverFinder_fillRows : Cond) ∈ lwg := List.mem_filter.mpr ⟨List.mem_append_left _ (by decide +kernel), by decide +kernel⟩
theorem mw_se_CoverFinder_weigh : (Cond.selects R_CoverFinder y_CoverFinder_weigh y_CoverFinder_weigh : Cond) ∈ lwg := List.mem_filter.mpr ⟨List.mem_append_left _ (by decide +kernel), by decide +kernel⟩
theorem mw_se_CoverFinder_haversOf : (Cond.selects R_CoverFinder y_CoverFinder_haversOf y_CoverFinder_haversOf : Cond) ∈ lwg := List.mem_filter.mpr ⟨List.mem_append_left _ (by decide +kernel), by decide +kernel⟩
theorem mw_se_CoverFinder_quickSet : (Cond.selects R_CoverFinder y_CoverFinder_quickSet y_CoverFinder_quickSet : Cond) ∈ lwg := List.mem_filter.mpr ⟨List.mem_append_left _ (by decide +kernel), by decide +kernel⟩
theorem mw_se_CoverFinder_quickPick : (Cond.selects R_CoverFinder y_CoverFinder_quickPick y_CoverFinder_quickPick : Cond) ∈ lwg := List.mem_filter.mpr ⟨List.mem_append_left _ (by decide +kernel), by decide +kernel⟩
theorem mw_se_CoverFinder_isCover : (Cond.selects R_CoverFinder y_CoverFinder_isCover y_CoverFinder_isCover : Cond) ∈ lwg := List.mem_filter.mpr ⟨List.mem_append_left _ (by decide +kernel), by decide +kernel⟩
theorem mw_se_CoverFinder_weightOf : (Cond.selects R_CoverFinder y_CoverFinder_weightOf y_CoverFinder_weightOf : Cond) ∈ lwg := List.mem_filter.mpr ⟨List.mem_append_left _ (by decide +kernel), by decide +kernel⟩
theorem mw_se_CoverFinder_improve : (Cond.selects R_CoverFinder y_CoverFinder_improve y_CoverFinder_improve : Cond) ∈ lwg := List.mem_filter.mpr ⟨List.mem_append_left _ (by decide +kernel), by decide +kernel⟩
theorem mw_se_CoverFinder_keepIfLighter : (Cond.selects R_CoverFinder y_CoverFinder_keepIfLighter y_CoverFinder_keepIfLighter : Cond) ∈ lwg := List.mem_filter.mpr ⟨List.mem_append_left _ (by decide +kernel), by decide +kernel⟩
theorem mw_se_CoverFinder_rarestPoint : (Cond.selects R_CoverFinder y_CoverFinder_rarestPoint y_CoverFinder_rarestPoint : Cond) ∈ lwg := List.mem_filter.mpr ⟨List.mem_append_left _ (by decide +kernel), by decide +kernel⟩
theorem mw_se_CoverFinder_withoutDominated : (Cond.selects R_CoverFinder y_CoverFinder_withoutDominated y_CoverFinder_withoutDominated : Cond) ∈ lwg := List.mem_filter.mpr ⟨List.mem_append_left _ (by decide +kernel), by decide +kernel⟩
theorem mw_se_CoverFinder_isDominated : (Cond.selects R_CoverFinder y_CoverFinder_isDominated y_CoverFinder_isDominated : Cond) ∈ lwg := List.mem_filter.mpr ⟨List.mem_append_left _ (by decide +kernel), by decide +kernel⟩
theorem mw_se_CoverFinder_leastWeight : (Cond.selects R_CoverFinder y_CoverFinder_leastWeight y_CoverFinder_leastWeight : Cond) ∈ lwg := List.mem_filter.mpr ⟨List.mem_append_left _ (by decide +kernel), by decide +kernel⟩
theorem mw_se_CoverFinder_tryHavers : (Cond.selects R_CoverFinder y_CoverFinder_tryHavers y_CoverFinder_tryHavers : Cond) ∈ lwg := List.mem_filter.mpr ⟨List.mem_append_left _ (by decide +kernel), by decide +kernel⟩
theorem mw_se_Main_needKept : (Cond.selects R_Main y_Main_needKept y_Main_needKept : Cond) ∈ lwg := List.mem_filter.mpr ⟨List.mem_append_left _ (by decide +kernel), by decide +kernel⟩
theorem mw_se_Division_divideBy : (Cond.selects R_Division y_Division_divideBy y_Division_divideBy : Cond) ∈ lwg := List.mem_filter.mpr ⟨List.mem_append_left _ (by decide +kernel), by decide +kernel⟩
theorem mw_se_Division_addProduct : (Cond.selects R_Division y_Division_addProduct y_Division_addProduct : Cond) ∈ lwg := List.mem_filter.mpr ⟨List.mem_append_left _ (by decide +kernel), by decide +kernel⟩
theorem mw_se_Division_isKernel : (Cond.selects R_Division y_Division_isKernel y_Division_isKernel : Cond) ∈ lwg := List.mem_filter.mpr ⟨List.mem_append_left _ (by decide +kernel), by decide +kernel⟩
theorem mw_se_Division_isKnown : (Cond.selects R_Division y_Division_isKnown y_Division_isKnown : Cond) ∈ lwg := List.mem_filter.mpr ⟨List.mem_append_left _ (by decide +kernel), by decide +kernel⟩
theorem mw_se_Division_fillRow : (Cond.selects R_Division y_Division_fillRow y_Division_fillRow : Cond) ∈ lwg := List.mem_filter.mpr ⟨List.mem_append_left _ (by decide +kernel), by decide +kernel⟩
theorem mw_se_Ref_findPrimes : (Cond.selects R_Ref y_Ref_findPrimes y_Ref_findPrimes : Cond) ∈ lwg := List.mem_filter.mpr ⟨List.mem_append_left _ (by decide +kernel), by decide +kernel⟩
theorem mw_se_Ref_work : (Cond.selects R_Ref y_Ref_work y_Ref_work : Cond) ∈ lwg := List.mem_filter.mpr ⟨List.mem_append_left _ (by decide +kernel), by decide +kernel⟩
theorem mw_se_Ref_points : (Cond.selects R_Ref y_Ref_points y_Ref_points : Cond) ∈ lwg := List.mem_filter.mpr ⟨List.mem_append_left _ (by decide +kernel), by decide +kernel⟩
theorem mw_se_Ref_digit : (Cond.selects R_Ref y_Ref_digit y_Ref_digit : Cond) ∈ lwg := List.mem_filter.mpr ⟨List.mem_append_left _ (by decide +kernel), by decide +kernel⟩
theorem mw_se_Ref_outputsOf : (Cond.selects R_Ref y_Ref_outputsOf y_Ref_outputsOf : Cond) ∈ lwg := List.mem_filter.mpr ⟨List.mem_append_left _ (by decide +kernel), by decide +kernel⟩
theorem mw_se_Ref_costOf : (Cond.selects R_Ref y_Ref_costOf y_Ref_costOf : Cond) ∈ lwg := List.mem_filter.mpr ⟨List.mem_append_left _ (by decide +kernel), by decide +kernel⟩
theorem mw_se_Ref_exact : (Cond.selects R_Ref y_Ref_exact y_Ref_exact : Cond) ∈ lwg := List.mem_filter.mpr ⟨List.mem_append_left _ (by decide +kernel), by decide +kernel⟩
theorem mw_se_Ref_tryAll : (Cond.selects R_Ref y_Ref_tryAll y_Ref_tryAll : Cond) ∈ lwg := List.mem_filter.mpr ⟨List.mem_append_left _ (by decide +kernel), by decide +kernel⟩
theorem mw_se_Ref_quick : (Cond.selects R_Ref y_Ref_quick y_Ref_quick : Cond) ∈ lwg := List.mem_filter.mpr ⟨List.mem_append_left _ (by decide +kernel), by decide +kernel⟩
theorem mw_se_Ref_keptPoints : (Cond.selects R_Ref y_Ref_keptPoints y_Ref_keptPoints : Cond) ∈ lwg := List.mem_filter.mpr ⟨List.mem_append_left _ (by decide +kernel), by decide +kernel⟩
theorem mw_se_Ref_isIn : (Cond.selects R_Ref y_Ref_isIn y_Ref_isIn : Cond) ∈ lwg := List.mem_filter.mpr ⟨List.mem_append_left _ (by decide +kernel), by decide +kernel⟩
theorem mw_se_Ref_divided : (Cond.selects R_Ref y_Ref_divided y_Ref_divided : Cond) ∈ lwg := List.mem_filter.mpr ⟨List.mem_append_left _ (by decide +kernel), by decide +kernel⟩
theorem mw_se_Ref_isKernel : (Cond.selects R_Ref y_Ref_isKernel y_Ref_isKernel : Cond) ∈ lwg := List.mem_filter.mpr ⟨List.mem_append_left _ (by decide +kernel), by decide +kernel⟩
theorem mw_se_Ref_orders : (Cond.selects R_Ref y_Ref_orders y_Ref_orders : Cond) ∈ lwg := List.mem_filter.mpr ⟨List.mem_append_left _ (by decide +kernel), by decide +kernel⟩
theorem mw_se_Ref_nodes : (Cond.selects R_Ref y_Ref_nodes y_Ref_nodes : Cond) ∈ lwg := List.mem_filter.mpr ⟨List.mem_append_left _ (by decide +kernel), by decide +kernel⟩
theorem mw_se_Ref_inputAt : (Cond.selects R_Ref y_Ref_inputAt y_Ref_inputAt : Cond) ∈ lwg := List.mem_filter.mpr ⟨List.mem_append_left _ (by decide +kernel), by decide +kernel⟩
theorem mw_se_Ref_part : (Cond.selects R_Ref y_Ref_part y_Ref_part : Cond) ∈ lwg := List.mem_filter.mpr ⟨List.mem_append_left _ (by decide +kernel), by decide +kernel⟩
theorem mw_se_Ref_asks : (Cond.selects R_Ref y_Ref_asks y_Ref_asks : Cond) ∈ lwg := List.mem_filter.mpr ⟨List.mem_append_left _ (by decide +kernel), by decide +kernel⟩
end
section
/-! ===== Products: the methods that only read ===== -/
abbrev wP (cI : ClassId) (a0 a1 a2 a3 : Nat) (n sz : Int32) (care bits had : Nat → Int32) : va_W := [(a0, .inr (5, [.int n, .int sz, .ref a1, .ref a2, .ref a3])), (a1, .inl (cI, 81, .inl care)), (a2, .inl (cI, 81, .inl bits)), (a3, .inl (cI, 81, .inl had))]
set_option maxHeartbeats 4000000 in
set_option maxRecDepth 100000 in
theorem c_Products_inputs (l : Launch) (dC : Nat → ClassId) (dI : Nat → Nat → Nat) (cI cJ : ClassId) (a0 a1 a2 a3 : Nat) (n sz : Int32) (care bits had : Nat → Int32) : Met l y_Products_inputs (ct y_Products_inputs b_Products_inputs 1 (some .int)) ({ frames := 0, cells := 0, slots := 0, locals := 0 }) (va_Pc [.ref a0] (fun U => va_P (dC, dI) classes (wP cI a0 a1 a2 a3 n sz care bits had) U.heap ∧ va_K (dC, dI) classes [(cI, .int), (cJ, .long)] U)) (vp_Si (fun r => r = n)) 0 0 (fun _ => False) := by
  refine Met.ofW (cc := b_Products_inputs) (maxL := 1) (ret := some .int) (by decide) rfl ?_
  intro p e s m args below meth c s₁ B hml hv
  obtain ⟨rfl, hP, hK⟩ := hv
  have hx := B.exec
  have hb := B.bytes
  have hr := B.returns
  have hts : ∀ w ∈ lwg, w.before _ s = true := fun w h => atoms_spec (ws := ct y_Products_inputs b_Products_inputs 1 (some .int)) B.pre w (List.mem_cons_of_mem _ h)
  have hown : s.vm.findClass R_Products = some m.cls := findClass_of_methodNamed B.named
  have hlocks := B.notSynchronized
  have hl := lv_entry ([.ref a0]) (n := 1) (Nat.le_of_ble_eq_true rfl)
  rw [lg_entry_eq]
  generalize (lg_sl ([.ref a0]) ++ List.replicate (1 - (lg_sl ([.ref a0])).length) Slot.unset).toArray = ls at hl ⊢
  have hl : lv_has ls 1 [(0, .ref a0)] := hl
  refine lv_aload_n hx hb d_Products_inputs_0 rfl (lv_at hl 0 rfl) ?_
  refine va_get (D := (dC, dI)) (ci := 5) (v := .int n) (C := R_Products) (T := F_Products) (N := 5) hx hb hts i_Products hown hK hP 0 rfl rfl 0 (by decide) (hts _ mw_fl_Products_21) (fun _ h9 => h9) rfl d_Products_inputs_1 ?_
  exact W.iret (v := n) hx hb hr (fun t ht hW => ⟨_, rfl, rfl, ht⟩) (fun q h => by cases h) d_Products_inputs_4
set_option maxHeartbeats 4000000 in
set_option maxRecDepth 100000 in
theorem c_Products_size (l : Launch) (dC : Nat → ClassId) (dI : Nat → Nat → Nat) (cI cJ : ClassId) (a0 a1 a2 a3 : Nat) (n sz : Int32) (care bits had : Nat → Int32) : Met l y_Products_size (ct y_Products_size b_Products_size 1 (some .int)) ({ frames := 0, cells := 0, slots := 0, locals := 0 }) (va_Pc [.ref a0] (fun U => va_P (dC, dI) classes (wP cI a0 a1 a2 a3 n sz care bits had) U.heap ∧ va_K (dC, dI) classes [(cI, .int), (cJ, .long)] U)) (vp_Si (fun r => r = sz)) 0 0 (fun _ => False) := by
  refine Met.ofW (cc := b_Products_size) (maxL := 1) (ret := some .int) (by decide) rfl ?_
  intro p e s m args below meth c s₁ B hml hv
  obtain ⟨rfl, hP, hK⟩ := hv
  have hx := B.exec
  have hb := B.bytes
  have hr := B.returns
  have hts : ∀ w ∈ lwg, w.before _ s = true := fun w h => atoms_spec (ws := ct y_Products_size b_Products_size 1 (some .int)) B.pre w (List.mem_cons_of_mem _ h)
  have hown : s.vm.findClass R_Products = some m.cls := findClass_of_methodNamed B.named
  have hlocks := B.notSynchronized
  have hl := lv_entry ([.ref a0]) (n := 1) (Nat.le_of_ble_eq_true rfl)
  rw [lg_entry_eq]
  generalize (lg_sl ([.ref a0]) ++ List.replicate (1 - (lg_sl ([.ref a0])).length) Slot.unset).toArray = ls at hl ⊢
  have hl : lv_has ls 1 [(0, .ref a0)] := hl
  refine lv_aload_n hx hb d_Products_size_0 rfl (lv_at hl 0 rfl) ?_
  refine va_get (D := (dC, dI)) (ci := 5) (v := .int sz) (C := R_Products) (T := F_Products) (N := 5) hx hb hts i_Products hown hK hP 0 rfl rfl 1 (by decide) (hts _ mw_fl_Products_31) (fun _ h9 => h9) rfl d_Products_size_1 ?_
  exact W.iret (v := sz) hx hb hr (fun t ht hW => ⟨_, rfl, rfl, ht⟩) (fun q h => by cases h) d_Products_size_4
set_option maxHeartbeats 4000000 in
set_option maxRecDepth 100000 in
theorem c_Products_allFree (l : Launch) (dC : Nat → ClassId) (dI : Nat → Nat → Nat) (cI cJ : ClassId) (a0 a1 a2 a3 : Nat) (n sz : Int32) (care bits had : Nat → Int32) : Met l y_Products_allFree (ct y_Products_allFree b_Products_allFree 1 (some .int)) ({ frames := 0, cells := 0, slots := 0, locals := 0 }) (va_Pc [.ref a0] (fun U => va_P (dC, dI) classes (wP cI a0 a1 a2 a3 n sz care bits had) U.heap ∧ va_K (dC, dI) classes [(cI, .int), (cJ, .long)] U)) (vp_Si (fun r => r = sz - 1)) 0 0 (fun _ => False) := by
  refine Met.ofW (cc := b_Products_allFree) (maxL := 1) (ret := some .int) (by decide) rfl ?_
  intro p e s m args below meth c s₁ B hml hv
  obtain ⟨rfl, hP, hK⟩ := hv
  have hx := B.exec
  have hb := B.bytes
  have hr := B.returns
  have hts : ∀ w ∈ lwg, w.before _ s = true := fun w h => atoms_spec (ws := ct y_Products_allFree b_Products_allFree 1 (some .int)) B.pre w (List.mem_cons_of_mem _ h)
  have hown : s.vm.findClass R_Products = some m.cls := findClass_of_methodNamed B.named
  have hlocks := B.notSynchronized
  have hl := lv_entry ([.ref a0]) (n := 1) (Nat.le_of_ble_eq_true rfl)
  rw [lg_entry_eq]
  generalize (lg_sl ([.ref a0]) ++ List.replicate (1 - (lg_sl ([.ref a0])).length) Slot.unset).toArray = ls at hl ⊢
  have hl : lv_has ls 1 [(0, .ref a0)] := hl
  refine lv_aload_n hx hb d_Products_allFree_0 rfl (lv_at hl 0 rfl) ?_
  refine va_get (D := (dC, dI)) (ci := 5) (v := .int sz) (C := R_Products) (T := F_Products) (N := 5) hx hb hts i_Products hown hK hP 0 rfl rfl 1 (by decide) (hts _ mw_fl_Products_31) (fun _ h9 => h9) rfl d_Products_allFree_1 ?_
  refine lv_iconst (v := 1) hx hb d_Products_allFree_4 (by decide) ?_
  refine lv_isub hx hb d_Products_allFree_5 ?_
  exact W.iret (v := (sz - 1)) hx hb hr (fun t ht hW => ⟨_, rfl, rfl, ht⟩) (fun q h => by cases h) d_Products_allFree_6
set_option maxHeartbeats 4000000 in
set_option maxRecDepth 100000 in
theorem c_Products_care (l : Launch) (dC : Nat → ClassId) (dI : Nat → Nat → Nat) (cI cJ : ClassId) (a0 a1 a2 a3 : Nat) (n sz : Int32) (care bits had : Nat → Int32) (p0 : Int32) (hp : vp_in p0 81) : Met l y_Products_care (ct y_Products_care b_Products_care 2 (some .int)) ({ frames := 0, cells := 0, slots := 0, locals := 0 }) (va_Pc [.ref a0, .int p0] (fun U => va_P (dC, dI) classes (wP cI a0 a1 a2 a3 n sz care bits had) U.heap ∧ va_K (dC, dI) classes [(cI, .int), (cJ, .long)] U)) (vp_Si (fun r => r = care p0.toNatClampNeg)) 0 0 (fun _ => False) := by
  refine Met.ofW (cc := b_Products_care) (maxL := 2) (ret := some .int) (by decide) rfl ?_
  intro p e s m args below meth c s₁ B hml hv
  obtain ⟨rfl, hP, hK⟩ := hv
  have hx := B.exec
  have hb := B.bytes
  have hr := B.returns
  have hts : ∀ w ∈ lwg, w.before _ s = true := fun w h => atoms_spec (ws := ct y_Products_care b_Products_care 2 (some .int)) B.pre w (List.mem_cons_of_mem _ h)
  have hown : s.vm.findClass R_Products = some m.cls := findClass_of_methodNamed B.named
  have hlocks := B.notSynchronized
  have hl := lv_entry ([.ref a0, .int p0]) (n := 2) (Nat.le_of_ble_eq_true rfl)
  rw [lg_entry_eq]
  generalize (lg_sl ([.ref a0, .int p0]) ++ List.replicate (2 - (lg_sl ([.ref a0, .int p0])).length) Slot.unset).toArray = ls at hl ⊢
  have hl : lv_has ls 2 [(0, .ref a0), (1, .int p0)] := hl
  refine lv_aload_n hx hb d_Products_care_0 rfl (lv_at hl 0 rfl) ?_
  refine va_get (D := (dC, dI)) (ci := 5) (v := .ref a1) (C := R_Products) (T := F_Products) (N := 5) hx hb hts i_Products hown hK hP 0 rfl rfl 2 (by decide) (hts _ mw_fl_Products_9) (fun _ h9 => h9) rfl d_Products_care_1 ?_
  refine lv_iload_n hx hb d_Products_care_4 rfl (lv_at hl 1 rfl) ?_
  refine va_iald hx hb hK hP 1 0 rfl rfl hp d_Products_care_5 ?_
  exact W.iret (v := (care p0.toNatClampNeg)) hx hb hr (fun t ht hW => ⟨_, rfl, rfl, ht⟩) (fun q h => by cases h) d_Products_care_6
set_option maxHeartbeats 4000000 in
set_option maxRecDepth 100000 in
theorem c_Products_bits (l : Launch) (dC : Nat → ClassId) (dI : Nat → Nat → Nat) (cI cJ : ClassId) (a0 a1 a2 a3 : Nat) (n sz : Int32) (care bits had : Nat → Int32) (p0 : Int32) (hp : vp_in p0 81) : Met l y_Products_bits (ct y_Products_bits b_Products_bits 2 (some .int)) ({ frames := 0, cells := 0, slots := 0, locals := 0 }) (va_Pc [.ref a0, .int p0] (fun U => va_P (dC, dI) classes (wP cI a0 a1 a2 a3 n sz care bits had) U.heap ∧ va_K (dC, dI) classes [(cI, .int), (cJ, .long)] U)) (vp_Si (fun r => r = bits p0.toNatClampNeg)) 0 0 (fun _ => False) := by
  refine Met.ofW (cc := b_Products_bits) (maxL := 2) (ret := some .int) (by decide) rfl ?_
  intro p e s m args below meth c s₁ B hml hv
  obtain ⟨rfl, hP, hK⟩ := hv
  have hx := B.exec
  have hb := B.bytes
  have hr := B.returns
  have hts : ∀ w ∈ lwg, w.before _ s = true := fun w h => atoms_spec (ws := ct y_Products_bits b_Products_bits 2 (some .int)) B.pre w (List.mem_cons_of_mem _ h)
  have hown : s.vm.findClass R_Products = some m.cls := findClass_of_methodNamed B.named
  have hlocks := B.notSynchronized
  have hl := lv_entry ([.ref a0, .int p0]) (n := 2) (Nat.le_of_ble_eq_true rfl)
  rw [lg_entry_eq]
  generalize (lg_sl ([.ref a0, .int p0]) ++ List.replicate (2 - (lg_sl ([.ref a0, .int p0])).length) Slot.unset).toArray = ls at hl ⊢
  have hl : lv_has ls 2 [(0, .ref a0), (1, .int p0)] := hl
  refine lv_aload_n hx hb d_Products_bits_0 rfl (lv_at hl 0 rfl) ?_
  refine va_get (D := (dC, dI)) (ci := 5) (v := .ref a2) (C := R_Products) (T := F_Products) (N := 5) hx hb hts i_Products hown hK hP 0 rfl rfl 3 (by decide) (hts _ mw_fl_Products_15) (fun _ h9 => h9) rfl d_Products_bits_1 ?_
  refine lv_iload_n hx hb d_Products_bits_4 rfl (lv_at hl 1 rfl) ?_
  refine va_iald hx hb hK hP 2 0 rfl rfl hp d_Products_bits_5 ?_
  exact W.iret (v := (bits p0.toNatClampNeg)) hx hb hr (fun t ht hW => ⟨_, rfl, rfl, ht⟩) (fun q h => by cases h) d_Products_bits_6
set_option maxHeartbeats 4000000 in
set_option maxRecDepth 100000 in
theorem c_Products_had (l : Launch) (dC : Nat → ClassId) (dI : Nat → Nat → Nat) (cI cJ : ClassId) (a0 a1 a2 a3 : Nat) (n sz : Int32) (care bits had : Nat → Int32) (p0 : Int32) (hp : vp_in p0 81) : Met l y_Products_had (ct y_Products_had b_Products_had 2 (some .int)) ({ frames := 0, cells := 0, slots := 0, locals := 0 }) (va_Pc [.ref a0, .int p0] (fun U => va_P (dC, dI) classes (wP cI a0 a1 a2 a3 n sz care bits had) U.heap ∧ va_K (dC, dI) classes [(cI, .int), (cJ, .long)] U)) (vp_Si (fun r => r = had p0.toNatClampNeg)) 0 0 (fun _ => False) := by
  refine Met.ofW (cc := b_Products_had) (maxL := 2) (ret := some .int) (by decide) rfl ?_
  intro p e s m args below meth c s₁ B hml hv
  obtain ⟨rfl, hP, hK⟩ := hv
  have hx := B.exec
  have hb := B.bytes
  have hr := B.returns
  have hts : ∀ w ∈ lwg, w.before _ s = true := fun w h => atoms_spec (ws := ct y_Products_had b_Products_had 2 (some .int)) B.pre w (List.mem_cons_of_mem _ h)
  have hown : s.vm.findClass R_Products = some m.cls := findClass_of_methodNamed B.named
  have hlocks := B.notSynchronized
  have hl := lv_entry ([.ref a0, .int p0]) (n := 2) (Nat.le_of_ble_eq_true rfl)
  rw [lg_entry_eq]
  generalize (lg_sl ([.ref a0, .int p0]) ++ List.replicate (2 - (lg_sl ([.ref a0, .int p0])).length) Slot.unset).toArray = ls at hl ⊢
  have hl : lv_has ls 2 [(0, .ref a0), (1, .int p0)] := hl
  refine lv_aload_n hx hb d_Products_had_0 rfl (lv_at hl 0 rfl) ?_
  refine va_get (D := (dC, dI)) (ci := 5) (v := .ref a3) (C := R_Products) (T := F_Products) (N := 5) hx hb hts i_Products hown hK hP 0 rfl rfl 4 (by decide) (hts _ mw_fl_Products_18) (fun _ h9 => h9) rfl d_Products_had_1 ?_
  refine lv_iload_n hx hb d_Products_had_4 rfl (lv_at hl 1 rfl) ?_
  refine va_iald hx hb hK hP 3 0 rfl rfl hp d_Products_had_5 ?_
  exact W.iret (v := (had p0.toNatClampNeg)) hx hb hr (fun t ht hW => ⟨_, rfl, rfl, ht⟩) (fun q h => by cases h) d_Products_had_6
/-- digit i of a product that has these inputs and these ones -/
def fDig (care bits i : Int32) : Int32 := if (care >>> (i &&& 31)) &&& 1 = 0 then 2 else (bits >>> (i &&& 31)) &&& 1
set_option maxHeartbeats 4000000 in
set_option maxRecDepth 100000 in
theorem c_Products_digit (l : Launch) (dC : Nat → ClassId) (dI : Nat → Nat → Nat) (cI cJ : ClassId) (a0 a1 a2 a3 : Nat) (n sz : Int32) (care bits had : Nat → Int32) (p0 i0 : Int32) (hp : vp_in p0 81) : Met l y_Products_digit (ct y_Products_digit b_Products_digit 3 (some .int)) ({ frames := 0, cells := 0, slots := 0, locals := 0 }) (va_Pc [.ref a0, .int p0, .int i0] (fun U => va_P (dC, dI) classes (wP cI a0 a1 a2 a3 n sz care bits had) U.heap ∧ va_K (dC, dI) classes [(cI, .int), (cJ, .long)] U)) (vp_Si (fun r => r = fDig (care p0.toNatClampNeg) (bits p0.toNatClampNeg) i0)) 0 0 (fun _ => False) := by
  refine Met.ofW (cc := b_Products_digit) (maxL := 3) (ret := some .int) (by decide) rfl ?_
  intro p e s m args below meth c s₁ B hml hv
  obtain ⟨rfl, hP, hK⟩ := hv
  have hx := B.exec
  have hb := B.bytes
  have hr := B.returns
  have hts : ∀ w ∈ lwg, w.before _ s = true := fun w h => atoms_spec (ws := ct y_Products_digit b_Products_digit 3 (some .int)) B.pre w (List.mem_cons_of_mem _ h)
  have hown : s.vm.findClass R_Products = some m.cls := findClass_of_methodNamed B.named
  have hlocks := B.notSynchronized
  have hl := lv_entry ([.ref a0, .int p0, .int i0]) (n := 3) (Nat.le_of_ble_eq_true rfl)
  rw [lg_entry_eq]
  generalize (lg_sl ([.ref a0, .int p0, .int i0]) ++ List.replicate (3 - (lg_sl ([.ref a0, .int p0, .int i0])).length) Slot.unset).toArray = ls at hl ⊢
  have hl : lv_has ls 3 [(0, .ref a0), (1, .int p0), (2, .int i0)] := hl
  refine lv_aload_n hx hb d_Products_digit_0 rfl (lv_at hl 0 rfl) ?_
  refine va_get (D := (dC, dI)) (ci := 5) (v := .ref a1) (C := R_Products) (T := F_Products) (N := 5) hx hb hts i_Products hown hK hP 0 rfl rfl 2 (by decide) (hts _ mw_fl_Products_9) (fun _ h9 => h9) rfl d_Products_digit_1 ?_
  refine lv_iload_n hx hb d_Products_digit_4 rfl (lv_at hl 1 rfl) ?_
  refine va_iald hx hb hK hP 1 0 rfl rfl hp d_Products_digit_5 ?_
  refine lv_iload_n hx hb d_Products_digit_6 rfl (lv_at hl 2 rfl) ?_
  refine lv_ishr hx hb d_Products_digit_7 ?_
  refine lv_iconst (v := 1) hx hb d_Products_digit_8 (by decide) ?_
  refine lv_iand hx hb d_Products_digit_9 ?_
  refine lv_if_ne (tgt := 17) hx hb d_Products_digit_10 (by decide) (fun c_10 => ?_) (fun c_10 => ?_)
  · refine lv_aload_n hx hb d_Products_digit_17 rfl (lv_at hl 0 rfl) ?_
    refine va_get (D := (dC, dI)) (ci := 5) (v := .ref a2) (C := R_Products) (T := F_Products) (N := 5) hx hb hts i_Products hown hK hP 0 rfl rfl 3 (by decide) (hts _ mw_fl_Products_15) (fun _ h9 => h9) rfl d_Products_digit_18 ?_
    refine lv_iload_n hx hb d_Products_digit_21 rfl (lv_at hl 1 rfl) ?_
    refine va_iald hx hb hK hP 2 0 rfl rfl hp d_Products_digit_22 ?_
    refine lv_iload_n hx hb d_Products_digit_23 rfl (lv_at hl 2 rfl) ?_
    refine lv_ishr hx hb d_Products_digit_24 ?_
    refine lv_iconst (v := 1) hx hb d_Products_digit_25 (by decide) ?_
    refine lv_iand hx hb d_Products_digit_26 ?_
    exact W.iret (v := (((bits p0.toNatClampNeg) >>> (i0 &&& 31)) &&& 1)) hx hb hr (fun t ht hW => ⟨_, rfl, by simp [fDig, c_10], ht⟩) (fun q h => by cases h) d_Products_digit_27
  · refine lv_iconst (v := 2) hx hb d_Products_digit_13 (by decide) ?_
    refine lv_goto (tgt := 27) hx hb d_Products_digit_14 (by decide) ?_
    exact W.iret (v := 2) hx hb hr (fun t ht hW => ⟨_, rfl, by simp [fDig, c_10], ht⟩) (fun q h => by cases h) d_Products_digit_27
end
section
/-- the number of the product with these inputs and these ones -/
def fNum (N : Nat) (care bits : Int32) : Int32 := itr (fun i acc => acc * 3 + fDig care bits (nI i)) N 0
set_option maxHeartbeats 4000000 in
set_option maxRecDepth 100000 in
theorem lp_Products_numberOf {p : Program} {e : Env} {R : Room} {s : State} {m : MethodId} {args : Array Value} {below : List Frame} {meth : Method} {c : Code} (l : Launch) (dC : Nat → ClassId) (dI : Nat → Nat → Nat) (cI cJ : ClassId) (a0 a1 a2 a3 N : Nat) (sz : Int32) (care bits had : Nat → Int32) (sc sb : Int32) (hN : N ≤ 4) (hx : p.tables.exec = Jvm.exec) (hb : c.code = b_Products_numberOf) (hr : meth.sig.returnType = some .int) (hts : ∀ w ∈ lwg, w.before args s = true) (hown : s.vm.findClass R_Products = some m.cls) (hlocks : meth.locks = false) (hml : c.maxLocals = 6) (hP : va_P (dC, dI) classes (wP cI a0 a1 a2 a3 (nI N) sz care bits had) s.heap) (hK : va_K (dC, dI) classes [(cI, .int), (cJ, .long)] s) : ∀ (k i : Nat), N - i < k → i ≤ N → ∀ ls : Array Slot, lv_has ls 6 [(0, .ref a0), (1, .int sc), (2, .int sb), (3, .int ((itr (fun i acc => acc * 3 + fDig sc sb (nI i)) i 0))), (4, .int ((nI i)))] → W p l e R s m args below meth c s.heap [] 0 0 (MQ below (vp_Si (fun r => r = fNum N sc sb)) args s 0 0 (fun _ => False)) (F0 m 5 ls []) := by
  intro k
  induction k with
  | zero => intro i h; omega
  | succ k ih =>
    intro i hk hi ls hl
    refine lv_iload hx hb d_Products_numberOf_5 (lv_at hl 4 rfl) ?_
    refine lv_aload_n hx hb d_Products_numberOf_7 rfl (lv_at hl 0 rfl) ?_
    refine va_get (D := (dC, dI)) (ci := 5) (v := .int ((nI N))) (C := R_Products) (T := F_Products) (N := 5) hx hb hts i_Products hown hK hP 0 rfl rfl 0 (by decide) (hts _ mw_fl_Products_21) (fun _ h9 => h9) rfl d_Products_numberOf_8 ?_
    refine lv_icmp_ge (tgt := 48) hx hb d_Products_numberOf_11 (by decide) (fun c_11 => ?_) (fun c_11 => ?_)
    · have hE : i = N := Nat.le_antisymm hi ((nI_leI (by omega) (by omega)).mp c_11)
      subst hE
      refine lv_iload_n hx hb d_Products_numberOf_48 rfl (lv_at hl 3 rfl) ?_
      exact W.iret (v := (itr (fun i acc => acc * 3 + fDig sc sb (nI i)) i 0)) hx hb hr (fun t ht hW => ⟨_, rfl, rfl, ht⟩) (fun q h => by cases h) d_Products_numberOf_49
    · have hlt : i < N := Nat.lt_of_not_le (fun h => c_11 ((nI_leI (by omega) (by omega)).mpr h))
      refine lv_iload_n hx hb d_Products_numberOf_14 rfl (lv_at hl 1 rfl) ?_
      refine lv_iload hx hb d_Products_numberOf_15 (lv_at hl 4 rfl) ?_
      refine lv_ishr hx hb d_Products_numberOf_17 ?_
      refine lv_iconst (v := 1) hx hb d_Products_numberOf_18 (by decide) ?_
      refine lv_iand hx hb d_Products_numberOf_19 ?_
      refine lv_if_ne (tgt := 27) hx hb d_Products_numberOf_20 (by decide) (fun c_20 => ?_) (fun c_20 => ?_)
      · refine lv_iload_n hx hb d_Products_numberOf_27 rfl (lv_at hl 2 rfl) ?_
        refine lv_iload hx hb d_Products_numberOf_28 (lv_at hl 4 rfl) ?_
        refine lv_ishr hx hb d_Products_numberOf_30 ?_
        refine lv_iconst (v := 1) hx hb d_Products_numberOf_31 (by decide) ?_
        refine lv_iand hx hb d_Products_numberOf_32 ?_
        refine w_ti (show _ = fDig sc sb (nI i) by simp [fDig, c_20]) ?_
        refine lv_istore (lv' := [(5, .int ((fDig sc sb (nI i)))), (0, .ref a0), (1, .int sc), (2, .int sb), (3, .int ((itr (fun i acc => acc * 3 + fDig sc sb (nI i)) i 0))), (4, .int ((nI i)))]) hx hb d_Products_numberOf_33 hl (by decide) rfl (fun ls hl => ?_)
        refine lv_iload_n hx hb d_Products_numberOf_35 rfl (lv_at hl 4 rfl) ?_
        refine lv_iconst (v := 3) hx hb d_Products_numberOf_36 (by decide) ?_
        refine lv_imul hx hb d_Products_numberOf_37 ?_
        refine lv_iload hx hb d_Products_numberOf_38 (lv_at hl 0 rfl) ?_
        refine lv_iadd hx hb d_Products_numberOf_40 ?_
        refine lv_istore_n (lv' := [(3, .int ((((itr (fun i acc => acc * 3 + fDig sc sb (nI i)) i 0) * 3) + (fDig sc sb (nI i))))), (5, .int ((fDig sc sb (nI i)))), (0, .ref a0), (1, .int sc), (2, .int sb), (4, .int ((nI i)))]) hx hb d_Products_numberOf_41 rfl hl (by decide) rfl (fun ls hl => ?_)
        refine lv_iinc (v := (nI (i + 1))) (lv' := [(4, .int ((nI (i + 1)))), (3, .int ((((itr (fun i acc => acc * 3 + fDig sc sb (nI i)) i 0) * 3) + (fDig sc sb (nI i))))), (5, .int ((fDig sc sb (nI i)))), (0, .ref a0), (1, .int sc), (2, .int sb)]) hx hb d_Products_numberOf_42 hl (k := 5) rfl (show nI i + 1 = nI (i + 1) from nI_1 i) (by decide) rfl (fun ls hl => ?_)
        refine lv_goto (tgt := 5) hx hb d_Products_numberOf_45 (by decide) ?_
        exact ih (i + 1) (by omega) (by omega) ls (lv_sub hl [3, 4, 5, 1, 0] rfl)
      · refine lv_iconst (v := 2) hx hb d_Products_numberOf_23 (by decide) ?_
        refine lv_goto (tgt := 33) hx hb d_Products_numberOf_24 (by decide) ?_
        refine w_ti (show _ = fDig sc sb (nI i) by simp [fDig, c_20]) ?_
        refine lv_istore (lv' := [(5, .int ((fDig sc sb (nI i)))), (0, .ref a0), (1, .int sc), (2, .int sb), (3, .int ((itr (fun i acc => acc * 3 + fDig sc sb (nI i)) i 0))), (4, .int ((nI i)))]) hx hb d_Products_numberOf_33 hl (by decide) rfl (fun ls hl => ?_)
        refine lv_iload_n hx hb d_Products_numberOf_35 rfl (lv_at hl 4 rfl) ?_
        refine lv_iconst (v := 3) hx hb d_Products_numberOf_36 (by decide) ?_
        refine lv_imul hx hb d_Products_numberOf_37 ?_
        refine lv_iload hx hb d_Products_numberOf_38 (lv_at hl 0 rfl) ?_
        refine lv_iadd hx hb d_Products_numberOf_40 ?_
        refine lv_istore_n (lv' := [(3, .int ((((itr (fun i acc => acc * 3 + fDig sc sb (nI i)) i 0) * 3) + (fDig sc sb (nI i))))), (5, .int ((fDig sc sb (nI i)))), (0, .ref a0), (1, .int sc), (2, .int sb), (4, .int ((nI i)))]) hx hb d_Products_numberOf_41 rfl hl (by decide) rfl (fun ls hl => ?_)
        refine lv_iinc (v := (nI (i + 1))) (lv' := [(4, .int ((nI (i + 1)))), (3, .int ((((itr (fun i acc => acc * 3 + fDig sc sb (nI i)) i 0) * 3) + (fDig sc sb (nI i))))), (5, .int ((fDig sc sb (nI i)))), (0, .ref a0), (1, .int sc), (2, .int sb)]) hx hb d_Products_numberOf_42 hl (k := 5) rfl (show nI i + 1 = nI (i + 1) from nI_1 i) (by decide) rfl (fun ls hl => ?_)
        refine lv_goto (tgt := 5) hx hb d_Products_numberOf_45 (by decide) ?_
        exact ih (i + 1) (by omega) (by omega) ls (lv_sub hl [3, 4, 5, 1, 0] rfl)
set_option maxHeartbeats 4000000 in
set_option maxRecDepth 100000 in
theorem c_Products_numberOf (l : Launch) (dC : Nat → ClassId) (dI : Nat → Nat → Nat) (cI cJ : ClassId) (a0 a1 a2 a3 N : Nat) (sz : Int32) (care bits had : Nat → Int32) (sc sb : Int32) (hN : N ≤ 4) : Met l y_Products_numberOf (ct y_Products_numberOf b_Products_numberOf 6 (some .int)) ({ frames := 0, cells := 0, slots := 0, locals := 0 }) (va_Pc [.ref a0, .int sc, .int sb] (fun U => va_P (dC, dI) classes (wP cI a0 a1 a2 a3 (nI N) sz care bits had) U.heap ∧ va_K (dC, dI) classes [(cI, .int), (cJ, .long)] U)) (vp_Si (fun r => r = fNum N sc sb)) 0 0 (fun _ => False) := by
  refine Met.ofW (cc := b_Products_numberOf) (maxL := 6) (ret := some .int) (by decide) rfl ?_
  intro p e s m args below meth c s₁ B hml hv
  obtain ⟨rfl, hP, hK⟩ := hv
  have hx := B.exec
  have hb := B.bytes
  have hr := B.returns
  have hts : ∀ w ∈ lwg, w.before _ s = true := fun w h => atoms_spec (ws := ct y_Products_numberOf b_Products_numberOf 6 (some .int)) B.pre w (List.mem_cons_of_mem _ h)
  have hown : s.vm.findClass R_Products = some m.cls := findClass_of_methodNamed B.named
  have hlocks := B.notSynchronized
  have hl := lv_entry ([.ref a0, .int sc, .int sb]) (n := 6) (Nat.le_of_ble_eq_true rfl)
  rw [lg_entry_eq]
  generalize (lg_sl ([.ref a0, .int sc, .int sb]) ++ List.replicate (6 - (lg_sl ([.ref a0, .int sc, .int sb])).length) Slot.unset).toArray = ls at hl ⊢
  have hl : lv_has ls 6 [(0, .ref a0), (1, .int sc), (2, .int sb)] := hl
  refine lv_iconst (v := 0) hx hb d_Products_numberOf_0 (by decide) ?_
  refine lv_istore_n (lv' := [(3, .int 0), (0, .ref a0), (1, .int sc), (2, .int sb)]) hx hb d_Products_numberOf_1 rfl hl (by decide) rfl (fun ls hl => ?_)
  refine lv_iconst (v := 0) hx hb d_Products_numberOf_2 (by decide) ?_
  refine lv_istore (lv' := [(4, .int 0), (3, .int 0), (0, .ref a0), (1, .int sc), (2, .int sb)]) hx hb d_Products_numberOf_3 hl (by decide) rfl (fun ls hl => ?_)
  exact lp_Products_numberOf l dC dI cI cJ a0 a1 a2 a3 N sz care bits had sc sb hN hx hb hr hts hown hlocks hml hP hK (N + 1) 0 (by omega) (Nat.zero_le _) ls (lv_sub hl [2, 3, 4, 1, 0] rfl)
end
section
/-! ===== Products.withDigit; Cubes: the methods that only read ===== -/
theorem nI_m2 (i O : Nat) : nI i * 2 + nI O = nI (i * 2 + O) := by rw [show (2 : Int32) = nI 2 from rfl, pk_mul, nI_add]
/-- the number of a product with one digit changed -/
def fCare (care i d : Int32) : Int32 := if d = 2 then care &&& ((1 <<< (i &&& 31)) ^^^ (-1)) else care ||| (1 <<< (i &&& 31))
def fBits (bits i d : Int32) : Int32 := if d = 1 then bits ||| (1 <<< (i &&& 31)) else bits &&& ((1 <<< (i &&& 31)) ^^^ (-1))
def fWith (N : Nat) (care bits i d : Int32) : Int32 := fNum N (fCare care i d) (fBits bits i d)
set_option maxHeartbeats 4000000 in
set_option maxRecDepth 100000 in
theorem c_Products_withDigit (l : Launch) (dC : Nat → ClassId) (dI : Nat → Nat → Nat) (cI cJ : ClassId) (a0 : Nat) (a1 : Nat) (a2 : Nat) (a3 : Nat) (N : Nat) (sz : Int32) (care : Nat → Int32) (bits : Nat → Int32) (had : Nat → Int32) (p0 : Int32) (i0 : Int32) (d0 : Int32) (hN : N ≤ 4) (hp : vp_in p0 81) : Met l y_Products_withDigit (ct y_Products_withDigit b_Products_withDigit 7 (some .int)) ({ frames := 1, cells := 0, slots := 0, locals := 25 }) (va_Pc [.ref a0, .int p0, .int i0, .int d0] (fun U => va_P (dC, dI) classes (wP cI a0 a1 a2 a3 (nI N) sz care bits had) U.heap ∧ va_K (dC, dI) classes [(cI, .int), (cJ, .long)] U)) (vp_Si (fun r => r = fWith N (care p0.toNatClampNeg) (bits p0.toNatClampNeg) i0 d0)) 0 0 (fun _ => False) := by
  refine Met.ofW (cc := b_Products_withDigit) (maxL := 7) (ret := some .int) (by decide) rfl ?_
  intro p e s m args below meth c s₁ B hml hv
  obtain ⟨rfl, hP, hK⟩ := hv
  have hx := B.exec
  have hb := B.bytes
  have hr := B.returns
  have hts : ∀ w ∈ lwg, w.before _ s = true := fun w h => atoms_spec (ws := ct y_Products_withDigit b_Products_withDigit 7 (some .int)) B.pre w (List.mem_cons_of_mem _ h)
  have hown : s.vm.findClass R_Products = some m.cls := findClass_of_methodNamed B.named
  have hlocks := B.notSynchronized
  have hl := lv_entry ([.ref a0, .int p0, .int i0, .int d0]) (n := 7) (Nat.le_of_ble_eq_true rfl)
  rw [lg_entry_eq]
  generalize (lg_sl ([.ref a0, .int p0, .int i0, .int d0]) ++ List.replicate (7 - (lg_sl ([.ref a0, .int p0, .int i0, .int d0])).length) Slot.unset).toArray = ls at hl ⊢
  have hl : lv_has ls 7 [(0, .ref a0), (1, .int p0), (2, .int i0), (3, .int d0)] := hl
  refine lv_iconst (v := 1) hx hb d_Products_withDigit_0 (by decide) ?_
  refine lv_iload_n hx hb d_Products_withDigit_1 rfl (lv_at hl 2 rfl) ?_
  refine lv_ishl hx hb d_Products_withDigit_2 ?_
  refine lv_istore (lv' := [(4, .int ((1 <<< (i0 &&& 31)))), (0, .ref a0), (1, .int p0), (2, .int i0), (3, .int d0)]) hx hb d_Products_withDigit_3 hl (by decide) rfl (fun ls hl => ?_)
  refine lv_iload_n hx hb d_Products_withDigit_5 rfl (lv_at hl 4 rfl) ?_
  refine lv_iconst (v := 2) hx hb d_Products_withDigit_6 (by decide) ?_
  refine lv_icmp_ne (tgt := 24) hx hb d_Products_withDigit_7 (by decide) (fun c_7 => ?_) (fun c_7 => ?_)
  · refine lv_aload_n hx hb d_Products_withDigit_24 rfl (lv_at hl 1 rfl) ?_
    refine va_get (D := (dC, dI)) (ci := 5) (v := .ref a1) (C := R_Products) (T := F_Products) (N := 5) hx hb hts i_Products hown hK hP 0 rfl rfl 2 (by decide) (hts _ mw_fl_Products_9) (fun _ h9 => h9) rfl d_Products_withDigit_25 ?_
    refine lv_iload_n hx hb d_Products_withDigit_28 rfl (lv_at hl 2 rfl) ?_
    refine va_iald hx hb hK hP 1 0 rfl rfl hp d_Products_withDigit_29 ?_
    refine lv_iload hx hb d_Products_withDigit_30 (lv_at hl 0 rfl) ?_
    refine lv_ior hx hb d_Products_withDigit_32 ?_
    refine w_ti (show _ = fCare (care p0.toNatClampNeg) i0 d0 from by simp [fCare, c_7]) ?_
    refine lv_istore (lv' := [(5, .int ((fCare (care p0.toNatClampNeg) i0 d0))), (4, .int ((1 <<< (i0 &&& 31)))), (0, .ref a0), (1, .int p0), (2, .int i0), (3, .int d0)]) hx hb d_Products_withDigit_33 hl (by decide) rfl (fun ls hl => ?_)
    refine lv_iload_n hx hb d_Products_withDigit_35 rfl (lv_at hl 5 rfl) ?_
    refine lv_iconst (v := 1) hx hb d_Products_withDigit_36 (by decide) ?_
    refine lv_icmp_ne (tgt := 52) hx hb d_Products_withDigit_37 (by decide) (fun c_37 => ?_) (fun c_37 => ?_)
    · refine lv_aload_n hx hb d_Products_withDigit_52 rfl (lv_at hl 2 rfl) ?_
      refine va_get (D := (dC, dI)) (ci := 5) (v := .ref a2) (C := R_Products) (T := F_Products) (N := 5) hx hb hts i_Products hown hK hP 0 rfl rfl 3 (by decide) (hts _ mw_fl_Products_15) (fun _ h9 => h9) rfl d_Products_withDigit_53 ?_
      refine lv_iload_n hx hb d_Products_withDigit_56 rfl (lv_at hl 3 rfl) ?_
      refine va_iald hx hb hK hP 2 0 rfl rfl hp d_Products_withDigit_57 ?_
      refine lv_iload hx hb d_Products_withDigit_58 (lv_at hl 1 rfl) ?_
      refine lv_iconst (v := (-1)) hx hb d_Products_withDigit_60 (by decide) ?_
      refine lv_ixor hx hb d_Products_withDigit_61 ?_
      refine lv_iand hx hb d_Products_withDigit_62 ?_
      refine w_ti (show _ = fBits (bits p0.toNatClampNeg) i0 d0 from by simp [fBits, c_37]) ?_
      refine lv_istore (lv' := [(6, .int ((fBits (bits p0.toNatClampNeg) i0 d0))), (5, .int ((fCare (care p0.toNatClampNeg) i0 d0))), (4, .int ((1 <<< (i0 &&& 31)))), (0, .ref a0), (1, .int p0), (2, .int i0), (3, .int d0)]) hx hb d_Products_withDigit_63 hl (by decide) rfl (fun ls hl => ?_)
      refine lv_aload_n hx hb d_Products_withDigit_65 rfl (lv_at hl 3 rfl) ?_
      refine lv_iload hx hb d_Products_withDigit_66 (lv_at hl 1 rfl) ?_
      refine lv_iload hx hb d_Products_withDigit_68 (lv_at hl 0 rfl) ?_
      refine vp_callSi (W.runV (As := [.int ((fCare (care p0.toNatClampNeg) i0 d0)), .int ((fBits (bits p0.toNatClampNeg) i0 d0))]) (rest := []) ⟨hx, hb, hml, hown, hts⟩ (c_Products_numberOf l dC dI cI cJ a0 a1 a2 a3 N sz care bits had (fCare (care p0.toNatClampNeg) i0 d0) (fBits (bits p0.toNatClampNeg) i0 d0) hN) (cwV 2 hts (ct_goodV mw_ml_Products_41 mw_im_Products_numberOf mw_se_Products_numberOf mw_ini_Products mw_code_Products_numberOf) rfl rfl rfl (by decide +kernel) ⟨Nat.le_of_ble_eq_true rfl, Nat.le_of_ble_eq_true rfl⟩) ⟨fun a U g mk q => by obtain ⟨q0, qP, qK⟩ := q; exact ⟨q0, qP, va_K.moved (u := U) (U := U.calling g mk a) (Vm.Alike.refl U.vm) qK⟩, va_recv hK hP (ci := 5) (q0 := 0) rfl rfl, fun U hU hW => ⟨rfl, by rw [hU]; exact hP, va_K.moved hW.alike hK⟩⟩ rfl rfl hl.1 rfl (lv_room (Nat.le_of_ble_eq_true rfl)) d_Products_withDigit_70 ⟨Nat.le_of_ble_eq_true rfl, Nat.le_of_ble_eq_true rfl⟩) (fun r_1 hr_1 => ?_)
      rw [hr_1]
      clear hr_1
      exact W.iret (v := (fNum N (fCare (care p0.toNatClampNeg) i0 d0) (fBits (bits p0.toNatClampNeg) i0 d0))) hx hb hr (fun t ht hW => ⟨_, rfl, rfl, ht⟩) (fun q h => by cases h) d_Products_withDigit_73
    · refine lv_aload_n hx hb d_Products_withDigit_40 rfl (lv_at hl 2 rfl) ?_
      refine va_get (D := (dC, dI)) (ci := 5) (v := .ref a2) (C := R_Products) (T := F_Products) (N := 5) hx hb hts i_Products hown hK hP 0 rfl rfl 3 (by decide) (hts _ mw_fl_Products_15) (fun _ h9 => h9) rfl d_Products_withDigit_41 ?_
      refine lv_iload_n hx hb d_Products_withDigit_44 rfl (lv_at hl 3 rfl) ?_
      refine va_iald hx hb hK hP 2 0 rfl rfl hp d_Products_withDigit_45 ?_
      refine lv_iload hx hb d_Products_withDigit_46 (lv_at hl 1 rfl) ?_
      refine lv_ior hx hb d_Products_withDigit_48 ?_
      refine lv_goto (tgt := 63) hx hb d_Products_withDigit_49 (by decide) ?_
      refine w_ti (show _ = fBits (bits p0.toNatClampNeg) i0 d0 from by simp [fBits, c_37]) ?_
      refine lv_istore (lv' := [(6, .int ((fBits (bits p0.toNatClampNeg) i0 d0))), (5, .int ((fCare (care p0.toNatClampNeg) i0 d0))), (4, .int ((1 <<< (i0 &&& 31)))), (0, .ref a0), (1, .int p0), (2, .int i0), (3, .int d0)]) hx hb d_Products_withDigit_63 hl (by decide) rfl (fun ls hl => ?_)
      refine lv_aload_n hx hb d_Products_withDigit_65 rfl (lv_at hl 3 rfl) ?_
      refine lv_iload hx hb d_Products_withDigit_66 (lv_at hl 1 rfl) ?_
      refine lv_iload hx hb d_Products_withDigit_68 (lv_at hl 0 rfl) ?_
      refine vp_callSi (W.runV (As := [.int ((fCare (care p0.toNatClampNeg) i0 d0)), .int ((fBits (bits p0.toNatClampNeg) i0 d0))]) (rest := []) ⟨hx, hb, hml, hown, hts⟩ (c_Products_numberOf l dC dI cI cJ a0 a1 a2 a3 N sz care bits had (fCare (care p0.toNatClampNeg) i0 d0) (fBits (bits p0.toNatClampNeg) i0 d0) hN) (cwV 2 hts (ct_goodV mw_ml_Products_41 mw_im_Products_numberOf mw_se_Products_numberOf mw_ini_Products mw_code_Products_numberOf) rfl rfl rfl (by decide +kernel) ⟨Nat.le_of_ble_eq_true rfl, Nat.le_of_ble_eq_true rfl⟩) ⟨fun a U g mk q => by obtain ⟨q0, qP, qK⟩ := q; exact ⟨q0, qP, va_K.moved (u := U) (U := U.calling g mk a) (Vm.Alike.refl U.vm) qK⟩, va_recv hK hP (ci := 5) (q0 := 0) rfl rfl, fun U hU hW => ⟨rfl, by rw [hU]; exact hP, va_K.moved hW.alike hK⟩⟩ rfl rfl hl.1 rfl (lv_room (Nat.le_of_ble_eq_true rfl)) d_Products_withDigit_70 ⟨Nat.le_of_ble_eq_true rfl, Nat.le_of_ble_eq_true rfl⟩) (fun r_2 hr_2 => ?_)
      rw [hr_2]
      clear hr_2
      exact W.iret (v := (fNum N (fCare (care p0.toNatClampNeg) i0 d0) (fBits (bits p0.toNatClampNeg) i0 d0))) hx hb hr (fun t ht hW => ⟨_, rfl, rfl, ht⟩) (fun q h => by cases h) d_Products_withDigit_73
  · refine lv_aload_n hx hb d_Products_withDigit_10 rfl (lv_at hl 1 rfl) ?_
    refine va_get (D := (dC, dI)) (ci := 5) (v := .ref a1) (C := R_Products) (T := F_Products) (N := 5) hx hb hts i_Products hown hK hP 0 rfl rfl 2 (by decide) (hts _ mw_fl_Products_9) (fun _ h9 => h9) rfl d_Products_withDigit_11 ?_
    refine lv_iload_n hx hb d_Products_withDigit_14 rfl (lv_at hl 2 rfl) ?_
    refine va_iald hx hb hK hP 1 0 rfl rfl hp d_Products_withDigit_15 ?_
    refine lv_iload hx hb d_Products_withDigit_16 (lv_at hl 0 rfl) ?_
    refine lv_iconst (v := (-1)) hx hb d_Products_withDigit_18 (by decide) ?_
    refine lv_ixor hx hb d_Products_withDigit_19 ?_
    refine lv_iand hx hb d_Products_withDigit_20 ?_
    refine lv_goto (tgt := 33) hx hb d_Products_withDigit_21 (by decide) ?_
    refine w_ti (show _ = fCare (care p0.toNatClampNeg) i0 d0 from by simp [fCare, c_7]) ?_
    refine lv_istore (lv' := [(5, .int ((fCare (care p0.toNatClampNeg) i0 d0))), (4, .int ((1 <<< (i0 &&& 31)))), (0, .ref a0), (1, .int p0), (2, .int i0), (3, .int d0)]) hx hb d_Products_withDigit_33 hl (by decide) rfl (fun ls hl => ?_)
    refine lv_iload_n hx hb d_Products_withDigit_35 rfl (lv_at hl 5 rfl) ?_
    refine lv_iconst (v := 1) hx hb d_Products_withDigit_36 (by decide) ?_
    refine lv_icmp_ne (tgt := 52) hx hb d_Products_withDigit_37 (by decide) (fun c_37 => ?_) (fun c_37 => ?_)
    · refine lv_aload_n hx hb d_Products_withDigit_52 rfl (lv_at hl 2 rfl) ?_
      refine va_get (D := (dC, dI)) (ci := 5) (v := .ref a2) (C := R_Products) (T := F_Products) (N := 5) hx hb hts i_Products hown hK hP 0 rfl rfl 3 (by decide) (hts _ mw_fl_Products_15) (fun _ h9 => h9) rfl d_Products_withDigit_53 ?_
      refine lv_iload_n hx hb d_Products_withDigit_56 rfl (lv_at hl 3 rfl) ?_
      refine va_iald hx hb hK hP 2 0 rfl rfl hp d_Products_withDigit_57 ?_
      refine lv_iload hx hb d_Products_withDigit_58 (lv_at hl 1 rfl) ?_
      refine lv_iconst (v := (-1)) hx hb d_Products_withDigit_60 (by decide) ?_
      refine lv_ixor hx hb d_Products_withDigit_61 ?_
      refine lv_iand hx hb d_Products_withDigit_62 ?_
      refine w_ti (show _ = fBits (bits p0.toNatClampNeg) i0 d0 from by simp [fBits, c_37]) ?_
      refine lv_istore (lv' := [(6, .int ((fBits (bits p0.toNatClampNeg) i0 d0))), (5, .int ((fCare (care p0.toNatClampNeg) i0 d0))), (4, .int ((1 <<< (i0 &&& 31)))), (0, .ref a0), (1, .int p0), (2, .int i0), (3, .int d0)]) hx hb d_Products_withDigit_63 hl (by decide) rfl (fun ls hl => ?_)
      refine lv_aload_n hx hb d_Products_withDigit_65 rfl (lv_at hl 3 rfl) ?_
      refine lv_iload hx hb d_Products_withDigit_66 (lv_at hl 1 rfl) ?_
      refine lv_iload hx hb d_Products_withDigit_68 (lv_at hl 0 rfl) ?_
      refine vp_callSi (W.runV (As := [.int ((fCare (care p0.toNatClampNeg) i0 d0)), .int ((fBits (bits p0.toNatClampNeg) i0 d0))]) (rest := []) ⟨hx, hb, hml, hown, hts⟩ (c_Products_numberOf l dC dI cI cJ a0 a1 a2 a3 N sz care bits had (fCare (care p0.toNatClampNeg) i0 d0) (fBits (bits p0.toNatClampNeg) i0 d0) hN) (cwV 2 hts (ct_goodV mw_ml_Products_41 mw_im_Products_numberOf mw_se_Products_numberOf mw_ini_Products mw_code_Products_numberOf) rfl rfl rfl (by decide +kernel) ⟨Nat.le_of_ble_eq_true rfl, Nat.le_of_ble_eq_true rfl⟩) ⟨fun a U g mk q => by obtain ⟨q0, qP, qK⟩ := q; exact ⟨q0, qP, va_K.moved (u := U) (U := U.calling g mk a) (Vm.Alike.refl U.vm) qK⟩, va_recv hK hP (ci := 5) (q0 := 0) rfl rfl, fun U hU hW => ⟨rfl, by rw [hU]; exact hP, va_K.moved hW.alike hK⟩⟩ rfl rfl hl.1 rfl (lv_room (Nat.le_of_ble_eq_true rfl)) d_Products_withDigit_70 ⟨Nat.le_of_ble_eq_true rfl, Nat.le_of_ble_eq_true rfl⟩) (fun r_3 hr_3 => ?_)
      rw [hr_3]
      clear hr_3
      exact W.iret (v := (fNum N (fCare (care p0.toNatClampNeg) i0 d0) (fBits (bits p0.toNatClampNeg) i0 d0))) hx hb hr (fun t ht hW => ⟨_, rfl, rfl, ht⟩) (fun q h => by cases h) d_Products_withDigit_73
    · refine lv_aload_n hx hb d_Products_withDigit_40 rfl (lv_at hl 2 rfl) ?_
      refine va_get (D := (dC, dI)) (ci := 5) (v := .ref a2) (C := R_Products) (T := F_Products) (N := 5) hx hb hts i_Products hown hK hP 0 rfl rfl 3 (by decide) (hts _ mw_fl_Products_15) (fun _ h9 => h9) rfl d_Products_withDigit_41 ?_
      refine lv_iload_n hx hb d_Products_withDigit_44 rfl (lv_at hl 3 rfl) ?_
      refine va_iald hx hb hK hP 2 0 rfl rfl hp d_Products_withDigit_45 ?_
      refine lv_iload hx hb d_Products_withDigit_46 (lv_at hl 1 rfl) ?_
      refine lv_ior hx hb d_Products_withDigit_48 ?_
      refine lv_goto (tgt := 63) hx hb d_Products_withDigit_49 (by decide) ?_
      refine w_ti (show _ = fBits (bits p0.toNatClampNeg) i0 d0 from by simp [fBits, c_37]) ?_
      refine lv_istore (lv' := [(6, .int ((fBits (bits p0.toNatClampNeg) i0 d0))), (5, .int ((fCare (care p0.toNatClampNeg) i0 d0))), (4, .int ((1 <<< (i0 &&& 31)))), (0, .ref a0), (1, .int p0), (2, .int i0), (3, .int d0)]) hx hb d_Products_withDigit_63 hl (by decide) rfl (fun ls hl => ?_)
      refine lv_aload_n hx hb d_Products_withDigit_65 rfl (lv_at hl 3 rfl) ?_
      refine lv_iload hx hb d_Products_withDigit_66 (lv_at hl 1 rfl) ?_
      refine lv_iload hx hb d_Products_withDigit_68 (lv_at hl 0 rfl) ?_
      refine vp_callSi (W.runV (As := [.int ((fCare (care p0.toNatClampNeg) i0 d0)), .int ((fBits (bits p0.toNatClampNeg) i0 d0))]) (rest := []) ⟨hx, hb, hml, hown, hts⟩ (c_Products_numberOf l dC dI cI cJ a0 a1 a2 a3 N sz care bits had (fCare (care p0.toNatClampNeg) i0 d0) (fBits (bits p0.toNatClampNeg) i0 d0) hN) (cwV 2 hts (ct_goodV mw_ml_Products_41 mw_im_Products_numberOf mw_se_Products_numberOf mw_ini_Products mw_code_Products_numberOf) rfl rfl rfl (by decide +kernel) ⟨Nat.le_of_ble_eq_true rfl, Nat.le_of_ble_eq_true rfl⟩) ⟨fun a U g mk q => by obtain ⟨q0, qP, qK⟩ := q; exact ⟨q0, qP, va_K.moved (u := U) (U := U.calling g mk a) (Vm.Alike.refl U.vm) qK⟩, va_recv hK hP (ci := 5) (q0 := 0) rfl rfl, fun U hU hW => ⟨rfl, by rw [hU]; exact hP, va_K.moved hW.alike hK⟩⟩ rfl rfl hl.1 rfl (lv_room (Nat.le_of_ble_eq_true rfl)) d_Products_withDigit_70 ⟨Nat.le_of_ble_eq_true rfl, Nat.le_of_ble_eq_true rfl⟩) (fun r_4 hr_4 => ?_)
      rw [hr_4]
      clear hr_4
      exact W.iret (v := (fNum N (fCare (care p0.toNatClampNeg) i0 d0) (fBits (bits p0.toNatClampNeg) i0 d0))) hx hb hr (fun t ht hW => ⟨_, rfl, rfl, ht⟩) (fun q h => by cases h) d_Products_withDigit_73
abbrev wC (cI : ClassId) (b0 b1 b2 a0 M : Nat) (o : Int32) (prod kind : Nat → Int32) : va_W := [(b0, .inr (1, [.ref a0, .int o, .ref b1, .ref b2, .int ((nI M))])), (b1, .inl (cI, 24, .inl prod)), (b2, .inl (cI, 48, .inl kind))]
/-- what the cubes of a kind for an output have -/
def fKind (prod kind had : Nat → Int32) (M O : Nat) (wt : Int32) : Int32 := itr (fun c acc => if kind (c * 2 + O) = wt then acc ||| had (prod c).toNatClampNeg else acc) M 0
set_option maxHeartbeats 4000000 in
set_option maxRecDepth 100000 in
theorem lp_Cubes_hadByKind {p : Program} {e : Env} {s : State} {m : MethodId} {args : Array Value} {below : List Frame} {meth : Method} {c : Code} (l : Launch) (dC : Nat → ClassId) (dI : Nat → Nat → Nat) (cI cJ : ClassId) (b0 : Nat) (b1 : Nat) (b2 : Nat) (M : Nat) (o : Int32) (prod : Nat → Int32) (kind : Nat → Int32) (a0 : Nat) (a1 : Nat) (a2 : Nat) (a3 : Nat) (n : Int32) (sz : Int32) (care : Nat → Int32) (bits : Nat → Int32) (had : Nat → Int32) (O : Nat) (wt : Int32) (hM : M ≤ 24) (hO : O < 2) (hpr : ∀ c, c < M → vp_in (prod c) 81) (hx : p.tables.exec = Jvm.exec) (hb : c.code = b_Cubes_hadByKind) (hr : meth.sig.returnType = some .int) (hts : ∀ w ∈ lwg, w.before args s = true) (hown : s.vm.findClass R_Cubes = some m.cls) (hlocks : meth.locks = false) (hml : c.maxLocals = 5) (hP : va_P (dC, dI) classes (wC cI b0 b1 b2 a0 M o prod kind ++ wP cI a0 a1 a2 a3 n sz care bits had) s.heap) (hK : va_K (dC, dI) classes [(cI, .int), (cJ, .long)] s) : ∀ (k i : Nat), M - i < k → i ≤ M → ∀ ls : Array Slot, lv_has ls 5 [(0, .ref b0), (1, .int ((nI O))), (2, .int wt), (3, .int ((itr (fun c acc => if kind (c * 2 + O) = wt then acc ||| had (prod c).toNatClampNeg else acc) i 0))), (4, .int ((nI i)))] → W p l e ({ frames := 1, cells := 0, slots := 0, locals := 21 } : Room) s m args below meth c s.heap [] 0 0 (MQ below (vp_Si (fun r => r = fKind prod kind had M O wt)) args s 0 0 (fun _ => False)) (F0 m 5 ls []) := by
  intro k
  induction k with
  | zero => intro i h; omega
  | succ k ih =>
    intro i hk hi ls hl
    refine lv_iload hx hb d_Cubes_hadByKind_5 (lv_at hl 4 rfl) ?_
    refine lv_aload_n hx hb d_Cubes_hadByKind_7 rfl (lv_at hl 0 rfl) ?_
    refine va_get (D := (dC, dI)) (ci := 1) (v := .int ((nI M))) (C := R_Cubes) (T := F_Cubes) (N := 5) hx hb hts i_Cubes hown hK hP 0 rfl rfl 4 (by decide) (hts _ mw_fl_Cubes_26) (fun _ h9 => h9) rfl d_Cubes_hadByKind_8 ?_
    refine lv_icmp_ge (tgt := 52) hx hb d_Cubes_hadByKind_11 (by decide) (fun c_11 => ?_) (fun c_11 => ?_)
    · have hE : i = M := Nat.le_antisymm hi ((nI_leI (by omega) (by omega)).mp c_11)
      subst hE
      refine lv_iload_n hx hb d_Cubes_hadByKind_52 rfl (lv_at hl 3 rfl) ?_
      exact W.iret (v := (itr (fun c acc => if kind (c * 2 + O) = wt then acc ||| had (prod c).toNatClampNeg else acc) i 0)) hx hb hr (fun t ht hW => ⟨_, rfl, rfl, ht⟩) (fun q h => by cases h) d_Cubes_hadByKind_53
    · have hlt : i < M := Nat.lt_of_not_le (fun h => c_11 ((nI_leI (by omega) (by omega)).mpr h))
      refine lv_aload_n hx hb d_Cubes_hadByKind_14 rfl (lv_at hl 0 rfl) ?_
      refine va_get (D := (dC, dI)) (ci := 1) (v := .ref b2) (C := R_Cubes) (T := F_Cubes) (N := 5) hx hb hts i_Cubes hown hK hP 0 rfl rfl 3 (by decide) (hts _ mw_fl_Cubes_15) (fun _ h9 => h9) rfl d_Cubes_hadByKind_15 ?_
      refine lv_iload hx hb d_Cubes_hadByKind_18 (lv_at hl 4 rfl) ?_
      refine lv_iconst (v := 2) hx hb d_Cubes_hadByKind_20 (by decide) ?_
      refine lv_imul hx hb d_Cubes_hadByKind_21 ?_
      refine lv_iload_n hx hb d_Cubes_hadByKind_22 rfl (lv_at hl 1 rfl) ?_
      refine lv_iadd hx hb d_Cubes_hadByKind_23 ?_
      refine w_ti (show _ = nI (i * 2 + O) from nI_m2 i O) ?_
      refine va_iald hx hb hK hP 2 0 rfl rfl (vp_in_nI (show i * 2 + O < 48 by omega) (by omega)) d_Cubes_hadByKind_24 ?_
      refine w_ti (show _ = kind (i * 2 + O) from by rw [nI_clamp (by omega)]) ?_
      refine lv_iload_n hx hb d_Cubes_hadByKind_25 rfl (lv_at hl 2 rfl) ?_
      refine lv_icmp_ne (tgt := 46) hx hb d_Cubes_hadByKind_26 (by decide) (fun c_26 => ?_) (fun c_26 => ?_)
      · have hacc : itr (fun c acc => if kind (c * 2 + O) = wt then acc ||| had (prod c).toNatClampNeg else acc) i 0 = (itr (fun c acc => if kind (c * 2 + O) = wt then acc ||| had (prod c).toNatClampNeg else acc) (i + 1) 0) := by simp [itr_s, c_26]
        rw [hacc] at hl
        refine lv_iinc (v := (nI (i + 1))) (lv' := [(4, .int ((nI (i + 1)))), (0, .ref b0), (1, .int ((nI O))), (2, .int wt), (3, .int ((itr (fun c acc => if kind (c * 2 + O) = wt then acc ||| had (prod c).toNatClampNeg else acc) (i + 1) 0)))]) hx hb d_Cubes_hadByKind_46 hl (k := 4) rfl (show nI i + 1 = nI (i + 1) from nI_1 i) (by decide) rfl (fun ls hl => ?_)
        refine lv_goto (tgt := 5) hx hb d_Cubes_hadByKind_49 (by decide) ?_
        exact ih (i + 1) (by omega) (by omega) ls (lv_sub hl [1, 2, 3, 4, 0] rfl)
      · refine lv_iload_n hx hb d_Cubes_hadByKind_29 rfl (lv_at hl 3 rfl) ?_
        refine lv_aload_n hx hb d_Cubes_hadByKind_30 rfl (lv_at hl 0 rfl) ?_
        refine va_get (D := (dC, dI)) (ci := 1) (v := .ref a0) (C := R_Cubes) (T := F_Cubes) (N := 5) hx hb hts i_Cubes hown hK hP 0 rfl rfl 0 (by decide) (hts _ mw_fl_Cubes_18) (fun _ h9 => h9) rfl d_Cubes_hadByKind_31 ?_
        refine lv_aload_n hx hb d_Cubes_hadByKind_34 rfl (lv_at hl 0 rfl) ?_
        refine va_get (D := (dC, dI)) (ci := 1) (v := .ref b1) (C := R_Cubes) (T := F_Cubes) (N := 5) hx hb hts i_Cubes hown hK hP 0 rfl rfl 2 (by decide) (hts _ mw_fl_Cubes_9) (fun _ h9 => h9) rfl d_Cubes_hadByKind_35 ?_
        refine lv_iload hx hb d_Cubes_hadByKind_38 (lv_at hl 4 rfl) ?_
        refine va_iald hx hb hK hP 1 0 rfl rfl (vp_in_nI (show i < 24 by omega) (by omega)) d_Cubes_hadByKind_40 ?_
        refine w_ti (show _ = prod i from by rw [nI_clamp (by omega)]) ?_
        refine vp_callSi (W.runV (As := [.int ((prod i))]) (rest := [.int ((itr (fun c acc => if kind (c * 2 + O) = wt then acc ||| had (prod c).toNatClampNeg else acc) i 0))]) ⟨hx, hb, hml, hown, hts⟩ (c_Products_had l dC dI cI cJ a0 a1 a2 a3 n sz care bits had (prod i) (hpr i hlt)) (cwV 1 hts (ct_goodV mw_ml_Cubes_50 mw_im_Products_had mw_se_Products_had mw_ini_Products mw_code_Products_had) rfl rfl rfl (by decide +kernel) ⟨Nat.le_of_ble_eq_true rfl, Nat.le_of_ble_eq_true rfl⟩) ⟨fun a U g mk q => by obtain ⟨q0, qP, qK⟩ := q; exact ⟨q0, qP, va_K.moved (u := U) (U := U.calling g mk a) (Vm.Alike.refl U.vm) qK⟩, va_recv hK hP (ci := 5) (q0 := 3) rfl rfl, fun U hU hW => ⟨rfl, by rw [hU]; exact (hP.sub (ws' := (wP cI a0 a1 a2 a3 n sz care bits had)) [3, 4, 5, 6] rfl), va_K.moved hW.alike hK⟩⟩ rfl rfl hl.1 rfl (lv_room (Nat.le_of_ble_eq_true rfl)) d_Cubes_hadByKind_41 ⟨Nat.le_of_ble_eq_true rfl, Nat.le_of_ble_eq_true rfl⟩) (fun r_1 hr_1 => ?_)
        rw [hr_1]
        clear hr_1
        refine lv_ior hx hb d_Cubes_hadByKind_44 ?_
        refine lv_istore_n (lv' := [(3, .int (((itr (fun c acc => if kind (c * 2 + O) = wt then acc ||| had (prod c).toNatClampNeg else acc) i 0) ||| (had (prod i).toNatClampNeg)))), (0, .ref b0), (1, .int ((nI O))), (2, .int wt), (4, .int ((nI i)))]) hx hb d_Cubes_hadByKind_45 rfl hl (by decide) rfl (fun ls hl => ?_)
        have hacc : (itr (fun c acc => if kind (c * 2 + O) = wt then acc ||| had (prod c).toNatClampNeg else acc) i 0) ||| (had (prod i).toNatClampNeg) = (itr (fun c acc => if kind (c * 2 + O) = wt then acc ||| had (prod c).toNatClampNeg else acc) (i + 1) 0) := by simp [itr_s, c_26]
        rw [hacc] at hl
        refine lv_iinc (v := (nI (i + 1))) (lv' := [(4, .int ((nI (i + 1)))), (3, .int ((itr (fun c acc => if kind (c * 2 + O) = wt then acc ||| had (prod c).toNatClampNeg else acc) (i + 1) 0))), (0, .ref b0), (1, .int ((nI O))), (2, .int wt)]) hx hb d_Cubes_hadByKind_46 hl (k := 4) rfl (show nI i + 1 = nI (i + 1) from nI_1 i) (by decide) rfl (fun ls hl => ?_)
        refine lv_goto (tgt := 5) hx hb d_Cubes_hadByKind_49 (by decide) ?_
        exact ih (i + 1) (by omega) (by omega) ls (lv_sub hl [2, 3, 4, 1, 0] rfl)
set_option maxHeartbeats 4000000 in
set_option maxRecDepth 100000 in
theorem c_Cubes_hadByKind (l : Launch) (dC : Nat → ClassId) (dI : Nat → Nat → Nat) (cI cJ : ClassId) (b0 : Nat) (b1 : Nat) (b2 : Nat) (M : Nat) (o : Int32) (prod : Nat → Int32) (kind : Nat → Int32) (a0 : Nat) (a1 : Nat) (a2 : Nat) (a3 : Nat) (n : Int32) (sz : Int32) (care : Nat → Int32) (bits : Nat → Int32) (had : Nat → Int32) (O : Nat) (wt : Int32) (hM : M ≤ 24) (hO : O < 2) (hpr : ∀ c, c < M → vp_in (prod c) 81) : Met l y_Cubes_hadByKind (ct y_Cubes_hadByKind b_Cubes_hadByKind 5 (some .int)) ({ frames := 1, cells := 0, slots := 0, locals := 21 }) (va_Pc [.ref b0, .int ((nI O)), .int wt] (fun U => va_P (dC, dI) classes (wC cI b0 b1 b2 a0 M o prod kind ++ wP cI a0 a1 a2 a3 n sz care bits had) U.heap ∧ va_K (dC, dI) classes [(cI, .int), (cJ, .long)] U)) (vp_Si (fun r => r = fKind prod kind had M O wt)) 0 0 (fun _ => False) := by
  refine Met.ofW (cc := b_Cubes_hadByKind) (maxL := 5) (ret := some .int) (by decide) rfl ?_
  intro p e s m args below meth c s₁ B hml hv
  obtain ⟨rfl, hP, hK⟩ := hv
  have hx := B.exec
  have hb := B.bytes
  have hr := B.returns
  have hts : ∀ w ∈ lwg, w.before _ s = true := fun w h => atoms_spec (ws := ct y_Cubes_hadByKind b_Cubes_hadByKind 5 (some .int)) B.pre w (List.mem_cons_of_mem _ h)
  have hown : s.vm.findClass R_Cubes = some m.cls := findClass_of_methodNamed B.named
  have hlocks := B.notSynchronized
  have hl := lv_entry ([.ref b0, .int ((nI O)), .int wt]) (n := 5) (Nat.le_of_ble_eq_true rfl)
  rw [lg_entry_eq]
  generalize (lg_sl ([.ref b0, .int ((nI O)), .int wt]) ++ List.replicate (5 - (lg_sl ([.ref b0, .int ((nI O)), .int wt])).length) Slot.unset).toArray = ls at hl ⊢
  have hl : lv_has ls 5 [(0, .ref b0), (1, .int ((nI O))), (2, .int wt)] := hl
  refine lv_iconst (v := 0) hx hb d_Cubes_hadByKind_0 (by decide) ?_
  refine lv_istore_n (lv' := [(3, .int 0), (0, .ref b0), (1, .int ((nI O))), (2, .int wt)]) hx hb d_Cubes_hadByKind_1 rfl hl (by decide) rfl (fun ls hl => ?_)
  refine lv_iconst (v := 0) hx hb d_Cubes_hadByKind_2 (by decide) ?_
  refine lv_istore (lv' := [(4, .int 0), (3, .int 0), (0, .ref b0), (1, .int ((nI O))), (2, .int wt)]) hx hb d_Cubes_hadByKind_3 hl (by decide) rfl (fun ls hl => ?_)
  exact lp_Cubes_hadByKind l dC dI cI cJ b0 b1 b2 M o prod kind a0 a1 a2 a3 n sz care bits had O wt hM hO hpr hx hb hr hts hown hlocks hml hP hK (M + 1) 0 (by omega) (Nat.zero_le _) ls (lv_sub hl [2, 3, 4, 1, 0] rfl)
set_option maxHeartbeats 4000000 in
set_option maxRecDepth 100000 in
theorem c_Cubes_on (l : Launch) (dC : Nat → ClassId) (dI : Nat → Nat → Nat) (cI cJ : ClassId) (b0 : Nat) (b1 : Nat) (b2 : Nat) (M : Nat) (o : Int32) (prod : Nat → Int32) (kind : Nat → Int32) (a0 : Nat) (a1 : Nat) (a2 : Nat) (a3 : Nat) (n : Int32) (sz : Int32) (care : Nat → Int32) (bits : Nat → Int32) (had : Nat → Int32) (O : Nat) (hM : M ≤ 24) (hO : O < 2) (hpr : ∀ c, c < M → vp_in (prod c) 81) : Met l y_Cubes_on (ct y_Cubes_on b_Cubes_on 2 (some .int)) ({ frames := 2, cells := 0, slots := 0, locals := 45 }) (va_Pc [.ref b0, .int ((nI O))] (fun U => va_P (dC, dI) classes (wC cI b0 b1 b2 a0 M o prod kind ++ wP cI a0 a1 a2 a3 n sz care bits had) U.heap ∧ va_K (dC, dI) classes [(cI, .int), (cJ, .long)] U)) (vp_Si (fun r => r = fKind prod kind had M O 1)) 0 0 (fun _ => False) := by
  refine Met.ofW (cc := b_Cubes_on) (maxL := 2) (ret := some .int) (by decide) rfl ?_
  intro p e s m args below meth c s₁ B hml hv
  obtain ⟨rfl, hP, hK⟩ := hv
  have hx := B.exec
  have hb := B.bytes
  have hr := B.returns
  have hts : ∀ w ∈ lwg, w.before _ s = true := fun w h => atoms_spec (ws := ct y_Cubes_on b_Cubes_on 2 (some .int)) B.pre w (List.mem_cons_of_mem _ h)
  have hown : s.vm.findClass R_Cubes = some m.cls := findClass_of_methodNamed B.named
  have hlocks := B.notSynchronized
  have hl := lv_entry ([.ref b0, .int ((nI O))]) (n := 2) (Nat.le_of_ble_eq_true rfl)
  rw [lg_entry_eq]
  generalize (lg_sl ([.ref b0, .int ((nI O))]) ++ List.replicate (2 - (lg_sl ([.ref b0, .int ((nI O))])).length) Slot.unset).toArray = ls at hl ⊢
  have hl : lv_has ls 2 [(0, .ref b0), (1, .int ((nI O)))] := hl
  refine lv_aload_n hx hb d_Cubes_on_0 rfl (lv_at hl 0 rfl) ?_
  refine lv_iload_n hx hb d_Cubes_on_1 rfl (lv_at hl 1 rfl) ?_
  refine lv_iconst (v := 1) hx hb d_Cubes_on_2 (by decide) ?_
  refine vp_callSi (W.runV (As := [.int ((nI O)), .int 1]) (rest := []) ⟨hx, hb, hml, hown, hts⟩ (c_Cubes_hadByKind l dC dI cI cJ b0 b1 b2 M o prod kind a0 a1 a2 a3 n sz care bits had O 1 hM hO hpr) (cwV 2 hts (ct_goodV mw_ml_Cubes_47 mw_im_Cubes_hadByKind mw_se_Cubes_hadByKind mw_ini_Cubes mw_code_Cubes_hadByKind) rfl rfl rfl (by decide +kernel) ⟨Nat.le_of_ble_eq_true rfl, Nat.le_of_ble_eq_true rfl⟩) ⟨fun a U g mk q => by obtain ⟨q0, qP, qK⟩ := q; exact ⟨q0, qP, va_K.moved (u := U) (U := U.calling g mk a) (Vm.Alike.refl U.vm) qK⟩, va_recv hK hP (ci := 1) (q0 := 0) rfl rfl, fun U hU hW => ⟨rfl, by rw [hU]; exact hP, va_K.moved hW.alike hK⟩⟩ rfl rfl hl.1 rfl (lv_room (Nat.le_of_ble_eq_true rfl)) d_Cubes_on_3 ⟨Nat.le_of_ble_eq_true rfl, Nat.le_of_ble_eq_true rfl⟩) (fun r_1 hr_1 => ?_)
  rw [hr_1]
  clear hr_1
  exact W.iret (v := (fKind prod kind had M O 1)) hx hb hr (fun t ht hW => ⟨_, rfl, rfl, ht⟩) (fun q h => by cases h) d_Cubes_on_6
set_option maxHeartbeats 4000000 in
set_option maxRecDepth 100000 in
theorem c_Cubes_notOff (l : Launch) (dC : Nat → ClassId) (dI : Nat → Nat → Nat) (cI cJ : ClassId) (b0 : Nat) (b1 : Nat) (b2 : Nat) (M : Nat) (o : Int32) (prod : Nat → Int32) (kind : Nat → Int32) (a0 : Nat) (a1 : Nat) (a2 : Nat) (a3 : Nat) (n : Int32) (sz : Int32) (care : Nat → Int32) (bits : Nat → Int32) (had : Nat → Int32) (O : Nat) (hM : M ≤ 24) (hO : O < 2) (hpr : ∀ c, c < M → vp_in (prod c) 81) : Met l y_Cubes_notOff (ct y_Cubes_notOff b_Cubes_notOff 2 (some .int)) ({ frames := 2, cells := 0, slots := 0, locals := 45 }) (va_Pc [.ref b0, .int ((nI O))] (fun U => va_P (dC, dI) classes (wC cI b0 b1 b2 a0 M o prod kind ++ wP cI a0 a1 a2 a3 n sz care bits had) U.heap ∧ va_K (dC, dI) classes [(cI, .int), (cJ, .long)] U)) (vp_Si (fun r => r = fKind prod kind had M O 1 ||| fKind prod kind had M O 2)) 0 0 (fun _ => False) := by
  refine Met.ofW (cc := b_Cubes_notOff) (maxL := 2) (ret := some .int) (by decide) rfl ?_
  intro p e s m args below meth c s₁ B hml hv
  obtain ⟨rfl, hP, hK⟩ := hv
  have hx := B.exec
  have hb := B.bytes
  have hr := B.returns
  have hts : ∀ w ∈ lwg, w.before _ s = true := fun w h => atoms_spec (ws := ct y_Cubes_notOff b_Cubes_notOff 2 (some .int)) B.pre w (List.mem_cons_of_mem _ h)
  have hown : s.vm.findClass R_Cubes = some m.cls := findClass_of_methodNamed B.named
  have hlocks := B.notSynchronized
  have hl := lv_entry ([.ref b0, .int ((nI O))]) (n := 2) (Nat.le_of_ble_eq_true rfl)
  rw [lg_entry_eq]
  generalize (lg_sl ([.ref b0, .int ((nI O))]) ++ List.replicate (2 - (lg_sl ([.ref b0, .int ((nI O))])).length) Slot.unset).toArray = ls at hl ⊢
  have hl : lv_has ls 2 [(0, .ref b0), (1, .int ((nI O)))] := hl
  refine lv_aload_n hx hb d_Cubes_notOff_0 rfl (lv_at hl 0 rfl) ?_
  refine lv_iload_n hx hb d_Cubes_notOff_1 rfl (lv_at hl 1 rfl) ?_
  refine lv_iconst (v := 1) hx hb d_Cubes_notOff_2 (by decide) ?_
  refine vp_callSi (W.runV (As := [.int ((nI O)), .int 1]) (rest := []) ⟨hx, hb, hml, hown, hts⟩ (c_Cubes_hadByKind l dC dI cI cJ b0 b1 b2 M o prod kind a0 a1 a2 a3 n sz care bits had O 1 hM hO hpr) (cwV 2 hts (ct_goodV mw_ml_Cubes_47 mw_im_Cubes_hadByKind mw_se_Cubes_hadByKind mw_ini_Cubes mw_code_Cubes_hadByKind) rfl rfl rfl (by decide +kernel) ⟨Nat.le_of_ble_eq_true rfl, Nat.le_of_ble_eq_true rfl⟩) ⟨fun a U g mk q => by obtain ⟨q0, qP, qK⟩ := q; exact ⟨q0, qP, va_K.moved (u := U) (U := U.calling g mk a) (Vm.Alike.refl U.vm) qK⟩, va_recv hK hP (ci := 1) (q0 := 0) rfl rfl, fun U hU hW => ⟨rfl, by rw [hU]; exact hP, va_K.moved hW.alike hK⟩⟩ rfl rfl hl.1 rfl (lv_room (Nat.le_of_ble_eq_true rfl)) d_Cubes_notOff_3 ⟨Nat.le_of_ble_eq_true rfl, Nat.le_of_ble_eq_true rfl⟩) (fun r_1 hr_1 => ?_)
  rw [hr_1]
  clear hr_1
  refine lv_aload_n hx hb d_Cubes_notOff_6 rfl (lv_at hl 0 rfl) ?_
  refine lv_iload_n hx hb d_Cubes_notOff_7 rfl (lv_at hl 1 rfl) ?_
  refine lv_iconst (v := 2) hx hb d_Cubes_notOff_8 (by decide) ?_
  refine vp_callSi (W.runV (As := [.int ((nI O)), .int 2]) (rest := [.int ((fKind prod kind had M O 1))]) ⟨hx, hb, hml, hown, hts⟩ (c_Cubes_hadByKind l dC dI cI cJ b0 b1 b2 M o prod kind a0 a1 a2 a3 n sz care bits had O 2 hM hO hpr) (cwV 2 hts (ct_goodV mw_ml_Cubes_47 mw_im_Cubes_hadByKind mw_se_Cubes_hadByKind mw_ini_Cubes mw_code_Cubes_hadByKind) rfl rfl rfl (by decide +kernel) ⟨Nat.le_of_ble_eq_true rfl, Nat.le_of_ble_eq_true rfl⟩) ⟨fun a U g mk q => by obtain ⟨q0, qP, qK⟩ := q; exact ⟨q0, qP, va_K.moved (u := U) (U := U.calling g mk a) (Vm.Alike.refl U.vm) qK⟩, va_recv hK hP (ci := 1) (q0 := 0) rfl rfl, fun U hU hW => ⟨rfl, by rw [hU]; exact hP, va_K.moved hW.alike hK⟩⟩ rfl rfl hl.1 rfl (lv_room (Nat.le_of_ble_eq_true rfl)) d_Cubes_notOff_9 ⟨Nat.le_of_ble_eq_true rfl, Nat.le_of_ble_eq_true rfl⟩) (fun r_2 hr_2 => ?_)
  rw [hr_2]
  clear hr_2
  refine lv_ior hx hb d_Cubes_notOff_12 ?_
  exact W.iret (v := ((fKind prod kind had M O 1) ||| (fKind prod kind had M O 2))) hx hb hr (fun t ht hW => ⟨_, rfl, rfl, ht⟩) (fun q h => by cases h) d_Cubes_notOff_13
set_option maxHeartbeats 4000000 in
set_option maxRecDepth 100000 in
theorem c_Cubes_isFull (l : Launch) (dC : Nat → ClassId) (dI : Nat → Nat → Nat) (cI cJ : ClassId) (b0 : Nat) (b1 : Nat) (b2 : Nat) (M : Nat) (o : Int32) (prod : Nat → Int32) (kind : Nat → Int32) (a0 : Nat) (hM : M ≤ 24) : Met l y_Cubes_isFull (ct y_Cubes_isFull b_Cubes_isFull 1 (some .boolean)) ({ frames := 0, cells := 0, slots := 0, locals := 0 }) (va_Pc [.ref b0] (fun U => va_P (dC, dI) classes (wC cI b0 b1 b2 a0 M o prod kind) U.heap ∧ va_K (dC, dI) classes [(cI, .int), (cJ, .long)] U)) (vp_Si (fun r => r = if M = 24 then 1 else 0)) 0 0 (fun _ => False) := by
  refine Met.ofW (cc := b_Cubes_isFull) (maxL := 1) (ret := some .boolean) (by decide) rfl ?_
  intro p e s m args below meth c s₁ B hml hv
  obtain ⟨rfl, hP, hK⟩ := hv
  have hx := B.exec
  have hb := B.bytes
  have hr := B.returns
  have hts : ∀ w ∈ lwg, w.before _ s = true := fun w h => atoms_spec (ws := ct y_Cubes_isFull b_Cubes_isFull 1 (some .boolean)) B.pre w (List.mem_cons_of_mem _ h)
  have hown : s.vm.findClass R_Cubes = some m.cls := findClass_of_methodNamed B.named
  have hlocks := B.notSynchronized
  have hl := lv_entry ([.ref b0]) (n := 1) (Nat.le_of_ble_eq_true rfl)
  rw [lg_entry_eq]
  generalize (lg_sl ([.ref b0]) ++ List.replicate (1 - (lg_sl ([.ref b0])).length) Slot.unset).toArray = ls at hl ⊢
  have hl : lv_has ls 1 [(0, .ref b0)] := hl
  refine lv_aload_n hx hb d_Cubes_isFull_0 rfl (lv_at hl 0 rfl) ?_
  refine va_get (D := (dC, dI)) (ci := 1) (v := .int ((nI M))) (C := R_Cubes) (T := F_Cubes) (N := 5) hx hb hts i_Cubes hown hK hP 0 rfl rfl 4 (by decide) (hts _ mw_fl_Cubes_26) (fun _ h9 => h9) rfl d_Cubes_isFull_1 ?_
  refine lv_bipush (v := 24) hx hb d_Cubes_isFull_4 (by decide) ?_
  refine lv_icmp_lt (tgt := 13) hx hb d_Cubes_isFull_6 (by decide) (fun c_6 => ?_) (fun c_6 => ?_)
  · refine lv_iconst (v := 0) hx hb d_Cubes_isFull_13 (by decide) ?_
    exact W.zret (v := 0) hx hb hr (by decide) (fun t ht hW => ⟨_, rfl, (by have h9 := (nI_ltI (a := M) (b := 24) (by omega) (by omega)); have h8 : nI 24 = 24 := rfl; rw [h8] at h9; by_cases hE : M = 24 <;> simp_all; try omega), ht⟩) (fun q h => by cases h) d_Cubes_isFull_14
  · refine lv_iconst (v := 1) hx hb d_Cubes_isFull_9 (by decide) ?_
    refine lv_goto (tgt := 14) hx hb d_Cubes_isFull_10 (by decide) ?_
    exact W.zret (v := 1) hx hb hr (by decide) (fun t ht hW => ⟨_, rfl, (by have h9 := (nI_ltI (a := M) (b := 24) (by omega) (by omega)); have h8 : nI 24 = 24 := rfl; rw [h8] at h9; by_cases hE : M = 24 <;> simp_all; try omega), ht⟩) (fun q h => by cases h) d_Cubes_isFull_14
set_option maxHeartbeats 4000000 in
set_option maxRecDepth 100000 in
theorem c_Cubes_holds (l : Launch) (dC : Nat → ClassId) (dI : Nat → Nat → Nat) (cI cJ : ClassId) (b0 : Nat) (b1 : Nat) (b2 : Nat) (M : Nat) (o : Int32) (prod : Nat → Int32) (kind : Nat → Int32) (a0 : Nat) (x : Int32) (hM : M ≤ 24) : Met l y_Cubes_holds (ct y_Cubes_holds b_Cubes_holds 2 (some .boolean)) ({ frames := 0, cells := 0, slots := 0, locals := 0 }) (va_Pc [.ref b0, .int x] (fun U => va_P (dC, dI) classes (wC cI b0 b1 b2 a0 M o prod kind) U.heap ∧ va_K (dC, dI) classes [(cI, .int), (cJ, .long)] U)) (vp_Si (fun r => r = if x < 0 ∨ nI M ≤ x then 0 else 1)) 0 0 (fun _ => False) := by
  refine Met.ofW (cc := b_Cubes_holds) (maxL := 2) (ret := some .boolean) (by decide) rfl ?_
  intro p e s m args below meth c s₁ B hml hv
  obtain ⟨rfl, hP, hK⟩ := hv
  have hx := B.exec
  have hb := B.bytes
  have hr := B.returns
  have hts : ∀ w ∈ lwg, w.before _ s = true := fun w h => atoms_spec (ws := ct y_Cubes_holds b_Cubes_holds 2 (some .boolean)) B.pre w (List.mem_cons_of_mem _ h)
  have hown : s.vm.findClass R_Cubes = some m.cls := findClass_of_methodNamed B.named
  have hlocks := B.notSynchronized
  have hl := lv_entry ([.ref b0, .int x]) (n := 2) (Nat.le_of_ble_eq_true rfl)
  rw [lg_entry_eq]
  generalize (lg_sl ([.ref b0, .int x]) ++ List.replicate (2 - (lg_sl ([.ref b0, .int x])).length) Slot.unset).toArray = ls at hl ⊢
  have hl : lv_has ls 2 [(0, .ref b0), (1, .int x)] := hl
  refine lv_iload_n hx hb d_Cubes_holds_0 rfl (lv_at hl 1 rfl) ?_
  refine lv_if_lt (tgt := 16) hx hb d_Cubes_holds_1 (by decide) (fun c_1 => ?_) (fun c_1 => ?_)
  · refine lv_iconst (v := 0) hx hb d_Cubes_holds_16 (by decide) ?_
    exact W.zret (v := 0) hx hb hr (by decide) (fun t ht hW => ⟨_, rfl, by simp_all, ht⟩) (fun q h => by cases h) d_Cubes_holds_17
  · refine lv_iload_n hx hb d_Cubes_holds_4 rfl (lv_at hl 1 rfl) ?_
    refine lv_aload_n hx hb d_Cubes_holds_5 rfl (lv_at hl 0 rfl) ?_
    refine va_get (D := (dC, dI)) (ci := 1) (v := .int ((nI M))) (C := R_Cubes) (T := F_Cubes) (N := 5) hx hb hts i_Cubes hown hK hP 0 rfl rfl 4 (by decide) (hts _ mw_fl_Cubes_26) (fun _ h9 => h9) rfl d_Cubes_holds_6 ?_
    refine lv_icmp_ge (tgt := 16) hx hb d_Cubes_holds_9 (by decide) (fun c_9 => ?_) (fun c_9 => ?_)
    · refine lv_iconst (v := 0) hx hb d_Cubes_holds_16 (by decide) ?_
      exact W.zret (v := 0) hx hb hr (by decide) (fun t ht hW => ⟨_, rfl, by simp_all, ht⟩) (fun q h => by cases h) d_Cubes_holds_17
    · refine lv_iconst (v := 1) hx hb d_Cubes_holds_12 (by decide) ?_
      refine lv_goto (tgt := 17) hx hb d_Cubes_holds_13 (by decide) ?_
      exact W.zret (v := 1) hx hb hr (by decide) (fun t ht hW => ⟨_, rfl, by simp_all, ht⟩) (fun q h => by cases h) d_Cubes_holds_17
end
section
/-! ===== bitCount; Terms: the methods that only read ===== -/
theorem ct_goodT {own : String} {idx : Nat} {y : MethodName} {bytes : ByteArray} {maxL : Nat} {ret : Option FieldType} (h1 : Cond.methodLink own idx y ∈ lwg) (h2 : Cond.static y ∈ lwg) (h4 : Cond.initialized y.cls ∈ lwg) (h : Cond.code y bytes maxL ret ∈ lwg) : GoodIn lwg (va_wsS own idx y (ct y bytes maxL ret)) := by
  refine lw_goodIn (fun w hw => ?_)
  simp only [va_wsS, List.mem_append, List.mem_cons, List.not_mem_nil, or_false] at hw
  rcases hw with (rfl | rfl | rfl) | rfl | hw
  · exact h1
  · exact h2
  · exact h4
  · exact h
  · exact hw
def uI (x k : Int32) : Int32 := (x.toUInt32 >>> (k.toUInt32 &&& Int32.toUInt32 31)).toInt32
def uL (x : Int64) (k : Int32) : Int64 := (x.toUInt64 >>> (k.toInt64.toUInt64 &&& Int64.toUInt64 63)).toInt64
def bc1 (x : Int32) : Int32 := x - (uI x 1 &&& 1431655765)
def bc2 (x : Int32) : Int32 := (x &&& 858993459) + (uI x 2 &&& 858993459)
def bc3 (x : Int32) : Int32 := (x + uI x 4) &&& 252645135
def bc4 (x : Int32) : Int32 := x + uI x 8
def bc5 (x : Int32) : Int32 := x + uI x 16
/-- Integer.bitCount, as its code has it -/
def bcI (x : Int32) : Int32 := bc5 (bc4 (bc3 (bc2 (bc1 x)))) &&& 63
def bl1 (x : Int64) : Int64 := x - (uL x 1 &&& 6148914691236517205)
def bl2 (x : Int64) : Int64 := (x &&& 3689348814741910323) + (uL x 2 &&& 3689348814741910323)
def bl3 (x : Int64) : Int64 := (x + uL x 4) &&& 1085102592571150095
def bl4 (x : Int64) : Int64 := x + uL x 8
def bl5 (x : Int64) : Int64 := x + uL x 16
def bl6 (x : Int64) : Int64 := x + uL x 32
def bcL (x : Int64) : Int32 := (bl6 (bl5 (bl4 (bl3 (bl2 (bl1 x)))))).toInt32 &&& 127
set_option maxHeartbeats 4000000 in
set_option maxRecDepth 100000 in
theorem c_JInteger_bitCount_II (l : Launch) (dC : Nat → ClassId) (dI : Nat → Nat → Nat) (cI cJ : ClassId) (x : Int32) : Met l y_JInteger_bitCount_II (ct y_JInteger_bitCount_II b_JInteger_bitCount_II 1 (some .int)) ({ frames := 0, cells := 0, slots := 0, locals := 0 }) (va_Pc [.int x] (fun U => va_P (dC, dI) classes [] U.heap ∧ va_K (dC, dI) classes [(cI, .int), (cJ, .long)] U)) (vp_Si (fun r => r = bcI x)) 0 0 (fun _ => False) := by
  refine Met.ofW (cc := b_JInteger_bitCount_II) (maxL := 1) (ret := some .int) (by decide) rfl ?_
  intro p e s m args below meth c s₁ B hml hv
  obtain ⟨rfl, hP, hK⟩ := hv
  have hx := B.exec
  have hb := B.bytes
  have hr := B.returns
  have hts : ∀ w ∈ lwg, w.before _ s = true := fun w h => atoms_spec (ws := ct y_JInteger_bitCount_II b_JInteger_bitCount_II 1 (some .int)) B.pre w (List.mem_cons_of_mem _ h)
  have hown : s.vm.findClass "java/lang/Integer" = some m.cls := findClass_of_methodNamed B.named
  have hlocks := B.notSynchronized
  have hl := lv_entry ([.int x]) (n := 1) (Nat.le_of_ble_eq_true rfl)
  rw [lg_entry_eq]
  generalize (lg_sl ([.int x]) ++ List.replicate (1 - (lg_sl ([.int x])).length) Slot.unset).toArray = ls at hl ⊢
  have hl : lv_has ls 1 [(0, .int x)] := hl
  refine lv_iload_n hx hb d_JInteger_bitCount_II_0 rfl (lv_at hl 0 rfl) ?_
  refine lv_iload_n hx hb d_JInteger_bitCount_II_1 rfl (lv_at hl 0 rfl) ?_
  refine lv_iconst (v := 1) hx hb d_JInteger_bitCount_II_2 (by decide) ?_
  refine lv_iushr hx hb d_JInteger_bitCount_II_3 rfl ?_
  refine lv_ldcw (v := 1431655765) hx hb hown (hts _ mw_co_JInteger_265) d_JInteger_bitCount_II_4 ?_
  refine lv_iand hx hb d_JInteger_bitCount_II_7 ?_
  refine lv_isub hx hb d_JInteger_bitCount_II_8 ?_
  refine lv_topi (fun v_1 ev_1 => ?_)
  refine lv_istore_n (lv' := [(0, .int v_1)]) hx hb d_JInteger_bitCount_II_9 rfl hl (by decide) rfl (fun ls hl => ?_)
  refine lv_iload_n hx hb d_JInteger_bitCount_II_10 rfl (lv_at hl 0 rfl) ?_
  refine lv_ldcw (v := 858993459) hx hb hown (hts _ mw_co_JInteger_266) d_JInteger_bitCount_II_11 ?_
  refine lv_iand hx hb d_JInteger_bitCount_II_14 ?_
  refine lv_iload_n hx hb d_JInteger_bitCount_II_15 rfl (lv_at hl 0 rfl) ?_
  refine lv_iconst (v := 2) hx hb d_JInteger_bitCount_II_16 (by decide) ?_
  refine lv_iushr hx hb d_JInteger_bitCount_II_17 rfl ?_
  refine lv_ldcw (v := 858993459) hx hb hown (hts _ mw_co_JInteger_266) d_JInteger_bitCount_II_18 ?_
  refine lv_iand hx hb d_JInteger_bitCount_II_21 ?_
  refine lv_iadd hx hb d_JInteger_bitCount_II_22 ?_
  refine lv_topi (fun v_2 ev_2 => ?_)
  refine lv_istore_n (lv' := [(0, .int v_2)]) hx hb d_JInteger_bitCount_II_23 rfl hl (by decide) rfl (fun ls hl => ?_)
  refine lv_iload_n hx hb d_JInteger_bitCount_II_24 rfl (lv_at hl 0 rfl) ?_
  refine lv_iload_n hx hb d_JInteger_bitCount_II_25 rfl (lv_at hl 0 rfl) ?_
  refine lv_iconst (v := 4) hx hb d_JInteger_bitCount_II_26 (by decide) ?_
  refine lv_iushr hx hb d_JInteger_bitCount_II_27 rfl ?_
  refine lv_iadd hx hb d_JInteger_bitCount_II_28 ?_
  refine lv_ldcw (v := 252645135) hx hb hown (hts _ mw_co_JInteger_267) d_JInteger_bitCount_II_29 ?_
  refine lv_iand hx hb d_JInteger_bitCount_II_32 ?_
  refine lv_topi (fun v_3 ev_3 => ?_)
  refine lv_istore_n (lv' := [(0, .int v_3)]) hx hb d_JInteger_bitCount_II_33 rfl hl (by decide) rfl (fun ls hl => ?_)
  refine lv_iload_n hx hb d_JInteger_bitCount_II_34 rfl (lv_at hl 0 rfl) ?_
  refine lv_iload_n hx hb d_JInteger_bitCount_II_35 rfl (lv_at hl 0 rfl) ?_
  refine lv_bipush (v := 8) hx hb d_JInteger_bitCount_II_36 (by decide) ?_
  refine lv_iushr hx hb d_JInteger_bitCount_II_38 rfl ?_
  refine lv_iadd hx hb d_JInteger_bitCount_II_39 ?_
  refine lv_topi (fun v_4 ev_4 => ?_)
  refine lv_istore_n (lv' := [(0, .int v_4)]) hx hb d_JInteger_bitCount_II_40 rfl hl (by decide) rfl (fun ls hl => ?_)
  refine lv_iload_n hx hb d_JInteger_bitCount_II_41 rfl (lv_at hl 0 rfl) ?_
  refine lv_iload_n hx hb d_JInteger_bitCount_II_42 rfl (lv_at hl 0 rfl) ?_
  refine lv_bipush (v := 16) hx hb d_JInteger_bitCount_II_43 (by decide) ?_
  refine lv_iushr hx hb d_JInteger_bitCount_II_45 rfl ?_
  refine lv_iadd hx hb d_JInteger_bitCount_II_46 ?_
  refine lv_topi (fun v_5 ev_5 => ?_)
  refine lv_istore_n (lv' := [(0, .int v_5)]) hx hb d_JInteger_bitCount_II_47 rfl hl (by decide) rfl (fun ls hl => ?_)
  refine lv_iload_n hx hb d_JInteger_bitCount_II_48 rfl (lv_at hl 0 rfl) ?_
  refine lv_bipush (v := 63) hx hb d_JInteger_bitCount_II_49 (by decide) ?_
  refine lv_iand hx hb d_JInteger_bitCount_II_51 ?_
  exact W.iret (v := (v_5 &&& 63)) hx hb hr (fun t ht hW => ⟨_, rfl, by subst_vars; rfl, ht⟩) (fun q h => by cases h) d_JInteger_bitCount_II_52
set_option maxHeartbeats 4000000 in
set_option maxRecDepth 100000 in
theorem c_JLong_bitCount_JI (l : Launch) (dC : Nat → ClassId) (dI : Nat → Nat → Nat) (cI cJ : ClassId) (x : Int64) : Met l y_JLong_bitCount_JI (ct y_JLong_bitCount_JI b_JLong_bitCount_JI 2 (some .int)) ({ frames := 0, cells := 0, slots := 0, locals := 0 }) (va_Pc [.long x] (fun U => va_P (dC, dI) classes [] U.heap ∧ va_K (dC, dI) classes [(cI, .int), (cJ, .long)] U)) (vp_Si (fun r => r = bcL x)) 0 0 (fun _ => False) := by
  refine Met.ofW (cc := b_JLong_bitCount_JI) (maxL := 2) (ret := some .int) (by decide) rfl ?_
  intro p e s m args below meth c s₁ B hml hv
  obtain ⟨rfl, hP, hK⟩ := hv
  have hx := B.exec
  have hb := B.bytes
  have hr := B.returns
  have hts : ∀ w ∈ lwg, w.before _ s = true := fun w h => atoms_spec (ws := ct y_JLong_bitCount_JI b_JLong_bitCount_JI 2 (some .int)) B.pre w (List.mem_cons_of_mem _ h)
  have hown : s.vm.findClass "java/lang/Long" = some m.cls := findClass_of_methodNamed B.named
  have hlocks := B.notSynchronized
  have hl := lv_entry ([.long x]) (n := 2) (Nat.le_of_ble_eq_true rfl)
  rw [lg_entry_eq]
  generalize (lg_sl ([.long x]) ++ List.replicate (2 - (lg_sl ([.long x])).length) Slot.unset).toArray = ls at hl ⊢
  have hl : lv_has ls 2 [(0, .long x)] := hl
  refine lv_lload_n hx hb d_JLong_bitCount_JI_0 rfl (lv_at hl 0 rfl) ?_
  refine lv_lload_n hx hb d_JLong_bitCount_JI_1 rfl (lv_at hl 0 rfl) ?_
  refine lv_iconst (v := 1) hx hb d_JLong_bitCount_JI_2 (by decide) ?_
  refine lv_lushr hx hb d_JLong_bitCount_JI_3 rfl ?_
  refine lv_ldc2 (v := 6148914691236517205) hx hb hown (hts _ mw_co_JLong_314) d_JLong_bitCount_JI_4 ?_
  refine lv_land hx hb d_JLong_bitCount_JI_7 ?_
  refine lv_lsub hx hb d_JLong_bitCount_JI_8 ?_
  refine lv_topl (fun v_1 ev_1 => ?_)
  refine lv_lstore_n (lv' := [(0, .long v_1)]) hx hb d_JLong_bitCount_JI_9 rfl hl (by decide) rfl (fun ls hl => ?_)
  refine lv_lload_n hx hb d_JLong_bitCount_JI_10 rfl (lv_at hl 0 rfl) ?_
  refine lv_ldc2 (v := 3689348814741910323) hx hb hown (hts _ mw_co_JLong_316) d_JLong_bitCount_JI_11 ?_
  refine lv_land hx hb d_JLong_bitCount_JI_14 ?_
  refine lv_lload_n hx hb d_JLong_bitCount_JI_15 rfl (lv_at hl 0 rfl) ?_
  refine lv_iconst (v := 2) hx hb d_JLong_bitCount_JI_16 (by decide) ?_
  refine lv_lushr hx hb d_JLong_bitCount_JI_17 rfl ?_
  refine lv_ldc2 (v := 3689348814741910323) hx hb hown (hts _ mw_co_JLong_316) d_JLong_bitCount_JI_18 ?_
  refine lv_land hx hb d_JLong_bitCount_JI_21 ?_
  refine lv_ladd hx hb d_JLong_bitCount_JI_22 ?_
  refine lv_topl (fun v_2 ev_2 => ?_)
  refine lv_lstore_n (lv' := [(0, .long v_2)]) hx hb d_JLong_bitCount_JI_23 rfl hl (by decide) rfl (fun ls hl => ?_)
  refine lv_lload_n hx hb d_JLong_bitCount_JI_24 rfl (lv_at hl 0 rfl) ?_
  refine lv_lload_n hx hb d_JLong_bitCount_JI_25 rfl (lv_at hl 0 rfl) ?_
  refine lv_iconst (v := 4) hx hb d_JLong_bitCount_JI_26 (by decide) ?_
  refine lv_lushr hx hb d_JLong_bitCount_JI_27 rfl ?_
  refine lv_ladd hx hb d_JLong_bitCount_JI_28 ?_
  refine lv_ldc2 (v := 1085102592571150095) hx hb hown (hts _ mw_co_JLong_318) d_JLong_bitCount_JI_29 ?_
  refine lv_land hx hb d_JLong_bitCount_JI_32 ?_
  refine lv_topl (fun v_3 ev_3 => ?_)
  refine lv_lstore_n (lv' := [(0, .long v_3)]) hx hb d_JLong_bitCount_JI_33 rfl hl (by decide) rfl (fun ls hl => ?_)
  refine lv_lload_n hx hb d_JLong_bitCount_JI_34 rfl (lv_at hl 0 rfl) ?_
  refine lv_lload_n hx hb d_JLong_bitCount_JI_35 rfl (lv_at hl 0 rfl) ?_
  refine lv_bipush (v := 8) hx hb d_JLong_bitCount_JI_36 (by decide) ?_
  refine lv_lushr hx hb d_JLong_bitCount_JI_38 rfl ?_
  refine lv_ladd hx hb d_JLong_bitCount_JI_39 ?_
  refine lv_topl (fun v_4 ev_4 => ?_)
  refine lv_lstore_n (lv' := [(0, .long v_4)]) hx hb d_JLong_bitCount_JI_40 rfl hl (by decide) rfl (fun ls hl => ?_)
  refine lv_lload_n hx hb d_JLong_bitCount_JI_41 rfl (lv_at hl 0 rfl) ?_
  refine lv_lload_n hx hb d_JLong_bitCount_JI_42 rfl (lv_at hl 0 rfl) ?_
  refine lv_bipush (v := 16) hx hb d_JLong_bitCount_JI_43 (by decide) ?_
  refine lv_lushr hx hb d_JLong_bitCount_JI_45 rfl ?_
  refine lv_ladd hx hb d_JLong_bitCount_JI_46 ?_
  refine lv_topl (fun v_5 ev_5 => ?_)
  refine lv_lstore_n (lv' := [(0, .long v_5)]) hx hb d_JLong_bitCount_JI_47 rfl hl (by decide) rfl (fun ls hl => ?_)
  refine lv_lload_n hx hb d_JLong_bitCount_JI_48 rfl (lv_at hl 0 rfl) ?_
  refine lv_lload_n hx hb d_JLong_bitCount_JI_49 rfl (lv_at hl 0 rfl) ?_
  refine lv_bipush (v := 32) hx hb d_JLong_bitCount_JI_50 (by decide) ?_
  refine lv_lushr hx hb d_JLong_bitCount_JI_52 rfl ?_
  refine lv_ladd hx hb d_JLong_bitCount_JI_53 ?_
  refine lv_topl (fun v_6 ev_6 => ?_)
  refine lv_lstore_n (lv' := [(0, .long v_6)]) hx hb d_JLong_bitCount_JI_54 rfl hl (by decide) rfl (fun ls hl => ?_)
  refine lv_lload_n hx hb d_JLong_bitCount_JI_55 rfl (lv_at hl 0 rfl) ?_
  refine lv_l2i hx hb d_JLong_bitCount_JI_56 rfl ?_
  refine lv_bipush (v := 127) hx hb d_JLong_bitCount_JI_57 (by decide) ?_
  refine lv_iand hx hb d_JLong_bitCount_JI_59 ?_
  exact W.iret (v := (v_6.toInt32 &&& 127)) hx hb hr (fun t ht hW => ⟨_, rfl, by subst_vars; rfl, ht⟩) (fun q h => by cases h) d_JLong_bitCount_JI_60
abbrev wT (cI : ClassId) (t0 t1 t2 a0 K : Nat) (tp to : Nat → Int32) : va_W := [(t0, .inr (6, [.ref a0, .ref t1, .ref t2, .int ((nI K))])), (t1, .inl (cI, 81, .inl tp)), (t2, .inl (cI, 81, .inl to))]
/-- what term k has for an output; what all terms have -/
def fHad (tp to had : Nat → Int32) (k : Nat) (ot : Int32) : Int32 := if (to k >>> (ot &&& 31)) &&& 1 = 1 then had (tp k).toNatClampNeg else 0
def fHadAll (tp to had : Nat → Int32) (K : Nat) (ot : Int32) : Int32 := itr (fun k acc => acc ||| fHad tp to had k ot) K 0
set_option maxHeartbeats 4000000 in
set_option maxRecDepth 100000 in
theorem c_Terms_size (l : Launch) (dC : Nat → ClassId) (dI : Nat → Nat → Nat) (cI cJ : ClassId) (t0 : Nat) (t1 : Nat) (t2 : Nat) (K : Nat) (tp : Nat → Int32) (to : Nat → Int32) (a0 : Nat) : Met l y_Terms_size (ct y_Terms_size b_Terms_size 1 (some .int)) ({ frames := 0, cells := 0, slots := 0, locals := 0 }) (va_Pc [.ref t0] (fun U => va_P (dC, dI) classes (wT cI t0 t1 t2 a0 K tp to) U.heap ∧ va_K (dC, dI) classes [(cI, .int), (cJ, .long)] U)) (vp_Si (fun r => r = nI K)) 0 0 (fun _ => False) := by
  refine Met.ofW (cc := b_Terms_size) (maxL := 1) (ret := some .int) (by decide) rfl ?_
  intro p e s m args below meth c s₁ B hml hv
  obtain ⟨rfl, hP, hK⟩ := hv
  have hx := B.exec
  have hb := B.bytes
  have hr := B.returns
  have hts : ∀ w ∈ lwg, w.before _ s = true := fun w h => atoms_spec (ws := ct y_Terms_size b_Terms_size 1 (some .int)) B.pre w (List.mem_cons_of_mem _ h)
  have hown : s.vm.findClass R_Terms = some m.cls := findClass_of_methodNamed B.named
  have hlocks := B.notSynchronized
  have hl := lv_entry ([.ref t0]) (n := 1) (Nat.le_of_ble_eq_true rfl)
  rw [lg_entry_eq]
  generalize (lg_sl ([.ref t0]) ++ List.replicate (1 - (lg_sl ([.ref t0])).length) Slot.unset).toArray = ls at hl ⊢
  have hl : lv_has ls 1 [(0, .ref t0)] := hl
  refine lv_aload_n hx hb d_Terms_size_0 rfl (lv_at hl 0 rfl) ?_
  refine va_get (D := (dC, dI)) (ci := 6) (v := .int ((nI K))) (C := R_Terms) (T := F_Terms) (N := 4) hx hb hts i_Terms hown hK hP 0 rfl rfl 3 (by decide) (hts _ mw_fl_Terms_22) (fun _ h9 => h9) rfl d_Terms_size_1 ?_
  exact W.iret (v := (nI K)) hx hb hr (fun t ht hW => ⟨_, rfl, rfl, ht⟩) (fun q h => by cases h) d_Terms_size_4
set_option maxHeartbeats 4000000 in
set_option maxRecDepth 100000 in
theorem c_Terms_holds (l : Launch) (dC : Nat → ClassId) (dI : Nat → Nat → Nat) (cI cJ : ClassId) (t0 : Nat) (t1 : Nat) (t2 : Nat) (K : Nat) (tp : Nat → Int32) (to : Nat → Int32) (a0 : Nat) (x : Int32) : Met l y_Terms_holds (ct y_Terms_holds b_Terms_holds 2 (some .boolean)) ({ frames := 0, cells := 0, slots := 0, locals := 0 }) (va_Pc [.ref t0, .int x] (fun U => va_P (dC, dI) classes (wT cI t0 t1 t2 a0 K tp to) U.heap ∧ va_K (dC, dI) classes [(cI, .int), (cJ, .long)] U)) (vp_Si (fun r => r = if x < 0 ∨ nI K ≤ x then 0 else 1)) 0 0 (fun _ => False) := by
  refine Met.ofW (cc := b_Terms_holds) (maxL := 2) (ret := some .boolean) (by decide) rfl ?_
  intro p e s m args below meth c s₁ B hml hv
  obtain ⟨rfl, hP, hK⟩ := hv
  have hx := B.exec
  have hb := B.bytes
  have hr := B.returns
  have hts : ∀ w ∈ lwg, w.before _ s = true := fun w h => atoms_spec (ws := ct y_Terms_holds b_Terms_holds 2 (some .boolean)) B.pre w (List.mem_cons_of_mem _ h)
  have hown : s.vm.findClass R_Terms = some m.cls := findClass_of_methodNamed B.named
  have hlocks := B.notSynchronized
  have hl := lv_entry ([.ref t0, .int x]) (n := 2) (Nat.le_of_ble_eq_true rfl)
  rw [lg_entry_eq]
  generalize (lg_sl ([.ref t0, .int x]) ++ List.replicate (2 - (lg_sl ([.ref t0, .int x])).length) Slot.unset).toArray = ls at hl ⊢
  have hl : lv_has ls 2 [(0, .ref t0), (1, .int x)] := hl
  refine lv_iload_n hx hb d_Terms_holds_0 rfl (lv_at hl 1 rfl) ?_
  refine lv_if_lt (tgt := 16) hx hb d_Terms_holds_1 (by decide) (fun c_1 => ?_) (fun c_1 => ?_)
  · refine lv_iconst (v := 0) hx hb d_Terms_holds_16 (by decide) ?_
    exact W.zret (v := 0) hx hb hr (by decide) (fun t ht hW => ⟨_, rfl, by simp_all, ht⟩) (fun q h => by cases h) d_Terms_holds_17
  · refine lv_iload_n hx hb d_Terms_holds_4 rfl (lv_at hl 1 rfl) ?_
    refine lv_aload_n hx hb d_Terms_holds_5 rfl (lv_at hl 0 rfl) ?_
    refine va_get (D := (dC, dI)) (ci := 6) (v := .int ((nI K))) (C := R_Terms) (T := F_Terms) (N := 4) hx hb hts i_Terms hown hK hP 0 rfl rfl 3 (by decide) (hts _ mw_fl_Terms_22) (fun _ h9 => h9) rfl d_Terms_holds_6 ?_
    refine lv_icmp_ge (tgt := 16) hx hb d_Terms_holds_9 (by decide) (fun c_9 => ?_) (fun c_9 => ?_)
    · refine lv_iconst (v := 0) hx hb d_Terms_holds_16 (by decide) ?_
      exact W.zret (v := 0) hx hb hr (by decide) (fun t ht hW => ⟨_, rfl, by simp_all, ht⟩) (fun q h => by cases h) d_Terms_holds_17
    · refine lv_iconst (v := 1) hx hb d_Terms_holds_12 (by decide) ?_
      refine lv_goto (tgt := 17) hx hb d_Terms_holds_13 (by decide) ?_
      exact W.zret (v := 1) hx hb hr (by decide) (fun t ht hW => ⟨_, rfl, by simp_all, ht⟩) (fun q h => by cases h) d_Terms_holds_17
set_option maxHeartbeats 4000000 in
set_option maxRecDepth 100000 in
theorem c_Terms_product (l : Launch) (dC : Nat → ClassId) (dI : Nat → Nat → Nat) (cI cJ : ClassId) (t0 : Nat) (t1 : Nat) (t2 : Nat) (K : Nat) (tp : Nat → Int32) (to : Nat → Int32) (a0 : Nat) (k : Nat) (hk : k < 81) : Met l y_Terms_product (ct y_Terms_product b_Terms_product 2 (some .int)) ({ frames := 0, cells := 0, slots := 0, locals := 0 }) (va_Pc [.ref t0, .int ((nI k))] (fun U => va_P (dC, dI) classes (wT cI t0 t1 t2 a0 K tp to) U.heap ∧ va_K (dC, dI) classes [(cI, .int), (cJ, .long)] U)) (vp_Si (fun r => r = tp k)) 0 0 (fun _ => False) := by
  refine Met.ofW (cc := b_Terms_product) (maxL := 2) (ret := some .int) (by decide) rfl ?_
  intro p e s m args below meth c s₁ B hml hv
  obtain ⟨rfl, hP, hK⟩ := hv
  have hx := B.exec
  have hb := B.bytes
  have hr := B.returns
  have hts : ∀ w ∈ lwg, w.before _ s = true := fun w h => atoms_spec (ws := ct y_Terms_product b_Terms_product 2 (some .int)) B.pre w (List.mem_cons_of_mem _ h)
  have hown : s.vm.findClass R_Terms = some m.cls := findClass_of_methodNamed B.named
  have hlocks := B.notSynchronized
  have hl := lv_entry ([.ref t0, .int ((nI k))]) (n := 2) (Nat.le_of_ble_eq_true rfl)
  rw [lg_entry_eq]
  generalize (lg_sl ([.ref t0, .int ((nI k))]) ++ List.replicate (2 - (lg_sl ([.ref t0, .int ((nI k))])).length) Slot.unset).toArray = ls at hl ⊢
  have hl : lv_has ls 2 [(0, .ref t0), (1, .int ((nI k)))] := hl
  refine lv_aload_n hx hb d_Terms_product_0 rfl (lv_at hl 0 rfl) ?_
  refine va_get (D := (dC, dI)) (ci := 6) (v := .ref t1) (C := R_Terms) (T := F_Terms) (N := 4) hx hb hts i_Terms hown hK hP 0 rfl rfl 1 (by decide) (hts _ mw_fl_Terms_9) (fun _ h9 => h9) rfl d_Terms_product_1 ?_
  refine lv_iload_n hx hb d_Terms_product_4 rfl (lv_at hl 1 rfl) ?_
  refine va_iald hx hb hK hP 1 0 rfl rfl (vp_in_nI hk (by omega)) d_Terms_product_5 ?_
  refine w_ti (show _ = tp k from by rw [nI_clamp (by omega)]) ?_
  exact W.iret (v := (tp k)) hx hb hr (fun t ht hW => ⟨_, rfl, rfl, ht⟩) (fun q h => by cases h) d_Terms_product_6
set_option maxHeartbeats 4000000 in
set_option maxRecDepth 100000 in
theorem c_Terms_column (l : Launch) (dC : Nat → ClassId) (dI : Nat → Nat → Nat) (cI cJ : ClassId) (t0 : Nat) (t1 : Nat) (t2 : Nat) (K : Nat) (tp : Nat → Int32) (to : Nat → Int32) (a0 : Nat) (a1 : Nat) (a2 : Nat) (a3 : Nat) (n : Int32) (sz : Int32) (care : Nat → Int32) (bits : Nat → Int32) (had : Nat → Int32) (k : Nat) (i0 : Int32) (hk : k < 81) (hp : vp_in (tp k) 81) : Met l y_Terms_column (ct y_Terms_column b_Terms_column 4 (some .int)) ({ frames := 1, cells := 0, slots := 0, locals := 22 }) (va_Pc [.ref t0, .int ((nI k)), .int i0] (fun U => va_P (dC, dI) classes (wT cI t0 t1 t2 a0 K tp to ++ wP cI a0 a1 a2 a3 n sz care bits had) U.heap ∧ va_K (dC, dI) classes [(cI, .int), (cJ, .long)] U)) (vp_Si (fun r => r = if n ≤ i0 then ((to k >>> ((i0 - n) &&& 31)) &&& 1) else fDig (care (tp k).toNatClampNeg) (bits (tp k).toNatClampNeg) i0)) 0 0 (fun _ => False) := by
  refine Met.ofW (cc := b_Terms_column) (maxL := 4) (ret := some .int) (by decide) rfl ?_
  intro p e s m args below meth c s₁ B hml hv
  obtain ⟨rfl, hP, hK⟩ := hv
  have hx := B.exec
  have hb := B.bytes
  have hr := B.returns
  have hts : ∀ w ∈ lwg, w.before _ s = true := fun w h => atoms_spec (ws := ct y_Terms_column b_Terms_column 4 (some .int)) B.pre w (List.mem_cons_of_mem _ h)
  have hown : s.vm.findClass R_Terms = some m.cls := findClass_of_methodNamed B.named
  have hlocks := B.notSynchronized
  have hl := lv_entry ([.ref t0, .int ((nI k)), .int i0]) (n := 4) (Nat.le_of_ble_eq_true rfl)
  rw [lg_entry_eq]
  generalize (lg_sl ([.ref t0, .int ((nI k)), .int i0]) ++ List.replicate (4 - (lg_sl ([.ref t0, .int ((nI k)), .int i0])).length) Slot.unset).toArray = ls at hl ⊢
  have hl : lv_has ls 4 [(0, .ref t0), (1, .int ((nI k))), (2, .int i0)] := hl
  refine lv_aload_n hx hb d_Terms_column_0 rfl (lv_at hl 0 rfl) ?_
  refine va_get (D := (dC, dI)) (ci := 6) (v := .ref a0) (C := R_Terms) (T := F_Terms) (N := 4) hx hb hts i_Terms hown hK hP 0 rfl rfl 0 (by decide) (hts _ mw_fl_Terms_18) (fun _ h9 => h9) rfl d_Terms_column_1 ?_
  refine vp_callSi (W.runV (As := []) (rest := []) ⟨hx, hb, hml, hown, hts⟩ (c_Products_inputs l dC dI cI cJ a0 a1 a2 a3 n sz care bits had ) (cwV 0 hts (ct_goodV mw_ml_Terms_33 mw_im_Products_inputs mw_se_Products_inputs mw_ini_Products mw_code_Products_inputs) rfl rfl rfl (by decide +kernel) ⟨Nat.le_of_ble_eq_true rfl, Nat.le_of_ble_eq_true rfl⟩) ⟨fun a U g mk q => by obtain ⟨q0, qP, qK⟩ := q; exact ⟨q0, qP, va_K.moved (u := U) (U := U.calling g mk a) (Vm.Alike.refl U.vm) qK⟩, va_recv hK hP (ci := 5) (q0 := 3) rfl rfl, fun U hU hW => ⟨rfl, by rw [hU]; exact (hP.sub (ws' := (wP cI a0 a1 a2 a3 n sz care bits had)) [3, 4, 5, 6] rfl), va_K.moved hW.alike hK⟩⟩ rfl rfl hl.1 rfl (lv_room (Nat.le_of_ble_eq_true rfl)) d_Terms_column_4 ⟨Nat.le_of_ble_eq_true rfl, Nat.le_of_ble_eq_true rfl⟩) (fun r_1 hr_1 => ?_)
  rw [hr_1]
  clear hr_1
  refine lv_istore_n (lv' := [(3, .int ((n))), (0, .ref t0), (1, .int ((nI k))), (2, .int i0)]) hx hb d_Terms_column_7 rfl hl (by decide) rfl (fun ls hl => ?_)
  refine lv_iload_n hx hb d_Terms_column_8 rfl (lv_at hl 3 rfl) ?_
  refine lv_iload_n hx hb d_Terms_column_9 rfl (lv_at hl 0 rfl) ?_
  refine lv_icmp_ge (tgt := 30) hx hb d_Terms_column_10 (by decide) (fun c_10 => ?_) (fun c_10 => ?_)
  · refine lv_aload_n hx hb d_Terms_column_30 rfl (lv_at hl 1 rfl) ?_
    refine va_get (D := (dC, dI)) (ci := 6) (v := .ref t2) (C := R_Terms) (T := F_Terms) (N := 4) hx hb hts i_Terms hown hK hP 0 rfl rfl 2 (by decide) (hts _ mw_fl_Terms_15) (fun _ h9 => h9) rfl d_Terms_column_31 ?_
    refine lv_iload_n hx hb d_Terms_column_34 rfl (lv_at hl 2 rfl) ?_
    refine va_iald hx hb hK hP 2 0 rfl rfl (vp_in_nI hk (by omega)) d_Terms_column_35 ?_
    refine w_ti (show _ = to k from by rw [nI_clamp (by omega)]) ?_
    refine lv_iload_n hx hb d_Terms_column_36 rfl (lv_at hl 3 rfl) ?_
    refine lv_iload_n hx hb d_Terms_column_37 rfl (lv_at hl 0 rfl) ?_
    refine lv_isub hx hb d_Terms_column_38 ?_
    refine lv_ishr hx hb d_Terms_column_39 ?_
    refine lv_iconst (v := 1) hx hb d_Terms_column_40 (by decide) ?_
    refine lv_iand hx hb d_Terms_column_41 ?_
    exact W.iret (v := (((to k) >>> ((i0 - (n)) &&& 31)) &&& 1)) hx hb hr (fun t ht hW => ⟨_, rfl, by simp [c_10], ht⟩) (fun q h => by cases h) d_Terms_column_42
  · refine lv_aload_n hx hb d_Terms_column_13 rfl (lv_at hl 1 rfl) ?_
    refine va_get (D := (dC, dI)) (ci := 6) (v := .ref a0) (C := R_Terms) (T := F_Terms) (N := 4) hx hb hts i_Terms hown hK hP 0 rfl rfl 0 (by decide) (hts _ mw_fl_Terms_18) (fun _ h9 => h9) rfl d_Terms_column_14 ?_
    refine lv_aload_n hx hb d_Terms_column_17 rfl (lv_at hl 1 rfl) ?_
    refine va_get (D := (dC, dI)) (ci := 6) (v := .ref t1) (C := R_Terms) (T := F_Terms) (N := 4) hx hb hts i_Terms hown hK hP 0 rfl rfl 1 (by decide) (hts _ mw_fl_Terms_9) (fun _ h9 => h9) rfl d_Terms_column_18 ?_
    refine lv_iload_n hx hb d_Terms_column_21 rfl (lv_at hl 2 rfl) ?_
    refine va_iald hx hb hK hP 1 0 rfl rfl (vp_in_nI hk (by omega)) d_Terms_column_22 ?_
    refine w_ti (show _ = tp k from by rw [nI_clamp (by omega)]) ?_
    refine lv_iload_n hx hb d_Terms_column_23 rfl (lv_at hl 3 rfl) ?_
    refine vp_callSi (W.runV (As := [.int ((tp k)), .int i0]) (rest := []) ⟨hx, hb, hml, hown, hts⟩ (c_Products_digit l dC dI cI cJ a0 a1 a2 a3 n sz care bits had (tp k) i0 hp) (cwV 2 hts (ct_goodV mw_ml_Terms_39 mw_im_Products_digit mw_se_Products_digit mw_ini_Products mw_code_Products_digit) rfl rfl rfl (by decide +kernel) ⟨Nat.le_of_ble_eq_true rfl, Nat.le_of_ble_eq_true rfl⟩) ⟨fun a U g mk q => by obtain ⟨q0, qP, qK⟩ := q; exact ⟨q0, qP, va_K.moved (u := U) (U := U.calling g mk a) (Vm.Alike.refl U.vm) qK⟩, va_recv hK hP (ci := 5) (q0 := 3) rfl rfl, fun U hU hW => ⟨rfl, by rw [hU]; exact (hP.sub (ws' := (wP cI a0 a1 a2 a3 n sz care bits had)) [3, 4, 5, 6] rfl), va_K.moved hW.alike hK⟩⟩ rfl rfl hl.1 rfl (lv_room (Nat.le_of_ble_eq_true rfl)) d_Terms_column_24 ⟨Nat.le_of_ble_eq_true rfl, Nat.le_of_ble_eq_true rfl⟩) (fun r_2 hr_2 => ?_)
    rw [hr_2]
    clear hr_2
    refine lv_goto (tgt := 42) hx hb d_Terms_column_27 (by decide) ?_
    exact W.iret (v := (fDig (care (tp k).toNatClampNeg) (bits (tp k).toNatClampNeg) i0)) hx hb hr (fun t ht hW => ⟨_, rfl, by simp [c_10], ht⟩) (fun q h => by cases h) d_Terms_column_42
set_option maxHeartbeats 4000000 in
set_option maxRecDepth 100000 in
theorem c_Terms_costOf (l : Launch) (dC : Nat → ClassId) (dI : Nat → Nat → Nat) (cI cJ : ClassId) (t0 : Nat) (t1 : Nat) (t2 : Nat) (K : Nat) (tp : Nat → Int32) (to : Nat → Int32) (a0 : Nat) (a1 : Nat) (a2 : Nat) (a3 : Nat) (n : Int32) (sz : Int32) (care : Nat → Int32) (bits : Nat → Int32) (had : Nat → Int32) (k : Nat) (hk : k < 81) (hp : vp_in (tp k) 81) : Met l y_Terms_costOf (ct y_Terms_costOf b_Terms_costOf 2 (some .int)) ({ frames := 1, cells := 0, slots := 0, locals := 21 }) (va_Pc [.ref t0, .int ((nI k))] (fun U => va_P (dC, dI) classes (wT cI t0 t1 t2 a0 K tp to ++ wP cI a0 a1 a2 a3 n sz care bits had) U.heap ∧ va_K (dC, dI) classes [(cI, .int), (cJ, .long)] U)) (vp_Si (fun r => r = bcI (care (tp k).toNatClampNeg) + bcI (to k))) 0 0 (fun _ => False) := by
  refine Met.ofW (cc := b_Terms_costOf) (maxL := 2) (ret := some .int) (by decide) rfl ?_
  intro p e s m args below meth c s₁ B hml hv
  obtain ⟨rfl, hP, hK⟩ := hv
  have hx := B.exec
  have hb := B.bytes
  have hr := B.returns
  have hts : ∀ w ∈ lwg, w.before _ s = true := fun w h => atoms_spec (ws := ct y_Terms_costOf b_Terms_costOf 2 (some .int)) B.pre w (List.mem_cons_of_mem _ h)
  have hown : s.vm.findClass R_Terms = some m.cls := findClass_of_methodNamed B.named
  have hlocks := B.notSynchronized
  have hl := lv_entry ([.ref t0, .int ((nI k))]) (n := 2) (Nat.le_of_ble_eq_true rfl)
  rw [lg_entry_eq]
  generalize (lg_sl ([.ref t0, .int ((nI k))]) ++ List.replicate (2 - (lg_sl ([.ref t0, .int ((nI k))])).length) Slot.unset).toArray = ls at hl ⊢
  have hl : lv_has ls 2 [(0, .ref t0), (1, .int ((nI k)))] := hl
  refine lv_aload_n hx hb d_Terms_costOf_0 rfl (lv_at hl 0 rfl) ?_
  refine va_get (D := (dC, dI)) (ci := 6) (v := .ref a0) (C := R_Terms) (T := F_Terms) (N := 4) hx hb hts i_Terms hown hK hP 0 rfl rfl 0 (by decide) (hts _ mw_fl_Terms_18) (fun _ h9 => h9) rfl d_Terms_costOf_1 ?_
  refine lv_aload_n hx hb d_Terms_costOf_4 rfl (lv_at hl 0 rfl) ?_
  refine va_get (D := (dC, dI)) (ci := 6) (v := .ref t1) (C := R_Terms) (T := F_Terms) (N := 4) hx hb hts i_Terms hown hK hP 0 rfl rfl 1 (by decide) (hts _ mw_fl_Terms_9) (fun _ h9 => h9) rfl d_Terms_costOf_5 ?_
  refine lv_iload_n hx hb d_Terms_costOf_8 rfl (lv_at hl 1 rfl) ?_
  refine va_iald hx hb hK hP 1 0 rfl rfl (vp_in_nI hk (by omega)) d_Terms_costOf_9 ?_
  refine w_ti (show _ = tp k from by rw [nI_clamp (by omega)]) ?_
  refine vp_callSi (W.runV (As := [.int ((tp k))]) (rest := []) ⟨hx, hb, hml, hown, hts⟩ (c_Products_care l dC dI cI cJ a0 a1 a2 a3 n sz care bits had (tp k) hp) (cwV 1 hts (ct_goodV mw_ml_Terms_43 mw_im_Products_care mw_se_Products_care mw_ini_Products mw_code_Products_care) rfl rfl rfl (by decide +kernel) ⟨Nat.le_of_ble_eq_true rfl, Nat.le_of_ble_eq_true rfl⟩) ⟨fun a U g mk q => by obtain ⟨q0, qP, qK⟩ := q; exact ⟨q0, qP, va_K.moved (u := U) (U := U.calling g mk a) (Vm.Alike.refl U.vm) qK⟩, va_recv hK hP (ci := 5) (q0 := 3) rfl rfl, fun U hU hW => ⟨rfl, by rw [hU]; exact (hP.sub (ws' := (wP cI a0 a1 a2 a3 n sz care bits had)) [3, 4, 5, 6] rfl), va_K.moved hW.alike hK⟩⟩ rfl rfl hl.1 rfl (lv_room (Nat.le_of_ble_eq_true rfl)) d_Terms_costOf_10 ⟨Nat.le_of_ble_eq_true rfl, Nat.le_of_ble_eq_true rfl⟩) (fun r_1 hr_1 => ?_)
  rw [hr_1]
  clear hr_1
  refine vp_callSi (W.runS (As := [.int ((care (tp k).toNatClampNeg))]) (rest := []) ⟨hx, hb, hml, hown, hts⟩ (c_JInteger_bitCount_II l dC dI cI cJ (care (tp k).toNatClampNeg) ) (va_cwS 1 hts (ct_goodT mw_ml_Terms_47 mw_st_JInteger_bitCount_II mw_ini_JInteger mw_code_JInteger_bitCount_II) rfl rfl rfl (by decide +kernel) ⟨Nat.le_of_ble_eq_true rfl, Nat.le_of_ble_eq_true rfl⟩) ⟨fun a U g mk q => by obtain ⟨q0, qP, qK⟩ := q; exact ⟨q0, qP, va_K.moved (u := U) (U := U.calling g mk a) (Vm.Alike.refl U.vm) qK⟩, fun U hU hW => ⟨rfl, by rw [hU]; exact (fun k q h => by simp at h), va_K.moved hW.alike hK⟩⟩ rfl rfl hl.1 rfl (lv_room (Nat.le_of_ble_eq_true rfl)) d_Terms_costOf_13 ⟨Nat.le_of_ble_eq_true rfl, Nat.le_of_ble_eq_true rfl⟩) (fun r_2 hr_2 => ?_)
  rw [hr_2]
  clear hr_2
  refine lv_aload_n hx hb d_Terms_costOf_16 rfl (lv_at hl 0 rfl) ?_
  refine va_get (D := (dC, dI)) (ci := 6) (v := .ref t2) (C := R_Terms) (T := F_Terms) (N := 4) hx hb hts i_Terms hown hK hP 0 rfl rfl 2 (by decide) (hts _ mw_fl_Terms_15) (fun _ h9 => h9) rfl d_Terms_costOf_17 ?_
  refine lv_iload_n hx hb d_Terms_costOf_20 rfl (lv_at hl 1 rfl) ?_
  refine va_iald hx hb hK hP 2 0 rfl rfl (vp_in_nI hk (by omega)) d_Terms_costOf_21 ?_
  refine w_ti (show _ = to k from by rw [nI_clamp (by omega)]) ?_
  refine vp_callSi (W.runS (As := [.int ((to k))]) (rest := [.int ((bcI (care (tp k).toNatClampNeg)))]) ⟨hx, hb, hml, hown, hts⟩ (c_JInteger_bitCount_II l dC dI cI cJ (to k) ) (va_cwS 1 hts (ct_goodT mw_ml_Terms_47 mw_st_JInteger_bitCount_II mw_ini_JInteger mw_code_JInteger_bitCount_II) rfl rfl rfl (by decide +kernel) ⟨Nat.le_of_ble_eq_true rfl, Nat.le_of_ble_eq_true rfl⟩) ⟨fun a U g mk q => by obtain ⟨q0, qP, qK⟩ := q; exact ⟨q0, qP, va_K.moved (u := U) (U := U.calling g mk a) (Vm.Alike.refl U.vm) qK⟩, fun U hU hW => ⟨rfl, by rw [hU]; exact (fun k q h => by simp at h), va_K.moved hW.alike hK⟩⟩ rfl rfl hl.1 rfl (lv_room (Nat.le_of_ble_eq_true rfl)) d_Terms_costOf_22 ⟨Nat.le_of_ble_eq_true rfl, Nat.le_of_ble_eq_true rfl⟩) (fun r_3 hr_3 => ?_)
  rw [hr_3]
  clear hr_3
  refine lv_iadd hx hb d_Terms_costOf_25 ?_
  exact W.iret (v := ((bcI (care (tp k).toNatClampNeg)) + (bcI (to k)))) hx hb hr (fun t ht hW => ⟨_, rfl, rfl, ht⟩) (fun q h => by cases h) d_Terms_costOf_26
set_option maxHeartbeats 4000000 in
set_option maxRecDepth 100000 in
theorem c_Terms_hadFor (l : Launch) (dC : Nat → ClassId) (dI : Nat → Nat → Nat) (cI cJ : ClassId) (t0 : Nat) (t1 : Nat) (t2 : Nat) (K : Nat) (tp : Nat → Int32) (to : Nat → Int32) (a0 : Nat) (a1 : Nat) (a2 : Nat) (a3 : Nat) (n : Int32) (sz : Int32) (care : Nat → Int32) (bits : Nat → Int32) (had : Nat → Int32) (k : Nat) (ot : Int32) (hk : k < 81) (hp : vp_in (tp k) 81) : Met l y_Terms_hadFor (ct y_Terms_hadFor b_Terms_hadFor 3 (some .int)) ({ frames := 1, cells := 0, slots := 0, locals := 21 }) (va_Pc [.ref t0, .int ((nI k)), .int ot] (fun U => va_P (dC, dI) classes (wT cI t0 t1 t2 a0 K tp to ++ wP cI a0 a1 a2 a3 n sz care bits had) U.heap ∧ va_K (dC, dI) classes [(cI, .int), (cJ, .long)] U)) (vp_Si (fun r => r = fHad tp to had k ot)) 0 0 (fun _ => False) := by
  refine Met.ofW (cc := b_Terms_hadFor) (maxL := 3) (ret := some .int) (by decide) rfl ?_
  intro p e s m args below meth c s₁ B hml hv
  obtain ⟨rfl, hP, hK⟩ := hv
  have hx := B.exec
  have hb := B.bytes
  have hr := B.returns
  have hts : ∀ w ∈ lwg, w.before _ s = true := fun w h => atoms_spec (ws := ct y_Terms_hadFor b_Terms_hadFor 3 (some .int)) B.pre w (List.mem_cons_of_mem _ h)
  have hown : s.vm.findClass R_Terms = some m.cls := findClass_of_methodNamed B.named
  have hlocks := B.notSynchronized
  have hl := lv_entry ([.ref t0, .int ((nI k)), .int ot]) (n := 3) (Nat.le_of_ble_eq_true rfl)
  rw [lg_entry_eq]
  generalize (lg_sl ([.ref t0, .int ((nI k)), .int ot]) ++ List.replicate (3 - (lg_sl ([.ref t0, .int ((nI k)), .int ot])).length) Slot.unset).toArray = ls at hl ⊢
  have hl : lv_has ls 3 [(0, .ref t0), (1, .int ((nI k))), (2, .int ot)] := hl
  refine lv_aload_n hx hb d_Terms_hadFor_0 rfl (lv_at hl 0 rfl) ?_
  refine va_get (D := (dC, dI)) (ci := 6) (v := .ref t2) (C := R_Terms) (T := F_Terms) (N := 4) hx hb hts i_Terms hown hK hP 0 rfl rfl 2 (by decide) (hts _ mw_fl_Terms_15) (fun _ h9 => h9) rfl d_Terms_hadFor_1 ?_
  refine lv_iload_n hx hb d_Terms_hadFor_4 rfl (lv_at hl 1 rfl) ?_
  refine va_iald hx hb hK hP 2 0 rfl rfl (vp_in_nI hk (by omega)) d_Terms_hadFor_5 ?_
  refine w_ti (show _ = to k from by rw [nI_clamp (by omega)]) ?_
  refine lv_iload_n hx hb d_Terms_hadFor_6 rfl (lv_at hl 2 rfl) ?_
  refine lv_ishr hx hb d_Terms_hadFor_7 ?_
  refine lv_iconst (v := 1) hx hb d_Terms_hadFor_8 (by decide) ?_
  refine lv_iand hx hb d_Terms_hadFor_9 ?_
  refine lv_iconst (v := 1) hx hb d_Terms_hadFor_10 (by decide) ?_
  refine lv_icmp_ne (tgt := 30) hx hb d_Terms_hadFor_11 (by decide) (fun c_11 => ?_) (fun c_11 => ?_)
  · refine lv_iconst (v := 0) hx hb d_Terms_hadFor_30 (by decide) ?_
    exact W.iret (v := 0) hx hb hr (fun t ht hW => ⟨_, rfl, by simp [fHad, c_11], ht⟩) (fun q h => by cases h) d_Terms_hadFor_31
  · refine lv_aload_n hx hb d_Terms_hadFor_14 rfl (lv_at hl 0 rfl) ?_
    refine va_get (D := (dC, dI)) (ci := 6) (v := .ref a0) (C := R_Terms) (T := F_Terms) (N := 4) hx hb hts i_Terms hown hK hP 0 rfl rfl 0 (by decide) (hts _ mw_fl_Terms_18) (fun _ h9 => h9) rfl d_Terms_hadFor_15 ?_
    refine lv_aload_n hx hb d_Terms_hadFor_18 rfl (lv_at hl 0 rfl) ?_
    refine va_get (D := (dC, dI)) (ci := 6) (v := .ref t1) (C := R_Terms) (T := F_Terms) (N := 4) hx hb hts i_Terms hown hK hP 0 rfl rfl 1 (by decide) (hts _ mw_fl_Terms_9) (fun _ h9 => h9) rfl d_Terms_hadFor_19 ?_
    refine lv_iload_n hx hb d_Terms_hadFor_22 rfl (lv_at hl 1 rfl) ?_
    refine va_iald hx hb hK hP 1 0 rfl rfl (vp_in_nI hk (by omega)) d_Terms_hadFor_23 ?_
    refine w_ti (show _ = tp k from by rw [nI_clamp (by omega)]) ?_
    refine vp_callSi (W.runV (As := [.int ((tp k))]) (rest := []) ⟨hx, hb, hml, hown, hts⟩ (c_Products_had l dC dI cI cJ a0 a1 a2 a3 n sz care bits had (tp k) hp) (cwV 1 hts (ct_goodV mw_ml_Terms_52 mw_im_Products_had mw_se_Products_had mw_ini_Products mw_code_Products_had) rfl rfl rfl (by decide +kernel) ⟨Nat.le_of_ble_eq_true rfl, Nat.le_of_ble_eq_true rfl⟩) ⟨fun a U g mk q => by obtain ⟨q0, qP, qK⟩ := q; exact ⟨q0, qP, va_K.moved (u := U) (U := U.calling g mk a) (Vm.Alike.refl U.vm) qK⟩, va_recv hK hP (ci := 5) (q0 := 3) rfl rfl, fun U hU hW => ⟨rfl, by rw [hU]; exact (hP.sub (ws' := (wP cI a0 a1 a2 a3 n sz care bits had)) [3, 4, 5, 6] rfl), va_K.moved hW.alike hK⟩⟩ rfl rfl hl.1 rfl (lv_room (Nat.le_of_ble_eq_true rfl)) d_Terms_hadFor_24 ⟨Nat.le_of_ble_eq_true rfl, Nat.le_of_ble_eq_true rfl⟩) (fun r_1 hr_1 => ?_)
    rw [hr_1]
    clear hr_1
    refine lv_goto (tgt := 31) hx hb d_Terms_hadFor_27 (by decide) ?_
    exact W.iret (v := (had (tp k).toNatClampNeg)) hx hb hr (fun t ht hW => ⟨_, rfl, by simp [fHad, c_11], ht⟩) (fun q h => by cases h) d_Terms_hadFor_31
set_option maxHeartbeats 4000000 in
set_option maxRecDepth 100000 in
theorem lp_Terms_hadByAllFor {p : Program} {e : Env} {s : State} {m : MethodId} {args : Array Value} {below : List Frame} {meth : Method} {c : Code} (l : Launch) (dC : Nat → ClassId) (dI : Nat → Nat → Nat) (cI cJ : ClassId) (t0 : Nat) (t1 : Nat) (t2 : Nat) (K : Nat) (tp : Nat → Int32) (to : Nat → Int32) (a0 : Nat) (a1 : Nat) (a2 : Nat) (a3 : Nat) (n : Int32) (sz : Int32) (care : Nat → Int32) (bits : Nat → Int32) (had : Nat → Int32) (ot : Int32) (hK1 : K ≤ 81) (hp : ∀ k, k < K → vp_in (tp k) 81) (hx : p.tables.exec = Jvm.exec) (hb : c.code = b_Terms_hadByAllFor) (hr : meth.sig.returnType = some .int) (hts : ∀ w ∈ lwg, w.before args s = true) (hown : s.vm.findClass R_Terms = some m.cls) (hlocks : meth.locks = false) (hml : c.maxLocals = 4) (hP : va_P (dC, dI) classes (wT cI t0 t1 t2 a0 K tp to ++ wP cI a0 a1 a2 a3 n sz care bits had) s.heap) (hK : va_K (dC, dI) classes [(cI, .int), (cJ, .long)] s) : ∀ (k i : Nat), K - i < k → i ≤ K → ∀ ls : Array Slot, lv_has ls 4 [(0, .ref t0), (1, .int ot), (2, .int ((itr (fun k acc => acc ||| fHad tp to had k ot) i 0))), (3, .int ((nI i)))] → W p l e ({ frames := 2, cells := 0, slots := 0, locals := 43 } : Room) s m args below meth c s.heap [] 0 0 (MQ below (vp_Si (fun r => r = fHadAll tp to had K ot)) args s 0 0 (fun _ => False)) (F0 m 4 ls []) := by
  intro k
  induction k with
  | zero => intro i h; omega
  | succ k ih =>
    intro i hk hi ls hl
    refine lv_iload_n hx hb d_Terms_hadByAllFor_4 rfl (lv_at hl 3 rfl) ?_
    refine lv_aload_n hx hb d_Terms_hadByAllFor_5 rfl (lv_at hl 0 rfl) ?_
    refine va_get (D := (dC, dI)) (ci := 6) (v := .int ((nI K))) (C := R_Terms) (T := F_Terms) (N := 4) hx hb hts i_Terms hown hK hP 0 rfl rfl 3 (by decide) (hts _ mw_fl_Terms_22) (fun _ h9 => h9) rfl d_Terms_hadByAllFor_6 ?_
    refine lv_icmp_ge (tgt := 27) hx hb d_Terms_hadByAllFor_9 (by decide) (fun c_9 => ?_) (fun c_9 => ?_)
    · have hE : i = K := Nat.le_antisymm hi ((nI_leI (by omega) (by omega)).mp c_9)
      subst hE
      refine lv_iload_n hx hb d_Terms_hadByAllFor_27 rfl (lv_at hl 2 rfl) ?_
      exact W.iret (v := (itr (fun k acc => acc ||| fHad tp to had k ot) i 0)) hx hb hr (fun t ht hW => ⟨_, rfl, rfl, ht⟩) (fun q h => by cases h) d_Terms_hadByAllFor_28
    · have hlt : i < K := Nat.lt_of_not_le (fun h => c_9 ((nI_leI (by omega) (by omega)).mpr h))
      refine lv_iload_n hx hb d_Terms_hadByAllFor_12 rfl (lv_at hl 2 rfl) ?_
      refine lv_aload_n hx hb d_Terms_hadByAllFor_13 rfl (lv_at hl 0 rfl) ?_
      refine lv_iload_n hx hb d_Terms_hadByAllFor_14 rfl (lv_at hl 3 rfl) ?_
      refine lv_iload_n hx hb d_Terms_hadByAllFor_15 rfl (lv_at hl 1 rfl) ?_
      refine vp_callSi (W.runV (As := [.int ((nI i)), .int ot]) (rest := [.int ((itr (fun k acc => acc ||| fHad tp to had k ot) i 0))]) ⟨hx, hb, hml, hown, hts⟩ (c_Terms_hadFor l dC dI cI cJ t0 t1 t2 K tp to a0 a1 a2 a3 n sz care bits had i ot (by omega) (hp i hlt)) (cwV 2 hts (ct_goodV mw_ml_Terms_55 mw_im_Terms_hadFor mw_se_Terms_hadFor mw_ini_Terms mw_code_Terms_hadFor) rfl rfl rfl (by decide +kernel) ⟨Nat.le_of_ble_eq_true rfl, Nat.le_of_ble_eq_true rfl⟩) ⟨fun a U g mk q => by obtain ⟨q0, qP, qK⟩ := q; exact ⟨q0, qP, va_K.moved (u := U) (U := U.calling g mk a) (Vm.Alike.refl U.vm) qK⟩, va_recv hK hP (ci := 6) (q0 := 0) rfl rfl, fun U hU hW => ⟨rfl, by rw [hU]; exact hP, va_K.moved hW.alike hK⟩⟩ rfl rfl hl.1 rfl (lv_room (Nat.le_of_ble_eq_true rfl)) d_Terms_hadByAllFor_16 ⟨Nat.le_of_ble_eq_true rfl, Nat.le_of_ble_eq_true rfl⟩) (fun r_1 hr_1 => ?_)
      rw [hr_1]
      clear hr_1
      refine lv_ior hx hb d_Terms_hadByAllFor_19 ?_
      refine lv_istore_n (lv' := [(2, .int (((itr (fun k acc => acc ||| fHad tp to had k ot) i 0) ||| (fHad tp to had i ot)))), (0, .ref t0), (1, .int ot), (3, .int ((nI i)))]) hx hb d_Terms_hadByAllFor_20 rfl hl (by decide) rfl (fun ls hl => ?_)
      refine lv_iinc (v := (nI (i + 1))) (lv' := [(3, .int ((nI (i + 1)))), (2, .int (((itr (fun k acc => acc ||| fHad tp to had k ot) i 0) ||| (fHad tp to had i ot)))), (0, .ref t0), (1, .int ot)]) hx hb d_Terms_hadByAllFor_21 hl (k := 3) rfl (show nI i + 1 = nI (i + 1) from nI_1 i) (by decide) rfl (fun ls hl => ?_)
      refine lv_goto (tgt := 4) hx hb d_Terms_hadByAllFor_24 (by decide) ?_
      exact ih (i + 1) (by omega) (by omega) ls (lv_sub hl [2, 3, 1, 0] rfl)
set_option maxHeartbeats 4000000 in
set_option maxRecDepth 100000 in
theorem c_Terms_hadByAllFor (l : Launch) (dC : Nat → ClassId) (dI : Nat → Nat → Nat) (cI cJ : ClassId) (t0 : Nat) (t1 : Nat) (t2 : Nat) (K : Nat) (tp : Nat → Int32) (to : Nat → Int32) (a0 : Nat) (a1 : Nat) (a2 : Nat) (a3 : Nat) (n : Int32) (sz : Int32) (care : Nat → Int32) (bits : Nat → Int32) (had : Nat → Int32) (ot : Int32) (hK1 : K ≤ 81) (hp : ∀ k, k < K → vp_in (tp k) 81) : Met l y_Terms_hadByAllFor (ct y_Terms_hadByAllFor b_Terms_hadByAllFor 4 (some .int)) ({ frames := 2, cells := 0, slots := 0, locals := 43 }) (va_Pc [.ref t0, .int ot] (fun U => va_P (dC, dI) classes (wT cI t0 t1 t2 a0 K tp to ++ wP cI a0 a1 a2 a3 n sz care bits had) U.heap ∧ va_K (dC, dI) classes [(cI, .int), (cJ, .long)] U)) (vp_Si (fun r => r = fHadAll tp to had K ot)) 0 0 (fun _ => False) := by
  refine Met.ofW (cc := b_Terms_hadByAllFor) (maxL := 4) (ret := some .int) (by decide) rfl ?_
  intro p e s m args below meth c s₁ B hml hv
  obtain ⟨rfl, hP, hK⟩ := hv
  have hx := B.exec
  have hb := B.bytes
  have hr := B.returns
  have hts : ∀ w ∈ lwg, w.before _ s = true := fun w h => atoms_spec (ws := ct y_Terms_hadByAllFor b_Terms_hadByAllFor 4 (some .int)) B.pre w (List.mem_cons_of_mem _ h)
  have hown : s.vm.findClass R_Terms = some m.cls := findClass_of_methodNamed B.named
  have hlocks := B.notSynchronized
  have hl := lv_entry ([.ref t0, .int ot]) (n := 4) (Nat.le_of_ble_eq_true rfl)
  rw [lg_entry_eq]
  generalize (lg_sl ([.ref t0, .int ot]) ++ List.replicate (4 - (lg_sl ([.ref t0, .int ot])).length) Slot.unset).toArray = ls at hl ⊢
  have hl : lv_has ls 4 [(0, .ref t0), (1, .int ot)] := hl
  refine lv_iconst (v := 0) hx hb d_Terms_hadByAllFor_0 (by decide) ?_
  refine lv_istore_n (lv' := [(2, .int 0), (0, .ref t0), (1, .int ot)]) hx hb d_Terms_hadByAllFor_1 rfl hl (by decide) rfl (fun ls hl => ?_)
  refine lv_iconst (v := 0) hx hb d_Terms_hadByAllFor_2 (by decide) ?_
  refine lv_istore_n (lv' := [(3, .int 0), (2, .int 0), (0, .ref t0), (1, .int ot)]) hx hb d_Terms_hadByAllFor_3 rfl hl (by decide) rfl (fun ls hl => ?_)
  exact lp_Terms_hadByAllFor l dC dI cI cJ t0 t1 t2 K tp to a0 a1 a2 a3 n sz care bits had ot hK1 hp hx hb hr hts hown hlocks hml hP hK (K + 1) 0 (by omega) (Nat.zero_le _) ls (lv_sub hl [2, 3, 1, 0] rfl)
end
section
/-! ===== Terms, Cubes: the methods that write, without a loop ===== -/
abbrev at_w (dC : Nat → ClassId) (dI : Nat → Nat → Nat) (cI cJ : ClassId) (A : Nat → Prop) (ws : va_W) (t : State) : Prop := va_P (dC, dI) classes ws t.heap ∧ va_K (dC, dI) classes [(cI, .int), (cJ, .long)] t ∧ va_D A ws
theorem upd_id {f : Nat → Int32} {k : Nat} {x : Int32} (h : f k = x) : upd f k x = f := by
  funext j
  simp only [upd]
  split
  · next h1 => subst h1; exact h.symm
  · rfl
set_option maxHeartbeats 4000000 in
set_option maxRecDepth 100000 in
theorem c_Terms_dropAll (l : Launch) (dC : Nat → ClassId) (dI : Nat → Nat → Nat) (cI cJ : ClassId) (sz0 : Nat) (t0 : Nat) (t1 : Nat) (t2 : Nat) (K : Nat) (tp : Nat → Int32) (to : Nat → Int32) (a0 : Nat) : Met l y_Terms_dropAll (ct y_Terms_dropAll b_Terms_dropAll 1 (none)) ({ frames := 0, cells := 0, slots := 0, locals := 0 }) (va_Pc [.ref t0] (fun U => U.heap.size = sz0 ∧ va_P (dC, dI) classes [(t0, .inr (6, [.ref a0, .ref t1, .ref t2, .int ((nI K))])), (t1, .inl (cI, 81, .inl tp)), (t2, .inl (cI, 81, .inl to))] U.heap ∧ va_K (dC, dI) classes [(cI, .int), (cJ, .long)] U ∧ va_D (fun _ => True) [(t0, .inr (6, [.ref a0, .ref t1, .ref t2, .int ((nI K))])), (t1, .inl (cI, 81, .inl tp)), (t2, .inl (cI, 81, .inl to))])) (va_Qv (fun _ : Unit => True) (fun _ => at_w dC dI cI cJ (va_A [(t0, .inr (6, [.ref a0, .ref t1, .ref t2, .int ((nI K))])), (t1, .inl (cI, 81, .inl tp)), (t2, .inl (cI, 81, .inl to))] sz0) [(t0, .inr (6, [.ref a0, .ref t1, .ref t2, .int 0])), (t1, .inl (cI, 81, .inl tp)), (t2, .inl (cI, 81, .inl to))]) (va_A [(t0, .inr (6, [.ref a0, .ref t1, .ref t2, .int ((nI K))])), (t1, .inl (cI, 81, .inl tp)), (t2, .inl (cI, 81, .inl to))] sz0)) 0 0 (va_A [(t0, .inr (6, [.ref a0, .ref t1, .ref t2, .int ((nI K))])), (t1, .inl (cI, 81, .inl tp)), (t2, .inl (cI, 81, .inl to))] sz0) := by
  refine Met.ofW (cc := b_Terms_dropAll) (maxL := 1) (ret := none) (by decide) rfl ?_
  intro p e s m args below meth c s₁ B hml hv
  obtain ⟨rfl, hsz, hP, hK, hD0⟩ := hv
  have hx := B.exec
  have hb := B.bytes
  have hr := B.returns
  have hts : ∀ w ∈ lwg, w.before _ s = true := fun w h => atoms_spec (ws := ct y_Terms_dropAll b_Terms_dropAll 1 (none)) B.pre w (List.mem_cons_of_mem _ h)
  have hown : s.vm.findClass R_Terms = some m.cls := findClass_of_methodNamed B.named
  have hlocks := B.notSynchronized
  subst hsz
  have hD := hD0.self (sz := s.heap.size)
  generalize hAe : va_A [(t0, .inr (6, [.ref a0, .ref t1, .ref t2, .int ((nI K))])), (t1, .inl (cI, 81, .inl tp)), (t2, .inl (cI, 81, .inl to))] s.heap.size = A at hD ⊢
  have hA : ∀ q : Nat, s.heap.size ≤ q → A q := fun q h => by rw [← hAe]; exact Or.inr h
  have hS : va_S A s.heap s.heap [] := va_S.rf
  have hl := lv_entry ([.ref t0]) (n := 1) (Nat.le_of_ble_eq_true rfl)
  rw [lg_entry_eq]
  generalize (lg_sl ([.ref t0]) ++ List.replicate (1 - (lg_sl ([.ref t0])).length) Slot.unset).toArray = ls at hl ⊢
  have hl : lv_has ls 1 [(0, .ref t0)] := hl
  have hP : va_P (dC, dI) classes [(t0, .inr (6, [.ref a0, .ref t1, .ref t2, .int ((nI K))])), (t1, .inl (cI, 81, .inl tp)), (t2, .inl (cI, 81, .inl to))] s.heap := hP
  refine lv_aload_n hx hb d_Terms_dropAll_0 rfl (lv_at hl 0 rfl) ?_
  refine lv_iconst (v := 0) hx hb d_Terms_dropAll_1 (by decide) ?_
  refine va_put (D := (dC, dI)) (ci := 6) (v := .int 0) (ty := .int) (C := R_Terms) (T := F_Terms) (N := 4) hx hb hts i_Terms t_Terms t_Terms_ok n_Terms hown hK hP hD hS 0 rfl rfl 3 (by decide) (hts _ mw_fl_Terms_22) (fun _ h9 => h9) rfl (by decide +kernel) rfl rfl (Nat.le_of_ble_eq_true rfl) d_Terms_dropAll_2 (fun H locs hP hD hS => ?_)
  have hP : va_P (dC, dI) classes [(t0, .inr (6, [.ref a0, .ref t1, .ref t2, .int 0])), (t1, .inl (cI, 81, .inl tp)), (t2, .inl (cI, 81, .inl to))] H := hP
  have hD : va_D A [(t0, .inr (6, [.ref a0, .ref t1, .ref t2, .int 0])), (t1, .inl (cI, 81, .inl tp)), (t2, .inl (cI, 81, .inl to))] := hD
  have hP9 := hP.sub (ws' := [(t0, .inr (6, [.ref a0, .ref t1, .ref t2, .int 0])), (t1, .inl (cI, 81, .inl tp)), (t2, .inl (cI, 81, .inl to))]) [0, 1, 2] rfl
  have hD9 := hD.sub (ws' := [(t0, .inr (6, [.ref a0, .ref t1, .ref t2, .int 0])), (t1, .inl (cI, 81, .inl tp)), (t2, .inl (cI, 81, .inl to))]) [0, 1, 2] (by decide) rfl
  exact W.vret hx hb hr (fun t ht hW => ⟨⟨(), rfl, trivial, by rw [ht]; exact hP9, va_K.moved hW.alike hK, hD9⟩, hS.F ht⟩) hS.2.2 d_Terms_dropAll_5
set_option maxHeartbeats 4000000 in
set_option maxRecDepth 100000 in
theorem c_Terms_add (l : Launch) (dC : Nat → ClassId) (dI : Nat → Nat → Nat) (cI cJ : ClassId) (sz0 : Nat) (t0 : Nat) (t1 : Nat) (t2 : Nat) (K : Nat) (tp : Nat → Int32) (to : Nat → Int32) (a0 : Nat) (x : Int32) (y : Int32) (hK1 : K < 81) : Met l y_Terms_add (ct y_Terms_add b_Terms_add 3 (none)) ({ frames := 0, cells := 0, slots := 0, locals := 0 }) (va_Pc [.ref t0, .int x, .int y] (fun U => U.heap.size = sz0 ∧ va_P (dC, dI) classes [(t0, .inr (6, [.ref a0, .ref t1, .ref t2, .int ((nI K))])), (t1, .inl (cI, 81, .inl tp)), (t2, .inl (cI, 81, .inl to))] U.heap ∧ va_K (dC, dI) classes [(cI, .int), (cJ, .long)] U ∧ va_D (fun _ => True) [(t0, .inr (6, [.ref a0, .ref t1, .ref t2, .int ((nI K))])), (t1, .inl (cI, 81, .inl tp)), (t2, .inl (cI, 81, .inl to))])) (va_Qv (fun _ : Unit => True) (fun _ => at_w dC dI cI cJ (va_A [(t0, .inr (6, [.ref a0, .ref t1, .ref t2, .int ((nI K))])), (t1, .inl (cI, 81, .inl tp)), (t2, .inl (cI, 81, .inl to))] sz0) [(t0, .inr (6, [.ref a0, .ref t1, .ref t2, .int ((nI (K + 1)))])), (t1, .inl (cI, 81, .inl ((upd tp K x)))), (t2, .inl (cI, 81, .inl ((upd to K y))))]) (va_A [(t0, .inr (6, [.ref a0, .ref t1, .ref t2, .int ((nI K))])), (t1, .inl (cI, 81, .inl tp)), (t2, .inl (cI, 81, .inl to))] sz0)) 0 0 (va_A [(t0, .inr (6, [.ref a0, .ref t1, .ref t2, .int ((nI K))])), (t1, .inl (cI, 81, .inl tp)), (t2, .inl (cI, 81, .inl to))] sz0) := by
  refine Met.ofW (cc := b_Terms_add) (maxL := 3) (ret := none) (by decide) rfl ?_
  intro p e s m args below meth c s₁ B hml hv
  obtain ⟨rfl, hsz, hP, hK, hD0⟩ := hv
  have hx := B.exec
  have hb := B.bytes
  have hr := B.returns
  have hts : ∀ w ∈ lwg, w.before _ s = true := fun w h => atoms_spec (ws := ct y_Terms_add b_Terms_add 3 (none)) B.pre w (List.mem_cons_of_mem _ h)
  have hown : s.vm.findClass R_Terms = some m.cls := findClass_of_methodNamed B.named
  have hlocks := B.notSynchronized
  subst hsz
  have hD := hD0.self (sz := s.heap.size)
  generalize hAe : va_A [(t0, .inr (6, [.ref a0, .ref t1, .ref t2, .int ((nI K))])), (t1, .inl (cI, 81, .inl tp)), (t2, .inl (cI, 81, .inl to))] s.heap.size = A at hD ⊢
  have hA : ∀ q : Nat, s.heap.size ≤ q → A q := fun q h => by rw [← hAe]; exact Or.inr h
  have hS : va_S A s.heap s.heap [] := va_S.rf
  have hl := lv_entry ([.ref t0, .int x, .int y]) (n := 3) (Nat.le_of_ble_eq_true rfl)
  rw [lg_entry_eq]
  generalize (lg_sl ([.ref t0, .int x, .int y]) ++ List.replicate (3 - (lg_sl ([.ref t0, .int x, .int y])).length) Slot.unset).toArray = ls at hl ⊢
  have hl : lv_has ls 3 [(0, .ref t0), (1, .int x), (2, .int y)] := hl
  have hP : va_P (dC, dI) classes [(t0, .inr (6, [.ref a0, .ref t1, .ref t2, .int ((nI K))])), (t1, .inl (cI, 81, .inl tp)), (t2, .inl (cI, 81, .inl to))] s.heap := hP
  refine lv_aload_n hx hb d_Terms_add_0 rfl (lv_at hl 0 rfl) ?_
  refine va_get (D := (dC, dI)) (ci := 6) (v := .int ((nI K))) (C := R_Terms) (T := F_Terms) (N := 4) hx hb hts i_Terms hown hK hP 0 rfl rfl 3 (by decide) (hts _ mw_fl_Terms_22) (fun _ h9 => h9) rfl d_Terms_add_1 ?_
  refine lv_bipush (v := 81) hx hb d_Terms_add_4 (by decide) ?_
  refine lv_icmp_ge (tgt := 39) hx hb d_Terms_add_6 (by decide) (fun c_6 => ?_) (fun c_6 => ?_)
  · exact absurd ((nI_leI (a := 81) (b := K) (by omega) (by omega)).mp c_6) (by omega)
  · refine lv_aload_n hx hb d_Terms_add_9 rfl (lv_at hl 0 rfl) ?_
    refine va_get (D := (dC, dI)) (ci := 6) (v := .ref t1) (C := R_Terms) (T := F_Terms) (N := 4) hx hb hts i_Terms hown hK hP 0 rfl rfl 1 (by decide) (hts _ mw_fl_Terms_9) (fun _ h9 => h9) rfl d_Terms_add_10 ?_
    refine lv_aload_n hx hb d_Terms_add_13 rfl (lv_at hl 0 rfl) ?_
    refine va_get (D := (dC, dI)) (ci := 6) (v := .int ((nI K))) (C := R_Terms) (T := F_Terms) (N := 4) hx hb hts i_Terms hown hK hP 0 rfl rfl 3 (by decide) (hts _ mw_fl_Terms_22) (fun _ h9 => h9) rfl d_Terms_add_14 ?_
    refine lv_iload_n hx hb d_Terms_add_17 rfl (lv_at hl 1 rfl) ?_
    refine va_iast hx hb hK hP hD hS 1 0 rfl rfl (vp_in_nI hK1 (by omega)) d_Terms_add_18 (fun H locs hP hD hS => ?_)
    have hP : va_P (dC, dI) classes [(t0, .inr (6, [.ref a0, .ref t1, .ref t2, .int ((nI K))])), (t1, .inl (cI, 81, .inl ((upd tp (nI K).toNatClampNeg x)))), (t2, .inl (cI, 81, .inl to))] H := hP
    have hD : va_D A [(t0, .inr (6, [.ref a0, .ref t1, .ref t2, .int ((nI K))])), (t1, .inl (cI, 81, .inl ((upd tp (nI K).toNatClampNeg x)))), (t2, .inl (cI, 81, .inl to))] := hD
    rw [show (nI K).toNatClampNeg = K from nI_clamp (by omega)] at hP hD
    refine lv_aload_n hx hb d_Terms_add_19 rfl (lv_at hl 0 rfl) ?_
    refine va_get (D := (dC, dI)) (ci := 6) (v := .ref t2) (C := R_Terms) (T := F_Terms) (N := 4) hx hb hts i_Terms hown hK hP 0 rfl rfl 2 (by decide) (hts _ mw_fl_Terms_15) (fun _ h9 => h9) rfl d_Terms_add_20 ?_
    refine lv_aload_n hx hb d_Terms_add_23 rfl (lv_at hl 0 rfl) ?_
    refine va_get (D := (dC, dI)) (ci := 6) (v := .int ((nI K))) (C := R_Terms) (T := F_Terms) (N := 4) hx hb hts i_Terms hown hK hP 0 rfl rfl 3 (by decide) (hts _ mw_fl_Terms_22) (fun _ h9 => h9) rfl d_Terms_add_24 ?_
    refine lv_iload_n hx hb d_Terms_add_27 rfl (lv_at hl 2 rfl) ?_
    refine va_iast hx hb hK hP hD hS 2 0 rfl rfl (vp_in_nI hK1 (by omega)) d_Terms_add_28 (fun H locs hP hD hS => ?_)
    have hP : va_P (dC, dI) classes [(t0, .inr (6, [.ref a0, .ref t1, .ref t2, .int ((nI K))])), (t1, .inl (cI, 81, .inl ((upd tp K x)))), (t2, .inl (cI, 81, .inl ((upd to (nI K).toNatClampNeg y))))] H := hP
    have hD : va_D A [(t0, .inr (6, [.ref a0, .ref t1, .ref t2, .int ((nI K))])), (t1, .inl (cI, 81, .inl ((upd tp K x)))), (t2, .inl (cI, 81, .inl ((upd to (nI K).toNatClampNeg y))))] := hD
    rw [show (nI K).toNatClampNeg = K from nI_clamp (by omega)] at hP hD
    refine lv_aload_n hx hb d_Terms_add_29 rfl (lv_at hl 0 rfl) ?_
    refine lv_dup hx hb d_Terms_add_30 rfl ?_
    refine va_get (D := (dC, dI)) (ci := 6) (v := .int ((nI K))) (C := R_Terms) (T := F_Terms) (N := 4) hx hb hts i_Terms hown hK hP 0 rfl rfl 3 (by decide) (hts _ mw_fl_Terms_22) (fun _ h9 => h9) rfl d_Terms_add_31 ?_
    refine lv_iconst (v := 1) hx hb d_Terms_add_34 (by decide) ?_
    refine lv_iadd hx hb d_Terms_add_35 ?_
    refine w_ti (show _ = nI (K + 1) from nI_1 K) ?_
    refine va_put (D := (dC, dI)) (ci := 6) (v := .int ((nI (K + 1)))) (ty := .int) (C := R_Terms) (T := F_Terms) (N := 4) hx hb hts i_Terms t_Terms t_Terms_ok n_Terms hown hK hP hD hS 0 rfl rfl 3 (by decide) (hts _ mw_fl_Terms_22) (fun _ h9 => h9) rfl (by decide +kernel) rfl rfl (Nat.le_of_ble_eq_true rfl) d_Terms_add_36 (fun H locs hP hD hS => ?_)
    have hP : va_P (dC, dI) classes [(t0, .inr (6, [.ref a0, .ref t1, .ref t2, .int ((nI (K + 1)))])), (t1, .inl (cI, 81, .inl ((upd tp K x)))), (t2, .inl (cI, 81, .inl ((upd to K y))))] H := hP
    have hD : va_D A [(t0, .inr (6, [.ref a0, .ref t1, .ref t2, .int ((nI (K + 1)))])), (t1, .inl (cI, 81, .inl ((upd tp K x)))), (t2, .inl (cI, 81, .inl ((upd to K y))))] := hD
    have hP9 := hP.sub (ws' := [(t0, .inr (6, [.ref a0, .ref t1, .ref t2, .int ((nI (K + 1)))])), (t1, .inl (cI, 81, .inl ((upd tp K x)))), (t2, .inl (cI, 81, .inl ((upd to K y))))]) [0, 1, 2] rfl
    have hD9 := hD.sub (ws' := [(t0, .inr (6, [.ref a0, .ref t1, .ref t2, .int ((nI (K + 1)))])), (t1, .inl (cI, 81, .inl ((upd tp K x)))), (t2, .inl (cI, 81, .inl ((upd to K y))))]) [0, 1, 2] (by decide) rfl
    exact W.vret hx hb hr (fun t ht hW => ⟨⟨(), rfl, trivial, by rw [ht]; exact hP9, va_K.moved hW.alike hK, hD9⟩, hS.F ht⟩) hS.2.2 d_Terms_add_39
set_option maxHeartbeats 4000000 in
set_option maxRecDepth 100000 in
theorem c_Cubes_dropAll (l : Launch) (dC : Nat → ClassId) (dI : Nat → Nat → Nat) (cI cJ : ClassId) (sz0 : Nat) (b0 : Nat) (b1 : Nat) (b2 : Nat) (M : Nat) (o : Int32) (prod : Nat → Int32) (kind : Nat → Int32) (a0 : Nat) : Met l y_Cubes_dropAll (ct y_Cubes_dropAll b_Cubes_dropAll 1 (none)) ({ frames := 0, cells := 0, slots := 0, locals := 0 }) (va_Pc [.ref b0] (fun U => U.heap.size = sz0 ∧ va_P (dC, dI) classes [(b0, .inr (1, [.ref a0, .int o, .ref b1, .ref b2, .int ((nI M))])), (b1, .inl (cI, 24, .inl prod)), (b2, .inl (cI, 48, .inl kind))] U.heap ∧ va_K (dC, dI) classes [(cI, .int), (cJ, .long)] U ∧ va_D (fun _ => True) [(b0, .inr (1, [.ref a0, .int o, .ref b1, .ref b2, .int ((nI M))])), (b1, .inl (cI, 24, .inl prod)), (b2, .inl (cI, 48, .inl kind))])) (va_Qv (fun _ : Unit => True) (fun _ => at_w dC dI cI cJ (va_A [(b0, .inr (1, [.ref a0, .int o, .ref b1, .ref b2, .int ((nI M))])), (b1, .inl (cI, 24, .inl prod)), (b2, .inl (cI, 48, .inl kind))] sz0) [(b0, .inr (1, [.ref a0, .int o, .ref b1, .ref b2, .int 0])), (b1, .inl (cI, 24, .inl prod)), (b2, .inl (cI, 48, .inl kind))]) (va_A [(b0, .inr (1, [.ref a0, .int o, .ref b1, .ref b2, .int ((nI M))])), (b1, .inl (cI, 24, .inl prod)), (b2, .inl (cI, 48, .inl kind))] sz0)) 0 0 (va_A [(b0, .inr (1, [.ref a0, .int o, .ref b1, .ref b2, .int ((nI M))])), (b1, .inl (cI, 24, .inl prod)), (b2, .inl (cI, 48, .inl kind))] sz0) := by
  refine Met.ofW (cc := b_Cubes_dropAll) (maxL := 1) (ret := none) (by decide) rfl ?_
  intro p e s m args below meth c s₁ B hml hv
  obtain ⟨rfl, hsz, hP, hK, hD0⟩ := hv
  have hx := B.exec
  have hb := B.bytes
  have hr := B.returns
  have hts : ∀ w ∈ lwg, w.before _ s = true := fun w h => atoms_spec (ws := ct y_Cubes_dropAll b_Cubes_dropAll 1 (none)) B.pre w (List.mem_cons_of_mem _ h)
  have hown : s.vm.findClass R_Cubes = some m.cls := findClass_of_methodNamed B.named
  have hlocks := B.notSynchronized
  subst hsz
  have hD := hD0.self (sz := s.heap.size)
  generalize hAe : va_A [(b0, .inr (1, [.ref a0, .int o, .ref b1, .ref b2, .int ((nI M))])), (b1, .inl (cI, 24, .inl prod)), (b2, .inl (cI, 48, .inl kind))] s.heap.size = A at hD ⊢
  have hA : ∀ q : Nat, s.heap.size ≤ q → A q := fun q h => by rw [← hAe]; exact Or.inr h
  have hS : va_S A s.heap s.heap [] := va_S.rf
  have hl := lv_entry ([.ref b0]) (n := 1) (Nat.le_of_ble_eq_true rfl)
  rw [lg_entry_eq]
  generalize (lg_sl ([.ref b0]) ++ List.replicate (1 - (lg_sl ([.ref b0])).length) Slot.unset).toArray = ls at hl ⊢
  have hl : lv_has ls 1 [(0, .ref b0)] := hl
  have hP : va_P (dC, dI) classes [(b0, .inr (1, [.ref a0, .int o, .ref b1, .ref b2, .int ((nI M))])), (b1, .inl (cI, 24, .inl prod)), (b2, .inl (cI, 48, .inl kind))] s.heap := hP
  refine lv_aload_n hx hb d_Cubes_dropAll_0 rfl (lv_at hl 0 rfl) ?_
  refine lv_iconst (v := 0) hx hb d_Cubes_dropAll_1 (by decide) ?_
  refine va_put (D := (dC, dI)) (ci := 1) (v := .int 0) (ty := .int) (C := R_Cubes) (T := F_Cubes) (N := 5) hx hb hts i_Cubes t_Cubes t_Cubes_ok n_Cubes hown hK hP hD hS 0 rfl rfl 4 (by decide) (hts _ mw_fl_Cubes_26) (fun _ h9 => h9) rfl (by decide +kernel) rfl rfl (Nat.le_of_ble_eq_true rfl) d_Cubes_dropAll_2 (fun H locs hP hD hS => ?_)
  have hP : va_P (dC, dI) classes [(b0, .inr (1, [.ref a0, .int o, .ref b1, .ref b2, .int 0])), (b1, .inl (cI, 24, .inl prod)), (b2, .inl (cI, 48, .inl kind))] H := hP
  have hD : va_D A [(b0, .inr (1, [.ref a0, .int o, .ref b1, .ref b2, .int 0])), (b1, .inl (cI, 24, .inl prod)), (b2, .inl (cI, 48, .inl kind))] := hD
  have hP9 := hP.sub (ws' := [(b0, .inr (1, [.ref a0, .int o, .ref b1, .ref b2, .int 0])), (b1, .inl (cI, 24, .inl prod)), (b2, .inl (cI, 48, .inl kind))]) [0, 1, 2] rfl
  have hD9 := hD.sub (ws' := [(b0, .inr (1, [.ref a0, .int o, .ref b1, .ref b2, .int 0])), (b1, .inl (cI, 24, .inl prod)), (b2, .inl (cI, 48, .inl kind))]) [0, 1, 2] (by decide) rfl
  exact W.vret hx hb hr (fun t ht hW => ⟨⟨(), rfl, trivial, by rw [ht]; exact hP9, va_K.moved hW.alike hK, hD9⟩, hS.F ht⟩) hS.2.2 d_Cubes_dropAll_5
set_option maxHeartbeats 4000000 in
set_option maxRecDepth 100000 in
theorem c_Cubes_setKind (l : Launch) (dC : Nat → ClassId) (dI : Nat → Nat → Nat) (cI cJ : ClassId) (sz0 : Nat) (b0 : Nat) (b1 : Nat) (b2 : Nat) (M : Nat) (o : Int32) (prod : Nat → Int32) (kind : Nat → Int32) (a0 : Nat) (C : Nat) (O : Nat) (kd : Int32) (hC : C < 24) (hO : O < 2) : Met l y_Cubes_setKind (ct y_Cubes_setKind b_Cubes_setKind 5 (some .boolean)) ({ frames := 0, cells := 0, slots := 0, locals := 0 }) (va_Pc [.ref b0, .int ((nI C)), .int ((nI O)), .int kd] (fun U => U.heap.size = sz0 ∧ va_P (dC, dI) classes [(b0, .inr (1, [.ref a0, .int o, .ref b1, .ref b2, .int ((nI M))])), (b1, .inl (cI, 24, .inl prod)), (b2, .inl (cI, 48, .inl kind))] U.heap ∧ va_K (dC, dI) classes [(cI, .int), (cJ, .long)] U ∧ va_D (fun _ => True) [(b0, .inr (1, [.ref a0, .int o, .ref b1, .ref b2, .int ((nI M))])), (b1, .inl (cI, 24, .inl prod)), (b2, .inl (cI, 48, .inl kind))])) (va_Qi (fun (r : Int32) (_ : Unit) => r = if kind (C * 2 + O) = kd then 0 else 1) (fun _ => at_w dC dI cI cJ (va_A [(b0, .inr (1, [.ref a0, .int o, .ref b1, .ref b2, .int ((nI M))])), (b1, .inl (cI, 24, .inl prod)), (b2, .inl (cI, 48, .inl kind))] sz0) [(b0, .inr (1, [.ref a0, .int o, .ref b1, .ref b2, .int ((nI M))])), (b1, .inl (cI, 24, .inl prod)), (b2, .inl (cI, 48, .inl ((upd kind (C * 2 + O) kd))))]) (va_A [(b0, .inr (1, [.ref a0, .int o, .ref b1, .ref b2, .int ((nI M))])), (b1, .inl (cI, 24, .inl prod)), (b2, .inl (cI, 48, .inl kind))] sz0)) 0 0 (va_A [(b0, .inr (1, [.ref a0, .int o, .ref b1, .ref b2, .int ((nI M))])), (b1, .inl (cI, 24, .inl prod)), (b2, .inl (cI, 48, .inl kind))] sz0) := by
  refine Met.ofW (cc := b_Cubes_setKind) (maxL := 5) (ret := some .boolean) (by decide) rfl ?_
  intro p e s m args below meth c s₁ B hml hv
  obtain ⟨rfl, hsz, hP, hK, hD0⟩ := hv
  have hx := B.exec
  have hb := B.bytes
  have hr := B.returns
  have hts : ∀ w ∈ lwg, w.before _ s = true := fun w h => atoms_spec (ws := ct y_Cubes_setKind b_Cubes_setKind 5 (some .boolean)) B.pre w (List.mem_cons_of_mem _ h)
  have hown : s.vm.findClass R_Cubes = some m.cls := findClass_of_methodNamed B.named
  have hlocks := B.notSynchronized
  subst hsz
  have hD := hD0.self (sz := s.heap.size)
  generalize hAe : va_A [(b0, .inr (1, [.ref a0, .int o, .ref b1, .ref b2, .int ((nI M))])), (b1, .inl (cI, 24, .inl prod)), (b2, .inl (cI, 48, .inl kind))] s.heap.size = A at hD ⊢
  have hA : ∀ q : Nat, s.heap.size ≤ q → A q := fun q h => by rw [← hAe]; exact Or.inr h
  have hS : va_S A s.heap s.heap [] := va_S.rf
  have hl := lv_entry ([.ref b0, .int ((nI C)), .int ((nI O)), .int kd]) (n := 5) (Nat.le_of_ble_eq_true rfl)
  rw [lg_entry_eq]
  generalize (lg_sl ([.ref b0, .int ((nI C)), .int ((nI O)), .int kd]) ++ List.replicate (5 - (lg_sl ([.ref b0, .int ((nI C)), .int ((nI O)), .int kd])).length) Slot.unset).toArray = ls at hl ⊢
  have hl : lv_has ls 5 [(0, .ref b0), (1, .int ((nI C))), (2, .int ((nI O))), (3, .int kd)] := hl
  have hP : va_P (dC, dI) classes [(b0, .inr (1, [.ref a0, .int o, .ref b1, .ref b2, .int ((nI M))])), (b1, .inl (cI, 24, .inl prod)), (b2, .inl (cI, 48, .inl kind))] s.heap := hP
  refine lv_iload_n hx hb d_Cubes_setKind_0 rfl (lv_at hl 1 rfl) ?_
  refine lv_iconst (v := 2) hx hb d_Cubes_setKind_1 (by decide) ?_
  refine lv_imul hx hb d_Cubes_setKind_2 ?_
  refine lv_iload_n hx hb d_Cubes_setKind_3 rfl (lv_at hl 2 rfl) ?_
  refine lv_iadd hx hb d_Cubes_setKind_4 ?_
  refine w_ti (show _ = nI (C * 2 + O) from nI_m2 C O) ?_
  refine lv_istore (lv' := [(4, .int ((nI (C * 2 + O)))), (0, .ref b0), (1, .int ((nI C))), (2, .int ((nI O))), (3, .int kd)]) hx hb d_Cubes_setKind_5 hl (by decide) rfl (fun ls hl => ?_)
  refine lv_aload_n hx hb d_Cubes_setKind_7 rfl (lv_at hl 1 rfl) ?_
  refine va_get (D := (dC, dI)) (ci := 1) (v := .ref b2) (C := R_Cubes) (T := F_Cubes) (N := 5) hx hb hts i_Cubes hown hK hP 0 rfl rfl 3 (by decide) (hts _ mw_fl_Cubes_15) (fun _ h9 => h9) rfl d_Cubes_setKind_8 ?_
  refine lv_iload hx hb d_Cubes_setKind_11 (lv_at hl 0 rfl) ?_
  refine va_iald hx hb hK hP 2 0 rfl rfl (vp_in_nI (show C * 2 + O < 48 by omega) (by omega)) d_Cubes_setKind_13 ?_
  refine w_ti (show _ = kind (C * 2 + O) from by rw [nI_clamp (by omega)]) ?_
  refine lv_iload_n hx hb d_Cubes_setKind_14 rfl (lv_at hl 4 rfl) ?_
  refine lv_icmp_ne (tgt := 20) hx hb d_Cubes_setKind_15 (by decide) (fun c_15 => ?_) (fun c_15 => ?_)
  · refine lv_aload_n hx hb d_Cubes_setKind_20 rfl (lv_at hl 1 rfl) ?_
    refine va_get (D := (dC, dI)) (ci := 1) (v := .ref b2) (C := R_Cubes) (T := F_Cubes) (N := 5) hx hb hts i_Cubes hown hK hP 0 rfl rfl 3 (by decide) (hts _ mw_fl_Cubes_15) (fun _ h9 => h9) rfl d_Cubes_setKind_21 ?_
    refine lv_iload hx hb d_Cubes_setKind_24 (lv_at hl 0 rfl) ?_
    refine lv_iload_n hx hb d_Cubes_setKind_26 rfl (lv_at hl 4 rfl) ?_
    refine va_iast hx hb hK hP hD hS 2 0 rfl rfl (vp_in_nI (show C * 2 + O < 48 by omega) (by omega)) d_Cubes_setKind_27 (fun H locs hP hD hS => ?_)
    have hP : va_P (dC, dI) classes [(b0, .inr (1, [.ref a0, .int o, .ref b1, .ref b2, .int ((nI M))])), (b1, .inl (cI, 24, .inl prod)), (b2, .inl (cI, 48, .inl ((upd kind (nI (C * 2 + O)).toNatClampNeg kd))))] H := hP
    have hD : va_D A [(b0, .inr (1, [.ref a0, .int o, .ref b1, .ref b2, .int ((nI M))])), (b1, .inl (cI, 24, .inl prod)), (b2, .inl (cI, 48, .inl ((upd kind (nI (C * 2 + O)).toNatClampNeg kd))))] := hD
    rw [show (nI (C * 2 + O)).toNatClampNeg = C * 2 + O from nI_clamp (by omega)] at hP hD
    refine lv_iconst (v := 1) hx hb d_Cubes_setKind_28 (by decide) ?_
    have hP9 := hP.sub (ws' := [(b0, .inr (1, [.ref a0, .int o, .ref b1, .ref b2, .int ((nI M))])), (b1, .inl (cI, 24, .inl prod)), (b2, .inl (cI, 48, .inl ((upd kind (C * 2 + O) kd))))]) [0, 1, 2] rfl
    have hD9 := hD.sub (ws' := [(b0, .inr (1, [.ref a0, .int o, .ref b1, .ref b2, .int ((nI M))])), (b1, .inl (cI, 24, .inl prod)), (b2, .inl (cI, 48, .inl ((upd kind (C * 2 + O) kd))))]) [0, 1, 2] (by decide) rfl
    exact W.zret (v := 1) hx hb hr (by decide) (fun t ht hW => ⟨⟨1, (), rfl, by simp [c_15], by rw [ht]; exact hP9, va_K.moved hW.alike hK, hD9⟩, hS.F ht⟩) hS.2.2 d_Cubes_setKind_29
  · refine lv_iconst (v := 0) hx hb d_Cubes_setKind_18 (by decide) ?_
    have hP9 := hP.sub (ws' := [(b0, .inr (1, [.ref a0, .int o, .ref b1, .ref b2, .int ((nI M))])), (b1, .inl (cI, 24, .inl prod)), (b2, .inl (cI, 48, .inl ((upd kind (C * 2 + O) kd))))]) [0, 1, 2] (by rw [upd_id c_15]; rfl)
    have hD9 := hD.sub (ws' := [(b0, .inr (1, [.ref a0, .int o, .ref b1, .ref b2, .int ((nI M))])), (b1, .inl (cI, 24, .inl prod)), (b2, .inl (cI, 48, .inl ((upd kind (C * 2 + O) kd))))]) [0, 1, 2] (by decide) (by rw [upd_id c_15]; rfl)
    exact W.zret (v := 0) hx hb hr (by decide) (fun t ht hW => ⟨⟨0, (), rfl, by simp [c_15], by rw [ht]; exact hP9, va_K.moved hW.alike hK, hD9⟩, hS.F ht⟩) hS.2.2 d_Cubes_setKind_19
set_option maxHeartbeats 4000000 in
set_option maxRecDepth 100000 in
theorem c_Cubes_setDigit (l : Launch) (dC : Nat → ClassId) (dI : Nat → Nat → Nat) (cI cJ : ClassId) (sz0 : Nat) (b0 : Nat) (b1 : Nat) (b2 : Nat) (M : Nat) (o : Int32) (prod : Nat → Int32) (kind : Nat → Int32) (a0 : Nat) (a1 : Nat) (a2 : Nat) (a3 : Nat) (N : Nat) (sz : Int32) (care : Nat → Int32) (bits : Nat → Int32) (had : Nat → Int32) (C : Nat) (i0 : Int32) (d0 : Int32) (hN : N ≤ 4) (hC : C < 24) (hp : vp_in (prod C) 81) : Met l y_Cubes_setDigit (ct y_Cubes_setDigit b_Cubes_setDigit 4 (some .boolean)) ({ frames := 2, cells := 0, slots := 0, locals := 51 }) (va_Pc [.ref b0, .int ((nI C)), .int i0, .int d0] (fun U => U.heap.size = sz0 ∧ va_P (dC, dI) classes [(b0, .inr (1, [.ref a0, .int o, .ref b1, .ref b2, .int ((nI M))])), (b1, .inl (cI, 24, .inl prod)), (b2, .inl (cI, 48, .inl kind)), (a0, .inr (5, [.int ((nI N)), .int sz, .ref a1, .ref a2, .ref a3])), (a1, .inl (cI, 81, .inl care)), (a2, .inl (cI, 81, .inl bits)), (a3, .inl (cI, 81, .inl had))] U.heap ∧ va_K (dC, dI) classes [(cI, .int), (cJ, .long)] U ∧ va_D (fun _ => True) [(b0, .inr (1, [.ref a0, .int o, .ref b1, .ref b2, .int ((nI M))])), (b1, .inl (cI, 24, .inl prod)), (b2, .inl (cI, 48, .inl kind)), (a0, .inr (5, [.int ((nI N)), .int sz, .ref a1, .ref a2, .ref a3])), (a1, .inl (cI, 81, .inl care)), (a2, .inl (cI, 81, .inl bits)), (a3, .inl (cI, 81, .inl had))])) (va_Qi (fun (r : Int32) (_ : Unit) => r = if fDig (care (prod C).toNatClampNeg) (bits (prod C).toNatClampNeg) i0 = d0 then 0 else 1) (fun _ => at_w dC dI cI cJ (va_A [(b0, .inr (1, [.ref a0, .int o, .ref b1, .ref b2, .int ((nI M))])), (b1, .inl (cI, 24, .inl prod)), (b2, .inl (cI, 48, .inl kind)), (a0, .inr (5, [.int ((nI N)), .int sz, .ref a1, .ref a2, .ref a3])), (a1, .inl (cI, 81, .inl care)), (a2, .inl (cI, 81, .inl bits)), (a3, .inl (cI, 81, .inl had))] sz0) [(b0, .inr (1, [.ref a0, .int o, .ref b1, .ref b2, .int ((nI M))])), (b1, .inl (cI, 24, .inl ((if fDig (care (prod C).toNatClampNeg) (bits (prod C).toNatClampNeg) i0 = d0 then prod else upd prod C (fWith N (care (prod C).toNatClampNeg) (bits (prod C).toNatClampNeg) i0 d0))))), (b2, .inl (cI, 48, .inl kind)), (a0, .inr (5, [.int ((nI N)), .int sz, .ref a1, .ref a2, .ref a3])), (a1, .inl (cI, 81, .inl care)), (a2, .inl (cI, 81, .inl bits)), (a3, .inl (cI, 81, .inl had))]) (va_A [(b0, .inr (1, [.ref a0, .int o, .ref b1, .ref b2, .int ((nI M))])), (b1, .inl (cI, 24, .inl prod)), (b2, .inl (cI, 48, .inl kind)), (a0, .inr (5, [.int ((nI N)), .int sz, .ref a1, .ref a2, .ref a3])), (a1, .inl (cI, 81, .inl care)), (a2, .inl (cI, 81, .inl bits)), (a3, .inl (cI, 81, .inl had))] sz0)) 0 0 (va_A [(b0, .inr (1, [.ref a0, .int o, .ref b1, .ref b2, .int ((nI M))])), (b1, .inl (cI, 24, .inl prod)), (b2, .inl (cI, 48, .inl kind)), (a0, .inr (5, [.int ((nI N)), .int sz, .ref a1, .ref a2, .ref a3])), (a1, .inl (cI, 81, .inl care)), (a2, .inl (cI, 81, .inl bits)), (a3, .inl (cI, 81, .inl had))] sz0) := by
  refine Met.ofW (cc := b_Cubes_setDigit) (maxL := 4) (ret := some .boolean) (by decide) rfl ?_
  intro p e s m args below meth c s₁ B hml hv
  obtain ⟨rfl, hsz, hP, hK, hD0⟩ := hv
  have hx := B.exec
  have hb := B.bytes
  have hr := B.returns
  have hts : ∀ w ∈ lwg, w.before _ s = true := fun w h => atoms_spec (ws := ct y_Cubes_setDigit b_Cubes_setDigit 4 (some .boolean)) B.pre w (List.mem_cons_of_mem _ h)
  have hown : s.vm.findClass R_Cubes = some m.cls := findClass_of_methodNamed B.named
  have hlocks := B.notSynchronized
  subst hsz
  have hD := hD0.self (sz := s.heap.size)
  generalize hAe : va_A [(b0, .inr (1, [.ref a0, .int o, .ref b1, .ref b2, .int ((nI M))])), (b1, .inl (cI, 24, .inl prod)), (b2, .inl (cI, 48, .inl kind)), (a0, .inr (5, [.int ((nI N)), .int sz, .ref a1, .ref a2, .ref a3])), (a1, .inl (cI, 81, .inl care)), (a2, .inl (cI, 81, .inl bits)), (a3, .inl (cI, 81, .inl had))] s.heap.size = A at hD ⊢
  have hA : ∀ q : Nat, s.heap.size ≤ q → A q := fun q h => by rw [← hAe]; exact Or.inr h
  have hS : va_S A s.heap s.heap [] := va_S.rf
  have hl := lv_entry ([.ref b0, .int ((nI C)), .int i0, .int d0]) (n := 4) (Nat.le_of_ble_eq_true rfl)
  rw [lg_entry_eq]
  generalize (lg_sl ([.ref b0, .int ((nI C)), .int i0, .int d0]) ++ List.replicate (4 - (lg_sl ([.ref b0, .int ((nI C)), .int i0, .int d0])).length) Slot.unset).toArray = ls at hl ⊢
  have hl : lv_has ls 4 [(0, .ref b0), (1, .int ((nI C))), (2, .int i0), (3, .int d0)] := hl
  have hP : va_P (dC, dI) classes [(b0, .inr (1, [.ref a0, .int o, .ref b1, .ref b2, .int ((nI M))])), (b1, .inl (cI, 24, .inl prod)), (b2, .inl (cI, 48, .inl kind)), (a0, .inr (5, [.int ((nI N)), .int sz, .ref a1, .ref a2, .ref a3])), (a1, .inl (cI, 81, .inl care)), (a2, .inl (cI, 81, .inl bits)), (a3, .inl (cI, 81, .inl had))] s.heap := hP
  refine lv_aload_n hx hb d_Cubes_setDigit_0 rfl (lv_at hl 0 rfl) ?_
  refine va_get (D := (dC, dI)) (ci := 1) (v := .ref a0) (C := R_Cubes) (T := F_Cubes) (N := 5) hx hb hts i_Cubes hown hK hP 0 rfl rfl 0 (by decide) (hts _ mw_fl_Cubes_18) (fun _ h9 => h9) rfl d_Cubes_setDigit_1 ?_
  refine lv_aload_n hx hb d_Cubes_setDigit_4 rfl (lv_at hl 0 rfl) ?_
  refine va_get (D := (dC, dI)) (ci := 1) (v := .ref b1) (C := R_Cubes) (T := F_Cubes) (N := 5) hx hb hts i_Cubes hown hK hP 0 rfl rfl 2 (by decide) (hts _ mw_fl_Cubes_9) (fun _ h9 => h9) rfl d_Cubes_setDigit_5 ?_
  refine lv_iload_n hx hb d_Cubes_setDigit_8 rfl (lv_at hl 1 rfl) ?_
  refine va_iald hx hb hK hP 1 0 rfl rfl (vp_in_nI hC (by omega)) d_Cubes_setDigit_9 ?_
  refine w_ti (show _ = prod C from by rw [nI_clamp (by omega)]) ?_
  refine lv_iload_n hx hb d_Cubes_setDigit_10 rfl (lv_at hl 2 rfl) ?_
  refine vp_callSi (W.runV (As := [.int ((prod C)), .int i0]) (rest := []) ⟨hx, hb, hml, hown, hts⟩ (c_Products_digit l dC dI cI cJ a0 a1 a2 a3 (nI N) sz care bits had (prod C) i0 hp) (cwV 2 hts (ct_goodV mw_ml_Cubes_39 mw_im_Products_digit mw_se_Products_digit mw_ini_Products mw_code_Products_digit) rfl rfl rfl (by decide +kernel) ⟨Nat.le_of_ble_eq_true rfl, Nat.le_of_ble_eq_true rfl⟩) ⟨fun a U g mk q => by obtain ⟨q0, qP, qK⟩ := q; exact ⟨q0, qP, va_K.moved (u := U) (U := U.calling g mk a) (Vm.Alike.refl U.vm) qK⟩, va_recv hK hP (ci := 5) (q0 := 3) rfl rfl, fun U hU hW => ⟨rfl, by rw [hU]; exact (hP.sub (ws' := (wP cI a0 a1 a2 a3 (nI N) sz care bits had)) [3, 4, 5, 6] rfl), va_K.moved hW.alike hK⟩⟩ rfl rfl hl.1 rfl (lv_room (Nat.le_of_ble_eq_true rfl)) d_Cubes_setDigit_11 ⟨Nat.le_of_ble_eq_true rfl, Nat.le_of_ble_eq_true rfl⟩) (fun r_1 hr_1 => ?_)
  rw [hr_1]
  clear hr_1
  refine lv_iload_n hx hb d_Cubes_setDigit_14 rfl (lv_at hl 3 rfl) ?_
  refine lv_icmp_ne (tgt := 20) hx hb d_Cubes_setDigit_15 (by decide) (fun c_15 => ?_) (fun c_15 => ?_)
  · refine lv_aload_n hx hb d_Cubes_setDigit_20 rfl (lv_at hl 0 rfl) ?_
    refine va_get (D := (dC, dI)) (ci := 1) (v := .ref b1) (C := R_Cubes) (T := F_Cubes) (N := 5) hx hb hts i_Cubes hown hK hP 0 rfl rfl 2 (by decide) (hts _ mw_fl_Cubes_9) (fun _ h9 => h9) rfl d_Cubes_setDigit_21 ?_
    refine lv_iload_n hx hb d_Cubes_setDigit_24 rfl (lv_at hl 1 rfl) ?_
    refine lv_aload_n hx hb d_Cubes_setDigit_25 rfl (lv_at hl 0 rfl) ?_
    refine va_get (D := (dC, dI)) (ci := 1) (v := .ref a0) (C := R_Cubes) (T := F_Cubes) (N := 5) hx hb hts i_Cubes hown hK hP 0 rfl rfl 0 (by decide) (hts _ mw_fl_Cubes_18) (fun _ h9 => h9) rfl d_Cubes_setDigit_26 ?_
    refine lv_aload_n hx hb d_Cubes_setDigit_29 rfl (lv_at hl 0 rfl) ?_
    refine va_get (D := (dC, dI)) (ci := 1) (v := .ref b1) (C := R_Cubes) (T := F_Cubes) (N := 5) hx hb hts i_Cubes hown hK hP 0 rfl rfl 2 (by decide) (hts _ mw_fl_Cubes_9) (fun _ h9 => h9) rfl d_Cubes_setDigit_30 ?_
    refine lv_iload_n hx hb d_Cubes_setDigit_33 rfl (lv_at hl 1 rfl) ?_
    refine va_iald hx hb hK hP 1 0 rfl rfl (vp_in_nI hC (by omega)) d_Cubes_setDigit_34 ?_
    refine w_ti (show _ = prod C from by rw [nI_clamp (by omega)]) ?_
    refine lv_iload_n hx hb d_Cubes_setDigit_35 rfl (lv_at hl 2 rfl) ?_
    refine lv_iload_n hx hb d_Cubes_setDigit_36 rfl (lv_at hl 3 rfl) ?_
    refine vp_callSi (W.runV (As := [.int ((prod C)), .int i0, .int d0]) (rest := [.int ((nI C)), .ref b1]) ⟨hx, hb, hml, hown, hts⟩ (c_Products_withDigit l dC dI cI cJ a0 a1 a2 a3 N sz care bits had (prod C) i0 d0 hN hp) (cwV 3 hts (ct_goodV mw_ml_Cubes_43 mw_im_Products_withDigit mw_se_Products_withDigit mw_ini_Products mw_code_Products_withDigit) rfl rfl rfl (by decide +kernel) ⟨Nat.le_of_ble_eq_true rfl, Nat.le_of_ble_eq_true rfl⟩) ⟨fun a U g mk q => by obtain ⟨q0, qP, qK⟩ := q; exact ⟨q0, qP, va_K.moved (u := U) (U := U.calling g mk a) (Vm.Alike.refl U.vm) qK⟩, va_recv hK hP (ci := 5) (q0 := 3) rfl rfl, fun U hU hW => ⟨rfl, by rw [hU]; exact (hP.sub (ws' := (wP cI a0 a1 a2 a3 (nI N) sz care bits had)) [3, 4, 5, 6] rfl), va_K.moved hW.alike hK⟩⟩ rfl rfl hl.1 rfl (lv_room (Nat.le_of_ble_eq_true rfl)) d_Cubes_setDigit_37 ⟨Nat.le_of_ble_eq_true rfl, Nat.le_of_ble_eq_true rfl⟩) (fun r_2 hr_2 => ?_)
    rw [hr_2]
    clear hr_2
    refine va_iast hx hb hK hP hD hS 1 0 rfl rfl (vp_in_nI hC (by omega)) d_Cubes_setDigit_40 (fun H locs hP hD hS => ?_)
    have hP : va_P (dC, dI) classes [(b0, .inr (1, [.ref a0, .int o, .ref b1, .ref b2, .int ((nI M))])), (b1, .inl (cI, 24, .inl ((upd prod (nI C).toNatClampNeg ((fWith N (care (prod C).toNatClampNeg) (bits (prod C).toNatClampNeg) i0 d0)))))), (b2, .inl (cI, 48, .inl kind)), (a0, .inr (5, [.int ((nI N)), .int sz, .ref a1, .ref a2, .ref a3])), (a1, .inl (cI, 81, .inl care)), (a2, .inl (cI, 81, .inl bits)), (a3, .inl (cI, 81, .inl had))] H := hP
    have hD : va_D A [(b0, .inr (1, [.ref a0, .int o, .ref b1, .ref b2, .int ((nI M))])), (b1, .inl (cI, 24, .inl ((upd prod (nI C).toNatClampNeg ((fWith N (care (prod C).toNatClampNeg) (bits (prod C).toNatClampNeg) i0 d0)))))), (b2, .inl (cI, 48, .inl kind)), (a0, .inr (5, [.int ((nI N)), .int sz, .ref a1, .ref a2, .ref a3])), (a1, .inl (cI, 81, .inl care)), (a2, .inl (cI, 81, .inl bits)), (a3, .inl (cI, 81, .inl had))] := hD
    rw [show (nI C).toNatClampNeg = C from nI_clamp (by omega)] at hP hD
    refine lv_iconst (v := 1) hx hb d_Cubes_setDigit_41 (by decide) ?_
    have hP9 := hP.sub (ws' := [(b0, .inr (1, [.ref a0, .int o, .ref b1, .ref b2, .int ((nI M))])), (b1, .inl (cI, 24, .inl ((if fDig (care (prod C).toNatClampNeg) (bits (prod C).toNatClampNeg) i0 = d0 then prod else upd prod C (fWith N (care (prod C).toNatClampNeg) (bits (prod C).toNatClampNeg) i0 d0))))), (b2, .inl (cI, 48, .inl kind)), (a0, .inr (5, [.int ((nI N)), .int sz, .ref a1, .ref a2, .ref a3])), (a1, .inl (cI, 81, .inl care)), (a2, .inl (cI, 81, .inl bits)), (a3, .inl (cI, 81, .inl had))]) [0, 1, 2, 3, 4, 5, 6] (by rw [if_neg c_15]; rfl)
    have hD9 := hD.sub (ws' := [(b0, .inr (1, [.ref a0, .int o, .ref b1, .ref b2, .int ((nI M))])), (b1, .inl (cI, 24, .inl ((if fDig (care (prod C).toNatClampNeg) (bits (prod C).toNatClampNeg) i0 = d0 then prod else upd prod C (fWith N (care (prod C).toNatClampNeg) (bits (prod C).toNatClampNeg) i0 d0))))), (b2, .inl (cI, 48, .inl kind)), (a0, .inr (5, [.int ((nI N)), .int sz, .ref a1, .ref a2, .ref a3])), (a1, .inl (cI, 81, .inl care)), (a2, .inl (cI, 81, .inl bits)), (a3, .inl (cI, 81, .inl had))]) [0, 1, 2, 3, 4, 5, 6] (by decide) (by rw [if_neg c_15]; rfl)
    exact W.zret (v := 1) hx hb hr (by decide) (fun t ht hW => ⟨⟨1, (), rfl, by simp [c_15], by rw [ht]; exact hP9, va_K.moved hW.alike hK, hD9⟩, hS.F ht⟩) hS.2.2 d_Cubes_setDigit_42
  · refine lv_iconst (v := 0) hx hb d_Cubes_setDigit_18 (by decide) ?_
    have hP9 := hP.sub (ws' := [(b0, .inr (1, [.ref a0, .int o, .ref b1, .ref b2, .int ((nI M))])), (b1, .inl (cI, 24, .inl ((if fDig (care (prod C).toNatClampNeg) (bits (prod C).toNatClampNeg) i0 = d0 then prod else upd prod C (fWith N (care (prod C).toNatClampNeg) (bits (prod C).toNatClampNeg) i0 d0))))), (b2, .inl (cI, 48, .inl kind)), (a0, .inr (5, [.int ((nI N)), .int sz, .ref a1, .ref a2, .ref a3])), (a1, .inl (cI, 81, .inl care)), (a2, .inl (cI, 81, .inl bits)), (a3, .inl (cI, 81, .inl had))]) [0, 1, 2, 3, 4, 5, 6] (by rw [if_pos c_15]; rfl)
    have hD9 := hD.sub (ws' := [(b0, .inr (1, [.ref a0, .int o, .ref b1, .ref b2, .int ((nI M))])), (b1, .inl (cI, 24, .inl ((if fDig (care (prod C).toNatClampNeg) (bits (prod C).toNatClampNeg) i0 = d0 then prod else upd prod C (fWith N (care (prod C).toNatClampNeg) (bits (prod C).toNatClampNeg) i0 d0))))), (b2, .inl (cI, 48, .inl kind)), (a0, .inr (5, [.int ((nI N)), .int sz, .ref a1, .ref a2, .ref a3])), (a1, .inl (cI, 81, .inl care)), (a2, .inl (cI, 81, .inl bits)), (a3, .inl (cI, 81, .inl had))]) [0, 1, 2, 3, 4, 5, 6] (by decide) (by rw [if_pos c_15]; rfl)
    exact W.zret (v := 0) hx hb hr (by decide) (fun t ht hW => ⟨⟨0, (), rfl, by simp [c_15], by rw [ht]; exact hP9, va_K.moved hW.alike hK, hD9⟩, hS.F ht⟩) hS.2.2 d_Cubes_setDigit_19
end
section
/-! ===== Cubes.add, Terms.takeFrom ===== -/
/-- the first j kinds of a new cube are NOTHING -/
def fNone (kind : Nat → Int32) (M j : Nat) : Nat → Int32 := itr (fun o f => upd f (M * 2 + o) 0) j kind
set_option maxHeartbeats 4000000 in
set_option maxRecDepth 100000 in
theorem lp_Cubes_add {p : Program} {e : Env} {s : State} {m : MethodId} {args : Array Value} {below : List Frame} {meth : Method} {c : Code} (l : Launch) (dC : Nat → ClassId) (dI : Nat → Nat → Nat) (cI cJ : ClassId) (b0 : Nat) (b1 : Nat) (b2 : Nat) (M : Nat) (OU : Nat) (prod : Nat → Int32) (kind : Nat → Int32) (a0 : Nat) (a1 : Nat) (a2 : Nat) (a3 : Nat) (n : Int32) (sz : Int32) (care : Nat → Int32) (bits : Nat → Int32) (had : Nat → Int32) (hM : M < 24) (hOU : OU ≤ 2) (hx : p.tables.exec = Jvm.exec) (hb : c.code = b_Cubes_add) (hr : meth.sig.returnType = some .int) (hts : ∀ w ∈ lwg, w.before args s = true) (hown : s.vm.findClass R_Cubes = some m.cls) (hlocks : meth.locks = false) (hml : c.maxLocals = 2) (hK : va_K (dC, dI) classes [(cI, .int), (cJ, .long)] s) {A : Nat → Prop} (hA : ∀ q : Nat, s.heap.size ≤ q → A q) : ∀ (k i : Nat), OU - i < k → i ≤ OU → ∀ (H : Heap) (locs : List Loc) (ls : Array Slot), va_P (dC, dI) classes [(b0, .inr (1, [.ref a0, .int ((nI OU)), .ref b1, .ref b2, .int ((nI M))])), (b1, .inl (cI, 24, .inl ((upd prod M (sz - 1))))), (b2, .inl (cI, 48, .inl ((fNone kind M i)))), (a0, .inr (5, [.int n, .int sz, .ref a1, .ref a2, .ref a3])), (a1, .inl (cI, 81, .inl care)), (a2, .inl (cI, 81, .inl bits)), (a3, .inl (cI, 81, .inl had))] H → va_D A [(b0, .inr (1, [.ref a0, .int ((nI OU)), .ref b1, .ref b2, .int ((nI M))])), (b1, .inl (cI, 24, .inl ((upd prod M (sz - 1))))), (b2, .inl (cI, 48, .inl ((fNone kind M i)))), (a0, .inr (5, [.int n, .int sz, .ref a1, .ref a2, .ref a3])), (a1, .inl (cI, 81, .inl care)), (a2, .inl (cI, 81, .inl bits)), (a3, .inl (cI, 81, .inl had))] → va_S A s.heap H locs → lv_has ls 2 [(0, .ref b0), (1, .int ((nI i)))] → W p l e ({ frames := 1, cells := 0, slots := 0, locals := 20 } : Room) s m args below meth c H locs 0 0 (MQ below (va_Qi (fun (r : Int32) (_ : Unit) => r = nI M) (fun _ => at_w dC dI cI cJ A [(b0, .inr (1, [.ref a0, .int ((nI OU)), .ref b1, .ref b2, .int ((nI (M + 1)))])), (b1, .inl (cI, 24, .inl ((upd prod M (sz - 1))))), (b2, .inl (cI, 48, .inl ((fNone kind M OU)))), (a0, .inr (5, [.int n, .int sz, .ref a1, .ref a2, .ref a3])), (a1, .inl (cI, 81, .inl care)), (a2, .inl (cI, 81, .inl bits)), (a3, .inl (cI, 81, .inl had))]) A) args s 0 0 A) (F0 m 27 ls []) := by
  intro k
  induction k with
  | zero => intro i h; omega
  | succ k ih =>
    intro i hk hi H locs ls hP hD hS hl
    refine lv_iload_n hx hb d_Cubes_add_27 rfl (lv_at hl 1 rfl) ?_
    refine lv_aload_n hx hb d_Cubes_add_28 rfl (lv_at hl 0 rfl) ?_
    refine va_get (D := (dC, dI)) (ci := 1) (v := .int ((nI OU))) (C := R_Cubes) (T := F_Cubes) (N := 5) hx hb hts i_Cubes hown hK hP 0 rfl rfl 1 (by decide) (hts _ mw_fl_Cubes_22) (fun _ h9 => h9) rfl d_Cubes_add_29 ?_
    refine lv_icmp_ge (tgt := 55) hx hb d_Cubes_add_32 (by decide) (fun c_32 => ?_) (fun c_32 => ?_)
    · have hE : i = OU := Nat.le_antisymm hi ((nI_leI (by omega) (by omega)).mp c_32)
      refine lv_aload_n hx hb d_Cubes_add_55 rfl (lv_at hl 0 rfl) ?_
      refine lv_dup hx hb d_Cubes_add_56 rfl ?_
      refine va_get (D := (dC, dI)) (ci := 1) (v := .int ((nI M))) (C := R_Cubes) (T := F_Cubes) (N := 5) hx hb hts i_Cubes hown hK hP 0 rfl rfl 4 (by decide) (hts _ mw_fl_Cubes_26) (fun _ h9 => h9) rfl d_Cubes_add_57 ?_
      refine lv_iconst (v := 1) hx hb d_Cubes_add_60 (by decide) ?_
      refine lv_iadd hx hb d_Cubes_add_61 ?_
      refine w_ti (show _ = nI (M + 1) from nI_1 M) ?_
      refine va_put (D := (dC, dI)) (ci := 1) (v := .int ((nI (M + 1)))) (ty := .int) (C := R_Cubes) (T := F_Cubes) (N := 5) hx hb hts i_Cubes t_Cubes t_Cubes_ok n_Cubes hown hK hP hD hS 0 rfl rfl 4 (by decide) (hts _ mw_fl_Cubes_26) (fun _ h9 => h9) rfl (by decide +kernel) rfl rfl (Nat.le_of_ble_eq_true rfl) d_Cubes_add_62 (fun H locs hP hD hS => ?_)
      have hP : va_P (dC, dI) classes [(b0, .inr (1, [.ref a0, .int ((nI OU)), .ref b1, .ref b2, .int ((nI (M + 1)))])), (b1, .inl (cI, 24, .inl ((upd prod M (sz - 1))))), (b2, .inl (cI, 48, .inl ((fNone kind M i)))), (a0, .inr (5, [.int n, .int sz, .ref a1, .ref a2, .ref a3])), (a1, .inl (cI, 81, .inl care)), (a2, .inl (cI, 81, .inl bits)), (a3, .inl (cI, 81, .inl had))] H := hP
      have hD : va_D A [(b0, .inr (1, [.ref a0, .int ((nI OU)), .ref b1, .ref b2, .int ((nI (M + 1)))])), (b1, .inl (cI, 24, .inl ((upd prod M (sz - 1))))), (b2, .inl (cI, 48, .inl ((fNone kind M i)))), (a0, .inr (5, [.int n, .int sz, .ref a1, .ref a2, .ref a3])), (a1, .inl (cI, 81, .inl care)), (a2, .inl (cI, 81, .inl bits)), (a3, .inl (cI, 81, .inl had))] := hD
      refine lv_aload_n hx hb d_Cubes_add_65 rfl (lv_at hl 0 rfl) ?_
      refine va_get (D := (dC, dI)) (ci := 1) (v := .int ((nI (M + 1)))) (C := R_Cubes) (T := F_Cubes) (N := 5) hx hb hts i_Cubes hown hK hP 0 rfl rfl 4 (by decide) (hts _ mw_fl_Cubes_26) (fun _ h9 => h9) rfl d_Cubes_add_66 ?_
      refine lv_iconst (v := 1) hx hb d_Cubes_add_69 (by decide) ?_
      refine lv_isub hx hb d_Cubes_add_70 ?_
      refine w_ti (show _ = nI M from nI_pred M) ?_
      have hP9 := hP.sub (ws' := [(b0, .inr (1, [.ref a0, .int ((nI OU)), .ref b1, .ref b2, .int ((nI (M + 1)))])), (b1, .inl (cI, 24, .inl ((upd prod M (sz - 1))))), (b2, .inl (cI, 48, .inl ((fNone kind M OU)))), (a0, .inr (5, [.int n, .int sz, .ref a1, .ref a2, .ref a3])), (a1, .inl (cI, 81, .inl care)), (a2, .inl (cI, 81, .inl bits)), (a3, .inl (cI, 81, .inl had))]) [0, 1, 2, 3, 4, 5, 6] (by subst hE; rfl)
      have hD9 := hD.sub (ws' := [(b0, .inr (1, [.ref a0, .int ((nI OU)), .ref b1, .ref b2, .int ((nI (M + 1)))])), (b1, .inl (cI, 24, .inl ((upd prod M (sz - 1))))), (b2, .inl (cI, 48, .inl ((fNone kind M OU)))), (a0, .inr (5, [.int n, .int sz, .ref a1, .ref a2, .ref a3])), (a1, .inl (cI, 81, .inl care)), (a2, .inl (cI, 81, .inl bits)), (a3, .inl (cI, 81, .inl had))]) [0, 1, 2, 3, 4, 5, 6] (by decide) (by subst hE; rfl)
      exact W.iret (v := (nI M)) hx hb hr (fun t ht hW => ⟨⟨(nI M), (), rfl, by subst hE; rfl, by rw [ht]; exact hP9, va_K.moved hW.alike hK, hD9⟩, hS.F ht⟩) hS.2.2 d_Cubes_add_71
    · have hlt : i < OU := Nat.lt_of_not_le (fun h => c_32 ((nI_leI (by omega) (by omega)).mpr h))
      refine lv_aload_n hx hb d_Cubes_add_35 rfl (lv_at hl 0 rfl) ?_
      refine va_get (D := (dC, dI)) (ci := 1) (v := .ref b2) (C := R_Cubes) (T := F_Cubes) (N := 5) hx hb hts i_Cubes hown hK hP 0 rfl rfl 3 (by decide) (hts _ mw_fl_Cubes_15) (fun _ h9 => h9) rfl d_Cubes_add_36 ?_
      refine lv_aload_n hx hb d_Cubes_add_39 rfl (lv_at hl 0 rfl) ?_
      refine va_get (D := (dC, dI)) (ci := 1) (v := .int ((nI M))) (C := R_Cubes) (T := F_Cubes) (N := 5) hx hb hts i_Cubes hown hK hP 0 rfl rfl 4 (by decide) (hts _ mw_fl_Cubes_26) (fun _ h9 => h9) rfl d_Cubes_add_40 ?_
      refine lv_iconst (v := 2) hx hb d_Cubes_add_43 (by decide) ?_
      refine lv_imul hx hb d_Cubes_add_44 ?_
      refine lv_iload_n hx hb d_Cubes_add_45 rfl (lv_at hl 1 rfl) ?_
      refine lv_iadd hx hb d_Cubes_add_46 ?_
      refine w_ti (show _ = nI (M * 2 + i) from nI_m2 M i) ?_
      refine lv_iconst (v := 0) hx hb d_Cubes_add_47 (by decide) ?_
      refine va_iast hx hb hK hP hD hS 2 0 rfl rfl (vp_in_nI (show M * 2 + i < 48 by omega) (by omega)) d_Cubes_add_48 (fun H locs hP hD hS => ?_)
      have hP : va_P (dC, dI) classes [(b0, .inr (1, [.ref a0, .int ((nI OU)), .ref b1, .ref b2, .int ((nI M))])), (b1, .inl (cI, 24, .inl ((upd prod M (sz - 1))))), (b2, .inl (cI, 48, .inl ((upd ((fNone kind M i)) (nI (M * 2 + i)).toNatClampNeg 0)))), (a0, .inr (5, [.int n, .int sz, .ref a1, .ref a2, .ref a3])), (a1, .inl (cI, 81, .inl care)), (a2, .inl (cI, 81, .inl bits)), (a3, .inl (cI, 81, .inl had))] H := hP
      have hD : va_D A [(b0, .inr (1, [.ref a0, .int ((nI OU)), .ref b1, .ref b2, .int ((nI M))])), (b1, .inl (cI, 24, .inl ((upd prod M (sz - 1))))), (b2, .inl (cI, 48, .inl ((upd ((fNone kind M i)) (nI (M * 2 + i)).toNatClampNeg 0)))), (a0, .inr (5, [.int n, .int sz, .ref a1, .ref a2, .ref a3])), (a1, .inl (cI, 81, .inl care)), (a2, .inl (cI, 81, .inl bits)), (a3, .inl (cI, 81, .inl had))] := hD
      rw [show (nI (M * 2 + i)).toNatClampNeg = M * 2 + i from nI_clamp (by omega)] at hP hD
      refine lv_iinc (v := (nI (i + 1))) (lv' := [(1, .int ((nI (i + 1)))), (0, .ref b0)]) hx hb d_Cubes_add_49 hl (k := 1) rfl (show nI i + 1 = nI (i + 1) from nI_1 i) (by decide) rfl (fun ls hl => ?_)
      refine lv_goto (tgt := 27) hx hb d_Cubes_add_52 (by decide) ?_
      exact ih (i + 1) (by omega) (by omega) _ _ ls (hP.sub [0, 1, 2, 3, 4, 5, 6] rfl) (hD.sub [0, 1, 2, 3, 4, 5, 6] (by decide) rfl) hS (lv_sub hl [1, 0] rfl)
set_option maxHeartbeats 4000000 in
set_option maxRecDepth 100000 in
theorem c_Cubes_add (l : Launch) (dC : Nat → ClassId) (dI : Nat → Nat → Nat) (cI cJ : ClassId) (sz0 : Nat) (b0 : Nat) (b1 : Nat) (b2 : Nat) (M : Nat) (OU : Nat) (prod : Nat → Int32) (kind : Nat → Int32) (a0 : Nat) (a1 : Nat) (a2 : Nat) (a3 : Nat) (n : Int32) (sz : Int32) (care : Nat → Int32) (bits : Nat → Int32) (had : Nat → Int32) (hM : M < 24) (hOU : OU ≤ 2) : Met l y_Cubes_add (ct y_Cubes_add b_Cubes_add 2 (some .int)) ({ frames := 1, cells := 0, slots := 0, locals := 20 }) (va_Pc [.ref b0] (fun U => U.heap.size = sz0 ∧ va_P (dC, dI) classes [(b0, .inr (1, [.ref a0, .int ((nI OU)), .ref b1, .ref b2, .int ((nI M))])), (b1, .inl (cI, 24, .inl prod)), (b2, .inl (cI, 48, .inl kind)), (a0, .inr (5, [.int n, .int sz, .ref a1, .ref a2, .ref a3])), (a1, .inl (cI, 81, .inl care)), (a2, .inl (cI, 81, .inl bits)), (a3, .inl (cI, 81, .inl had))] U.heap ∧ va_K (dC, dI) classes [(cI, .int), (cJ, .long)] U ∧ va_D (fun _ => True) [(b0, .inr (1, [.ref a0, .int ((nI OU)), .ref b1, .ref b2, .int ((nI M))])), (b1, .inl (cI, 24, .inl prod)), (b2, .inl (cI, 48, .inl kind)), (a0, .inr (5, [.int n, .int sz, .ref a1, .ref a2, .ref a3])), (a1, .inl (cI, 81, .inl care)), (a2, .inl (cI, 81, .inl bits)), (a3, .inl (cI, 81, .inl had))])) (va_Qi (fun (r : Int32) (_ : Unit) => r = nI M) (fun _ => at_w dC dI cI cJ (va_A [(b0, .inr (1, [.ref a0, .int ((nI OU)), .ref b1, .ref b2, .int ((nI M))])), (b1, .inl (cI, 24, .inl prod)), (b2, .inl (cI, 48, .inl kind)), (a0, .inr (5, [.int n, .int sz, .ref a1, .ref a2, .ref a3])), (a1, .inl (cI, 81, .inl care)), (a2, .inl (cI, 81, .inl bits)), (a3, .inl (cI, 81, .inl had))] sz0) [(b0, .inr (1, [.ref a0, .int ((nI OU)), .ref b1, .ref b2, .int ((nI (M + 1)))])), (b1, .inl (cI, 24, .inl ((upd prod M (sz - 1))))), (b2, .inl (cI, 48, .inl ((fNone kind M OU)))), (a0, .inr (5, [.int n, .int sz, .ref a1, .ref a2, .ref a3])), (a1, .inl (cI, 81, .inl care)), (a2, .inl (cI, 81, .inl bits)), (a3, .inl (cI, 81, .inl had))]) (va_A [(b0, .inr (1, [.ref a0, .int ((nI OU)), .ref b1, .ref b2, .int ((nI M))])), (b1, .inl (cI, 24, .inl prod)), (b2, .inl (cI, 48, .inl kind)), (a0, .inr (5, [.int n, .int sz, .ref a1, .ref a2, .ref a3])), (a1, .inl (cI, 81, .inl care)), (a2, .inl (cI, 81, .inl bits)), (a3, .inl (cI, 81, .inl had))] sz0)) 0 0 (va_A [(b0, .inr (1, [.ref a0, .int ((nI OU)), .ref b1, .ref b2, .int ((nI M))])), (b1, .inl (cI, 24, .inl prod)), (b2, .inl (cI, 48, .inl kind)), (a0, .inr (5, [.int n, .int sz, .ref a1, .ref a2, .ref a3])), (a1, .inl (cI, 81, .inl care)), (a2, .inl (cI, 81, .inl bits)), (a3, .inl (cI, 81, .inl had))] sz0) := by
  refine Met.ofW (cc := b_Cubes_add) (maxL := 2) (ret := some .int) (by decide) rfl ?_
  intro p e s m args below meth c s₁ B hml hv
  obtain ⟨rfl, hsz, hP, hK, hD0⟩ := hv
  have hx := B.exec
  have hb := B.bytes
  have hr := B.returns
  have hts : ∀ w ∈ lwg, w.before _ s = true := fun w h => atoms_spec (ws := ct y_Cubes_add b_Cubes_add 2 (some .int)) B.pre w (List.mem_cons_of_mem _ h)
  have hown : s.vm.findClass R_Cubes = some m.cls := findClass_of_methodNamed B.named
  have hlocks := B.notSynchronized
  subst hsz
  have hD := hD0.self (sz := s.heap.size)
  generalize hAe : va_A [(b0, .inr (1, [.ref a0, .int ((nI OU)), .ref b1, .ref b2, .int ((nI M))])), (b1, .inl (cI, 24, .inl prod)), (b2, .inl (cI, 48, .inl kind)), (a0, .inr (5, [.int n, .int sz, .ref a1, .ref a2, .ref a3])), (a1, .inl (cI, 81, .inl care)), (a2, .inl (cI, 81, .inl bits)), (a3, .inl (cI, 81, .inl had))] s.heap.size = A at hD ⊢
  have hA : ∀ q : Nat, s.heap.size ≤ q → A q := fun q h => by rw [← hAe]; exact Or.inr h
  have hS : va_S A s.heap s.heap [] := va_S.rf
  have hl := lv_entry ([.ref b0]) (n := 2) (Nat.le_of_ble_eq_true rfl)
  rw [lg_entry_eq]
  generalize (lg_sl ([.ref b0]) ++ List.replicate (2 - (lg_sl ([.ref b0])).length) Slot.unset).toArray = ls at hl ⊢
  have hl : lv_has ls 2 [(0, .ref b0)] := hl
  have hP : va_P (dC, dI) classes [(b0, .inr (1, [.ref a0, .int ((nI OU)), .ref b1, .ref b2, .int ((nI M))])), (b1, .inl (cI, 24, .inl prod)), (b2, .inl (cI, 48, .inl kind)), (a0, .inr (5, [.int n, .int sz, .ref a1, .ref a2, .ref a3])), (a1, .inl (cI, 81, .inl care)), (a2, .inl (cI, 81, .inl bits)), (a3, .inl (cI, 81, .inl had))] s.heap := hP
  refine lv_aload_n hx hb d_Cubes_add_0 rfl (lv_at hl 0 rfl) ?_
  refine vp_callSi (W.runV (As := []) (rest := []) ⟨hx, hb, hml, hown, hts⟩ (c_Cubes_isFull l dC dI cI cJ b0 b1 b2 M (nI OU) prod kind a0 (by omega)) (cwV 0 hts (ct_goodV mw_ml_Cubes_29 mw_im_Cubes_isFull mw_se_Cubes_isFull mw_ini_Cubes mw_code_Cubes_isFull) rfl rfl rfl (by decide +kernel) ⟨Nat.le_of_ble_eq_true rfl, Nat.le_of_ble_eq_true rfl⟩) ⟨fun a U g mk q => by obtain ⟨q0, qP, qK⟩ := q; exact ⟨q0, qP, va_K.moved (u := U) (U := U.calling g mk a) (Vm.Alike.refl U.vm) qK⟩, va_recv hK hP (ci := 1) (q0 := 0) rfl rfl, fun U hU hW => ⟨rfl, by rw [hU]; exact (hP.sub (ws' := (wC cI b0 b1 b2 a0 M (nI OU) prod kind)) [0, 1, 2] rfl), va_K.moved hW.alike hK⟩⟩ rfl rfl hl.1 rfl (lv_room (Nat.le_of_ble_eq_true rfl)) d_Cubes_add_1 ⟨Nat.le_of_ble_eq_true rfl, Nat.le_of_ble_eq_true rfl⟩) (fun r_1 hr_1 => ?_)
  rw [hr_1]
  clear hr_1
  refine lv_if_eq (tgt := 9) hx hb d_Cubes_add_4 (by decide) (fun c_4 => ?_) (fun c_4 => ?_)
  · refine lv_aload_n hx hb d_Cubes_add_9 rfl (lv_at hl 0 rfl) ?_
    refine va_get (D := (dC, dI)) (ci := 1) (v := .ref b1) (C := R_Cubes) (T := F_Cubes) (N := 5) hx hb hts i_Cubes hown hK hP 0 rfl rfl 2 (by decide) (hts _ mw_fl_Cubes_9) (fun _ h9 => h9) rfl d_Cubes_add_10 ?_
    refine lv_aload_n hx hb d_Cubes_add_13 rfl (lv_at hl 0 rfl) ?_
    refine va_get (D := (dC, dI)) (ci := 1) (v := .int ((nI M))) (C := R_Cubes) (T := F_Cubes) (N := 5) hx hb hts i_Cubes hown hK hP 0 rfl rfl 4 (by decide) (hts _ mw_fl_Cubes_26) (fun _ h9 => h9) rfl d_Cubes_add_14 ?_
    refine lv_aload_n hx hb d_Cubes_add_17 rfl (lv_at hl 0 rfl) ?_
    refine va_get (D := (dC, dI)) (ci := 1) (v := .ref a0) (C := R_Cubes) (T := F_Cubes) (N := 5) hx hb hts i_Cubes hown hK hP 0 rfl rfl 0 (by decide) (hts _ mw_fl_Cubes_18) (fun _ h9 => h9) rfl d_Cubes_add_18 ?_
    refine vp_callSi (W.runV (As := []) (rest := [.int ((nI M)), .ref b1]) ⟨hx, hb, hml, hown, hts⟩ (c_Products_allFree l dC dI cI cJ a0 a1 a2 a3 n sz care bits had ) (cwV 0 hts (ct_goodV mw_ml_Cubes_33 mw_im_Products_allFree mw_se_Products_allFree mw_ini_Products mw_code_Products_allFree) rfl rfl rfl (by decide +kernel) ⟨Nat.le_of_ble_eq_true rfl, Nat.le_of_ble_eq_true rfl⟩) ⟨fun a U g mk q => by obtain ⟨q0, qP, qK⟩ := q; exact ⟨q0, qP, va_K.moved (u := U) (U := U.calling g mk a) (Vm.Alike.refl U.vm) qK⟩, va_recv hK hP (ci := 5) (q0 := 3) rfl rfl, fun U hU hW => ⟨rfl, by rw [hU]; exact (hP.sub (ws' := (wP cI a0 a1 a2 a3 n sz care bits had)) [3, 4, 5, 6] rfl), va_K.moved hW.alike hK⟩⟩ rfl rfl hl.1 rfl (lv_room (Nat.le_of_ble_eq_true rfl)) d_Cubes_add_21 ⟨Nat.le_of_ble_eq_true rfl, Nat.le_of_ble_eq_true rfl⟩) (fun r_2 hr_2 => ?_)
    rw [hr_2]
    clear hr_2
    refine va_iast hx hb hK hP hD hS 1 0 rfl rfl (vp_in_nI hM (by omega)) d_Cubes_add_24 (fun H locs hP hD hS => ?_)
    have hP : va_P (dC, dI) classes [(b0, .inr (1, [.ref a0, .int ((nI OU)), .ref b1, .ref b2, .int ((nI M))])), (b1, .inl (cI, 24, .inl ((upd prod (nI M).toNatClampNeg ((sz - 1)))))), (b2, .inl (cI, 48, .inl kind)), (a0, .inr (5, [.int n, .int sz, .ref a1, .ref a2, .ref a3])), (a1, .inl (cI, 81, .inl care)), (a2, .inl (cI, 81, .inl bits)), (a3, .inl (cI, 81, .inl had))] H := hP
    have hD : va_D A [(b0, .inr (1, [.ref a0, .int ((nI OU)), .ref b1, .ref b2, .int ((nI M))])), (b1, .inl (cI, 24, .inl ((upd prod (nI M).toNatClampNeg ((sz - 1)))))), (b2, .inl (cI, 48, .inl kind)), (a0, .inr (5, [.int n, .int sz, .ref a1, .ref a2, .ref a3])), (a1, .inl (cI, 81, .inl care)), (a2, .inl (cI, 81, .inl bits)), (a3, .inl (cI, 81, .inl had))] := hD
    rw [show (nI M).toNatClampNeg = M from nI_clamp (by omega)] at hP hD
    refine lv_iconst (v := 0) hx hb d_Cubes_add_25 (by decide) ?_
    refine lv_istore_n (lv' := [(1, .int 0), (0, .ref b0)]) hx hb d_Cubes_add_26 rfl hl (by decide) rfl (fun ls hl => ?_)
    exact lp_Cubes_add l dC dI cI cJ b0 b1 b2 M OU prod kind a0 a1 a2 a3 n sz care bits had hM hOU hx hb hr hts hown hlocks hml hK hA (OU + 1) 0 (by omega) (Nat.zero_le _) _ _ ls (hP.sub [0, 1, 2, 3, 4, 5, 6] rfl) (hD.sub [0, 1, 2, 3, 4, 5, 6] (by decide) rfl) hS (lv_sub hl [1, 0] rfl)
  · exact absurd (if_neg (show ¬ M = 24 by omega)) c_4
/-- takeFrom: how many, their products, their outputs, behind k of the other row -/
def stT (op oo tp to : Nat → Int32) (set : Int64) (k : Nat) : Nat × (Nat → Int32) × (Nat → Int32) := itr (fun k x => if lg_cmp ((set >>> ((nI k).toInt64 &&& 63)) &&& 1) 1 = 0 then (x.1 + 1, upd x.2.1 x.1 (op k), upd x.2.2 x.1 (oo k)) else x) k (0, tp, to)
theorem stT_le (op oo tp to : Nat → Int32) (set : Int64) (k : Nat) : (stT op oo tp to set k).1 ≤ k := by
  induction k with
  | zero => exact Nat.le_refl 0
  | succ k ih =>
    show (if _ then _ else _ : Nat × (Nat → Int32) × (Nat → Int32)).1 ≤ k + 1
    split
    · exact Nat.succ_le_succ ih
    · exact Nat.le_succ_of_le ih
set_option maxHeartbeats 4000000 in
set_option maxRecDepth 100000 in
theorem lp_Terms_takeFrom {p : Program} {e : Env} {s : State} {m : MethodId} {args : Array Value} {below : List Frame} {meth : Method} {c : Code} (l : Launch) (dC : Nat → ClassId) (dI : Nat → Nat → Nat) (cI cJ : ClassId) (t0 : Nat) (t1 : Nat) (t2 : Nat) (K : Nat) (tp : Nat → Int32) (to : Nat → Int32) (a0 : Nat) (u0 : Nat) (u1 : Nat) (u2 : Nat) (K2 : Nat) (op : Nat → Int32) (oo : Nat → Int32) (set : Int64) (hK2 : K2 ≤ 81) (hx : p.tables.exec = Jvm.exec) (hb : c.code = b_Terms_takeFrom) (hr : meth.sig.returnType = none) (hts : ∀ w ∈ lwg, w.before args s = true) (hown : s.vm.findClass R_Terms = some m.cls) (hlocks : meth.locks = false) (hml : c.maxLocals = 5) (hK : va_K (dC, dI) classes [(cI, .int), (cJ, .long)] s) {A : Nat → Prop} (hA : ∀ q : Nat, s.heap.size ≤ q → A q) : ∀ (k i : Nat), K2 - i < k → i ≤ K2 → ∀ (H : Heap) (locs : List Loc) (ls : Array Slot), va_P (dC, dI) classes [(t0, .inr (6, [.ref a0, .ref t1, .ref t2, .int ((nI (stT op oo tp to set i).1))])), (t1, .inl (cI, 81, .inl (((stT op oo tp to set i).2.1)))), (t2, .inl (cI, 81, .inl (((stT op oo tp to set i).2.2)))), (u0, .inr (6, [.ref a0, .ref u1, .ref u2, .int ((nI K2))])), (u1, .inl (cI, 81, .inl op)), (u2, .inl (cI, 81, .inl oo))] H → va_D A [(t0, .inr (6, [.ref a0, .ref t1, .ref t2, .int ((nI (stT op oo tp to set i).1))])), (t1, .inl (cI, 81, .inl (((stT op oo tp to set i).2.1)))), (t2, .inl (cI, 81, .inl (((stT op oo tp to set i).2.2)))), (u0, .inr (6, [.ref a0, .ref u1, .ref u2, .int ((nI K2))])), (u1, .inl (cI, 81, .inl op)), (u2, .inl (cI, 81, .inl oo))] → va_S A s.heap H locs → lv_has ls 5 [(0, .ref t0), (1, .ref u0), (2, .long set), (4, .int ((nI i)))] → W p l e ({ frames := 1, cells := 0, slots := 0, locals := 22 } : Room) s m args below meth c H locs 0 0 (MQ below (va_Qv (fun _ : Unit => True) (fun _ => at_w dC dI cI cJ A [(t0, .inr (6, [.ref a0, .ref t1, .ref t2, .int ((nI (stT op oo tp to set K2).1))])), (t1, .inl (cI, 81, .inl ((stT op oo tp to set K2).2.1))), (t2, .inl (cI, 81, .inl ((stT op oo tp to set K2).2.2))), (u0, .inr (6, [.ref a0, .ref u1, .ref u2, .int ((nI K2))])), (u1, .inl (cI, 81, .inl op)), (u2, .inl (cI, 81, .inl oo))]) A) args s 0 0 A) (F0 m 7 ls []) := by
  intro k
  induction k with
  | zero => intro i h; omega
  | succ k ih =>
    intro i hk hi H locs ls hP hD hS hl
    refine lv_iload hx hb d_Terms_takeFrom_7 (lv_at hl 3 rfl) ?_
    refine lv_aload_n hx hb d_Terms_takeFrom_9 rfl (lv_at hl 1 rfl) ?_
    refine va_get (D := (dC, dI)) (ci := 6) (v := .int ((nI K2))) (C := R_Terms) (T := F_Terms) (N := 4) hx hb hts i_Terms hown hK hP 3 rfl rfl 3 (by decide) (hts _ mw_fl_Terms_22) (fun _ h9 => h9) rfl d_Terms_takeFrom_10 ?_
    refine lv_icmp_ge (tgt := 51) hx hb d_Terms_takeFrom_13 (by decide) (fun c_13 => ?_) (fun c_13 => ?_)
    · have hE : i = K2 := Nat.le_antisymm hi ((nI_leI (by omega) (by omega)).mp c_13)
      have hP9 := hP.sub (ws' := [(t0, .inr (6, [.ref a0, .ref t1, .ref t2, .int ((nI (stT op oo tp to set K2).1))])), (t1, .inl (cI, 81, .inl ((stT op oo tp to set K2).2.1))), (t2, .inl (cI, 81, .inl ((stT op oo tp to set K2).2.2))), (u0, .inr (6, [.ref a0, .ref u1, .ref u2, .int ((nI K2))])), (u1, .inl (cI, 81, .inl op)), (u2, .inl (cI, 81, .inl oo))]) [0, 1, 2, 3, 4, 5] (by subst hE; rfl)
      have hD9 := hD.sub (ws' := [(t0, .inr (6, [.ref a0, .ref t1, .ref t2, .int ((nI (stT op oo tp to set K2).1))])), (t1, .inl (cI, 81, .inl ((stT op oo tp to set K2).2.1))), (t2, .inl (cI, 81, .inl ((stT op oo tp to set K2).2.2))), (u0, .inr (6, [.ref a0, .ref u1, .ref u2, .int ((nI K2))])), (u1, .inl (cI, 81, .inl op)), (u2, .inl (cI, 81, .inl oo))]) [0, 1, 2, 3, 4, 5] (by decide) (by subst hE; rfl)
      exact W.vret hx hb hr (fun t ht hW => ⟨⟨(), rfl, trivial, by rw [ht]; exact hP9, va_K.moved hW.alike hK, hD9⟩, hS.F ht⟩) hS.2.2 d_Terms_takeFrom_51
    · have hlt : i < K2 := Nat.lt_of_not_le (fun h => c_13 ((nI_leI (by omega) (by omega)).mpr h))
      refine lv_lload_n hx hb d_Terms_takeFrom_16 rfl (lv_at hl 2 rfl) ?_
      refine lv_iload hx hb d_Terms_takeFrom_17 (lv_at hl 3 rfl) ?_
      refine lv_lshr hx hb d_Terms_takeFrom_19 rfl ?_
      refine lv_lconst (v := 1) hx hb d_Terms_takeFrom_20 (by decide) ?_
      refine lv_land hx hb d_Terms_takeFrom_21 ?_
      refine lv_lconst (v := 1) hx hb d_Terms_takeFrom_22 (by decide) ?_
      refine W.lcmp hx hb d_Terms_takeFrom_23 ?_
      refine lv_if_ne (tgt := 45) hx hb d_Terms_takeFrom_24 (by decide) (fun c_24 => ?_) (fun c_24 => ?_)
      · refine lv_iinc (v := (nI (i + 1))) (lv' := [(4, .int ((nI (i + 1)))), (0, .ref t0), (1, .ref u0), (2, .long set)]) hx hb d_Terms_takeFrom_45 hl (k := 3) rfl (show nI i + 1 = nI (i + 1) from nI_1 i) (by decide) rfl (fun ls hl => ?_)
        refine lv_goto (tgt := 7) hx hb d_Terms_takeFrom_48 (by decide) ?_
        have hs : stT op oo tp to set (i + 1) = (stT op oo tp to set i) := if_neg c_24
        exact ih (i + 1) (by omega) (by omega) _ _ ls (by rw [hs]; exact hP.sub [0, 1, 2, 3, 4, 5] rfl) (by rw [hs]; exact hD.sub [0, 1, 2, 3, 4, 5] (by decide) rfl) hS (lv_sub hl [1, 2, 3, 0] rfl)
      · refine lv_aload_n hx hb d_Terms_takeFrom_27 rfl (lv_at hl 0 rfl) ?_
        refine lv_aload_n hx hb d_Terms_takeFrom_28 rfl (lv_at hl 1 rfl) ?_
        refine va_get (D := (dC, dI)) (ci := 6) (v := .ref u1) (C := R_Terms) (T := F_Terms) (N := 4) hx hb hts i_Terms hown hK hP 3 rfl rfl 1 (by decide) (hts _ mw_fl_Terms_9) (fun _ h9 => h9) rfl d_Terms_takeFrom_29 ?_
        refine lv_iload hx hb d_Terms_takeFrom_32 (lv_at hl 3 rfl) ?_
        refine va_iald hx hb hK hP 4 0 rfl rfl (vp_in_nI (show i < 81 by omega) (by omega)) d_Terms_takeFrom_34 ?_
        refine w_ti (show _ = op i from by rw [nI_clamp (by omega)]) ?_
        refine lv_aload_n hx hb d_Terms_takeFrom_35 rfl (lv_at hl 1 rfl) ?_
        refine va_get (D := (dC, dI)) (ci := 6) (v := .ref u2) (C := R_Terms) (T := F_Terms) (N := 4) hx hb hts i_Terms hown hK hP 3 rfl rfl 2 (by decide) (hts _ mw_fl_Terms_15) (fun _ h9 => h9) rfl d_Terms_takeFrom_36 ?_
        refine lv_iload hx hb d_Terms_takeFrom_39 (lv_at hl 3 rfl) ?_
        refine va_iald hx hb hK hP 5 0 rfl rfl (vp_in_nI (show i < 81 by omega) (by omega)) d_Terms_takeFrom_41 ?_
        refine w_ti (show _ = oo i from by rw [nI_clamp (by omega)]) ?_
        have hPc := hP.sub (ws' := [(t0, .inr (6, [.ref a0, .ref t1, .ref t2, .int ((nI (stT op oo tp to set i).1))])), (t1, .inl (cI, 81, .inl (((stT op oo tp to set i).2.1)))), (t2, .inl (cI, 81, .inl (((stT op oo tp to set i).2.2))))]) [0, 1, 2] rfl
        have hDc := hD.sub (ws' := [(t0, .inr (6, [.ref a0, .ref t1, .ref t2, .int ((nI (stT op oo tp to set i).1))])), (t1, .inl (cI, 81, .inl (((stT op oo tp to set i).2.1)))), (t2, .inl (cI, 81, .inl (((stT op oo tp to set i).2.2))))]) [0, 1, 2] (by decide) rfl
        have hFc := va_free (wc := [(t0, .inr (6, [.ref a0, .ref t1, .ref t2, .int ((nI (stT op oo tp to set i).1))])), (t1, .inl (cI, 81, .inl (((stT op oo tp to set i).2.1)))), (t2, .inl (cI, 81, .inl (((stT op oo tp to set i).2.2))))]) hD hS hA [0, 1, 2] rfl
        refine va_callv (va_runV (As := [.int ((op i)), .int ((oo i))]) (rest := []) ⟨hx, hb, hml, hown, hts⟩ (c_Terms_add l dC dI cI cJ _ t0 t1 t2 ((stT op oo tp to set i).1) ((stT op oo tp to set i).2.1) ((stT op oo tp to set i).2.2) a0 (op i) (oo i) (by have := stT_le op oo tp to set i; omega)) (cwV 2 hts (ct_goodV mw_ml_Terms_29 mw_im_Terms_add mw_se_Terms_add mw_ini_Terms mw_code_Terms_add) rfl rfl rfl (by decide +kernel) ⟨Nat.le_of_ble_eq_true rfl, Nat.le_of_ble_eq_true rfl⟩) ⟨fun a U g mk q => by obtain ⟨q0, q1, qP, qK, qD⟩ := q; exact ⟨q0, q1, qP, va_K.moved (u := U) (U := U.calling g mk a) (Vm.Alike.refl U.vm) qK, qD⟩, va_recv hK hPc (ci := 6) (q0 := 0) rfl rfl, fun U hU hW => ⟨rfl, by rw [hU], by rw [hU]; exact hPc, va_K.moved hW.alike hK, hDc.weaken (fun _ _ _ _ => trivial)⟩⟩ rfl rfl hl.1 rfl (lv_room (Nat.le_of_ble_eq_true rfl)) d_Terms_takeFrom_42 ⟨Nat.le_of_ble_eq_true rfl, Nat.le_of_ble_eq_true rfl⟩) hS (fun q _ h => hFc q h) hFc (fun u t H1 locs ht hvm hw hB hz1 hk1 hS => ?_)
        obtain ⟨hP1, hK1, hD1⟩ := hB
        rw [ht] at hP1
        obtain ⟨hP, hD⟩ := va_join (wr := [(u0, .inr (6, [.ref a0, .ref u1, .ref u2, .int ((nI K2))])), (u1, .inl (cI, 81, .inl op)), (u2, .inl (cI, 81, .inl oo))]) (w1 := [(t0, .inr (6, [.ref a0, .ref t1, .ref t2, .int ((nI (((stT op oo tp to set i).1) + 1)))])), (t1, .inl (cI, 81, .inl ((upd ((stT op oo tp to set i).2.1) ((stT op oo tp to set i).1) (op i))))), (t2, .inl (cI, 81, .inl ((upd ((stT op oo tp to set i).2.2) ((stT op oo tp to set i).1) (oo i)))))]) hP hD [0, 1, 2] [3, 4, 5] rfl rfl (by decide) (by decide) hk1 hFc hP1 hD1
        clear hPc hDc hFc hP1 hK1 hD1 hk1 hz1 hvm ht
        generalize H1 = H at hP hS ⊢
        have hP : va_P (dC, dI) classes [(u0, .inr (6, [.ref a0, .ref u1, .ref u2, .int ((nI K2))])), (u1, .inl (cI, 81, .inl op)), (u2, .inl (cI, 81, .inl oo)), (t0, .inr (6, [.ref a0, .ref t1, .ref t2, .int ((nI (((stT op oo tp to set i).1) + 1)))])), (t1, .inl (cI, 81, .inl ((upd ((stT op oo tp to set i).2.1) ((stT op oo tp to set i).1) (op i))))), (t2, .inl (cI, 81, .inl ((upd ((stT op oo tp to set i).2.2) ((stT op oo tp to set i).1) (oo i)))))] H := hP
        have hD : va_D A [(u0, .inr (6, [.ref a0, .ref u1, .ref u2, .int ((nI K2))])), (u1, .inl (cI, 81, .inl op)), (u2, .inl (cI, 81, .inl oo)), (t0, .inr (6, [.ref a0, .ref t1, .ref t2, .int ((nI (((stT op oo tp to set i).1) + 1)))])), (t1, .inl (cI, 81, .inl ((upd ((stT op oo tp to set i).2.1) ((stT op oo tp to set i).1) (op i))))), (t2, .inl (cI, 81, .inl ((upd ((stT op oo tp to set i).2.2) ((stT op oo tp to set i).1) (oo i)))))] := hD
        refine lv_iinc (v := (nI (i + 1))) (lv' := [(4, .int ((nI (i + 1)))), (0, .ref t0), (1, .ref u0), (2, .long set)]) hx hb d_Terms_takeFrom_45 hl (k := 3) rfl (show nI i + 1 = nI (i + 1) from nI_1 i) (by decide) rfl (fun ls hl => ?_)
        refine lv_goto (tgt := 7) hx hb d_Terms_takeFrom_48 (by decide) ?_
        have hs : stT op oo tp to set (i + 1) = ((stT op oo tp to set i).1 + 1, upd (stT op oo tp to set i).2.1 (stT op oo tp to set i).1 (op i), upd (stT op oo tp to set i).2.2 (stT op oo tp to set i).1 (oo i)) := if_pos c_24
        exact ih (i + 1) (by omega) (by omega) _ _ ls (by rw [hs]; exact hP.sub [3, 4, 5, 0, 1, 2] rfl) (by rw [hs]; exact hD.sub [3, 4, 5, 0, 1, 2] (by decide) rfl) hS (lv_sub hl [1, 2, 3, 0] rfl)
set_option maxHeartbeats 4000000 in
set_option maxRecDepth 100000 in
theorem c_Terms_takeFrom (l : Launch) (dC : Nat → ClassId) (dI : Nat → Nat → Nat) (cI cJ : ClassId) (sz0 : Nat) (t0 : Nat) (t1 : Nat) (t2 : Nat) (K : Nat) (tp : Nat → Int32) (to : Nat → Int32) (a0 : Nat) (u0 : Nat) (u1 : Nat) (u2 : Nat) (K2 : Nat) (op : Nat → Int32) (oo : Nat → Int32) (set : Int64) (hK2 : K2 ≤ 81) : Met l y_Terms_takeFrom (ct y_Terms_takeFrom b_Terms_takeFrom 5 (none)) ({ frames := 1, cells := 0, slots := 0, locals := 22 }) (va_Pc [.ref t0, .ref u0, .long set] (fun U => U.heap.size = sz0 ∧ va_P (dC, dI) classes [(t0, .inr (6, [.ref a0, .ref t1, .ref t2, .int ((nI K))])), (t1, .inl (cI, 81, .inl tp)), (t2, .inl (cI, 81, .inl to)), (u0, .inr (6, [.ref a0, .ref u1, .ref u2, .int ((nI K2))])), (u1, .inl (cI, 81, .inl op)), (u2, .inl (cI, 81, .inl oo))] U.heap ∧ va_K (dC, dI) classes [(cI, .int), (cJ, .long)] U ∧ va_D (fun _ => True) [(t0, .inr (6, [.ref a0, .ref t1, .ref t2, .int ((nI K))])), (t1, .inl (cI, 81, .inl tp)), (t2, .inl (cI, 81, .inl to)), (u0, .inr (6, [.ref a0, .ref u1, .ref u2, .int ((nI K2))])), (u1, .inl (cI, 81, .inl op)), (u2, .inl (cI, 81, .inl oo))])) (va_Qv (fun _ : Unit => True) (fun _ => at_w dC dI cI cJ (va_A [(t0, .inr (6, [.ref a0, .ref t1, .ref t2, .int ((nI K))])), (t1, .inl (cI, 81, .inl tp)), (t2, .inl (cI, 81, .inl to)), (u0, .inr (6, [.ref a0, .ref u1, .ref u2, .int ((nI K2))])), (u1, .inl (cI, 81, .inl op)), (u2, .inl (cI, 81, .inl oo))] sz0) [(t0, .inr (6, [.ref a0, .ref t1, .ref t2, .int ((nI (stT op oo tp to set K2).1))])), (t1, .inl (cI, 81, .inl ((stT op oo tp to set K2).2.1))), (t2, .inl (cI, 81, .inl ((stT op oo tp to set K2).2.2))), (u0, .inr (6, [.ref a0, .ref u1, .ref u2, .int ((nI K2))])), (u1, .inl (cI, 81, .inl op)), (u2, .inl (cI, 81, .inl oo))]) (va_A [(t0, .inr (6, [.ref a0, .ref t1, .ref t2, .int ((nI K))])), (t1, .inl (cI, 81, .inl tp)), (t2, .inl (cI, 81, .inl to)), (u0, .inr (6, [.ref a0, .ref u1, .ref u2, .int ((nI K2))])), (u1, .inl (cI, 81, .inl op)), (u2, .inl (cI, 81, .inl oo))] sz0)) 0 0 (va_A [(t0, .inr (6, [.ref a0, .ref t1, .ref t2, .int ((nI K))])), (t1, .inl (cI, 81, .inl tp)), (t2, .inl (cI, 81, .inl to)), (u0, .inr (6, [.ref a0, .ref u1, .ref u2, .int ((nI K2))])), (u1, .inl (cI, 81, .inl op)), (u2, .inl (cI, 81, .inl oo))] sz0) := by
  refine Met.ofW (cc := b_Terms_takeFrom) (maxL := 5) (ret := none) (by decide) rfl ?_
  intro p e s m args below meth c s₁ B hml hv
  obtain ⟨rfl, hsz, hP, hK, hD0⟩ := hv
  have hx := B.exec
  have hb := B.bytes
  have hr := B.returns
  have hts : ∀ w ∈ lwg, w.before _ s = true := fun w h => atoms_spec (ws := ct y_Terms_takeFrom b_Terms_takeFrom 5 (none)) B.pre w (List.mem_cons_of_mem _ h)
  have hown : s.vm.findClass R_Terms = some m.cls := findClass_of_methodNamed B.named
  have hlocks := B.notSynchronized
  subst hsz
  have hD := hD0.self (sz := s.heap.size)
  generalize hAe : va_A [(t0, .inr (6, [.ref a0, .ref t1, .ref t2, .int ((nI K))])), (t1, .inl (cI, 81, .inl tp)), (t2, .inl (cI, 81, .inl to)), (u0, .inr (6, [.ref a0, .ref u1, .ref u2, .int ((nI K2))])), (u1, .inl (cI, 81, .inl op)), (u2, .inl (cI, 81, .inl oo))] s.heap.size = A at hD ⊢
  have hA : ∀ q : Nat, s.heap.size ≤ q → A q := fun q h => by rw [← hAe]; exact Or.inr h
  have hS : va_S A s.heap s.heap [] := va_S.rf
  have hl := lv_entry ([.ref t0, .ref u0, .long set]) (n := 5) (Nat.le_of_ble_eq_true rfl)
  rw [lg_entry_eq]
  generalize (lg_sl ([.ref t0, .ref u0, .long set]) ++ List.replicate (5 - (lg_sl ([.ref t0, .ref u0, .long set])).length) Slot.unset).toArray = ls at hl ⊢
  have hl : lv_has ls 5 [(0, .ref t0), (1, .ref u0), (2, .long set)] := hl
  have hP : va_P (dC, dI) classes [(t0, .inr (6, [.ref a0, .ref t1, .ref t2, .int ((nI K))])), (t1, .inl (cI, 81, .inl tp)), (t2, .inl (cI, 81, .inl to)), (u0, .inr (6, [.ref a0, .ref u1, .ref u2, .int ((nI K2))])), (u1, .inl (cI, 81, .inl op)), (u2, .inl (cI, 81, .inl oo))] s.heap := hP
  refine lv_aload_n hx hb d_Terms_takeFrom_0 rfl (lv_at hl 0 rfl) ?_
  have hPc := hP.sub (ws' := [(t0, .inr (6, [.ref a0, .ref t1, .ref t2, .int ((nI K))])), (t1, .inl (cI, 81, .inl tp)), (t2, .inl (cI, 81, .inl to))]) [0, 1, 2] rfl
  have hDc := hD.sub (ws' := [(t0, .inr (6, [.ref a0, .ref t1, .ref t2, .int ((nI K))])), (t1, .inl (cI, 81, .inl tp)), (t2, .inl (cI, 81, .inl to))]) [0, 1, 2] (by decide) rfl
  have hFc := va_free (wc := [(t0, .inr (6, [.ref a0, .ref t1, .ref t2, .int ((nI K))])), (t1, .inl (cI, 81, .inl tp)), (t2, .inl (cI, 81, .inl to))]) hD hS hA [0, 1, 2] rfl
  refine va_callv (va_runV (As := []) (rest := []) ⟨hx, hb, hml, hown, hts⟩ (c_Terms_dropAll l dC dI cI cJ _ t0 t1 t2 K tp to a0 ) (cwV 0 hts (ct_goodV mw_ml_Terms_26 mw_im_Terms_dropAll mw_se_Terms_dropAll mw_ini_Terms mw_code_Terms_dropAll) rfl rfl rfl (by decide +kernel) ⟨Nat.le_of_ble_eq_true rfl, Nat.le_of_ble_eq_true rfl⟩) ⟨fun a U g mk q => by obtain ⟨q0, q1, qP, qK, qD⟩ := q; exact ⟨q0, q1, qP, va_K.moved (u := U) (U := U.calling g mk a) (Vm.Alike.refl U.vm) qK, qD⟩, va_recv hK hPc (ci := 6) (q0 := 0) rfl rfl, fun U hU hW => ⟨rfl, by rw [hU], by rw [hU]; exact hPc, va_K.moved hW.alike hK, hDc.weaken (fun _ _ _ _ => trivial)⟩⟩ rfl rfl hl.1 rfl (lv_room (Nat.le_of_ble_eq_true rfl)) d_Terms_takeFrom_1 ⟨Nat.le_of_ble_eq_true rfl, Nat.le_of_ble_eq_true rfl⟩) hS (fun q _ h => hFc q h) hFc (fun u t H1 locs ht hvm hw hB hz1 hk1 hS => ?_)
  obtain ⟨hP1, hK1, hD1⟩ := hB
  rw [ht] at hP1
  obtain ⟨hP, hD⟩ := va_join (wr := [(u0, .inr (6, [.ref a0, .ref u1, .ref u2, .int ((nI K2))])), (u1, .inl (cI, 81, .inl op)), (u2, .inl (cI, 81, .inl oo))]) (w1 := [(t0, .inr (6, [.ref a0, .ref t1, .ref t2, .int 0])), (t1, .inl (cI, 81, .inl tp)), (t2, .inl (cI, 81, .inl to))]) hP hD [0, 1, 2] [3, 4, 5] rfl rfl (by decide) (by decide) hk1 hFc hP1 hD1
  clear hPc hDc hFc hP1 hK1 hD1 hk1 hz1 hvm ht
  generalize H1 = H at hP hS ⊢
  have hP : va_P (dC, dI) classes [(u0, .inr (6, [.ref a0, .ref u1, .ref u2, .int ((nI K2))])), (u1, .inl (cI, 81, .inl op)), (u2, .inl (cI, 81, .inl oo)), (t0, .inr (6, [.ref a0, .ref t1, .ref t2, .int 0])), (t1, .inl (cI, 81, .inl tp)), (t2, .inl (cI, 81, .inl to))] H := hP
  have hD : va_D A [(u0, .inr (6, [.ref a0, .ref u1, .ref u2, .int ((nI K2))])), (u1, .inl (cI, 81, .inl op)), (u2, .inl (cI, 81, .inl oo)), (t0, .inr (6, [.ref a0, .ref t1, .ref t2, .int 0])), (t1, .inl (cI, 81, .inl tp)), (t2, .inl (cI, 81, .inl to))] := hD
  refine lv_iconst (v := 0) hx hb d_Terms_takeFrom_4 (by decide) ?_
  refine lv_istore (lv' := [(4, .int 0), (0, .ref t0), (1, .ref u0), (2, .long set)]) hx hb d_Terms_takeFrom_5 hl (by decide) rfl (fun ls hl => ?_)
  exact lp_Terms_takeFrom l dC dI cI cJ t0 t1 t2 K tp to a0 u0 u1 u2 K2 op oo set hK2 hx hb hr hts hown hlocks hml hK hA (K2 + 1) 0 (by omega) (Nat.zero_le _) _ _ ls (hP.sub [3, 4, 5, 0, 1, 2] rfl) (hD.sub [3, 4, 5, 0, 1, 2] (by decide) rfl) hS (lv_sub hl [1, 2, 3, 0] rfl)
end
section
/-! ===== PrimeFinder ===== -/
/-- whether one of the first n says yes -/
def anyB (c : Nat → Bool) (n : Nat) : Bool := itr (fun i b => b || c i) n false
theorem anyB_s (c : Nat → Bool) (n : Nat) : anyB c (n + 1) = (anyB c n || c n) := rfl
theorem anyB_t {c : Nat → Bool} {n i : Nat} (h : i < n) (hc : c i = true) : anyB c n = true := by
  induction n with
  | zero => omega
  | succ n ih =>
    rw [anyB_s]
    by_cases hE : i = n
    · subst hE; rw [hc]; simp
    · rw [ih (by omega)]; rfl
/-- freeing digit i of product q makes a wider term with its outputs -/
def fWide (outs care bits : Nat → Int32) (N q i : Nat) : Bool := !decide (fDig (care q) (bits q) (nI i) = 2) && decide (outs q &&& (outs (fWith N (care q) (bits q) (nI i) 2).toNatClampNeg ^^^ (-1)) = 0)
theorem fWide_t {outs care bits : Nat → Int32} {N q i : Nat} (h1 : ¬ fDig (care q) (bits q) (nI i) = 2) (h2 : outs q &&& (outs (fWith N (care q) (bits q) (nI i) 2).toNatClampNeg ^^^ (-1)) = 0) : fWide outs care bits N q i = true := by
  unfold fWide; rw [decide_eq_false h1, decide_eq_true h2]; rfl
theorem fWide_f1 {outs care bits : Nat → Int32} {N q i : Nat} (h1 : fDig (care q) (bits q) (nI i) = 2) : fWide outs care bits N q i = false := by
  unfold fWide; rw [decide_eq_true h1]; rfl
theorem fWide_f2 {outs care bits : Nat → Int32} {N q i : Nat} (h2 : ¬ outs q &&& (outs (fWith N (care q) (bits q) (nI i) 2).toNatClampNeg ^^^ (-1)) = 0) : fWide outs care bits N q i = false := by
  unfold fWide; rw [decide_eq_false h2]; exact Bool.and_false _
def fOuts0 (outs : Nat → Int32) (j : Nat) : Nat → Int32 := itr (fun p f => upd f p 0) j outs
def fOutsI (had : Nat → Int32) (off : Int32) (o : Nat) (f : Nat → Int32) (j : Nat) : Nat → Int32 := itr (fun p f => if had p &&& off = 0 then upd f p (f p ||| (1 <<< (nI o &&& 31))) else f) j f
def fNot (prod kind had : Nat → Int32) (M o : Nat) : Int32 := fKind prod kind had M o 1 ||| fKind prod kind had M o 2
def fOuts (prod kind had : Nat → Int32) (M Z : Nat) (outs : Nat → Int32) (o : Nat) : Nat → Int32 := itr (fun o f => fOutsI had (fNot prod kind had M o ^^^ (-1)) o f Z) o (fOuts0 outs Z)
set_option maxHeartbeats 4000000 in
set_option maxRecDepth 100000 in
theorem lp_PrimeFinder_isWithinWider {p : Program} {e : Env} {s : State} {m : MethodId} {args : Array Value} {below : List Frame} {meth : Method} {c : Code} (l : Launch) (dC : Nat → ClassId) (dI : Nat → Nat → Nat) (cI cJ : ClassId) (f0 : Nat) (f1 : Nat) (outs : Nat → Int32) (ou : Int32) (a0 : Nat) (a1 : Nat) (a2 : Nat) (a3 : Nat) (N : Nat) (Z : Nat) (care : Nat → Int32) (bits : Nat → Int32) (had : Nat → Int32) (q : Nat) (hN : N ≤ 4) (hq : q < 81) (hW : ∀ i, i < N → vp_in (fWith N (care q) (bits q) (nI i) 2) 81) (hx : p.tables.exec = Jvm.exec) (hb : c.code = b_PrimeFinder_isWithinWider) (hr : meth.sig.returnType = some .boolean) (hts : ∀ w ∈ lwg, w.before args s = true) (hown : s.vm.findClass R_PrimeFinder = some m.cls) (hlocks : meth.locks = false) (hml : c.maxLocals = 4) (hP : va_P (dC, dI) classes [(f0, .inr (4, [.ref a0, .int ou, .ref f1])), (f1, .inl (cI, 81, .inl outs)), (a0, .inr (5, [.int ((nI N)), .int ((nI Z)), .ref a1, .ref a2, .ref a3])), (a1, .inl (cI, 81, .inl care)), (a2, .inl (cI, 81, .inl bits)), (a3, .inl (cI, 81, .inl had))] s.heap) (hK : va_K (dC, dI) classes [(cI, .int), (cJ, .long)] s) : ∀ (k i : Nat), N - i < k → i ≤ N → anyB (fWide outs care bits N q) i = false → ∀ ls : Array Slot, lv_has ls 4 [(0, .ref f0), (1, .int ((nI q))), (2, .int ((nI i)))] → W p l e ({ frames := 2, cells := 0, slots := 0, locals := 51 } : Room) s m args below meth c s.heap [] 0 0 (MQ below (vp_Si (fun r => r = if anyB (fWide outs care bits N q) N then 1 else 0)) args s 0 0 (fun _ => False)) (F0 m 2 ls []) := by
  intro k
  induction k with
  | zero => intro i h; omega
  | succ k ih =>
    intro i hk hi hI ls hl
    refine lv_iload_n hx hb d_PrimeFinder_isWithinWider_2 rfl (lv_at hl 2 rfl) ?_
    refine lv_aload_n hx hb d_PrimeFinder_isWithinWider_3 rfl (lv_at hl 0 rfl) ?_
    refine va_get (D := (dC, dI)) (ci := 4) (v := .ref a0) (C := R_PrimeFinder) (T := F_PrimeFinder) (N := 3) hx hb hts i_PrimeFinder hown hK hP 0 rfl rfl 0 (by decide) (hts _ mw_fl_PrimeFinder_15) (fun _ h9 => h9) rfl d_PrimeFinder_isWithinWider_4 ?_
    refine vp_callSi (W.runV (As := []) (rest := [.int ((nI i))]) ⟨hx, hb, hml, hown, hts⟩ (c_Products_inputs l dC dI cI cJ a0 a1 a2 a3 (nI N) (nI Z) care bits had ) (cwV 0 hts (ct_goodV mw_ml_PrimeFinder_55 mw_im_Products_inputs mw_se_Products_inputs mw_ini_Products mw_code_Products_inputs) rfl rfl rfl (by decide +kernel) ⟨Nat.le_of_ble_eq_true rfl, Nat.le_of_ble_eq_true rfl⟩) ⟨fun a U g mk q => by obtain ⟨q0, qP, qK⟩ := q; exact ⟨q0, qP, va_K.moved (u := U) (U := U.calling g mk a) (Vm.Alike.refl U.vm) qK⟩, va_recv hK hP (ci := 5) (q0 := 2) rfl rfl, fun U hU hW => ⟨rfl, by rw [hU]; exact (hP.sub (ws' := (wP cI a0 a1 a2 a3 (nI N) (nI Z) care bits had)) [2, 3, 4, 5] rfl), va_K.moved hW.alike hK⟩⟩ rfl rfl hl.1 rfl (lv_room (Nat.le_of_ble_eq_true rfl)) d_PrimeFinder_isWithinWider_7 ⟨Nat.le_of_ble_eq_true rfl, Nat.le_of_ble_eq_true rfl⟩) (fun r_1 hr_1 => ?_)
    rw [hr_1]
    clear hr_1
    refine lv_icmp_ge (tgt := 63) hx hb d_PrimeFinder_isWithinWider_10 (by decide) (fun c_10 => ?_) (fun c_10 => ?_)
    · have hE : i = N := Nat.le_antisymm hi ((nI_leI (by omega) (by omega)).mp c_10)
      subst hE
      refine lv_iconst (v := 0) hx hb d_PrimeFinder_isWithinWider_63 (by decide) ?_
      exact W.zret (v := 0) hx hb hr (by decide) (fun t ht hW => ⟨_, rfl, (by simp [hI]), ht⟩) (fun q h => by cases h) d_PrimeFinder_isWithinWider_64
    · have hlt : i < N := Nat.lt_of_not_le (fun h => c_10 ((nI_leI (by omega) (by omega)).mpr h))
      refine lv_aload_n hx hb d_PrimeFinder_isWithinWider_13 rfl (lv_at hl 0 rfl) ?_
      refine va_get (D := (dC, dI)) (ci := 4) (v := .ref a0) (C := R_PrimeFinder) (T := F_PrimeFinder) (N := 3) hx hb hts i_PrimeFinder hown hK hP 0 rfl rfl 0 (by decide) (hts _ mw_fl_PrimeFinder_15) (fun _ h9 => h9) rfl d_PrimeFinder_isWithinWider_14 ?_
      refine lv_iload_n hx hb d_PrimeFinder_isWithinWider_17 rfl (lv_at hl 1 rfl) ?_
      refine lv_iload_n hx hb d_PrimeFinder_isWithinWider_18 rfl (lv_at hl 2 rfl) ?_
      refine vp_callSi (W.runV (As := [.int ((nI q)), .int ((nI i))]) (rest := []) ⟨hx, hb, hml, hown, hts⟩ (c_Products_digit l dC dI cI cJ a0 a1 a2 a3 (nI N) (nI Z) care bits had (nI q) (nI i) (vp_in_nI hq (by omega))) (cwV 2 hts (ct_goodV mw_ml_PrimeFinder_58 mw_im_Products_digit mw_se_Products_digit mw_ini_Products mw_code_Products_digit) rfl rfl rfl (by decide +kernel) ⟨Nat.le_of_ble_eq_true rfl, Nat.le_of_ble_eq_true rfl⟩) ⟨fun a U g mk q => by obtain ⟨q0, qP, qK⟩ := q; exact ⟨q0, qP, va_K.moved (u := U) (U := U.calling g mk a) (Vm.Alike.refl U.vm) qK⟩, va_recv hK hP (ci := 5) (q0 := 2) rfl rfl, fun U hU hW => ⟨rfl, by rw [hU]; exact (hP.sub (ws' := (wP cI a0 a1 a2 a3 (nI N) (nI Z) care bits had)) [2, 3, 4, 5] rfl), va_K.moved hW.alike hK⟩⟩ rfl rfl hl.1 rfl (lv_room (Nat.le_of_ble_eq_true rfl)) d_PrimeFinder_isWithinWider_19 ⟨Nat.le_of_ble_eq_true rfl, Nat.le_of_ble_eq_true rfl⟩) (fun r_2 hr_2 => ?_)
      rw [hr_2]
      clear hr_2
      refine w_ti (show _ = fDig (care q) (bits q) (nI i) from by rw [nI_clamp (by omega)]) ?_
      refine lv_iconst (v := 2) hx hb d_PrimeFinder_isWithinWider_22 (by decide) ?_
      refine lv_icmp_eq (tgt := 57) hx hb d_PrimeFinder_isWithinWider_23 (by decide) (fun c_23 => ?_) (fun c_23 => ?_)
      · refine lv_iinc (v := (nI (i + 1))) (lv' := [(2, .int ((nI (i + 1)))), (0, .ref f0), (1, .int ((nI q)))]) hx hb d_PrimeFinder_isWithinWider_57 hl (k := 2) rfl (show nI i + 1 = nI (i + 1) from nI_1 i) (by decide) rfl (fun ls hl => ?_)
        refine lv_goto (tgt := 2) hx hb d_PrimeFinder_isWithinWider_60 (by decide) ?_
        exact ih (i + 1) (by omega) (by omega) (by rw [anyB_s, hI, fWide_f1 c_23]; rfl) ls (lv_sub hl [1, 2, 0] rfl)
      · refine lv_aload_n hx hb d_PrimeFinder_isWithinWider_26 rfl (lv_at hl 0 rfl) ?_
        refine va_get (D := (dC, dI)) (ci := 4) (v := .ref a0) (C := R_PrimeFinder) (T := F_PrimeFinder) (N := 3) hx hb hts i_PrimeFinder hown hK hP 0 rfl rfl 0 (by decide) (hts _ mw_fl_PrimeFinder_15) (fun _ h9 => h9) rfl d_PrimeFinder_isWithinWider_27 ?_
        refine lv_iload_n hx hb d_PrimeFinder_isWithinWider_30 rfl (lv_at hl 1 rfl) ?_
        refine lv_iload_n hx hb d_PrimeFinder_isWithinWider_31 rfl (lv_at hl 2 rfl) ?_
        refine lv_iconst (v := 2) hx hb d_PrimeFinder_isWithinWider_32 (by decide) ?_
        refine vp_callSi (W.runV (As := [.int ((nI q)), .int ((nI i)), .int 2]) (rest := []) ⟨hx, hb, hml, hown, hts⟩ (c_Products_withDigit l dC dI cI cJ a0 a1 a2 a3 N (nI Z) care bits had (nI q) (nI i) 2 hN (vp_in_nI hq (by omega))) (cwV 3 hts (ct_goodV mw_ml_PrimeFinder_62 mw_im_Products_withDigit mw_se_Products_withDigit mw_ini_Products mw_code_Products_withDigit) rfl rfl rfl (by decide +kernel) ⟨Nat.le_of_ble_eq_true rfl, Nat.le_of_ble_eq_true rfl⟩) ⟨fun a U g mk q => by obtain ⟨q0, qP, qK⟩ := q; exact ⟨q0, qP, va_K.moved (u := U) (U := U.calling g mk a) (Vm.Alike.refl U.vm) qK⟩, va_recv hK hP (ci := 5) (q0 := 2) rfl rfl, fun U hU hW => ⟨rfl, by rw [hU]; exact (hP.sub (ws' := (wP cI a0 a1 a2 a3 (nI N) (nI Z) care bits had)) [2, 3, 4, 5] rfl), va_K.moved hW.alike hK⟩⟩ rfl rfl hl.1 rfl (lv_room (Nat.le_of_ble_eq_true rfl)) d_PrimeFinder_isWithinWider_33 ⟨Nat.le_of_ble_eq_true rfl, Nat.le_of_ble_eq_true rfl⟩) (fun r_3 hr_3 => ?_)
        rw [hr_3]
        clear hr_3
        refine w_ti (show _ = fWith N (care q) (bits q) (nI i) 2 from by rw [nI_clamp (by omega)]) ?_
        refine lv_istore_n (lv' := [(3, .int ((fWith N (care q) (bits q) (nI i) 2))), (0, .ref f0), (1, .int ((nI q))), (2, .int ((nI i)))]) hx hb d_PrimeFinder_isWithinWider_36 rfl hl (by decide) rfl (fun ls hl => ?_)
        refine lv_aload_n hx hb d_PrimeFinder_isWithinWider_37 rfl (lv_at hl 1 rfl) ?_
        refine va_get (D := (dC, dI)) (ci := 4) (v := .ref f1) (C := R_PrimeFinder) (T := F_PrimeFinder) (N := 3) hx hb hts i_PrimeFinder hown hK hP 0 rfl rfl 2 (by decide) (hts _ mw_fl_PrimeFinder_9) (fun _ h9 => h9) rfl d_PrimeFinder_isWithinWider_38 ?_
        refine lv_iload_n hx hb d_PrimeFinder_isWithinWider_41 rfl (lv_at hl 2 rfl) ?_
        refine va_iald hx hb hK hP 1 0 rfl rfl (vp_in_nI hq (by omega)) d_PrimeFinder_isWithinWider_42 ?_
        refine w_ti (show _ = outs q from by rw [nI_clamp (by omega)]) ?_
        refine lv_aload_n hx hb d_PrimeFinder_isWithinWider_43 rfl (lv_at hl 1 rfl) ?_
        refine va_get (D := (dC, dI)) (ci := 4) (v := .ref f1) (C := R_PrimeFinder) (T := F_PrimeFinder) (N := 3) hx hb hts i_PrimeFinder hown hK hP 0 rfl rfl 2 (by decide) (hts _ mw_fl_PrimeFinder_9) (fun _ h9 => h9) rfl d_PrimeFinder_isWithinWider_44 ?_
        refine lv_iload_n hx hb d_PrimeFinder_isWithinWider_47 rfl (lv_at hl 0 rfl) ?_
        refine va_iald hx hb hK hP 1 0 rfl rfl (hW i hlt) d_PrimeFinder_isWithinWider_48 ?_
        refine lv_iconst (v := (-1)) hx hb d_PrimeFinder_isWithinWider_49 (by decide) ?_
        refine lv_ixor hx hb d_PrimeFinder_isWithinWider_50 ?_
        refine lv_iand hx hb d_PrimeFinder_isWithinWider_51 ?_
        refine lv_if_ne (tgt := 57) hx hb d_PrimeFinder_isWithinWider_52 (by decide) (fun c_52 => ?_) (fun c_52 => ?_)
        · refine lv_iinc (v := (nI (i + 1))) (lv' := [(2, .int ((nI (i + 1)))), (3, .int ((fWith N (care q) (bits q) (nI i) 2))), (0, .ref f0), (1, .int ((nI q)))]) hx hb d_PrimeFinder_isWithinWider_57 hl (k := 3) rfl (show nI i + 1 = nI (i + 1) from nI_1 i) (by decide) rfl (fun ls hl => ?_)
          refine lv_goto (tgt := 2) hx hb d_PrimeFinder_isWithinWider_60 (by decide) ?_
          exact ih (i + 1) (by omega) (by omega) (by rw [anyB_s, hI, fWide_f2 c_52]; rfl) ls (lv_sub hl [2, 3, 0] rfl)
        · refine lv_iconst (v := 1) hx hb d_PrimeFinder_isWithinWider_55 (by decide) ?_
          exact W.zret (v := 1) hx hb hr (by decide) (fun t ht hW => ⟨_, rfl, (if_pos (anyB_t (c := fWide outs care bits N q) hlt (fWide_t c_23 c_52))).symm, ht⟩) (fun q h => by cases h) d_PrimeFinder_isWithinWider_56
set_option maxHeartbeats 4000000 in
set_option maxRecDepth 100000 in
theorem c_PrimeFinder_isWithinWider (l : Launch) (dC : Nat → ClassId) (dI : Nat → Nat → Nat) (cI cJ : ClassId) (f0 : Nat) (f1 : Nat) (outs : Nat → Int32) (ou : Int32) (a0 : Nat) (a1 : Nat) (a2 : Nat) (a3 : Nat) (N : Nat) (Z : Nat) (care : Nat → Int32) (bits : Nat → Int32) (had : Nat → Int32) (q : Nat) (hN : N ≤ 4) (hq : q < 81) (hW : ∀ i, i < N → vp_in (fWith N (care q) (bits q) (nI i) 2) 81) : Met l y_PrimeFinder_isWithinWider (ct y_PrimeFinder_isWithinWider b_PrimeFinder_isWithinWider 4 (some .boolean)) ({ frames := 2, cells := 0, slots := 0, locals := 51 }) (va_Pc [.ref f0, .int ((nI q))] (fun U => va_P (dC, dI) classes [(f0, .inr (4, [.ref a0, .int ou, .ref f1])), (f1, .inl (cI, 81, .inl outs)), (a0, .inr (5, [.int ((nI N)), .int ((nI Z)), .ref a1, .ref a2, .ref a3])), (a1, .inl (cI, 81, .inl care)), (a2, .inl (cI, 81, .inl bits)), (a3, .inl (cI, 81, .inl had))] U.heap ∧ va_K (dC, dI) classes [(cI, .int), (cJ, .long)] U)) (vp_Si (fun r => r = if anyB (fWide outs care bits N q) N then 1 else 0)) 0 0 (fun _ => False) := by
  refine Met.ofW (cc := b_PrimeFinder_isWithinWider) (maxL := 4) (ret := some .boolean) (by decide) rfl ?_
  intro p e s m args below meth c s₁ B hml hv
  obtain ⟨rfl, hP, hK⟩ := hv
  have hx := B.exec
  have hb := B.bytes
  have hr := B.returns
  have hts : ∀ w ∈ lwg, w.before _ s = true := fun w h => atoms_spec (ws := ct y_PrimeFinder_isWithinWider b_PrimeFinder_isWithinWider 4 (some .boolean)) B.pre w (List.mem_cons_of_mem _ h)
  have hown : s.vm.findClass R_PrimeFinder = some m.cls := findClass_of_methodNamed B.named
  have hlocks := B.notSynchronized
  have hl := lv_entry ([.ref f0, .int ((nI q))]) (n := 4) (Nat.le_of_ble_eq_true rfl)
  rw [lg_entry_eq]
  generalize (lg_sl ([.ref f0, .int ((nI q))]) ++ List.replicate (4 - (lg_sl ([.ref f0, .int ((nI q))])).length) Slot.unset).toArray = ls at hl ⊢
  have hl : lv_has ls 4 [(0, .ref f0), (1, .int ((nI q)))] := hl
  refine lv_iconst (v := 0) hx hb d_PrimeFinder_isWithinWider_0 (by decide) ?_
  refine lv_istore_n (lv' := [(2, .int 0), (0, .ref f0), (1, .int ((nI q)))]) hx hb d_PrimeFinder_isWithinWider_1 rfl hl (by decide) rfl (fun ls hl => ?_)
  exact lp_PrimeFinder_isWithinWider l dC dI cI cJ f0 f1 outs ou a0 a1 a2 a3 N Z care bits had q hN hq hW hx hb hr hts hown hlocks hml hP hK (N + 1) 0 (by omega) (Nat.zero_le _) rfl ls (lv_sub hl [1, 2, 0] rfl)
set_option maxHeartbeats 4000000 in
set_option maxRecDepth 100000 in
theorem lp_PrimeFinder_fillOuts1 {p : Program} {e : Env} {s : State} {m : MethodId} {args : Array Value} {below : List Frame} {meth : Method} {c : Code} {Q : State → Prop} (l : Launch) (dC : Nat → ClassId) (dI : Nat → Nat → Nat) (cI cJ : ClassId) (f0 : Nat) (f1 : Nat) (outs : Nat → Int32) (b0 : Nat) (b1 : Nat) (b2 : Nat) (M : Nat) (OU : Nat) (prod : Nat → Int32) (kind : Nat → Int32) (a0 : Nat) (a1 : Nat) (a2 : Nat) (a3 : Nat) (N : Nat) (Z : Nat) (care : Nat → Int32) (bits : Nat → Int32) (had : Nat → Int32) (hM : M ≤ 24) (hOU : OU ≤ 2) (hpr : ∀ c, c < M → vp_in (prod c) 81) (hZ : Z ≤ 81)   (hx : p.tables.exec = Jvm.exec) (hb : c.code = b_PrimeFinder_fillOuts) (hts : ∀ w ∈ lwg, w.before args s = true) (hown : s.vm.findClass R_PrimeFinder = some m.cls) (hml : c.maxLocals = 5) (hK : va_K (dC, dI) classes [(cI, .int), (cJ, .long)] s) {A : Nat → Prop} (hA : ∀ q : Nat, s.heap.size ≤ q → A q) (kk : ∀ (H : Heap) (locs : List Loc) (ls : Array Slot), va_P (dC, dI) classes [(f0, .inr (4, [.ref a0, .int ((nI OU)), .ref f1])), (f1, .inl (cI, 81, .inl ((fOuts0 outs Z)))), (b0, .inr (1, [.ref a0, .int ((nI OU)), .ref b1, .ref b2, .int ((nI M))])), (b1, .inl (cI, 24, .inl prod)), (b2, .inl (cI, 48, .inl kind)), (a0, .inr (5, [.int ((nI N)), .int ((nI Z)), .ref a1, .ref a2, .ref a3])), (a1, .inl (cI, 81, .inl care)), (a2, .inl (cI, 81, .inl bits)), (a3, .inl (cI, 81, .inl had))] H → va_D A [(f0, .inr (4, [.ref a0, .int ((nI OU)), .ref f1])), (f1, .inl (cI, 81, .inl ((fOuts0 outs Z)))), (b0, .inr (1, [.ref a0, .int ((nI OU)), .ref b1, .ref b2, .int ((nI M))])), (b1, .inl (cI, 24, .inl prod)), (b2, .inl (cI, 48, .inl kind)), (a0, .inr (5, [.int ((nI N)), .int ((nI Z)), .ref a1, .ref a2, .ref a3])), (a1, .inl (cI, 81, .inl care)), (a2, .inl (cI, 81, .inl bits)), (a3, .inl (cI, 81, .inl had))] → va_S A s.heap H locs → lv_has ls 5 [(0, .ref f0), (1, .ref b0)] → W p l e ({ frames := 3, cells := 0, slots := 0, locals := 66 } : Room) s m args below meth c H locs 0 0 Q (F0 m 26 ls [])) : ∀ (k i : Nat), Z - i < k → i ≤ Z → ∀ (H : Heap) (locs : List Loc) (ls : Array Slot), va_P (dC, dI) classes [(f0, .inr (4, [.ref a0, .int ((nI OU)), .ref f1])), (f1, .inl (cI, 81, .inl ((fOuts0 outs i)))), (b0, .inr (1, [.ref a0, .int ((nI OU)), .ref b1, .ref b2, .int ((nI M))])), (b1, .inl (cI, 24, .inl prod)), (b2, .inl (cI, 48, .inl kind)), (a0, .inr (5, [.int ((nI N)), .int ((nI Z)), .ref a1, .ref a2, .ref a3])), (a1, .inl (cI, 81, .inl care)), (a2, .inl (cI, 81, .inl bits)), (a3, .inl (cI, 81, .inl had))] H → va_D A [(f0, .inr (4, [.ref a0, .int ((nI OU)), .ref f1])), (f1, .inl (cI, 81, .inl ((fOuts0 outs i)))), (b0, .inr (1, [.ref a0, .int ((nI OU)), .ref b1, .ref b2, .int ((nI M))])), (b1, .inl (cI, 24, .inl prod)), (b2, .inl (cI, 48, .inl kind)), (a0, .inr (5, [.int ((nI N)), .int ((nI Z)), .ref a1, .ref a2, .ref a3])), (a1, .inl (cI, 81, .inl care)), (a2, .inl (cI, 81, .inl bits)), (a3, .inl (cI, 81, .inl had))] → va_S A s.heap H locs → lv_has ls 5 [(0, .ref f0), (1, .ref b0), (2, .int ((nI i)))] → W p l e ({ frames := 3, cells := 0, slots := 0, locals := 66 } : Room) s m args below meth c H locs 0 0 Q (F0 m 2 ls []) := by
  intro k
  induction k with
  | zero => intro i h; omega
  | succ k ih =>
    intro i hk hi H locs ls hP hD hS hl
    refine lv_iload_n hx hb d_PrimeFinder_fillOuts_2 rfl (lv_at hl 2 rfl) ?_
    refine lv_aload_n hx hb d_PrimeFinder_fillOuts_3 rfl (lv_at hl 0 rfl) ?_
    refine va_get (D := (dC, dI)) (ci := 4) (v := .ref a0) (C := R_PrimeFinder) (T := F_PrimeFinder) (N := 3) hx hb hts i_PrimeFinder hown hK hP 0 rfl rfl 0 (by decide) (hts _ mw_fl_PrimeFinder_15) (fun _ h9 => h9) rfl d_PrimeFinder_fillOuts_4 ?_
    refine vp_callSi (W.runV (As := []) (rest := [.int ((nI i))]) ⟨hx, hb, hml, hown, hts⟩ (c_Products_size l dC dI cI cJ a0 a1 a2 a3 (nI N) (nI Z) care bits had ) (cwV 0 hts (ct_goodV mw_ml_PrimeFinder_32 mw_im_Products_size mw_se_Products_size mw_ini_Products mw_code_Products_size) rfl rfl rfl (by decide +kernel) ⟨Nat.le_of_ble_eq_true rfl, Nat.le_of_ble_eq_true rfl⟩) ⟨fun a U g mk q => by obtain ⟨q0, qP, qK⟩ := q; exact ⟨q0, qP, va_K.moved (u := U) (U := U.calling g mk a) (Vm.Alike.refl U.vm) qK⟩, va_recv hK hP (ci := 5) (q0 := 5) rfl rfl, fun U hU hW => ⟨rfl, by rw [hU]; exact (hP.sub (ws' := (wP cI a0 a1 a2 a3 (nI N) (nI Z) care bits had)) [5, 6, 7, 8] rfl), va_K.moved hW.alike hK⟩⟩ rfl rfl hl.1 rfl (lv_room (Nat.le_of_ble_eq_true rfl)) d_PrimeFinder_fillOuts_7 ⟨Nat.le_of_ble_eq_true rfl, Nat.le_of_ble_eq_true rfl⟩) (fun r_1 hr_1 => ?_)
    rw [hr_1]
    clear hr_1
    refine lv_icmp_ge (tgt := 26) hx hb d_PrimeFinder_fillOuts_10 (by decide) (fun c_10 => ?_) (fun c_10 => ?_)
    · have hE : i = Z := Nat.le_antisymm hi ((nI_leI (by omega) (by omega)).mp c_10)
      exact kk _ _ ls (by subst hE; exact hP.sub [0, 1, 2, 3, 4, 5, 6, 7, 8] rfl) (by subst hE; exact hD.sub [0, 1, 2, 3, 4, 5, 6, 7, 8] (by decide) rfl) hS (by subst hE; exact lv_sub hl [0, 1] rfl)
    · have hlt : i < Z := Nat.lt_of_not_le (fun h => c_10 ((nI_leI (by omega) (by omega)).mpr h))
      refine lv_aload_n hx hb d_PrimeFinder_fillOuts_13 rfl (lv_at hl 0 rfl) ?_
      refine va_get (D := (dC, dI)) (ci := 4) (v := .ref f1) (C := R_PrimeFinder) (T := F_PrimeFinder) (N := 3) hx hb hts i_PrimeFinder hown hK hP 0 rfl rfl 2 (by decide) (hts _ mw_fl_PrimeFinder_9) (fun _ h9 => h9) rfl d_PrimeFinder_fillOuts_14 ?_
      refine lv_iload_n hx hb d_PrimeFinder_fillOuts_17 rfl (lv_at hl 2 rfl) ?_
      refine lv_iconst (v := 0) hx hb d_PrimeFinder_fillOuts_18 (by decide) ?_
      refine va_iast hx hb hK hP hD hS 1 0 rfl rfl (vp_in_nI (show i < 81 by omega) (by omega)) d_PrimeFinder_fillOuts_19 (fun H locs hP hD hS => ?_)
      have hP : va_P (dC, dI) classes [(f0, .inr (4, [.ref a0, .int ((nI OU)), .ref f1])), (f1, .inl (cI, 81, .inl ((upd ((fOuts0 outs i)) (nI i).toNatClampNeg 0)))), (b0, .inr (1, [.ref a0, .int ((nI OU)), .ref b1, .ref b2, .int ((nI M))])), (b1, .inl (cI, 24, .inl prod)), (b2, .inl (cI, 48, .inl kind)), (a0, .inr (5, [.int ((nI N)), .int ((nI Z)), .ref a1, .ref a2, .ref a3])), (a1, .inl (cI, 81, .inl care)), (a2, .inl (cI, 81, .inl bits)), (a3, .inl (cI, 81, .inl had))] H := hP
      have hD : va_D A [(f0, .inr (4, [.ref a0, .int ((nI OU)), .ref f1])), (f1, .inl (cI, 81, .inl ((upd ((fOuts0 outs i)) (nI i).toNatClampNeg 0)))), (b0, .inr (1, [.ref a0, .int ((nI OU)), .ref b1, .ref b2, .int ((nI M))])), (b1, .inl (cI, 24, .inl prod)), (b2, .inl (cI, 48, .inl kind)), (a0, .inr (5, [.int ((nI N)), .int ((nI Z)), .ref a1, .ref a2, .ref a3])), (a1, .inl (cI, 81, .inl care)), (a2, .inl (cI, 81, .inl bits)), (a3, .inl (cI, 81, .inl had))] := hD
      rw [show (nI i).toNatClampNeg = i from nI_clamp (by omega)] at hP hD
      refine lv_iinc (v := (nI (i + 1))) (lv' := [(2, .int ((nI (i + 1)))), (0, .ref f0), (1, .ref b0)]) hx hb d_PrimeFinder_fillOuts_20 hl (k := 2) rfl (show nI i + 1 = nI (i + 1) from nI_1 i) (by decide) rfl (fun ls hl => ?_)
      refine lv_goto (tgt := 2) hx hb d_PrimeFinder_fillOuts_23 (by decide) ?_
      exact ih (i + 1) (by omega) (by omega) _ _ ls (hP.sub [0, 1, 2, 3, 4, 5, 6, 7, 8] rfl) (hD.sub [0, 1, 2, 3, 4, 5, 6, 7, 8] (by decide) rfl) hS (lv_sub hl [1, 2, 0] rfl)
set_option maxHeartbeats 4000000 in
set_option maxRecDepth 100000 in
theorem lp_PrimeFinder_fillOuts2 {p : Program} {e : Env} {s : State} {m : MethodId} {args : Array Value} {below : List Frame} {meth : Method} {c : Code} {Q : State → Prop} (l : Launch) (dC : Nat → ClassId) (dI : Nat → Nat → Nat) (cI cJ : ClassId) (f0 : Nat) (f1 : Nat) (outs : Nat → Int32) (b0 : Nat) (b1 : Nat) (b2 : Nat) (M : Nat) (OU : Nat) (prod : Nat → Int32) (kind : Nat → Int32) (a0 : Nat) (a1 : Nat) (a2 : Nat) (a3 : Nat) (N : Nat) (Z : Nat) (care : Nat → Int32) (bits : Nat → Int32) (had : Nat → Int32) (hM : M ≤ 24) (hOU : OU ≤ 2) (hpr : ∀ c, c < M → vp_in (prod c) 81) (hZ : Z ≤ 81) (j : Nat) (hj : j < OU) (hx : p.tables.exec = Jvm.exec) (hb : c.code = b_PrimeFinder_fillOuts) (hts : ∀ w ∈ lwg, w.before args s = true) (hown : s.vm.findClass R_PrimeFinder = some m.cls) (hml : c.maxLocals = 5) (hK : va_K (dC, dI) classes [(cI, .int), (cJ, .long)] s) {A : Nat → Prop} (hA : ∀ q : Nat, s.heap.size ≤ q → A q) (kk : ∀ (H : Heap) (locs : List Loc) (ls : Array Slot), va_P (dC, dI) classes [(f0, .inr (4, [.ref a0, .int ((nI OU)), .ref f1])), (f1, .inl (cI, 81, .inl ((fOutsI had (fNot prod kind had M j ^^^ (-1)) j (fOuts prod kind had M Z outs j) Z)))), (b0, .inr (1, [.ref a0, .int ((nI OU)), .ref b1, .ref b2, .int ((nI M))])), (b1, .inl (cI, 24, .inl prod)), (b2, .inl (cI, 48, .inl kind)), (a0, .inr (5, [.int ((nI N)), .int ((nI Z)), .ref a1, .ref a2, .ref a3])), (a1, .inl (cI, 81, .inl care)), (a2, .inl (cI, 81, .inl bits)), (a3, .inl (cI, 81, .inl had))] H → va_D A [(f0, .inr (4, [.ref a0, .int ((nI OU)), .ref f1])), (f1, .inl (cI, 81, .inl ((fOutsI had (fNot prod kind had M j ^^^ (-1)) j (fOuts prod kind had M Z outs j) Z)))), (b0, .inr (1, [.ref a0, .int ((nI OU)), .ref b1, .ref b2, .int ((nI M))])), (b1, .inl (cI, 24, .inl prod)), (b2, .inl (cI, 48, .inl kind)), (a0, .inr (5, [.int ((nI N)), .int ((nI Z)), .ref a1, .ref a2, .ref a3])), (a1, .inl (cI, 81, .inl care)), (a2, .inl (cI, 81, .inl bits)), (a3, .inl (cI, 81, .inl had))] → va_S A s.heap H locs → lv_has ls 5 [(0, .ref f0), (1, .ref b0), (2, .int ((nI j)))] → W p l e ({ frames := 3, cells := 0, slots := 0, locals := 66 } : Room) s m args below meth c H locs 0 0 Q (F0 m 92 ls [])) : ∀ (k i : Nat), Z - i < k → i ≤ Z → ∀ (H : Heap) (locs : List Loc) (ls : Array Slot), va_P (dC, dI) classes [(f0, .inr (4, [.ref a0, .int ((nI OU)), .ref f1])), (f1, .inl (cI, 81, .inl ((fOutsI had (fNot prod kind had M j ^^^ (-1)) j (fOuts prod kind had M Z outs j) i)))), (b0, .inr (1, [.ref a0, .int ((nI OU)), .ref b1, .ref b2, .int ((nI M))])), (b1, .inl (cI, 24, .inl prod)), (b2, .inl (cI, 48, .inl kind)), (a0, .inr (5, [.int ((nI N)), .int ((nI Z)), .ref a1, .ref a2, .ref a3])), (a1, .inl (cI, 81, .inl care)), (a2, .inl (cI, 81, .inl bits)), (a3, .inl (cI, 81, .inl had))] H → va_D A [(f0, .inr (4, [.ref a0, .int ((nI OU)), .ref f1])), (f1, .inl (cI, 81, .inl ((fOutsI had (fNot prod kind had M j ^^^ (-1)) j (fOuts prod kind had M Z outs j) i)))), (b0, .inr (1, [.ref a0, .int ((nI OU)), .ref b1, .ref b2, .int ((nI M))])), (b1, .inl (cI, 24, .inl prod)), (b2, .inl (cI, 48, .inl kind)), (a0, .inr (5, [.int ((nI N)), .int ((nI Z)), .ref a1, .ref a2, .ref a3])), (a1, .inl (cI, 81, .inl care)), (a2, .inl (cI, 81, .inl bits)), (a3, .inl (cI, 81, .inl had))] → va_S A s.heap H locs → lv_has ls 5 [(0, .ref f0), (1, .ref b0), (2, .int ((nI j))), (3, .int ((fNot prod kind had M j ^^^ (-1)))), (4, .int ((nI i)))] → W p l e ({ frames := 3, cells := 0, slots := 0, locals := 66 } : Room) s m args below meth c H locs 0 0 Q (F0 m 47 ls []) := by
  intro k
  induction k with
  | zero => intro i h; omega
  | succ k ih =>
    intro i hk hi H locs ls hP hD hS hl
    refine lv_iload hx hb d_PrimeFinder_fillOuts_47 (lv_at hl 4 rfl) ?_
    refine lv_aload_n hx hb d_PrimeFinder_fillOuts_49 rfl (lv_at hl 0 rfl) ?_
    refine va_get (D := (dC, dI)) (ci := 4) (v := .ref a0) (C := R_PrimeFinder) (T := F_PrimeFinder) (N := 3) hx hb hts i_PrimeFinder hown hK hP 0 rfl rfl 0 (by decide) (hts _ mw_fl_PrimeFinder_15) (fun _ h9 => h9) rfl d_PrimeFinder_fillOuts_50 ?_
    refine vp_callSi (W.runV (As := []) (rest := [.int ((nI i))]) ⟨hx, hb, hml, hown, hts⟩ (c_Products_size l dC dI cI cJ a0 a1 a2 a3 (nI N) (nI Z) care bits had ) (cwV 0 hts (ct_goodV mw_ml_PrimeFinder_32 mw_im_Products_size mw_se_Products_size mw_ini_Products mw_code_Products_size) rfl rfl rfl (by decide +kernel) ⟨Nat.le_of_ble_eq_true rfl, Nat.le_of_ble_eq_true rfl⟩) ⟨fun a U g mk q => by obtain ⟨q0, qP, qK⟩ := q; exact ⟨q0, qP, va_K.moved (u := U) (U := U.calling g mk a) (Vm.Alike.refl U.vm) qK⟩, va_recv hK hP (ci := 5) (q0 := 5) rfl rfl, fun U hU hW => ⟨rfl, by rw [hU]; exact (hP.sub (ws' := (wP cI a0 a1 a2 a3 (nI N) (nI Z) care bits had)) [5, 6, 7, 8] rfl), va_K.moved hW.alike hK⟩⟩ rfl rfl hl.1 rfl (lv_room (Nat.le_of_ble_eq_true rfl)) d_PrimeFinder_fillOuts_53 ⟨Nat.le_of_ble_eq_true rfl, Nat.le_of_ble_eq_true rfl⟩) (fun r_1 hr_1 => ?_)
    rw [hr_1]
    clear hr_1
    refine lv_icmp_ge (tgt := 92) hx hb d_PrimeFinder_fillOuts_56 (by decide) (fun c_56 => ?_) (fun c_56 => ?_)
    · have hE : i = Z := Nat.le_antisymm hi ((nI_leI (by omega) (by omega)).mp c_56)
      exact kk _ _ ls (by subst hE; exact hP.sub [0, 1, 2, 3, 4, 5, 6, 7, 8] rfl) (by subst hE; exact hD.sub [0, 1, 2, 3, 4, 5, 6, 7, 8] (by decide) rfl) hS (by subst hE; exact lv_sub hl [0, 1, 2] rfl)
    · have hlt : i < Z := Nat.lt_of_not_le (fun h => c_56 ((nI_leI (by omega) (by omega)).mpr h))
      refine lv_aload_n hx hb d_PrimeFinder_fillOuts_59 rfl (lv_at hl 0 rfl) ?_
      refine va_get (D := (dC, dI)) (ci := 4) (v := .ref a0) (C := R_PrimeFinder) (T := F_PrimeFinder) (N := 3) hx hb hts i_PrimeFinder hown hK hP 0 rfl rfl 0 (by decide) (hts _ mw_fl_PrimeFinder_15) (fun _ h9 => h9) rfl d_PrimeFinder_fillOuts_60 ?_
      refine lv_iload hx hb d_PrimeFinder_fillOuts_63 (lv_at hl 4 rfl) ?_
      refine vp_callSi (W.runV (As := [.int ((nI i))]) (rest := []) ⟨hx, hb, hml, hown, hts⟩ (c_Products_had l dC dI cI cJ a0 a1 a2 a3 (nI N) (nI Z) care bits had (nI i) (vp_in_nI (show i < 81 by omega) (by omega))) (cwV 1 hts (ct_goodV mw_ml_PrimeFinder_52 mw_im_Products_had mw_se_Products_had mw_ini_Products mw_code_Products_had) rfl rfl rfl (by decide +kernel) ⟨Nat.le_of_ble_eq_true rfl, Nat.le_of_ble_eq_true rfl⟩) ⟨fun a U g mk q => by obtain ⟨q0, qP, qK⟩ := q; exact ⟨q0, qP, va_K.moved (u := U) (U := U.calling g mk a) (Vm.Alike.refl U.vm) qK⟩, va_recv hK hP (ci := 5) (q0 := 5) rfl rfl, fun U hU hW => ⟨rfl, by rw [hU]; exact (hP.sub (ws' := (wP cI a0 a1 a2 a3 (nI N) (nI Z) care bits had)) [5, 6, 7, 8] rfl), va_K.moved hW.alike hK⟩⟩ rfl rfl hl.1 rfl (lv_room (Nat.le_of_ble_eq_true rfl)) d_PrimeFinder_fillOuts_65 ⟨Nat.le_of_ble_eq_true rfl, Nat.le_of_ble_eq_true rfl⟩) (fun r_2 hr_2 => ?_)
      rw [hr_2]
      clear hr_2
      refine w_ti (show _ = had i from by rw [nI_clamp (by omega)]) ?_
      refine lv_iload_n hx hb d_PrimeFinder_fillOuts_68 rfl (lv_at hl 3 rfl) ?_
      refine lv_iand hx hb d_PrimeFinder_fillOuts_69 ?_
      refine lv_if_ne (tgt := 86) hx hb d_PrimeFinder_fillOuts_70 (by decide) (fun c_70 => ?_) (fun c_70 => ?_)
      · refine lv_iinc (v := (nI (i + 1))) (lv' := [(4, .int ((nI (i + 1)))), (0, .ref f0), (1, .ref b0), (2, .int ((nI j))), (3, .int ((fNot prod kind had M j ^^^ (-1))))]) hx hb d_PrimeFinder_fillOuts_86 hl (k := 4) rfl (show nI i + 1 = nI (i + 1) from nI_1 i) (by decide) rfl (fun ls hl => ?_)
        refine lv_goto (tgt := 47) hx hb d_PrimeFinder_fillOuts_89 (by decide) ?_
        have hs : fOutsI had (fNot prod kind had M j ^^^ (-1)) j (fOuts prod kind had M Z outs j) (i + 1) = fOutsI had (fNot prod kind had M j ^^^ (-1)) j (fOuts prod kind had M Z outs j) i := if_neg c_70
        exact ih (i + 1) (by omega) (by omega) _ _ ls (by rw [hs]; exact hP.sub [0, 1, 2, 3, 4, 5, 6, 7, 8] rfl) (by rw [hs]; exact hD.sub [0, 1, 2, 3, 4, 5, 6, 7, 8] (by decide) rfl) hS (lv_sub hl [1, 2, 3, 4, 0] rfl)
      · refine lv_aload_n hx hb d_PrimeFinder_fillOuts_73 rfl (lv_at hl 0 rfl) ?_
        refine va_get (D := (dC, dI)) (ci := 4) (v := .ref f1) (C := R_PrimeFinder) (T := F_PrimeFinder) (N := 3) hx hb hts i_PrimeFinder hown hK hP 0 rfl rfl 2 (by decide) (hts _ mw_fl_PrimeFinder_9) (fun _ h9 => h9) rfl d_PrimeFinder_fillOuts_74 ?_
        refine lv_iload hx hb d_PrimeFinder_fillOuts_77 (lv_at hl 4 rfl) ?_
        refine lv_dup2_11 hx hb d_PrimeFinder_fillOuts_79 rfl rfl ?_
        refine va_iald hx hb hK hP 1 0 rfl rfl (vp_in_nI (show i < 81 by omega) (by omega)) d_PrimeFinder_fillOuts_80 ?_
        refine w_ti (show _ = (fOutsI had (fNot prod kind had M j ^^^ (-1)) j (fOuts prod kind had M Z outs j) i) i from by rw [nI_clamp (by omega)]) ?_
        refine lv_iconst (v := 1) hx hb d_PrimeFinder_fillOuts_81 (by decide) ?_
        refine lv_iload_n hx hb d_PrimeFinder_fillOuts_82 rfl (lv_at hl 2 rfl) ?_
        refine lv_ishl hx hb d_PrimeFinder_fillOuts_83 ?_
        refine lv_ior hx hb d_PrimeFinder_fillOuts_84 ?_
        refine va_iast hx hb hK hP hD hS 1 0 rfl rfl (vp_in_nI (show i < 81 by omega) (by omega)) d_PrimeFinder_fillOuts_85 (fun H locs hP hD hS => ?_)
        have hP : va_P (dC, dI) classes [(f0, .inr (4, [.ref a0, .int ((nI OU)), .ref f1])), (f1, .inl (cI, 81, .inl ((upd ((fOutsI had (fNot prod kind had M j ^^^ (-1)) j (fOuts prod kind had M Z outs j) i)) (nI i).toNatClampNeg ((((fOutsI had (fNot prod kind had M j ^^^ (-1)) j (fOuts prod kind had M Z outs j) i) i) ||| (1 <<< ((nI j) &&& 31)))))))), (b0, .inr (1, [.ref a0, .int ((nI OU)), .ref b1, .ref b2, .int ((nI M))])), (b1, .inl (cI, 24, .inl prod)), (b2, .inl (cI, 48, .inl kind)), (a0, .inr (5, [.int ((nI N)), .int ((nI Z)), .ref a1, .ref a2, .ref a3])), (a1, .inl (cI, 81, .inl care)), (a2, .inl (cI, 81, .inl bits)), (a3, .inl (cI, 81, .inl had))] H := hP
        have hD : va_D A [(f0, .inr (4, [.ref a0, .int ((nI OU)), .ref f1])), (f1, .inl (cI, 81, .inl ((upd ((fOutsI had (fNot prod kind had M j ^^^ (-1)) j (fOuts prod kind had M Z outs j) i)) (nI i).toNatClampNeg ((((fOutsI had (fNot prod kind had M j ^^^ (-1)) j (fOuts prod kind had M Z outs j) i) i) ||| (1 <<< ((nI j) &&& 31)))))))), (b0, .inr (1, [.ref a0, .int ((nI OU)), .ref b1, .ref b2, .int ((nI M))])), (b1, .inl (cI, 24, .inl prod)), (b2, .inl (cI, 48, .inl kind)), (a0, .inr (5, [.int ((nI N)), .int ((nI Z)), .ref a1, .ref a2, .ref a3])), (a1, .inl (cI, 81, .inl care)), (a2, .inl (cI, 81, .inl bits)), (a3, .inl (cI, 81, .inl had))] := hD
        rw [show (nI i).toNatClampNeg = i from nI_clamp (by omega)] at hP hD
        refine lv_iinc (v := (nI (i + 1))) (lv' := [(4, .int ((nI (i + 1)))), (0, .ref f0), (1, .ref b0), (2, .int ((nI j))), (3, .int ((fNot prod kind had M j ^^^ (-1))))]) hx hb d_PrimeFinder_fillOuts_86 hl (k := 4) rfl (show nI i + 1 = nI (i + 1) from nI_1 i) (by decide) rfl (fun ls hl => ?_)
        refine lv_goto (tgt := 47) hx hb d_PrimeFinder_fillOuts_89 (by decide) ?_
        have hs : fOutsI had (fNot prod kind had M j ^^^ (-1)) j (fOuts prod kind had M Z outs j) (i + 1) = upd (fOutsI had (fNot prod kind had M j ^^^ (-1)) j (fOuts prod kind had M Z outs j) i) i ((fOutsI had (fNot prod kind had M j ^^^ (-1)) j (fOuts prod kind had M Z outs j) i) i ||| (1 <<< (nI j &&& 31))) := if_pos c_70
        exact ih (i + 1) (by omega) (by omega) _ _ ls (by rw [hs]; exact hP.sub [0, 1, 2, 3, 4, 5, 6, 7, 8] rfl) (by rw [hs]; exact hD.sub [0, 1, 2, 3, 4, 5, 6, 7, 8] (by decide) rfl) hS (lv_sub hl [1, 2, 3, 4, 0] rfl)
set_option maxHeartbeats 4000000 in
set_option maxRecDepth 100000 in
theorem lp_PrimeFinder_fillOuts3 {p : Program} {e : Env} {s : State} {m : MethodId} {args : Array Value} {below : List Frame} {meth : Method} {c : Code} (l : Launch) (dC : Nat → ClassId) (dI : Nat → Nat → Nat) (cI cJ : ClassId) (f0 : Nat) (f1 : Nat) (outs : Nat → Int32) (b0 : Nat) (b1 : Nat) (b2 : Nat) (M : Nat) (OU : Nat) (prod : Nat → Int32) (kind : Nat → Int32) (a0 : Nat) (a1 : Nat) (a2 : Nat) (a3 : Nat) (N : Nat) (Z : Nat) (care : Nat → Int32) (bits : Nat → Int32) (had : Nat → Int32) (hM : M ≤ 24) (hOU : OU ≤ 2) (hpr : ∀ c, c < M → vp_in (prod c) 81) (hZ : Z ≤ 81) (hx : p.tables.exec = Jvm.exec) (hb : c.code = b_PrimeFinder_fillOuts) (hr : meth.sig.returnType = none) (hts : ∀ w ∈ lwg, w.before args s = true) (hown : s.vm.findClass R_PrimeFinder = some m.cls) (hlocks : meth.locks = false) (hml : c.maxLocals = 5) (hK : va_K (dC, dI) classes [(cI, .int), (cJ, .long)] s) {A : Nat → Prop} (hA : ∀ q : Nat, s.heap.size ≤ q → A q) : ∀ (k i : Nat), OU - i < k → i ≤ OU → ∀ (H : Heap) (locs : List Loc) (ls : Array Slot), va_P (dC, dI) classes [(f0, .inr (4, [.ref a0, .int ((nI OU)), .ref f1])), (f1, .inl (cI, 81, .inl ((fOuts prod kind had M Z outs i)))), (b0, .inr (1, [.ref a0, .int ((nI OU)), .ref b1, .ref b2, .int ((nI M))])), (b1, .inl (cI, 24, .inl prod)), (b2, .inl (cI, 48, .inl kind)), (a0, .inr (5, [.int ((nI N)), .int ((nI Z)), .ref a1, .ref a2, .ref a3])), (a1, .inl (cI, 81, .inl care)), (a2, .inl (cI, 81, .inl bits)), (a3, .inl (cI, 81, .inl had))] H → va_D A [(f0, .inr (4, [.ref a0, .int ((nI OU)), .ref f1])), (f1, .inl (cI, 81, .inl ((fOuts prod kind had M Z outs i)))), (b0, .inr (1, [.ref a0, .int ((nI OU)), .ref b1, .ref b2, .int ((nI M))])), (b1, .inl (cI, 24, .inl prod)), (b2, .inl (cI, 48, .inl kind)), (a0, .inr (5, [.int ((nI N)), .int ((nI Z)), .ref a1, .ref a2, .ref a3])), (a1, .inl (cI, 81, .inl care)), (a2, .inl (cI, 81, .inl bits)), (a3, .inl (cI, 81, .inl had))] → va_S A s.heap H locs → lv_has ls 5 [(0, .ref f0), (1, .ref b0), (2, .int ((nI i)))] → W p l e ({ frames := 3, cells := 0, slots := 0, locals := 66 } : Room) s m args below meth c H locs 0 0 (MQ below (va_Qv (fun _ : Unit => True) (fun _ => at_w dC dI cI cJ A [(f0, .inr (4, [.ref a0, .int ((nI OU)), .ref f1])), (f1, .inl (cI, 81, .inl ((fOuts prod kind had M Z outs OU)))), (b0, .inr (1, [.ref a0, .int ((nI OU)), .ref b1, .ref b2, .int ((nI M))])), (b1, .inl (cI, 24, .inl prod)), (b2, .inl (cI, 48, .inl kind)), (a0, .inr (5, [.int ((nI N)), .int ((nI Z)), .ref a1, .ref a2, .ref a3])), (a1, .inl (cI, 81, .inl care)), (a2, .inl (cI, 81, .inl bits)), (a3, .inl (cI, 81, .inl had))]) A) args s 0 0 A) (F0 m 28 ls []) := by
  intro k
  induction k with
  | zero => intro i h; omega
  | succ k ih =>
    intro i hk hi H locs ls hP hD hS hl
    refine lv_iload_n hx hb d_PrimeFinder_fillOuts_28 rfl (lv_at hl 2 rfl) ?_
    refine lv_aload_n hx hb d_PrimeFinder_fillOuts_29 rfl (lv_at hl 0 rfl) ?_
    refine va_get (D := (dC, dI)) (ci := 4) (v := .int ((nI OU))) (C := R_PrimeFinder) (T := F_PrimeFinder) (N := 3) hx hb hts i_PrimeFinder hown hK hP 0 rfl rfl 1 (by decide) (hts _ mw_fl_PrimeFinder_19) (fun _ h9 => h9) rfl d_PrimeFinder_fillOuts_30 ?_
    refine lv_icmp_ge (tgt := 98) hx hb d_PrimeFinder_fillOuts_33 (by decide) (fun c_33 => ?_) (fun c_33 => ?_)
    · have hE : i = OU := Nat.le_antisymm hi ((nI_leI (by omega) (by omega)).mp c_33)
      have hP9 := hP.sub (ws' := [(f0, .inr (4, [.ref a0, .int ((nI OU)), .ref f1])), (f1, .inl (cI, 81, .inl ((fOuts prod kind had M Z outs OU)))), (b0, .inr (1, [.ref a0, .int ((nI OU)), .ref b1, .ref b2, .int ((nI M))])), (b1, .inl (cI, 24, .inl prod)), (b2, .inl (cI, 48, .inl kind)), (a0, .inr (5, [.int ((nI N)), .int ((nI Z)), .ref a1, .ref a2, .ref a3])), (a1, .inl (cI, 81, .inl care)), (a2, .inl (cI, 81, .inl bits)), (a3, .inl (cI, 81, .inl had))]) [0, 1, 2, 3, 4, 5, 6, 7, 8] (by subst hE; rfl)
      have hD9 := hD.sub (ws' := [(f0, .inr (4, [.ref a0, .int ((nI OU)), .ref f1])), (f1, .inl (cI, 81, .inl ((fOuts prod kind had M Z outs OU)))), (b0, .inr (1, [.ref a0, .int ((nI OU)), .ref b1, .ref b2, .int ((nI M))])), (b1, .inl (cI, 24, .inl prod)), (b2, .inl (cI, 48, .inl kind)), (a0, .inr (5, [.int ((nI N)), .int ((nI Z)), .ref a1, .ref a2, .ref a3])), (a1, .inl (cI, 81, .inl care)), (a2, .inl (cI, 81, .inl bits)), (a3, .inl (cI, 81, .inl had))]) [0, 1, 2, 3, 4, 5, 6, 7, 8] (by decide) (by subst hE; rfl)
      exact W.vret hx hb hr (fun t ht hW => ⟨⟨(), rfl, trivial, by rw [ht]; exact hP9, va_K.moved hW.alike hK, hD9⟩, hS.F ht⟩) hS.2.2 d_PrimeFinder_fillOuts_98
    · have hlt : i < OU := Nat.lt_of_not_le (fun h => c_33 ((nI_leI (by omega) (by omega)).mpr h))
      refine lv_aload_n hx hb d_PrimeFinder_fillOuts_36 rfl (lv_at hl 1 rfl) ?_
      refine lv_iload_n hx hb d_PrimeFinder_fillOuts_37 rfl (lv_at hl 2 rfl) ?_
      refine vp_callSi (W.runV (As := [.int ((nI i))]) (rest := []) ⟨hx, hb, hml, hown, hts⟩ (c_Cubes_notOff l dC dI cI cJ b0 b1 b2 M (nI OU) prod kind a0 a1 a2 a3 (nI N) (nI Z) care bits had i hM (by omega) hpr) (cwV 1 hts (ct_goodV mw_ml_PrimeFinder_46 mw_im_Cubes_notOff mw_se_Cubes_notOff mw_ini_Cubes mw_code_Cubes_notOff) rfl rfl rfl (by decide +kernel) ⟨Nat.le_of_ble_eq_true rfl, Nat.le_of_ble_eq_true rfl⟩) ⟨fun a U g mk q => by obtain ⟨q0, qP, qK⟩ := q; exact ⟨q0, qP, va_K.moved (u := U) (U := U.calling g mk a) (Vm.Alike.refl U.vm) qK⟩, va_recv hK hP (ci := 1) (q0 := 2) rfl rfl, fun U hU hW => ⟨rfl, by rw [hU]; exact (hP.sub (ws' := (wC cI b0 b1 b2 a0 M (nI OU) prod kind ++ wP cI a0 a1 a2 a3 (nI N) (nI Z) care bits had)) [2, 3, 4, 5, 6, 7, 8] rfl), va_K.moved hW.alike hK⟩⟩ rfl rfl hl.1 rfl (lv_room (Nat.le_of_ble_eq_true rfl)) d_PrimeFinder_fillOuts_38 ⟨Nat.le_of_ble_eq_true rfl, Nat.le_of_ble_eq_true rfl⟩) (fun r_1 hr_1 => ?_)
      rw [hr_1]
      clear hr_1
      refine w_ti (show _ = fNot prod kind had M i from rfl) ?_
      refine lv_iconst (v := (-1)) hx hb d_PrimeFinder_fillOuts_41 (by decide) ?_
      refine lv_ixor hx hb d_PrimeFinder_fillOuts_42 ?_
      refine lv_istore_n (lv' := [(3, .int (((fNot prod kind had M i) ^^^ (-1)))), (0, .ref f0), (1, .ref b0), (2, .int ((nI i)))]) hx hb d_PrimeFinder_fillOuts_43 rfl hl (by decide) rfl (fun ls hl => ?_)
      refine lv_iconst (v := 0) hx hb d_PrimeFinder_fillOuts_44 (by decide) ?_
      refine lv_istore (lv' := [(4, .int 0), (3, .int (((fNot prod kind had M i) ^^^ (-1)))), (0, .ref f0), (1, .ref b0), (2, .int ((nI i)))]) hx hb d_PrimeFinder_fillOuts_45 hl (by decide) rfl (fun ls hl => ?_)
      refine lp_PrimeFinder_fillOuts2 l dC dI cI cJ f0 f1 outs b0 b1 b2 M OU prod kind a0 a1 a2 a3 N Z care bits had hM hOU hpr hZ i hlt hx hb hts hown hml hK hA (fun H locs ls hP hD hS hl => ?_) (Z + 1) 0 (by omega) (Nat.zero_le _) _ _ ls (hP.sub [0, 1, 2, 3, 4, 5, 6, 7, 8] rfl) (hD.sub [0, 1, 2, 3, 4, 5, 6, 7, 8] (by decide) rfl) hS (lv_sub hl [2, 3, 4, 1, 0] rfl)
      have hP : va_P (dC, dI) classes [(f0, .inr (4, [.ref a0, .int ((nI OU)), .ref f1])), (f1, .inl (cI, 81, .inl ((fOutsI had (fNot prod kind had M i ^^^ (-1)) i (fOuts prod kind had M Z outs i) Z)))), (b0, .inr (1, [.ref a0, .int ((nI OU)), .ref b1, .ref b2, .int ((nI M))])), (b1, .inl (cI, 24, .inl prod)), (b2, .inl (cI, 48, .inl kind)), (a0, .inr (5, [.int ((nI N)), .int ((nI Z)), .ref a1, .ref a2, .ref a3])), (a1, .inl (cI, 81, .inl care)), (a2, .inl (cI, 81, .inl bits)), (a3, .inl (cI, 81, .inl had))] H := hP
      have hD : va_D A [(f0, .inr (4, [.ref a0, .int ((nI OU)), .ref f1])), (f1, .inl (cI, 81, .inl ((fOutsI had (fNot prod kind had M i ^^^ (-1)) i (fOuts prod kind had M Z outs i) Z)))), (b0, .inr (1, [.ref a0, .int ((nI OU)), .ref b1, .ref b2, .int ((nI M))])), (b1, .inl (cI, 24, .inl prod)), (b2, .inl (cI, 48, .inl kind)), (a0, .inr (5, [.int ((nI N)), .int ((nI Z)), .ref a1, .ref a2, .ref a3])), (a1, .inl (cI, 81, .inl care)), (a2, .inl (cI, 81, .inl bits)), (a3, .inl (cI, 81, .inl had))] := hD
      have hl : lv_has ls 5 [(0, .ref f0), (1, .ref b0), (2, .int ((nI i)))] := hl
      refine lv_iinc (v := (nI (i + 1))) (lv' := [(2, .int ((nI (i + 1)))), (0, .ref f0), (1, .ref b0)]) hx hb d_PrimeFinder_fillOuts_92 hl (k := 2) rfl (show nI i + 1 = nI (i + 1) from nI_1 i) (by decide) rfl (fun ls hl => ?_)
      refine lv_goto (tgt := 28) hx hb d_PrimeFinder_fillOuts_95 (by decide) ?_
      exact ih (i + 1) (by omega) (by omega) _ _ ls (hP.sub [0, 1, 2, 3, 4, 5, 6, 7, 8] rfl) (hD.sub [0, 1, 2, 3, 4, 5, 6, 7, 8] (by decide) rfl) hS (lv_sub hl [1, 2, 0] rfl)
set_option maxHeartbeats 4000000 in
set_option maxRecDepth 100000 in
theorem c_PrimeFinder_fillOuts (l : Launch) (dC : Nat → ClassId) (dI : Nat → Nat → Nat) (cI cJ : ClassId) (sz0 : Nat) (f0 : Nat) (f1 : Nat) (outs : Nat → Int32) (b0 : Nat) (b1 : Nat) (b2 : Nat) (M : Nat) (OU : Nat) (prod : Nat → Int32) (kind : Nat → Int32) (a0 : Nat) (a1 : Nat) (a2 : Nat) (a3 : Nat) (N : Nat) (Z : Nat) (care : Nat → Int32) (bits : Nat → Int32) (had : Nat → Int32) (hM : M ≤ 24) (hOU : OU ≤ 2) (hpr : ∀ c, c < M → vp_in (prod c) 81) (hZ : Z ≤ 81) : Met l y_PrimeFinder_fillOuts (ct y_PrimeFinder_fillOuts b_PrimeFinder_fillOuts 5 (none)) ({ frames := 3, cells := 0, slots := 0, locals := 66 }) (va_Pc [.ref f0, .ref b0] (fun U => U.heap.size = sz0 ∧ va_P (dC, dI) classes [(f0, .inr (4, [.ref a0, .int ((nI OU)), .ref f1])), (f1, .inl (cI, 81, .inl outs)), (b0, .inr (1, [.ref a0, .int ((nI OU)), .ref b1, .ref b2, .int ((nI M))])), (b1, .inl (cI, 24, .inl prod)), (b2, .inl (cI, 48, .inl kind)), (a0, .inr (5, [.int ((nI N)), .int ((nI Z)), .ref a1, .ref a2, .ref a3])), (a1, .inl (cI, 81, .inl care)), (a2, .inl (cI, 81, .inl bits)), (a3, .inl (cI, 81, .inl had))] U.heap ∧ va_K (dC, dI) classes [(cI, .int), (cJ, .long)] U ∧ va_D (fun _ => True) [(f0, .inr (4, [.ref a0, .int ((nI OU)), .ref f1])), (f1, .inl (cI, 81, .inl outs)), (b0, .inr (1, [.ref a0, .int ((nI OU)), .ref b1, .ref b2, .int ((nI M))])), (b1, .inl (cI, 24, .inl prod)), (b2, .inl (cI, 48, .inl kind)), (a0, .inr (5, [.int ((nI N)), .int ((nI Z)), .ref a1, .ref a2, .ref a3])), (a1, .inl (cI, 81, .inl care)), (a2, .inl (cI, 81, .inl bits)), (a3, .inl (cI, 81, .inl had))])) (va_Qv (fun _ : Unit => True) (fun _ => at_w dC dI cI cJ (va_A [(f0, .inr (4, [.ref a0, .int ((nI OU)), .ref f1])), (f1, .inl (cI, 81, .inl outs)), (b0, .inr (1, [.ref a0, .int ((nI OU)), .ref b1, .ref b2, .int ((nI M))])), (b1, .inl (cI, 24, .inl prod)), (b2, .inl (cI, 48, .inl kind)), (a0, .inr (5, [.int ((nI N)), .int ((nI Z)), .ref a1, .ref a2, .ref a3])), (a1, .inl (cI, 81, .inl care)), (a2, .inl (cI, 81, .inl bits)), (a3, .inl (cI, 81, .inl had))] sz0) [(f0, .inr (4, [.ref a0, .int ((nI OU)), .ref f1])), (f1, .inl (cI, 81, .inl ((fOuts prod kind had M Z outs OU)))), (b0, .inr (1, [.ref a0, .int ((nI OU)), .ref b1, .ref b2, .int ((nI M))])), (b1, .inl (cI, 24, .inl prod)), (b2, .inl (cI, 48, .inl kind)), (a0, .inr (5, [.int ((nI N)), .int ((nI Z)), .ref a1, .ref a2, .ref a3])), (a1, .inl (cI, 81, .inl care)), (a2, .inl (cI, 81, .inl bits)), (a3, .inl (cI, 81, .inl had))]) (va_A [(f0, .inr (4, [.ref a0, .int ((nI OU)), .ref f1])), (f1, .inl (cI, 81, .inl outs)), (b0, .inr (1, [.ref a0, .int ((nI OU)), .ref b1, .ref b2, .int ((nI M))])), (b1, .inl (cI, 24, .inl prod)), (b2, .inl (cI, 48, .inl kind)), (a0, .inr (5, [.int ((nI N)), .int ((nI Z)), .ref a1, .ref a2, .ref a3])), (a1, .inl (cI, 81, .inl care)), (a2, .inl (cI, 81, .inl bits)), (a3, .inl (cI, 81, .inl had))] sz0)) 0 0 (va_A [(f0, .inr (4, [.ref a0, .int ((nI OU)), .ref f1])), (f1, .inl (cI, 81, .inl outs)), (b0, .inr (1, [.ref a0, .int ((nI OU)), .ref b1, .ref b2, .int ((nI M))])), (b1, .inl (cI, 24, .inl prod)), (b2, .inl (cI, 48, .inl kind)), (a0, .inr (5, [.int ((nI N)), .int ((nI Z)), .ref a1, .ref a2, .ref a3])), (a1, .inl (cI, 81, .inl care)), (a2, .inl (cI, 81, .inl bits)), (a3, .inl (cI, 81, .inl had))] sz0) := by
  refine Met.ofW (cc := b_PrimeFinder_fillOuts) (maxL := 5) (ret := none) (by decide) rfl ?_
  intro p e s m args below meth c s₁ B hml hv
  obtain ⟨rfl, hsz, hP, hK, hD0⟩ := hv
  have hx := B.exec
  have hb := B.bytes
  have hr := B.returns
  have hts : ∀ w ∈ lwg, w.before _ s = true := fun w h => atoms_spec (ws := ct y_PrimeFinder_fillOuts b_PrimeFinder_fillOuts 5 (none)) B.pre w (List.mem_cons_of_mem _ h)
  have hown : s.vm.findClass R_PrimeFinder = some m.cls := findClass_of_methodNamed B.named
  have hlocks := B.notSynchronized
  subst hsz
  have hD := hD0.self (sz := s.heap.size)
  generalize hAe : va_A [(f0, .inr (4, [.ref a0, .int ((nI OU)), .ref f1])), (f1, .inl (cI, 81, .inl outs)), (b0, .inr (1, [.ref a0, .int ((nI OU)), .ref b1, .ref b2, .int ((nI M))])), (b1, .inl (cI, 24, .inl prod)), (b2, .inl (cI, 48, .inl kind)), (a0, .inr (5, [.int ((nI N)), .int ((nI Z)), .ref a1, .ref a2, .ref a3])), (a1, .inl (cI, 81, .inl care)), (a2, .inl (cI, 81, .inl bits)), (a3, .inl (cI, 81, .inl had))] s.heap.size = A at hD ⊢
  have hA : ∀ q : Nat, s.heap.size ≤ q → A q := fun q h => by rw [← hAe]; exact Or.inr h
  have hS : va_S A s.heap s.heap [] := va_S.rf
  have hl := lv_entry ([.ref f0, .ref b0]) (n := 5) (Nat.le_of_ble_eq_true rfl)
  rw [lg_entry_eq]
  generalize (lg_sl ([.ref f0, .ref b0]) ++ List.replicate (5 - (lg_sl ([.ref f0, .ref b0])).length) Slot.unset).toArray = ls at hl ⊢
  have hl : lv_has ls 5 [(0, .ref f0), (1, .ref b0)] := hl
  have hP : va_P (dC, dI) classes [(f0, .inr (4, [.ref a0, .int ((nI OU)), .ref f1])), (f1, .inl (cI, 81, .inl outs)), (b0, .inr (1, [.ref a0, .int ((nI OU)), .ref b1, .ref b2, .int ((nI M))])), (b1, .inl (cI, 24, .inl prod)), (b2, .inl (cI, 48, .inl kind)), (a0, .inr (5, [.int ((nI N)), .int ((nI Z)), .ref a1, .ref a2, .ref a3])), (a1, .inl (cI, 81, .inl care)), (a2, .inl (cI, 81, .inl bits)), (a3, .inl (cI, 81, .inl had))] s.heap := hP
  refine lv_iconst (v := 0) hx hb d_PrimeFinder_fillOuts_0 (by decide) ?_
  refine lv_istore_n (lv' := [(2, .int 0), (0, .ref f0), (1, .ref b0)]) hx hb d_PrimeFinder_fillOuts_1 rfl hl (by decide) rfl (fun ls hl => ?_)
  refine lp_PrimeFinder_fillOuts1 l dC dI cI cJ f0 f1 outs b0 b1 b2 M OU prod kind a0 a1 a2 a3 N Z care bits had hM hOU hpr hZ   hx hb hts hown hml hK hA (fun H locs ls hP hD hS hl => ?_) (Z + 1) 0 (by omega) (Nat.zero_le _) _ _ ls (hP.sub [0, 1, 2, 3, 4, 5, 6, 7, 8] rfl) (hD.sub [0, 1, 2, 3, 4, 5, 6, 7, 8] (by decide) rfl) hS (lv_sub hl [1, 2, 0] rfl)
  have hP : va_P (dC, dI) classes [(f0, .inr (4, [.ref a0, .int ((nI OU)), .ref f1])), (f1, .inl (cI, 81, .inl ((fOuts0 outs Z)))), (b0, .inr (1, [.ref a0, .int ((nI OU)), .ref b1, .ref b2, .int ((nI M))])), (b1, .inl (cI, 24, .inl prod)), (b2, .inl (cI, 48, .inl kind)), (a0, .inr (5, [.int ((nI N)), .int ((nI Z)), .ref a1, .ref a2, .ref a3])), (a1, .inl (cI, 81, .inl care)), (a2, .inl (cI, 81, .inl bits)), (a3, .inl (cI, 81, .inl had))] H := hP
  have hD : va_D A [(f0, .inr (4, [.ref a0, .int ((nI OU)), .ref f1])), (f1, .inl (cI, 81, .inl ((fOuts0 outs Z)))), (b0, .inr (1, [.ref a0, .int ((nI OU)), .ref b1, .ref b2, .int ((nI M))])), (b1, .inl (cI, 24, .inl prod)), (b2, .inl (cI, 48, .inl kind)), (a0, .inr (5, [.int ((nI N)), .int ((nI Z)), .ref a1, .ref a2, .ref a3])), (a1, .inl (cI, 81, .inl care)), (a2, .inl (cI, 81, .inl bits)), (a3, .inl (cI, 81, .inl had))] := hD
  have hl : lv_has ls 5 [(0, .ref f0), (1, .ref b0)] := hl
  refine lv_iconst (v := 0) hx hb d_PrimeFinder_fillOuts_26 (by decide) ?_
  refine lv_istore_n (lv' := [(2, .int 0), (0, .ref f0), (1, .ref b0)]) hx hb d_PrimeFinder_fillOuts_27 rfl hl (by decide) rfl (fun ls hl => ?_)
  exact lp_PrimeFinder_fillOuts3 l dC dI cI cJ f0 f1 outs b0 b1 b2 M OU prod kind a0 a1 a2 a3 N Z care bits had hM hOU hpr hZ hx hb hr hts hown hlocks hml hK hA (OU + 1) 0 (by omega) (Nat.zero_le _) _ _ ls (hP.sub [0, 1, 2, 3, 4, 5, 6, 7, 8] rfl) (hD.sub [0, 1, 2, 3, 4, 5, 6, 7, 8] (by decide) rfl) hS (lv_sub hl [1, 2, 0] rfl)
end
