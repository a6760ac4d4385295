def F_CoverFinder : u_T := fun k => match k with
  | 0 => ("CoverRows$CoverFinder", "outputs", "I", true)
  | 1 => ("CoverRows$CoverFinder", "points", "[I", true)
  | 2 => ("CoverRows$CoverFinder", "costs", "[I", true)
  | 3 => ("CoverRows$CoverFinder", "weights", "[J", true)
  | 4 => ("CoverRows$CoverFinder", "havers", "[J", true)
  | 5 => ("CoverRows$CoverFinder", "picks", "[I", true)
  | 6 => ("CoverRows$CoverFinder", "size", "I", false)
  | 7 => ("CoverRows$CoverFinder", "allPoints", "I", false)
  | 8 => ("CoverRows$CoverFinder", "found", "J", false)
  | _ => ("CoverRows$CoverFinder", "foundWeight", "J", false)
def t_CoverFinder : Nat → FieldType := fun k => match k with
  | 0 => .int
  | 1 => .array .int
  | 2 => .array .int
  | 3 => .array .long
  | 4 => .array .long
  | 5 => .array .int
  | 6 => .int
  | 7 => .int
  | 8 => .long
  | _ => .long
abbrev w_CoverFinder : List Cond := u_ws R_CoverFinder F_CoverFinder 10
theorem n_CoverFinder : ∀ a, a < 10 → ∀ b, b < 10 → a ≠ b → (F_CoverFinder a).2.1 ≠ (F_CoverFinder b).2.1 := by decide +kernel
theorem t_CoverFinder_ok : ∀ k, k < 10 → parseFieldDescriptor (F_CoverFinder k).2.2.1 = some (t_CoverFinder k) := by decide +kernel
theorem i_CoverFinder : ∀ w ∈ w_CoverFinder, w ∈ lwg := by decide +kernel
def F_Cubes : u_T := fun k => match k with
  | 0 => ("CoverRows$Cubes", "products", "LCoverRows$Products;", true)
  | 1 => ("CoverRows$Cubes", "outputs", "I", true)
  | 2 => ("CoverRows$Cubes", "product", "[I", true)
  | 3 => ("CoverRows$Cubes", "kind", "[I", true)
  | _ => ("CoverRows$Cubes", "size", "I", false)
def t_Cubes : Nat → FieldType := fun k => match k with
  | 0 => .object "CoverRows$Products"
  | 1 => .int
  | 2 => .array .int
  | 3 => .array .int
  | _ => .int
abbrev w_Cubes : List Cond := u_ws R_Cubes F_Cubes 5
theorem n_Cubes : ∀ a, a < 5 → ∀ b, b < 5 → a ≠ b → (F_Cubes a).2.1 ≠ (F_Cubes b).2.1 := by decide +kernel
theorem t_Cubes_ok : ∀ k, k < 5 → parseFieldDescriptor (F_Cubes k).2.2.1 = some (t_Cubes k) := by decide +kernel
theorem i_Cubes : ∀ w ∈ w_Cubes, w ∈ lwg := by decide +kernel
def F_Diagrams : u_T := fun k => match k with
  | 0 => ("CoverRows$Diagrams", "inputs", "I", true)
  | 1 => ("CoverRows$Diagrams", "outputs", "I", true)
  | 2 => ("CoverRows$Diagrams", "asked", "[I", true)
  | 3 => ("CoverRows$Diagrams", "tables", "[I", true)
  | _ => ("CoverRows$Diagrams", "seen", "[I", true)
def t_Diagrams : Nat → FieldType := fun k => match k with
  | 0 => .int
  | 1 => .int
  | 2 => .array .int
  | 3 => .array .int
  | _ => .array .int
abbrev w_Diagrams : List Cond := u_ws R_Diagrams F_Diagrams 5
theorem n_Diagrams : ∀ a, a < 5 → ∀ b, b < 5 → a ≠ b → (F_Diagrams a).2.1 ≠ (F_Diagrams b).2.1 := by decide +kernel
theorem t_Diagrams_ok : ∀ k, k < 5 → parseFieldDescriptor (F_Diagrams k).2.2.1 = some (t_Diagrams k) := by decide +kernel
theorem i_Diagrams : ∀ w ∈ w_Diagrams, w ∈ lwg := by decide +kernel
def F_Division : u_T := fun k => match k with
  | 0 => ("CoverRows$Division", "products", "LCoverRows$Products;", true)
  | 1 => ("CoverRows$Division", "kernelLow", "[J", true)
  | 2 => ("CoverRows$Division", "kernelHigh", "[J", true)
  | 3 => ("CoverRows$Division", "row", "[I", true)
  | 4 => ("CoverRows$Division", "size", "I", false)
  | 5 => ("CoverRows$Division", "low", "J", false)
  | 6 => ("CoverRows$Division", "high", "J", false)
  | 7 => ("CoverRows$Division", "sharedOnes", "I", false)
  | _ => ("CoverRows$Division", "sharedZeros", "I", false)
def t_Division : Nat → FieldType := fun k => match k with
  | 0 => .object "CoverRows$Products"
  | 1 => .array .long
  | 2 => .array .long
  | 3 => .array .int
  | 4 => .int
  | 5 => .long
  | 6 => .long
  | 7 => .int
  | _ => .int
abbrev w_Division : List Cond := u_ws R_Division F_Division 9
theorem n_Division : ∀ a, a < 9 → ∀ b, b < 9 → a ≠ b → (F_Division a).2.1 ≠ (F_Division b).2.1 := by decide +kernel
theorem t_Division_ok : ∀ k, k < 9 → parseFieldDescriptor (F_Division k).2.2.1 = some (t_Division k) := by decide +kernel
theorem i_Division : ∀ w ∈ w_Division, w ∈ lwg := by decide +kernel
def F_PrimeFinder : u_T := fun k => match k with
  | 0 => ("CoverRows$PrimeFinder", "products", "LCoverRows$Products;", true)
  | 1 => ("CoverRows$PrimeFinder", "outputs", "I", true)
  | _ => ("CoverRows$PrimeFinder", "outs", "[I", true)
def t_PrimeFinder : Nat → FieldType := fun k => match k with
  | 0 => .object "CoverRows$Products"
  | 1 => .int
  | _ => .array .int
abbrev w_PrimeFinder : List Cond := u_ws R_PrimeFinder F_PrimeFinder 3
theorem n_PrimeFinder : ∀ a, a < 3 → ∀ b, b < 3 → a ≠ b → (F_PrimeFinder a).2.1 ≠ (F_PrimeFinder b).2.1 := by decide +kernel
theorem t_PrimeFinder_ok : ∀ k, k < 3 → parseFieldDescriptor (F_PrimeFinder k).2.2.1 = some (t_PrimeFinder k) := by decide +kernel
theorem i_PrimeFinder : ∀ w ∈ w_PrimeFinder, w ∈ lwg := by decide +kernel
def F_Products : u_T := fun k => match k with
  | 0 => ("CoverRows$Products", "inputs", "I", true)
  | 1 => ("CoverRows$Products", "size", "I", true)
  | 2 => ("CoverRows$Products", "care", "[I", true)
  | 3 => ("CoverRows$Products", "bits", "[I", true)
  | _ => ("CoverRows$Products", "had", "[I", true)
def t_Products : Nat → FieldType := fun k => match k with
  | 0 => .int
  | 1 => .int
  | 2 => .array .int
  | 3 => .array .int
  | _ => .array .int
abbrev w_Products : List Cond := u_ws R_Products F_Products 5
theorem n_Products : ∀ a, a < 5 → ∀ b, b < 5 → a ≠ b → (F_Products a).2.1 ≠ (F_Products b).2.1 := by decide +kernel
theorem t_Products_ok : ∀ k, k < 5 → parseFieldDescriptor (F_Products k).2.2.1 = some (t_Products k) := by decide +kernel
theorem i_Products : ∀ w ∈ w_Products, w ∈ lwg := by decide +kernel
def F_Terms : u_T := fun k => match k with
  | 0 => ("CoverRows$Terms", "products", "LCoverRows$Products;", true)
  | 1 => ("CoverRows$Terms", "product", "[I", true)
  | 2 => ("CoverRows$Terms", "outs", "[I", true)
  | _ => ("CoverRows$Terms", "size", "I", false)
def t_Terms : Nat → FieldType := fun k => match k with
  | 0 => .object "CoverRows$Products"
  | 1 => .array .int
  | 2 => .array .int
  | _ => .int
abbrev w_Terms : List Cond := u_ws R_Terms F_Terms 4
theorem n_Terms : ∀ a, a < 4 → ∀ b, b < 4 → a ≠ b → (F_Terms a).2.1 ≠ (F_Terms b).2.1 := by decide +kernel
theorem t_Terms_ok : ∀ k, k < 4 → parseFieldDescriptor (F_Terms k).2.2.1 = some (t_Terms k) := by decide +kernel
theorem i_Terms : ∀ w ∈ w_Terms, w ∈ lwg := by decide +kernel
def F_Main : u_T := fun k => match k with
  | 0 => ("CoverRows", "inputs", "I", true)
  | 1 => ("CoverRows", "outputs", "I", true)
  | 2 => ("CoverRows", "cubes", "LCoverRows$Cubes;", true)
  | 3 => ("CoverRows", "primes", "LCoverRows$Terms;", true)
  | 4 => ("CoverRows", "primeFinder", "LCoverRows$PrimeFinder;", true)
  | 5 => ("CoverRows", "coverFinder", "LCoverRows$CoverFinder;", true)
  | 6 => ("CoverRows", "kept", "LCoverRows$Terms;", true)
  | 7 => ("CoverRows", "division", "LCoverRows$Division;", true)
  | 8 => ("CoverRows", "diagrams", "LCoverRows$Diagrams;", true)
  | 9 => ("CoverRows", "hasKept", "Z", false)
  | _ => ("CoverRows", "primesAreOld", "Z", false)
def t_Main : Nat → FieldType := fun k => match k with
  | 0 => .int
  | 1 => .int
  | 2 => .object "CoverRows$Cubes"
  | 3 => .object "CoverRows$Terms"
  | 4 => .object "CoverRows$PrimeFinder"
  | 5 => .object "CoverRows$CoverFinder"
  | 6 => .object "CoverRows$Terms"
  | 7 => .object "CoverRows$Division"
  | 8 => .object "CoverRows$Diagrams"
  | 9 => .boolean
  | _ => .boolean
abbrev w_Main : List Cond := u_ws R_Main F_Main 11
theorem n_Main : ∀ a, a < 11 → ∀ b, b < 11 → a ≠ b → (F_Main a).2.1 ≠ (F_Main b).2.1 := by decide +kernel
theorem t_Main_ok : ∀ k, k < 11 → parseFieldDescriptor (F_Main k).2.2.1 = some (t_Main k) := by decide +kernel
theorem i_Main : ∀ w ∈ w_Main, w ∈ lwg := by decide +kernel
def F_Ref : u_T := fun k => match k with
  | 0 => ("CoverRowsModel", "thrown", "I", false)
  | 1 => ("CoverRowsModel", "inputs", "I", true)
  | 2 => ("CoverRowsModel", "outputs", "I", true)
  | 3 => ("CoverRowsModel", "products", "I", true)
  | 4 => ("CoverRowsModel", "digits", "[I", true)
  | 5 => ("CoverRowsModel", "kinds", "[I", true)
  | 6 => ("CoverRowsModel", "cubes", "I", false)
  | 7 => ("CoverRowsModel", "on", "[I", true)
  | 8 => ("CoverRowsModel", "can", "[I", true)
  | 9 => ("CoverRowsModel", "primeProducts", "[I", true)
  | 10 => ("CoverRowsModel", "primeOutputs", "[I", true)
  | 11 => ("CoverRowsModel", "primeCosts", "[I", true)
  | 12 => ("CoverRowsModel", "primePoints", "[I", true)
  | 13 => ("CoverRowsModel", "primes", "I", false)
  | 14 => ("CoverRowsModel", "rest", "[I", true)
  | 15 => ("CoverRowsModel", "kept", "Z", false)
  | 16 => ("CoverRowsModel", "keptProducts", "[I", true)
  | 17 => ("CoverRowsModel", "keptOutputs", "[I", true)
  | 18 => ("CoverRowsModel", "terms", "I", false)
  | 19 => ("CoverRowsModel", "quotients", "[I", true)
  | 20 => ("CoverRowsModel", "quotientCount", "I", false)
  | 21 => ("CoverRowsModel", "chosen", "[I", true)
  | 22 => ("CoverRowsModel", "best", "[I", true)
  | 23 => ("CoverRowsModel", "bestCost", "I", false)
  | _ => ("CoverRowsModel", "found", "[I", true)
def t_Ref : Nat → FieldType := fun k => match k with
  | 0 => .int
  | 1 => .int
  | 2 => .int
  | 3 => .int
  | 4 => .array .int
  | 5 => .array .int
  | 6 => .int
  | 7 => .array .int
  | 8 => .array .int
  | 9 => .array .int
  | 10 => .array .int
  | 11 => .array .int
  | 12 => .array .int
  | 13 => .int
  | 14 => .array .int
  | 15 => .boolean
  | 16 => .array .int
  | 17 => .array .int
  | 18 => .int
  | 19 => .array .int
  | 20 => .int
  | 21 => .array .int
  | 22 => .array .int
  | 23 => .int
  | _ => .array .int
abbrev w_Ref : List Cond := u_ws R_Ref F_Ref 25
theorem n_Ref : ∀ a, a < 25 → ∀ b, b < 25 → a ≠ b → (F_Ref a).2.1 ≠ (F_Ref b).2.1 := by decide +kernel
theorem t_Ref_ok : ∀ k, k < 25 → parseFieldDescriptor (F_Ref k).2.2.1 = some (t_Ref k) := by decide +kernel
theorem i_Ref : ∀ w ∈ w_Ref, w ∈ lwg := by decide +kernel
abbrev classes : List vw_C := [(R_CoverFinder, F_CoverFinder, 10), (R_Cubes, F_Cubes, 5), (R_Diagrams, F_Diagrams, 5), (R_Division, F_Division, 9), (R_PrimeFinder, F_PrimeFinder, 3), (R_Products, F_Products, 5), (R_Terms, F_Terms, 4), (R_Main, F_Main, 11), (R_Ref, F_Ref, 25)]
