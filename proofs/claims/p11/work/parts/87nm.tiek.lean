/-! ===== there are at most 48 primes ===== -/
def subN (x f : Nat) : Bool := Nat.beq (Nat.land x f) x
def pOK (f : Nat) (x : Nat × List Nat) : Bool := subN x.1 f && x.2.all (fun w => !subN w f)
def pcN (f : Nat) : List (Nat × List Nat) → Nat
  | [] => 0
  | x :: l => (pOK f x).toNat + pcN f l
def pcB (f g : Nat) : List (Nat × List Nat) → Nat
  | [] => 0
  | x :: l => (pOK f x && !subN x.1 g).toNat + pcB f g l
def w3 : List (Nat × List Nat) := [(1, [3, 5, 17]), (16, [48, 80, 17]), (17, [51, 85]), (4, [12, 5, 68]), (64, [192, 80, 68]), (68, [204, 85]), (5, [15, 85]), (80, [240, 85]), (85, [255]), (2, [3, 10, 34]), (32, [48, 160, 34]), (34, [51, 170]), (8, [12, 10, 136]), (128, [192, 160, 136]), (136, [204, 170]), (10, [15, 170]), (160, [240, 170]), (170, [255]), (3, [15, 51]), (48, [240, 51]), (51, [255]), (12, [15, 204]), (192, [240, 204]), (204, [255]), (15, [255]), (240, [255]), (255, [])]
def w4 : List (Nat × List Nat) → List (Nat × List Nat)
  | [] => []
  | x :: l => (x.1, x.2 ++ [257 * x.1]) :: (256 * x.1, x.2.map (256 * ·) ++ [257 * x.1]) :: (257 * x.1, x.2.map (257 * ·)) :: w4 l
theorem tb8 {a b : Nat} (ha : a < 256) (j : Nat) : (a + 256 * b).testBit j = if j < 8 then a.testBit j else b.testBit (j - 8) := by
  rw [Nat.add_comm, show (256 : Nat) = 2 ^ 8 from rfl]
  exact Nat.testBit_two_pow_mul_add b ha j
theorem land8 {a b c d : Nat} (ha : a < 256) (hc : c < 256) : (a + 256 * b) &&& (c + 256 * d) = (a &&& c) + 256 * (b &&& d) := by
  have h : a &&& c < 256 := Nat.lt_of_le_of_lt Nat.and_le_left ha
  refine Nat.eq_of_testBit_eq (fun j => ?_)
  rw [Nat.testBit_and, tb8 ha, tb8 hc, tb8 h]
  split
  · rw [Nat.testBit_and]
  · rw [Nat.testBit_and]
theorem subN_iff {x f : Nat} : subN x f = true ↔ x &&& f = x := by
  unfold subN
  rw [Nat.beq_eq]; exact Iff.rfl
theorem bool_ext {a b : Bool} (h : a = true ↔ b = true) : a = b := by cases a <;> cases b <;> simp_all
theorem sub_lo {x f g : Nat} (hx : x < 256) (hf : f < 256) : subN x (f + 256 * g) = subN x f := by
  apply bool_ext
  rw [subN_iff, subN_iff]
  have h := land8 (a := x) (b := 0) (c := f) (d := g) hx hf
  rw [Nat.mul_zero, Nat.add_zero, Nat.zero_and, Nat.mul_zero, Nat.add_zero] at h
  rw [h]
theorem sub_hi {x f g : Nat} (hf : f < 256) : subN (256 * x) (f + 256 * g) = subN x g := by
  apply bool_ext
  rw [subN_iff, subN_iff]
  have h := land8 (a := 0) (b := x) (c := f) (d := g) (by omega) hf
  rw [Nat.zero_add, Nat.zero_and, Nat.zero_add] at h
  rw [h]; omega
theorem sub_bo {x f g : Nat} (hx : x < 256) (hf : f < 256) : subN (257 * x) (f + 256 * g) = subN x (f &&& g) := by
  apply bool_ext
  rw [subN_iff, subN_iff]
  have h := land8 (a := x) (b := x) (c := f) (d := g) hx hf
  rw [show 257 * x = x + 256 * x by omega, h]
  have h1 : x &&& f ≤ x := Nat.and_le_left
  have h2 : x &&& g ≤ x := Nat.and_le_left
  constructor
  · intro e
    have e1 : x &&& f = x := by omega
    have e2 : x &&& g = x := by omega
    rw [← Nat.and_assoc, e1, e2]
  · intro e
    have e1 : x &&& f = x := by
      have h3 : (x &&& (f &&& g)) ≤ x &&& f := by rw [← Nat.and_assoc]; exact Nat.and_le_left
      omega
    have e2 : x &&& g = x := by
      have h3 : (x &&& (f &&& g)) ≤ x &&& g := by rw [Nat.and_comm f g, ← Nat.and_assoc]; exact Nat.and_le_left
      omega
    rw [e1, e2]
theorem all_app1 {l : List Nat} {p : Nat → Bool} {y : Nat} : (l ++ [y]).all p = (l.all p && p y) := by rw [List.all_append]; simp
theorem all_cong {l : List Nat} {p q : Nat → Bool} (h : ∀ x, x ∈ l → p x = q x) : l.all p = l.all q := by
  induction l with
  | nil => rfl
  | cons a l ih =>
    rw [List.all_cons, List.all_cons, h a List.mem_cons_self, ih (fun x hx => h x (List.mem_cons_of_mem _ hx))]
theorem pc_4 {f g : Nat} (hf : f < 256) (hg : g < 256) : ∀ l : List (Nat × List Nat), (∀ x, x ∈ l → x.1 < 256 ∧ ∀ w, w ∈ x.2 → w < 256) → pcN (f + 256 * g) (w4 l) = pcN (f &&& g) l + pcB f g l + pcB g f l
  | [], _ => rfl
  | x :: l, h => by
    obtain ⟨h1, h2⟩ := h x List.mem_cons_self
    have ih := pc_4 hf hg l (fun y hy => h y (List.mem_cons_of_mem _ hy))
    have e0 : pOK (f + 256 * g) (x.1, x.2 ++ [257 * x.1]) = (pOK f x && !subN x.1 g) := by
      show (subN x.1 (f + 256 * g) && (x.2 ++ [257 * x.1]).all (fun w => !subN w (f + 256 * g))) = ((subN x.1 f && x.2.all (fun w => !subN w f)) && !subN x.1 g)
      rw [all_app1, sub_lo h1 hf, sub_bo h1 hf, all_cong (q := fun w => !subN w f) (fun w hw => by rw [sub_lo (h2 w hw) hf])]
      have e : subN x.1 (f &&& g) = (subN x.1 f && subN x.1 g) := by
        apply bool_ext
        rw [Bool.and_eq_true, subN_iff, subN_iff, subN_iff]
        have h3 : (x.1 &&& (f &&& g)) ≤ x.1 &&& f := by rw [← Nat.and_assoc]; exact Nat.and_le_left
        have h4 : (x.1 &&& (f &&& g)) ≤ x.1 &&& g := by rw [Nat.and_comm f g, ← Nat.and_assoc]; exact Nat.and_le_left
        have h5 : x.1 &&& f ≤ x.1 := Nat.and_le_left
        have h6 : x.1 &&& g ≤ x.1 := Nat.and_le_left
        constructor
        · intro e; exact ⟨by omega, by omega⟩
        · rintro ⟨e, e'⟩; rw [← Nat.and_assoc, e, e']
      rw [e]
      cases subN x.1 f <;> cases subN x.1 g <;> cases x.2.all (fun w => !subN w f) <;> rfl
    have e1 : pOK (f + 256 * g) (256 * x.1, x.2.map (256 * ·) ++ [257 * x.1]) = (pOK g x && !subN x.1 f) := by
      show (subN (256 * x.1) (f + 256 * g) && (x.2.map (256 * ·) ++ [257 * x.1]).all (fun w => !subN w (f + 256 * g))) = ((subN x.1 g && x.2.all (fun w => !subN w g)) && !subN x.1 f)
      rw [all_app1, sub_hi hf, sub_bo h1 hf, List.all_map, all_cong (p := (fun w => !subN w (f + 256 * g)) ∘ (256 * ·)) (q := fun w => !subN w g) (fun w hw => by show (!subN (256 * w) (f + 256 * g)) = _; rw [sub_hi hf])]
      have e : subN x.1 (f &&& g) = (subN x.1 f && subN x.1 g) := by
        apply bool_ext
        rw [Bool.and_eq_true, subN_iff, subN_iff, subN_iff]
        have h3 : (x.1 &&& (f &&& g)) ≤ x.1 &&& f := by rw [← Nat.and_assoc]; exact Nat.and_le_left
        have h4 : (x.1 &&& (f &&& g)) ≤ x.1 &&& g := by rw [Nat.and_comm f g, ← Nat.and_assoc]; exact Nat.and_le_left
        have h5 : x.1 &&& f ≤ x.1 := Nat.and_le_left
        have h6 : x.1 &&& g ≤ x.1 := Nat.and_le_left
        constructor
        · intro e; exact ⟨by omega, by omega⟩
        · rintro ⟨e, e'⟩; rw [← Nat.and_assoc, e, e']
      rw [e]
      cases subN x.1 f <;> cases subN x.1 g <;> cases x.2.all (fun w => !subN w g) <;> rfl
    have e2 : pOK (f + 256 * g) (257 * x.1, x.2.map (257 * ·)) = pOK (f &&& g) x := by
      show (subN (257 * x.1) (f + 256 * g) && (x.2.map (257 * ·)).all (fun w => !subN w (f + 256 * g))) = (subN x.1 (f &&& g) && x.2.all (fun w => !subN w (f &&& g)))
      rw [sub_bo h1 hf, List.all_map, all_cong (p := (fun w => !subN w (f + 256 * g)) ∘ (257 * ·)) (q := fun w => !subN w (f &&& g)) (fun w hw => by show (!subN (257 * w) (f + 256 * g)) = _; rw [sub_bo (h2 w hw) hf])]
    show (pOK (f + 256 * g) (x.1, x.2 ++ [257 * x.1])).toNat + ((pOK (f + 256 * g) (256 * x.1, x.2.map (256 * ·) ++ [257 * x.1])).toNat + ((pOK (f + 256 * g) (257 * x.1, x.2.map (257 * ·))).toNat + pcN (f + 256 * g) (w4 l))) = ((pOK (f &&& g) x).toNat + pcN (f &&& g) l) + ((pOK f x && !subN x.1 g).toNat + pcB f g l) + ((pOK g x && !subN x.1 f).toNat + pcB g f l)
    rw [e0, e1, e2, ih]
    omega
theorem pcB_le (f g : Nat) : ∀ l, pcB f g l ≤ pcN f l
  | [] => Nat.le_refl 0
  | x :: l => by
    have ih := pcB_le f g l
    show (pOK f x && !subN x.1 g).toNat + pcB f g l ≤ (pOK f x).toNat + pcN f l
    have : (pOK f x && !subN x.1 g).toNat ≤ (pOK f x).toNat := by cases pOK f x <;> cases subN x.1 g <;> decide
    omega
def bigs : List Nat := [126, 189, 219, 231]
set_option maxRecDepth 100000 in
theorem c3_c : (List.range 256).all (fun f => Nat.ble (pcN f w3) 6 && (Nat.ble (pcN f w3) 4 || bigs.contains f)) = true := by decide +kernel
set_option maxRecDepth 100000 in
theorem c3_b : bigs.all (fun f => bigs.all (fun g => Nat.ble (pcN (f &&& g) w3 + pcB f g w3 + pcB g f w3) 16)) = true := by decide +kernel
theorem w3_lt : ∀ x, x ∈ w3 → x.1 < 256 ∧ ∀ w, w ∈ x.2 → w < 256 := by
  have h : w3.all (fun x => decide (x.1 < 256) && x.2.all (fun w => decide (w < 256))) = true := by decide +kernel
  intro x hx
  have h1 := Bool.and_eq_true_iff.mp (List.all_eq_true.mp h x hx)
  exact ⟨of_decide_eq_true h1.1, fun w hw => of_decide_eq_true (List.all_eq_true.mp h1.2 w hw)⟩
theorem all_r2 {n : Nat} {f : Nat → Bool} (h : (List.range n).all f = true) {i : Nat} (hi : i < n) : f i = true := List.all_eq_true.mp h i (List.mem_range.mpr hi)
theorem pc_16 {F : Nat} (hF : F < 65536) : pcN F (w4 w3) ≤ 16 := by
  have hf : F % 256 < 256 := Nat.mod_lt _ (by omega)
  have hg : F / 256 < 256 := by omega
  have e : F = F % 256 + 256 * (F / 256) := by omega
  rw [e, pc_4 hf hg w3 w3_lt]
  generalize F % 256 = f at hf
  generalize F / 256 = g at hg
  have hfg : f &&& g < 256 := Nat.lt_of_le_of_lt Nat.and_le_left hf
  have a := Bool.and_eq_true_iff.mp (all_r2 c3_c hf)
  have b := Bool.and_eq_true_iff.mp (all_r2 c3_c hg)
  have c := Bool.and_eq_true_iff.mp (all_r2 c3_c hfg)
  have a1 := Nat.le_of_ble_eq_true a.1
  have b1 := Nat.le_of_ble_eq_true b.1
  have c1 := Nat.le_of_ble_eq_true c.1
  have p1 := pcB_le f g w3
  have p2 := pcB_le g f w3
  rcases (Bool.or_eq_true _ _ ▸ a.2 : _ ∨ _) with h | h
  · have := Nat.le_of_ble_eq_true h; omega
  · rcases (Bool.or_eq_true _ _ ▸ b.2 : _ ∨ _) with k | k
    · have := Nat.le_of_ble_eq_true k; omega
    · exact Nat.le_of_ble_eq_true (List.all_eq_true.mp (List.all_eq_true.mp c3_b f (List.elem_iff.mp h)) g (List.elem_iff.mp k))
