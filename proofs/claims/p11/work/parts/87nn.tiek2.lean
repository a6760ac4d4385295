/-! ===== at most 48 primes, second part ===== -/
theorem pcN_app (f : Nat) : ∀ (l : List (Nat × List Nat)) (x : Nat × List Nat), pcN f (l ++ [x]) = pcN f l + (pOK f x).toNat
  | [], x => by show (pOK f x).toNat + 0 = 0 + (pOK f x).toNat; omega
  | y :: l, x => by
    show (pOK f y).toNat + pcN f (l ++ [x]) = (pOK f y).toNat + pcN f l + (pOK f x).toNat
    rw [pcN_app f l x]; omega
theorem cnt_pc {P : Nat → Bool} {f1 f2 f3 : Nat} {l : List (Nat × List Nat)} (h : ∀ p, p < l.length → P p = true → ∃ x, l[p]? = some x ∧ (pOK f1 x = true ∨ pOK f2 x = true ∨ pOK f3 x = true)) (n : Nat) (hn : n ≤ l.length) : cnt P n ≤ pcN f1 (l.take n) + pcN f2 (l.take n) + pcN f3 (l.take n) := by
  induction n with
  | zero => exact Nat.zero_le _
  | succ n ih =>
    have ih := ih (by omega)
    have hx : l[n]? = some l[n] := List.getElem?_eq_getElem (by omega)
    rw [cnt_s, List.take_add_one, hx, show (some l[n]).toList = [l[n]] from rfl, pcN_app, pcN_app, pcN_app]
    split
    · rename_i hP
      obtain ⟨x, e1, e2⟩ := h n (by omega) hP
      rw [hx] at e1
      cases e1
      rcases e2 with e2 | e2 | e2 <;> rw [e2] <;> simp <;> omega
    · omega
def FN (x : Int32) : Nat := x.toBitVec.toNat % 65536
theorem FN_b (x : Int32) (j : Nat) : (FN x).testBit j = (decide (j < 16) && bt x j) := by
  unfold FN
  rw [show (65536 : Nat) = 2 ^ 16 from rfl, Nat.testBit_mod_two_pow]
  rfl
theorem FN_lt (x : Int32) : FN x < 65536 := Nat.mod_lt _ (by omega)
theorem nI_bt {y j : Nat} (hj : j < 32) : bt (nI y) j = y.testBit j := by
  show (BitVec.ofNat 32 y).getLsbD j = _
  rw [BitVec.getLsbD_ofNat, decide_eq_true hj, Bool.true_and]
theorem subI {y : Nat} {x : Int32} (hy : y < 65536) : nI y &&& (x ^^^ (-1)) = 0 ↔ subN y (FN x) = true := by
  rw [nb0, subN_iff]
  constructor
  · intro h
    refine Nat.eq_of_testBit_eq (fun j => ?_)
    rw [Nat.testBit_and, FN_b]
    by_cases hj : j < 16
    · cases hb : y.testBit j with
      | false => rfl
      | true => rw [h j (by omega) (by rw [nI_bt (by omega)]; exact hb), decide_eq_true hj]; rfl
    · rw [Nat.testBit_lt_two_pow (x := y) (i := j) (Nat.lt_of_lt_of_le hy (Nat.pow_le_pow_right (n := 2) (by omega) (show 16 ≤ j by omega)))]; rfl
  · intro h e he hb
    rw [nI_bt he, ← h, Nat.testBit_and, FN_b, Bool.and_eq_true, Bool.and_eq_true] at hb
    exact hb.2.2
def e4B : Bool := (List.range 81).all (fun p => match (w4 w3)[p]? with
  | none => false
  | some x => decide (x.1 < 65536) && decide (rPts 4 p 16 = nI x.1) && x.2.all (fun w => decide (w < 65536) && (List.range 4).any (fun i => !decide (rDig 4 p i = 2) && decide (rPts 4 (setD 4 p i 2) 16 = nI w))))
set_option maxRecDepth 100000 in
theorem e4_c : e4B = true := by decide +kernel
theorem w4_len : (w4 w3).length = 81 := by decide +kernel
theorem e4_p {p : Nat} (hp : p < 81) : ∃ x, (w4 w3)[p]? = some x ∧ x.1 < 65536 ∧ rPts 4 p 16 = nI x.1 ∧ ∀ w, w ∈ x.2 → w < 65536 ∧ ∃ i, i < 4 ∧ rDig 4 p i ≠ 2 ∧ rPts 4 (setD 4 p i 2) 16 = nI w := by
  have h := all_r2 e4_c hp
  cases hx : (w4 w3)[p]? with
  | none => rw [hx] at h; exact (Bool.false_ne_true h).elim
  | some x =>
    rw [hx] at h
    have h1 := Bool.and_eq_true_iff.mp h
    have h2 := Bool.and_eq_true_iff.mp h1.1
    refine ⟨x, rfl, of_decide_eq_true h2.1, of_decide_eq_true h2.2, fun w hw => ?_⟩
    have h3 := Bool.and_eq_true_iff.mp (List.all_eq_true.mp h1.2 w hw)
    obtain ⟨i, hi, h4⟩ := List.any_eq_true.mp h3.2
    have h5 := Bool.and_eq_true_iff.mp h4
    exact ⟨of_decide_eq_true h3.1, i, List.mem_range.mp hi, fun g => by rw [decide_eq_true g] at h5; exact absurd h5.1 (by decide), of_decide_eq_true h5.2⟩
/-- what the outputs of s all can be -/
def canS (can : Nat → Int32) (s : Int32) : Int32 := (if bt s 0 = true then can 0 else -1) &&& (if bt s 1 = true then can 1 else -1)
theorem sub_and {x y z : Int32} : x &&& ((y &&& z) ^^^ (-1)) = 0 ↔ x &&& (y ^^^ (-1)) = 0 ∧ x &&& (z ^^^ (-1)) = 0 := by
  rw [nb0, nb0, nb0]
  constructor
  · intro h
    refine ⟨fun e he hb => ?_, fun e he hb => ?_⟩
    · have := h e he hb; rw [b_and, Bool.and_eq_true] at this; exact this.1
    · have := h e he hb; rw [b_and, Bool.and_eq_true] at this; exact this.2
  · rintro ⟨h1, h2⟩ e he hb
    rw [b_and, h1 e he hb, h2 e he hb]; rfl
theorem sub_m1 (x : Int32) : x &&& ((-1 : Int32) ^^^ (-1)) = 0 := (nb0 x (-1)).mpr (fun e he _ => b_m1 e he)
theorem sub_canS {x s : Int32} {can : Nat → Int32} : x &&& (canS can s ^^^ (-1)) = 0 ↔ (bt s 0 = true → x &&& (can 0 ^^^ (-1)) = 0) ∧ (bt s 1 = true → x &&& (can 1 ^^^ (-1)) = 0) := by
  unfold canS
  rw [sub_and]
  by_cases h0 : bt s 0 = true <;> by_cases h1 : bt s 1 = true
  · rw [if_pos h0, if_pos h1]; exact ⟨fun h => ⟨fun _ => h.1, fun _ => h.2⟩, fun h => ⟨h.1 h0, h.2 h1⟩⟩
  · rw [if_pos h0, if_neg h1]; exact ⟨fun h => ⟨fun _ => h.1, fun g => absurd g h1⟩, fun h => ⟨h.1 h0, sub_m1 x⟩⟩
  · rw [if_neg h0, if_pos h1]; exact ⟨fun h => ⟨fun g => absurd g h0, fun _ => h.2⟩, fun h => ⟨sub_m1 x, h.2 h1⟩⟩
  · rw [if_neg h0, if_neg h1]; exact ⟨fun h => ⟨fun g => absurd g h0, fun g => absurd g h1⟩, fun h => ⟨sub_m1 x, sub_m1 x⟩⟩
theorem pr_pOK {OU p : Nat} {can : Nat → Int32} (hOU : OU ≤ 2) (hp : p < 81) (h : prB 4 OU can p 81 = true) : ∃ x, (w4 w3)[p]? = some x ∧ pOK (FN (canS can (oP 4 OU can p))) x = true := by
  obtain ⟨x, e1, e2, e3, e4⟩ := e4_p hp
  refine ⟨x, e1, ?_⟩
  have hb : ∀ q o, bt (oP 4 OU can q) o = true ↔ o < OU ∧ rPts 4 q 16 &&& (can o ^^^ (-1)) = 0 := fun q o => rOut_b OU hOU
  unfold pOK
  rw [Bool.and_eq_true]
  constructor
  · rw [← subI e2, ← e3, sub_canS]
    exact ⟨fun g => ((hb p 0).mp g).2, fun g => ((hb p 1).mp g).2⟩
  · refine List.all_eq_true.mpr (fun w hw => ?_)
    obtain ⟨w1, i, hi, hd, w2⟩ := e4 w hw
    obtain ⟨f1, f2, f3⟩ := fre_p (N := 4) (p := p) (by omega) hp hi hd
    have hT := ((prB_iff 81).mp h).2 (setD 4 p i 2) f2
    rw [Bool.not_eq_true', Bool.eq_false_iff]
    intro g
    rw [← subI w1, ← w2, sub_canS] at g
    have hs : oP 4 OU can p &&& (oP 4 OU can (setD 4 p i 2) ^^^ (-1)) = 0 := by
      refine (nb0 _ _).mpr (fun e he hb1 => ?_)
      have h1 := (hb p e).mp hb1
      refine (hb _ e).mpr ⟨h1.1, ?_⟩
      rcases (show e = 0 ∨ e = 1 by omega) with rfl | rfl
      · exact g.1 hb1
      · exact g.2 hb1
    rw [prT_iff.mpr ⟨f1, f3, hs⟩] at hT
    cases hT
theorem pS_cnt (N OU Z : Nat) (can : Nat → Int32) (p : Nat) : (pS N OU Z can p).1 = cnt (fun p => prB N OU can p Z) p := by
  induction p with
  | zero => rfl
  | succ p ih =>
    rw [pS_s, cnt_s]
    split
    · rw [← ih]
    · exact ih
theorem pS_le48 {N OU Z : Nat} {can : Nat → Int32} (hN : N ≤ 4) (hZ : 3 ^ N = Z) (hOU : OU ≤ 2) : (pS N OU Z can Z).1 ≤ 48 := by
  rw [pS_cnt]
  by_cases h4 : N = 4
  · subst h4
    have hZ : Z = 81 := hZ.symm
    subst hZ
    have h := cnt_pc (P := fun p => prB 4 OU can p 81) (f1 := FN (canS can 1)) (f2 := FN (canS can 2)) (f3 := FN (canS can 3)) (l := w4 w3) (fun p hp hP => by
      rw [w4_len] at hp
      obtain ⟨x, e1, e2⟩ := pr_pOK hOU hp hP
      refine ⟨x, e1, ?_⟩
      obtain ⟨k, hk, e⟩ := oP_4 (N := 4) (p := p) (can := can) hOU
      rw [e] at e2
      have h0 := ((prB_iff 81).mp hP).1
      rw [e] at h0
      rcases (show k = 0 ∨ k = 1 ∨ k = 2 ∨ k = 3 by omega) with rfl | rfl | rfl | rfl
      · exact absurd (show nI 0 ≤ 0 by decide) h0
      · exact Or.inl e2
      · exact Or.inr (Or.inl e2)
      · exact Or.inr (Or.inr e2)) 81 (by rw [w4_len]; exact Nat.le_refl 81)
    have e : (w4 w3).take 81 = w4 w3 := List.take_of_length_le (by rw [w4_len]; exact Nat.le_refl 81)
    rw [e] at h
    have a := pc_16 (FN_lt (canS can 1))
    have b := pc_16 (FN_lt (canS can 2))
    have c := pc_16 (FN_lt (canS can 3))
    omega
  · have h1 := cnt_le (fun p => prB N OU can p Z) Z
    have h2 : 3 ^ N ≤ 3 ^ 3 := Nat.pow_le_pow_right (n := 3) (by omega) (by omega)
    have h3 : (3 : Nat) ^ 3 = 27 := rfl
    omega
