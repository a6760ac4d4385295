/-! ===== the law's cases, any state ===== -/
theorem fDig_nI (c b i : Int32) : ∃ d, d ≤ 2 ∧ fDig c b i = nI d := by
  unfold fDig
  split
  · exact ⟨2, by omega, rfl⟩
  · obtain ⟨j, hj, ej⟩ := pk_andE (b >>> (i &&& 31)) (m := 1) 1 (by decide)
    exact ⟨j, by omega, ej⟩
theorem fNum_nI (N : Nat) (c b : Int32) : ∃ n, n < 3 ^ N ∧ fNum N c b = nI n := by
  induction N with
  | zero => exact ⟨0, by decide, rfl⟩
  | succ N ih =>
    obtain ⟨n, hn, e⟩ := ih
    obtain ⟨d, hd, e2⟩ := fDig_nI c b (nI N)
    refine ⟨n * 3 + d, by rw [Nat.pow_succ]; omega, ?_⟩
    show fNum N c b * 3 + fDig c b (nI N) = _
    rw [e, e2, show (3 : Int32) = nI 3 from rfl, pk_mul, nI_add]
theorem fNum_in {N : Nat} {c b : Int32} (hN : N ≤ 4) : vp_in (fNum N c b) 81 := by
  obtain ⟨n, hn, e⟩ := fNum_nI N c b
  have h8 : 3 ^ N ≤ 81 := Nat.pow_le_pow_right (n := 3) (by omega) hN
  rw [e]
  exact vp_in_nI (by omega) (by omega)
theorem pr_cube {prod : Nat → Int32} {M Z N : Nat} (h : ∀ c, c < M → vp_in (prod c) 81) (hZ : 3 ^ N = Z) (hZ8 : Z ≤ 81) : ∀ c, c < M + 1 → vp_in (upd prod M (nI Z - 1) c) 81 := by
  intro c hc
  have h1 : 1 ≤ Z := by rw [← hZ]; exact Nat.pow_pos (by omega)
  by_cases hE : c = M
  · subst hE; rw [pk_us, show (1 : Int32) = nI 1 from rfl, pk_sub h1]; exact vp_in_nI (by omega) (by omega)
  · rw [pk_un hE]; exact h c (by omega)
theorem updN_ok {dg : Nat → Nat} {k v : Nat} (h : ∀ j, dg j ≤ 2) (hv : v ≤ 2) : ∀ j, updN dg k v j ≤ 2 := by
  intro j
  unfold updN
  split
  · exact hv
  · exact h j
theorem dg4_ok {dg : Nat → Nat} {M : Nat} (h : ∀ j, dg j ≤ 2) (i : Nat) : ∀ j, dg4 dg M i j ≤ 2 := by
  induction i with
  | zero => exact h
  | succ i ih => exact updN_ok (dg := dg4 dg M i) ih (by omega)
theorem sx {L i k : Nat} (hL : L ≤ 2050) (hi : i + 4 ≤ L) (hk : k ≤ 3) : vp_in (nI (i + k)) L := vp_in_nI (by omega) (by omega)
theorem sxc {L i k : Nat} {xs : Nat → Int32} (hL : L ≤ 2050) (hi : i + 4 ≤ L) (hk : k ≤ 3) : xs (nI (i + k)).toNatClampNeg = xs (i + k) := by rw [nI_clamp (by omega)]
theorem lgc (x : Int64) : lg_cmp x x = 0 := by simp [lg_cmp]
theorem ixcj {x y : Int32} {M N : Nat} (h : ¬ (x < 0 ∨ nI M ≤ x ∨ y < 0 ∨ nI N ≤ y)) (hM : M < 2 ^ 31) (hN : N < 2 ^ 31) : ∃ C J, C < M ∧ J < N ∧ x = nI C ∧ y = nI J := by
  obtain ⟨C, hC, rfl⟩ := rng (y := x) (N := M) (fun g => h (Or.inl g)) (Int32.not_le.mp (fun g => h (Or.inr (Or.inl g)))) hM
  obtain ⟨J, hJ, rfl⟩ := rng (y := y) (N := N) (fun g => h (Or.inr (Or.inr (Or.inl g)))) (Int32.not_le.mp (fun g => h (Or.inr (Or.inr (Or.inr g))))) hN
  exact ⟨C, J, hC, hJ, rfl, rfl⟩
theorem ixz {z : Int32} (h : ¬ (z < 0 ∨ 2 < z)) : ∃ w, w ≤ 2 ∧ z = nI w := by
  obtain ⟨w, hw, rfl⟩ := nI_of (x := z) (fun g => h (Or.inl g))
  exact ⟨w, (nI_leI (a := w) (b := 2) hw (by omega)).mp (Int32.not_lt.mp (fun g => h (Or.inr g))), rfl⟩
theorem law_idx {L i : Nat} (hL : L ≤ 2050) (hi : i ≤ 4000) (h : ¬ nI L - 4 < nI i) : i + 4 ≤ L := by
  by_cases h4 : 4 ≤ L
  · rw [show (4 : Int32) = nI 4 from rfl, pk_sub h4] at h
    have := (nI_leI (a := i) (b := L - 4) (by omega) (by omega)).mp (Int32.not_lt.mp h)
    omega
  · have hp : ¬ nI i < 0 := nI_pos (by omega)
    have h5 : nI L - 4 < 0 := by
      rcases (show L = 0 ∨ L = 1 ∨ L = 2 ∨ L = 3 by omega) with rfl | rfl | rfl | rfl <;> decide +kernel
    exact absurd (Int32.lt_of_le_of_lt (Int32.not_lt.mp h) h5) hp
