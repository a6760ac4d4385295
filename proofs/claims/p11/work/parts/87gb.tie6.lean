/-! ===== a prime's column, both sides ===== -/
theorem pS_pp {N OU Z : Nat} {can : Nat → Int32} (p : Nat) : ∀ k, k < (pS N OU Z can p).1 → ∃ q, q < p ∧ (pS N OU Z can p).2.1 k = nI q := by
  induction p with
  | zero => exact fun k hk => absurd hk (Nat.not_lt_zero k)
  | succ p ih =>
    rw [pS_s]
    split
    · intro k hk
      show ∃ q, q < p + 1 ∧ upd _ _ _ k = nI q
      by_cases hE : k = (pS N OU Z can p).1
      · rw [hE, pk_us]; exact ⟨p, Nat.lt_succ_self p, rfl⟩
      · rw [pk_un hE]
        have hk : k < (pS N OU Z can p).1 + 1 := hk
        obtain ⟨q, hq, e⟩ := ih k (by omega)
        exact ⟨q, by omega, e⟩
    · intro k hk
      obtain ⟨q, hq, e⟩ := ih k hk
      exact ⟨q, by omega, e⟩
def pcv (N OU Z : Nat) (can : Nat → Int32) (C J : Nat) : Int32 := if nI N ≤ nI J then ((pS N OU Z can Z).2.2 C >>> ((nI J - nI N) &&& 31)) &&& 1 else nI (rDig N ((pS N OU Z can Z).2.1 C).toNatClampNeg J)
theorem col_eq {care bits can : Nat → Int32} {N OU Z C J : Nat} (htb : ∀ q, q < Z → care q = (cB N q N).1 ∧ bits q = (cB N q N).2) (hN : N ≤ 4) (hZ : 3 ^ N = Z) (hOU : OU ≤ 2) (hC : C < (pS N OU Z can Z).1) (hJ : J < N + OU) : (if nI N ≤ nI J then ((pS N OU Z can Z).2.2 C >>> ((nI J - nI N) &&& 31)) &&& 1 else fDig (care ((pS N OU Z can Z).2.1 C).toNatClampNeg) (bits ((pS N OU Z can Z).2.1 C).toNatClampNeg) (nI J)) = pcv N OU Z can C J := by
  unfold pcv
  by_cases h : nI N ≤ nI J
  · rw [if_pos h, if_pos h]
  · have hj : J < N := Nat.lt_of_not_le (fun g => h ((nI_leI (a := N) (b := J) (by omega) (by omega)).mpr g))
    obtain ⟨q, hq, e⟩ := pS_pp Z C hC
    have h8 := p3_81 hN
    rw [if_neg h, if_neg h, e, nI_clamp (by omega), (htb q hq).1, (htb q hq).2, dig_c N (by omega) q (by omega) J hj]
theorem stF_k {on can can2 : Nat → Int32} {N OU Z : Nat} {pp po pc pt : Nat → Int32} (h : ∀ o, o < OU → can o = can2 o) : (stF N OU Z on can (0, pp, po, pc, pt) Z).1 = (pS N OU Z can2 Z).1 := by rw [← pS_cong h]; exact (stF_pS Z).1
theorem ref_col {on can can2 : Nat → Int32} {N OU Z C J : Nat} {pp po pc pt : Nat → Int32} (h : ∀ o, o < OU → can o = can2 o) (hC : C < (pS N OU Z can2 Z).1) : (if nI N ≤ nI J then ((stF N OU Z on can (0, pp, po, pc, pt) Z).2.2.1 C >>> ((nI J - nI N) &&& 31)) &&& 1 else nI (rDig N ((stF N OU Z on can (0, pp, po, pc, pt) Z).2.1 C).toNatClampNeg J)) = pcv N OU Z can2 C J := by
  unfold pcv
  rw [← pS_cong h] at hC ⊢
  have h1 := (stF_pS (on := on) (can := can) (N := N) (OU := OU) (Z := Z) (pp := pp) (po := po) (pc := pc) (pt := pt) Z).2 C hC
  rw [h1.1, h1.2]
theorem pS_le' {N OU Z : Nat} {can : Nat → Int32} (p : Nat) : (pS N OU Z can p).1 ≤ p := by
  induction p with
  | zero => exact Nat.le_refl 0
  | succ p ih =>
    rw [pS_s]
    split
    · exact Nat.succ_le_succ ih
    · omega
theorem pS_le {N OU Z : Nat} {can : Nat → Int32} (h : Z ≤ 81) : (pS N OU Z can Z).1 ≤ 81 := Nat.le_trans (pS_le' Z) h
theorem ixp {x y : Int32} {K N OU : Nat} (h : ¬ (x < 0 ∨ nI K ≤ x ∨ y < 0 ∨ nI N + nI OU ≤ y)) (hN : N ≤ 4) (hOU : OU ≤ 2) (hK : K ≤ 81) : ∃ C J, C < K ∧ J < N + OU ∧ x = nI C ∧ y = nI J := by
  rw [nI_add] at h
  obtain ⟨C, hC, rfl⟩ := rng (y := x) (N := K) (fun g => h (Or.inl g)) (Int32.not_le.mp (fun g => h (Or.inr (Or.inl g)))) (by omega)
  obtain ⟨J, hJ, rfl⟩ := rng (y := y) (N := N + OU) (fun g => h (Or.inr (Or.inr (Or.inl g)))) (Int32.not_le.mp (fun g => h (Or.inr (Or.inr (Or.inr g))))) (by omega)
  exact ⟨C, J, hC, hJ, rfl, rfl⟩
