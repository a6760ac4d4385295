/-! ===== the products' tables; a product's number and its digits ===== -/
def cB (N q k : Nat) : Int32 × Int32 := itr (fun k y => if q / 3 ^ k % 3 = 2 then y else (y.1 ||| (1 <<< ((nI (N - k) - 1) &&& 31)), y.2 ||| (nI (q / 3 ^ k % 3) <<< ((nI (N - k) - 1) &&& 31)))) k (0, 0)
theorem stFd_s (N P i : Nat) (x : (Nat → Int32) × (Nat → Int32)) : stFd N P (i + 1) x = if P / 3 ^ i % 3 = 2 then stFd N P i x else (upd (stFd N P i x).1 P ((stFd N P i x).1 P ||| (1 <<< ((nI (N - i) - 1) &&& 31))), upd (stFd N P i x).2 P ((stFd N P i x).2 P ||| (nI (P / 3 ^ i % 3) <<< ((nI (N - i) - 1) &&& 31)))) := rfl
theorem cB_s (N q i : Nat) : cB N q (i + 1) = if q / 3 ^ i % 3 = 2 then cB N q i else ((cB N q i).1 ||| (1 <<< ((nI (N - i) - 1) &&& 31)), (cB N q i).2 ||| (nI (q / 3 ^ i % 3) <<< ((nI (N - i) - 1) &&& 31))) := rfl
theorem stFd_o {N P q : Nat} (h : q ≠ P) (x : (Nat → Int32) × (Nat → Int32)) (i : Nat) : (stFd N P i x).1 q = x.1 q ∧ (stFd N P i x).2 q = x.2 q := by
  induction i with
  | zero => exact ⟨rfl, rfl⟩
  | succ i ih =>
    rw [stFd_s]
    split
    · exact ih
    · exact ⟨(pk_un h).trans ih.1, (pk_un h).trans ih.2⟩
theorem stFd_p {N P : Nat} (x : (Nat → Int32) × (Nat → Int32)) (h1 : x.1 P = 0) (h2 : x.2 P = 0) (i : Nat) : (stFd N P i x).1 P = (cB N P i).1 ∧ (stFd N P i x).2 P = (cB N P i).2 := by
  induction i with
  | zero => exact ⟨h1, h2⟩
  | succ i ih =>
    rw [stFd_s, cB_s]
    split
    · exact ih
    · refine ⟨?_, ?_⟩
      · show upd _ _ _ P = _
        rw [pk_us, ih.1]
      · show upd _ _ _ P = _
        rw [pk_us, ih.2]
theorem stPr_s (N PW i : Nat) : (stPr N PW (i + 1)).1 = (stFd N i N ((stPr N PW i).1, (stPr N PW i).2.1)).1 ∧ (stPr N PW (i + 1)).2.1 = (stFd N i N ((stPr N PW i).1, (stPr N PW i).2.1)).2 := ⟨rfl, rfl⟩
theorem stPr_0 {N PW q : Nat} (i : Nat) (h : i ≤ q) : (stPr N PW i).1 q = 0 ∧ (stPr N PW i).2.1 q = 0 := by
  induction i with
  | zero => exact ⟨rfl, rfl⟩
  | succ i ih =>
    rw [(stPr_s N PW i).1, (stPr_s N PW i).2]
    have h1 := stFd_o (N := N) (P := i) (q := q) (by omega) ((stPr N PW i).1, (stPr N PW i).2.1) N
    exact ⟨h1.1.trans (ih (by omega)).1, h1.2.trans (ih (by omega)).2⟩
theorem stPr_q {N PW q : Nat} (i : Nat) (h : q < i) : (stPr N PW i).1 q = (cB N q N).1 ∧ (stPr N PW i).2.1 q = (cB N q N).2 := by
  induction i with
  | zero => exact absurd h (Nat.not_lt_zero q)
  | succ i ih =>
    rw [(stPr_s N PW i).1, (stPr_s N PW i).2]
    by_cases hE : q = i
    · subst hE
      exact stFd_p _ (stPr_0 q (Nat.le_refl q)).1 (stPr_0 q (Nat.le_refl q)).2 N
    · have h1 := stFd_o (N := N) (P := i) (q := q) hE ((stPr N PW i).1, (stPr N PW i).2.1) N
      exact ⟨h1.1.trans (ih (by omega)).1, h1.2.trans (ih (by omega)).2⟩
def setD (N q j d : Nat) : Nat := q - rDig N q j * 3 ^ (N - 1 - j) + d * 3 ^ (N - 1 - j)
set_option maxRecDepth 100000 in
theorem dig_c : ∀ N, N < 5 → ∀ q, q < 3 ^ N → ∀ j, j < N → fDig (cB N q N).1 (cB N q N).2 (nI j) = nI (rDig N q j) := by decide +kernel
set_option maxRecDepth 100000 in
theorem with_c : ∀ N, N < 5 → ∀ q, q < 3 ^ N → ∀ j, j < N → ∀ d, d < 3 → fWith N (cB N q N).1 (cB N q N).2 (nI j) (nI d) = nI (setD N q j d) := by decide +kernel
/-- the number of cube c's product, by its digits -/
def pn (dg : Nat → Nat) (N c : Nat) : Nat := itr (fun i acc => acc * 3 + dg (4 * c + i)) N 0
theorem pn_1 (dg : Nat → Nat) (c : Nat) : pn dg 1 c = dg (4 * c + 0) := by show 0 * 3 + dg (4 * c + 0) = _; omega
theorem pn_2 (dg : Nat → Nat) (c : Nat) : pn dg 2 c = dg (4 * c + 0) * 3 + dg (4 * c + 1) := by show (0 * 3 + dg (4 * c + 0)) * 3 + dg (4 * c + 1) = _; omega
theorem pn_3 (dg : Nat → Nat) (c : Nat) : pn dg 3 c = (dg (4 * c + 0) * 3 + dg (4 * c + 1)) * 3 + dg (4 * c + 2) := by show ((0 * 3 + dg (4 * c + 0)) * 3 + dg (4 * c + 1)) * 3 + dg (4 * c + 2) = _; omega
theorem pn_4 (dg : Nat → Nat) (c : Nat) : pn dg 4 c = ((dg (4 * c + 0) * 3 + dg (4 * c + 1)) * 3 + dg (4 * c + 2)) * 3 + dg (4 * c + 3) := by show (((0 * 3 + dg (4 * c + 0)) * 3 + dg (4 * c + 1)) * 3 + dg (4 * c + 2)) * 3 + dg (4 * c + 3) = _; omega
theorem pn_lt {dg : Nat → Nat} (h : ∀ j, dg j ≤ 2) (N c : Nat) : pn dg N c < 3 ^ N := by
  induction N with
  | zero => exact Nat.one_pos
  | succ N ih =>
    show pn dg N c * 3 + dg (4 * c + N) < _
    have := h (4 * c + N)
    rw [Nat.pow_succ]; omega
theorem pn_dig {dg : Nat → Nat} (h : ∀ j, dg j ≤ 2) {N j : Nat} (hN : N ≤ 4) (hj : j < N) (c : Nat) : rDig N (pn dg N c) j = dg (4 * c + j) := by
  have h0 := h (4 * c + 0); have h1 := h (4 * c + 1); have h2 := h (4 * c + 2); have h3 := h (4 * c + 3)
  unfold rDig
  rcases (show N = 1 ∨ N = 2 ∨ N = 3 ∨ N = 4 by omega) with rfl | rfl | rfl | rfl
  · rcases (show j = 0 by omega) with rfl
    rw [pn_1]; show dg (4 * c + 0) / 1 % 3 = _; omega
  · rcases (show j = 0 ∨ j = 1 by omega) with rfl | rfl
    · rw [pn_2]; show _ / 3 % 3 = _; omega
    · rw [pn_2]; show _ / 1 % 3 = _; omega
  · rcases (show j = 0 ∨ j = 1 ∨ j = 2 by omega) with rfl | rfl | rfl
    · rw [pn_3]; show _ / 9 % 3 = _; omega
    · rw [pn_3]; show _ / 3 % 3 = _; omega
    · rw [pn_3]; show _ / 1 % 3 = _; omega
  · rcases (show j = 0 ∨ j = 1 ∨ j = 2 ∨ j = 3 by omega) with rfl | rfl | rfl | rfl
    · rw [pn_4]; show _ / 27 % 3 = _; omega
    · rw [pn_4]; show _ / 9 % 3 = _; omega
    · rw [pn_4]; show _ / 3 % 3 = _; omega
    · rw [pn_4]; show _ / 1 % 3 = _; omega
theorem pn_cong {dg dg' : Nat → Nat} {c : Nat} (N : Nat) (h : ∀ j, j < N → dg (4 * c + j) = dg' (4 * c + j)) : pn dg N c = pn dg' N c := by
  induction N with
  | zero => rfl
  | succ N ih =>
    show pn dg N c * 3 + dg (4 * c + N) = pn dg' N c * 3 + dg' (4 * c + N)
    rw [ih (fun j hj => h j (by omega)), h N (by omega)]
theorem pn_set {dg : Nat → Nat} (h : ∀ j, dg j ≤ 2) {N j d : Nat} (hN : N ≤ 4) (hj : j < N) (hd : d ≤ 2) (c : Nat) : pn (updN dg (4 * c + j) d) N c = setD N (pn dg N c) j d := by
  unfold setD
  rw [pn_dig h hN hj]
  have e : ∀ k, updN dg (4 * c + j) d (4 * c + k) = if k = j then d else dg (4 * c + k) := by
    intro k
    unfold updN
    by_cases hk : k = j
    · rw [if_pos hk, if_pos (by omega)]
    · rw [if_neg hk, if_neg (by omega)]
  have h0 := h (4 * c + 0); have h1 := h (4 * c + 1); have h2 := h (4 * c + 2); have h3 := h (4 * c + 3)
  rcases (show N = 1 ∨ N = 2 ∨ N = 3 ∨ N = 4 by omega) with rfl | rfl | rfl | rfl
  · rcases (show j = 0 by omega) with rfl
    rw [pn_1, pn_1, e]; simp
  · rcases (show j = 0 ∨ j = 1 by omega) with rfl | rfl
    · rw [pn_2, pn_2, e, e]; simp; omega
    · rw [pn_2, pn_2, e, e]; simp
  · rcases (show j = 0 ∨ j = 1 ∨ j = 2 by omega) with rfl | rfl | rfl
    · rw [pn_3, pn_3, e, e, e]; simp; omega
    · rw [pn_3, pn_3, e, e, e]; simp; omega
    · rw [pn_3, pn_3, e, e, e]; simp
  · rcases (show j = 0 ∨ j = 1 ∨ j = 2 ∨ j = 3 by omega) with rfl | rfl | rfl | rfl
    · rw [pn_4, pn_4, e, e, e, e]; simp; omega
    · rw [pn_4, pn_4, e, e, e, e]; simp; omega
    · rw [pn_4, pn_4, e, e, e, e]; simp; omega
    · rw [pn_4, pn_4, e, e, e, e]; simp
