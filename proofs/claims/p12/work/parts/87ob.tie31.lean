/-! ===== a kept cover has at most 31 terms ===== -/
theorem cnt_mono2 (P : Nat → Bool) (n : Nat) : cnt P n ≤ cnt P (n + 1) := by rw [cnt_s]; split <;> omega
theorem small_cov2 {pts : Nat → Int32} {W : Int32} {n : Nat} (hn : n ≤ 48) (hcov : ∀ e, e < 32 → bt W e = true → ∃ k, k < n ∧ bt (pts k) e = true) : ∀ m, m ≤ 32 → ∃ U, inS U n ∧ szN U n ≤ cnt (bt W) m ∧ ∀ e, e < m → bt W e = true → ∃ k, k < n ∧ bl U k = true ∧ bt (pts k) e = true := by
  intro m
  induction m with
  | zero => exact fun _ => ⟨0, fun k _ hb => (by rw [l_0] at hb; cases hb), Nat.le_of_eq (by
      have : ∀ m, szN 0 m = 0 := by
        intro m
        induction m with
        | zero => rfl
        | succ m ih => unfold szN at ih ⊢; rw [sumS_s, l_0, if_neg (by decide), ih]
      exact this n), fun e he => absurd he (Nat.not_lt_zero e)⟩
  | succ m ih =>
    intro hm
    obtain ⟨U, h1, h2, h3⟩ := ih (by omega)
    rw [cnt_s]
    by_cases hW : bt W m = true
    · obtain ⟨k, hk, hb⟩ := hcov m (by omega) hW
      rw [if_pos hW]
      refine ⟨setB U k, inS_set h1 hk hn, by have := sz_set (S := U) hk hn; omega, fun e he hWe => ?_⟩
      by_cases hE : e = m
      · subst hE
        exact ⟨k, hk, by rw [setB_b (by omega) (by omega), decide_eq_true rfl, Bool.or_true], hb⟩
      · obtain ⟨j, hj, j1, j2⟩ := h3 e (by omega) hWe
        exact ⟨j, hj, by rw [setB_b (by omega) (by omega), j1]; rfl, j2⟩
    · rw [if_neg hW]
      refine ⟨U, h1, h2, fun e he hWe => ?_⟩
      by_cases hE : e = m
      · subst hE; exact absurd hWe hW
      · exact h3 e (by omega) hWe
theorem qm_sz {a : Nat → Nat} {n : Nat} (hn : n ≤ 48) (m : Nat) (h : ∀ j, j < m → a j < n) : szN (qm a m) n ≤ m := by
  induction m with
  | zero =>
    have : ∀ m, szN 0 m = 0 := by
      intro m
      induction m with
      | zero => rfl
      | succ m ih => unfold szN at ih ⊢; rw [sumS_s, l_0, if_neg (by decide), ih]
    exact Nat.le_of_eq (this n)
  | succ m ih =>
    have := ih (fun j hj => h j (by omega))
    have h2 := sz_set (S := qm a m) (h m (Nat.lt_succ_self m)) hn
    show szN (setB (qm a m) (a m)) n ≤ m + 1
    omega
theorem nq_le {pts cst : Nat → Int32} {W : Int32} {n nq : Nat} (hn : n ≤ 48) (hcov : ∀ e, e < 32 → bt W e = true → ∃ k, k < n ∧ bt (pts k) e = true) (hq : qEnd pts cst n W nq) : nq ≤ cnt (bt W) 32 := by
  have key : ∀ m, m ≤ nq → m + cnt (bt (opQ pts cst n W m)) 32 ≤ cnt (bt W) 32 := by
    intro m
    induction m with
    | zero => intro _; rw [show opQ pts cst n W 0 = W from rfl]; omega
    | succ m ih =>
      intro hm
      have := ih (by omega)
      have := opQ_cnt hn hcov (hq.2 m (by omega))
      omega
  have := key nq (Nat.le_refl nq)
  omega
theorem KF_sz {N OU Z : Nat} {on can : Nat → Int32} {ex : Int32} {F : Int64} (hn : (pS N OU Z can Z).1 ≤ 48) (hc : ∀ k, k < (pS N OU Z can Z).1 → cC N OU Z can k ≤ 6) (hcov : ∀ e, e < 32 → bt (apO on OU) e = true → ∃ k, k < (pS N OU Z can Z).1 ∧ bt (cT N OU Z on can k) e = true) (hpW : ∀ k, k < (pS N OU Z can Z).1 → cT N OU Z on can k &&& (apO on OU ^^^ (-1)) = 0) (h : KF N OU Z on can ex F) : szN F (pS N OU Z can Z).1 ≤ cnt (bt (apO on OU)) 32 := by
  by_cases he : ex = 0
  · obtain ⟨nq, _, q1, q2⟩ := h.2.2.1 he
    have h1 := nq_le hn hcov q1
    have hlt : ∀ j, j < nq → pkQ (cT N OU Z on can) (cI32 N OU Z can) (pS N OU Z can Z).1 (apO on OU) j < (pS N OU Z can Z).1 := fun j hj => (pkQ_ok hn hcov (q1.2 j hj)).1
    have h2 := qm_sz hn nq hlt
    have h3 : szN F (pS N OU Z can Z).1 ≤ szN (qm (pkQ (cT N OU Z on can) (cI32 N OU Z can) (pS N OU Z can Z).1 (apO on OU)) nq) (pS N OU Z can Z).1 := sumS_le _ (fun k hk hb => by
      rw [q2] at hb
      exact (qm_b (by omega) nq (fun j hj => by have := hlt j hj; omega)).mpr ((qR_in hn hcov hpW q1 nq (Nat.le_refl nq)).2.2 k (by omega) hb))
    omega
  · have hS := h.2.2.2 he
    obtain ⟨U, u1, u2, u3⟩ := small_cov2 hn hcov 32 (Nat.le_refl 32)
    have := opt_few hn hc hS (opt_sz hn hc hcov hS) u1 u3
    omega
theorem pts_N {N q : Nat} (a : Nat) (ha : a ≤ 16) {e : Nat} (he : e < 32) (h : bt (rPts N q a) e = true) : e < a := by
  induction a with
  | zero => rw [show rPts N q 0 = 0 from rfl, b_0] at h; cases h
  | succ a ih =>
    rw [show rPts N q (a + 1) = (if rHs N q a N = 0 then rPts N q a else rPts N q a ||| ((1 : Int32) <<< (nI a &&& 31))) from rfl] at h
    split at h
    · have := ih (by omega) h; omega
    · rw [b_or, Bool.or_eq_true] at h
      rcases h with h | h
      · have := ih (by omega) h; omega
      · rw [b_sl1 (by omega) he] at h
        have := of_decide_eq_true h; omega
theorem on_N {N M o : Nat} {dg : Nat → Nat} {kd : Nat → Int32} (hN : N ≤ 4) {e : Nat} (he : e < 32) (m : Nat) (h : bt (kOn N dg kd o m) e = true) : e < 2 ^ N := by
  induction m with
  | zero => rw [show kOn N dg kd o 0 = 0 from rfl, b_0] at h; cases h
  | succ m ih =>
    rw [show kOn N dg kd o (m + 1) = (if kd (2 * m + o) = 1 then kOn N dg kd o m ||| rPts N (pnum dg m N) (2 ^ N) else kOn N dg kd o m) from rfl] at h
    split at h
    · rw [b_or, Bool.or_eq_true] at h
      rcases h with h | h
      · exact ih h
      · exact pts_N _ (pw16 hN) he h
    · exact ih h
theorem on_in_can {N o : Nat} {dg : Nat → Nat} {kd : Nat → Int32} {e : Nat} (m : Nat) (h : bt (kOn N dg kd o m) e = true) : bt (kCan N dg kd o m) e = true := by
  induction m with
  | zero => rw [show kOn N dg kd o 0 = 0 from rfl, b_0] at h; cases h
  | succ m ih =>
    rw [show kOn N dg kd o (m + 1) = (if kd (2 * m + o) = 1 then kOn N dg kd o m ||| rPts N (pnum dg m N) (2 ^ N) else kOn N dg kd o m) from rfl] at h
    rw [show kCan N dg kd o (m + 1) = (if kd (2 * m + o) ≤ 0 then kCan N dg kd o m else kCan N dg kd o m ||| rPts N (pnum dg m N) (2 ^ N)) from rfl]
    by_cases h1 : kd (2 * m + o) = 1
    · rw [if_pos h1, b_or, Bool.or_eq_true] at h
      rw [h1, if_neg (by decide), b_or, Bool.or_eq_true]
      exact h.imp ih id
    · rw [if_neg h1] at h
      split
      · exact ih h
      · rw [b_or, ih h]; rfl
theorem cnt_all {P : Nat → Bool} (n : Nat) (h : cnt P n = n) : ∀ k, k < n → P k = true := by
  induction n with
  | zero => exact fun k hk => absurd hk (Nat.not_lt_zero k)
  | succ n ih =>
    rw [cnt_s] at h
    have hle := cnt_le P n
    by_cases hP : P n = true
    · rw [if_pos hP] at h
      intro k hk
      by_cases hE : k = n
      · subst hE; exact hP
      · exact ih (by omega) k (by omega)
    · rw [if_neg hP] at h; omega
theorem cnt_one {P : Nat → Bool} {a : Nat} (n : Nat) (h : ∀ k, k < n → P k = true → k = a) : cnt P n ≤ 1 := by
  induction n with
  | zero => exact Nat.zero_le _
  | succ n ih =>
    rw [cnt_s]
    split
    · rename_i hP
      have e := h n (Nat.lt_succ_self n) hP
      have : cnt P n = 0 := cnt_0.mpr (fun k hk => Bool.eq_false_iff.mpr (fun g => by have := h k (by omega) g; omega))
      omega
    · exact ih (fun k hk g => h k (by omega) g)
def allB : Bool := (List.range 81).all (fun p => decide (rPts 4 p 16 &&& (rPts 4 80 16 ^^^ (-1)) = 0))
theorem all_c : allB = true := by decide +kernel
theorem full_1 {N OU Z M : Nat} {dg : Nat → Nat} {kd : Nat → Int32} (hN : N ≤ 4) (hZ : 3 ^ N = Z) (h1 : 1 ≤ OU) (hOU : OU ≤ 2) (hW : ∀ e, e < 32 → bt (apO (fun o => kOn N dg kd o M) OU) e = true) : (pS N OU Z (fun o => kCan N dg kd o M) Z).1 ≤ 1 := by
  rcases (show OU = 1 ∨ OU = 2 by omega) with rfl | rfl
  · have h := hW 16 (by omega)
    rw [apO_1] at h
    have h2 := on_N (M := M) hN (by omega) M h
    have := pw16 hN
    omega
  · have e0 : ∀ e, e < 16 → bt (kOn N dg kd 0 M) e = true := by
      intro e he
      have h := hW e (by omega)
      rw [apO_2, b_or, b_shl16 _ (by omega), decide_eq_false (by omega), Bool.false_and, Bool.or_false] at h
      exact h
    have e1 : ∀ e, e < 16 → bt (kOn N dg kd 1 M) e = true := by
      intro e he
      have h := hW (16 + e) (by omega)
      rw [apO_2, b_or, b_shl16 _ (by omega), decide_eq_true (by omega), Bool.true_and, show 16 + e - 16 = e by omega, Bool.or_eq_true] at h
      rcases h with h | h
      · have := on_N (M := M) hN (by omega) M h
        have := pw16 hN
        omega
      · exact h
    have h4 : N = 4 := by
      have h := on_N (M := M) hN (by omega) M (e0 15 (by omega))
      rcases (show N = 0 ∨ N = 1 ∨ N = 2 ∨ N = 3 ∨ N = 4 by omega) with rfl | rfl | rfl | rfl | rfl
      · exact absurd h (by decide)
      · exact absurd h (by decide)
      · exact absurd h (by decide)
      · exact absurd h (by decide)
      · rfl
    subst h4
    have hZ : Z = 81 := hZ.symm
    subst hZ
    have hall : ∀ p, ∀ o, o < 2 → rPts 4 p 16 &&& (kCan 4 dg kd o M ^^^ (-1)) = 0 := by
      intro p o ho
      refine (nb0 _ _).mpr (fun e he hb => on_in_can M ?_)
      have hlt := pts_N (N := 4) (q := p) 16 (by omega) he hb
      rcases (show o = 0 ∨ o = 1 by omega) with rfl | rfl
      · exact e0 e hlt
      · exact e1 e hlt
    rw [pS_cnt]
    refine cnt_one (a := 80) 81 (fun p hp hP => ?_)
    apply Classical.byContradiction
    intro hne
    have hT := ((prB_iff 81).mp hP).2 80 (by omega)
    have hs : oP 4 2 (fun o => kCan 4 dg kd o M) p &&& (oP 4 2 (fun o => kCan 4 dg kd o M) 80 ^^^ (-1)) = 0 := (nb0 _ _).mpr (fun e he hb => (rOut_b 2 (by omega)).mpr ⟨((rOut_b 2 (by omega)).mp hb).1, hall 80 e ((rOut_b 2 (by omega)).mp hb).1⟩)
    rw [prT_iff.mpr ⟨fun g => hne g.symm, of_decide_eq_true (all_r2 all_c hp), hs⟩] at hT
    cases hT
theorem KK_31 {N OU Z M : Nat} {dg : Nat → Nat} {kd : Nat → Int32} {ex : Int32} {TK : Nat} {kp ko : Nat → Int32} (hN : N ≤ 4) (hZ : 3 ^ N = Z) (h1 : 1 ≤ OU) (hOU : OU ≤ 2) (hdg : ∀ j, dg j ≤ 2) (h : KK N OU Z (fun o => kOn N dg kd o M) (fun o => kCan N dg kd o M) ex TK kp ko) : TK ≤ 31 := by
  obtain ⟨F, a1, a2, _⟩ := h
  have hn := pS_le48 (can := fun o => kCan N dg kd o M) hN hZ hOU
  have hr := ref_rows (on := fun o => kOn N dg kd o M) (can := fun o => kCan N dg kd o M) (N := N) (OU := OU) (Z := Z) (pp := fun _ => 0) (po := fun _ => 0) (pc := fun _ => 0) (pt := fun _ => 0) hN hZ hOU
  have hlo : ∀ o, o < 2 → lo16 ((fun o => kOn N dg kd o M) o) := lo_k hN
  have hs := KF_sz hn (fun k hk => (hr.2 k hk).2.2.2.1) (cvC (M := M) (dg := dg) (kd := kd) hN hOU h1 hZ hdg) (fun k hk => tP_sub hN h1 hOU hlo) a1
  have he := (enS_ok F (pS N OU Z (fun o => kCan N dg kd o M) Z).1).2.1
  have hl := en_le (S := F) (n := (pS N OU Z (fun o => kCan N dg kd o M) Z).1)
  have h32 := cnt_le (bt (apO (fun o => kOn N dg kd o M) OU)) 32
  by_cases hf : cnt (bt (apO (fun o => kOn N dg kd o M) OU)) 32 = 32
  · have := full_1 (M := M) (dg := dg) (kd := kd) hN hZ h1 hOU (cnt_all 32 hf)
    omega
  · omega
