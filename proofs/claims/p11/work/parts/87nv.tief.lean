/-! ===== improve: small lemmas ===== -/
theorem lg_ge (x y : Int64) : 0 ≤ lg_cmp x y ↔ y ≤ x := by
  unfold lg_cmp
  by_cases h1 : x > y
  · rw [if_pos h1]; exact ⟨fun _ => Int64.le_of_lt h1, fun _ => by decide⟩
  · rw [if_neg h1]
    by_cases h2 : x = y
    · rw [if_pos h2]; exact ⟨fun _ => h2 ▸ Int64.le_refl _, fun _ => by decide⟩
    · rw [if_neg h2]
      exact ⟨fun g => absurd g (by decide), fun g => absurd (Int64.le_antisymm (Int64.not_lt.mp h1) g) h2⟩
section IM3
variable {c : Nat → Nat} {pts : Nat → Int32} {W op : Int32} {n d : Nat} {wts hav : Nat → Int64} {S us ch fd fw wg : Int64}
theorem ip_z (hR : FRr n c pts W wts hav) (hS : isOpt c pts W n S) (hI : iV c pts W n op ch wg d) (h0 : op = 0) (hF : fV c pts W n fd fw) : iP c pts W n S us ch fd (if fw ≤ wg then fd else ch) (if fw ≤ wg then fw else wg) := by
  subst h0
  by_cases h : fw ≤ wg
  · rw [if_pos h, if_pos h]; exact ip_heavy hR hS hI hF ((lg_ge _ _).mpr h)
  · rw [if_neg h, if_neg h]; exact ip_zk hR hS hI hF (fun g => h ((lg_ge _ _).mp g))
theorem hrow_of {hav : Nat → Int64} (h : ¬ op = 0) : ∃ e, e < 32 ∧ bt op e = true ∧ (hav (fRar hav op us 32).1.toNatClampNeg &&& us) = hav e &&& us := by
  obtain ⟨e, he, e1, e2⟩ := rar_in (op := op) (us := us) (hav := hav) h
  exact ⟨e, he, e2, by rw [e1, nI_clamp (by omega)]⟩
/-- the first call -/
theorem iv_start (hR : FRr n c pts W wts hav) : iV c pts W n W 0 0 0 := by
  refine ⟨fun k _ hb => (by rw [l_0] at hb; cases hb), fun e he => ⟨fun h => ⟨h, fun k _ hb => (by rw [l_0] at hb; cases hb)⟩, fun h => h.1⟩, ?_, ?_⟩
  · have h : wN c 0 n = 0 := by
      have key : ∀ m, sumS (wk c) 0 m = 0 := by
        intro m
        induction m with
        | zero => rfl
        | succ m ih => rw [sumS_s, l_0, if_neg (by decide), ih]
      exact key n
    rw [h]; rfl
  · have := cnt_le (bt W) 32; omega
theorem all_b {k : Nat} (hn : n ≤ 48) (hk : k < 64) : bl ((1 : Int64) <<< ((nI n).toInt64 &&& 63) - 1) k = decide (k < n) := by
  have key : ∀ n, n < 49 → ∀ k, k < 64 → bl ((1 : Int64) <<< ((nI n).toInt64 &&& 63) - 1) k = decide (k < n) := by decide +kernel
  exact key n (by omega) k hk
theorem tg_start (hn : n ≤ 48) (hS : inS S n) : tg n S ((1 : Int64) <<< ((nI n).toInt64 &&& 63) - 1) 0 := ⟨fun k _ hb => (by rw [l_0] at hb; cases hb), fun k hk _ => Or.inr (by rw [all_b hn (by omega)]; exact decide_eq_true hk)⟩
theorem fWOf_w (hR : FRr n c pts W wts hav) (m : Nat) (hm : m ≤ n) : fWOf wts S m = iL (wN c S m) := by
  have hn := hR.1
  induction m with
  | zero => rfl
  | succ m ih =>
    rw [show fWOf wts S (m + 1) = (if fIn S (nI m) = 0 then fWOf wts S m else fWOf wts S m + wts m) from rfl, ih (by omega)]
    unfold wN
    rw [sumS_s]
    by_cases h : bl S m = true
    · rw [if_neg (fun g => by rw [(fIn_0 (by omega)).mp g] at h; cases h), if_pos h, hR.2.2.1 m (by omega), iL_add]
    · rw [if_pos ((fIn_0 (by omega)).mpr (Bool.eq_false_iff.mpr h)), if_neg h]
theorem fHav_b {e k : Nat} (he : e < 32) (hk : k < 64) (m : Nat) (hm : m ≤ 48) : bl (fHav pts (nI e) m) k = (decide (k < m) && bt (pts k) e) := by
  induction m with
  | zero => show bl 0 k = _; rw [l_0]; simp
  | succ m ih =>
    rw [show fHav pts (nI e) (m + 1) = (if (pts m >>> (nI e &&& 31)) &&& 1 = 1 then fHav pts (nI e) m ||| ((1 : Int64) <<< ((nI m).toInt64 &&& 63)) else fHav pts (nI e) m) from rfl]
    by_cases h : bt (pts m) e = true
    · rw [if_pos ((sh1_1 he).mpr h), l_or, ih (by omega), l_one (by omega) hk]
      by_cases hE : k = m
      · subst hE; rw [h]; simp
      · rw [decide_eq_false hE, Bool.or_false]
        congr 1
        exact decide_eq_decide.mpr (by omega)
    · rw [if_neg (fun g => h ((sh1_1 he).mp g)), ih (by omega)]
      by_cases hE : k = m
      · subst hE; rw [Bool.eq_false_iff.mpr h, Bool.and_false, Bool.and_false]
      · congr 1
        exact decide_eq_decide.mpr (by omega)
theorem fCov_b {e : Nat} (hn : n ≤ 48) (m : Nat) (hm : m ≤ n) : bt (fCov pts S m) e = true ↔ ∃ k, k < m ∧ bl S k = true ∧ bt (pts k) e = true := by
  induction m with
  | zero => exact ⟨fun h => (by rw [show fCov pts S 0 = 0 from rfl, b_0] at h; cases h), fun ⟨k, hk, _⟩ => absurd hk (Nat.not_lt_zero k)⟩
  | succ m ih =>
    rw [show fCov pts S (m + 1) = (if fIn S (nI m) = 0 then fCov pts S m else fCov pts S m ||| pts m) from rfl]
    by_cases h : bl S m = true
    · rw [if_neg (fun g => by rw [(fIn_0 (by omega)).mp g] at h; cases h), b_or, Bool.or_eq_true, ih (by omega)]
      constructor
      · rintro (⟨k, hk, g⟩ | g)
        · exact ⟨k, by omega, g⟩
        · exact ⟨m, by omega, h, g⟩
      · rintro ⟨k, hk, g1, g2⟩
        by_cases hE : k = m
        · subst hE; exact Or.inr g2
        · exact Or.inl ⟨k, by omega, g1, g2⟩
    · rw [if_pos ((fIn_0 (by omega)).mpr (Bool.eq_false_iff.mpr h)), ih (by omega)]
      constructor
      · rintro ⟨k, hk, g⟩; exact ⟨k, by omega, g⟩
      · rintro ⟨k, hk, g1, g2⟩
        by_cases hE : k = m
        · subst hE; exact absurd g1 h
        · exact ⟨k, by omega, g1, g2⟩
theorem fCov_c (hn : n ≤ 48) (hp : ∀ k, k < n → pts k &&& (W ^^^ (-1)) = 0) : fCov pts S n = W ↔ covS pts W n S := by
  constructor
  · intro h e he hW
    rw [← h] at hW
    exact (fCov_b hn n (Nat.le_refl n)).mp hW
  · intro h
    refine b_ext (fun e he => ?_)
    apply bool_ext
    rw [fCov_b hn n (Nat.le_refl n)]
    exact ⟨fun ⟨k, hk, _, g⟩ => (nb0 _ _).mp (hp k hk) e he g, fun g => h e he g⟩
end IM3
