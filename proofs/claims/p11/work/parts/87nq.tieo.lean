/-! ===== sets of primes, their weights ===== -/
def sumS (f : Nat → Nat) (S : Int64) (n : Nat) : Nat := itr (fun k acc => if bl S k = true then acc + f k else acc) n 0
theorem sumS_s (f : Nat → Nat) (S : Int64) (n : Nat) : sumS f S (n + 1) = if bl S n = true then sumS f S n + f n else sumS f S n := rfl
theorem sumS_cong {f : Nat → Nat} {S T : Int64} (n : Nat) (h : ∀ k, k < n → bl S k = bl T k) : sumS f S n = sumS f T n := by
  induction n with
  | zero => rfl
  | succ n ih => rw [sumS_s, sumS_s, ih (fun k hk => h k (by omega)), h n (by omega)]
theorem sumS_le {f : Nat → Nat} {S T : Int64} (n : Nat) (h : ∀ k, k < n → bl S k = true → bl T k = true) : sumS f S n ≤ sumS f T n := by
  induction n with
  | zero => exact Nat.le_refl 0
  | succ n ih =>
    have ih := ih (fun k hk => h k (by omega))
    rw [sumS_s, sumS_s]
    by_cases hb : bl S n = true
    · rw [if_pos hb, if_pos (h n (by omega) hb)]; omega
    · rw [if_neg hb]
      split <;> omega
theorem sumS_add {f g : Nat → Nat} {S : Int64} (n : Nat) : sumS (fun k => f k + g k) S n = sumS f S n + sumS g S n := by
  induction n with
  | zero => rfl
  | succ n ih => rw [sumS_s, sumS_s, sumS_s, ih]; split <;> omega
theorem sumS_mul {f : Nat → Nat} {c : Nat} {S : Int64} (n : Nat) : sumS (fun k => f k * c) S n = sumS f S n * c := by
  induction n with
  | zero => show 0 = 0 * c; omega
  | succ n ih =>
    rw [sumS_s, sumS_s, ih]
    split
    · rw [Nat.add_mul]
    · rfl
theorem sumS_fc {f g : Nat → Nat} {S : Int64} (n : Nat) (h : ∀ k, k < n → f k = g k) : sumS f S n = sumS g S n := by
  induction n with
  | zero => rfl
  | succ n ih => rw [sumS_s, sumS_s, ih (fun k hk => h k (by omega)), h n (by omega)]
/-- one more member -/
theorem sumS_one {f : Nat → Nat} {S T : Int64} {j : Nat} (hS : bl S j = false) (hT : bl T j = true) (h : ∀ k, k ≠ j → k < 64 → bl T k = bl S k) (n : Nat) (hn : n ≤ 64) : sumS f T n = sumS f S n + if j < n then f j else 0 := by
  induction n with
  | zero => rw [if_neg (Nat.not_lt_zero j)]; rfl
  | succ n ih =>
    have ih := ih (by omega)
    by_cases hE : n = j
    · subst hE
      have e1 : (if n < n then f n else 0) = 0 := if_neg (Nat.lt_irrefl n)
      have e2 : (if n < n + 1 then f n else 0) = f n := if_pos (Nat.lt_succ_self n)
      have e3 : sumS f T (n + 1) = sumS f T n + f n := by rw [sumS_s, if_pos hT]
      have e4 : sumS f S (n + 1) = sumS f S n := by rw [sumS_s, if_neg (by rw [hS]; decide)]
      rw [e1] at ih
      rw [e2, e3, e4, ih]; omega
    · have e1 : (if j < n + 1 then f j else 0) = (if j < n then f j else 0) := by
        by_cases h1 : j < n
        · rw [if_pos h1, if_pos (Nat.lt_succ_of_lt h1)]
        · rw [if_neg h1, if_neg (by omega)]
      rw [e1, sumS_s, sumS_s, h n hE (by omega)]
      generalize (if j < n then f j else 0) = q at *
      split <;> omega
def pw47 (k : Nat) : Nat := 2 ^ (47 - k)
def wk (c : Nat → Nat) (k : Nat) : Nat := 72057594037927936 + c k * 281474976710656 - pw47 k
def wN (c : Nat → Nat) (S : Int64) (n : Nat) : Nat := sumS (wk c) S n
def szN (S : Int64) (n : Nat) : Nat := sumS (fun _ => 1) S n
def csN (c : Nat → Nat) (S : Int64) (n : Nat) : Nat := sumS c S n
def vlN (S : Int64) (n : Nat) : Nat := sumS pw47 S n
theorem pw47_le (k : Nat) : pw47 k ≤ 140737488355328 := Nat.pow_le_pow_right (n := 2) (by omega) (show 47 - k ≤ 47 by omega)
theorem wk_v (c : Nat → Nat) (k : Nat) : wk c k + pw47 k = 1 * 72057594037927936 + c k * 281474976710656 := by
  have := pw47_le k
  unfold wk; omega
theorem wk_pos (c : Nat → Nat) (k : Nat) : 0 < wk c k := by
  have := pw47_le k
  unfold wk; omega
theorem wN_v (c : Nat → Nat) (S : Int64) (n : Nat) : wN c S n + vlN S n = szN S n * 72057594037927936 + csN c S n * 281474976710656 := by
  unfold wN vlN szN csN
  rw [← sumS_add, sumS_fc (g := fun k => 1 * 72057594037927936 + c k * 281474976710656) n (fun k _ => wk_v c k), sumS_add, sumS_mul, sumS_mul]
theorem pw_48 {n : Nat} (hn : n < 48) : 2 ^ (48 - n) = 2 * pw47 n := by
  unfold pw47
  rw [show 48 - n = 47 - n + 1 by omega, Nat.pow_succ]; omega
theorem vl_le {S : Int64} {m : Nat} (n : Nat) (hm : m ≤ n) (hn : n ≤ 48) : vlN S n + 2 ^ (48 - n) ≤ vlN S m + 2 ^ (48 - m) := by
  induction n with
  | zero => rw [Nat.le_zero.mp hm]; exact Nat.le_refl _
  | succ n ih =>
    by_cases hE : m = n + 1
    · rw [hE]; exact Nat.le_refl _
    · have ih := ih (by omega) (by omega)
      rw [pw_48 (show n < 48 by omega)] at ih
      have e : 2 ^ (48 - (n + 1)) = pw47 n := by unfold pw47; rw [show 48 - (n + 1) = 47 - n by omega]
      rw [e]
      unfold vlN at ih ⊢
      rw [sumS_s]
      split <;> omega
theorem vl_mono {S : Int64} {m : Nat} (n : Nat) (hm : m ≤ n) : vlN S m ≤ vlN S n := by
  induction n with
  | zero => rw [Nat.le_zero.mp hm]; exact Nat.le_refl _
  | succ n ih =>
    by_cases hE : m = n + 1
    · rw [hE]; exact Nat.le_refl _
    · have ih := ih (by omega)
      unfold vlN at ih ⊢
      rw [sumS_s]
      split <;> omega
theorem vl_lt {S : Int64} {n : Nat} (hn : n ≤ 48) : vlN S n < 281474976710656 := by
  have h := vl_le (S := S) (m := 0) n (Nat.zero_le _) hn
  have h1 : 0 < 2 ^ (48 - n) := Nat.pow_pos (by omega)
  have h2 : vlN S 0 = 0 := rfl
  rw [h2] at h
  have h3 : (2 : Nat) ^ (48 - 0) = 281474976710656 := rfl
  omega
/-- of two sets the one with the first differing prime has the larger share -/
theorem vl_lex {S T : Int64} {j n : Nat} (hj : j < n) (hn : n ≤ 48) (h : ∀ k, k < j → bl S k = bl T k) (hS : bl S j = false) (hT : bl T j = true) : vlN S n < vlN T n := by
  have a := vl_le (S := S) (m := j + 1) n (by omega) hn
  have b := vl_mono (S := T) (m := j + 1) n (by omega)
  have c : vlN S j = vlN T j := sumS_cong j h
  have e1 : vlN S (j + 1) = vlN S j := by unfold vlN; rw [sumS_s, hS, if_neg (by decide)]
  have e2 : vlN T (j + 1) = vlN T j + pw47 j := by unfold vlN; rw [sumS_s, hT, if_pos rfl]
  have e3 : 2 ^ (48 - (j + 1)) = pw47 j := by unfold pw47; rw [show 48 - (j + 1) = 47 - j by omega]
  have p : 0 < 2 ^ (48 - n) := Nat.pow_pos (by omega)
  rw [e3] at a
  omega
theorem first_diff {S T : Int64} (n : Nat) (h : ¬ ∀ k, k < n → bl S k = bl T k) : ∃ j, j < n ∧ bl S j ≠ bl T j ∧ ∀ k, k < j → bl S k = bl T k := by
  induction n with
  | zero => exact absurd (fun k hk => absurd hk (Nat.not_lt_zero k)) h
  | succ n ih =>
    by_cases h1 : ∀ k, k < n → bl S k = bl T k
    · refine ⟨n, Nat.lt_succ_self n, fun e => h (fun k hk => ?_), h1⟩
      by_cases hE : k = n
      · subst hE; exact e
      · exact h1 k (by omega)
    · obtain ⟨j, hj, g⟩ := ih h1
      exact ⟨j, by omega, g⟩
theorem vl_inj {S T : Int64} {n : Nat} (hn : n ≤ 48) (h : vlN S n = vlN T n) : ∀ k, k < n → bl S k = bl T k := by
  apply Classical.byContradiction
  intro g
  obtain ⟨j, hj, hd, hb⟩ := first_diff n g
  cases h1 : bl S j with
  | false =>
    have h2 : bl T j = true := by
      cases h3 : bl T j with
      | false => exact absurd (h1.trans h3.symm) hd
      | true => rfl
    have := vl_lex hj hn hb h1 h2
    omega
  | true =>
    have h2 : bl T j = false := by
      cases h3 : bl T j with
      | false => rfl
      | true => exact absurd (h1.trans h3.symm) hd
    have := vl_lex hj hn (fun k hk => (hb k hk).symm) h2 h1
    omega
def inS (S : Int64) (n : Nat) : Prop := ∀ k, k < 64 → bl S k = true → k < n
theorem inS_ext {S T : Int64} {n : Nat} (hS : inS S n) (hT : inS T n) (h : ∀ k, k < n → bl S k = bl T k) : S = T := by
  refine l_ext (fun i hi => ?_)
  by_cases h1 : i < n
  · exact h i h1
  · cases h2 : bl S i with
    | true => exact absurd (hS i hi h2) h1
    | false =>
      cases h3 : bl T i with
      | true => exact absurd (hT i hi h3) h1
      | false => rfl
theorem wN_inj {c : Nat → Nat} {S T : Int64} {n : Nat} (hn : n ≤ 48) (hS : inS S n) (hT : inS T n) (h : wN c S n = wN c T n) : S = T := by
  refine inS_ext hS hT (vl_inj hn ?_)
  have a := wN_v c S n
  have b := wN_v c T n
  have d := vl_lt (S := S) hn
  have e := vl_lt (S := T) hn
  omega
/-! ===== covers ===== -/
def covS (pts : Nat → Int32) (W : Int32) (n : Nat) (S : Int64) : Prop := ∀ e, e < 32 → bt W e = true → ∃ k, k < n ∧ bl S k = true ∧ bt (pts k) e = true
def isOpt (c : Nat → Nat) (pts : Nat → Int32) (W : Int32) (n : Nat) (S : Int64) : Prop := inS S n ∧ covS pts W n S ∧ ∀ T, inS T n → covS pts W n T → wN c S n ≤ wN c T n
theorem opt_ex {c : Nat → Nat} {pts : Nat → Int32} {W : Int32} {n : Nat} (h : ∃ T, inS T n ∧ covS pts W n T) : ∃ S, isOpt c pts W n S := by
  obtain ⟨T, h1, h2⟩ := h
  have key : ∀ m T, wN c T n ≤ m → inS T n → covS pts W n T → ∃ S, isOpt c pts W n S := by
    intro m
    induction m with
    | zero => intro T hm h1 h2; exact ⟨T, h1, h2, fun U _ _ => by omega⟩
    | succ m ih =>
      intro T hm h1 h2
      by_cases hb : ∃ U, inS U n ∧ covS pts W n U ∧ wN c U n < wN c T n
      · obtain ⟨U, u1, u2, u3⟩ := hb
        exact ih U (by omega) u1 u2
      · refine ⟨T, h1, h2, fun U u1 u2 => ?_⟩
        apply Classical.byContradiction
        intro g
        exact hb ⟨U, u1, u2, by omega⟩
  exact key _ T (Nat.le_refl _) h1 h2
theorem opt_eq {c : Nat → Nat} {pts : Nat → Int32} {W : Int32} {n : Nat} {S T : Int64} (hn : n ≤ 48) (h : isOpt c pts W n S) (hT : inS T n) (hc : covS pts W n T) (hw : wN c T n ≤ wN c S n) : T = S := wN_inj hn hT h.1 (Nat.le_antisymm hw (h.2.2 T hT hc))
def setB (S : Int64) (k : Nat) : Int64 := S ||| ((1 : Int64) <<< ((nI k).toInt64 &&& 63))
def clrB (S : Int64) (k : Nat) : Int64 := S &&& (((1 : Int64) <<< ((nI k).toInt64 &&& 63)) ^^^ (-1))
theorem setB_b {S : Int64} {k e : Nat} (hk : k < 64) (he : e < 64) : bl (setB S k) e = (bl S e || decide (e = k)) := by unfold setB; rw [l_or, l_one hk he]
theorem clrB_b {S : Int64} {k e : Nat} (hk : k < 64) (he : e < 64) : bl (clrB S k) e = (bl S e && !decide (e = k)) := by
  unfold clrB
  rw [l_and, l_xor, l_one hk he, l_m1 e he]
  cases bl S e <;> cases decide (e = k) <;> rfl
theorem wN_clr {c : Nat → Nat} {S : Int64} {k n : Nat} (hk : k < n) (hn : n ≤ 48) (h : bl S k = true) : wN c S n = wN c (clrB S k) n + wk c k := by
  have h1 : bl (clrB S k) k = false := by rw [clrB_b (by omega) (by omega), decide_eq_true rfl, Bool.not_true, Bool.and_false]
  unfold wN
  rw [sumS_one (f := wk c) (S := clrB S k) (T := S) (j := k) h1 h (fun e he h6 => by rw [clrB_b (by omega) h6, decide_eq_false he, Bool.not_false, Bool.and_true]) n (by omega), if_pos hk]
theorem wN_set {c : Nat → Nat} {S : Int64} {k n : Nat} (hk : k < n) (hn : n ≤ 48) (h : bl S k = false) : wN c (setB S k) n = wN c S n + wk c k := by
  unfold wN
  rw [sumS_one (f := wk c) (S := S) (T := setB S k) (j := k) h (by rw [setB_b (by omega) (by omega), decide_eq_true rfl, Bool.or_true]) (fun e he h6 => by rw [setB_b (by omega) h6, decide_eq_false he, Bool.or_false]) n (by omega), if_pos hk]
theorem inS_set {S : Int64} {k n : Nat} (h : inS S n) (hk : k < n) (hn : n ≤ 48) : inS (setB S k) n := by
  intro e he hb
  rw [setB_b (by omega) he, Bool.or_eq_true] at hb
  rcases hb with hb | hb
  · exact h e he hb
  · rw [of_decide_eq_true hb]; exact hk
theorem inS_clr {S : Int64} {k n : Nat} (h : inS S n) (hk : k < n) (hn : n ≤ 48) : inS (clrB S k) n := by
  intro e he hb
  rw [clrB_b (by omega) he, Bool.and_eq_true] at hb
  exact h e he hb.1
