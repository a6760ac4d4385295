/-! ===== a row of primes as a set ===== -/
def mk (a : Nat → Nat) (d : Nat) : Int64 := itr (fun j acc => setB acc (a j)) d 0
theorem mk_s (a : Nat → Nat) (d : Nat) : mk a (d + 1) = setB (mk a d) (a d) := rfl
def sumQ (f : Nat → Nat) (a : Nat → Nat) (d : Nat) : Nat := itr (fun j acc => acc + f (a j)) d 0
def incr (a : Nat → Nat) (d n : Nat) : Prop := (∀ j, j < d → a j < n) ∧ ∀ i j, i < j → j < d → a i < a j
theorem incr_d {a : Nat → Nat} {d n m : Nat} (h : incr a d n) (hm : m ≤ d) : incr a m n := ⟨fun j hj => h.1 j (by omega), fun i j hi hj => h.2 i j hi (by omega)⟩
theorem mk_b {a : Nat → Nat} {n k : Nat} (hn : n ≤ 48) (hk : k < 64) (d : Nat) (h : incr a d n) : bl (mk a d) k = true ↔ ∃ j, j < d ∧ a j = k := by
  induction d with
  | zero => exact ⟨fun g => (by rw [show mk a 0 = 0 from rfl, l_0] at g; cases g), fun ⟨j, hj, _⟩ => absurd hj (Nat.not_lt_zero j)⟩
  | succ d ih =>
    have hd := h.1 d (Nat.lt_succ_self d)
    rw [mk_s, setB_b (by omega) hk, Bool.or_eq_true, ih (incr_d h (Nat.le_succ d))]
    constructor
    · rintro (⟨j, hj, e⟩ | e)
      · exact ⟨j, by omega, e⟩
      · exact ⟨d, Nat.lt_succ_self d, (of_decide_eq_true e).symm⟩
    · rintro ⟨j, hj, e⟩
      by_cases hE : j = d
      · subst hE; exact Or.inr (decide_eq_true e.symm)
      · exact Or.inl ⟨j, by omega, e⟩
theorem mk_in {a : Nat → Nat} {n d : Nat} (hn : n ≤ 48) (h : incr a d n) : inS (mk a d) n := by
  intro k hk hb
  obtain ⟨j, hj, rfl⟩ := (mk_b hn hk d h).mp hb
  exact h.1 j hj
theorem mk_sum {f : Nat → Nat} {a : Nat → Nat} {n : Nat} (hn : n ≤ 48) (d : Nat) (h : incr a d n) : sumS f (mk a d) n = sumQ f a d := by
  induction d with
  | zero =>
    have : ∀ m, sumS f 0 m = 0 := by
      intro m
      induction m with
      | zero => rfl
      | succ m ih => rw [sumS_s, l_0, if_neg (by decide), ih]
    exact this n
  | succ d ih =>
    have hd := h.1 d (Nat.lt_succ_self d)
    have h0 : bl (mk a d) (a d) = false := Bool.eq_false_iff.mpr (fun g => by
      obtain ⟨j, hj, e⟩ := (mk_b hn (by omega) d (incr_d h (Nat.le_succ d))).mp g
      have := h.2 j d hj (Nat.lt_succ_self d)
      omega)
    rw [mk_s, sumS_one (f := f) (S := mk a d) (T := setB (mk a d) (a d)) (j := a d) h0 (by rw [setB_b (by omega) (by omega), decide_eq_true rfl, Bool.or_true]) (fun e he h6 => by rw [setB_b (by omega) h6, decide_eq_false he, Bool.or_false]) n (by omega), if_pos hd, ih (incr_d h (Nat.le_succ d))]
    rfl
theorem sumQ_1 (a : Nat → Nat) (d : Nat) : sumQ (fun _ => 1) a d = d := by
  induction d with
  | zero => rfl
  | succ d ih => show sumQ (fun _ => 1) a d + 1 = d + 1; rw [ih]
theorem sumQ_bd {f : Nat → Nat} {a : Nat → Nat} {B n : Nat} (d : Nat) (h : ∀ j, j < d → a j < n) (hf : ∀ k, k < n → f k ≤ B) : sumQ f a d ≤ d * B := by
  induction d with
  | zero => show 0 ≤ 0 * B; omega
  | succ d ih =>
    have := ih (fun j hj => h j (by omega))
    have h2 := hf (a d) (h d (Nat.lt_succ_self d))
    show sumQ f a d + f (a d) ≤ (d + 1) * B
    rw [Nat.add_mul]; omega
theorem sz_set {S : Int64} {k n : Nat} (hk : k < n) (hn : n ≤ 48) : szN (setB S k) n ≤ szN S n + 1 := by
  by_cases h : bl S k = true
  · have e : szN (setB S k) n = szN S n := sumS_cong n (fun j hj => by
      rw [setB_b (by omega) (by omega)]
      by_cases hE : j = k
      · subst hE; rw [h]; rfl
      · rw [decide_eq_false hE, Bool.or_false])
    omega
  · unfold szN
    rw [sumS_one (f := fun _ => 1) (S := S) (T := setB S k) (j := k) (Bool.eq_false_iff.mpr h) (by rw [setB_b (by omega) (by omega), decide_eq_true rfl, Bool.or_true]) (fun e he h6 => by rw [setB_b (by omega) h6, decide_eq_false he, Bool.or_false]) n (by omega), if_pos hk]
    exact Nat.le_refl _
section OPT
variable {c : Nat → Nat} {pts : Nat → Int32} {W : Int32} {n : Nat} {S : Int64}
theorem small_cov (hn : n ≤ 48) (hcov : ∀ e, e < 32 → bt W e = true → ∃ k, k < n ∧ bt (pts k) e = true) : ∀ m, m ≤ 32 → ∃ U, inS U n ∧ szN U n ≤ m ∧ ∀ e, e < m → bt W e = true → ∃ k, k < n ∧ bl U k = true ∧ bt (pts k) e = true := by
  intro m
  induction m with
  | zero => exact fun _ => ⟨0, fun k _ hb => (by rw [l_0] at hb; cases hb), Nat.le_of_eq (by
      have : ∀ m, szN 0 m = 0 := by
        intro m
        induction m with
        | zero => rfl
        | succ m ih => unfold szN at ih ⊢; rw [sumS_s, l_0, if_neg (by decide), ih]
      exact this n), fun e he => absurd he (Nat.not_lt_zero e)⟩
  | succ m ih =>
    intro hm
    obtain ⟨U, h1, h2, h3⟩ := ih (by omega)
    by_cases hW : bt W m = true
    · obtain ⟨k, hk, hb⟩ := hcov m (by omega) hW
      refine ⟨setB U k, inS_set h1 hk hn, by have := sz_set (S := U) hk hn; omega, fun e he hWe => ?_⟩
      by_cases hE : e = m
      · subst hE
        exact ⟨k, hk, by rw [setB_b (by omega) (by omega), decide_eq_true rfl, Bool.or_true], hb⟩
      · obtain ⟨j, hj, j1, j2⟩ := h3 e (by omega) hWe
        exact ⟨j, hj, by rw [setB_b (by omega) (by omega), j1]; rfl, j2⟩
    · refine ⟨U, h1, by omega, fun e he hWe => ?_⟩
      by_cases hE : e = m
      · subst hE; exact absurd hWe hW
      · exact h3 e (by omega) hWe
theorem cs_bd {T : Int64} (hc : ∀ k, k < n → c k ≤ 6) : csN c T n ≤ szN T n * 6 := by
  unfold csN szN
  have key : ∀ m, m ≤ n → sumS c T m ≤ sumS (fun _ => 1) T m * 6 := by
    intro m
    induction m with
    | zero => intro _; show 0 ≤ 0 * 6; omega
    | succ m ih =>
      intro hm
      have := ih (by omega)
      have h2 := hc m (by omega)
      rw [sumS_s, sumS_s]
      split <;> omega
  exact key n (Nat.le_refl n)
theorem opt_sz (hn : n ≤ 48) (hc : ∀ k, k < n → c k ≤ 6) (hcov : ∀ e, e < 32 → bt W e = true → ∃ k, k < n ∧ bt (pts k) e = true) (hS : isOpt c pts W n S) : szN S n ≤ 32 := by
  obtain ⟨U, h1, h2, h3⟩ := small_cov hn hcov 32 (Nat.le_refl 32)
  have h4 := hS.2.2 U h1 h3
  have a := wN_v c S n
  have b := wN_v c U n
  have d := vl_lt (S := S) hn
  have f := cs_bd (T := U) hc
  apply Classical.byContradiction
  intro g
  have g2 : 33 * 72057594037927936 ≤ szN S n * 72057594037927936 := Nat.mul_le_mul_right _ (by omega)
  have g3 : szN U n * 72057594037927936 ≤ 32 * 72057594037927936 := Nat.mul_le_mul_right _ h2
  have g4 : csN c U n * 281474976710656 ≤ 192 * 281474976710656 := Nat.mul_le_mul_right _ (by omega)
  omega
/-- a smaller cover is none -/
theorem opt_few (hn : n ≤ 48) (hc : ∀ k, k < n → c k ≤ 6) (hS : isOpt c pts W n S) (h32 : szN S n ≤ 32) {T : Int64} (hT : inS T n) (hcT : covS pts W n T) : szN S n ≤ szN T n := by
  have h4 := hS.2.2 T hT hcT
  have a := wN_v c S n
  have b := wN_v c T n
  have d := vl_lt (S := S) hn
  have f := cs_bd (T := T) hc
  apply Classical.byContradiction
  intro g
  have g2 : (szN T n + 1) * 72057594037927936 ≤ szN S n * 72057594037927936 := Nat.mul_le_mul_right _ (by omega)
  have g4 : csN c T n * 281474976710656 ≤ 192 * 281474976710656 := Nat.mul_le_mul_right _ (by omega)
  omega
theorem opt_cs (hn : n ≤ 48) (hS : isOpt c pts W n S) {T : Int64} (hT : inS T n) (hcT : covS pts W n T) (hs : szN T n = szN S n) : csN c S n ≤ csN c T n ∧ (vlN S n < vlN T n → csN c S n < csN c T n) := by
  have h4 := hS.2.2 T hT hcT
  have a := wN_v c S n
  have b := wN_v c T n
  have d := vl_lt (S := S) hn
  have e := vl_lt (S := T) hn
  rw [hs] at b
  constructor
  · apply Classical.byContradiction
    intro g
    have g4 : (csN c T n + 1) * 281474976710656 ≤ csN c S n * 281474976710656 := Nat.mul_le_mul_right _ (by omega)
    omega
  · intro hv
    apply Classical.byContradiction
    intro g
    have g4 : csN c T n * 281474976710656 ≤ csN c S n * 281474976710656 := Nat.mul_le_mul_right _ (by omega)
    omega
end OPT
/-! ===== the set's members in their order ===== -/
def enS (S : Int64) (n : Nat) : Nat × (Nat → Nat) := itr (fun k x => if bl S k = true then (x.1 + 1, updN x.2 x.1 k) else x) n (0, fun _ => 0)
theorem enS_s (S : Int64) (n : Nat) : enS S (n + 1) = if bl S n = true then ((enS S n).1 + 1, updN (enS S n).2 (enS S n).1 n) else enS S n := rfl
theorem updN_s {f : Nat → Nat} {k v : Nat} : updN f k v k = v := if_pos rfl
theorem updN_n {f : Nat → Nat} {k v j : Nat} (h : j ≠ k) : updN f k v j = f j := if_neg h
theorem enS_ok (S : Int64) (n : Nat) : incr (enS S n).2 (enS S n).1 n ∧ (enS S n).1 = szN S n ∧ ∀ k, k < n → (bl S k = true ↔ ∃ j, j < (enS S n).1 ∧ (enS S n).2 j = k) := by
  induction n with
  | zero => exact ⟨⟨fun j hj => absurd hj (Nat.not_lt_zero j), fun i j _ hj => absurd hj (Nat.not_lt_zero j)⟩, rfl, fun k hk => absurd hk (Nat.not_lt_zero k)⟩
  | succ n ih =>
    obtain ⟨⟨h1, h2⟩, h3, h4⟩ := ih
    rw [enS_s]
    by_cases hb : bl S n = true
    · rw [if_pos hb]
      refine ⟨⟨fun j hj => ?_, fun i j hi hj => ?_⟩, ?_, fun k hk => ?_⟩
      · show updN _ _ _ j < n + 1
        by_cases hE : j = (enS S n).1
        · rw [hE, updN_s]; omega
        · rw [updN_n hE]; have := h1 j (by have : j < (enS S n).1 + 1 := hj; omega); omega
      · show updN _ _ _ i < updN _ _ _ j
        have hj : j < (enS S n).1 + 1 := hj
        rw [updN_n (show i ≠ (enS S n).1 by omega)]
        by_cases hE : j = (enS S n).1
        · rw [hE, updN_s]; exact h1 i (by omega)
        · rw [updN_n hE]; exact h2 i j hi (by omega)
      · show (enS S n).1 + 1 = szN S (n + 1)
        unfold szN at h3 ⊢
        rw [sumS_s, if_pos hb, h3]
      · by_cases hE : k = n
        · subst hE
          exact ⟨fun _ => ⟨(enS S k).1, Nat.lt_succ_self _, updN_s⟩, fun _ => hb⟩
        · rw [h4 k (by omega)]
          constructor
          · rintro ⟨j, hj, e⟩
            exact ⟨j, Nat.lt_succ_of_lt hj, (updN_n (Nat.ne_of_lt hj)).trans e⟩
          · rintro ⟨j, hj, e⟩
            have hj : j < (enS S n).1 + 1 := hj
            have e : updN (enS S n).2 (enS S n).1 n j = k := e
            by_cases hJ : j = (enS S n).1
            · rw [hJ, updN_s] at e; exact absurd e.symm hE
            · rw [updN_n hJ] at e; exact ⟨j, by omega, e⟩
    · rw [if_neg hb]
      refine ⟨⟨fun j hj => by have := h1 j hj; omega, h2⟩, ?_, fun k hk => ?_⟩
      · unfold szN at h3 ⊢
        rw [sumS_s, if_neg hb, h3]
      · by_cases hE : k = n
        · subst hE
          refine ⟨fun g => absurd g hb, fun ⟨j, hj, e⟩ => ?_⟩
          have := h1 j hj
          omega
        · exact h4 k (by omega)
