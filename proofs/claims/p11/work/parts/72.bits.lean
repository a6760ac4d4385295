/-! ===== Int32 by its bits: bt x i ===== -/
def bt (x : Int32) (i : Nat) : Bool := x.toBitVec.getLsbD i
theorem b_ext {x y : Int32} (h : ∀ i, i < 32 → bt x i = bt y i) : x = y := Int32.toBitVec_inj.mp (BitVec.eq_of_getLsbD_eq (fun i hi => h i hi))
theorem b_or (x y : Int32) (i : Nat) : bt (x ||| y) i = (bt x i || bt y i) := by unfold bt; rw [Int32.toBitVec_or, BitVec.getLsbD_or]
theorem b_and (x y : Int32) (i : Nat) : bt (x &&& y) i = (bt x i && bt y i) := by unfold bt; rw [Int32.toBitVec_and, BitVec.getLsbD_and]
theorem b_xor (x y : Int32) (i : Nat) : bt (x ^^^ y) i = (bt x i ^^ bt y i) := by unfold bt; rw [Int32.toBitVec_xor, BitVec.getLsbD_xor]
theorem b_big {x : Int32} {i : Nat} (h : 32 ≤ i) : bt x i = false := BitVec.getLsbD_of_ge _ _ h
theorem b_255 (i : Nat) : bt 255 i = decide (i < 8) := by
  rcases Nat.lt_or_ge i 32 with h | h
  · exact (by decide +kernel : ∀ i, i < 32 → bt 255 i = decide (i < 8)) i h
  · rw [b_big h, decide_eq_false (by omega)]
theorem b_65535 (i : Nat) : bt 65535 i = decide (i < 16) := by
  rcases Nat.lt_or_ge i 32 with h | h
  · exact (by decide +kernel : ∀ i, i < 32 → bt 65535 i = decide (i < 16)) i h
  · rw [b_big h, decide_eq_false (by omega)]
theorem b_m1 : ∀ i, i < 32 → bt (-1) i = true := by decide +kernel
theorem b_0 (i : Nat) : bt 0 i = false := BitVec.getLsbD_zero
theorem s_l : ∀ n, n < 32 → ((nI n &&& 31).toBitVec.smod 32).toNat = n := by decide +kernel
theorem s_u : ∀ n, n < 32 → (((nI n).toUInt32 &&& Int32.toUInt32 31).toBitVec % 32).toNat = n := by decide +kernel
theorem b_shl (n : Nat) (hn : n < 32) (x : Int32) {i : Nat} (hi : i < 32) : bt (x <<< (nI n &&& 31)) i = (decide (n ≤ i) && bt x (i - n)) := by
  unfold bt
  rw [Int32.toBitVec_shiftLeft]
  show (x.toBitVec <<< ((nI n &&& 31).toBitVec.smod 32).toNat).getLsbD i = _
  rw [s_l n hn, BitVec.getLsbD_shiftLeft]
  rcases Nat.lt_or_ge i n with h | h
  · simp [h, Nat.not_le.mpr h]
  · simp [hi, h, Nat.not_lt.mpr h]
theorem b_ushr (n : Nat) (hn : n < 32) (x : Int32) (i : Nat) : bt ((x.toUInt32 >>> ((nI n).toUInt32 &&& Int32.toUInt32 31)).toInt32) i = bt x (n + i) := by
  show (x.toUInt32 >>> ((nI n).toUInt32 &&& Int32.toUInt32 31)).toBitVec.getLsbD i = x.toUInt32.toBitVec.getLsbD (n + i)
  rw [UInt32.toBitVec_shiftRight]
  show (x.toUInt32.toBitVec >>> (((nI n).toUInt32 &&& Int32.toUInt32 31).toBitVec % 32).toNat).getLsbD i = _
  rw [s_u n hn, BitVec.getLsbD_ushiftRight]
theorem b_sshr (n : Nat) (hn : n < 32) (x : Int32) {i : Nat} (hi : i < 32) : bt (x >>> (nI n &&& 31)) i = if n + i < 32 then bt x (n + i) else bt x 31 := by
  unfold bt
  rw [Int32.toBitVec_shiftRight]
  show (x.toBitVec.sshiftRight ((nI n &&& 31).toBitVec.smod 32).toNat).getLsbD i = _
  rw [s_l n hn, BitVec.getLsbD_sshiftRight, BitVec.msb_eq_getLsbD_last]
  simp [hi]
theorem b_shl8 (x : Int32) {i : Nat} (hi : i < 32) : bt (x <<< ((8 : Int32) &&& 31)) i = (decide (8 ≤ i) && bt x (i - 8)) := b_shl 8 (by omega) x hi
theorem b_shl16 (x : Int32) {i : Nat} (hi : i < 32) : bt (x <<< ((16 : Int32) &&& 31)) i = (decide (16 ≤ i) && bt x (i - 16)) := b_shl 16 (by omega) x hi
theorem b_shl24 (x : Int32) {i : Nat} (hi : i < 32) : bt (x <<< ((24 : Int32) &&& 31)) i = (decide (24 ≤ i) && bt x (i - 24)) := b_shl 24 (by omega) x hi
theorem b_sshr8 (x : Int32) {i : Nat} (hi : i < 32) : bt (x >>> ((8 : Int32) &&& 31)) i = if 8 + i < 32 then bt x (8 + i) else bt x 31 := b_sshr 8 (by omega) x hi
/-! ===== sets of points by their bits ===== -/
theorem nb0 (x y : Int32) : x &&& (y ^^^ (-1)) = 0 ↔ ∀ e, e < 32 → bt x e = true → bt y e = true := by
  constructor
  · intro h e he hx
    cases hy : bt y e with
    | true => rfl
    | false =>
      have h1 : bt (x &&& (y ^^^ (-1))) e = true := by rw [b_and, b_xor, b_m1 e he, hx, hy]; rfl
      rw [h, b_0] at h1
      cases h1
  · intro h
    refine b_ext (fun e he => ?_)
    rw [b_0, b_and, b_xor, b_m1 e he]
    cases hx : bt x e with
    | false => rfl
    | true => rw [h e he hx]; rfl
theorem ex_bit {x : Int32} (h : ¬ x = 0) : ∃ e, e < 32 ∧ bt x e = true := by
  apply Classical.byContradiction
  intro hn
  refine h (b_ext (fun e he => ?_))
  rw [b_0]
  cases hb : bt x e with
  | false => rfl
  | true => exact absurd ⟨e, he, hb⟩ hn
theorem nz_bit {x : Int32} {e : Nat} (h : bt x e = true) : ¬ x = 0 := fun h0 => by rw [h0, b_0] at h; cases h
theorem b_1 (e : Nat) : bt 1 e = decide (e = 0) := by
  rcases Nat.lt_or_ge e 32 with h | h
  · exact (by decide +kernel : ∀ e, e < 32 → bt 1 e = decide (e = 0)) e h
  · rw [b_big h, decide_eq_false (by omega)]
theorem u1 (x : Int32) (k : Nat) (hk : k < 32) : uI x (nI k) &&& 1 = if bt x k = true then 1 else 0 := by
  refine b_ext (fun e he => ?_)
  rw [b_and, b_1, show bt (uI x (nI k)) e = bt x (k + e) from b_ushr k hk x e]
  by_cases h0 : e = 0
  · subst h0
    cases hb : bt x k with
    | true => decide +kernel
    | false => decide +kernel
  · rw [decide_eq_false h0, Bool.and_false]
    cases hb : bt x k with
    | true => rw [if_pos rfl, b_1, decide_eq_false h0]
    | false => rw [if_neg (by decide), b_0]
/-- how many of the first n are so -/
def cnt (P : Nat → Bool) (n : Nat) : Nat := itr (fun k a => if P k = true then a + 1 else a) n 0
theorem cnt_s (P : Nat → Bool) (n : Nat) : cnt P (n + 1) = if P n = true then cnt P n + 1 else cnt P n := rfl
theorem cnt_le (P : Nat → Bool) (n : Nat) : cnt P n ≤ n := by
  induction n with
  | zero => exact Nat.le_refl 0
  | succ n ih => rw [cnt_s]; split <;> omega
theorem cnt_mono (P : Nat → Bool) {a b : Nat} (h : a ≤ b) : cnt P a ≤ cnt P b := by
  induction b with
  | zero => rw [Nat.le_zero.mp h]; exact Nat.le_refl _
  | succ b ih =>
    by_cases hE : a = b + 1
    · subst hE; exact Nat.le_refl _
    · have := ih (by omega)
      rw [cnt_s]
      split <;> omega
theorem cnt_0 {P : Nat → Bool} {n : Nat} : cnt P n = 0 ↔ ∀ k, k < n → P k = false := by
  induction n with
  | zero => exact ⟨fun _ k hk => absurd hk (Nat.not_lt_zero k), fun _ => rfl⟩
  | succ n ih =>
    rw [cnt_s]
    constructor
    · intro h k hk
      cases hp : P n with
      | true => rw [if_pos hp] at h; omega
      | false =>
        rw [if_neg (by rw [hp]; decide)] at h
        by_cases hE : k = n
        · subst hE; exact hp
        · exact ih.mp h k (by omega)
    · intro h
      rw [if_neg (by rw [h n (by omega)]; decide)]
      exact ih.mpr (fun k hk => h k (by omega))
theorem cnt_lt {P Q : Nat → Bool} {n e : Nat} (he : e < n) (hle : ∀ k, k < n → P k = true → Q k = true) (hP : P e = false) (hQ : Q e = true) : cnt P n < cnt Q n := by
  have key : ∀ m, m ≤ n → cnt P m ≤ cnt Q m ∧ (e < m → cnt P m < cnt Q m) := by
    intro m
    induction m with
    | zero => intro _; exact ⟨Nat.le_refl _, fun h => absurd h (Nat.not_lt_zero _)⟩
    | succ m ih =>
      intro hm
      obtain ⟨h1, h2⟩ := ih (by omega)
      rw [cnt_s, cnt_s]
      by_cases hE : e = m
      · subst hE
        rw [if_neg (by rw [hP]; decide), if_pos hQ]
        exact ⟨by omega, fun _ => by omega⟩
      · cases hp : P m with
        | true => rw [if_pos rfl, if_pos (hle m (by omega) hp)]; exact ⟨by omega, fun h => by have := h2 (by omega); omega⟩
        | false =>
          rw [if_neg (by decide)]
          split
          · exact ⟨by omega, fun h => by have := h2 (by omega); omega⟩
          · exact ⟨h1, fun h => h2 (by omega)⟩
  exact (key n (Nat.le_refl n)).2 he
theorem cnt_add {P Q S : Nat → Bool} (h : ∀ k, S k = (P k || Q k)) (hd : ∀ k, P k = true → Q k = false) (n : Nat) : cnt S n = cnt P n + cnt Q n := by
  induction n with
  | zero => rfl
  | succ n ih =>
    rw [cnt_s, cnt_s, cnt_s, h n, ih]
    cases hp : P n with
    | true => rw [hd n hp]; simp; omega
    | false => cases hq : Q n <;> simp <;> omega
theorem ones_c (x : Int32) : ∀ k, k ≤ 32 → rOnes x k = nI (cnt (bt x) k) := by
  intro k
  induction k with
  | zero => intro _; rfl
  | succ k ih =>
    intro hk
    rw [show rOnes x (k + 1) = rOnes x k + (uI x (nI k) &&& 1) from rfl, ih (by omega), u1 x k (by omega), cnt_s]
    split
    · exact nI_1 _
    · exact (show nI (cnt (bt x) k) + nI 0 = _ from nI_add _ _)
theorem on_pos {x : Int32} (h : 0 < rOnes x 32) : ¬ x = 0 := by
  intro h0
  rw [ones_c x 32 (Nat.le_refl _), cnt_0.mpr (fun k _ => by rw [h0]; exact b_0 k)] at h
  exact absurd h (by decide)
theorem on_z {x : Int32} (h : ¬ 0 < rOnes x 32) : x = 0 := by
  have hc : cnt (bt x) 32 = 0 := by
    rw [ones_c x 32 (Nat.le_refl _)] at h
    have := cnt_le (bt x) 32
    apply Classical.byContradiction
    intro hn
    exact h ((nI_ltI (a := 0) (b := cnt (bt x) 32) (by omega) (by omega)).mpr (by omega))
  exact b_ext (fun e he => by rw [cnt_0.mp hc e he, b_0])
theorem on_lt {x y : Int32} (h : rOnes y 32 < rOnes x 32) : ¬ x = 0 := by
  rw [ones_c x 32 (Nat.le_refl _), ones_c y 32 (Nat.le_refl _)] at h
  have h1 := cnt_le (bt x) 32
  have h2 := cnt_le (bt y) 32
  have h3 := (nI_ltI (a := cnt (bt y) 32) (b := cnt (bt x) 32) (by omega) (by omega)).mp h
  intro h0
  have h4 : cnt (bt x) 32 = 0 := cnt_0.mpr (fun k _ => by rw [h0]; exact b_0 k)
  omega
theorem on_eq {x y : Int32} (h : rOnes x 32 = rOnes y 32) (hy : ¬ y = 0) : ¬ x = 0 := by
  intro h0
  have h1 := cnt_le (bt y) 32
  rw [ones_c x 32 (Nat.le_refl _), ones_c y 32 (Nat.le_refl _), cnt_0.mpr (fun k _ => by rw [h0]; exact b_0 k)] at h
  have h2 := (nI_eq (a := 0) (b := cnt (bt y) 32) (by omega) (by omega)).mp h
  exact hy (b_ext (fun e he => by rw [cnt_0.mp h2.symm e he, b_0]))
/-- the bits that are not set -/
def zc (x : Int32) : Nat := cnt (fun e => !bt x e) 32
theorem zc_le (x : Int32) : zc x ≤ 32 := cnt_le _ _
theorem zc_lt {x y : Int32} {e : Nat} (he : e < 32) (hx : bt x e = false) (hy : bt y e = true) : zc (x ||| y) < zc x := by
  refine cnt_lt he (fun k _ h => ?_) ?_ ?_
  · rw [b_or] at h
    cases hb : bt x k with
    | false => rfl
    | true => rw [hb] at h; cases h
  · show (!bt (x ||| y) e) = false
    rw [b_or, hx, hy]; rfl
  · show (!bt x e) = true
    rw [hx]; rfl
/-- what is not had: a point of the set that is open -/
theorem open_bit {x had : Int32} (h : ¬ x &&& (had ^^^ (-1)) = 0) : ∃ e, e < 32 ∧ bt x e = true ∧ bt had e = false := by
  obtain ⟨e, he, h1⟩ := ex_bit h
  rw [b_and, b_xor, b_m1 e he] at h1
  refine ⟨e, he, ?_, ?_⟩
  · cases hb : bt x e with
    | true => rfl
    | false => rw [hb] at h1; cases h1
  · cases hb : bt had e with
    | false => rfl
    | true => rw [hb, Bool.and_eq_true] at h1; cases h1.2
theorem bit_open {x had : Int32} {e : Nat} (he : e < 32) (h1 : bt x e = true) (h2 : bt had e = false) : ¬ x &&& (had ^^^ (-1)) = 0 := fun h => by
  have := (nb0 x had).mp h e he h1
  rw [h2] at this
  cases this
