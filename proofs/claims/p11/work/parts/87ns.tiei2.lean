/-! ===== the least weight; the havers of a point ===== -/
section IM2
variable {c : Nat → Nat} {pts : Nat → Int32} {W op : Int32} {n d : Nat} {wts hav : Nat → Int64} {S us ch fd fw wg : Int64}
theorem fIL_1 (hR : FRr n c pts W wts hav) {row : Int64} {ap : Int32} (m : Nat) (hm : m ≤ n) : ∃ l, l ≤ 4611686018427387904 ∧ (fIL pts wts row ap m).1 = iL l ∧ ∀ k, k < m → bl row k = true → l ≤ wk c k := by
  induction m with
  | zero => exact ⟨4611686018427387904, Nat.le_refl _, rfl, fun k hk => absurd hk (Nat.not_lt_zero k)⟩
  | succ m ih =>
    obtain ⟨l, h1, h2, h3⟩ := ih (by omega)
    have hn := hR.1
    have hwm := wk_le (hR.2.1 m (by omega))
    rw [show fIL pts wts row ap (m + 1) = (if fIn row (nI m) = 0 then fIL pts wts row ap m else ((if wts m < (fIL pts wts row ap m).1 then wts m else (fIL pts wts row ap m).1), (fIL pts wts row ap m).2 &&& (pts m ^^^ (-1)))) from rfl]
    by_cases hi : fIn row (nI m) = 0
    · rw [if_pos hi]
      refine ⟨l, h1, h2, fun k hk hb => ?_⟩
      by_cases hE : k = m
      · subst hE; rw [(fIn_0 (by omega)).mp hi] at hb; cases hb
      · exact h3 k (by omega) hb
    · rw [if_neg hi]
      show ∃ l, l ≤ 4611686018427387904 ∧ (if wts m < (fIL pts wts row ap m).1 then wts m else (fIL pts wts row ap m).1) = iL l ∧ _
      rw [h2, hR.2.2.1 m (by omega)]
      by_cases hlt : iL (wk c m) < iL l
      · have := (iL_lt (by omega) (by omega)).mp hlt
        rw [if_pos hlt]
        refine ⟨wk c m, by omega, rfl, fun k hk hb => ?_⟩
        by_cases hE : k = m
        · subst hE; exact Nat.le_refl _
        · have := h3 k (by omega) hb; omega
      · have : ¬ wk c m < l := fun g => hlt ((iL_lt (by omega) (by omega)).mpr g)
        rw [if_neg hlt]
        refine ⟨l, h1, rfl, fun k hk hb => ?_⟩
        by_cases hE : k = m
        · subst hE; omega
        · exact h3 k (by omega) hb
theorem fIL_2 {row : Int64} {ap : Int32} (hn : n ≤ 48) {e : Nat} (he : e < 32) (m : Nat) (hm : m ≤ n) : bt (fIL pts wts row ap m).2 e = true ↔ bt ap e = true ∧ ∀ k, k < m → bl row k = true → bt (pts k) e = false := by
  induction m with
  | zero => exact ⟨fun h => ⟨h, fun k hk => absurd hk (Nat.not_lt_zero k)⟩, fun h => h.1⟩
  | succ m ih =>
    have ih := ih (by omega)
    rw [show fIL pts wts row ap (m + 1) = (if fIn row (nI m) = 0 then fIL pts wts row ap m else ((if wts m < (fIL pts wts row ap m).1 then wts m else (fIL pts wts row ap m).1), (fIL pts wts row ap m).2 &&& (pts m ^^^ (-1)))) from rfl]
    by_cases hi : fIn row (nI m) = 0
    · have hb := (fIn_0 (S := row) (show m < 64 by omega)).mp hi
      rw [if_pos hi, ih]
      refine ⟨fun h => ⟨h.1, fun k hk g => ?_⟩, fun h => ⟨h.1, fun k hk g => h.2 k (by omega) g⟩⟩
      by_cases hE : k = m
      · subst hE; rw [hb] at g; cases g
      · exact h.2 k (by omega) g
    · have hb : bl row m = true := by
        cases hx : bl row m with
        | true => rfl
        | false => exact absurd ((fIn_0 (by omega)).mpr hx) hi
      rw [if_neg hi]
      show bt ((fIL pts wts row ap m).2 &&& (pts m ^^^ (-1))) e = true ↔ _
      rw [b_and, b_xor, b_m1 e he, Bool.and_eq_true, ih]
      constructor
      · rintro ⟨⟨h1, h2⟩, h3⟩
        refine ⟨h1, fun k hk g => ?_⟩
        by_cases hE : k = m
        · subst hE
          cases hp : bt (pts k) e with
          | false => rfl
          | true => rw [hp] at h3; cases h3
        · exact h2 k (by omega) g
      · rintro ⟨h1, h2⟩
        refine ⟨⟨h1, fun k hk g => h2 k (by omega) g⟩, ?_⟩
        rw [h2 m (Nat.lt_succ_self m) hb]; rfl
theorem fLW_le (hR : FRr n c pts W wts hav) (hS : isOpt c pts W n S) (hI : iV c pts W n op ch wg d) (ht : tg n S us ch) : ∀ (m : Nat) (s : Nat) (ap : Int32) (U : Int64), inS U n → (∀ k, k < n → bl U k = true → bl S k = true ∧ bl ch k = false) → s ≤ wN c U n → (∀ e, e < 32 → bt ap e = true → bt op e = true ∧ ∀ k, k < n → bl U k = true → bt (pts k) e = false) → ∃ t V, fLW pts wts hav us n m (iL s) ap = iL t ∧ inS V n ∧ (∀ k, k < n → bl V k = true → bl S k = true ∧ bl ch k = false) ∧ t ≤ wN c V n := by
  intro m
  induction m with
  | zero => intro s ap U h1 h2 h3 h4; exact ⟨s, U, rfl, h1, h2, h3⟩
  | succ m ih =>
    intro s ap U h1 h2 h3 h4
    have hn := hR.1
    rw [show fLW pts wts hav us n (m + 1) (iL s) ap = (if ap = 0 then iL s else if lg_cmp (hav (fRar hav ap us 32).1.toNatClampNeg &&& us) 0 = 0 then 4611686018427387904 else fLW pts wts hav us n m (iL s + (fIL pts wts (hav (fRar hav ap us 32).1.toNatClampNeg &&& us) ap n).1) (fIL pts wts (hav (fRar hav ap us 32).1.toNatClampNeg &&& us) ap n).2) from rfl]
    by_cases h0 : ap = 0
    · rw [if_pos h0]; exact ⟨s, U, rfl, h1, h2, h3⟩
    · rw [if_neg h0]
      obtain ⟨e, he, e1, e2⟩ := rar_in (op := ap) (us := us) (hav := hav) h0
      obtain ⟨f1, f2⟩ := h4 e he e2
      obtain ⟨g1, g2⟩ := (hI.2.1 e he).mp f1
      obtain ⟨k, hk, k1, k2⟩ := hS.2.1 e he g1
      have hck : bl ch k = false := by
        cases hx : bl ch k with
        | false => rfl
        | true => rw [g2 k hk hx] at k2; cases k2
      have huk : bl us k = true := (ht.2 k hk k1).resolve_left (by rw [hck]; decide)
      have hUk : bl U k = false := by
        cases hx : bl U k with
        | false => rfl
        | true => rw [f2 k hk hx] at k2; cases k2
      rw [e1, nI_clamp (by omega)]
      have hrow : bl (hav e &&& us) k = true := by rw [l_and, (hR.2.2.2.1 e he).2 k hk, k2, huk]; rfl
      rw [if_neg (fun g => by rw [lgc0] at g; rw [g, l_0] at hrow; cases hrow)]
      obtain ⟨l, l1, l2, l3⟩ := fIL_1 hR (row := hav e &&& us) (ap := ap) n (Nat.le_refl n)
      rw [l2, iL_add]
      refine ih (s + l) _ (setB U k) (inS_set h1 hk hn) (fun j hj hb => ?_) ?_ (fun a ha hb => ?_)
      · rw [setB_b (by omega) (by omega), Bool.or_eq_true] at hb
        rcases hb with hb | hb
        · exact h2 j hj hb
        · rw [of_decide_eq_true hb]; exact ⟨k1, hck⟩
      · rw [wN_set hk hn hUk]
        have := l3 k hk hrow
        omega
      · obtain ⟨q1, q2⟩ := (fIL_2 hn ha n (Nat.le_refl n)).mp hb
        obtain ⟨q3, q4⟩ := h4 a ha q1
        refine ⟨q3, fun j hj hb2 => ?_⟩
        rw [setB_b (by omega) (by omega), Bool.or_eq_true] at hb2
        rcases hb2 with hb2 | hb2
        · exact q4 j hj hb2
        · rw [of_decide_eq_true hb2]; exact q2 k hk hrow
theorem sumS_two {f : Nat → Nat} {A B T : Int64} (m : Nat) (h : ∀ k, k < m → (bl A k = true → bl T k = true) ∧ (bl B k = true → bl T k = true) ∧ (bl A k = true → bl B k = false)) : sumS f A m + sumS f B m ≤ sumS f T m := by
  induction m with
  | zero => exact Nat.le_refl 0
  | succ m ih =>
    have ih := ih (fun k hk => h k (by omega))
    obtain ⟨h1, h2, h3⟩ := h m (by omega)
    rw [sumS_s, sumS_s, sumS_s]
    by_cases ha : bl A m = true
    · rw [if_pos ha, if_pos (h1 ha), if_neg (by rw [h3 ha]; decide)]; omega
    · rw [if_neg ha]
      by_cases hb : bl B m = true
      · rw [if_pos hb, if_pos (h2 hb)]; omega
      · rw [if_neg hb]
        split <;> omega
theorem ip_least (hR : FRr n c pts W wts hav) (hS : isOpt c pts W n S) (hI : iV c pts W n op ch wg d) (hF : fV c pts W n fd fw) (h : 0 ≤ lg_cmp (wg + fLW pts wts hav us n 32 0 op) fw) : iP c pts W n S us ch fd fd fw := by
  refine ⟨hF, id, fun ht => ?_⟩
  have hn := hR.1
  obtain ⟨t, V, e1, e2, e3, e4⟩ := fLW_le hR hS hI ht 32 0 op 0 (fun k _ hb => by rw [l_0] at hb; cases hb) (fun k _ hb => by rw [l_0] at hb; cases hb) (Nat.zero_le _) (fun e _ hb => ⟨hb, fun k _ hb2 => by rw [l_0] at hb2; cases hb2⟩)
  have h0 : iL 0 = (0 : Int64) := rfl
  rw [h0] at e1
  have b1 := wN_le (S := ch) hn hR.2.1
  have b2 := wN_le (S := fd) hn hR.2.1
  have b3 := wN_le (S := V) hn hR.2.1
  have b4 : wN c ch n + wN c V n ≤ wN c S n := sumS_two n (fun k hk => ⟨ht.1 k hk, fun g => (e3 k hk g).1, fun g => by
    cases hx : bl V k with
    | false => rfl
    | true => rw [(e3 k hk hx).2] at g; cases g⟩)
  rw [e1, hI.2.2.1, hF.2.2, iL_add, lgc_le (by omega) (by omega)] at h
  exact opt_eq hn hS hF.1 hF.2.1 (by omega)
/-- one more prime is chosen -/
theorem th_iV (hR : FRr n c pts W wts hav) (hI : iV c pts W n op ch wg d) {k e : Nat} (hk : k < n) (he : e < 32) (h1 : bt (pts k) e = true) (h2 : bt op e = true) : iV c pts W n (op &&& (pts k ^^^ (-1))) (setB ch k) (wg + wts k) (d + 1) := by
  have hn := hR.1
  have hck : bl ch k = false := by
    cases hx : bl ch k with
    | false => rfl
    | true => rw [((hI.2.1 e he).mp h2).2 k hk hx] at h1; cases h1
  have hb : ∀ a, a < 32 → (bt (op &&& (pts k ^^^ (-1))) a = true ↔ bt op a = true ∧ bt (pts k) a = false) := by
    intro a ha
    rw [b_and, b_xor, b_m1 a ha, Bool.and_eq_true]
    cases bt (pts k) a <;> simp
  refine ⟨inS_set hI.1 hk hn, fun a ha => ?_, ?_, ?_⟩
  · rw [hb a ha, hI.2.1 a ha]
    constructor
    · rintro ⟨⟨g1, g2⟩, g3⟩
      refine ⟨g1, fun j hj hbj => ?_⟩
      rw [setB_b (by omega) (by omega), Bool.or_eq_true] at hbj
      rcases hbj with hbj | hbj
      · exact g2 j hj hbj
      · rw [of_decide_eq_true hbj]; exact g3
    · rintro ⟨g1, g2⟩
      exact ⟨⟨g1, fun j hj hbj => g2 j hj (by rw [setB_b (by omega) (by omega), hbj]; rfl)⟩, g2 k hk (by rw [setB_b (by omega) (by omega), decide_eq_true rfl, Bool.or_true])⟩
  · rw [hI.2.2.1, hR.2.2.1 k hk, iL_add, wN_set hk hn hck]
  · have h3 : cnt (bt (op &&& (pts k ^^^ (-1)))) 32 < cnt (bt op) 32 := cnt_lt he (fun a ha g => ((hb a ha).mp g).1) (Bool.eq_false_iff.mpr (fun g => by rw [((hb e he).mp g).2] at h1; cases h1)) h2
    have := hI.2.2.2
    omega
/-- the loop over the havers of an open point -/
def thI (c : Nat → Nat) (pts : Nat → Int32) (W : Int32) (n : Nat) (S us ch fd row : Int64) (k : Nat) (lf fd1 fw1 : Int64) : Prop := fV c pts W n fd1 fw1 ∧ (fd = S → fd1 = S) ∧ (tg n S us ch → fd1 = S ∨ (tg n S lf ch ∧ ∃ j, k ≤ j ∧ j < n ∧ bl row j = true ∧ bl S j = true))
theorem th_0 (hR : FRr n c pts W wts hav) (hS : isOpt c pts W n S) (hI : iV c pts W n op ch wg d) (hF : fV c pts W n fd fw) {e : Nat} (he : e < 32) (h2 : bt op e = true) : thI c pts W n S us ch fd (hav e &&& us) 0 us fd fw := by
  refine ⟨hF, id, fun ht => Or.inr ⟨ht, ?_⟩⟩
  obtain ⟨g1, g2⟩ := (hI.2.1 e he).mp h2
  obtain ⟨k, hk, k1, k2⟩ := hS.2.1 e he g1
  have hck : ¬ bl ch k = true := fun hx => by rw [g2 k hk hx] at k2; cases k2
  have huk := (ht.2 k hk k1).resolve_left hck
  exact ⟨k, Nat.zero_le _, hk, by rw [l_and, (hR.2.2.2.1 e he).2 k hk, k2, huk]; rfl, k1⟩
theorem th_n {row lf fd1 fw1 : Int64} {k : Nat} (hk : k < n) (hn : n ≤ 48) (h : thI c pts W n S us ch fd row k lf fd1 fw1) (hi : fIn row (nI k) = 0) : thI c pts W n S us ch fd row (k + 1) lf fd1 fw1 := by
  refine ⟨h.1, h.2.1, fun ht => (h.2.2 ht).imp id (fun ⟨g1, j, j1, j2, j3, j4⟩ => ⟨g1, j, ?_, j2, j3, j4⟩)⟩
  by_cases hE : j = k
  · subst hE; rw [(fIn_0 (by omega)).mp hi] at j3; cases j3
  · omega
theorem th_y {row lf fd1 fw1 fd2 fw2 : Int64} {k : Nat} (hk : k < n) (hn : n ≤ 48) (h : thI c pts W n S us ch fd row k lf fd1 fw1) (hP : iP c pts W n S lf (setB ch k) fd1 fd2 fw2) : thI c pts W n S us ch fd row (k + 1) (clrB lf k) fd2 fw2 := by
  refine ⟨hP.1, fun g => hP.2.1 (h.2.1 g), fun ht => ?_⟩
  rcases h.2.2 ht with g | ⟨g1, j, j1, j2, j3, j4⟩
  · exact Or.inl (hP.2.1 g)
  · by_cases hSk : bl S k = true
    · left
      refine hP.2.2 ⟨fun i hi hb => ?_, fun i hi hb => ?_⟩
      · rw [setB_b (by omega) (by omega), Bool.or_eq_true] at hb
        rcases hb with hb | hb
        · exact g1.1 i hi hb
        · rw [of_decide_eq_true hb]; exact hSk
      · rcases g1.2 i hi hb with q | q
        · exact Or.inl (by rw [setB_b (by omega) (by omega), q]; rfl)
        · exact Or.inr q
    · right
      refine ⟨⟨g1.1, fun i hi hb => ?_⟩, j, ?_, j2, j3, j4⟩
      · rcases g1.2 i hi hb with q | q
        · exact Or.inl q
        · refine Or.inr ?_
          rw [clrB_b (by omega) (by omega), q, decide_eq_false (fun e : i = k => hSk (e ▸ hb))]; rfl
      · have : j ≠ k := fun e => hSk (e ▸ j4)
        omega
theorem th_e {row lf fd1 fw1 : Int64} (h : thI c pts W n S us ch fd row n lf fd1 fw1) : iP c pts W n S us ch fd fd1 fw1 := ⟨h.1, h.2.1, fun ht => (h.2.2 ht).resolve_right (fun ⟨_, j, j1, j2, _⟩ => by omega)⟩
/-- a member of the row has the point -/
theorem th_row (hR : FRr n c pts W wts hav) {e k : Nat} (he : e < 32) (hk : k < n) (h : ¬ fIn (hav e &&& us) (nI k) = 0) : bt (pts k) e = true := by
  have hn := hR.1
  rw [fIn_b (by omega)] at h
  have hb : bl (hav e &&& us) k = true := by
    cases hx : bl (hav e &&& us) k with
    | true => rfl
    | false => rw [hx] at h; exact absurd rfl h
  rw [l_and, Bool.and_eq_true, (hR.2.2.2.1 e he).2 k hk] at hb
  exact hb.1
end IM2
