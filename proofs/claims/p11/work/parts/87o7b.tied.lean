/-! ===== the quotient's members, both sides ===== -/
def bm (lo hi : Int64) (p : Nat) : Bool := if p < 64 then bl lo p else bl hi (p - 64)
def dvB (N : Nat) : Bool := (List.range (3 ^ N)).all (fun q => (List.range (3 ^ N)).all (fun b =>
  if (cB N q N).1 &&& (cB N b N).1 = (cB N b N).1 then (if (cB N q N).2 &&& (cB N b N).1 = (cB N b N).2 then
    decide (rDvd N q b N 0 0 = fNum N ((cB N q N).1 &&& ((cB N b N).1 ^^^ (-1))) ((cB N q N).2 &&& ((cB N b N).1 ^^^ (-1)))) && (decide ((fNum N ((cB N q N).1 &&& ((cB N b N).1 ^^^ (-1))) ((cB N q N).2 &&& ((cB N b N).1 ^^^ (-1)))).toNatClampNeg < 3 ^ N) && (decide (fNum N ((cB N q N).1 &&& ((cB N b N).1 ^^^ (-1))) ((cB N q N).2 &&& ((cB N b N).1 ^^^ (-1))) = nI (fNum N ((cB N q N).1 &&& ((cB N b N).1 ^^^ (-1))) ((cB N q N).2 &&& ((cB N b N).1 ^^^ (-1)))).toNatClampNeg) && decide (cB N (fNum N ((cB N q N).1 &&& ((cB N b N).1 ^^^ (-1))) ((cB N q N).2 &&& ((cB N b N).1 ^^^ (-1)))).toNatClampNeg N = ((cB N q N).1 &&& ((cB N b N).1 ^^^ (-1)), (cB N q N).2 &&& ((cB N b N).1 ^^^ (-1))))))
    else decide (rDvd N q b N 0 0 = -1)) else decide (rDvd N q b N 0 0 = -1)))
set_option maxRecDepth 100000 in
theorem dv_c0 : dvB 0 = true ∧ dvB 1 = true ∧ dvB 2 = true ∧ dvB 3 = true := by decide +kernel
set_option maxRecDepth 100000 in
theorem dv_c4 : dvB 4 = true := by decide +kernel
theorem dv_c {N : Nat} (hN : N ≤ 4) : dvB N = true := by
  rcases (show N = 0 ∨ N = 1 ∨ N = 2 ∨ N = 3 ∨ N = 4 by omega) with rfl | rfl | rfl | rfl | rfl
  · exact dv_c0.1
  · exact dv_c0.2.1
  · exact dv_c0.2.2.1
  · exact dv_c0.2.2.2
  · exact dv_c4
/-- the quotient of one product by another: by digits, and by care and bits -/
theorem dv_p {N q b : Nat} (hN : N ≤ 4) (hq : q < 3 ^ N) (hb : b < 3 ^ N) : ((cB N q N).1 &&& (cB N b N).1 = (cB N b N).1 ∧ (cB N q N).2 &&& (cB N b N).1 = (cB N b N).2 ∧ ∃ m, m < 3 ^ N ∧ rDvd N q b N 0 0 = nI m ∧ fNum N ((cB N q N).1 &&& ((cB N b N).1 ^^^ (-1))) ((cB N q N).2 &&& ((cB N b N).1 ^^^ (-1))) = nI m ∧ cB N m N = ((cB N q N).1 &&& ((cB N b N).1 ^^^ (-1)), (cB N q N).2 &&& ((cB N b N).1 ^^^ (-1)))) ∨ (¬ ((cB N q N).1 &&& (cB N b N).1 = (cB N b N).1 ∧ (cB N q N).2 &&& (cB N b N).1 = (cB N b N).2) ∧ rDvd N q b N 0 0 = -1) := by
  have h := all_rr (dv_c hN) hq hb
  by_cases h1 : (cB N q N).1 &&& (cB N b N).1 = (cB N b N).1
  · rw [if_pos h1] at h
    by_cases h2 : (cB N q N).2 &&& (cB N b N).1 = (cB N b N).2
    · rw [if_pos h2] at h
      have a := Bool.and_eq_true_iff.mp h
      have b' := Bool.and_eq_true_iff.mp a.2
      have c' := Bool.and_eq_true_iff.mp b'.2
      exact Or.inl ⟨h1, h2, _, of_decide_eq_true b'.1, (of_decide_eq_true a.1).trans (of_decide_eq_true c'.1), of_decide_eq_true c'.1, of_decide_eq_true c'.2⟩
    · rw [if_neg h2] at h
      exact Or.inr ⟨fun g => h2 g.2, of_decide_eq_true h⟩
  · rw [if_neg h1] at h
    exact Or.inr ⟨fun g => h1 g.1, of_decide_eq_true h⟩
theorem le64 {m : Nat} (h : m < 2 ^ 31) : (64 : Int32) ≤ nI m ↔ 64 ≤ m := by rw [show (64 : Int32) = nI 64 from rfl]; exact nI_leI (by omega) h
theorem le32 {m : Nat} (h : m < 2 ^ 31) : (32 : Int32) ≤ nI m ↔ 32 ≤ m := by rw [show (32 : Int32) = nI 32 from rfl]; exact nI_leI (by omega) h
theorem sh64 : ∀ m, m < 81 → 64 ≤ m → (nI m - 64).toInt64 &&& 63 = (nI (m - 64)).toInt64 &&& 63 := by decide +kernel
theorem fAdd_b {N m p : Nat} {cr bt : Int32} {x : Int64 × Int64 × Int32 × Int32} (hm : m < 81) (hp : p < 81) (h : fNum N cr bt = nI m) : bm (fAdd N cr bt x).1 (fAdd N cr bt x).2.1 p = (bm x.1 x.2.1 p || decide (p = m)) := by
  unfold fAdd
  rw [h]
  unfold bm
  by_cases h6 : 64 ≤ m
  · rw [if_pos ((le64 (m := m) (by omega)).mpr h6), sh64 m hm h6]
    show (if p < 64 then bl x.1 p else bl (setB x.2.1 (m - 64)) (p - 64)) = _
    by_cases hp6 : p < 64
    · rw [if_pos hp6, if_pos hp6, decide_eq_false (by omega), Bool.or_false]
    · rw [if_neg hp6, if_neg hp6, setB_b (by omega) (by omega)]
      congr 1
      exact decide_eq_decide.mpr (by omega)
  · rw [if_neg (fun g => h6 ((le64 (m := m) (by omega)).mp g))]
    show (if p < 64 then bl (setB x.1 m) p else bl x.2.1 (p - 64)) = _
    by_cases hp6 : p < 64
    · rw [if_pos hp6, if_pos hp6, setB_b (by omega) hp6]
    · rw [if_neg hp6, if_neg hp6, decide_eq_false (by omega), Bool.or_false]
theorem fAdd_hi {N m : Nat} {cr bt : Int32} {x : Int64 × Int64 × Int32 × Int32} (hm : m < 81) (h : fNum N cr bt = nI m) (hx : ∀ e, 17 ≤ e → e < 64 → bl x.2.1 e = false) : ∀ e, 17 ≤ e → e < 64 → bl (fAdd N cr bt x).2.1 e = false := by
  intro e he h6
  unfold fAdd
  rw [h]
  by_cases hc : 64 ≤ m
  · rw [if_pos ((le64 (m := m) (by omega)).mpr hc), sh64 m hm hc]
    show bl (setB x.2.1 (m - 64)) e = false
    rw [setB_b (by omega) h6, hx e he h6, decide_eq_false (by omega)]; rfl
  · rw [if_neg (fun g => hc ((le64 (m := m) (by omega)).mp g))]
    exact hx e he h6
section DV
variable {N Z TK b : Nat} {care bits kp rkp : Nat → Int32}
/-- the members: those of which some term is a multiple -/
theorem fDiv_b (htb : ∀ q, q < Z → care q = (cB N q N).1 ∧ bits q = (cB N q N).2) (hN : N ≤ 4) (hZ : 3 ^ N = Z) (hk : ∀ t, t < TK → kp t = rkp t) (hr : ∀ t, t < TK → ∃ c, c < Z ∧ rkp t = nI c) (hb : b < Z) {p : Nat} (hp : p < 81) (k : Nat) (hkT : k ≤ TK) : bm (fDiv kp care bits N (care b) (bits b) k).1 (fDiv kp care bits N (care b) (bits b) k).2.1 p = true ↔ ∃ j, j < k ∧ rDvd N (rkp j).toNatClampNeg b N 0 0 = nI p := by
  have h8 := p3_81 hN
  induction k with
  | zero =>
    refine ⟨fun h => ?_, fun ⟨j, hj, _⟩ => absurd hj (Nat.not_lt_zero j)⟩
    have : bm 0 0 p = true := h
    unfold bm at this
    split at this <;> (rw [l_0] at this; cases this)
  | succ k ih =>
    have ih := ih (by omega)
    obtain ⟨q, hq, e⟩ := hr k (by omega)
    have ek := hk k (by omega)
    rw [show fDiv kp care bits N (care b) (bits b) (k + 1) = (if care (kp k).toNatClampNeg &&& care b = care b then (if bits (kp k).toNatClampNeg &&& care b = bits b then fAdd N (care (kp k).toNatClampNeg &&& (care b ^^^ (-1))) (bits (kp k).toNatClampNeg &&& (care b ^^^ (-1))) (fDiv kp care bits N (care b) (bits b) k) else fDiv kp care bits N (care b) (bits b) k) else fDiv kp care bits N (care b) (bits b) k) from rfl]
    have hs : (∃ j, j < k + 1 ∧ rDvd N (rkp j).toNatClampNeg b N 0 0 = nI p) ↔ (∃ j, j < k ∧ rDvd N (rkp j).toNatClampNeg b N 0 0 = nI p) ∨ rDvd N q b N 0 0 = nI p := by
      constructor
      · rintro ⟨j, hj, g⟩
        by_cases hE : j = k
        · subst hE; rw [e, nI_clamp (by omega)] at g; exact Or.inr g
        · exact Or.inl ⟨j, by omega, g⟩
      · rintro (⟨j, hj, g⟩ | g)
        · exact ⟨j, by omega, g⟩
        · exact ⟨k, by omega, by rw [e, nI_clamp (by omega)]; exact g⟩
    refine Iff.trans ?_ (hs.trans (or_congr ih.symm Iff.rfl)).symm
    rw [ek, e, nI_clamp (by omega), (htb q hq).1, (htb q hq).2, (htb b hb).1, (htb b hb).2]
    rcases dv_p hN (show q < 3 ^ N by omega) (show b < 3 ^ N by omega) with ⟨c1, c2, m, hm, d1, d2, d3⟩ | ⟨c1, d1⟩
    · rw [if_pos c1, if_pos c2, fAdd_b (by omega) hp d2, Bool.or_eq_true, d1]
      exact or_congr Iff.rfl ⟨fun g => by rw [of_decide_eq_true g], fun g => decide_eq_true ((nI_eq (by omega) (by omega)).mp g).symm⟩
    · have e2 : (if (cB N q N).1 &&& (cB N b N).1 = (cB N b N).1 then (if (cB N q N).2 &&& (cB N b N).1 = (cB N b N).2 then fAdd N ((cB N q N).1 &&& ((cB N b N).1 ^^^ (-1))) ((cB N q N).2 &&& ((cB N b N).1 ^^^ (-1))) (fDiv kp care bits N (cB N b N).1 (cB N b N).2 k) else fDiv kp care bits N (cB N b N).1 (cB N b N).2 k) else fDiv kp care bits N (cB N b N).1 (cB N b N).2 k) = fDiv kp care bits N (cB N b N).1 (cB N b N).2 k := by
        by_cases g1 : (cB N q N).1 &&& (cB N b N).1 = (cB N b N).1
        · rw [if_pos g1, if_neg (fun g2 => c1 ⟨g1, g2⟩)]
        · rw [if_neg g1]
      rw [e2, d1]
      refine ⟨Or.inl, fun g => g.elim id (fun g => ?_)⟩
      have h0 : ¬ nI p < 0 := nI_pos (by omega)
      rw [← g] at h0; exact absurd (by decide) h0
theorem rIn_i {p : Nat} (k : Nat) : ¬ rIn rkp N (nI p) b k = 0 ↔ ∃ j, j < k ∧ rDvd N (rkp j).toNatClampNeg b N 0 0 = nI p := by
  induction k with
  | zero => exact ⟨fun h => absurd rfl h, fun ⟨j, hj, _⟩ => absurd hj (Nat.not_lt_zero j)⟩
  | succ k ih =>
    rw [show rIn rkp N (nI p) b (k + 1) = (if rIn rkp N (nI p) b k = 0 then (if rDvd N (rkp k).toNatClampNeg b N 0 0 = nI p then 1 else 0) else 1) from rfl]
    by_cases h : rIn rkp N (nI p) b k = 0
    · rw [if_pos h]
      have hn : ¬ ∃ j, j < k ∧ rDvd N (rkp j).toNatClampNeg b N 0 0 = nI p := fun g => ih.mpr g h
      by_cases h2 : rDvd N (rkp k).toNatClampNeg b N 0 0 = nI p
      · rw [if_pos h2]; exact ⟨fun _ => ⟨k, Nat.lt_succ_self k, h2⟩, fun _ => by decide⟩
      · rw [if_neg h2]
        refine ⟨fun g => absurd rfl g, fun ⟨j, hj, g⟩ => ?_⟩
        by_cases hE : j = k
        · subst hE; exact absurd g h2
        · exact absurd ⟨j, by omega, g⟩ hn
    · rw [if_neg h]
      obtain ⟨j, hj, g⟩ := ih.mp h
      exact ⟨fun _ => ⟨j, by omega, g⟩, fun _ => by decide⟩
theorem in_eq (htb : ∀ q, q < Z → care q = (cB N q N).1 ∧ bits q = (cB N q N).2) (hN : N ≤ 4) (hZ : 3 ^ N = Z) (hk : ∀ t, t < TK → kp t = rkp t) (hr : ∀ t, t < TK → ∃ c, c < Z ∧ rkp t = nI c) (hb : b < Z) {p : Nat} (hp : p < 81) : bm (fDiv kp care bits N (care b) (bits b) TK).1 (fDiv kp care bits N (care b) (bits b) TK).2.1 p = true ↔ ¬ rIn rkp N (nI p) b TK = 0 := (fDiv_b htb hN hZ hk hr hb hp TK (Nat.le_refl TK)).trans (rIn_i TK).symm
end DV
/-! ===== divide ===== -/
theorem half_b {sl sh : Int64} {p : Nat} (hp : p < 81) : lg_cmp (fHalf sl sh p &&& 1) 1 = 0 ↔ bm sl sh p = true := by
  unfold fHalf bm
  by_cases h : 64 ≤ p
  · rw [if_pos ((le64 (m := p) (by omega)).mpr h), sh64 p hp h, if_neg (by omega)]
    exact l_get (by omega)
  · rw [if_neg (fun g => h ((le64 (m := p) (by omega)).mp g)), if_pos (by omega)]
    exact l_get (by omega)
theorem stR_cnt {sl sh : Int64} {row : Nat → Int32} (p : Nat) (hp : p ≤ 81) : (stR sl sh row p).1 = cnt (bm sl sh) p := by
  induction p with
  | zero => rfl
  | succ p ih =>
    have ih := ih (by omega)
    rw [cnt_s, show stR sl sh row (p + 1) = (if lg_cmp (fHalf sl sh p &&& 1) 1 = 0 then ((stR sl sh row p).1 + 1, upd (stR sl sh row p).2 (stR sl sh row p).1 (nI p)) else stR sl sh row p) from rfl]
    by_cases h : bm sl sh p = true
    · rw [if_pos ((half_b (by omega)).mpr h), if_pos h, ← ih]
    · rw [if_neg (fun g => h ((half_b (by omega)).mp g)), if_neg h]; exact ih
theorem bm_and {a b c d : Int64} (p : Nat) : bm (a &&& c) (b &&& d) p = (bm a b p && bm c d p) := by
  unfold bm
  split
  · exact l_and _ _ _
  · exact l_and _ _ _
theorem bm_1 {p : Nat} (hp : p < 81) : bm (-1) (-1) p = true := by
  unfold bm
  split
  · exact l_m1 p (by omega)
  · exact l_m1 _ (by omega)
theorem stQ_b {tp care bits : Nat → Int32} {N K : Nat} {set : Int32} {d : Int64 × Int64 × Int32 × Int32} {p : Nat} (hp : p < 81) (k : Nat) (hk : k ≤ 32) : bm (stQ tp care bits N K set d k).1 (stQ tp care bits N K set d k).2.1 p = true ↔ ∀ j, j < k → (set >>> (nI j &&& 31)) &&& 1 = 1 → bm (fDiv tp care bits N (care (tp j).toNatClampNeg) (bits (tp j).toNatClampNeg) K).1 (fDiv tp care bits N (care (tp j).toNatClampNeg) (bits (tp j).toNatClampNeg) K).2.1 p = true := by
  induction k with
  | zero => exact ⟨fun _ j hj => absurd hj (Nat.not_lt_zero j), fun _ => bm_1 hp⟩
  | succ k ih =>
    have ih := ih (by omega)
    rw [show stQ tp care bits N K set d (k + 1) = (if 32 ≤ nI k then stQ tp care bits N K set d k else if (set >>> (nI k &&& 31)) &&& 1 = 1 then ((stQ tp care bits N K set d k).1 &&& (fDiv tp care bits N (care (tp k).toNatClampNeg) (bits (tp k).toNatClampNeg) K).1, (stQ tp care bits N K set d k).2.1 &&& (fDiv tp care bits N (care (tp k).toNatClampNeg) (bits (tp k).toNatClampNeg) K).2.1, fDiv tp care bits N (care (tp k).toNatClampNeg) (bits (tp k).toNatClampNeg) K) else stQ tp care bits N K set d k) from rfl,
      if_neg (fun g => by have := (le32 (m := k) (by omega)).mp g; omega)]
    have hs : (∀ j, j < k + 1 → (set >>> (nI j &&& 31)) &&& 1 = 1 → bm (fDiv tp care bits N (care (tp j).toNatClampNeg) (bits (tp j).toNatClampNeg) K).1 (fDiv tp care bits N (care (tp j).toNatClampNeg) (bits (tp j).toNatClampNeg) K).2.1 p = true) ↔ (∀ j, j < k → (set >>> (nI j &&& 31)) &&& 1 = 1 → bm (fDiv tp care bits N (care (tp j).toNatClampNeg) (bits (tp j).toNatClampNeg) K).1 (fDiv tp care bits N (care (tp j).toNatClampNeg) (bits (tp j).toNatClampNeg) K).2.1 p = true) ∧ ((set >>> (nI k &&& 31)) &&& 1 = 1 → bm (fDiv tp care bits N (care (tp k).toNatClampNeg) (bits (tp k).toNatClampNeg) K).1 (fDiv tp care bits N (care (tp k).toNatClampNeg) (bits (tp k).toNatClampNeg) K).2.1 p = true) := by
      constructor
      · intro h; exact ⟨fun j hj => h j (by omega), h k (by omega)⟩
      · rintro ⟨h1, h2⟩ j hj
        by_cases hE : j = k
        · subst hE; exact h2
        · exact h1 j (by omega)
    rw [hs]
    by_cases h : (set >>> (nI k &&& 31)) &&& 1 = 1
    · rw [if_pos h]
      show bm ((stQ tp care bits N K set d k).1 &&& (fDiv tp care bits N (care (tp k).toNatClampNeg) (bits (tp k).toNatClampNeg) K).1) ((stQ tp care bits N K set d k).2.1 &&& (fDiv tp care bits N (care (tp k).toNatClampNeg) (bits (tp k).toNatClampNeg) K).2.1) p = true ↔ _
      rw [bm_and, Bool.and_eq_true, ih]
      exact ⟨fun g => ⟨g.1, fun _ => g.2⟩, fun g => ⟨g.1, g.2 h⟩⟩
    · rw [if_neg h, ih]
      exact ⟨fun g => ⟨g, fun q => absurd q h⟩, fun g => g.1⟩
/-- the reference's test of one product -/
def dAll (rkp : Nat → Int32) (N TR : Nat) (set : Int32) (p k : Nat) : Bool := itr (fun k acc => acc && (decide ((set >>> (nI k &&& 31)) &&& 1 = 0) || !decide (rIn rkp N (nI p) (rkp k).toNatClampNeg TR = 0))) k true
theorem sh01 {x : Int32} {k : Nat} (hk : k < 32) : ¬ (x >>> (nI k &&& 31)) &&& 1 = 0 ↔ (x >>> (nI k &&& 31)) &&& 1 = 1 := by
  rw [sh1 hk]
  cases bt x k <;> decide
theorem dAll_b {rkp : Nat → Int32} {N TR : Nat} {set : Int32} {p : Nat} (k : Nat) (hk : k ≤ 32) : dAll rkp N TR set p k = true ↔ ∀ j, j < k → (set >>> (nI j &&& 31)) &&& 1 = 1 → ¬ rIn rkp N (nI p) (rkp j).toNatClampNeg TR = 0 := by
  induction k with
  | zero => exact ⟨fun _ j hj => absurd hj (Nat.not_lt_zero j), fun _ => rfl⟩
  | succ k ih =>
    have ih := ih (by omega)
    rw [show dAll rkp N TR set p (k + 1) = (dAll rkp N TR set p k && (decide ((set >>> (nI k &&& 31)) &&& 1 = 0) || !decide (rIn rkp N (nI p) (rkp k).toNatClampNeg TR = 0))) from rfl, Bool.and_eq_true, ih, Bool.or_eq_true, decide_eq_true_eq, Bool.not_eq_true', decide_eq_false_iff_not]
    constructor
    · rintro ⟨h1, h2⟩ j hj hs
      by_cases hE : j = k
      · subst hE
        exact h2.elim (fun g => absurd g ((sh01 (by omega)).mpr hs)) id
      · exact h1 j (by omega) hs
    · intro h
      refine ⟨fun j hj => h j (by omega), ?_⟩
      by_cases h0 : (set >>> (nI k &&& 31)) &&& 1 = 0
      · exact Or.inl h0
      · exact Or.inr (h k (by omega) ((sh01 (by omega)).mp h0))
/-- divide's answers -/
theorem div_eq {N Z TK : Nat} {care bits kp rkp row : Nat → Int32} {set : Int32} {d : Int64 × Int64 × Int32 × Int32} (htb : ∀ q, q < Z → care q = (cB N q N).1 ∧ bits q = (cB N q N).2) (hN : N ≤ 4) (hZ : 3 ^ N = Z) (hk : ∀ t, t < TK → kp t = rkp t) (hr : ∀ t, t < TK → ∃ c, c < Z ∧ rkp t = nI c) (h31 : TK ≤ 31) : (stR (stQ kp care bits N TK set d TK).1 (stQ kp care bits N TK set d TK).2.1 row Z).1 = cnt (fun p => dAll rkp N TK set p TK) Z := by
  have h8 := p3_81 hN
  rw [stR_cnt Z (by omega)]
  refine cnt_cong Z (fun p hp => ?_)
  apply bool_ext
  rw [stQ_b (by omega) TK (by omega), dAll_b TK (by omega)]
  constructor
  · intro h j hj hs
    obtain ⟨q, hq, e⟩ := hr j hj
    have := (in_eq htb hN hZ hk hr hq (show p < 81 by omega)).mp (by
      have := h j hj hs
      rw [hk j hj, e, nI_clamp (by omega)] at this
      exact this)
    rw [e, nI_clamp (by omega)]; exact this
  · intro h j hj hs
    obtain ⟨q, hq, e⟩ := hr j hj
    rw [hk j hj, e, nI_clamp (by omega)]
    refine (in_eq htb hN hZ hk hr hq (show p < 81 by omega)).mpr ?_
    have := h j hj hs
    rw [e, nI_clamp (by omega)] at this
    exact this
/-- the refused sets -/
theorem bad_eq {x : Int32} {TK : Nat} (h : TK ≤ 31) : (x = 0 ∨ ¬ fHB x (nI TK) = 0) ↔ (x ≤ 0 ∨ (TK < 31 ∧ ¬ x >>> (nI TK &&& 31) = 0)) := by
  unfold fHB
  rw [if_neg (fun g => by have := (le32 (m := TK) (by omega)).mp g; omega)]
  have hu : ∀ e, e < 32 → bt ((x.toUInt32 >>> ((nI TK).toUInt32 &&& Int32.toUInt32 31)).toInt32) e = bt x (TK + e) := fun e _ => b_ushr TK (by omega) x e
  have hneg : x < 0 ↔ bt x 31 = true := by
    rw [Int32.lt_iff_toInt_lt]
    show x.toBitVec.toInt < 0 ↔ x.toBitVec.getLsbD 31 = true
    have hm := BitVec.msb_eq_decide x.toBitVec
    rw [BitVec.msb_eq_getLsbD_last] at hm
    rw [BitVec.toInt_neg_iff, show x.toBitVec.getLsbD 31 = _ from hm, decide_eq_true_eq]
    show 4294967296 ≤ 2 * x.toBitVec.toNat ↔ 2147483648 ≤ x.toBitVec.toNat
    omega
  by_cases hn : bt x 31 = true
  · have h1 : ¬ (x.toUInt32 >>> ((nI TK).toUInt32 &&& Int32.toUInt32 31)).toInt32 = 0 := by
      have := hu (31 - TK) (by omega)
      rw [show TK + (31 - TK) = 31 by omega, hn] at this
      exact nz_bit this
    rw [if_neg h1]
    exact ⟨fun _ => Or.inl (Int32.le_of_lt (hneg.mpr hn)), fun _ => Or.inr (by decide)⟩
  · have hs : ∀ e, e < 32 → bt (x >>> (nI TK &&& 31)) e = bt ((x.toUInt32 >>> ((nI TK).toUInt32 &&& Int32.toUInt32 31)).toInt32) e := by
      intro e he
      rw [hu e he, b_sshr TK (by omega) x he]
      by_cases hlt : TK + e < 32
      · rw [if_pos hlt]
      · rw [if_neg hlt, b_big (i := TK + e) (by omega)]; exact Bool.eq_false_iff.mpr hn
    have he : x >>> (nI TK &&& 31) = (x.toUInt32 >>> ((nI TK).toUInt32 &&& Int32.toUInt32 31)).toInt32 := b_ext hs
    rw [he]
    have hle : x ≤ 0 ↔ x = 0 := ⟨fun g => Int32.le_antisymm g (Int32.not_lt.mp (fun q => hn (hneg.mp q))), fun g => g ▸ Int32.le_refl _⟩
    rw [hle]
    by_cases h0 : (x.toUInt32 >>> ((nI TK).toUInt32 &&& Int32.toUInt32 31)).toInt32 = 0
    · rw [if_pos h0]
      exact ⟨fun g => g.elim Or.inl (fun g => absurd rfl g), fun g => g.elim Or.inl (fun g => absurd h0 g.2)⟩
    · rw [if_neg h0]
      by_cases ht : TK < 31
      · exact ⟨fun _ => Or.inr ⟨ht, h0⟩, fun _ => Or.inr (by decide)⟩
      · exfalso
        apply h0
        refine b_ext (fun e he => ?_)
        rw [hu e he, b_0]
        by_cases hz : e = 0
        · subst hz; rw [show TK + 0 = 31 by omega]; exact Bool.eq_false_iff.mpr hn
        · exact b_big (by omega)
