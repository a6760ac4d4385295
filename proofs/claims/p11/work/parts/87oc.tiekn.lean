/-! ===== Long.bitCount counts the bits ===== -/
theorem spk_8e (n : Nat) : spk 8 n = pop8 (n % 256) + 256 * (pop8 (n / 256 % 256) + 256 * (pop8 (n / 256 / 256 % 256) + 256 * (pop8 (n / 256 / 256 / 256 % 256) + 256 * (pop8 (n / 256 / 256 / 256 / 256 % 256) + 256 * (pop8 (n / 256 / 256 / 256 / 256 / 256 % 256) + 256 * (pop8 (n / 256 / 256 / 256 / 256 / 256 / 256 % 256) + 256 * pop8 (n / 256 / 256 / 256 / 256 / 256 / 256 / 256 % 256))))))) := by
  have hm : ∀ x, x % 256 < 256 := fun x => Nat.mod_lt _ (by omega)
  have hs : ∀ k x, spk (k + 1) x = pop8 (x % 256) + 256 * spk k (x / 256) := fun k x => by
    rw [← spk_s (hm x), show x % 256 + 256 * (x / 256) = x by omega]
  rw [hs, hs, hs, hs, hs, hs, hs, hs, spk_0, Nat.mul_zero, Nat.add_zero]
theorem bcL_of {x : Int64} {p0 p1 p2 p3 p4 p5 p6 p7 : Nat} (q0 : p0 ≤ 8) (q1 : p1 ≤ 8) (q2 : p2 ≤ 8) (q3 : p3 ≤ 8) (q4 : p4 ≤ 8) (q5 : p5 ≤ 8) (q6 : p6 ≤ 8) (q7 : p7 ≤ 8) (e : spk 8 (tL x) = p0 + 256 * (p1 + 256 * (p2 + 256 * (p3 + 256 * (p4 + 256 * (p5 + 256 * (p6 + 256 * p7))))))) : bcL x = nI ((p0 + p1 + p2 + p3) + (p4 + p5 + p6 + p7)) := by
  have h := bl_3 x
  rw [e] at h
  have h1 := bcL_a h q0 (r1le q1 q2 q3 q4 q5 q6 q7)
  rw [arr1] at h1
  have h2 := bcL_b h1 (b1le q0 q1 q1 q2) (r2le q2 q3 q3 q4 q4 q5 q5 q6 q6 q7 q7)
  rw [arr2] at h2
  exact bcL_fin h2 (s4le q0 q1 q2 q3) (s4le q1 q2 q3 q4) (s4le q2 q3 q4 q5) (s4le q3 q4 q5 q6) (s4le q4 q5 q6 q7) (s3le q5 q6 q7) (s2le q6 q7) q7
theorem pop_seg (n k : Nat) : pop8 (n / 2 ^ (8 * k) % 256) = cnt (fun e => n.testBit (8 * k + e)) 8 := by
  rw [pop8_c]
  refine cnt_cong 8 (fun e _ => ?_)
  rw [Nat.testBit_div_two_pow, Nat.add_comm]
theorem cnt_seg (P : Nat → Bool) (a b : Nat) : cnt (fun e => P (a + e)) (8 + b) = cnt (fun e => P (a + e)) 8 + cnt (fun e => P (a + 8 + e)) b := by
  rw [cnt_split]
  exact congrArg _ (cnt_cong b (fun e _ => by rw [Nat.add_assoc]))
theorem cnt8 (P : Nat → Bool) : cnt P 64 = (cnt P 8 + cnt (fun e => P (8 + e)) 8 + cnt (fun e => P (16 + e)) 8 + cnt (fun e => P (24 + e)) 8) + (cnt (fun e => P (32 + e)) 8 + cnt (fun e => P (40 + e)) 8 + cnt (fun e => P (48 + e)) 8 + cnt (fun e => P (56 + e)) 8) := by
  have s0 : cnt P 64 = cnt P 8 + cnt (fun e => P (8 + e)) 56 := cnt_split P 8 56
  have s1 : cnt (fun e => P (8 + e)) 56 = cnt (fun e => P (8 + e)) 8 + cnt (fun e => P (16 + e)) 48 := cnt_seg P 8 48
  have s2 : cnt (fun e => P (16 + e)) 48 = cnt (fun e => P (16 + e)) 8 + cnt (fun e => P (24 + e)) 40 := cnt_seg P 16 40
  have s3 : cnt (fun e => P (24 + e)) 40 = cnt (fun e => P (24 + e)) 8 + cnt (fun e => P (32 + e)) 32 := cnt_seg P 24 32
  have s4 : cnt (fun e => P (32 + e)) 32 = cnt (fun e => P (32 + e)) 8 + cnt (fun e => P (40 + e)) 24 := cnt_seg P 32 24
  have s5 : cnt (fun e => P (40 + e)) 24 = cnt (fun e => P (40 + e)) 8 + cnt (fun e => P (48 + e)) 16 := cnt_seg P 40 16
  have s6 : cnt (fun e => P (48 + e)) 16 = cnt (fun e => P (48 + e)) 8 + cnt (fun e => P (56 + e)) 8 := cnt_seg P 48 8
  rw [s0, s1, s2, s3, s4, s5, s6]
  omega
theorem bcL_cnt (x : Int64) : bcL x = nI (cnt (bl x) 64) := by
  have hm : ∀ y, y % 256 < 256 := fun y => Nat.mod_lt _ (by omega)
  have hp : ∀ y, pop8 (y % 256) ≤ 8 := fun y => (sp_all (hm y)).2.2.2.1
  rw [bcL_of (hp _) (hp _) (hp _) (hp _) (hp _) (hp _) (hp _) (hp _) (spk_8e (tL x)), cnt8]
  have hd : ∀ k, tL x / 2 ^ (8 * k) / 256 = tL x / 2 ^ (8 * (k + 1)) := fun k => by rw [Nat.div_div_eq_div_mul, show 8 * (k + 1) = 8 * k + 8 by omega, Nat.pow_add]
  have h0 : tL x = tL x / 2 ^ (8 * 0) := by rw [Nat.mul_zero, Nat.pow_zero, Nat.div_one]
  have h1 : tL x / 256 = tL x / 2 ^ (8 * 1) := rfl
  have h2 : tL x / 256 / 256 = tL x / 2 ^ (8 * 2) := by rw [h1, hd 1]
  have h3 : tL x / 256 / 256 / 256 = tL x / 2 ^ (8 * 3) := by rw [h2, hd 2]
  have h4 : tL x / 256 / 256 / 256 / 256 = tL x / 2 ^ (8 * 4) := by rw [h3, hd 3]
  have h5 : tL x / 256 / 256 / 256 / 256 / 256 = tL x / 2 ^ (8 * 5) := by rw [h4, hd 4]
  have h6 : tL x / 256 / 256 / 256 / 256 / 256 / 256 = tL x / 2 ^ (8 * 6) := by rw [h5, hd 5]
  have h7 : tL x / 256 / 256 / 256 / 256 / 256 / 256 / 256 = tL x / 2 ^ (8 * 7) := by rw [h6, hd 6]
  rw [h7, h6, h5, h4, h3, h2, h1, pop_seg, pop_seg, pop_seg, pop_seg, pop_seg, pop_seg, pop_seg, pop8_c]
  rfl
/-! ===== the reference's kernels ===== -/
def qIn (rkp : Nat → Int32) (N TR b p : Nat) : Bool := !decide (rIn rkp N (nI p) b TR = 0)
def kSm (rkp : Nat → Int32) (N TR b i p : Nat) : Int32 × Bool := itr (fun p x => if qIn rkp N TR b p = true then (nI (rDig N p i), x.2 && (decide (x.1 < 0) || decide (x.1 = nI (rDig N p i)))) else x) p (-1, true)
def kIs (rkp : Nat → Int32) (N TR Z b i : Nat) : Bool := itr (fun i acc => acc && (!(kSm rkp N TR b i Z).2 || decide ((kSm rkp N TR b i Z).1 = 2))) i (decide (2 ≤ cnt (qIn rkp N TR b) Z))
def kSq (rkp : Nat → Int32) (N TR Z b o p : Nat) : Bool := itr (fun p acc => acc && decide (rIn rkp N (nI p) b TR = rIn rkp N (nI p) o TR)) p (kIs rkp N TR Z o N)
def kFr (rkp : Nat → Int32) (N TR Z b j : Nat) : Bool := itr (fun o acc => acc && !kSq rkp N TR Z b o Z) j (kIs rkp N TR Z b N)
section KN
variable {rkp kp care bits : Nat → Int32} {N TR TK Z b i : Nat}
theorem qIn_t {p : Nat} : qIn rkp N TR b p = true ↔ ¬ rIn rkp N (nI p) b TR = 0 := by unfold qIn; rw [Bool.not_eq_true', decide_eq_false_iff_not]
/-- what the digits of the members say -/
theorem kSm_i (p : Nat) (hp : p ≤ 81) : ((kSm rkp N TR b i p).1 = -1 ∧ (kSm rkp N TR b i p).2 = true ∧ ∀ q, q < p → qIn rkp N TR b q = false) ∨ ∃ l, l < p ∧ qIn rkp N TR b l = true ∧ (kSm rkp N TR b i p).1 = nI (rDig N l i) ∧ ((kSm rkp N TR b i p).2 = true ↔ ∀ q, q < p → qIn rkp N TR b q = true → rDig N q i = rDig N l i) := by
  have hd : ∀ q, rDig N q i < 3 := fun q => Nat.mod_lt _ (by omega)
  induction p with
  | zero => exact Or.inl ⟨rfl, rfl, fun q hq => absurd hq (Nat.not_lt_zero q)⟩
  | succ p ih =>
    have ih := ih (by omega)
    rw [show kSm rkp N TR b i (p + 1) = (if qIn rkp N TR b p = true then (nI (rDig N p i), (kSm rkp N TR b i p).2 && (decide ((kSm rkp N TR b i p).1 < 0) || decide ((kSm rkp N TR b i p).1 = nI (rDig N p i)))) else kSm rkp N TR b i p) from rfl]
    by_cases hq : qIn rkp N TR b p = true
    · rw [if_pos hq]
      right
      refine ⟨p, Nat.lt_succ_self p, hq, rfl, ?_⟩
      show ((kSm rkp N TR b i p).2 && (decide ((kSm rkp N TR b i p).1 < 0) || decide ((kSm rkp N TR b i p).1 = nI (rDig N p i)))) = true ↔ _
      rcases ih with ⟨h1, h2, h3⟩ | ⟨l, hl, l1, l2, l3⟩
      · rw [h1, h2, decide_eq_true (show (-1 : Int32) < 0 by decide)]
        refine ⟨fun _ q hq1 hq2 => ?_, fun _ => rfl⟩
        by_cases hE : q = p
        · subst hE; rfl
        · rw [h3 q (by omega)] at hq2; cases hq2
      · rw [l2, decide_eq_false (nI_pos (by have := hd l; omega)), Bool.false_or, Bool.and_eq_true, l3, decide_eq_true_eq, nI_eq (by have := hd l; omega) (by have := hd p; omega)]
        constructor
        · rintro ⟨g1, g2⟩ q hq1 hq2
          by_cases hE : q = p
          · subst hE; rfl
          · rw [g1 q (by omega) hq2, g2]
        · intro g
          have e := g l (by omega) l1
          exact ⟨fun q hq1 hq2 => by rw [g q (by omega) hq2, e], e⟩
    · rw [if_neg hq]
      rcases ih with ⟨h1, h2, h3⟩ | ⟨l, hl, l1, l2, l3⟩
      · refine Or.inl ⟨h1, h2, fun q hq1 => ?_⟩
        by_cases hE : q = p
        · subst hE; exact Bool.eq_false_iff.mpr hq
        · exact h3 q (by omega)
      · refine Or.inr ⟨l, by omega, l1, l2, l3.trans ⟨fun g q hq1 hq2 => ?_, fun g q hq1 hq2 => g q (by omega) hq2⟩⟩
        by_cases hE : q = p
        · subst hE; exact absurd hq2 hq
        · exact g q (by omega) hq2
/-- no digit but the free one is shared by all members -/
def noSh (N Z i : Nat) (Q : Nat → Bool) : Prop := (¬ ∀ q, q < Z → Q q = true → rDig N q i = 0) ∧ ¬ ∀ q, q < Z → Q q = true → rDig N q i = 1
theorem kSm_no (hZ : Z ≤ 81) (hm : ∃ m, m < Z ∧ qIn rkp N TR b m = true) : ((!(kSm rkp N TR b i Z).2 || decide ((kSm rkp N TR b i Z).1 = 2)) = true) ↔ noSh N Z i (qIn rkp N TR b) := by
  have hd : ∀ q, rDig N q i < 3 := fun q => Nat.mod_lt _ (by omega)
  obtain ⟨m, hm1, hm2⟩ := hm
  rcases kSm_i (rkp := rkp) (N := N) (TR := TR) (b := b) (i := i) Z hZ with ⟨_, _, h3⟩ | ⟨l, hl, l1, l2, l3⟩
  · rw [h3 m hm1] at hm2; cases hm2
  · rw [Bool.or_eq_true, Bool.not_eq_true', Bool.eq_false_iff, Ne, l3, decide_eq_true_eq, l2, show (2 : Int32) = nI 2 from rfl, nI_eq (by have := hd l; omega) (by omega)]
    unfold noSh
    constructor
    · rintro (g | g)
      · refine ⟨fun q => g (fun a ha hb => by rw [q a ha hb, q l hl l1]), fun q => g (fun a ha hb => by rw [q a ha hb, q l hl l1])⟩
      · exact ⟨fun q => by have := q l hl l1; omega, fun q => by have := q l hl l1; omega⟩
    · rintro ⟨g1, g2⟩
      by_cases hs : ∀ q, q < Z → qIn rkp N TR b q = true → rDig N q i = rDig N l i
      · right
        have := hd l
        rcases (show rDig N l i = 0 ∨ rDig N l i = 1 ∨ rDig N l i = 2 by omega) with e | e | e
        · exact absurd (fun q hq hb => (hs q hq hb).trans e) g1
        · exact absurd (fun q hq hb => (hs q hq hb).trans e) g2
        · exact e
      · exact Or.inl hs
theorem cnt_ex {P : Nat → Bool} (n : Nat) (h : 2 ≤ cnt P n) : ∃ m, m < n ∧ P m = true := by
  apply Classical.byContradiction
  intro g
  have : cnt P n = 0 := cnt_0.mpr (fun k hk => Bool.eq_false_iff.mpr (fun q => g ⟨k, hk, q⟩))
  omega
theorem kIs_i (hZ : Z ≤ 81) (m : Nat) : kIs rkp N TR Z b m = true ↔ 2 ≤ cnt (qIn rkp N TR b) Z ∧ ∀ i, i < m → noSh N Z i (qIn rkp N TR b) := by
  induction m with
  | zero => exact ⟨fun h => ⟨of_decide_eq_true h, fun i hi => absurd hi (Nat.not_lt_zero i)⟩, fun h => decide_eq_true h.1⟩
  | succ m ih =>
    rw [show kIs rkp N TR Z b (m + 1) = (kIs rkp N TR Z b m && (!(kSm rkp N TR b m Z).2 || decide ((kSm rkp N TR b m Z).1 = 2))) from rfl, Bool.and_eq_true, ih]
    constructor
    · rintro ⟨⟨h1, h2⟩, h3⟩
      refine ⟨h1, fun i hi => ?_⟩
      by_cases hE : i = m
      · subst hE; exact (kSm_no hZ (cnt_ex Z h1)).mp h3
      · exact h2 i (by omega)
    · rintro ⟨h1, h2⟩
      exact ⟨⟨h1, fun i hi => h2 i (by omega)⟩, (kSm_no hZ (cnt_ex Z h1)).mpr (h2 m (by omega))⟩
/-! the class's kernels -/
def cbB (N : Nat) : Bool := (List.range (3 ^ N)).all (fun m => (List.range 32).all (fun i => ((cB N m N).2.toBitVec.getLsbD i == (decide (i < N) && decide (rDig N m i = 1))) && (((cB N m N).1 &&& ((cB N m N).2 ^^^ (-1))).toBitVec.getLsbD i == (decide (i < N) && decide (rDig N m i = 0)))))
set_option maxRecDepth 100000 in
theorem cb_c : ((List.range 5).all cbB) = true := by decide +kernel
theorem cb_p {N m i : Nat} (hN : N ≤ 4) (hm : m < 3 ^ N) (hi : i < 32) : bt (cB N m N).2 i = (decide (i < N) && decide (rDig N m i = 1)) ∧ bt ((cB N m N).1 &&& ((cB N m N).2 ^^^ (-1))) i = (decide (i < N) && decide (rDig N m i = 0)) := by
  have h := Bool.and_eq_true_iff.mp (all_rr (all_r2 cb_c (show N < 5 by omega)) hm hi)
  exact ⟨beq_iff_eq.mp h.1, beq_iff_eq.mp h.2⟩
theorem fDiv_sh (htb : ∀ q, q < Z → care q = (cB N q N).1 ∧ bits q = (cB N q N).2) (hN : N ≤ 4) (hZ : 3 ^ N = Z) (hk : ∀ t, t < TK → kp t = rkp t) (hr : ∀ t, t < TK → ∃ c, c < Z ∧ rkp t = nI c) (hb : b < Z) {i : Nat} (hi : i < 32) (k : Nat) (hkT : k ≤ TK) : (bt (fDiv kp care bits N (care b) (bits b) k).2.2.1 i = true ↔ ∀ j, j < k → ∀ m, m < Z → rDvd N (rkp j).toNatClampNeg b N 0 0 = nI m → i < N ∧ rDig N m i = 1) ∧ (bt (fDiv kp care bits N (care b) (bits b) k).2.2.2 i = true ↔ ∀ j, j < k → ∀ m, m < Z → rDvd N (rkp j).toNatClampNeg b N 0 0 = nI m → i < N ∧ rDig N m i = 0) ∧ ∀ e, 17 ≤ e → e < 64 → bl (fDiv kp care bits N (care b) (bits b) k).2.1 e = false := by
  have h8 := p3_81 hN
  induction k with
  | zero => exact ⟨⟨fun _ j hj => absurd hj (Nat.not_lt_zero j), fun _ => b_m1 i hi⟩, ⟨fun _ j hj => absurd hj (Nat.not_lt_zero j), fun _ => b_m1 i hi⟩, fun e _ _ => l_0 e⟩
  | succ k ih =>
    obtain ⟨ih1, ih2, ih3⟩ := ih (by omega)
    obtain ⟨q, hq, e⟩ := hr k (by omega)
    have ek := hk k (by omega)
    have hsp : ∀ (P : Nat → Prop), (∀ j, j < k + 1 → ∀ m, m < Z → rDvd N (rkp j).toNatClampNeg b N 0 0 = nI m → P m) ↔ (∀ j, j < k → ∀ m, m < Z → rDvd N (rkp j).toNatClampNeg b N 0 0 = nI m → P m) ∧ (∀ m, m < Z → rDvd N q b N 0 0 = nI m → P m) := by
      intro P
      constructor
      · intro h
        exact ⟨fun j hj => h j (by omega), fun m hm g => h k (by omega) m hm (by rw [e, nI_clamp (by omega)]; exact g)⟩
      · rintro ⟨h1, h2⟩ j hj m hm g
        by_cases hE : j = k
        · subst hE; rw [e, nI_clamp (by omega)] at g; exact h2 m hm g
        · exact h1 j (by omega) m hm g
    have hstep : fDiv kp care bits N (care b) (bits b) (k + 1) = (if (cB N q N).1 &&& (cB N b N).1 = (cB N b N).1 then (if (cB N q N).2 &&& (cB N b N).1 = (cB N b N).2 then fAdd N ((cB N q N).1 &&& ((cB N b N).1 ^^^ (-1))) ((cB N q N).2 &&& ((cB N b N).1 ^^^ (-1))) (fDiv kp care bits N (care b) (bits b) k) else fDiv kp care bits N (care b) (bits b) k) else fDiv kp care bits N (care b) (bits b) k) := by
      rw [show fDiv kp care bits N (care b) (bits b) (k + 1) = (if care (kp k).toNatClampNeg &&& care b = care b then (if bits (kp k).toNatClampNeg &&& care b = bits b then fAdd N (care (kp k).toNatClampNeg &&& (care b ^^^ (-1))) (bits (kp k).toNatClampNeg &&& (care b ^^^ (-1))) (fDiv kp care bits N (care b) (bits b) k) else fDiv kp care bits N (care b) (bits b) k) else fDiv kp care bits N (care b) (bits b) k) from rfl, ek, e, nI_clamp (by omega), (htb q hq).1, (htb q hq).2, (htb b hb).1, (htb b hb).2]
    rw [hsp, hsp, hstep]
    rcases dv_p hN (show q < 3 ^ N by omega) (show b < 3 ^ N by omega) with ⟨c1, c2, m, hm, d1, d2, d3⟩ | ⟨c1, d1⟩
    · rw [if_pos c1, if_pos c2]
      have hcb := cb_p hN hm hi
      rw [d3] at hcb
      have hon : ∀ x : Int64 × Int64 × Int32 × Int32, (fAdd N ((cB N q N).1 &&& ((cB N b N).1 ^^^ (-1))) ((cB N q N).2 &&& ((cB N b N).1 ^^^ (-1))) x).2.2.1 = x.2.2.1 &&& ((cB N q N).2 &&& ((cB N b N).1 ^^^ (-1))) ∧ (fAdd N ((cB N q N).1 &&& ((cB N b N).1 ^^^ (-1))) ((cB N q N).2 &&& ((cB N b N).1 ^^^ (-1))) x).2.2.2 = x.2.2.2 &&& (((cB N q N).1 &&& ((cB N b N).1 ^^^ (-1))) &&& (((cB N q N).2 &&& ((cB N b N).1 ^^^ (-1))) ^^^ (-1))) := by
        intro x
        unfold fAdd
        split <;> exact ⟨rfl, rfl⟩
      have hm1 : ∀ (P : Nat → Prop), (∀ m', m' < Z → rDvd N q b N 0 0 = nI m' → P m') ↔ P m := fun P => ⟨fun g => g m (by omega) d1, fun g m' hm' q' => by
        rw [d1] at q'
        rw [← (nI_eq (by omega) (by omega)).mp q']; exact g⟩
      rw [(hon _).1, (hon _).2, hm1, hm1]
      have a1 : ∀ x y : Int32, bt (x &&& y) i = true ↔ bt x i = true ∧ bt y i = true := fun x y => by rw [b_and, Bool.and_eq_true]
      have a2 : ∀ {x : Bool} {d : Nat}, x = (decide (i < N) && decide (rDig N m i = d)) → (x = true ↔ i < N ∧ rDig N m i = d) := fun {x d} h => by rw [h, Bool.and_eq_true, decide_eq_true_eq, decide_eq_true_eq]
      exact ⟨(a1 _ _).trans (and_congr ih1 (a2 hcb.1)), (a1 _ _).trans (and_congr ih2 (a2 hcb.2)), fAdd_hi (by omega) d2 ih3⟩
    · have e2 : (if (cB N q N).1 &&& (cB N b N).1 = (cB N b N).1 then (if (cB N q N).2 &&& (cB N b N).1 = (cB N b N).2 then fAdd N ((cB N q N).1 &&& ((cB N b N).1 ^^^ (-1))) ((cB N q N).2 &&& ((cB N b N).1 ^^^ (-1))) (fDiv kp care bits N (care b) (bits b) k) else fDiv kp care bits N (care b) (bits b) k) else fDiv kp care bits N (care b) (bits b) k) = fDiv kp care bits N (care b) (bits b) k := by
        by_cases g1 : (cB N q N).1 &&& (cB N b N).1 = (cB N b N).1
        · rw [if_pos g1, if_neg (fun g2 => c1 ⟨g1, g2⟩)]
        · rw [if_neg g1]
      rw [e2]
      have hno : ∀ (P : Nat → Prop), ∀ m, m < Z → rDvd N q b N 0 0 = nI m → P m := fun P m hm g => by
        rw [d1] at g
        have h0 : ¬ nI m < 0 := nI_pos (by omega)
        rw [← g] at h0; exact absurd (by decide) h0
      exact ⟨ih1.trans ⟨fun g => ⟨g, hno _⟩, fun g => g.1⟩, ih2.trans ⟨fun g => ⟨g, hno _⟩, fun g => g.1⟩, ih3⟩
theorem cnt_ext0 {P : Nat → Bool} {a b' : Nat} (h : a ≤ b') (hz : ∀ k, a ≤ k → k < b' → P k = false) : cnt P b' = cnt P a := by
  induction b' with
  | zero => rw [Nat.le_zero.mp h]
  | succ n ih =>
    by_cases hE : a = n + 1
    · rw [hE]
    · rw [cnt_s, hz n (by omega) (by omega), if_neg (by decide), ih (by omega) (fun k h1 h2 => hz k h1 (by omega))]
section KC
theorem bm_q (htb : ∀ q, q < Z → care q = (cB N q N).1 ∧ bits q = (cB N q N).2) (hN : N ≤ 4) (hZ : 3 ^ N = Z) (hk : ∀ t, t < TK → kp t = rkp t) (hr : ∀ t, t < TK → ∃ c, c < Z ∧ rkp t = nI c) (hb : b < Z) {p : Nat} (hp : p < 81) : bm (fDiv kp care bits N (care b) (bits b) TK).1 (fDiv kp care bits N (care b) (bits b) TK).2.1 p = qIn rkp N TK b p := by
  apply bool_ext
  rw [in_eq htb hN hZ hk hr hb hp, qIn_t]
theorem q_hi (htb : ∀ q, q < Z → care q = (cB N q N).1 ∧ bits q = (cB N q N).2) (hN : N ≤ 4) (hZ : 3 ^ N = Z) (hk : ∀ t, t < TK → kp t = rkp t) (hr : ∀ t, t < TK → ∃ c, c < Z ∧ rkp t = nI c) {p : Nat} (hb : b < Z) (hp : p < 81) (hz : Z ≤ p) : qIn rkp N TK b p = false := by
  refine Bool.eq_false_iff.mpr (fun g => ?_)
  obtain ⟨j, hj, e⟩ := (rIn_i TK).mp (qIn_t.mp g)
  obtain ⟨q, hq, e2⟩ := hr j hj
  have h8 := p3_81 hN
  rw [e2, nI_clamp (by omega)] at e
  rcases dv_p hN (show q < 3 ^ N by omega) (show b < 3 ^ N by omega) with ⟨_, _, m, hm, d1, _⟩ | ⟨_, d1⟩
  · rw [d1] at e
    have := (nI_eq (by omega) (by omega)).mp e
    omega
  · rw [d1] at e
    have h0 : ¬ nI p < 0 := nI_pos (by omega)
    rw [← e] at h0; exact absurd (by decide) h0
theorem ker_cnt (htb : ∀ q, q < Z → care q = (cB N q N).1 ∧ bits q = (cB N q N).2) (hN : N ≤ 4) (hZ : 3 ^ N = Z) (hk : ∀ t, t < TK → kp t = rkp t) (hr : ∀ t, t < TK → ∃ c, c < Z ∧ rkp t = nI c) (hb : b < Z) : bcL (fDiv kp care bits N (care b) (bits b) TK).1 + bcL (fDiv kp care bits N (care b) (bits b) TK).2.1 = nI (cnt (qIn rkp N TK b) Z) ∧ cnt (qIn rkp N TK b) Z ≤ 81 := by
  have h8 := p3_81 hN
  have hle := cnt_le (qIn rkp N TK b) Z
  refine ⟨?_, by omega⟩
  rw [bcL_cnt, bcL_cnt, nI_add]
  congr 1
  have h1 : cnt (qIn rkp N TK b) 81 = cnt (qIn rkp N TK b) Z := cnt_ext0 (by omega) (fun k h1 h2 => q_hi htb hN hZ hk hr hb h2 h1)
  rw [← h1, show 81 = 64 + 17 from rfl, cnt_split]
  have h2 : cnt (bl (fDiv kp care bits N (care b) (bits b) TK).1) 64 = cnt (qIn rkp N TK b) 64 := cnt_cong 64 (fun e he => by
    rw [← bm_q htb hN hZ hk hr hb (show e < 81 by omega)]
    unfold bm
    rw [if_pos he])
  have h3 : cnt (bl (fDiv kp care bits N (care b) (bits b) TK).2.1) 64 = cnt (bl (fDiv kp care bits N (care b) (bits b) TK).2.1) 17 := cnt_ext0 (by omega) (fun e h4 h5 => (fDiv_sh htb hN hZ hk hr hb (i := 0) (by omega) TK (Nat.le_refl TK)).2.2 e h4 h5)
  have h4 : cnt (bl (fDiv kp care bits N (care b) (bits b) TK).2.1) 17 = cnt (fun e => qIn rkp N TK b (64 + e)) 17 := cnt_cong 17 (fun e he => by
    rw [← bm_q htb hN hZ hk hr hb (show 64 + e < 81 by omega)]
    unfold bm
    rw [if_neg (by omega), show 64 + e - 64 = e by omega])
  rw [h2, h3, h4]
/-- kernels are the same on both sides -/
theorem ker_is (htb : ∀ q, q < Z → care q = (cB N q N).1 ∧ bits q = (cB N q N).2) (hN : N ≤ 4) (hZ : 3 ^ N = Z) (hk : ∀ t, t < TK → kp t = rkp t) (hr : ∀ t, t < TK → ∃ c, c < Z ∧ rkp t = nI c) (hb : b < Z) : ¬ fKer (fDiv kp care bits N (care b) (bits b) TK) = 0 ↔ kIs rkp N TK Z b N = true := by
  have h8 := p3_81 hN
  have hc := ker_cnt htb hN hZ hk hr hb
  rw [kIs_i (by omega)]
  unfold fKer
  rw [hc.1]
  have hlt : nI (cnt (qIn rkp N TK b) Z) < (2 : Int32) ↔ cnt (qIn rkp N TK b) Z < 2 := nI_ltI (b := 2) (by omega) (by omega)
  have hon : ∀ d, ∀ i, (∀ j, j < TK → ∀ m, m < Z → rDvd N (rkp j).toNatClampNeg b N 0 0 = nI m → i < N ∧ rDig N m i = d) ↔ ∀ q, q < Z → qIn rkp N TK b q = true → i < N ∧ rDig N q i = d := by
    intro d i
    constructor
    · intro h q hq hb2
      obtain ⟨j, hj, e⟩ := (rIn_i TK).mp (qIn_t.mp hb2)
      exact h j hj q hq e
    · intro h j hj m hm e
      exact h m hm (qIn_t.mpr ((rIn_i TK).mpr ⟨j, hj, e⟩))
  by_cases h2 : cnt (qIn rkp N TK b) Z < 2
  · rw [if_pos (hlt.mpr h2)]
    exact ⟨fun g => absurd rfl g, fun g => by omega⟩
  · rw [if_neg (fun g => h2 (hlt.mp g))]
    obtain ⟨m0, hm0, hq0⟩ := cnt_ex Z (show 2 ≤ cnt (qIn rkp N TK b) Z by omega)
    have key : ∀ (d : Nat) (x : Int32), (∀ i, i < 32 → (bt x i = true ↔ ∀ j, j < TK → ∀ m, m < Z → rDvd N (rkp j).toNatClampNeg b N 0 0 = nI m → i < N ∧ rDig N m i = d)) → (x = 0 ↔ ∀ i, i < N → ¬ ∀ q, q < Z → qIn rkp N TK b q = true → rDig N q i = d) := by
      intro d x hx
      constructor
      · intro h0 i hi g
        have : bt x i = true := (hx i (by omega)).mpr ((hon d i).mpr (fun q hq hb2 => ⟨hi, g q hq hb2⟩))
        rw [h0, b_0] at this; cases this
      · intro h
        refine b_ext (fun i hi => ?_)
        rw [b_0]
        refine Bool.eq_false_iff.mpr (fun g => ?_)
        have g2 := (hon d i).mp ((hx i hi).mp g)
        exact h i (g2 m0 hm0 hq0).1 (fun q hq hb2 => (g2 q hq hb2).2)
    have k1 := key 1 _ (fun i hi => (fDiv_sh htb hN hZ hk hr hb hi TK (Nat.le_refl TK)).1)
    have k0 := key 0 _ (fun i hi => (fDiv_sh htb hN hZ hk hr hb hi TK (Nat.le_refl TK)).2.1)
    unfold noSh
    by_cases g1 : (fDiv kp care bits N (care b) (bits b) TK).2.2.1 = 0
    · rw [if_pos g1]
      by_cases g0 : (fDiv kp care bits N (care b) (bits b) TK).2.2.2 = 0
      · rw [if_pos g0]
        exact ⟨fun _ => ⟨by omega, fun i hi => ⟨k0.mp g0 i hi, k1.mp g1 i hi⟩⟩, fun _ => by decide⟩
      · rw [if_neg g0]
        exact ⟨fun g => absurd rfl g, fun g => absurd (k0.mpr (fun i hi => (g.2 i hi).1)) g0⟩
    · rw [if_neg g1]
      exact ⟨fun g => absurd rfl g, fun g => absurd (k1.mpr (fun i hi => (g.2 i hi).2)) g1⟩
theorem same_q (htb : ∀ q, q < Z → care q = (cB N q N).1 ∧ bits q = (cB N q N).2) (hN : N ≤ 4) (hZ : 3 ^ N = Z) (hk : ∀ t, t < TK → kp t = rkp t) (hr : ∀ t, t < TK → ∃ c, c < Z ∧ rkp t = nI c) {o : Nat} (hb : b < Z) (ho : o < Z) : ((fDiv kp care bits N (care o) (bits o) TK).1 = (fDiv kp care bits N (care b) (bits b) TK).1 ∧ (fDiv kp care bits N (care o) (bits o) TK).2.1 = (fDiv kp care bits N (care b) (bits b) TK).2.1) ↔ ∀ p, p < Z → qIn rkp N TK b p = qIn rkp N TK o p := by
  have h8 := p3_81 hN
  constructor
  · rintro ⟨h1, h2⟩ p hp
    rw [← bm_q htb hN hZ hk hr hb (show p < 81 by omega), ← bm_q htb hN hZ hk hr ho (show p < 81 by omega), h1, h2]
  · intro h
    have hall : ∀ p, p < 81 → qIn rkp N TK b p = qIn rkp N TK o p := by
      intro p hp
      by_cases hz : p < Z
      · exact h p hz
      · rw [q_hi htb hN hZ hk hr hb hp (by omega), q_hi htb hN hZ hk hr ho hp (by omega)]
    constructor
    · refine l_ext (fun e he => ?_)
      have := hall e (by omega)
      rw [← bm_q htb hN hZ hk hr hb (show e < 81 by omega), ← bm_q htb hN hZ hk hr ho (show e < 81 by omega)] at this
      unfold bm at this
      rw [if_pos he, if_pos he] at this
      exact this.symm
    · refine l_ext (fun e he => ?_)
      by_cases h17 : e < 17
      · have := hall (64 + e) (by omega)
        rw [← bm_q htb hN hZ hk hr hb (show 64 + e < 81 by omega), ← bm_q htb hN hZ hk hr ho (show 64 + e < 81 by omega)] at this
        unfold bm at this
        rw [if_neg (by omega), if_neg (by omega), show 64 + e - 64 = e by omega] at this
        exact this.symm
      · rw [(fDiv_sh htb hN hZ hk hr ho (i := 0) (by omega) TK (Nat.le_refl TK)).2.2 e (by omega) he, (fDiv_sh htb hN hZ hk hr hb (i := 0) (by omega) TK (Nat.le_refl TK)).2.2 e (by omega) he]
end KC
theorem kSq_i (p : Nat) {o : Nat} : kSq rkp N TR Z b o p = true ↔ kIs rkp N TR Z o N = true ∧ ∀ q, q < p → rIn rkp N (nI q) b TR = rIn rkp N (nI q) o TR := by
  induction p with
  | zero => exact ⟨fun h => ⟨h, fun q hq => absurd hq (Nat.not_lt_zero q)⟩, fun h => h.1⟩
  | succ p ih =>
    rw [show kSq rkp N TR Z b o (p + 1) = (kSq rkp N TR Z b o p && decide (rIn rkp N (nI p) b TR = rIn rkp N (nI p) o TR)) from rfl, Bool.and_eq_true, ih, decide_eq_true_eq]
    constructor
    · rintro ⟨⟨h1, h2⟩, h3⟩
      refine ⟨h1, fun q hq => ?_⟩
      by_cases hE : q = p
      · subst hE; exact h3
      · exact h2 q (by omega)
    · rintro ⟨h1, h2⟩
      exact ⟨⟨h1, fun q hq => h2 q (by omega)⟩, h2 p (by omega)⟩
theorem kFr_i (j : Nat) : kFr rkp N TR Z b j = true ↔ kIs rkp N TR Z b N = true ∧ ∀ o, o < j → ¬ kSq rkp N TR Z b o Z = true := by
  induction j with
  | zero => exact ⟨fun h => ⟨h, fun o ho => absurd ho (Nat.not_lt_zero o)⟩, fun h => h.1⟩
  | succ j ih =>
    rw [show kFr rkp N TR Z b (j + 1) = (kFr rkp N TR Z b j && !kSq rkp N TR Z b j Z) from rfl, Bool.and_eq_true, ih, Bool.not_eq_true']
    constructor
    · rintro ⟨⟨h1, h2⟩, h3⟩
      refine ⟨h1, fun o ho => ?_⟩
      by_cases hE : o = j
      · subst hE; rw [h3]; decide
      · exact h2 o (by omega)
    · rintro ⟨h1, h2⟩
      exact ⟨⟨h1, fun o ho => h2 o (by omega)⟩, Bool.eq_false_iff.mpr (h2 j (by omega))⟩
theorem rIn_01 (pr : Int32) (k : Nat) : rIn rkp N pr b k = 0 ∨ rIn rkp N pr b k = 1 := by
  cases k with
  | zero => exact Or.inl rfl
  | succ k =>
    rw [show rIn rkp N pr b (k + 1) = (if rIn rkp N pr b k = 0 then (if rDvd N (rkp k).toNatClampNeg b N 0 0 = pr then 1 else 0) else 1) from rfl]
    split
    · split
      · exact Or.inr rfl
      · exact Or.inl rfl
    · exact Or.inr rfl
theorem rIn_q {o p : Nat} : rIn rkp N (nI p) b TR = rIn rkp N (nI p) o TR ↔ qIn rkp N TR b p = qIn rkp N TR o p := by
  unfold qIn
  rcases rIn_01 (rkp := rkp) (N := N) (b := b) (nI p) TR with h1 | h1 <;> rcases rIn_01 (rkp := rkp) (N := N) (b := o) (nI p) TR with h2 | h2 <;> rw [h1, h2] <;> decide
/-- the number of kernels is the same on both sides -/
theorem ker_st (htb : ∀ q, q < Z → care q = (cB N q N).1 ∧ bits q = (cB N q N).2) (hN : N ≤ 4) (hZ : 3 ^ N = Z) (hk : ∀ t, t < TK → kp t = rkp t) (hr : ∀ t, t < TK → ∃ c, c < Z ∧ rkp t = nI c) {kl kh : Nat → Int64} {d : Int64 × Int64 × Int32 × Int32} (p : Nat) (hp : p ≤ Z) : (stK kp care bits N TK kl kh d p).1 = cnt (fun b => kFr rkp N TK Z b b) p ∧ ∀ lo hi, anyB (fSame (stK kp care bits N TK kl kh d p).2.1 (stK kp care bits N TK kl kh d p).2.2.1 lo hi) (stK kp care bits N TK kl kh d p).1 = true ↔ ∃ o, o < p ∧ kIs rkp N TK Z o N = true ∧ (fDiv kp care bits N (care o) (bits o) TK).1 = lo ∧ (fDiv kp care bits N (care o) (bits o) TK).2.1 = hi := by
  induction p with
  | zero => exact ⟨rfl, fun lo hi => ⟨fun g => (Bool.false_ne_true g).elim, fun ⟨o, ho, _⟩ => absurd ho (Nat.not_lt_zero o)⟩⟩
  | succ p ih =>
    obtain ⟨h1, h2⟩ := ih (by omega)
    have hker := ker_is htb hN hZ hk hr (show p < Z by omega)
    have hany := h2 (fDiv kp care bits N (care p) (bits p) TK).1 (fDiv kp care bits N (care p) (bits p) TK).2.1
    have hfr : kFr rkp N TK Z p p = true ↔ kIs rkp N TK Z p N = true ∧ ¬ anyB (fSame (stK kp care bits N TK kl kh d p).2.1 (stK kp care bits N TK kl kh d p).2.2.1 (fDiv kp care bits N (care p) (bits p) TK).1 (fDiv kp care bits N (care p) (bits p) TK).2.1) (stK kp care bits N TK kl kh d p).1 = true := by
      rw [kFr_i, hany]
      refine and_congr Iff.rfl ⟨fun g ⟨o, ho, a, b1, b2⟩ => g o ho ((kSq_i Z).mpr ⟨a, fun q hq => rIn_q.mpr ((same_q htb hN hZ hk hr (show p < Z by omega) (show o < Z by omega)).mp ⟨b1, b2⟩ q hq)⟩), fun g o ho s => ?_⟩
      obtain ⟨a, b1⟩ := (kSq_i Z).mp s
      have := (same_q htb hN hZ hk hr (show p < Z by omega) (show o < Z by omega)).mpr (fun q hq => rIn_q.mp (b1 q hq))
      exact g ⟨o, ho, a, this.1, this.2⟩
    have hsp : ∀ lo hi, (∃ o, o < p + 1 ∧ kIs rkp N TK Z o N = true ∧ (fDiv kp care bits N (care o) (bits o) TK).1 = lo ∧ (fDiv kp care bits N (care o) (bits o) TK).2.1 = hi) ↔ (∃ o, o < p ∧ kIs rkp N TK Z o N = true ∧ (fDiv kp care bits N (care o) (bits o) TK).1 = lo ∧ (fDiv kp care bits N (care o) (bits o) TK).2.1 = hi) ∨ (kIs rkp N TK Z p N = true ∧ (fDiv kp care bits N (care p) (bits p) TK).1 = lo ∧ (fDiv kp care bits N (care p) (bits p) TK).2.1 = hi) := by
      intro lo hi
      constructor
      · rintro ⟨o, ho, g⟩
        by_cases hE : o = p
        · subst hE; exact Or.inr g
        · exact Or.inl ⟨o, by omega, g⟩
      · rintro (⟨o, ho, g⟩ | g)
        · exact ⟨o, by omega, g⟩
        · exact ⟨p, by omega, g⟩
    rw [show stK kp care bits N TK kl kh d (p + 1) = (if fKer (fDiv kp care bits N (care p) (bits p) TK) = 0 then ((stK kp care bits N TK kl kh d p).1, (stK kp care bits N TK kl kh d p).2.1, (stK kp care bits N TK kl kh d p).2.2.1, fDiv kp care bits N (care p) (bits p) TK) else if anyB (fSame (stK kp care bits N TK kl kh d p).2.1 (stK kp care bits N TK kl kh d p).2.2.1 (fDiv kp care bits N (care p) (bits p) TK).1 (fDiv kp care bits N (care p) (bits p) TK).2.1) (stK kp care bits N TK kl kh d p).1 then ((stK kp care bits N TK kl kh d p).1, (stK kp care bits N TK kl kh d p).2.1, (stK kp care bits N TK kl kh d p).2.2.1, fDiv kp care bits N (care p) (bits p) TK) else ((stK kp care bits N TK kl kh d p).1 + 1, vp_updL (stK kp care bits N TK kl kh d p).2.1 (stK kp care bits N TK kl kh d p).1 (fDiv kp care bits N (care p) (bits p) TK).1, vp_updL (stK kp care bits N TK kl kh d p).2.2.1 (stK kp care bits N TK kl kh d p).1 (fDiv kp care bits N (care p) (bits p) TK).2.1, fDiv kp care bits N (care p) (bits p) TK)) from rfl, cnt_s]
    by_cases g1 : fKer (fDiv kp care bits N (care p) (bits p) TK) = 0
    · have g2 : ¬ kIs rkp N TK Z p N = true := fun g => hker.mpr g g1
      rw [if_pos g1, if_neg (fun g => g2 (hfr.mp g).1)]
      refine ⟨h1, fun lo hi => (h2 lo hi).trans ((hsp lo hi).trans ⟨fun g => g.elim id (fun g => absurd g.1 g2), Or.inl⟩).symm⟩
    · have g2 : kIs rkp N TK Z p N = true := hker.mp g1
      rw [if_neg g1]
      by_cases g3 : anyB (fSame (stK kp care bits N TK kl kh d p).2.1 (stK kp care bits N TK kl kh d p).2.2.1 (fDiv kp care bits N (care p) (bits p) TK).1 (fDiv kp care bits N (care p) (bits p) TK).2.1) (stK kp care bits N TK kl kh d p).1 = true
      · rw [if_pos g3, if_neg (fun g => (hfr.mp g).2 g3)]
        refine ⟨h1, fun lo hi => (h2 lo hi).trans ((hsp lo hi).trans ⟨fun g => g.elim id (fun g => ?_), Or.inl⟩).symm⟩
        obtain ⟨o, ho, a, b1, b2⟩ := hany.mp g3
        exact ⟨o, ho, a, b1.trans g.2.1, b2.trans g.2.2⟩
      · rw [if_neg g3, if_pos (hfr.mpr ⟨g2, g3⟩)]
        refine ⟨by show _ + 1 = _ + 1; rw [h1], fun lo hi => ?_⟩
        show anyB (fSame (vp_updL (stK kp care bits N TK kl kh d p).2.1 (stK kp care bits N TK kl kh d p).1 (fDiv kp care bits N (care p) (bits p) TK).1) (vp_updL (stK kp care bits N TK kl kh d p).2.2.1 (stK kp care bits N TK kl kh d p).1 (fDiv kp care bits N (care p) (bits p) TK).2.1) lo hi) ((stK kp care bits N TK kl kh d p).1 + 1) = true ↔ _
        rw [hsp, ← h2, anyB_iff, anyB_iff]
        have hsm : ∀ (x y : Nat → Int64) j, fSame x y lo hi j = true ↔ x j = lo ∧ y j = hi := by
          intro x y j
          unfold fSame
          rw [Bool.and_eq_true, decide_eq_true_eq, decide_eq_true_eq, lgc0, lgc0]
        constructor
        · rintro ⟨j, hj, g⟩
          rw [hsm] at g
          by_cases hE : j = (stK kp care bits N TK kl kh d p).1
          · subst hE
            right
            refine ⟨g2, ?_⟩
            rw [← g.1, ← g.2]
            exact ⟨(if_pos rfl).symm, (if_pos rfl).symm⟩
          · left
            refine ⟨j, by omega, (hsm _ _ _).mpr ?_⟩
            rw [← g.1, ← g.2]
            exact ⟨(if_neg hE).symm, (if_neg hE).symm⟩
        · rintro (⟨j, hj, g⟩ | ⟨_, g1', g2'⟩)
          · rw [hsm] at g
            refine ⟨j, by omega, (hsm _ _ _).mpr ?_⟩
            rw [← g.1, ← g.2]
            exact ⟨if_neg (by omega), if_neg (by omega)⟩
          · refine ⟨(stK kp care bits N TK kl kh d p).1, by omega, (hsm _ _ _).mpr ?_⟩
            rw [← g1', ← g2']
            exact ⟨if_pos rfl, if_pos rfl⟩
theorem ker_eq (htb : ∀ q, q < Z → care q = (cB N q N).1 ∧ bits q = (cB N q N).2) (hN : N ≤ 4) (hZ : 3 ^ N = Z) (hk : ∀ t, t < TK → kp t = rkp t) (hr : ∀ t, t < TK → ∃ c, c < Z ∧ rkp t = nI c) {kl kh : Nat → Int64} {d : Int64 × Int64 × Int32 × Int32} : (stK kp care bits N TK kl kh d Z).1 = cnt (fun b => kFr rkp N TK Z b b) Z := (ker_st htb hN hZ hk hr Z (Nat.le_refl Z)).1
end KN
