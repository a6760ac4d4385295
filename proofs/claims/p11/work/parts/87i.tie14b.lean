/-! ===== the nodes of a diagram, both sides ===== -/
theorem all_r {n : Nat} {f : Nat → Bool} (h : (List.range n).all f = true) {i : Nat} (hi : i < n) : f i = true := List.all_eq_true.mp h i (List.mem_range.mpr hi)
theorem dg_1 {N od : Nat} (hN : N ≤ 4) (ho : od < rOrd N) {pl : Nat} (hp : pl < 2 ^ N) : aN N od pl < 2 ^ N ∧ fAsg (sQ N od) N pl N = nI (aN N od pl) := by
  have h := all_r (Bool.and_eq_true_iff.mp (all_r dg_c (show N < 5 by omega))).2 ho
  have h1 := all_r (Bool.and_eq_true_iff.mp h).1 hp
  exact ⟨of_decide_eq_true (Bool.and_eq_true_iff.mp h1).1, of_decide_eq_true (Bool.and_eq_true_iff.mp h1).2⟩
theorem dg_2 {N od lev : Nat} (hN : N ≤ 4) (ho : od < rOrd N) (hl : lev < N) {v : Nat} (hv : v < 2 ^ lev) : rvN lev v < 2 ^ lev ∧ rvN lev (rvN lev v) = v ∧ ∀ a, a < 2 ^ N → rFrm N od (nI v) a lev = nI (fN N od v lev a) ∧ fN N od v lev a = aN N od (rvN lev v * (2 * hfN N lev) + ixN N od lev a) := by
  have h := all_r (Bool.and_eq_true_iff.mp (all_r dg_c (show N < 5 by omega))).2 ho
  have h1 := (Bool.and_eq_true_iff.mp (all_r (Bool.and_eq_true_iff.mp h).2 hl)).1
  have h2 := Bool.and_eq_true_iff.mp (all_r h1 hv)
  have h3 := Bool.and_eq_true_iff.mp h2.1
  refine ⟨of_decide_eq_true h3.1, of_decide_eq_true h3.2, fun a ha => ?_⟩
  have h4 := Bool.and_eq_true_iff.mp (all_r h2.2 ha)
  exact ⟨of_decide_eq_true h4.1, of_decide_eq_true h4.2⟩
theorem dg_3 {N od lev : Nat} (hN : N ≤ 4) (ho : od < rOrd N) (hl : lev < N) : (∀ a, a < 2 ^ N → xN N od lev a < 2 ^ N ∧ nI a ^^^ ((1 : Int32) <<< (aq N od lev &&& 31)) = nI (xN N od lev a) ∧ ixN N od lev (xN N od lev a) = if ixN N od lev a < hfN N lev then ixN N od lev a + hfN N lev else ixN N od lev a - hfN N lev) ∧ ∀ j, j < 2 * hfN N lev → ∃ a, a < 2 ^ N ∧ ixN N od lev a = j := by
  have h := all_r (Bool.and_eq_true_iff.mp (all_r dg_c (show N < 5 by omega))).2 ho
  have h1 := Bool.and_eq_true_iff.mp (Bool.and_eq_true_iff.mp (all_r (Bool.and_eq_true_iff.mp h).2 hl)).2
  refine ⟨fun a ha => ?_, fun j hj => ?_⟩
  · have h2 := Bool.and_eq_true_iff.mp (all_r h1.1 ha)
    have h3 := Bool.and_eq_true_iff.mp h2.1
    exact ⟨of_decide_eq_true h3.1, of_decide_eq_true h3.2, of_decide_eq_true h2.2⟩
  · obtain ⟨a, ha, e⟩ := List.any_eq_true.mp (all_r h1.2 hj)
    exact ⟨a, List.mem_range.mp ha, of_decide_eq_true e⟩
theorem dg_4 {N lev : Nat} (hN : N ≤ 4) (hl : lev < N) : fHf N lev = nI (hfN N lev) ∧ 2 ^ lev * (2 * hfN N lev) = 2 ^ N ∧ hfN N lev ≤ 8 ∧ (∀ e, e < 32 → bt (fHm N lev) e = decide (e < hfN N lev)) ∧ ∀ p, p < 2 ^ lev → (nI p * 2) * fHf N lev = nI (p * (2 * hfN N lev)) := by
  have h := Bool.and_eq_true_iff.mp (all_r (Bool.and_eq_true_iff.mp (all_r dg_c (show N < 5 by omega))).1 hl)
  have h1 := Bool.and_eq_true_iff.mp h.1
  have h2 := Bool.and_eq_true_iff.mp h1.1
  have h3 := Bool.and_eq_true_iff.mp h2.1
  exact ⟨of_decide_eq_true h3.1, of_decide_eq_true h3.2, of_decide_eq_true h2.2, fun e he => beq_iff_eq.mp (all_r h1.2 he), fun p hp => of_decide_eq_true (all_r h.2 hp)⟩
theorem pw16 {N : Nat} (hN : N ≤ 4) : 2 ^ N ≤ 16 := Nat.pow_le_pow_right (n := 2) (by omega) hN
theorem fReo_b {asked : Nat → Int32} {N od : Nat} {on : Int32} (hN : N ≤ 4) (ho : od < rOrd N) (ha : ∀ k, k < N → asked k = sQ N od k) {e : Nat} (he : e < 32) (P : Nat) (hP : P ≤ 2 ^ N) : bt (fReo asked N on P) e = (decide (e < P) && bt on (aN N od e)) := by
  have h16 := pw16 hN
  induction P with
  | zero => show bt 0 e = _; rw [b_0]; simp
  | succ P ih =>
    have h1 := dg_1 hN ho (show P < 2 ^ N by omega)
    show bt (fReo asked N on P ||| (((on >>> (fAsg asked N P N &&& 31)) &&& 1) <<< (nI P &&& 31))) e = _
    rw [b_or, ih (by omega), fAsg_cong N ha, h1.2, sh1 (by omega), b_shl P (by omega) _ he]
    by_cases hE : e = P
    · subst hE
      rw [decide_eq_false (Nat.lt_irrefl e), decide_eq_true (Nat.le_refl e), decide_eq_true (Nat.lt_succ_self e), Nat.sub_self]
      cases bt on (aN N od e) <;> decide
    · by_cases h2 : e < P
      · rw [decide_eq_true h2, decide_eq_true (show e < P + 1 by omega), decide_eq_false (show ¬ P ≤ e by omega), Bool.false_and, Bool.or_false]
      · rw [decide_eq_false h2, decide_eq_false (show ¬ e < P + 1 by omega), Bool.false_and, Bool.false_or]
        have h3 : bt (if bt on (aN N od P) = true then (1 : Int32) else 0) (e - P) = false := by
          split
          · rw [b_1]; exact decide_eq_false (by omega)
          · exact b_0 _
        rw [h3, Bool.and_false]
theorem rPart_b {N od lev v : Nat} {fn : Int32} (hN : N ≤ 4) (ho : od < rOrd N) (hl : lev < N) (hv : v < 2 ^ lev) {e : Nat} (he : e < 32) (P : Nat) (hP : P ≤ 2 ^ N) : bt (rPart N od fn lev (nI v) P) e = (decide (e < P) && bt fn (fN N od v lev e)) := by
  have h16 := pw16 hN
  induction P with
  | zero => show bt 0 e = _; rw [b_0]; simp
  | succ P ih =>
    have h1 := (dg_2 hN ho hl hv).2.2 P (by omega)
    have hlt : fN N od v lev P < 32 := by
      rw [h1.2]
      have h4 := (dg_4 hN hl).2.1
      have h5 := (dg_2 hN ho hl hv).1
      have h6 : ixN N od lev P < 2 * hfN N lev := Nat.mod_lt _ (Nat.mul_pos (by omega) (Nat.pow_pos (by omega)))
      have h7 : rvN lev v * (2 * hfN N lev) + ixN N od lev P < 2 ^ N := by
        rw [← h4]
        calc rvN lev v * (2 * hfN N lev) + ixN N od lev P < rvN lev v * (2 * hfN N lev) + 2 * hfN N lev := by omega
          _ = (rvN lev v + 1) * (2 * hfN N lev) := by rw [Nat.add_mul, Nat.one_mul]
          _ ≤ 2 ^ lev * (2 * hfN N lev) := Nat.mul_le_mul_right _ h5
      have := (dg_1 hN ho h7).1
      omega
    show bt (if (fn >>> (rFrm N od (nI v) P lev &&& 31)) &&& 1 = 1 then rPart N od fn lev (nI v) P ||| ((1 : Int32) <<< (nI P &&& 31)) else rPart N od fn lev (nI v) P) e = _
    have h3 : ((fn >>> (rFrm N od (nI v) P lev &&& 31)) &&& 1 = 1) ↔ bt fn (fN N od v lev P) = true := by rw [h1.1]; exact sh1_1 hlt
    by_cases hb : bt fn (fN N od v lev P) = true
    · rw [if_pos (h3.mpr hb), b_or, ih (by omega), b_sl1 (by omega) he]
      by_cases hE : e = P
      · subst hE; rw [hb]; simp
      · rw [decide_eq_false hE, Bool.or_false]
        congr 1
        exact decide_eq_decide.mpr (by omega)
    · rw [if_neg (fun g => hb (h3.mp g)), ih (by omega)]
      by_cases hE : e = P
      · subst hE; rw [Bool.eq_false_iff.mpr hb, Bool.and_false, Bool.and_false]
      · congr 1
        exact decide_eq_decide.mpr (by omega)
theorem ix_lt {N od lev a : Nat} : ixN N od lev a < 2 * hfN N lev := Nat.mod_lt _ (Nat.mul_pos (by omega) (Nat.pow_pos (by omega)))
theorem pl_lt {N lev p e : Nat} (hN : N ≤ 4) (hl : lev < N) (hp : p < 2 ^ lev) (he : e < 2 * hfN N lev) : p * (2 * hfN N lev) + e < 2 ^ N := by
  rw [← (dg_4 hN hl).2.1]
  calc p * (2 * hfN N lev) + e < p * (2 * hfN N lev) + 2 * hfN N lev := by omega
    _ = (p + 1) * (2 * hfN N lev) := by rw [Nat.add_mul, Nat.one_mul]
    _ ≤ 2 ^ lev * (2 * hfN N lev) := Nat.mul_le_mul_right _ hp
section DGM
variable {tabs : Nat → Int32} {N od lev o p : Nat} {on : Int32}
theorem fFi_b (hN : N ≤ 4) (hl : lev < N) (hp : p < 2 ^ lev) (ht : ∀ e, e < 32 → bt (tabs o) e = (decide (e < 2 ^ N) && bt on (aN N od e))) {e : Nat} (he : e < 32) : bt (fFi tabs (fHf N lev) o p) e = bt (tabs o) (p * (2 * hfN N lev) + e) := by
  have h4 := dg_4 hN hl
  have h16 := pw16 hN
  have h1 := pl_lt (e := 0) hN hl hp (Nat.mul_pos (by omega) (Nat.pow_pos (by omega)))
  unfold fFi
  rw [h4.2.2.2.2 p hp, b_sshr _ (by omega) _ he]
  by_cases h : p * (2 * hfN N lev) + e < 32
  · rw [if_pos h]
  · rw [if_neg h, b_big (i := p * (2 * hfN N lev) + e) (by omega), ht 31 (by omega), decide_eq_false (by omega), Bool.false_and]
theorem fLo_b (hN : N ≤ 4) (hl : lev < N) (hp : p < 2 ^ lev) (ht : ∀ e, e < 32 → bt (tabs o) e = (decide (e < 2 ^ N) && bt on (aN N od e))) {e : Nat} (he : e < 32) : bt (fLo tabs (fHf N lev) (fHm N lev) o p) e = (decide (e < hfN N lev) && bt on (aN N od (p * (2 * hfN N lev) + e))) := by
  have h4 := dg_4 hN hl
  have h16 := pw16 hN
  unfold fLo
  rw [b_and, fFi_b hN hl hp ht he, h4.2.2.2.1 e he, Bool.and_comm]
  by_cases h : e < hfN N lev
  · have h1 := pl_lt (e := e) hN hl hp (by omega)
    rw [ht _ (by omega), decide_eq_true h1, Bool.true_and]
  · rw [decide_eq_false h, Bool.false_and, Bool.false_and]
theorem fUp_b (hN : N ≤ 4) (hl : lev < N) (hp : p < 2 ^ lev) (ht : ∀ e, e < 32 → bt (tabs o) e = (decide (e < 2 ^ N) && bt on (aN N od e))) {e : Nat} (he : e < 32) : bt (fUp tabs (fHf N lev) (fHm N lev) o p) e = (decide (e < hfN N lev) && bt on (aN N od (p * (2 * hfN N lev) + (hfN N lev + e)))) := by
  have h4 := dg_4 hN hl
  have h16 := pw16 hN
  unfold fUp
  rw [b_and, h4.2.2.2.1 e he, Bool.and_comm]
  by_cases h : e < hfN N lev
  · have h1 := pl_lt (e := hfN N lev + e) hN hl hp (by omega)
    rw [show (fFi tabs (fHf N lev) o p >>> (fHf N lev &&& 31)) = (fFi tabs (fHf N lev) o p >>> (nI (hfN N lev) &&& 31)) by rw [h4.1], b_sshr _ (by omega) _ he, if_pos (by omega), fFi_b hN hl hp ht (by omega), ht _ (by omega), decide_eq_true h1, Bool.true_and]
  · rw [decide_eq_false h, Bool.false_and, Bool.false_and]
theorem fBo_b (hN : N ≤ 4) (hl : lev < N) (hp : p < 2 ^ lev) (ht : ∀ e, e < 32 → bt (tabs o) e = (decide (e < 2 ^ N) && bt on (aN N od e))) {e : Nat} (he : e < 32) : bt (fBo tabs (fHf N lev) (fHm N lev) o p) e = (decide (e < 2 * hfN N lev) && bt on (aN N od (p * (2 * hfN N lev) + e))) := by
  have h4 := dg_4 hN hl
  unfold fBo
  rw [b_or, show (fUp tabs (fHf N lev) (fHm N lev) o p <<< (fHf N lev &&& 31)) = (fUp tabs (fHf N lev) (fHm N lev) o p <<< (nI (hfN N lev) &&& 31)) by rw [h4.1], b_shl _ (by omega) _ he, fLo_b hN hl hp ht he]
  by_cases h1 : e < hfN N lev
  · rw [decide_eq_false (show ¬ hfN N lev ≤ e by omega), decide_eq_true h1, decide_eq_true (show e < 2 * hfN N lev by omega), Bool.false_and, Bool.false_or]
  · rw [decide_eq_true (show hfN N lev ≤ e by omega), decide_eq_false h1, Bool.false_and, Bool.or_false, Bool.true_and, fUp_b hN hl hp ht (by omega)]
    by_cases h2 : e < 2 * hfN N lev
    · rw [decide_eq_true h2, decide_eq_true (show e - hfN N lev < hfN N lev by omega), show hfN N lev + (e - hfN N lev) = e by omega]
    · rw [decide_eq_false h2, decide_eq_false (show ¬ e - hfN N lev < hfN N lev by omega), Bool.false_and, Bool.false_and]
theorem ask_c (hN : N ≤ 4) (hl : lev < N) (hp : p < 2 ^ lev) (ht : ∀ e, e < 32 → bt (tabs o) e = (decide (e < 2 ^ N) && bt on (aN N od e))) : fLo tabs (fHf N lev) (fHm N lev) o p = fUp tabs (fHf N lev) (fHm N lev) o p ↔ ∀ e, e < hfN N lev → bt on (aN N od (p * (2 * hfN N lev) + e)) = bt on (aN N od (p * (2 * hfN N lev) + (hfN N lev + e))) := by
  have h4 := dg_4 hN hl
  constructor
  · intro h e he
    have h1 := fLo_b (e := e) hN hl hp ht (by omega)
    have h2 := fUp_b (e := e) hN hl hp ht (by omega)
    rw [h, h2, decide_eq_true he, Bool.true_and, Bool.true_and] at h1
    exact h1.symm
  · intro h
    refine b_ext (fun e he => ?_)
    rw [fLo_b hN hl hp ht he, fUp_b hN hl hp ht he]
    by_cases h1 : e < hfN N lev
    · rw [h e h1]
    · rw [decide_eq_false h1, Bool.false_and, Bool.false_and]
end DGM
theorem rAsk_iff {f : Int32} {ip : Int32} (P : Nat) : rAsk f ip P = 0 ↔ ∀ a, a < P → (f >>> (nI a &&& 31)) &&& 1 = (f >>> ((nI a ^^^ ((1 : Int32) <<< (ip &&& 31))) &&& 31)) &&& 1 := by
  induction P with
  | zero => exact ⟨fun _ a ha => absurd ha (Nat.not_lt_zero a), fun _ => rfl⟩
  | succ P ih =>
    rw [show rAsk f ip (P + 1) = (if rAsk f ip P = 0 then (if (f >>> (nI P &&& 31)) &&& 1 = (f >>> ((nI P ^^^ ((1 : Int32) <<< (ip &&& 31))) &&& 31)) &&& 1 then 0 else 1) else 1) from rfl]
    constructor
    · intro h a ha
      by_cases h0 : rAsk f ip P = 0
      · rw [if_pos h0] at h
        by_cases hE : a = P
        · subst hE
          apply Classical.byContradiction
          intro g
          rw [if_neg g] at h
          exact absurd h (by decide)
        · exact ih.mp h0 a (by omega)
      · rw [if_neg h0] at h
        exact absurd h (by decide)
    · intro h
      rw [if_pos (ih.mpr (fun a ha => h a (by omega))), if_pos (h P (by omega))]
section DGR
variable {N od lev v : Nat} {fn : Int32}
theorem rPart_i (hN : N ≤ 4) (ho : od < rOrd N) (hl : lev < N) (hv : v < 2 ^ lev) {a : Nat} (ha : a < 2 ^ N) : bt (rPart N od fn lev (nI v) (2 ^ N)) a = bt fn (aN N od (rvN lev v * (2 * hfN N lev) + ixN N od lev a)) := by
  have h16 := pw16 hN
  rw [rPart_b hN ho hl hv (by omega) _ (Nat.le_refl _), decide_eq_true ha, Bool.true_and, ((dg_2 hN ho hl hv).2.2 a ha).2]
theorem ask_r (hN : N ≤ 4) (ho : od < rOrd N) (hl : lev < N) (hv : v < 2 ^ lev) : rAsk (rPart N od fn lev (nI v) (2 ^ N)) (aq N od lev) (2 ^ N) = 0 ↔ ∀ e, e < hfN N lev → bt fn (aN N od (rvN lev v * (2 * hfN N lev) + e)) = bt fn (aN N od (rvN lev v * (2 * hfN N lev) + (hfN N lev + e))) := by
  have h16 := pw16 hN
  have h3 := dg_3 hN ho hl
  have h4 := dg_4 hN hl
  rw [rAsk_iff]
  constructor
  · intro h e he
    obtain ⟨a, ha, e1⟩ := h3.2 e (by omega)
    obtain ⟨x1, x2, x3⟩ := h3.1 a ha
    have h5 := h a ha
    rw [x2, sh1_e (by omega) (by omega), rPart_i hN ho hl hv ha, rPart_i hN ho hl hv x1, x3, e1, if_pos he, Nat.add_comm e] at h5
    exact h5
  · intro h a ha
    obtain ⟨x1, x2, x3⟩ := h3.1 a ha
    rw [x2, sh1_e (by omega) (by omega), rPart_i hN ho hl hv ha, rPart_i hN ho hl hv x1, x3]
    have h5 : ixN N od lev a < 2 * hfN N lev := ix_lt
    by_cases h6 : ixN N od lev a < hfN N lev
    · rw [if_pos h6, Nat.add_comm (ixN N od lev a)]; exact h _ h6
    · rw [if_neg h6]
      have h7 := h (ixN N od lev a - hfN N lev) (by omega)
      rw [show hfN N lev + (ixN N od lev a - hfN N lev) = ixN N od lev a by omega] at h7
      exact h7.symm
end DGR
/-- from a part of the reordered table to the reference's part -/
def phi (N od lev : Nat) (x : Int32) (P : Nat) : Int32 := itr (fun a acc => if bt x (ixN N od lev a) = true then acc ||| ((1 : Int32) <<< (nI a &&& 31)) else acc) P 0
theorem phi_b {N od lev : Nat} {x : Int32} {e : Nat} (he : e < 32) (P : Nat) (hP : P ≤ 16) : bt (phi N od lev x P) e = (decide (e < P) && bt x (ixN N od lev e)) := by
  induction P with
  | zero => show bt 0 e = _; rw [b_0]; simp
  | succ P ih =>
    show bt (if bt x (ixN N od lev P) = true then phi N od lev x P ||| ((1 : Int32) <<< (nI P &&& 31)) else phi N od lev x P) e = _
    by_cases hb : bt x (ixN N od lev P) = true
    · rw [if_pos hb, b_or, ih (by omega), b_sl1 (by omega) he]
      by_cases hE : e = P
      · subst hE; rw [hb]; simp
      · rw [decide_eq_false hE, Bool.or_false]
        congr 1
        exact decide_eq_decide.mpr (by omega)
    · rw [if_neg hb, ih (by omega)]
      by_cases hE : e = P
      · subst hE; rw [Bool.eq_false_iff.mpr hb, Bool.and_false, Bool.and_false]
      · congr 1
        exact decide_eq_decide.mpr (by omega)
theorem stNi_g {tabs : Nat → Int32} {hf hm : Int32} {o : Nat} {x : Nat × (Nat → Int32)} (p : Nat) : stNi tabs hf hm o x p = gI (fBo tabs hf hm o) (fun q => !decide (fLo tabs hf hm o q = fUp tabs hf hm o q)) p x := by
  induction p with
  | zero => rfl
  | succ p ih =>
    rw [show stNi tabs hf hm o x (p + 1) = (if fLo tabs hf hm o p = fUp tabs hf hm o p then stNi tabs hf hm o x p else if anyB (fun j => decide ((stNi tabs hf hm o x p).2 j = fBo tabs hf hm o p)) (stNi tabs hf hm o x p).1 then stNi tabs hf hm o x p else ((stNi tabs hf hm o x p).1 + 1, upd (stNi tabs hf hm o x p).2 (stNi tabs hf hm o x p).1 (fBo tabs hf hm o p))) from rfl, ih]
    generalize hX : gI (fBo tabs hf hm o) (fun q => !decide (fLo tabs hf hm o q = fUp tabs hf hm o q)) p x = X
    rw [show gI (fBo tabs hf hm o) (fun q => !decide (fLo tabs hf hm o q = fUp tabs hf hm o q)) (p + 1) x = (if ((!decide (fLo tabs hf hm o p = fUp tabs hf hm o p)) && !anyB (fun j => decide ((gI (fBo tabs hf hm o) (fun q => !decide (fLo tabs hf hm o q = fUp tabs hf hm o q)) p x).2 j = fBo tabs hf hm o p)) (gI (fBo tabs hf hm o) (fun q => !decide (fLo tabs hf hm o q = fUp tabs hf hm o q)) p x).1) = true then ((gI (fBo tabs hf hm o) (fun q => !decide (fLo tabs hf hm o q = fUp tabs hf hm o q)) p x).1 + 1, upd (gI (fBo tabs hf hm o) (fun q => !decide (fLo tabs hf hm o q = fUp tabs hf hm o q)) p x).2 (gI (fBo tabs hf hm o) (fun q => !decide (fLo tabs hf hm o q = fUp tabs hf hm o q)) p x).1 (fBo tabs hf hm o p)) else gI (fBo tabs hf hm o) (fun q => !decide (fLo tabs hf hm o q = fUp tabs hf hm o q)) p x) from rfl, hX]
    by_cases h1 : fLo tabs hf hm o p = fUp tabs hf hm o p
    · rw [if_pos h1, decide_eq_true h1, if_neg (by rw [Bool.not_true, Bool.false_and]; exact Bool.false_ne_true)]
    · rw [if_neg h1, decide_eq_false h1]
      by_cases h2 : anyB (fun j => decide (X.2 j = fBo tabs hf hm o p)) X.1 = true
      · rw [if_pos h2, h2, if_neg (by decide)]
      · rw [if_neg h2, Bool.eq_false_iff.mpr h2, if_pos (by decide)]
theorem rFr_g {fd : Nat → Int32} {f : Int32} {b0 : Bool} (k : Nat) : rFr fd f b0 k = (b0 && !anyB (fun j => decide (fd j = f)) k) := by
  induction k with
  | zero => show b0 = (b0 && !false); cases b0 <;> rfl
  | succ k ih =>
    show (rFr fd f b0 k && !decide (fd k = f)) = (b0 && !(anyB (fun j => decide (fd j = f)) k || decide (fd k = f)))
    rw [ih]
    cases b0 <;> cases anyB (fun j => decide (fd j = f)) k <;> cases decide (fd k = f) <;> rfl
theorem rNv_g {N od lev : Nat} {fn ip : Int32} {x : Nat × (Nat → Int32)} (v : Nat) : rNv N od lev fn ip x v = gI (fun v => rPart N od fn lev (nI v) (2 ^ N)) (fun v => !decide (rAsk (rPart N od fn lev (nI v) (2 ^ N)) ip (2 ^ N) = 0)) v x := by
  induction v with
  | zero => rfl
  | succ v ih =>
    rw [show rNv N od lev fn ip x (v + 1) = (if rFr (rNv N od lev fn ip x v).2 (rPart N od fn lev (nI v) (2 ^ N)) (!decide (rAsk (rPart N od fn lev (nI v) (2 ^ N)) ip (2 ^ N) = 0)) (rNv N od lev fn ip x v).1 = true then ((rNv N od lev fn ip x v).1 + 1, upd (rNv N od lev fn ip x v).2 (rNv N od lev fn ip x v).1 (rPart N od fn lev (nI v) (2 ^ N))) else rNv N od lev fn ip x v) from rfl, ih, rFr_g]
    rfl
theorem lev_eq {tabs on seen fd : Nat → Int32} {N OU od lev : Nat} (hN : N ≤ 4) (ho : od < rOrd N) (hl : lev < N) (ht : ∀ o, o < OU → ∀ e, e < 32 → bt (tabs o) e = (decide (e < 2 ^ N) && bt (on o) (aN N od e))) : (stNo tabs (fHf N lev) (fHm N lev) (2 ^ lev) seen OU).1 = (rNo N od lev on fd OU).1 := by
  have h16 := pw16 hN
  have h3 := dg_3 hN ho hl
  have h4 := dg_4 hN hl
  have e1 : ∀ n, stNo tabs (fHf N lev) (fHm N lev) (2 ^ lev) seen n = gO (fun o => fBo tabs (fHf N lev) (fHm N lev) o) (fun o q => !decide (fLo tabs (fHf N lev) (fHm N lev) o q = fUp tabs (fHf N lev) (fHm N lev) o q)) (2 ^ lev) n (0, seen) := by
    intro n
    induction n with
    | zero => rfl
    | succ n ih =>
      show stNi tabs (fHf N lev) (fHm N lev) n (stNo tabs (fHf N lev) (fHm N lev) (2 ^ lev) seen n) (2 ^ lev) = gI (fBo tabs (fHf N lev) (fHm N lev) n) (fun q => !decide (fLo tabs (fHf N lev) (fHm N lev) n q = fUp tabs (fHf N lev) (fHm N lev) n q)) (2 ^ lev) (gO (fun o => fBo tabs (fHf N lev) (fHm N lev) o) (fun o q => !decide (fLo tabs (fHf N lev) (fHm N lev) o q = fUp tabs (fHf N lev) (fHm N lev) o q)) (2 ^ lev) n (0, seen))
      rw [ih]; exact stNi_g _
  have e2 : ∀ n, rNo N od lev on fd n = gO (fun o v => rPart N od (on o) lev (nI v) (2 ^ N)) (fun o v => !decide (rAsk (rPart N od (on o) lev (nI v) (2 ^ N)) (aq N od lev) (2 ^ N) = 0)) (2 ^ lev) n (0, fd) := by
    intro n
    induction n with
    | zero => rfl
    | succ n ih =>
      show rNv N od lev (on n) (aq N od lev) (rNo N od lev on fd n) (2 ^ lev) = gI (fun v => rPart N od (on n) lev (nI v) (2 ^ N)) (fun v => !decide (rAsk (rPart N od (on n) lev (nI v) (2 ^ N)) (aq N od lev) (2 ^ N) = 0)) (2 ^ lev) (gO (fun o v => rPart N od (on o) lev (nI v) (2 ^ N)) (fun o v => !decide (rAsk (rPart N od (on o) lev (nI v) (2 ^ N)) (aq N od lev) (2 ^ N) = 0)) (2 ^ lev) n (0, fd))
      rw [ih]; exact rNv_g _
  rw [e1, e2]
  refine gO_eq (fun x => phi N od lev x (2 ^ N)) (rvN lev) (fun o h v hv => ?_) (fun p hp => ⟨rvN lev p, (dg_2 hN ho hl hp).1, (dg_2 hN ho hl hp).2.1⟩) (fun o h p hp o2 h2 p2 hp2 e => ?_)
  · have hr := (dg_2 hN ho hl hv).1
    refine ⟨hr, b_ext (fun e he => ?_), ?_⟩
    · rw [phi_b he _ h16]
      by_cases h1 : e < 2 ^ N
      · rw [rPart_i hN ho hl hv h1, decide_eq_true h1, Bool.true_and, fBo_b hN hl hr (ht o h) (by have := ix_lt (N := N) (od := od) (lev := lev) (a := e); omega), decide_eq_true ix_lt, Bool.true_and]
      · rw [rPart_b hN ho hl hv he _ (Nat.le_refl _), decide_eq_false h1, Bool.false_and, Bool.false_and]
    · have := (ask_r (fn := on o) hN ho hl hv).trans (ask_c hN hl hr (ht o h)).symm
      exact congrArg (fun b => !b) (decide_eq_decide.mpr this)
  · refine b_ext (fun j hj => ?_)
    rw [fBo_b hN hl hp (ht o h) hj, fBo_b hN hl hp2 (ht o2 h2) hj]
    by_cases h1 : j < 2 * hfN N lev
    · obtain ⟨a, ha, rfl⟩ := h3.2 j h1
      have h5 : bt (phi N od lev (fBo tabs (fHf N lev) (fHm N lev) o p) (2 ^ N)) a = bt (phi N od lev (fBo tabs (fHf N lev) (fHm N lev) o2 p2) (2 ^ N)) a := by
        exact congrArg (fun x => bt x a) e
      rw [phi_b (by omega) _ h16, phi_b (by omega) _ h16, decide_eq_true ha, Bool.true_and, Bool.true_and, fBo_b hN hl hp (ht o h) hj, fBo_b hN hl hp2 (ht o2 h2) hj] at h5
      exact h5
    · rw [decide_eq_false h1, Bool.false_and, Bool.false_and]
theorem nl_eq {tabs on : Nat → Int32} {N OU od : Nat} (hN : N ≤ 4) (ho : od < rOrd N) (ht : ∀ o, o < OU → ∀ e, e < 32 → bt (tabs o) e = (decide (e < 2 ^ N) && bt (on o) (aN N od e))) (y z : Nat × (Nat → Int32)) (hyz : y.1 = z.1) (lev : Nat) (hl : lev ≤ N) : (dLev N OU tabs lev y).1 = (rNl N OU od on lev z).1 := by
  induction lev with
  | zero => exact hyz
  | succ lev ih =>
    show (dLev N OU tabs lev y).1 + (stNo tabs (fHf N lev) (fHm N lev) (2 ^ lev) (dLev N OU tabs lev y).2 OU).1 = (rNl N OU od on lev z).1 + (rNo N od lev on (rNl N OU od on lev z).2 OU).1
    rw [ih (by omega), lev_eq (fd := (rNl N OU od on lev z).2) hN ho (by omega) ht]
set_option maxRecDepth 100000 in
theorem dTab_o {N o : Nat} {on asked tabs : Nat → Int32} (m : Nat) (h : o < m) : dTab N on asked tabs m o = fReo asked N (on o) (2 ^ N) := by
  induction m with
  | zero => exact absurd h (Nat.not_lt_zero o)
  | succ m ih =>
    show upd (dTab N on asked tabs m) m (fReo asked N (on m) (2 ^ N)) o = _
    by_cases hE : o = m
    · subst hE; rw [pk_us]
    · rw [pk_un hE]; exact ih (by omega)
/-- the nodes of an order are the same on both sides -/
theorem nod_eq {on ron fd : Nat → Int32} {N OU od : Nat} {z : (Nat → Int32) × (Nat → Int32) × (Nat → Int32)} (hN : N ≤ 4) (ho : od < rOrd N) (hon : ∀ o, o < OU → on o = ron o) : (dNd N OU on (nI od) z).1 = (rNl N OU od ron N (0, fd)).1 := by
  show (dLev N OU (dTab N on (stA N (nI od) N z.1).2.2 z.2.1 OU) N (0, z.2.2)).1 = _
  refine nl_eq hN ho (fun o h e he => ?_) (0, z.2.2) (0, fd) rfl N (Nat.le_refl N)
  rw [dTab_o OU h, fReo_b hN ho (stA_sA N od z.1 N).2.2 he _ (Nat.le_refl _), hon o h]
