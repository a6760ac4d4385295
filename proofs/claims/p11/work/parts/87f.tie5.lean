/-! ===== the primes, both sides ===== -/
theorem b_sl1 {o e : Nat} (ho : o < 32) (he : e < 32) : bt ((1 : Int32) <<< (nI o &&& 31)) e = decide (e = o) := by
  rw [b_shl o ho 1 he, b_1]
  by_cases h : e = o
  · subst h; simp
  · by_cases h2 : o ≤ e
    · rw [decide_eq_true h2, decide_eq_false h, decide_eq_false (by omega)]; rfl
    · rw [decide_eq_false h2, decide_eq_false h]; rfl
theorem sub_tr {x y z : Int32} (h1 : x &&& (y ^^^ (-1)) = 0) (h2 : y &&& (z ^^^ (-1)) = 0) : x &&& (z ^^^ (-1)) = 0 := (nb0 x z).mpr (fun e he h => (nb0 y z).mp h2 e he ((nb0 x y).mp h1 e he h))
theorem oP_anti {N OU p q : Nat} {can : Nat → Int32} (hOU : OU ≤ 2) (h : rPts N p (2 ^ N) &&& (rPts N q (2 ^ N) ^^^ (-1)) = 0) : oP N OU can q &&& (oP N OU can p ^^^ (-1)) = 0 := by
  refine (nb0 _ _).mpr (fun e he hb => ?_)
  unfold oP at hb ⊢
  have h2 := (rOut_b OU hOU).mp hb
  exact (rOut_b OU hOU).mpr ⟨h2.1, sub_tr h h2.2⟩
theorem rOut_4 (f : Nat → Int32) (has : Int32) {m : Nat} (hm : m ≤ 2) : ∃ k, k < 4 ∧ rOut f has m = nI k := by
  rcases (show m = 0 ∨ m = 1 ∨ m = 2 by omega) with rfl | rfl | rfl
  · exact ⟨0, by omega, rfl⟩
  · show ∃ k, k < 4 ∧ (if has &&& (f 0 ^^^ (-1)) = 0 then (0 : Int32) ||| ((1 : Int32) <<< (nI 0 &&& 31)) else 0) = nI k
    split
    · exact ⟨1, by omega, by decide +kernel⟩
    · exact ⟨0, by omega, rfl⟩
  · show ∃ k, k < 4 ∧ (if has &&& (f 1 ^^^ (-1)) = 0 then (if has &&& (f 0 ^^^ (-1)) = 0 then (0 : Int32) ||| ((1 : Int32) <<< (nI 0 &&& 31)) else 0) ||| ((1 : Int32) <<< (nI 1 &&& 31)) else (if has &&& (f 0 ^^^ (-1)) = 0 then (0 : Int32) ||| ((1 : Int32) <<< (nI 0 &&& 31)) else 0)) = nI k
    split
    · split
      · exact ⟨3, by omega, by decide +kernel⟩
      · exact ⟨2, by omega, by decide +kernel⟩
    · split
      · exact ⟨1, by omega, by decide +kernel⟩
      · exact ⟨0, by omega, rfl⟩
theorem oP_4 {N OU p : Nat} {can : Nat → Int32} (hOU : OU ≤ 2) : ∃ k, k < 4 ∧ oP N OU can p = nI k := rOut_4 _ _ hOU
theorem oP_0 {N OU p : Nat} {can : Nat → Int32} (hOU : OU ≤ 2) : oP N OU can p ≤ 0 ↔ oP N OU can p = 0 := by
  obtain ⟨k, hk, e⟩ := oP_4 (N := N) (p := p) (can := can) hOU
  rw [e]
  rcases (show k = 0 ∨ k = 1 ∨ k = 2 ∨ k = 3 by omega) with rfl | rfl | rfl | rfl <;> decide
def widB (N p q : Nat) : Bool := decide (p = q) || (!decide (rPts N p (2 ^ N) &&& (rPts N q (2 ^ N) ^^^ (-1)) = 0) || (List.range N).any (fun i => !decide (rDig N p i = 2) && decide (rPts N (setD N p i 2) (2 ^ N) &&& (rPts N q (2 ^ N) ^^^ (-1)) = 0)))
def widA (N : Nat) : Bool := (List.range (3 ^ N)).all (fun p => (List.range (3 ^ N)).all (fun q => widB N p q))
def freB (N p i : Nat) : Bool := decide (rDig N p i = 2) || (!decide (setD N p i 2 = p) && (decide (setD N p i 2 < 3 ^ N) && decide (rPts N p (2 ^ N) &&& (rPts N (setD N p i 2) (2 ^ N) ^^^ (-1)) = 0)))
def freA (N : Nat) : Bool := (List.range (3 ^ N)).all (fun p => (List.range N).all (fun i => freB N p i))
set_option maxRecDepth 100000 in
theorem wid_c : ((List.range 5).all widA) = true := by decide +kernel
set_option maxRecDepth 100000 in
theorem fre_c : ((List.range 5).all freA) = true := by decide +kernel
theorem wid_p {N p q : Nat} (hN : N ≤ 4) (hp : p < 3 ^ N) (hq : q < 3 ^ N) (hne : p ≠ q) (hs : rPts N p (2 ^ N) &&& (rPts N q (2 ^ N) ^^^ (-1)) = 0) : ∃ i, i < N ∧ rDig N p i ≠ 2 ∧ rPts N (setD N p i 2) (2 ^ N) &&& (rPts N q (2 ^ N) ^^^ (-1)) = 0 := by
  have h := List.all_eq_true.mp (List.all_eq_true.mp (List.all_eq_true.mp wid_c N (List.mem_range.mpr (by omega))) p (List.mem_range.mpr hp)) q (List.mem_range.mpr hq)
  unfold widB at h
  rw [decide_eq_false hne, decide_eq_true hs] at h
  obtain ⟨i, hi, h2⟩ := List.any_eq_true.mp (show (List.range N).any (fun i => !decide (rDig N p i = 2) && decide (rPts N (setD N p i 2) (2 ^ N) &&& (rPts N q (2 ^ N) ^^^ (-1)) = 0)) = true from h)
  rw [Bool.and_eq_true] at h2
  exact ⟨i, List.mem_range.mp hi, fun g => by rw [decide_eq_true g] at h2; exact absurd h2.1 (by decide), of_decide_eq_true h2.2⟩
theorem fre_p {N p i : Nat} (hN : N ≤ 4) (hp : p < 3 ^ N) (hi : i < N) (hd : rDig N p i ≠ 2) : setD N p i 2 ≠ p ∧ setD N p i 2 < 3 ^ N ∧ rPts N p (2 ^ N) &&& (rPts N (setD N p i 2) (2 ^ N) ^^^ (-1)) = 0 := by
  have h := List.all_eq_true.mp (List.all_eq_true.mp (List.all_eq_true.mp fre_c N (List.mem_range.mpr (by omega))) p (List.mem_range.mpr hp)) i (List.mem_range.mpr hi)
  unfold freB at h
  rw [decide_eq_false hd, Bool.false_or, Bool.and_eq_true, Bool.and_eq_true] at h
  exact ⟨fun g => by rw [decide_eq_true g] at h; exact absurd h.1 (by decide), of_decide_eq_true h.2.1, of_decide_eq_true h.2.2⟩
theorem prB_iff {N OU p : Nat} {can : Nat → Int32} (i : Nat) : prB N OU can p i = true ↔ ¬ oP N OU can p ≤ 0 ∧ ∀ q, q < i → prT N OU can p q = true := by
  induction i with
  | zero =>
    show (!decide (oP N OU can p ≤ 0)) = true ↔ _
    rw [Bool.not_eq_true', decide_eq_false_iff_not]
    exact ⟨fun h => ⟨h, fun q hq => absurd hq (Nat.not_lt_zero q)⟩, fun h => h.1⟩
  | succ i ih =>
    rw [prB_s, Bool.and_eq_true, ih]
    constructor
    · rintro ⟨⟨h1, h2⟩, h3⟩
      refine ⟨h1, fun q hq => ?_⟩
      by_cases hE : q = i
      · subst hE; exact h3
      · exact h2 q (by omega)
    · rintro ⟨h1, h2⟩
      exact ⟨⟨h1, fun q hq => h2 q (by omega)⟩, h2 i (by omega)⟩
theorem prT_iff {N OU p q : Nat} {can : Nat → Int32} : prT N OU can p q = false ↔ q ≠ p ∧ rPts N p (2 ^ N) &&& (rPts N q (2 ^ N) ^^^ (-1)) = 0 ∧ oP N OU can p &&& (oP N OU can q ^^^ (-1)) = 0 := by
  constructor
  · intro h
    refine ⟨fun g => ?_, ?_, ?_⟩
    · rw [prT_1 g] at h; cases h
    · apply Classical.byContradiction
      intro g
      rw [prT_2 g] at h; cases h
    · apply Classical.byContradiction
      intro g
      rw [prT_3 g] at h; cases h
  · rintro ⟨h1, h2, h3⟩
    exact prT_4 h1 h2 h3
theorem anyB_iff {c : Nat → Bool} (n : Nat) : anyB c n = true ↔ ∃ i, i < n ∧ c i = true := by
  induction n with
  | zero => exact ⟨fun h => (Bool.false_ne_true h).elim, fun ⟨i, hi, _⟩ => absurd hi (Nat.not_lt_zero i)⟩
  | succ n ih =>
    show (anyB c n || c n) = true ↔ _
    rw [Bool.or_eq_true, ih]
    constructor
    · rintro (⟨i, hi, h⟩ | h)
      · exact ⟨i, by omega, h⟩
      · exact ⟨n, by omega, h⟩
    · rintro ⟨i, hi, h⟩
      by_cases hE : i = n
      · subst hE; exact Or.inr h
      · exact Or.inl ⟨i, by omega, h⟩
/-- a product's prime test is the same on both sides -/
theorem pr_tie {outs care bits can : Nat → Int32} {N OU Z p : Nat} (htb : ∀ q, q < Z → care q = (cB N q N).1 ∧ bits q = (cB N q N).2) (ho : ∀ q, q < Z → outs q = oP N OU can q) (hN : N ≤ 4) (hZ : 3 ^ N = Z) (hOU : OU ≤ 2) (hp : p < Z) : (¬ outs p = 0 ∧ ¬ anyB (fWide outs care bits N p) N = true) ↔ prB N OU can p Z = true := by
  have hw : ∀ i, i < N → (fWide outs care bits N p i = true ↔ rDig N p i ≠ 2 ∧ oP N OU can p &&& (oP N OU can (setD N p i 2) ^^^ (-1)) = 0) := by
    intro i hi
    unfold fWide
    rw [(htb p hp).1, (htb p hp).2, dig_c N (by omega) p (by omega) i hi, show (2 : Int32) = nI 2 from rfl, with_c N (by omega) p (by omega) i hi 2 (by omega), ho p hp, Bool.and_eq_true, Bool.not_eq_true', decide_eq_false_iff_not, decide_eq_true_eq]
    have hr : rDig N p i < 3 := Nat.mod_lt _ (by omega)
    have h8 := p3_81 hN
    have hlt : setD N p i 2 < 3 ^ N := by
      by_cases hd : rDig N p i = 2
      · unfold setD; rw [hd]
        have h1 : 2 * 3 ^ (N - 1 - i) ≤ p := by
          have h2 : p / 3 ^ (N - 1 - i) % 3 = 2 := hd
          have h3 : 2 ≤ p / 3 ^ (N - 1 - i) := by rw [← h2]; exact Nat.mod_le _ _
          exact (Nat.le_div_iff_mul_le (Nat.pow_pos (by omega))).mp h3
        omega
      · exact (fre_p hN (by omega) hi hd).2.1
    rw [nI_clamp (by omega), ho _ (by omega), nI_eq (by omega) (by omega)]
  rw [prB_iff, oP_0 hOU, ho p hp, anyB_iff]
  constructor
  · rintro ⟨h1, h2⟩
    refine ⟨h1, fun q hq => ?_⟩
    apply Classical.byContradiction
    intro g
    obtain ⟨g1, g2, g3⟩ := prT_iff.mp (Bool.eq_false_iff.mpr g)
    obtain ⟨i, hi, hd, hs⟩ := wid_p hN (show p < 3 ^ N by omega) (show q < 3 ^ N by omega) (Ne.symm g1) g2
    exact h2 ⟨i, hi, (hw i hi).mpr ⟨hd, sub_tr g3 (oP_anti hOU hs)⟩⟩
  · rintro ⟨h1, h2⟩
    refine ⟨h1, ?_⟩
    rintro ⟨i, hi, hf⟩
    obtain ⟨hd, hs⟩ := (hw i hi).mp hf
    obtain ⟨f1, f2, f3⟩ := fre_p hN (show p < 3 ^ N by omega) hi hd
    have h3 := h2 (setD N p i 2) (by omega)
    rw [prT_iff.mpr ⟨f1, f3, hs⟩] at h3
    cases h3
/-- the primes: how many, their products, their outputs -/
def pS (N OU Z : Nat) (can : Nat → Int32) (p : Nat) : Nat × (Nat → Int32) × (Nat → Int32) := itr (fun p x => if prB N OU can p Z = true then (x.1 + 1, upd x.2.1 x.1 (nI p), upd x.2.2 x.1 (oP N OU can p)) else x) p (0, fun _ => 0, fun _ => 0)
theorem pS_s (N OU Z : Nat) (can : Nat → Int32) (p : Nat) : pS N OU Z can (p + 1) = if prB N OU can p Z = true then ((pS N OU Z can p).1 + 1, upd (pS N OU Z can p).2.1 (pS N OU Z can p).1 (nI p), upd (pS N OU Z can p).2.2 (pS N OU Z can p).1 (oP N OU can p)) else pS N OU Z can p := rfl
def isPr (N OU Z : Nat) (can : Nat → Int32) (K : Nat) (tp to : Nat → Int32) : Prop := K = (pS N OU Z can Z).1 ∧ ∀ k, k < K → tp k = (pS N OU Z can Z).2.1 k ∧ to k = (pS N OU Z can Z).2.2 k
theorem ups {f g : Nat → Int32} {n : Nat} {v : Int32} (h : ∀ k, k < n → f k = g k) : ∀ k, k < n + 1 → upd f n v k = upd g n v k := by
  intro k hk
  by_cases hE : k = n
  · subst hE; rw [pk_us, pk_us]
  · rw [pk_un hE, pk_un hE]; exact h k (by omega)
theorem stP_pS {outs care bits can tp to : Nat → Int32} {N OU Z : Nat} (htb : ∀ q, q < Z → care q = (cB N q N).1 ∧ bits q = (cB N q N).2) (ho : ∀ q, q < Z → outs q = oP N OU can q) (hN : N ≤ 4) (hZ : 3 ^ N = Z) (hOU : OU ≤ 2) (p : Nat) (hp : p ≤ Z) : (stP outs care bits N tp to p).1 = (pS N OU Z can p).1 ∧ ∀ k, k < (pS N OU Z can p).1 → (stP outs care bits N tp to p).2.1 k = (pS N OU Z can p).2.1 k ∧ (stP outs care bits N tp to p).2.2 k = (pS N OU Z can p).2.2 k := by
  induction p with
  | zero => exact ⟨rfl, fun k hk => absurd hk (Nat.not_lt_zero k)⟩
  | succ p ih =>
    obtain ⟨h1, h2⟩ := ih (by omega)
    have ht := pr_tie htb ho hN hZ hOU (show p < Z by omega)
    rw [pS_s, show stP outs care bits N tp to (p + 1) = (if outs p = 0 then stP outs care bits N tp to p else if anyB (fWide outs care bits N p) N then stP outs care bits N tp to p else ((stP outs care bits N tp to p).1 + 1, upd (stP outs care bits N tp to p).2.1 (stP outs care bits N tp to p).1 (nI p), upd (stP outs care bits N tp to p).2.2 (stP outs care bits N tp to p).1 (outs p))) from rfl]
    by_cases hb : prB N OU can p Z = true
    · obtain ⟨g1, g2⟩ := ht.mpr hb
      rw [if_pos hb, if_neg g1, if_neg g2, h1, ho p (by omega)]
      exact ⟨rfl, fun k hk => ⟨ups (fun k hk => (h2 k hk).1) k hk, ups (fun k hk => (h2 k hk).2) k hk⟩⟩
    · rw [if_neg hb]
      have e : (if outs p = 0 then stP outs care bits N tp to p else if anyB (fWide outs care bits N p) N then stP outs care bits N tp to p else ((stP outs care bits N tp to p).1 + 1, upd (stP outs care bits N tp to p).2.1 (stP outs care bits N tp to p).1 (nI p), upd (stP outs care bits N tp to p).2.2 (stP outs care bits N tp to p).1 (outs p))) = stP outs care bits N tp to p := by
        by_cases g1 : outs p = 0
        · rw [if_pos g1]
        · rw [if_neg g1, if_pos (Classical.byContradiction (fun g2 => hb (ht.mp ⟨g1, g2⟩)))]
      rw [e]; exact ⟨h1, h2⟩
theorem stF_pS {on can : Nat → Int32} {N OU Z : Nat} {pp po pc pt : Nat → Int32} (p : Nat) : (stF N OU Z on can (0, pp, po, pc, pt) p).1 = (pS N OU Z can p).1 ∧ ∀ k, k < (pS N OU Z can p).1 → (stF N OU Z on can (0, pp, po, pc, pt) p).2.1 k = (pS N OU Z can p).2.1 k ∧ (stF N OU Z on can (0, pp, po, pc, pt) p).2.2.1 k = (pS N OU Z can p).2.2 k := by
  induction p with
  | zero => exact ⟨rfl, fun k hk => absurd hk (Nat.not_lt_zero k)⟩
  | succ p ih =>
    obtain ⟨h1, h2⟩ := ih
    rw [pS_s, show stF N OU Z on can (0, pp, po, pc, pt) (p + 1) = (if prB N OU can p Z = true then ((stF N OU Z on can (0, pp, po, pc, pt) p).1 + 1, upd (stF N OU Z on can (0, pp, po, pc, pt) p).2.1 (stF N OU Z on can (0, pp, po, pc, pt) p).1 (nI p), upd (stF N OU Z on can (0, pp, po, pc, pt) p).2.2.1 (stF N OU Z on can (0, pp, po, pc, pt) p).1 (oP N OU can p), upd (stF N OU Z on can (0, pp, po, pc, pt) p).2.2.2.1 (stF N OU Z on can (0, pp, po, pc, pt) p).1 (rCost N p (oP N OU can p) N), upd (stF N OU Z on can (0, pp, po, pc, pt) p).2.2.2.2 (stF N OU Z on can (0, pp, po, pc, pt) p).1 (tP N OU on can p)) else stF N OU Z on can (0, pp, po, pc, pt) p) from rfl]
    by_cases hb : prB N OU can p Z = true
    · rw [if_pos hb, if_pos hb, h1]
      exact ⟨rfl, fun k hk => ⟨ups (fun k hk => (h2 k hk).1) k hk, ups (fun k hk => (h2 k hk).2) k hk⟩⟩
    · rw [if_neg hb, if_neg hb]; exact ⟨h1, h2⟩
theorem oP_cong {N OU : Nat} {f g : Nat → Int32} (h : ∀ o, o < OU → f o = g o) (p : Nat) : oP N OU f p = oP N OU g p := rOut_cong OU h
theorem prB_cong {N OU : Nat} {f g : Nat → Int32} (h : ∀ o, o < OU → f o = g o) (p i : Nat) : prB N OU f p i = prB N OU g p i := by
  induction i with
  | zero => show (!decide (oP N OU f p ≤ 0)) = (!decide (oP N OU g p ≤ 0)); rw [oP_cong h]
  | succ i ih => rw [prB_s, prB_s, ih]; unfold prT; rw [oP_cong h, oP_cong h]
theorem pS_cong {N OU Z : Nat} {f g : Nat → Int32} (h : ∀ o, o < OU → f o = g o) (p : Nat) : pS N OU Z f p = pS N OU Z g p := by
  induction p with
  | zero => exact Eq.trans (b := ((0 : Nat), (fun _ : Nat => (0 : Int32)), (fun _ : Nat => (0 : Int32)))) rfl rfl
  | succ p ih =>
    refine (pS_s N OU Z f p).trans (Eq.trans ?_ (pS_s N OU Z g p).symm)
    rw [ih, prB_cong h, oP_cong h]
theorem isPr_cong {N OU Z K : Nat} {f g tp to : Nat → Int32} (h : ∀ o, o < OU → f o = g o) (hp : isPr N OU Z f K tp to) : isPr N OU Z g K tp to := by
  unfold isPr at hp ⊢
  rw [← pS_cong h]; exact hp
theorem isPr_find {prod kind had care bits can outs tp to : Nat → Int32} {M N OU Z : Nat} (hth : ∀ q, q < Z → had q = rPts N q (2 ^ N)) (htb : ∀ q, q < Z → care q = (cB N q N).1 ∧ bits q = (cB N q N).2) (hcn : ∀ o, o < OU → fNot prod kind had M o = can o) (hN : N ≤ 4) (hZ : 3 ^ N = Z) (hOU : OU ≤ 2) : isPr N OU Z can (stP (fOuts prod kind had M Z outs OU) care bits N tp to Z).1 (stP (fOuts prod kind had M Z outs OU) care bits N tp to Z).2.1 (stP (fOuts prod kind had M Z outs OU) care bits N tp to Z).2.2 := by
  have ho : ∀ q, q < Z → fOuts prod kind had M Z outs OU q = oP N OU can q := by
    intro q hq
    rw [fOuts_q hq, hth q hq]
    exact rOut_cong OU hcn
  have h := stP_pS (tp := tp) (to := to) htb ho hN hZ hOU Z (Nat.le_refl Z)
  refine ⟨h.1, fun k hk => h.2 k (by rw [← h.1]; exact hk)⟩
