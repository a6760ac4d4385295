/-! ===== the reference's search: what holds at its head ===== -/
def csF (pc cv : Nat → Int32) (d : Nat) : Int32 := itr (fun j acc => acc + pc (cv j).toNatClampNeg) d 0
def tNY (tq : Nat → Nat) (m : Nat) (a : Nat → Nat) (v dd : Nat) : Prop := 0 < dd ∧ ∃ j, j + 1 ≤ dd ∧ (∀ i, i < j → a i = tq i) ∧ ((j + 1 < dd ∧ j < m ∧ a j < tq j) ∨ (j + 1 = dd ∧ (j = m ∨ (j < m ∧ v ≤ tq j))))
def tJ (n : Nat) (c : Nat → Nat) (S : Int64) (mny : Nat) (fl : Bool) (bc : Int32) (be cv : Nat → Int32) (dd : Nat) : Prop :=
  dd ≤ mny + 1 ∧ ∃ a v, incr a (dd - 1) n ∧ (∀ j, j + 1 < dd → cv j = nI (a j)) ∧ (0 < dd → v ≤ n ∧ cv (dd - 1) = nI v - 1 ∧ ∀ j, j + 1 < dd → a j < v) ∧ (mny < (enS S n).1 → fl = false) ∧
   (mny = (enS S n).1 → (tNY (enS S n).2 (enS S n).1 a v dd ∧ (fl = true → ∃ b, b ≤ 288 ∧ bc = nI b ∧ csN c S n < b)) ∨ (fl = true ∧ (∀ t, t < mny → be t = nI ((enS S n).2 t)) ∧ bc = nI (csN c S n)))
section TJ
variable {n : Nat} {c : Nat → Nat} {pt pc : Nat → Int32} {W : Int32} {S : Int64} {mny d : Nat} {fl : Bool} {bc : Int32} {be cv rs : Nat → Int32}
theorem hdF_a {a : Nat → Nat} (hn : n ≤ 48) (d : Nat) (ha : incr a d n) (h : ∀ j, j < d → cv j = nI (a j)) (e : Nat) : bt (hdF pt cv d) e = true ↔ ∃ j, j < d ∧ bt (pt (a j)) e = true := by
  induction d with
  | zero => exact ⟨fun h => (by rw [show hdF pt cv 0 = 0 from rfl, b_0] at h; cases h), fun ⟨j, hj, _⟩ => absurd hj (Nat.not_lt_zero j)⟩
  | succ d ih =>
    have hd := ha.1 d (Nat.lt_succ_self d)
    rw [show hdF pt cv (d + 1) = hdF pt cv d ||| pt (cv d).toNatClampNeg from rfl, b_or, Bool.or_eq_true, ih (incr_d ha (Nat.le_succ d)) (fun j hj => h j (by omega)), h d (by omega), nI_clamp (by omega)]
    constructor
    · rintro (⟨j, hj, hb⟩ | hb)
      · exact ⟨j, by omega, hb⟩
      · exact ⟨d, by omega, hb⟩
    · rintro ⟨j, hj, hb⟩
      by_cases hE : j = d
      · subst hE; exact Or.inr hb
      · exact Or.inl ⟨j, by omega, hb⟩
theorem csF_a {a : Nat → Nat} (hn : n ≤ 48) (hpc : ∀ k, k < n → pc k = nI (c k)) (d : Nat) (ha : incr a d n) (h : ∀ j, j < d → cv j = nI (a j)) : csF pc cv d = nI (sumQ c a d) := by
  induction d with
  | zero => rfl
  | succ d ih =>
    have hd := ha.1 d (Nat.lt_succ_self d)
    show csF pc cv d + pc (cv d).toNatClampNeg = nI (sumQ c a d + c (a d))
    rw [ih (incr_d ha (Nat.le_succ d)) (fun j hj => h j (by omega)), h d (by omega), nI_clamp (by omega), hpc _ hd, nI_add]
theorem cov_a {a : Nat → Nat} (hn : n ≤ 48) (ha : incr a d n) (h : ∀ j, j < d → cv j = nI (a j)) : W &&& (hdF pt cv d ^^^ (-1)) = 0 ↔ covS pt W n (mk a d) := by
  rw [nb0]
  constructor
  · intro g e he hW
    obtain ⟨j, hj, hb⟩ := (hdF_a hn d ha h e).mp (g e he hW)
    exact ⟨a j, ha.1 j hj, (mk_b hn (by have := ha.1 j hj; omega) d ha).mpr ⟨j, hj, rfl⟩, hb⟩
  · intro g e he hW
    obtain ⟨k, hk, hb, hp⟩ := g e he hW
    obtain ⟨j, hj, rfl⟩ := (mk_b hn (by omega) d ha).mp hb
    exact (hdF_a hn d ha h e).mpr ⟨j, hj, hp⟩
theorem mk_sz {a : Nat → Nat} (hn : n ≤ 48) (ha : incr a d n) : szN (mk a d) n = d := (mk_sum hn d ha).trans (sumQ_1 a d)
theorem mk_eq {a tq : Nat → Nat} (d : Nat) (h : ∀ i, i < d → a i = tq i) : mk a d = mk tq d := by
  induction d with
  | zero => exact Eq.trans (b := (0 : Int64)) rfl rfl
  | succ d ih => rw [mk_s, mk_s, ih (fun i hi => h i (by omega)), h d (by omega)]
theorem mk_en (hn : n ≤ 48) (hS : inS S n) : mk (enS S n).2 (enS S n).1 = S := by
  obtain ⟨h1, h2, h3⟩ := enS_ok S n
  refine inS_ext (mk_in hn h1) hS (fun k hk => ?_)
  apply bool_ext
  rw [mk_b hn (by omega) _ h1, h3 k hk]
theorem cs_en (hn : n ≤ 48) (hS : inS S n) : sumQ c (enS S n).2 (enS S n).1 = csN c S n := by
  have h := mk_sum (f := c) hn _ (enS_ok S n).1
  rw [mk_en hn hS] at h
  exact h.symm
/-- the row that stands lower at its first difference has the larger share -/
theorem mk_lex {a : Nat → Nat} {j : Nat} (hn : n ≤ 48) (ha : incr a d n) (hj : j < d) (hm : j < (enS S n).1) (h : ∀ i, i < j → a i = (enS S n).2 i) (hlt : a j < (enS S n).2 j) : vlN S n < vlN (mk a d) n := by
  obtain ⟨h1, h2, h3⟩ := enS_ok S n
  have haj := ha.1 j hj
  refine vl_lex (j := a j) haj hn (fun k hk => ?_) ?_ ((mk_b hn (by omega) d ha).mpr ⟨j, hj, rfl⟩)
  · apply bool_ext
    rw [h3 k (by omega), mk_b hn (by omega) d ha]
    constructor
    · rintro ⟨i, hi, e⟩
      have hij : i < j := by
        apply Classical.byContradiction
        intro g
        by_cases hE : i = j
        · subst hE; omega
        · have := h1.2 j i (by omega) hi; omega
      exact ⟨i, by omega, (h i hij).trans e⟩
    · rintro ⟨i, hi, e⟩
      have hij : i < j := by
        apply Classical.byContradiction
        intro g
        by_cases hE : i = j
        · subst hE; omega
        · have := ha.2 j i (by omega) hi; omega
      exact ⟨i, by omega, (h i hij).symm.trans e⟩
  · refine Bool.eq_false_iff.mpr (fun g => ?_)
    obtain ⟨i, hi, e⟩ := (h3 (a j) haj).mp g
    by_cases h4 : i < j
    · have := ha.2 i j h4 hj
      rw [h i h4, e] at this
      omega
    · by_cases hE : i = j
      · subst hE; omega
      · have := h1.2 j i (by omega) hi; omega
theorem ny_pop {tq a : Nat → Nat} {m v : Nat} (h : tNY tq m a v (d + 1)) (hd : ¬ ((∀ i, i < d → a i = tq i) ∧ (d = m ∨ (d < m ∧ v ≤ tq d)))) : tNY tq m a (a (d - 1) + 1) d := by
  obtain ⟨_, j, h1, h2, h3⟩ := h
  rcases h3 with ⟨g1, g2, g3⟩ | ⟨g1, g2⟩
  · refine ⟨by omega, j, by omega, h2, ?_⟩
    by_cases hE : j + 1 = d
    · refine Or.inr ⟨hE, Or.inr ⟨g2, ?_⟩⟩
      rw [show d - 1 = j by omega]; omega
    · exact Or.inl ⟨by omega, g2, g3⟩
  · have e : j = d := by omega
    subst e
    exact absurd ⟨h2, g2⟩ hd
/-- back one level -/
theorem tJ_pop {f : Nat → Int32} (h : tJ n c S mny fl bc be cv (d + 1)) {fl2 : Bool} {bc2 : Int32} {be2 : Nat → Int32} (hf : ∀ j, j < d → f j = cv j) (h1 : ∀ a v, incr a d n → (∀ j, j < d → cv j = nI (a j)) → v ≤ n → cv d = nI v - 1 → (∀ j, j < d → a j < v) → (mny < (enS S n).1 → fl = false) → (mny = (enS S n).1 → (tNY (enS S n).2 (enS S n).1 a v (d + 1) ∧ (fl = true → ∃ b, b ≤ 288 ∧ bc = nI b ∧ csN c S n < b)) ∨ (fl = true ∧ (∀ t, t < mny → be t = nI ((enS S n).2 t)) ∧ bc = nI (csN c S n))) → (mny < (enS S n).1 → fl2 = false) ∧ (mny = (enS S n).1 → (tNY (enS S n).2 (enS S n).1 a (a (d - 1) + 1) d ∧ (fl2 = true → ∃ b, b ≤ 288 ∧ bc2 = nI b ∧ csN c S n < b)) ∨ (fl2 = true ∧ (∀ t, t < mny → be2 t = nI ((enS S n).2 t)) ∧ bc2 = nI (csN c S n)))) : tJ n c S mny fl2 bc2 be2 f d := by
  obtain ⟨g0, a, v, g1, g2, g3, g4, g5⟩ := h
  obtain ⟨k1, k2, k3⟩ := g3 (Nat.succ_pos d)
  have q := h1 a v g1 (fun j hj => g2 j (by omega)) k1 k2 (fun j hj => k3 j (by omega)) g4 g5
  refine ⟨by omega, a, a (d - 1) + 1, incr_d g1 (by omega), fun j hj => ?_, fun hd => ⟨?_, ?_, fun j hj => ?_⟩, q.1, q.2⟩
  · rw [hf j (by omega)]; exact g2 j (by omega)
  · exact g1.1 (d - 1) (by show d - 1 < d; omega)
  · rw [hf (d - 1) (by omega), g2 (d - 1) (by omega), nI_pred]
  · have := g1.2 j (d - 1) (by omega) (by show d - 1 < d; omega); omega
theorem opt_m (hn : n ≤ 48) (hc : ∀ k, k < n → c k ≤ 6) (hcov : ∀ e, e < 32 → bt W e = true → ∃ k, k < n ∧ bt (pt k) e = true) (hS : isOpt c pt W n S) : (enS S n).1 ≤ 32 := by rw [(enS_ok S n).2.1]; exact opt_sz hn hc hcov hS
theorem few_no {a : Nat → Nat} (hn : n ≤ 48) (hc : ∀ k, k < n → c k ≤ 6) (hcov : ∀ e, e < 32 → bt W e = true → ∃ k, k < n ∧ bt (pt k) e = true) (hS : isOpt c pt W n S) (ha : incr a d n) (hC : covS pt W n (mk a d)) : ¬ d < (enS S n).1 := by
  have h := opt_few hn hc hS (opt_sz hn hc hcov hS) (mk_in hn ha) hC
  rw [mk_sz hn ha, ← (enS_ok S n).2.1] at h
  omega
theorem nI_lt8 {a b : Nat} (ha : a ≤ 1000) (hb : b ≤ 1000) : nI a < nI b ↔ a < b := nI_ltI (by omega) (by omega)
theorem sq_288 {a : Nat → Nat} (hn : n ≤ 48) (hc : ∀ k, k < n → c k ≤ 6) (ha : incr a d n) (hd : d ≤ 48) : sumQ c a d ≤ 288 := by
  have := sumQ_bd (f := c) (B := 6) d ha.1 hc
  omega
theorem cs_288 (hn : n ≤ 48) (hc : ∀ k, k < n → c k ≤ 6) : csN c S n ≤ 288 := by
  have h := sumS_bd (f := c) (S := S) (B := 6) n hc
  unfold csN
  omega
/-- the depth is full: no cover -/
theorem tJ_0 (hn : n ≤ 48) (hS : isOpt c pt W n S) (h : tJ n c S mny fl bc be cv (d + 1)) (hd : d = mny) (hC : ¬ W &&& (hdF pt cv d ^^^ (-1)) = 0) : tJ n c S mny fl bc be cv d := by
  refine tJ_pop h (fun _ _ => rfl) (fun a v ha hv _ _ _ h4 h5 => ⟨h4, fun hm => ?_⟩)
  rcases h5 hm with ⟨g1, g2⟩ | g
  · refine Or.inl ⟨ny_pop g1 (fun ⟨q1, q2⟩ => hC ?_), g2⟩
    rw [cov_a hn ha hv, mk_eq d q1, hd, hm, mk_en hn hS.1]
    exact hS.2.1
  · exact Or.inr g
/-- a cover that is no better -/
theorem tJ_1 (hn : n ≤ 48) (hc : ∀ k, k < n → c k ≤ 6) (hpc : ∀ k, k < n → pc k = nI (c k)) (hS : isOpt c pt W n S) (hm48 : mny ≤ 48) (h : tJ n c S mny fl bc be cv (d + 1)) (hd : d = mny) (hf : fl = true) (hb : bc ≤ csF pc cv d) : tJ n c S mny fl bc be cv d := by
  refine tJ_pop h (fun _ _ => rfl) (fun a v ha hv _ _ _ h4 h5 => ⟨h4, fun hm => ?_⟩)
  rcases h5 hm with ⟨g1, g2⟩ | g
  · refine Or.inl ⟨ny_pop g1 (fun ⟨q1, q2⟩ => ?_), g2⟩
    obtain ⟨b, b1, b2, b3⟩ := g2 hf
    have e : sumQ c a d = csN c S n := by
      have e1 := mk_sum (f := c) hn d ha
      rw [mk_eq d q1, hd, hm, mk_en hn hS.1] at e1
      rw [hd, hm]; exact e1.symm
    rw [csF_a hn hpc d ha hv, e, b2] at hb
    have := cs_288 (S := S) hn hc
    have := (nI_leI (a := b) (b := csN c S n) (by omega) (by omega)).mp hb
    omega
  · exact Or.inr g
/-- a cover that is kept -/
theorem tJ_2 (hn : n ≤ 48) (hc : ∀ k, k < n → c k ≤ 6) (hcov : ∀ e, e < 32 → bt W e = true → ∃ k, k < n ∧ bt (pt k) e = true) (hpc : ∀ k, k < n → pc k = nI (c k)) (hS : isOpt c pt W n S) (hm48 : mny ≤ 48) (h : tJ n c S mny fl bc be cv (d + 1)) (hd : d = mny) (hC : W &&& (hdF pt cv d ^^^ (-1)) = 0) (hb : fl = true → csF pc cv d < bc) {be2 : Nat → Int32} (hbe : ∀ t, t < mny → be2 t = cv t) : tJ n c S mny true (csF pc cv d) be2 cv d := by
  refine tJ_pop h (fun _ _ => rfl) (fun a v ha hv _ _ _ h4 h5 => ?_)
  have hC2 := (cov_a hn ha hv).mp hC
  have e0 := csF_a hn hpc d ha hv
  have b0 := sq_288 hn hc ha (by omega)
  have e1 := mk_sum (f := c) hn d ha
  refine ⟨fun hl => absurd (by omega) (few_no hn hc hcov hS ha hC2), fun hm => ?_⟩
  have hsz : szN (mk a d) n = szN S n := by rw [mk_sz hn ha, ← (enS_ok S n).2.1]; omega
  have ho := opt_cs hn hS (mk_in hn ha) hC2 hsz
  rcases h5 hm with ⟨g1, g2⟩ | ⟨g1, g2, g3⟩
  · by_cases hq : (∀ i, i < d → a i = (enS S n).2 i) ∧ (d = (enS S n).1 ∨ (d < (enS S n).1 ∧ v ≤ (enS S n).2 d))
    · refine Or.inr ⟨rfl, fun t ht => ?_, ?_⟩
      · rw [hbe t ht, hv t (by omega), hq.1 t (by omega)]
      · rw [e0]
        have e2 : sumQ c a d = csN c S n := by
          rw [mk_eq d hq.1, hd, hm, mk_en hn hS.1] at e1
          rw [hd, hm]; exact e1.symm
        rw [e2]
    · refine Or.inl ⟨ny_pop g1 hq, fun _ => ⟨sumQ c a d, b0, e0, ?_⟩⟩
      obtain ⟨_, j, j1, j2, j3⟩ := g1
      rcases j3 with ⟨k1, k2, k3⟩ | ⟨k1, k2⟩
      · have := ho.2 (mk_lex hn ha (by omega) k2 j2 k3)
        rw [← e1]; exact this
      · exact absurd ⟨by rw [show d = j by omega]; exact j2, by rw [show d = j by omega]; exact k2⟩ hq
  · have h7 := hb g1
    rw [g3, e0] at h7
    have b1 := cs_288 (S := S) hn hc
    have h8 := (nI_ltI (a := sumQ c a d) (b := csN c S n) (by omega) (by omega)).mp h7
    have h9 := ho.1
    have e3 : csN c (mk a d) n = sumQ c a d := e1
    omega
/-- no further prime at this depth -/
theorem tJ_3 (hn : n ≤ 48) (hS : isOpt c pt W n S) (hrs : ∀ k, k ≤ n → rsem pt n (rs k) k) (h : tJ n c S mny fl bc be cv (d + 1)) (hmm : mny ≤ (enS S n).1) (hd : d < mny) {v : Nat} (hv : v ≤ n) (hcv : cv d = nI v - 1) {f : Nat → Int32} (hf : ∀ j, j < d → f j = cv j) (hx : n ≤ v ∨ ¬ W &&& ((hdF pt cv d ||| rs v) ^^^ (-1)) = 0) : tJ n c S mny fl bc be f d := by
  obtain ⟨o1, o2, o3⟩ := enS_ok S n
  refine tJ_pop h hf (fun a u ha ha2 hu1 hu2 _ h4 h5 => ⟨h4, fun hm => ?_⟩)
  have huv : u = v := by
    rw [hcv] at hu2
    have h9 := congrArg (fun x => x + 1) hu2
    simp only [Int32.sub_add_cancel] at h9
    exact ((nI_eq (a := v) (b := u) (by omega) (by omega)).mp h9).symm
  subst huv
  rcases h5 hm with ⟨g1, g2⟩ | g
  · refine Or.inl ⟨ny_pop g1 (fun ⟨q1, q2⟩ => ?_), g2⟩
    have q3 : u ≤ (enS S n).2 d := q2.elim (fun e => by omega) (fun e => e.2)
    have q4 := o1.1 d (by omega)
    rcases hx with hx | hx
    · omega
    · refine hx ((nb0 _ _).mpr (fun e he hW => ?_))
      obtain ⟨k, hk, k1, k2⟩ := hS.2.1 e he hW
      obtain ⟨j, hj, rfl⟩ := (o3 k hk).mp k1
      rw [b_or, Bool.or_eq_true]
      by_cases hjd : j < d
      · exact Or.inl ((hdF_a hn d ha ha2 e).mpr ⟨j, hjd, by rw [q1 j hjd]; exact k2⟩)
      · refine Or.inr ((hrs u hv e he).mpr ⟨(enS S n).2 j, ?_, hk, k2⟩)
        by_cases hE : j = d
        · subst hE; exact q3
        · have := o1.2 d j (by omega) hj; omega
  · exact Or.inr g
/-- the next prime's points leave what no later ones have -/
def hopB (mny : Nat) (pt rs : Nat → Int32) (W had : Int32) (d v : Nat) : Prop := (¬ W &&& ((had ||| pt v) ^^^ (-1)) = 0 ∧ d + 1 = mny) ∨ ¬ (W &&& ((had ||| pt v) ^^^ (-1))) &&& (rs (v + 1) ^^^ (-1)) = 0
theorem hop_no (hn : n ≤ 48) (hS : isOpt c pt W n S) (hrs : ∀ k, k ≤ n → rsem pt n (rs k) k) {a : Nat → Nat} (ha : incr a d n) (ha2 : ∀ j, j < d → cv j = nI (a j)) (hm : mny = (enS S n).1) (hd : d < mny) (q1 : ∀ i, i < d → a i = (enS S n).2 i) : ¬ hopB mny pt rs W (hdF pt cv d) d ((enS S n).2 d) := by
  obtain ⟨o1, o2, o3⟩ := enS_ok S n
  have q4 := o1.1 d (by omega)
  rintro (⟨h1, h2⟩ | h1)
  · refine h1 ((nb0 _ _).mpr (fun e he hW => ?_))
    obtain ⟨k, hk, k1, k2⟩ := hS.2.1 e he hW
    obtain ⟨j, hj, rfl⟩ := (o3 k hk).mp k1
    rw [b_or, Bool.or_eq_true]
    by_cases hjd : j < d
    · exact Or.inl ((hdF_a hn d ha ha2 e).mpr ⟨j, hjd, by rw [q1 j hjd]; exact k2⟩)
    · have : j = d := by omega
      subst this; exact Or.inr k2
  · refine h1 ((nb0 _ _).mpr (fun e he hW => ?_))
    rw [b_and, b_xor, b_m1 e he, b_or, Bool.and_eq_true] at hW
    obtain ⟨k, hk, k1, k2⟩ := hS.2.1 e he hW.1
    obtain ⟨j, hj, rfl⟩ := (o3 k hk).mp k1
    refine (hrs _ (by omega) e he).mpr ⟨(enS S n).2 j, ?_, hk, k2⟩
    have hjd : d < j := by
      apply Classical.byContradiction
      intro g
      have hw := hW.2
      by_cases hE : j = d
      · subst hE; rw [k2, Bool.or_true] at hw; cases hw
      · rw [(hdF_a hn d ha ha2 e).mpr ⟨j, by omega, by rw [q1 j (by omega)]; exact k2⟩] at hw; cases hw
    have := o1.2 d j hjd hj
    omega
theorem v_eq {u v : Nat} (hu : u ≤ n) (hv : v ≤ n) (hn : n ≤ 48) (h1 : cv d = nI u - 1) (h2 : cv d = nI v - 1) : u = v := by
  rw [h2] at h1
  have h9 := congrArg (fun x => x + 1) h1
  simp only [Int32.sub_add_cancel] at h9
  exact ((nI_eq (a := v) (b := u) (by omega) (by omega)).mp h9).symm
/-- the next prime is passed over -/
theorem tJ_4 (hn : n ≤ 48) (hS : isOpt c pt W n S) (hrs : ∀ k, k ≤ n → rsem pt n (rs k) k) (h : tJ n c S mny fl bc be cv (d + 1)) (hmm : mny ≤ (enS S n).1) (hd : d < mny) {v : Nat} (hv : v < n) (hcv : cv d = nI v - 1) (hx : hopB mny pt rs W (hdF pt cv d) d v) : tJ n c S mny fl bc be (upd cv d (nI v)) (d + 1) := by
  obtain ⟨g0, a, u, g1, g2, g3, g4, g5⟩ := h
  obtain ⟨k1, k2, k3⟩ := g3 (Nat.succ_pos d)
  have huv : u = v := v_eq k1 (by omega) hn k2 hcv
  subst huv
  refine ⟨g0, a, u + 1, g1, fun j hj => ?_, fun _ => ⟨by omega, ?_, fun j hj => ?_⟩, g4, fun hm => ?_⟩
  · rw [pk_un (by omega)]; exact g2 j hj
  · rw [show d + 1 - 1 = d from rfl, pk_us, nI_pred]
  · have := k3 j hj; omega
  · rcases g5 hm with ⟨⟨n1, j, n2, n3, n4⟩, n5⟩ | g
    · refine Or.inl ⟨⟨n1, j, n2, n3, ?_⟩, n5⟩
      rcases n4 with n4 | ⟨e, n4⟩
      · exact Or.inl n4
      · refine Or.inr ⟨e, ?_⟩
        have hjd : j = d := by omega
        subst hjd
        rcases n4 with n4 | ⟨n6, n7⟩
        · omega
        · refine Or.inr ⟨n6, ?_⟩
          by_cases hE : u = (enS S n).2 j
          · exact absurd (hE ▸ hx) (hop_no hn hS hrs g1 (fun i hi => g2 i (by omega)) hm hd n3)
          · omega
    · exact Or.inr g
/-- the next prime is taken -/
theorem tJ_5 (hn : n ≤ 48) (h : tJ n c S mny fl bc be cv (d + 1)) (hd : d < mny) {v : Nat} (hv : v < n) (hcv : cv d = nI v - 1) : tJ n c S mny fl bc be (upd (upd cv d (nI v)) (d + 1) (nI v)) (d + 2) := by
  obtain ⟨o1, o2, o3⟩ := enS_ok S n
  obtain ⟨g0, a, u, g1, g2, g3, g4, g5⟩ := h
  obtain ⟨k1, k2, k3⟩ := g3 (Nat.succ_pos d)
  have huv : u = v := v_eq k1 (by omega) hn k2 hcv
  subst huv
  have g1 : incr a d n := g1
  refine ⟨by omega, updN a d u, u + 1, ⟨fun j hj => ?_, fun i j hi hj => ?_⟩, fun j hj => ?_, fun _ => ⟨by omega, ?_, fun j hj => ?_⟩, g4, fun hm => ?_⟩
  · have hj : j < d + 1 := hj
    by_cases hE : j = d
    · subst hE; rw [updN_s]; exact hv
    · rw [updN_n hE]; exact g1.1 j (by omega)
  · have hj : j < d + 1 := hj
    rw [updN_n (show i ≠ d by omega)]
    by_cases hE : j = d
    · subst hE; rw [updN_s]; exact k3 i (by omega)
    · rw [updN_n hE]; exact g1.2 i j hi (by omega)
  · rw [pk_un (by omega)]
    by_cases hE : j = d
    · subst hE; rw [pk_us, updN_s]
    · rw [pk_un hE, updN_n hE]; exact g2 j (by omega)
  · rw [show d + 2 - 1 = d + 1 from rfl, pk_us, nI_pred]
  · by_cases hE : j = d
    · subst hE; rw [updN_s]; omega
    · rw [updN_n hE]; have := k3 j (by omega); omega
  · rcases g5 hm with ⟨⟨n1, j, n2, n3, n4⟩, n5⟩ | g
    · refine Or.inl ⟨?_, n5⟩
      rcases n4 with ⟨n4, n6, n7⟩ | ⟨e, n4⟩
      · exact ⟨by omega, j, by omega, fun i hi => by rw [updN_n (show i ≠ d by omega)]; exact n3 i hi, Or.inl ⟨by omega, n6, by rw [updN_n (show j ≠ d by omega)]; exact n7⟩⟩
      · have hjd : j = d := by omega
        subst hjd
        have n7 : j < (enS S n).1 ∧ u ≤ (enS S n).2 j := n4.elim (fun e => by omega) id
        by_cases hE : u = (enS S n).2 j
        · refine ⟨by omega, j + 1, by omega, fun i hi => ?_, Or.inr ⟨rfl, ?_⟩⟩
          · by_cases hI : i = j
            · subst hI; rw [updN_s]; exact hE
            · rw [updN_n hI]; exact n3 i (by omega)
          · by_cases hJ : j + 1 = (enS S n).1
            · exact Or.inl hJ
            · refine Or.inr ⟨by omega, ?_⟩
              have := o1.2 j (j + 1) (by omega) (by omega)
              omega
        · exact ⟨by omega, j, by omega, fun i hi => by rw [updN_n (show i ≠ j by omega)]; exact n3 i hi, Or.inl ⟨by omega, n7.1, by rw [updN_s]; omega⟩⟩
    · exact Or.inr g
theorem tJ_start (ch : Nat → Int32) (hc0 : ch 0 = -1) (hmm : mny ≤ (enS S n).1) : tJ n c S mny false bc be ch 1 := by
  refine ⟨by omega, fun _ => 0, 0, ⟨fun j hj => absurd hj (Nat.not_lt_zero j), fun i j _ hj => absurd hj (Nat.not_lt_zero j)⟩, fun j hj => absurd hj (by omega), fun _ => ⟨Nat.zero_le _, by rw [show 1 - 1 = 0 from rfl, hc0]; decide, fun j hj => absurd hj (by omega)⟩, fun _ => rfl, fun hm => Or.inl ⟨⟨Nat.one_pos, 0, Nat.le_refl 1, fun i hi => absurd hi (Nat.not_lt_zero i), Or.inr ⟨rfl, ?_⟩⟩, fun h => (by cases h)⟩⟩
  by_cases h : 0 = (enS S n).1
  · exact Or.inl h
  · exact Or.inr ⟨by omega, Nat.zero_le _⟩
theorem tJ_end (h : tJ n c S mny fl bc be cv 0) : (mny < (enS S n).1 → fl = false) ∧ (mny = (enS S n).1 → fl = true ∧ ∀ t, t < mny → be t = nI ((enS S n).2 t)) := by
  obtain ⟨g0, a, u, g1, g2, g3, g4, g5⟩ := h
  refine ⟨g4, fun hm => ?_⟩
  rcases g5 hm with ⟨⟨n1, _⟩, _⟩ | g
  · omega
  · exact ⟨g.1, g.2.1⟩
end TJ
