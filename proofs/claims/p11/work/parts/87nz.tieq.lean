/-! ===== the quick cover ===== -/
def pkF (pts cst : Nat → Int32) (n : Nat) (op : Int32) : Int32 := (fQP pts cst op n).1
def opQ (pts cst : Nat → Int32) (n : Nat) (W : Int32) (m : Nat) : Int32 := itr (fun _ op => op &&& (pts (pkF pts cst n op).toNatClampNeg ^^^ (-1))) m W
def pkQ (pts cst : Nat → Int32) (n : Nat) (W : Int32) (m : Nat) : Nat := (pkF pts cst n (opQ pts cst n W m)).toNatClampNeg
def qm (a : Nat → Nat) (m : Nat) : Int64 := itr (fun j acc => setB acc (a j)) m 0
section QK
variable {pts cst : Nat → Int32} {W op : Int32} {n : Nat}
theorem opQ_s (m : Nat) : opQ pts cst n W (m + 1) = opQ pts cst n W m &&& (pts (pkQ pts cst n W m) ^^^ (-1)) := rfl
theorem cn0 {x : Int32} : cnt (bt x) 32 = 0 ↔ x = 0 := by
  rw [cnt_0]
  constructor
  · intro h; exact b_ext (fun i hi => by rw [h i hi, b_0])
  · intro h k _; rw [h, b_0]
theorem cn32 (x : Int32) : cnt (bt x) 32 ≤ 32 := cnt_le _ _
theorem fQP_k (m : Nat) (hm : m ≤ 81) : ((fQP pts cst op m).1 = -1 ∧ (fQP pts cst op m).2 = nI 0 ∧ ∀ k, k < m → pts k &&& op = 0) ∨ ∃ k, k < m ∧ (fQP pts cst op m).1 = nI k ∧ (fQP pts cst op m).2 = nI (cnt (bt (pts k &&& op)) 32) ∧ ¬ pts k &&& op = 0 := by
  induction m with
  | zero => exact Or.inl ⟨rfl, rfl, fun k hk => absurd hk (Nat.not_lt_zero k)⟩
  | succ m ih =>
    have ih := ih (by omega)
    rw [show fQP pts cst op (m + 1) = (if (fQP pts cst op m).2 < bcI (pts m &&& op) then (nI m, bcI (pts m &&& op)) else if (fQP pts cst op m).1 = -1 then fQP pts cst op m else if bcI (pts m &&& op) = (fQP pts cst op m).2 then (if cst (fQP pts cst op m).1.toNatClampNeg ≤ cst m then fQP pts cst op m else (nI m, bcI (pts m &&& op))) else fQP pts cst op m) from rfl, bcI_cnt]
    have hc := cn32 (pts m &&& op)
    rcases ih with ⟨h1, h2, h3⟩ | ⟨k, hk, h1, h2, h3⟩
    · by_cases hz : pts m &&& op = 0
      · rw [h2, if_neg (by rw [cn0.mpr hz]; decide), if_pos h1]
        refine Or.inl ⟨h1, h2, fun k hk => ?_⟩
        by_cases hE : k = m
        · subst hE; exact hz
        · exact h3 k (by omega)
      · have hp : 0 < cnt (bt (pts m &&& op)) 32 := Nat.pos_of_ne_zero (fun g => hz (cn0.mp g))
        rw [h2, if_pos ((nI_ltI (a := 0) (b := cnt (bt (pts m &&& op)) 32) (by omega) (by omega)).mpr hp)]
        exact Or.inr ⟨m, Nat.lt_succ_self m, rfl, rfl, hz⟩
    · have hk2 := cn32 (pts k &&& op)
      have hp : 0 < cnt (bt (pts k &&& op)) 32 := Nat.pos_of_ne_zero (fun g => h3 (cn0.mp g))
      have hne : ¬ (fQP pts cst op m).1 = -1 := by
        rw [h1]
        intro g
        have : ¬ nI k < 0 := nI_pos (by omega)
        rw [g] at this; exact this (by decide)
      by_cases hlt : (fQP pts cst op m).2 < nI (cnt (bt (pts m &&& op)) 32)
      · rw [if_pos hlt]
        rw [h2] at hlt
        have := (nI_ltI (a := cnt (bt (pts k &&& op)) 32) (b := cnt (bt (pts m &&& op)) 32) (by omega) (by omega)).mp hlt
        exact Or.inr ⟨m, Nat.lt_succ_self m, rfl, rfl, fun g => by rw [cn0.mpr g] at this; omega⟩
      · rw [if_neg hlt, if_neg hne]
        by_cases he : nI (cnt (bt (pts m &&& op)) 32) = (fQP pts cst op m).2
        · rw [if_pos he]
          by_cases hcs : cst (fQP pts cst op m).1.toNatClampNeg ≤ cst m
          · rw [if_pos hcs]; exact Or.inr ⟨k, by omega, h1, h2, h3⟩
          · rw [if_neg hcs]
            rw [h2] at he
            have := (nI_eq (a := cnt (bt (pts m &&& op)) 32) (b := cnt (bt (pts k &&& op)) 32) (by omega) (by omega)).mp he
            exact Or.inr ⟨m, Nat.lt_succ_self m, rfl, rfl, fun g => by rw [cn0.mpr g] at this; omega⟩
        · rw [if_neg he]; exact Or.inr ⟨k, by omega, h1, h2, h3⟩
/-- the reference's pick -/
def rTp (pt pc : Nat → Int32) (had : Int32) (i : Nat) : Int32 := itr (fun p tp => if (if 0 ≤ tp then rOnes (pt tp.toNatClampNeg &&& (had ^^^ (-1))) 32 else 0) < rOnes (pt p &&& (had ^^^ (-1))) 32 then nI p else if tp < 0 then tp else if rOnes (pt p &&& (had ^^^ (-1))) 32 = (if 0 ≤ tp then rOnes (pt tp.toNatClampNeg &&& (had ^^^ (-1))) 32 else 0) then (if pc tp.toNatClampNeg ≤ pc p then tp else nI p) else tp) i (-1)
theorem rTp_q {pt pc : Nat → Int32} {had : Int32} (ho : ∀ x : Int32, rOnes x 32 = nI (cnt (bt x) 32)) (h : ∀ k, k < n → pt k &&& (had ^^^ (-1)) = pt k &&& op) (m : Nat) (hm : m ≤ n) (hn : n ≤ 81) : rTp pt pc had m = (fQP pt pc op m).1 := by
  induction m with
  | zero => rfl
  | succ m ih =>
    have ih := ih (by omega)
    rw [show rTp pt pc had (m + 1) = (if (if 0 ≤ rTp pt pc had m then rOnes (pt (rTp pt pc had m).toNatClampNeg &&& (had ^^^ (-1))) 32 else 0) < rOnes (pt m &&& (had ^^^ (-1))) 32 then nI m else if rTp pt pc had m < 0 then rTp pt pc had m else if rOnes (pt m &&& (had ^^^ (-1))) 32 = (if 0 ≤ rTp pt pc had m then rOnes (pt (rTp pt pc had m).toNatClampNeg &&& (had ^^^ (-1))) 32 else 0) then (if pc (rTp pt pc had m).toNatClampNeg ≤ pc m then rTp pt pc had m else nI m) else rTp pt pc had m) from rfl,
      show fQP pt pc op (m + 1) = (if (fQP pt pc op m).2 < bcI (pt m &&& op) then (nI m, bcI (pt m &&& op)) else if (fQP pt pc op m).1 = -1 then fQP pt pc op m else if bcI (pt m &&& op) = (fQP pt pc op m).2 then (if pc (fQP pt pc op m).1.toNatClampNeg ≤ pc m then fQP pt pc op m else (nI m, bcI (pt m &&& op))) else fQP pt pc op m) from rfl, ih, bcI_cnt, h m (by omega), ho (pt m &&& op)]
    rcases fQP_k (pts := pt) (cst := pc) (op := op) m (by omega) with ⟨h1, h2, h3⟩ | ⟨k, hk, h1, h2, h3⟩
    · have e0 : (if (0 : Int32) ≤ -1 then rOnes (pt (-1 : Int32).toNatClampNeg &&& (had ^^^ (-1))) 32 else 0) = nI 0 := if_neg (by decide)
      rw [h1, e0, h2]
      by_cases hl : nI 0 < nI (cnt (bt (pt m &&& op)) 32)
      · rw [if_pos hl, if_pos hl]
      · rw [if_neg hl, if_neg hl, if_pos (by decide), if_pos rfl, h1]
    · have hk0 : 0 ≤ nI k := Int32.not_lt.mp (nI_pos (by omega))
      have hkn : ¬ nI k < 0 := nI_pos (by omega)
      have hne : ¬ nI k = -1 := fun g => by rw [g] at hkn; exact hkn (by decide)
      have e0 : (if (0 : Int32) ≤ nI k then rOnes (pt (nI k).toNatClampNeg &&& (had ^^^ (-1))) 32 else 0) = nI (cnt (bt (pt k &&& op)) 32) := by rw [if_pos hk0, nI_clamp (by omega), h k (by omega), ho]
      rw [h1, e0, h2]
      by_cases hl : nI (cnt (bt (pt k &&& op)) 32) < nI (cnt (bt (pt m &&& op)) 32)
      · rw [if_pos hl, if_pos hl]
      · rw [if_neg hl, if_neg hl, if_neg hkn, if_neg hne]
        by_cases he : nI (cnt (bt (pt m &&& op)) 32) = nI (cnt (bt (pt k &&& op)) 32)
        · rw [if_pos he, if_pos he]
          by_cases hcs : pc (nI k).toNatClampNeg ≤ pc m
          · rw [if_pos hcs, if_pos hcs, h1]
          · rw [if_neg hcs, if_neg hcs]
        · rw [if_neg he, if_neg he, h1]
/-- an open point has a pick -/
theorem pk_ok (hn : n ≤ 81) (hcov : ∀ e, e < 32 → bt op e = true → ∃ k, k < n ∧ bt (pts k) e = true) (h : ¬ op = 0) : ∃ k, k < n ∧ pkF pts cst n op = nI k ∧ ¬ pts k &&& op = 0 := by
  rcases fQP_k (pts := pts) (cst := cst) (op := op) n hn with ⟨h1, h2, h3⟩ | ⟨k, hk, h1, h2, h3⟩
  · obtain ⟨e, he, hb⟩ := ex_bit h
    obtain ⟨k, hk, hp⟩ := hcov e he hb
    have : bt (pts k &&& op) e = true := by rw [b_and, hp, hb]; rfl
    rw [h3 k hk, b_0] at this; cases this
  · exact ⟨k, hk, h1, h3⟩
theorem opQ_b (m : Nat) {e : Nat} (he : e < 32) : bt (opQ pts cst n W m) e = true ↔ bt W e = true ∧ ∀ i, i < m → bt (pts (pkQ pts cst n W i)) e = false := by
  induction m with
  | zero => exact ⟨fun h => ⟨h, fun i hi => absurd hi (Nat.not_lt_zero i)⟩, fun h => h.1⟩
  | succ m ih =>
    rw [opQ_s, b_and, b_xor, b_m1 e he, Bool.and_eq_true, ih]
    constructor
    · rintro ⟨⟨h1, h2⟩, h3⟩
      refine ⟨h1, fun i hi => ?_⟩
      by_cases hE : i = m
      · subst hE
        cases hp : bt (pts (pkQ pts cst n W i)) e with
        | false => rfl
        | true => rw [hp] at h3; cases h3
      · exact h2 i (by omega)
    · rintro ⟨h1, h2⟩
      exact ⟨⟨h1, fun i hi => h2 i (by omega)⟩, by rw [h2 m (Nat.lt_succ_self m)]; rfl⟩
theorem pkQ_ok (hn : n ≤ 48) (hcov : ∀ e, e < 32 → bt W e = true → ∃ k, k < n ∧ bt (pts k) e = true) {m : Nat} (h : ¬ opQ pts cst n W m = 0) : pkQ pts cst n W m < n ∧ pkF pts cst n (opQ pts cst n W m) = nI (pkQ pts cst n W m) ∧ ¬ pts (pkQ pts cst n W m) &&& opQ pts cst n W m = 0 := by
  obtain ⟨k, hk, e, h2⟩ := pk_ok (pts := pts) (cst := cst) (op := opQ pts cst n W m) (by omega) (fun e he hb => hcov e he ((opQ_b m he).mp hb).1) h
  unfold pkQ
  rw [e, nI_clamp (by omega)]
  exact ⟨hk, rfl, h2⟩
theorem opQ_cnt (hn : n ≤ 48) (hcov : ∀ e, e < 32 → bt W e = true → ∃ k, k < n ∧ bt (pts k) e = true) {m : Nat} (h : ¬ opQ pts cst n W m = 0) : cnt (bt (opQ pts cst n W (m + 1))) 32 < cnt (bt (opQ pts cst n W m)) 32 := by
  obtain ⟨h1, h2, h3⟩ := pkQ_ok hn hcov h
  obtain ⟨e, he, hb⟩ := ex_bit h3
  rw [b_and, Bool.and_eq_true] at hb
  refine cnt_lt he (fun a ha g => ?_) ?_ hb.2
  · rw [opQ_s, b_and, Bool.and_eq_true] at g; exact g.1
  · rw [opQ_s, b_and, b_xor, b_m1 e he, hb.1, hb.2]; rfl
def qEnd (pts cst : Nat → Int32) (n : Nat) (W : Int32) (m : Nat) : Prop := opQ pts cst n W m = 0 ∧ ∀ i, i < m → ¬ opQ pts cst n W i = 0
theorem qEnd_eq {m m2 : Nat} (h : qEnd pts cst n W m) (h2 : qEnd pts cst n W m2) : m = m2 := by
  by_cases hl : m < m2
  · exact absurd h.1 (h2.2 m hl)
  · by_cases hg : m2 < m
    · exact absurd h2.1 (h.2 m2 hg)
    · omega
theorem pk_dist (hn : n ≤ 48) (hcov : ∀ e, e < 32 → bt W e = true → ∃ k, k < n ∧ bt (pts k) e = true) {i j m : Nat} (hm : ∀ t, t < m → ¬ opQ pts cst n W t = 0) (hij : i < j) (hj : j < m) : pkQ pts cst n W i ≠ pkQ pts cst n W j := by
  intro g
  obtain ⟨h1, h2, h3⟩ := pkQ_ok hn hcov (hm j hj)
  obtain ⟨e, he, hb⟩ := ex_bit h3
  rw [b_and, Bool.and_eq_true] at hb
  have := ((opQ_b j he).mp hb.2).2 i hij
  rw [g, hb.1] at this; cases this
theorem pk_inj (hn : n ≤ 48) (hcov : ∀ e, e < 32 → bt W e = true → ∃ k, k < n ∧ bt (pts k) e = true) {i j m : Nat} (hm : ∀ t, t < m → ¬ opQ pts cst n W t = 0) (hi : i < m) (hj : j < m) (h : pkQ pts cst n W i = pkQ pts cst n W j) : i = j := by
  by_cases h1 : i < j
  · exact absurd h (pk_dist hn hcov hm h1 hj)
  · by_cases h2 : j < i
    · exact absurd h.symm (pk_dist hn hcov hm h2 hi)
    · omega
theorem qm_b {a : Nat → Nat} {k : Nat} (hk : k < 64) (m : Nat) (ha : ∀ j, j < m → a j < 64) : bl (qm a m) k = true ↔ ∃ j, j < m ∧ a j = k := by
  induction m with
  | zero => exact ⟨fun g => (by rw [show qm a 0 = 0 from rfl, l_0] at g; cases g), fun ⟨j, hj, _⟩ => absurd hj (Nat.not_lt_zero j)⟩
  | succ m ih =>
    rw [show qm a (m + 1) = setB (qm a m) (a m) from rfl, setB_b (ha m (Nat.lt_succ_self m)) hk, Bool.or_eq_true, ih (fun j hj => ha j (by omega))]
    constructor
    · rintro (⟨j, hj, e⟩ | e)
      · exact ⟨j, by omega, e⟩
      · exact ⟨m, Nat.lt_succ_self m, (of_decide_eq_true e).symm⟩
    · rintro ⟨j, hj, e⟩
      by_cases hE : j = m
      · subst hE; exact Or.inr (decide_eq_true e.symm)
      · exact Or.inl ⟨j, by omega, e⟩
/-- what can go is left out, from the last pick on -/
def qR (pts cst : Nat → Int32) (n : Nat) (W : Int32) (nq i : Nat) : Int64 := itr (fun i S => if fCov pts (clrB S (pkQ pts cst n W (nq - i - 1))) n = W then clrB S (pkQ pts cst n W (nq - i - 1)) else S) i (qm (pkQ pts cst n W) nq)
theorem qR_s (nq i : Nat) : qR pts cst n W nq (i + 1) = if fCov pts (clrB (qR pts cst n W nq i) (pkQ pts cst n W (nq - i - 1))) n = W then clrB (qR pts cst n W nq i) (pkQ pts cst n W (nq - i - 1)) else qR pts cst n W nq i := rfl
theorem qR_in (hn : n ≤ 48) (hcov : ∀ e, e < 32 → bt W e = true → ∃ k, k < n ∧ bt (pts k) e = true) (hp : ∀ k, k < n → pts k &&& (W ^^^ (-1)) = 0) {nq : Nat} (hq : qEnd pts cst n W nq) (i : Nat) (hi : i ≤ nq) : inS (qR pts cst n W nq i) n ∧ covS pts W n (qR pts cst n W nq i) ∧ ∀ k, k < 64 → bl (qR pts cst n W nq i) k = true → ∃ j, j < nq ∧ pkQ pts cst n W j = k := by
  have hlt : ∀ j, j < nq → pkQ pts cst n W j < n := fun j hj => (pkQ_ok hn hcov (hq.2 j hj)).1
  induction i with
  | zero =>
    have hb : ∀ k, k < 64 → (bl (qR pts cst n W nq 0) k = true ↔ ∃ j, j < nq ∧ pkQ pts cst n W j = k) := fun k hk => qm_b hk nq (fun j hj => by have := hlt j hj; omega)
    refine ⟨fun k hk g => ?_, fun e he hW => ?_, fun k hk g => (hb k hk).mp g⟩
    · obtain ⟨j, hj, rfl⟩ := (hb k hk).mp g
      exact hlt j hj
    · apply Classical.byContradiction
      intro g
      have : bt (opQ pts cst n W nq) e = true := (opQ_b nq he).mpr ⟨hW, fun j hj => by
        cases hx : bt (pts (pkQ pts cst n W j)) e with
        | false => rfl
        | true => exact absurd ⟨_, hlt j hj, (hb _ (by have := hlt j hj; omega)).mpr ⟨j, hj, rfl⟩, hx⟩ g⟩
      rw [hq.1, b_0] at this; cases this
  | succ i ih =>
    obtain ⟨h1, h2, h3⟩ := ih (by omega)
    have hk := hlt (nq - i - 1) (by omega)
    rw [qR_s]
    by_cases hc : fCov pts (clrB (qR pts cst n W nq i) (pkQ pts cst n W (nq - i - 1))) n = W
    · rw [if_pos hc]
      refine ⟨inS_clr h1 hk hn, (fCov_c hn hp).mp hc, fun k hk2 g => ?_⟩
      rw [clrB_b (by omega) hk2, Bool.and_eq_true] at g
      exact h3 k hk2 g.1
    · rw [if_neg hc]; exact ⟨h1, h2, h3⟩
/-- the reference's row of picks, what is left out as -1 -/
def qC (pts cst : Nat → Int32) (n : Nat) (W : Int32) (nq : Nat) (S : Int64) (cv : Nat → Int32) : Prop := ∀ t, t < nq → cv t = if bl S (pkQ pts cst n W t) = true then nI (pkQ pts cst n W t) else -1
def otF (pt cv : Nat → Int32) (kx j : Nat) : Int32 := itr (fun j acc => if nI j = nI kx then acc else if cv j < 0 then acc else acc ||| pt (cv j).toNatClampNeg) j 0
theorem otF_b (hn : n ≤ 48) (hcov : ∀ e, e < 32 → bt W e = true → ∃ k, k < n ∧ bt (pts k) e = true) {nq kx : Nat} (h32 : nq ≤ 32) (hm : ∀ t, t < nq → ¬ opQ pts cst n W t = 0) (hkx : kx < nq) {S : Int64} {cv : Nat → Int32} (hC : qC pts cst n W nq S cv) {e : Nat} (j : Nat) (hj : j ≤ nq) : bt (otF pts cv kx j) e = true ↔ ∃ t, t < j ∧ t ≠ kx ∧ bl S (pkQ pts cst n W t) = true ∧ bt (pts (pkQ pts cst n W t)) e = true := by
  induction j with
  | zero => exact ⟨fun g => (by rw [show otF pts cv kx 0 = 0 from rfl, b_0] at g; cases g), fun ⟨t, ht, _⟩ => absurd ht (Nat.not_lt_zero t)⟩
  | succ j ih =>
    have ih := ih (by omega)
    have hlt := (pkQ_ok hn hcov (hm j (by omega))).1
    rw [show otF pts cv kx (j + 1) = (if nI j = nI kx then otF pts cv kx j else if cv j < 0 then otF pts cv kx j else otF pts cv kx j ||| pts (cv j).toNatClampNeg) from rfl]
    have hs : (∃ t, t < j + 1 ∧ t ≠ kx ∧ bl S (pkQ pts cst n W t) = true ∧ bt (pts (pkQ pts cst n W t)) e = true) ↔ (∃ t, t < j ∧ t ≠ kx ∧ bl S (pkQ pts cst n W t) = true ∧ bt (pts (pkQ pts cst n W t)) e = true) ∨ (j ≠ kx ∧ bl S (pkQ pts cst n W j) = true ∧ bt (pts (pkQ pts cst n W j)) e = true) := by
      constructor
      · rintro ⟨t, ht, g⟩
        by_cases hE : t = j
        · subst hE; exact Or.inr g
        · exact Or.inl ⟨t, by omega, g⟩
      · rintro (⟨t, ht, g⟩ | g)
        · exact ⟨t, by omega, g⟩
        · exact ⟨j, by omega, g⟩
    rw [hs]
    by_cases hE : nI j = nI kx
    · have : j = kx := (nI_eq (by omega) (by omega)).mp hE
      rw [if_pos hE, ih]
      exact ⟨Or.inl, fun g => g.elim id (fun g => absurd this g.1)⟩
    · have hjk : j ≠ kx := fun g => hE (by rw [g])
      rw [if_neg hE, hC j (by omega)]
      by_cases hb : bl S (pkQ pts cst n W j) = true
      · rw [if_pos hb, if_neg (nI_pos (by omega)), nI_clamp (by omega), b_or, Bool.or_eq_true, ih]
        exact ⟨fun g => g.imp id (fun g => ⟨hjk, hb, g⟩), fun g => g.imp id (fun g => g.2.2)⟩
      · rw [if_neg hb, if_pos (by decide), ih]
        exact ⟨Or.inl, fun g => g.elim id (fun g => absurd g.2.1 hb)⟩
/-- the reference leaves out what the class leaves out -/
theorem ot_cov (hn : n ≤ 48) (hcov : ∀ e, e < 32 → bt W e = true → ∃ k, k < n ∧ bt (pts k) e = true) (hp : ∀ k, k < n → pts k &&& (W ^^^ (-1)) = 0) {nq kx : Nat} (h32 : nq ≤ 32) (hq : qEnd pts cst n W nq) (hkx : kx < nq) {S : Int64} (hS : ∀ k, k < 64 → bl S k = true → ∃ j, j < nq ∧ pkQ pts cst n W j = k) {cv : Nat → Int32} (hC : qC pts cst n W nq S cv) : W &&& (otF pts cv kx nq ^^^ (-1)) = 0 ↔ fCov pts (clrB S (pkQ pts cst n W kx)) n = W := by
  have hlt : ∀ j, j < nq → pkQ pts cst n W j < n := fun j hj => (pkQ_ok hn hcov (hq.2 j hj)).1
  have hk := hlt kx hkx
  rw [fCov_c hn hp, nb0]
  constructor
  · intro h e he hW
    obtain ⟨t, ht, t1, t2, t3⟩ := (otF_b hn hcov h32 hq.2 hkx hC nq (Nat.le_refl nq)).mp (h e he hW)
    have := hlt t ht
    refine ⟨_, this, ?_, t3⟩
    rw [clrB_b (by omega) (by omega), t2, decide_eq_false (fun g => t1 (pk_inj hn hcov hq.2 ht hkx g))]; rfl
  · intro h e he hW
    obtain ⟨k, hk2, k1, k2⟩ := h e he hW
    rw [clrB_b (by omega) (by omega), Bool.and_eq_true] at k1
    obtain ⟨t, ht, rfl⟩ := hS k (by omega) k1.1
    refine (otF_b hn hcov h32 hq.2 hkx hC nq (Nat.le_refl nq)).mpr ⟨t, ht, fun g => ?_, k1.1, k2⟩
    subst g
    rw [decide_eq_true rfl] at k1; exact absurd k1.2 (by decide)
theorem qC_step (hn : n ≤ 48) (hcov : ∀ e, e < 32 → bt W e = true → ∃ k, k < n ∧ bt (pts k) e = true) {nq kx : Nat} (hq : qEnd pts cst n W nq) (hkx : kx < nq) {S : Int64} {cv : Nat → Int32} (hC : qC pts cst n W nq S cv) : qC pts cst n W nq (clrB S (pkQ pts cst n W kx)) (upd cv kx (-1)) := by
  have hlt : ∀ j, j < nq → pkQ pts cst n W j < n := fun j hj => (pkQ_ok hn hcov (hq.2 j hj)).1
  intro t ht
  have h1 := hlt t ht
  have h2 := hlt kx hkx
  rw [clrB_b (by omega) (by omega)]
  by_cases hE : t = kx
  · subst hE
    rw [pk_us, decide_eq_true rfl, Bool.not_true, Bool.and_false, if_neg (by decide)]
  · rw [pk_un hE, hC t ht, decide_eq_false (fun g => hE (pk_inj hn hcov hq.2 ht hkx g)), Bool.not_false, Bool.and_true]
theorem qC_same {nq kx : Nat} {S : Int64} {cv : Nat → Int32} (hC : qC pts cst n W nq S cv) : qC pts cst n W nq S (upd cv kx (cv kx)) := by rw [upd_idv rfl]; exact hC
theorem qC_0 {nq : Nat} {cv : Nat → Int32} (hlt : ∀ j, j < nq → pkQ pts cst n W j < n) (hn : n ≤ 48) (h : ∀ t, t < nq → cv t = nI (pkQ pts cst n W t)) : qC pts cst n W nq (qR pts cst n W nq 0) cv := by
  intro t ht
  rw [show qR pts cst n W nq 0 = qm (pkQ pts cst n W) nq from rfl, h t ht, if_pos ((qm_b (a := pkQ pts cst n W) (k := pkQ pts cst n W t) (by have := hlt t ht; omega) nq (fun j hj => by have := hlt j hj; omega)).mpr ⟨t, ht, rfl⟩)]
/-- the members by rising numbers: what the inner loop has found -/
def qS (F : Int64) (cv : Nat → Int32) (i k mn : Nat) (bx : Nat → Int32) : Prop := mn = (enS F i).1 + (if anyB (fun j => decide (cv j = nI i)) k = true then 1 else 0) ∧ (∀ t, t < (enS F i).1 → bx t = nI ((enS F i).2 t)) ∧ (anyB (fun j => decide (cv j = nI i)) k = true → bx (enS F i).1 = nI i)
theorem qS_0 {F : Int64} {cv bx : Nat → Int32} {i mn : Nat} (h1 : mn = (enS F i).1) (h2 : ∀ t, t < (enS F i).1 → bx t = nI ((enS F i).2 t)) : qS F cv i 0 mn bx := ⟨by rw [h1]; rfl, h2, fun g => (Bool.false_ne_true g).elim⟩
theorem any_s {c : Nat → Bool} (k : Nat) : anyB c (k + 1) = (anyB c k || c k) := rfl
theorem qS_n {F : Int64} {cv bx : Nat → Int32} {i k mn : Nat} (h : qS F cv i k mn bx) (hc : ¬ cv k = nI i) : qS F cv i (k + 1) mn bx := by
  unfold qS at h ⊢
  rw [any_s, decide_eq_false hc, Bool.or_false]; exact h
theorem qS_y {F : Int64} {cv bx : Nat → Int32} {i k mn : Nat} (h : qS F cv i k mn bx) (hc : cv k = nI i) (hno : ¬ anyB (fun j => decide (cv j = nI i)) k = true) : qS F cv i (k + 1) (mn + 1) (upd bx mn (nI i)) := by
  obtain ⟨h1, h2, h3⟩ := h
  rw [if_neg hno, Nat.add_zero] at h1
  unfold qS
  rw [any_s, decide_eq_true hc, Bool.or_true, if_pos rfl, ← h1]
  refine ⟨rfl, fun t ht => ?_, fun _ => pk_us⟩
  rw [pk_un (by omega)]; exact h2 t (by omega)
theorem qS_e {F : Int64} {cv bx : Nat → Int32} {i mn nq : Nat} (hF : bl F i = true ↔ anyB (fun j => decide (cv j = nI i)) nq = true) (h : qS F cv i nq mn bx) : mn = (enS F (i + 1)).1 ∧ ∀ t, t < (enS F (i + 1)).1 → bx t = nI ((enS F (i + 1)).2 t) := by
  obtain ⟨h1, h2, h3⟩ := h
  rw [enS_s]
  by_cases hb : bl F i = true
  · rw [if_pos hb]
    rw [if_pos (hF.mp hb)] at h1
    refine ⟨h1, fun t ht => ?_⟩
    have ht : t < (enS F i).1 + 1 := ht
    show bx t = nI (updN (enS F i).2 (enS F i).1 i t)
    by_cases hE : t = (enS F i).1
    · rw [hE, updN_s]; exact h3 (hF.mp hb)
    · rw [updN_n hE]; exact h2 t (by omega)
  · rw [if_neg hb]
    rw [if_neg (fun g => hb (hF.mpr g))] at h1
    exact ⟨h1, h2⟩
theorem q_any (hn : n ≤ 48) (hcov : ∀ e, e < 32 → bt W e = true → ∃ k, k < n ∧ bt (pts k) e = true) {nq i : Nat} (hq : qEnd pts cst n W nq) (hi : i < n) {F : Int64} (hS : ∀ k, k < 64 → bl F k = true → ∃ j, j < nq ∧ pkQ pts cst n W j = k) {cv : Nat → Int32} (hC : qC pts cst n W nq F cv) : bl F i = true ↔ anyB (fun j => decide (cv j = nI i)) nq = true := by
  have hlt : ∀ j, j < nq → pkQ pts cst n W j < n := fun j hj => (pkQ_ok hn hcov (hq.2 j hj)).1
  rw [anyB_iff]
  constructor
  · intro h
    obtain ⟨j, hj, e⟩ := hS i (by omega) h
    exact ⟨j, hj, decide_eq_true (by rw [hC j hj, e, if_pos h])⟩
  · rintro ⟨j, hj, e⟩
    have e := of_decide_eq_true e
    have := hlt j hj
    rw [hC j hj] at e
    by_cases hb : bl F (pkQ pts cst n W j) = true
    · rw [if_pos hb] at e
      rw [← (nI_eq (by omega) (by omega)).mp e]; exact hb
    · rw [if_neg hb] at e
      have h0 : ¬ nI i < 0 := nI_pos (by omega)
      rw [← e] at h0; exact absurd (by decide) h0
theorem q_once (hn : n ≤ 48) (hcov : ∀ e, e < 32 → bt W e = true → ∃ k, k < n ∧ bt (pts k) e = true) {nq i k : Nat} (hq : qEnd pts cst n W nq) (hi : i < n) (hk : k < nq) {F : Int64} {cv : Nat → Int32} (hC : qC pts cst n W nq F cv) (hc : cv k = nI i) : ¬ anyB (fun j => decide (cv j = nI i)) k = true := by
  have hlt : ∀ j, j < nq → pkQ pts cst n W j < n := fun j hj => (pkQ_ok hn hcov (hq.2 j hj)).1
  have key : ∀ j, j < nq → cv j = nI i → pkQ pts cst n W j = i := by
    intro j hj e
    have := hlt j hj
    rw [hC j hj] at e
    by_cases hb : bl F (pkQ pts cst n W j) = true
    · rw [if_pos hb] at e
      exact (nI_eq (by omega) (by omega)).mp e
    · rw [if_neg hb] at e
      have h0 : ¬ nI i < 0 := nI_pos (by omega)
      rw [← e] at h0; exact absurd (by decide) h0
  rw [anyB_iff]
  rintro ⟨j, hj, e⟩
  have := pk_inj hn hcov hq.2 (show j < nq by omega) hk ((key j (by omega) (of_decide_eq_true e)).trans (key k hk hc).symm)
  omega
end QK
