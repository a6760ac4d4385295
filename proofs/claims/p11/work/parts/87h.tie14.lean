/-! ===== how many different ones: any order of looking ===== -/
def okL (x : Nat × (Nat → Int32)) (L : List Int32) : Prop := L.Nodup ∧ x.1 = L.length ∧ ∀ v, v ∈ L ↔ ∃ j, j < x.1 ∧ x.2 j = v
theorem okL_add {x : Nat × (Nat → Int32)} {L : List Int32} {v : Int32} (h : okL x L) (hv : ¬ v ∈ L) : okL (x.1 + 1, upd x.2 x.1 v) (v :: L) := by
  obtain ⟨h1, h2, h3⟩ := h
  refine ⟨List.nodup_cons.mpr ⟨hv, h1⟩, by show x.1 + 1 = L.length + 1; rw [h2], fun u => ?_⟩
  rw [List.mem_cons, h3]
  constructor
  · rintro (rfl | ⟨j, hj, e⟩)
    · exact ⟨x.1, Nat.lt_succ_self _, pk_us⟩
    · exact ⟨j, Nat.lt_succ_of_lt hj, (pk_un (Nat.ne_of_lt hj)).trans e⟩
  · rintro ⟨j, hj, e⟩
    by_cases hE : j = x.1
    · subst hE
      exact Or.inl ((show upd x.2 x.1 v x.1 = u from e) ▸ pk_us.symm ▸ rfl)
    · exact Or.inr ⟨j, Nat.lt_of_le_of_ne (Nat.le_of_lt_succ hj) hE, (pk_un hE).symm.trans e⟩
def gI (F : Nat → Int32) (K : Nat → Bool) (n : Nat) (x : Nat × (Nat → Int32)) : Nat × (Nat → Int32) := itr (fun q x => if (K q && !anyB (fun j => decide (x.2 j = F q)) x.1) = true then (x.1 + 1, upd x.2 x.1 (F q)) else x) n x
def gO (F : Nat → Nat → Int32) (K : Nat → Nat → Bool) (LW n : Nat) (x : Nat × (Nat → Int32)) : Nat × (Nat → Int32) := itr (fun o x => gI (F o) (K o) LW x) n x
theorem okL_any {x : Nat × (Nat → Int32)} {L : List Int32} {v : Int32} (h : okL x L) : anyB (fun j => decide (x.2 j = v)) x.1 = true ↔ v ∈ L := by
  rw [anyB_iff, h.2.2]
  exact ⟨fun ⟨j, hj, e⟩ => ⟨j, hj, of_decide_eq_true e⟩, fun ⟨j, hj, e⟩ => ⟨j, hj, decide_eq_true e⟩⟩
theorem gI_ok {F : Nat → Int32} {K : Nat → Bool} {x : Nat × (Nat → Int32)} {L : List Int32} (h : okL x L) (n : Nat) : ∃ L2, okL (gI F K n x) L2 ∧ ∀ v, v ∈ L2 ↔ v ∈ L ∨ ∃ q, q < n ∧ K q = true ∧ F q = v := by
  induction n with
  | zero => exact ⟨L, h, fun v => ⟨Or.inl, fun g => g.elim id (fun ⟨q, hq, _⟩ => absurd hq (Nat.not_lt_zero q))⟩⟩
  | succ n ih =>
    obtain ⟨L2, g1, g2⟩ := ih
    have ha := okL_any (v := F n) g1
    rw [show gI F K (n + 1) x = (if (K n && !anyB (fun j => decide ((gI F K n x).2 j = F n)) (gI F K n x).1) = true then ((gI F K n x).1 + 1, upd (gI F K n x).2 (gI F K n x).1 (F n)) else gI F K n x) from rfl]
    have hs : ∀ v, (∃ q, q < n + 1 ∧ K q = true ∧ F q = v) ↔ (∃ q, q < n ∧ K q = true ∧ F q = v) ∨ (K n = true ∧ F n = v) := by
      intro v
      constructor
      · rintro ⟨q, hq, a, b⟩
        by_cases hE : q = n
        · subst hE; exact Or.inr ⟨a, b⟩
        · exact Or.inl ⟨q, by omega, a, b⟩
      · rintro (⟨q, hq, a, b⟩ | ⟨a, b⟩)
        · exact ⟨q, by omega, a, b⟩
        · exact ⟨n, by omega, a, b⟩
    by_cases hk : K n = true
    · by_cases hm : F n ∈ L2
      · rw [if_neg (by rw [hk, ha.mpr hm]; decide)]
        refine ⟨L2, g1, fun v => ?_⟩
        rw [hs, g2]
        constructor
        · rintro (a | a)
          · exact Or.inl a
          · exact Or.inr (Or.inl a)
        · rintro (a | a | ⟨_, a⟩)
          · exact Or.inl a
          · exact Or.inr a
          · subst a; exact (g2 _).mp hm
      · rw [if_pos (by rw [hk, Bool.eq_false_iff.mpr (fun e => hm (ha.mp e))]; rfl)]
        refine ⟨F n :: L2, okL_add g1 hm, fun v => ?_⟩
        rw [hs, List.mem_cons, g2]
        constructor
        · rintro (a | a | a)
          · exact Or.inr (Or.inr ⟨hk, a.symm⟩)
          · exact Or.inl a
          · exact Or.inr (Or.inl a)
        · rintro (a | a | ⟨_, a⟩)
          · exact Or.inr (Or.inl a)
          · exact Or.inr (Or.inr a)
          · exact Or.inl a.symm
    · rw [if_neg (by rw [Bool.eq_false_iff.mpr hk]; exact Bool.false_ne_true)]
      refine ⟨L2, g1, fun v => ?_⟩
      rw [hs, g2]
      constructor
      · rintro (a | a)
        · exact Or.inl a
        · exact Or.inr (Or.inl a)
      · rintro (a | a | ⟨a, _⟩)
        · exact Or.inl a
        · exact Or.inr a
        · exact absurd a hk
theorem gO_ok {F : Nat → Nat → Int32} {K : Nat → Nat → Bool} {LW : Nat} {s : Nat → Int32} (n : Nat) : ∃ L, okL (gO F K LW n (0, s)) L ∧ ∀ v, v ∈ L ↔ ∃ o, o < n ∧ ∃ q, q < LW ∧ K o q = true ∧ F o q = v := by
  induction n with
  | zero => exact ⟨[], ⟨List.nodup_nil, rfl, fun v => ⟨fun h => absurd h (List.not_mem_nil), fun ⟨j, hj, _⟩ => absurd hj (Nat.not_lt_zero j)⟩⟩, fun v => ⟨fun h => absurd h (List.not_mem_nil), fun ⟨o, ho, _⟩ => absurd ho (Nat.not_lt_zero o)⟩⟩
  | succ n ih =>
    obtain ⟨L, g1, g2⟩ := ih
    obtain ⟨L2, f1, f2⟩ := gI_ok (F := F n) (K := K n) g1 LW
    refine ⟨L2, f1, fun v => ?_⟩
    rw [f2, g2]
    constructor
    · rintro (⟨o, ho, a⟩ | a)
      · exact ⟨o, by omega, a⟩
      · exact ⟨n, by omega, a⟩
    · rintro ⟨o, ho, a⟩
      by_cases hE : o = n
      · subst hE; exact Or.inr a
      · exact Or.inl ⟨o, by omega, a⟩
theorem nodup_map {φ : Int32 → Int32} : ∀ (L : List Int32), L.Nodup → (∀ x, x ∈ L → ∀ y, y ∈ L → φ x = φ y → x = y) → (L.map φ).Nodup
  | [], _, _ => List.nodup_nil
  | a :: L, h, hi => by
    obtain ⟨h1, h2⟩ := List.nodup_cons.mp h
    refine List.nodup_cons.mpr ⟨fun hm => ?_, nodup_map L h2 (fun x hx y hy e => hi x (List.mem_cons_of_mem _ hx) y (List.mem_cons_of_mem _ hy) e)⟩
    obtain ⟨b, hb, e⟩ := List.mem_map.mp hm
    exact h1 (hi a List.mem_cons_self b (List.mem_cons_of_mem _ hb) e.symm ▸ hb)
theorem gO_eq {F F2 : Nat → Nat → Int32} {K K2 : Nat → Nat → Bool} {LW n : Nat} {s s2 : Nat → Int32} (φ : Int32 → Int32) (rv : Nat → Nat) (h1 : ∀ o, o < n → ∀ v, v < LW → rv v < LW ∧ F2 o v = φ (F o (rv v)) ∧ K2 o v = K o (rv v)) (h2 : ∀ p, p < LW → ∃ v, v < LW ∧ rv v = p) (h3 : ∀ o, o < n → ∀ p, p < LW → ∀ o2, o2 < n → ∀ p2, p2 < LW → φ (F o p) = φ (F o2 p2) → F o p = F o2 p2) : (gO F K LW n (0, s)).1 = (gO F2 K2 LW n (0, s2)).1 := by
  obtain ⟨L, g1, g2⟩ := gO_ok (F := F) (K := K) (LW := LW) (s := s) n
  obtain ⟨M, f1, f2⟩ := gO_ok (F := F2) (K := K2) (LW := LW) (s := s2) n
  rw [g1.2.1, f1.2.1]
  have hm : ∀ v, v ∈ M ↔ v ∈ L.map φ := by
    intro v
    rw [f2, List.mem_map]
    constructor
    · rintro ⟨o, ho, q, hq, a, b⟩
      obtain ⟨k1, k2, k3⟩ := h1 o ho q hq
      exact ⟨F o (rv q), (g2 _).mpr ⟨o, ho, rv q, k1, k3 ▸ a, rfl⟩, k2.symm.trans b⟩
    · rintro ⟨u, hu, e⟩
      obtain ⟨o, ho, p, hp, a, b⟩ := (g2 u).mp hu
      obtain ⟨w, hw, rfl⟩ := h2 p hp
      obtain ⟨k1, k2, k3⟩ := h1 o ho w hw
      exact ⟨o, ho, w, hw, k3.trans a, by rw [k2, b, e]⟩
  have hn : (L.map φ).Nodup := nodup_map L g1.1 (fun x hx y hy e => by
    obtain ⟨o, ho, p, hp, _, rfl⟩ := (g2 x).mp hx
    obtain ⟨o2, ho2, p2, hp2, _, rfl⟩ := (g2 y).mp hy
    exact h3 o ho p hp o2 ho2 p2 hp2 e)
  have a := List.Nodup.length_le_of_subset hn (fun v hv => (hm v).mpr hv)
  have b := List.Nodup.length_le_of_subset f1.1 (fun v hv => (hm v).mp hv)
  rw [List.length_map] at a b
  exact Nat.le_antisymm a b
/-! ===== the tables of a diagram by bits ===== -/
theorem sh1 {x : Int32} {n : Nat} (hn : n < 32) : (x >>> (nI n &&& 31)) &&& 1 = if bt x n = true then 1 else 0 := by
  refine b_ext (fun i hi => ?_)
  rw [b_and, b_1, b_sshr n hn x hi]
  by_cases h0 : i = 0
  · subst h0
    rw [if_pos (by omega), Nat.add_zero]
    cases bt x n <;> decide
  · rw [decide_eq_false h0, Bool.and_false]
    split
    · rw [b_1, decide_eq_false h0]
    · rw [b_0]
theorem sh1_1 {x : Int32} {n : Nat} (hn : n < 32) : (x >>> (nI n &&& 31)) &&& 1 = 1 ↔ bt x n = true := by
  rw [sh1 hn]
  cases bt x n <;> decide
theorem sh1_e {x : Int32} {n m : Nat} (hn : n < 32) (hm : m < 32) : (x >>> (nI n &&& 31)) &&& 1 = (x >>> (nI m &&& 31)) &&& 1 ↔ bt x n = bt x m := by
  rw [sh1 hn, sh1 hm]
  cases bt x n <;> cases bt x m <;> decide
/-- the inputs in their order -/
def aq (N od k : Nat) : Int32 := (iaS N od (k + 1)).2.2.2
def sA (N od i : Nat) : Int32 × Int32 := itr (fun k x => (x.1 - (if fac (N - 1 - k) ≤ 0 then 0 else x.1 / fac (N - 1 - k)) * fac (N - 1 - k), x.2 &&& (((1 : Int32) <<< (fIA x.2 (if fac (N - 1 - k) ≤ 0 then 0 else x.1 / fac (N - 1 - k)) N 0 0 &&& 31)) ^^^ (-1)))) i (nI od, ((1 : Int32) <<< (nI N &&& 31)) - 1)
def sQ (N od k : Nat) : Int32 := fIA (sA N od k).2 (if fac (N - 1 - k) ≤ 0 then 0 else (sA N od k).1 / fac (N - 1 - k)) N 0 0
theorem stA_sA (N od : Nat) (asked : Nat → Int32) (i : Nat) : (stA N (nI od) i asked).1 = (sA N od i).1 ∧ (stA N (nI od) i asked).2.1 = (sA N od i).2 ∧ ∀ k, k < i → (stA N (nI od) i asked).2.2 k = sQ N od k := by
  induction i with
  | zero => exact ⟨rfl, rfl, fun k hk => absurd hk (Nat.not_lt_zero k)⟩
  | succ i ih =>
    obtain ⟨h1, h2, h3⟩ := ih
    refine ⟨?_, ?_, fun k hk => ?_⟩
    · show (stA N (nI od) i asked).1 - (if fac (N - 1 - i) ≤ 0 then 0 else (stA N (nI od) i asked).1 / fac (N - 1 - i)) * fac (N - 1 - i) = (sA N od i).1 - (if fac (N - 1 - i) ≤ 0 then 0 else (sA N od i).1 / fac (N - 1 - i)) * fac (N - 1 - i)
      rw [h1]
    · show (stA N (nI od) i asked).2.1 &&& (((1 : Int32) <<< (fIA (stA N (nI od) i asked).2.1 (if fac (N - 1 - i) ≤ 0 then 0 else (stA N (nI od) i asked).1 / fac (N - 1 - i)) N 0 0 &&& 31)) ^^^ (-1)) = (sA N od i).2 &&& (((1 : Int32) <<< (fIA (sA N od i).2 (if fac (N - 1 - i) ≤ 0 then 0 else (sA N od i).1 / fac (N - 1 - i)) N 0 0 &&& 31)) ^^^ (-1))
      rw [h1, h2]
    · show upd (stA N (nI od) i asked).2.2 i (fIA (stA N (nI od) i asked).2.1 (if fac (N - 1 - i) ≤ 0 then 0 else (stA N (nI od) i asked).1 / fac (N - 1 - i)) N 0 0) k = _
      by_cases hE : k = i
      · subst hE
        rw [pk_us, h1, h2]
        rfl
      · rw [pk_un hE]; exact h3 k (by omega)
theorem fAsg_cong {f g : Nat → Int32} {N pl : Nat} (j : Nat) (h : ∀ k, k < j → f k = g k) : fAsg f N pl j = fAsg g N pl j := by
  induction j with
  | zero => rfl
  | succ j ih =>
    show fAsg f N pl j ||| (((nI pl >>> (((nI N - 1) - nI j) &&& 31)) &&& 1) <<< (f j &&& 31)) = fAsg g N pl j ||| (((nI pl >>> (((nI N - 1) - nI j) &&& 31)) &&& 1) <<< (g j &&& 31))
    rw [ih (fun k hk => h k (by omega)), h j (by omega)]
/-- the assignment at a place of the reordered table -/
def aN (N od pl : Nat) : Nat := (fAsg (sQ N od) N pl N).toNatClampNeg
/-- the assignment that a part looks at -/
def fN (N od v lev a : Nat) : Nat := (rFrm N od (nI v) a lev).toNatClampNeg
/-- the other value of the level's input -/
def xN (N od lev a : Nat) : Nat := (nI a ^^^ ((1 : Int32) <<< (aq N od lev &&& 31))).toNatClampNeg
/-- the place of an assignment in the reordered table -/
def plN (N od a : Nat) : Nat := itr (fun k acc => acc * 2 + (a / 2 ^ (sQ N od k).toNatClampNeg) % 2) N 0
def rvN (lev v : Nat) : Nat := itr (fun k acc => acc * 2 + (v / 2 ^ k) % 2) lev 0
def hfN (N lev : Nat) : Nat := 2 ^ (N - 1 - lev)
def ixN (N od lev a : Nat) : Nat := plN N od a % (2 * hfN N lev)
def c1B (N od : Nat) : Bool := (List.range (2 ^ N)).all (fun pl => decide (aN N od pl < 2 ^ N) && decide (fAsg (sQ N od) N pl N = nI (aN N od pl)))
def c2B (N od lev : Nat) : Bool := (List.range (2 ^ lev)).all (fun v => decide (rvN lev v < 2 ^ lev) && decide (rvN lev (rvN lev v) = v) && (List.range (2 ^ N)).all (fun a => decide (rFrm N od (nI v) a lev = nI (fN N od v lev a)) && decide (fN N od v lev a = aN N od (rvN lev v * (2 * hfN N lev) + ixN N od lev a))))
def c3B (N od lev : Nat) : Bool := (List.range (2 ^ N)).all (fun a => decide (xN N od lev a < 2 ^ N) && decide (nI a ^^^ ((1 : Int32) <<< (aq N od lev &&& 31)) = nI (xN N od lev a)) && decide (ixN N od lev (xN N od lev a) = if ixN N od lev a < hfN N lev then ixN N od lev a + hfN N lev else ixN N od lev a - hfN N lev)) && (List.range (2 * hfN N lev)).all (fun j => (List.range (2 ^ N)).any (fun a => decide (ixN N od lev a = j)))
def c4B (N lev : Nat) : Bool := decide (fHf N lev = nI (hfN N lev)) && decide (2 ^ lev * (2 * hfN N lev) = 2 ^ N) && decide (hfN N lev ≤ 8) && (List.range 32).all (fun e => (fHm N lev).toBitVec.getLsbD e == decide (e < hfN N lev)) && (List.range (2 ^ lev)).all (fun p => decide ((nI p * 2) * fHf N lev = nI (p * (2 * hfN N lev))))
def dgB : Bool := (List.range 5).all (fun N => (List.range N).all (fun lev => c4B N lev) && (List.range (rOrd N)).all (fun od => c1B N od && (List.range N).all (fun lev => c2B N od lev && c3B N od lev)))
set_option maxRecDepth 100000 in
theorem dg_c : dgB = true := by decide +kernel
