/-! ===== every point that is ON lies in a prime ===== -/
theorem b_one (n : Nat) (hn : n < 32) (i : Nat) : bt ((1 : Int32) <<< (nI n &&& 31)) i = decide (i = n) := by
  rcases Nat.lt_or_ge i 32 with h | h
  · rw [b_shl n hn 1 h, b_1]
    by_cases hE : i = n
    · subst hE; simp
    · rw [decide_eq_false hE]
      by_cases h1 : n ≤ i
      · rw [decide_eq_false (show ¬ i - n = 0 by omega), Bool.and_false]
      · rw [decide_eq_false h1, Bool.false_and]
  · rw [b_big h, decide_eq_false (by omega)]
theorem rOut_b {can : Nat → Int32} {has : Int32} {o : Nat} (OU : Nat) (hOU : OU ≤ 2) : bt (rOut can has OU) o = true ↔ o < OU ∧ has &&& (can o ^^^ (-1)) = 0 := by
  induction OU with
  | zero => exact ⟨fun h => (by rw [show rOut can has 0 = 0 from rfl, b_0] at h; cases h), fun h => absurd h.1 (Nat.not_lt_zero o)⟩
  | succ n ih =>
    rw [show rOut can has (n + 1) = (if has &&& (can n ^^^ (-1)) = 0 then rOut can has n ||| ((1 : Int32) <<< (nI n &&& 31)) else rOut can has n) from rfl]
    have ih := ih (by omega)
    split
    · next hc =>
      rw [b_or, b_one n (by omega), Bool.or_eq_true, ih, decide_eq_true_eq]
      constructor
      · rintro (⟨h1, h2⟩ | h1)
        · exact ⟨by omega, h2⟩
        · subst h1; exact ⟨by omega, hc⟩
      · rintro ⟨h1, h2⟩
        by_cases hE : o = n
        · exact Or.inr hE
        · exact Or.inl ⟨by omega, h2⟩
    · next hc =>
      rw [ih]
      constructor
      · rintro ⟨h1, h2⟩; exact ⟨by omega, h2⟩
      · rintro ⟨h1, h2⟩
        refine ⟨?_, h2⟩
        apply Classical.byContradiction
        intro hn
        rw [show o = n by omega] at h2
        exact hc h2
theorem rOut_v {can : Nat → Int32} {has : Int32} {OU : Nat} (h : OU ≤ 2) : rOut can has OU = 0 ∨ rOut can has OU = 1 ∨ rOut can has OU = 2 ∨ rOut can has OU = 3 := by
  have key : rOut can has 1 = 0 ∨ rOut can has 1 = 1 := by
    rw [show rOut can has 1 = (if has &&& (can 0 ^^^ (-1)) = 0 then (0 : Int32) ||| ((1 : Int32) <<< (nI 0 &&& 31)) else 0) from rfl]
    split
    · exact Or.inr (by decide +kernel)
    · exact Or.inl rfl
  rcases (show OU = 0 ∨ OU = 1 ∨ OU = 2 by omega) with rfl | rfl | rfl
  · exact Or.inl rfl
  · rcases key with h | h
    · exact Or.inl h
    · exact Or.inr (Or.inl h)
  · rw [show rOut can has 2 = (if has &&& (can 1 ^^^ (-1)) = 0 then rOut can has 1 ||| ((1 : Int32) <<< (nI 1 &&& 31)) else rOut can has 1) from rfl]
    rcases key with h | h <;> rw [h] <;> split <;> decide +kernel
theorem oP_pos {N OU p o : Nat} {can : Nat → Int32} (hOU : OU ≤ 2) (h : bt (oP N OU can p) o = true) : ¬ oP N OU can p ≤ 0 := by
  unfold oP at h ⊢
  rcases rOut_v (can := can) (has := rPts N p (2 ^ N)) hOU with h1 | h1 | h1 | h1 <;> rw [h1] at h ⊢
  · rw [b_0] at h; cases h
  · decide
  · decide
  · decide
theorem oP_b0 {N OU p : Nat} {can : Nat → Int32} (hOU : OU ≤ 2) (h : bt (oP N OU can p) 0 = true) : oP N OU can p &&& 1 = 1 := by
  unfold oP at h ⊢
  rcases rOut_v (can := can) (has := rPts N p (2 ^ N)) hOU with h1 | h1 | h1 | h1 <;> rw [h1] at h ⊢
  · exact absurd h (by decide +kernel)
  · decide +kernel
  · exact absurd h (by decide +kernel)
  · decide +kernel
theorem oP_b1 {N OU p : Nat} {can : Nat → Int32} (hOU : OU ≤ 2) (h : bt (oP N OU can p) 1 = true) : ¬ oP N OU can p ≤ 1 := by
  unfold oP at h ⊢
  rcases rOut_v (can := can) (has := rPts N p (2 ^ N)) hOU with h1 | h1 | h1 | h1 <;> rw [h1] at h ⊢
  · exact absurd h (by decide +kernel)
  · exact absurd h (by decide +kernel)
  · decide +kernel
  · decide +kernel
theorem prB_i {N OU p : Nat} {can : Nat → Int32} (i : Nat) : prB N OU can p i = true ↔ ¬ oP N OU can p ≤ 0 ∧ ∀ q, q < i → prT N OU can p q = true := by
  induction i with
  | zero =>
    rw [show prB N OU can p 0 = !decide (oP N OU can p ≤ 0) from rfl, Bool.not_eq_true', decide_eq_false_iff_not]
    exact ⟨fun h => ⟨h, fun q hq => absurd hq (Nat.not_lt_zero q)⟩, fun h => h.1⟩
  | succ i ih =>
    rw [prB_s, Bool.and_eq_true, ih]
    constructor
    · rintro ⟨⟨h1, h2⟩, h3⟩
      refine ⟨h1, fun q hq => ?_⟩
      by_cases hE : q = i
      · subst hE; exact h3
      · exact h2 q (by omega)
    · rintro ⟨h1, h2⟩
      exact ⟨⟨h1, fun q hq => h2 q (by omega)⟩, h2 i (by omega)⟩
/-- the points of each product -/
def tbl : Nat → List Nat
  | 0 => [1]
  | 1 => [1, 2, 3]
  | 2 => [1, 4, 5, 2, 8, 10, 3, 12, 15]
  | 3 => [1, 16, 17, 4, 64, 68, 5, 80, 85, 2, 32, 34, 8, 128, 136, 10, 160, 170, 3, 48, 51, 12, 192, 204, 15, 240, 255]
  | 4 => [1, 256, 257, 16, 4096, 4112, 17, 4352, 4369, 4, 1024, 1028, 64, 16384, 16448, 68, 17408, 17476, 5, 1280, 1285, 80, 20480, 20560, 85, 21760, 21845, 2, 512, 514, 32, 8192, 8224, 34, 8704, 8738, 8, 2048, 2056, 128, 32768, 32896, 136, 34816, 34952, 10, 2560, 2570, 160, 40960, 41120, 170, 43520, 43690, 3, 768, 771, 48, 12288, 12336, 51, 13056, 13107, 12, 3072, 3084, 192, 49152, 49344, 204, 52224, 52428, 15, 3840, 3855, 240, 61440, 61680, 255, 65280, 65535]
  | _ => []
theorem tbl_chk : ((List.range 5).all fun N => decide ((List.range (3 ^ N)).map (fun p => rPts N p (2 ^ N)) = (tbl N).map nI) && (decide ((tbl N).length = 3 ^ N) && true)) = true := by decide +kernel
theorem tbl_len {N : Nat} (hN : N ≤ 4) : (tbl N).length = 3 ^ N := by
  have h := List.all_eq_true.mp tbl_chk N (List.mem_range.mpr (by omega))
  rw [Bool.and_eq_true, Bool.and_eq_true] at h
  exact of_decide_eq_true h.2.1
theorem rPts_t {N p : Nat} (hN : N ≤ 4) (hp : p < 3 ^ N) : ∃ m, (tbl N)[p]? = some m ∧ rPts N p (2 ^ N) = nI m := by
  have h := List.all_eq_true.mp tbl_chk N (List.mem_range.mpr (by omega))
  rw [Bool.and_eq_true] at h
  have h1 := congrArg (fun l => l[p]?) (of_decide_eq_true h.1)
  simp only [List.getElem?_map, List.getElem?_range hp, Option.map_some] at h1
  cases h2 : (tbl N)[p]? with
  | none => rw [h2] at h1; cases h1
  | some m => rw [h2] at h1; exact ⟨m, rfl, Option.some.inj h1⟩
theorem tbl_sm : ((List.range 5).all fun N => (tbl N).all fun m => decide (m < 65536) && (List.range 32).all fun e => !bt (nI m) e || decide (e < 2 ^ N)) = true := by decide +kernel
theorem tbl_1 : ((List.range 5).all fun N => (List.range (2 ^ N)).all fun a => (tbl N).any fun m => decide (nI m = (1 : Int32) <<< (nI a &&& 31))) = true := by decide +kernel
theorem tbl_inj : ((List.range 5).all fun N => (List.range (3 ^ N)).all fun p => (List.range (3 ^ N)).all fun q => !decide ((tbl N)[p]? = (tbl N)[q]?) || decide (p = q)) = true := by decide +kernel
theorem rPts_inj {N p q : Nat} (hN : N ≤ 4) (hp : p < 3 ^ N) (hq : q < 3 ^ N) (h : rPts N p (2 ^ N) = rPts N q (2 ^ N)) : p = q := by
  obtain ⟨a, ha, ea⟩ := rPts_t hN hp
  obtain ⟨b, hb, eb⟩ := rPts_t hN hq
  have hs := List.all_eq_true.mp tbl_sm N (List.mem_range.mpr (by omega))
  have sa : a < 65536 := by
    have := List.all_eq_true.mp hs a (List.mem_of_getElem? ha)
    rw [Bool.and_eq_true] at this
    exact of_decide_eq_true this.1
  have sb : b < 65536 := by
    have := List.all_eq_true.mp hs b (List.mem_of_getElem? hb)
    rw [Bool.and_eq_true] at this
    exact of_decide_eq_true this.1
  rw [ea, eb] at h
  have hab := (nI_eq (a := a) (b := b) (by omega) (by omega)).mp h
  subst hab
  have h5 := List.all_eq_true.mp (List.all_eq_true.mp (List.all_eq_true.mp tbl_inj N (List.mem_range.mpr (by omega))) p (List.mem_range.mpr hp)) q (List.mem_range.mpr hq)
  rw [ha, hb, decide_eq_true rfl] at h5
  exact of_decide_eq_true h5
theorem rPts_e {N p e : Nat} (hN : N ≤ 4) (hp : p < 3 ^ N) (he : e < 32) (h : bt (rPts N p (2 ^ N)) e = true) : e < 2 ^ N := by
  obtain ⟨m, hm, em⟩ := rPts_t hN hp
  have hs := List.all_eq_true.mp (List.all_eq_true.mp tbl_sm N (List.mem_range.mpr (by omega))) m (List.mem_of_getElem? hm)
  rw [Bool.and_eq_true] at hs
  have h2 := List.all_eq_true.mp hs.2 e (List.mem_range.mpr he)
  rw [← em, h] at h2
  exact of_decide_eq_true h2
theorem rPts_1 {N a : Nat} (hN : N ≤ 4) (ha : a < 2 ^ N) : ∃ p, p < 3 ^ N ∧ rPts N p (2 ^ N) = (1 : Int32) <<< (nI a &&& 31) := by
  have h := List.all_eq_true.mp (List.all_eq_true.mp tbl_1 N (List.mem_range.mpr (by omega))) a (List.mem_range.mpr ha)
  obtain ⟨m, hm, hE⟩ := List.any_eq_true.mp h
  obtain ⟨p, hp⟩ := List.getElem?_of_mem hm
  have hl : p < 3 ^ N := by rw [← tbl_len hN]; exact (List.getElem?_eq_some_iff.mp hp).1
  obtain ⟨m', hm', em⟩ := rPts_t hN hl
  rw [hp] at hm'
  cases hm'
  exact ⟨p, hl, em.trans (of_decide_eq_true hE)⟩
theorem sub_eq {x y : Int32} (h : x &&& (y ^^^ (-1)) = 0) (hz : zc x ≤ zc y) : x = y := by
  refine b_ext (fun e he => ?_)
  cases hx : bt x e with
  | true => exact ((nb0 x y).mp h e he hx).symm
  | false =>
    cases hy : bt y e with
    | false => rfl
    | true =>
      have : zc y < zc x := cnt_lt he (fun k hk h1 => by
        cases hb : bt x k with
        | false => rfl
        | true =>
          have h2 := (nb0 x y).mp h k hk hb
          rw [h2] at h1
          cases h1) (by rw [hy]; rfl) (by rw [hx]; rfl)
      omega
theorem pr_ex {N OU Z a o : Nat} {can : Nat → Int32} (hN : N ≤ 4) (hZ : 3 ^ N = Z) (hOU : OU ≤ 2) (ha : a < 2 ^ N) (ho : o < OU) (hc : bt (can o) a = true) : ∃ p, p < Z ∧ prB N OU can p Z = true ∧ bt (rPts N p (2 ^ N)) a = true ∧ bt (oP N OU can p) o = true := by
  subst hZ
  have ha32 : a < 32 := by have := (pw_ok hN).2; omega
  obtain ⟨p0, hp0, e0⟩ := rPts_1 hN ha
  have hb0 : bt (rPts N p0 (2 ^ N)) a = true := by rw [e0, b_one a ha32, decide_eq_true rfl]
  have ho0 : bt (oP N OU can p0) o = true := by
    refine (rOut_b OU hOU).mpr ⟨ho, (nb0 _ _).mpr (fun e he h => ?_)⟩
    rw [e0, b_one a ha32] at h
    rw [of_decide_eq_true h]
    exact hc
  obtain ⟨z, ⟨p, hp, hz, h1, h2⟩, hmin⟩ := pk_least (fun z => ∃ p, p < 3 ^ N ∧ zc (rPts N p (2 ^ N)) = z ∧ bt (rPts N p (2 ^ N)) a = true ∧ bt (oP N OU can p) o = true) ⟨_, p0, hp0, rfl, hb0, ho0⟩
  refine ⟨p, hp, (prB_i _).mpr ⟨oP_pos hOU h2, fun q hq => ?_⟩, h1, h2⟩
  by_cases hE : q = p
  · exact prT_1 hE
  · by_cases h3 : rPts N p (2 ^ N) &&& (rPts N q (2 ^ N) ^^^ (-1)) = 0
    · by_cases h4 : oP N OU can p &&& (oP N OU can q ^^^ (-1)) = 0
      · exfalso
        have hq1 := (nb0 _ _).mp h3 a ha32 h1
        have hq2 := (nb0 _ _).mp h4 o (by omega) h2
        have hle : z ≤ zc (rPts N q (2 ^ N)) := by
          apply Classical.byContradiction
          intro hn
          exact hmin _ (by omega) ⟨q, hq, rfl, hq1, hq2⟩
        exact hE (rPts_inj hN hp hq (sub_eq h3 (by omega))).symm
      · exact prT_3 h4
    · exact prT_2 h3
theorem kOn_c {N : Nat} {dg : Nat → Nat} {kd : Nat → Int32} {o e : Nat} (c : Nat) (h : bt (kOn N dg kd o c) e = true) : bt (kCan N dg kd o c) e = true := by
  induction c with
  | zero => rw [show kOn N dg kd o 0 = 0 from rfl, b_0] at h; cases h
  | succ c ih =>
    rw [show kOn N dg kd o (c + 1) = (if kd (2 * c + o) = 1 then kOn N dg kd o c ||| rPts N (pnum dg c N) (2 ^ N) else kOn N dg kd o c) from rfl] at h
    rw [show kCan N dg kd o (c + 1) = (if kd (2 * c + o) ≤ 0 then kCan N dg kd o c else kCan N dg kd o c ||| rPts N (pnum dg c N) (2 ^ N)) from rfl]
    by_cases h1 : kd (2 * c + o) = 1
    · rw [if_pos h1, b_or, Bool.or_eq_true] at h
      rw [if_neg (by rw [h1]; decide), b_or, Bool.or_eq_true]
      exact h.elim (fun h => Or.inl (ih h)) Or.inr
    · rw [if_neg h1] at h
      split
      · exact ih h
      · rw [b_or, Bool.or_eq_true]; exact Or.inl (ih h)
theorem kOn_e {N : Nat} {dg : Nat → Nat} {kd : Nat → Int32} {o e : Nat} (hN : N ≤ 4) (hdg : ∀ j, dg j ≤ 2) (he : e < 32) (c : Nat) (h : bt (kOn N dg kd o c) e = true) : e < 2 ^ N := by
  induction c with
  | zero => rw [show kOn N dg kd o 0 = 0 from rfl, b_0] at h; cases h
  | succ c ih =>
    rw [show kOn N dg kd o (c + 1) = (if kd (2 * c + o) = 1 then kOn N dg kd o c ||| rPts N (pnum dg c N) (2 ^ N) else kOn N dg kd o c) from rfl] at h
    split at h
    · rw [b_or, Bool.or_eq_true] at h
      exact h.elim ih (fun h => rPts_e hN (pnum_lt hdg c N) he h)
    · exact ih h
theorem itr2 {α : Type} (f : Nat → α → α) (a : α) : itr f 2 a = f 1 (f 0 a) := rfl
theorem two_at (k : Nat → Int32) (f : Nat → Int32) : itr (fun o f => upd f o (k o)) 2 f 0 = k 0 ∧ itr (fun o f => upd f o (k o)) 2 f 1 = k 1 := by
  rw [itr2]
  constructor
  · show upd (upd f 0 (k 0)) 1 (k 1) 0 = k 0
    rw [pk_un (by decide), pk_us]
  · show upd (upd f 0 (k 0)) 1 (k 1) 1 = k 1
    rw [pk_us]
theorem sOn_at {N : Nat} {dg : Nat → Nat} {kd : Nat → Int32} {M : Nat} {on : Nat → Int32} : sOn N dg kd M on 2 0 = kOn N dg kd 0 M ∧ sOn N dg kd M on 2 1 = kOn N dg kd 1 M := by
  unfold sOn
  exact two_at (fun o => kOn N dg kd o M) on
theorem sCan_at {N : Nat} {dg : Nat → Nat} {kd : Nat → Int32} {M : Nat} {can : Nat → Int32} : sCan N dg kd M can 2 0 = kCan N dg kd 0 M ∧ sCan N dg kd M can 2 1 = kCan N dg kd 1 M := by
  unfold sCan
  exact two_at (fun o => kCan N dg kd o M) can
theorem stF_all {N OU Z : Nat} {on can : Nat → Int32} {x : Nat × (Nat → Int32) × (Nat → Int32) × (Nat → Int32) × (Nat → Int32)} {p : Nat} (hpr : prB N OU can p Z = true) (i : Nat) (hp : p < i) : ∃ k, k < (stF N OU Z on can x i).1 ∧ (stF N OU Z on can x i).2.2.2.2 k = tP N OU on can p := by
  induction i with
  | zero => omega
  | succ i ih =>
    rw [show stF N OU Z on can x (i + 1) = (if prB N OU can i Z = true then ((stF N OU Z on can x i).1 + 1, upd (stF N OU Z on can x i).2.1 (stF N OU Z on can x i).1 (nI i), upd (stF N OU Z on can x i).2.2.1 (stF N OU Z on can x i).1 (oP N OU can i), upd (stF N OU Z on can x i).2.2.2.1 (stF N OU Z on can x i).1 (rCost N i (oP N OU can i) N), upd (stF N OU Z on can x i).2.2.2.2 (stF N OU Z on can x i).1 (tP N OU on can i)) else stF N OU Z on can x i) from rfl]
    by_cases hE : p = i
    · subst hE
      rw [if_pos hpr]
      exact ⟨_, Nat.lt_succ_self _, pk_us⟩
    · obtain ⟨k, hk, he⟩ := ih (by omega)
      split
      · exact ⟨k, Nat.lt_succ_of_lt hk, (pk_un (by omega)).trans he⟩
      · exact ⟨k, hk, he⟩
theorem stF_pp {N OU Z : Nat} {on can : Nat → Int32} {x : Nat × (Nat → Int32) × (Nat → Int32) × (Nat → Int32) × (Nat → Int32)} (hx : x.1 = 0) (i : Nat) : ∀ k, k < (stF N OU Z on can x i).1 → ∃ c, c < i ∧ (stF N OU Z on can x i).2.1 k = nI c := by
  induction i with
  | zero => intro k hk; rw [show stF N OU Z on can x 0 = x from rfl, hx] at hk; omega
  | succ i ih =>
    rw [show stF N OU Z on can x (i + 1) = (if prB N OU can i Z = true then ((stF N OU Z on can x i).1 + 1, upd (stF N OU Z on can x i).2.1 (stF N OU Z on can x i).1 (nI i), upd (stF N OU Z on can x i).2.2.1 (stF N OU Z on can x i).1 (oP N OU can i), upd (stF N OU Z on can x i).2.2.2.1 (stF N OU Z on can x i).1 (rCost N i (oP N OU can i) N), upd (stF N OU Z on can x i).2.2.2.2 (stF N OU Z on can x i).1 (tP N OU on can i)) else stF N OU Z on can x i) from rfl]
    split
    · intro k hk
      by_cases hE : k = (stF N OU Z on can x i).1
      · exact ⟨i, Nat.lt_succ_self i, by rw [hE]; exact pk_us⟩
      · obtain ⟨c, h1, h2⟩ := ih k (by have : k < (stF N OU Z on can x i).1 + 1 := hk; omega)
        exact ⟨c, by omega, (pk_un hE).trans h2⟩
    · intro k hk
      obtain ⟨c, h1, h2⟩ := ih k hk
      exact ⟨c, by omega, h2⟩
/-- what is to be had -/
def wnt (OU : Nat) (on : Nat → Int32) : Int32 := on 0 ||| (if nI OU = 2 then on 1 <<< ((16 : Int32) &&& 31) else 0)
theorem cov_ok {N OU Z M : Nat} {dg : Nat → Nat} {kd on can : Nat → Int32} {x : Nat × (Nat → Int32) × (Nat → Int32) × (Nat → Int32) × (Nat → Int32)} (hN : N ≤ 4) (hOU : OU ≤ 2) (hO1 : 1 ≤ OU) (hZ : 3 ^ N = Z) (hdg : ∀ j, dg j ≤ 2) : ∀ e, e < 32 → bt (wnt OU (sOn N dg kd M on 2)) e = true → ∃ k, k < (stF N OU Z (sOn N dg kd M on 2) (sCan N dg kd M can 2) x Z).1 ∧ bt ((stF N OU Z (sOn N dg kd M on 2) (sCan N dg kd M can 2) x Z).2.2.2.2 k) e = true := by
  intro e he hb
  unfold wnt at hb
  rw [b_or, Bool.or_eq_true] at hb
  have p16 := (pw_ok hN).2
  rcases hb with hb | hb
  · rw [sOn_at.1] at hb
    have he2 := kOn_e hN hdg he M hb
    obtain ⟨p, hp, h1, h2, h3⟩ := pr_ex (can := sCan N dg kd M can 2) (o := 0) hN hZ hOU he2 (by omega) (by rw [sCan_at.1]; exact kOn_c M hb)
    obtain ⟨k, hk, hE⟩ := stF_all (on := sOn N dg kd M on 2) (x := x) h1 Z hp
    refine ⟨k, hk, ?_⟩
    rw [hE]
    unfold tP
    rw [b_or, if_pos (oP_b0 hOU h3), b_and, h2, sOn_at.1, hb]
    rfl
  · split at hb
    · next h2 =>
      have hO2 : OU = 2 := (nI_eq (a := OU) (b := 2) (by omega) (by omega)).mp h2
      rw [b_shl16 _ he, Bool.and_eq_true] at hb
      have h16 := of_decide_eq_true hb.1
      have hb1 := hb.2
      rw [sOn_at.2] at hb1
      have he2 := kOn_e hN hdg (by omega) M hb1
      obtain ⟨p, hp, h1, h2, h3⟩ := pr_ex (can := sCan N dg kd M can 2) (o := 1) hN hZ hOU he2 (by omega) (by rw [sCan_at.2]; exact kOn_c M hb1)
      obtain ⟨k, hk, hE⟩ := stF_all (on := sOn N dg kd M on 2) (x := x) h1 Z hp
      refine ⟨k, hk, ?_⟩
      rw [hE]
      unfold tP
      rw [b_or, if_neg (oP_b1 hOU h3), b_shl16 _ he, decide_eq_true h16, b_and, h2, sOn_at.2, hb1, Bool.or_eq_true]
      exact Or.inr rfl
    · rw [b_0] at hb; cases hb
