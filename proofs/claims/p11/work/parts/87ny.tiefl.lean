/-! ===== the rows of the finder are the reference's ===== -/
def apO (f : Nat → Int32) (o : Nat) : Int32 := itr (fun o acc => acc ||| (f o <<< ((nI o * 16) &&& 31))) o 0
def lo16 (x : Int32) : Prop := ∀ e, e < 32 → bt x e = true → e < 16
theorem lo_or {x y : Int32} (hx : lo16 x) (hy : lo16 y) : lo16 (x ||| y) := fun e he hb => by
  rw [b_or, Bool.or_eq_true] at hb
  exact hb.elim (hx e he) (hy e he)
theorem lo_0 : lo16 0 := fun e _ hb => by rw [b_0] at hb; cases hb
theorem lo_and {x y : Int32} (hx : lo16 x) : lo16 (x &&& y) := fun e he hb => by
  rw [b_and, Bool.and_eq_true] at hb
  exact hx e he hb.1
theorem lo_pts {N q : Nat} (a : Nat) (ha : a ≤ 16) : lo16 (rPts N q a) := by
  induction a with
  | zero => exact lo_0
  | succ a ih =>
    show lo16 (if rHs N q a N = 0 then rPts N q a else rPts N q a ||| ((1 : Int32) <<< (nI a &&& 31)))
    split
    · exact ih (by omega)
    · refine lo_or (ih (by omega)) (fun e he hb => ?_)
      rw [b_sl1 (by omega) he] at hb
      have := of_decide_eq_true hb
      omega
theorem lo_kW {N : Nat} (hN : N ≤ 4) {dg : Nat → Nat} {kd : Nat → Int32} {o : Nat} {wt : Int32} (c : Nat) : lo16 (kW N dg kd o wt c) := by
  induction c with
  | zero => exact lo_0
  | succ c ih =>
    show lo16 (if kd (2 * c + o) = wt then kW N dg kd o wt c ||| rPts N (pnum dg c N) (2 ^ N) else kW N dg kd o wt c)
    split
    · exact lo_or ih (lo_pts _ (pw16 hN))
    · exact ih
theorem apO_1 (f : Nat → Int32) : apO f 1 = f 0 := by
  show (0 : Int32) ||| (f 0 <<< ((nI 0 * 16) &&& 31)) = f 0
  refine b_ext (fun e he => ?_)
  rw [b_or, b_0, Bool.false_or, show (nI 0 * 16) &&& 31 = nI 0 &&& 31 from by decide +kernel, b_shl 0 (by omega) _ he]
  simp
theorem apO_2 (f : Nat → Int32) : apO f 2 = f 0 ||| (f 1 <<< ((16 : Int32) &&& 31)) := by
  show apO f 1 ||| (f 1 <<< ((nI 1 * 16) &&& 31)) = _
  rw [apO_1, show (nI 1 * 16) &&& 31 = (16 : Int32) &&& 31 from by decide +kernel]
theorem wnt_ap {on : Nat → Int32} {OU : Nat} (h1 : 1 ≤ OU) (hOU : OU ≤ 2) : wnt OU on = apO on OU := by
  unfold wnt
  rcases (show OU = 1 ∨ OU = 2 by omega) with rfl | rfl
  · rw [apO_1, if_neg (by decide)]
    refine b_ext (fun e he => ?_)
    rw [b_or, b_0, Bool.or_false]
  · rw [apO_2, if_pos (by decide)]
theorem apO_cong {f g : Nat → Int32} (o : Nat) (h : ∀ k, k < o → f k = g k) : apO f o = apO g o := by
  induction o with
  | zero => rfl
  | succ o ih =>
    show apO f o ||| (f o <<< ((nI o * 16) &&& 31)) = apO g o ||| (g o <<< ((nI o * 16) &&& 31))
    rw [ih (fun k hk => h k (by omega)), h o (by omega)]
theorem ap_and {a b c d : Int32} (ha : lo16 a) (hc : lo16 c) : (a ||| (b <<< ((16 : Int32) &&& 31))) &&& (c ||| (d <<< ((16 : Int32) &&& 31))) = (a &&& c) ||| ((b &&& d) <<< ((16 : Int32) &&& 31)) := by
  refine b_ext (fun e he => ?_)
  rw [b_and, b_or, b_or, b_or, b_and, b_shl16 _ he, b_shl16 _ he, b_shl16 _ he, b_and]
  by_cases h : 16 ≤ e
  · have h1 : bt a e = false := Bool.eq_false_iff.mpr (fun g => by have := ha e he g; omega)
    have h2 : bt c e = false := Bool.eq_false_iff.mpr (fun g => by have := hc e he g; omega)
    rw [h1, h2, decide_eq_true h]; simp
  · rw [decide_eq_false h]; simp
/-- a term's points for an output -/
theorem had_o {s : Nat} (hs : s < 4) {P : Int32} {o : Nat} (ho : o < 2) : (if (nI s >>> (nI o &&& 31)) &&& 1 = 1 then P else 0) = if bt (nI s) o = true then P else 0 := by
  by_cases h : bt (nI s) o = true
  · rw [if_pos ((sh1_1 (by omega)).mpr h), if_pos h]
  · rw [if_neg (fun g => h ((sh1_1 (by omega)).mp g)), if_neg h]
theorem pt_tie {N OU p : Nat} {on can : Nat → Int32} (hN : N ≤ 4) (h1 : 1 ≤ OU) (hOU : OU ≤ 2) (hon : ∀ o, o < 2 → lo16 (on o)) : apO (fun o => if (oP N OU can p >>> (nI o &&& 31)) &&& 1 = 1 then rPts N p (2 ^ N) else 0) OU &&& apO on OU = tP N OU on can p := by
  obtain ⟨s, hs, e⟩ := oP_4 (N := N) (p := p) (can := can) hOU
  have hP : lo16 (rPts N p (2 ^ N)) := lo_pts _ (pw16 hN)
  unfold tP
  have hb1 : OU = 1 → bt (nI s) 1 = false := fun h => by
    subst h
    rw [← e]
    exact Bool.eq_false_iff.mpr (fun g => by have := ((rOut_b 1 (by omega)).mp g).1; omega)
  rw [e]
  rw [apO_cong OU (g := fun o => if bt (nI s) o = true then rPts N p (2 ^ N) else 0) (fun o ho => had_o hs (by omega))]
  generalize rPts N p (2 ^ N) = P at hP
  have h0 := hon 0 (by omega)
  rcases (show OU = 1 ∨ OU = 2 by omega) with rfl | rfl
  · have hb := hb1 rfl
    rw [apO_1, apO_1]
    rcases (show s = 0 ∨ s = 1 ∨ s = 2 ∨ s = 3 by omega) with rfl | rfl | rfl | rfl
    · rw [if_neg (by decide), if_neg (by decide), if_pos (by decide)]
      refine b_ext (fun e he => ?_); rw [b_and, b_or, b_0]; rfl
    · rw [if_pos (by decide), if_pos (by decide), if_pos (by decide)]
      refine b_ext (fun e he => ?_); rw [b_or, b_0, Bool.or_false]
    · exact absurd hb (by decide)
    · exact absurd hb (by decide)
  · rw [apO_2, apO_2]
    have hA : lo16 (if bt (nI s) 0 = true then P else 0) := by
      split
      · exact hP
      · exact lo_0
    rw [ap_and hA h0]
    rcases (show s = 0 ∨ s = 1 ∨ s = 2 ∨ s = 3 by omega) with rfl | rfl | rfl | rfl
    · rw [if_neg (by decide), if_neg (by decide), if_neg (by decide), if_pos (by decide)]
      refine b_ext (fun e he => ?_); rw [b_or, b_and, b_shl16 _ he, b_and, b_0, b_0]; simp [b_0]
    · rw [if_pos (by decide), if_neg (by decide), if_pos (by decide), if_pos (by decide)]
      refine b_ext (fun e he => ?_); rw [b_or, b_or, b_shl16 _ he, b_and, b_and, b_0, b_0]; simp
    · rw [if_neg (by decide), if_pos (by decide), if_neg (by decide), if_neg (by decide)]
      refine b_ext (fun e he => ?_); rw [b_or, b_or, b_and, b_0]; simp
    · rw [if_pos (by decide), if_pos (by decide), if_pos (by decide), if_neg (by decide)]
/-- costs -/
def coB (N : Nat) : Bool := (List.range (3 ^ N)).all (fun p => (List.range 4).all (fun s => decide (bcI (cB N p N).1 + bcI (nI s) = rCost N p (nI s) N) && decide (rCost N p (nI s) N = nI (rCost N p (nI s) N).toNatClampNeg) && decide ((rCost N p (nI s) N).toNatClampNeg ≤ 6)))
set_option maxRecDepth 100000 in
theorem co_c : ((List.range 5).all coB) = true := by decide +kernel
theorem co_p {N p s : Nat} (hN : N ≤ 4) (hp : p < 3 ^ N) (hs : s < 4) : bcI (cB N p N).1 + bcI (nI s) = rCost N p (nI s) N ∧ rCost N p (nI s) N = nI (rCost N p (nI s) N).toNatClampNeg ∧ (rCost N p (nI s) N).toNatClampNeg ≤ 6 := by
  have h := Bool.and_eq_true_iff.mp (all_rr (all_r2 co_c (show N < 5 by omega)) hp hs)
  have h1 := Bool.and_eq_true_iff.mp h.1
  exact ⟨of_decide_eq_true h1.1, of_decide_eq_true h1.2, of_decide_eq_true h.2⟩
/-- the reference's rows of primes by their products -/
theorem stF_q {on can : Nat → Int32} {N OU Z : Nat} {pp po pc pt : Nat → Int32} (p : Nat) (hp : p ≤ 81) : ∀ k, k < (stF N OU Z on can (0, pp, po, pc, pt) p).1 → ∃ q, q < p ∧ (stF N OU Z on can (0, pp, po, pc, pt) p).2.1 k = nI q ∧ (stF N OU Z on can (0, pp, po, pc, pt) p).2.2.1 k = oP N OU can q ∧ (stF N OU Z on can (0, pp, po, pc, pt) p).2.2.2.1 k = rCost N q (oP N OU can q) N ∧ (stF N OU Z on can (0, pp, po, pc, pt) p).2.2.2.2 k = tP N OU on can q := by
  induction p with
  | zero => exact fun k hk => absurd hk (Nat.not_lt_zero k)
  | succ p ih =>
    have ih := ih (by omega)
    rw [show stF N OU Z on can (0, pp, po, pc, pt) (p + 1) = (if prB N OU can p Z = true then ((stF N OU Z on can (0, pp, po, pc, pt) p).1 + 1, upd (stF N OU Z on can (0, pp, po, pc, pt) p).2.1 (stF N OU Z on can (0, pp, po, pc, pt) p).1 (nI p), upd (stF N OU Z on can (0, pp, po, pc, pt) p).2.2.1 (stF N OU Z on can (0, pp, po, pc, pt) p).1 (oP N OU can p), upd (stF N OU Z on can (0, pp, po, pc, pt) p).2.2.2.1 (stF N OU Z on can (0, pp, po, pc, pt) p).1 (rCost N p (oP N OU can p) N), upd (stF N OU Z on can (0, pp, po, pc, pt) p).2.2.2.2 (stF N OU Z on can (0, pp, po, pc, pt) p).1 (tP N OU on can p)) else stF N OU Z on can (0, pp, po, pc, pt) p) from rfl]
    split
    · intro k hk
      have hk : k < (stF N OU Z on can (0, pp, po, pc, pt) p).1 + 1 := hk
      by_cases hE : k = (stF N OU Z on can (0, pp, po, pc, pt) p).1
      · refine ⟨p, Nat.lt_succ_self p, ?_⟩
        show upd _ _ _ k = _ ∧ upd _ _ _ k = _ ∧ upd _ _ _ k = _ ∧ upd _ _ _ k = _
        rw [hE, pk_us, pk_us, pk_us, pk_us]
        exact ⟨rfl, rfl, rfl, rfl⟩
      · obtain ⟨q, hq, e⟩ := ih k (by omega)
        refine ⟨q, by omega, ?_⟩
        show upd _ _ _ k = _ ∧ upd _ _ _ k = _ ∧ upd _ _ _ k = _ ∧ upd _ _ _ k = _
        rw [pk_un hE, pk_un hE, pk_un hE, pk_un hE]
        exact e
    · intro k hk
      obtain ⟨q, hq, e⟩ := ih k hk
      exact ⟨q, by omega, e⟩
