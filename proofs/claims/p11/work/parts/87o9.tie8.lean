/-! ===== at, cost, equal, value: both sides ===== -/
section T8
variable {N OU Z TK : Nat} {care bits had kp ko rkp rko : Nat → Int32}
theorem at_eq {C J : Nat} (htb : ∀ q, q < Z → care q = (cB N q N).1 ∧ bits q = (cB N q N).2) (hN : N ≤ 4) (hZ : 3 ^ N = Z) (hOU : OU ≤ 2) (h1 : kp C = rkp C) (h2 : ko C = rko C) (hr : ∃ c, c < Z ∧ rkp C = nI c) (hJ : J < N + OU) : (if nI N ≤ nI J then ((rko C >>> ((nI J - nI N) &&& 31)) &&& 1) else nI (rDig N (rkp C).toNatClampNeg J)) = (if nI N ≤ nI J then (ko C >>> ((nI J - nI N) &&& 31)) &&& 1 else fDig (care (kp C).toNatClampNeg) (bits (kp C).toNatClampNeg) (nI J)) := by
  rw [h1, h2]
  by_cases h : nI N ≤ nI J
  · rw [if_pos h, if_pos h]
  · have hj : J < N := Nat.lt_of_not_le (fun g => h ((nI_leI (a := N) (b := J) (by omega) (by omega)).mpr g))
    obtain ⟨q, hq, e⟩ := hr
    have h8 := p3_81 hN
    rw [if_neg h, if_neg h, e, nI_clamp (by omega), (htb q hq).1, (htb q hq).2, dig_c N (by omega) q (by omega) J hj]
theorem i64_add {a b : Nat} (h : a + b < 2147483648) : (nI a).toInt64 + (nI b).toInt64 = (nI (a + b)).toInt64 := by
  have e : ∀ x, x < 2147483648 → (nI x).toInt64 = Int64.ofNat x := by
    intro x hx
    apply Int64.toInt_inj.mp
    have e1 : (nI x).toInt64.toInt = (nI x).toInt := by simp
    rw [e1, nI_toInt (by omega), Int64.toInt_ofNat_of_lt (by rw [show (2 : Nat) ^ 63 = 9223372036854775808 from rfl]; omega)]
  rw [e a (by omega), e b (by omega), e (a + b) h, Int64.ofNat_add]
theorem cost_eq (htb : ∀ q, q < Z → care q = (cB N q N).1 ∧ bits q = (cB N q N).2) (hN : N ≤ 4) (hZ : 3 ^ N = Z) (hk : ∀ t, t < TK → kp t = rkp t ∧ ko t = rko t) (h4 : ∀ t, t < TK → ∃ s, s < 4 ∧ ko t = nI s) (hr : ∀ t, t < TK → ∃ c, c < Z ∧ rkp t = nI c) (m : Nat) (hm : m ≤ TK) (hm8 : m ≤ 81) : ∃ s, s ≤ 6 * m ∧ coR N rkp rko m = nI s ∧ coC care kp ko m = (nI s).toInt64 := by
  induction m with
  | zero => exact ⟨0, by omega, rfl, show (0 : Int64) = (nI 0).toInt64 by decide +kernel⟩
  | succ m ih =>
    obtain ⟨s, hs, e1, e2⟩ := ih (by omega) (by omega)
    obtain ⟨q, hq, e3⟩ := hr m (by omega)
    obtain ⟨u, hu, e4⟩ := h4 m (by omega)
    obtain ⟨k1, k2⟩ := hk m (by omega)
    have h8 := p3_81 hN
    have hc := co_p hN (show q < 3 ^ N by omega) hu
    obtain ⟨r, hr6, er⟩ : ∃ r, r ≤ 6 ∧ rCost N q (nI u) N = nI r := ⟨_, hc.2.2, hc.2.1⟩
    refine ⟨s + r, by omega, ?_, ?_⟩
    · show coR N rkp rko m + rCost N (rkp m).toNatClampNeg (rko m) N = _
      rw [e1, e3, nI_clamp (by omega), ← k2, e4, er, nI_add]
    · show coC care kp ko m + (bcI (care (kp m).toNatClampNeg) + bcI (ko m)).toInt64 = _
      rw [e2, k1, e3, nI_clamp (by omega), e4, (htb q hq).1, hc.1, er, i64_add (by omega)]
theorem hadAll_eq (hth : ∀ q, q < Z → had q = rPts N q (2 ^ N)) (hN : N ≤ 4) (hZ : 3 ^ N = Z) (hk : ∀ t, t < TK → kp t = rkp t ∧ ko t = rko t) (hr : ∀ t, t < TK → ∃ c, c < Z ∧ rkp t = nI c) {ot : Int32} (m : Nat) (hm : m ≤ TK) : fHadAll kp ko had m ot = rKept rkp rko N (2 ^ N) ot m := by
  induction m with
  | zero => exact Eq.trans (b := (0 : Int32)) rfl rfl
  | succ m ih =>
    obtain ⟨q, hq, e3⟩ := hr m (by omega)
    obtain ⟨k1, k2⟩ := hk m (by omega)
    have h8 := p3_81 hN
    show fHadAll kp ko had m ot ||| (if (ko m >>> (ot &&& 31)) &&& 1 = 1 then had (kp m).toNatClampNeg else 0) = (if (rko m >>> (ot &&& 31)) &&& 1 = 1 then rKept rkp rko N (2 ^ N) ot m ||| rPts N (rkp m).toNatClampNeg (2 ^ N) else rKept rkp rko N (2 ^ N) ot m)
    rw [ih (by omega), k1, k2, e3, nI_clamp (by omega), hth q hq]
    split
    · rfl
    · refine b_ext (fun e he => ?_)
      rw [b_or, b_0, Bool.or_false]
theorem eqC_cong {on no hd on2 no2 hd2 : Nat → Int32} (m : Nat) (h1 : ∀ o, o < m → on o = on2 o) (h2 : ∀ o, o < m → no o = no2 o) (h3 : ∀ o, o < m → hd o = hd2 o) : eqC on no hd m = eqC on2 no2 hd2 m := by
  induction m with
  | zero => exact Eq.trans (b := true) rfl rfl
  | succ m ih =>
    show (eqC on no hd m && (decide (on m &&& (hd m ^^^ (-1)) = 0) && decide (hd m &&& (no m ^^^ (-1)) = 0))) = (eqC on2 no2 hd2 m && (decide (on2 m &&& (hd2 m ^^^ (-1)) = 0) && decide (hd2 m &&& (no2 m ^^^ (-1)) = 0)))
    rw [ih (fun o ho => h1 o (by omega)) (fun o ho => h2 o (by omega)) (fun o ho => h3 o (by omega)), h1 m (by omega), h2 m (by omega), h3 m (by omega)]
end T8
theorem KK_4 {N OU Z : Nat} {on can : Nat → Int32} {ex : Int32} {TK : Nat} {kp ko : Nat → Int32} (hOU : OU ≤ 2) (h : KK N OU Z on can ex TK kp ko) : ∀ t, t < TK → ∃ s, s < 4 ∧ ko t = nI s := by
  obtain ⟨F, h1, h2, h3⟩ := h
  intro t ht
  have hlt := (enS_ok F (pS N OU Z can Z).1).1.1 t (by rw [← h2]; exact ht)
  obtain ⟨q, hq, e1, e2⟩ := pS_pq Z _ hlt
  obtain ⟨s, hs, e⟩ := oP_4 (N := N) (p := q) (can := can) hOU
  exact ⟨s, hs, by rw [(h3 t ht).2, e2, e]⟩
theorem bt0 {b : Bool} (h : bI b = 0) : (0 : Int64) = if b = true then 1 else 0 := by rw [if_neg (bI_f h)]
theorem bt1 {b : Bool} (h : ¬ bI b = 0) : (1 : Int64) = if b = true then 1 else 0 := by rw [if_pos (bI_t h)]
theorem bq0 {b : Bool} (h : bI b = 0) : lg_cmp (if b = true then (1 : Int64) else 0) 0 = 0 := by rw [if_neg (bI_f h)]; decide +kernel
theorem bq1 {b : Bool} (h : ¬ bI b = 0) : lg_cmp (if b = true then (1 : Int64) else 0) 1 = 0 := by rw [if_pos (bI_t h)]; decide +kernel
theorem vt0 {c : Prop} [Decidable c] (h : (if c then (1 : Int32) else 0) = 0) : (0 : Int64) = if c then 1 else 0 := by
  by_cases hc : c
  · rw [if_pos hc] at h; exact absurd h (by decide)
  · rw [if_neg hc]
theorem vt1 {c : Prop} [Decidable c] (h : ¬ (if c then (1 : Int32) else 0) = 0) : (1 : Int64) = if c then 1 else 0 := by
  by_cases hc : c
  · rw [if_pos hc]
  · rw [if_neg hc] at h; exact absurd rfl h
theorem vq0 {c : Prop} [Decidable c] (h : (if c then (1 : Int32) else 0) = 0) : lg_cmp (if c then (1 : Int64) else 0) 0 = 0 := by rw [← vt0 h]; decide +kernel
theorem vq1 {c : Prop} [Decidable c] (h : ¬ (if c then (1 : Int32) else 0) = 0) : lg_cmp (if c then (1 : Int64) else 0) 1 = 0 := by rw [← vt1 h]; decide +kernel
