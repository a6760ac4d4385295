/-! ===== the points of a product; what is on, what can be ===== -/
def hA (cr bt0 : Int32) (i : Nat) : Int32 := itr (fun a h => if nI a &&& cr = bt0 then h ||| (1 <<< (nI a &&& 31)) else h) i 0
theorem stHad_s (care bits : Nat → Int32) (P i : Nat) (had : Nat → Int32) : stHad care bits P (i + 1) had = if nI i &&& care P = bits P then upd (stHad care bits P i had) P (stHad care bits P i had P ||| (1 <<< (nI i &&& 31))) else stHad care bits P i had := rfl
theorem hA_s (cr bt0 : Int32) (i : Nat) : hA cr bt0 (i + 1) = if nI i &&& cr = bt0 then hA cr bt0 i ||| (1 <<< (nI i &&& 31)) else hA cr bt0 i := rfl
theorem stHad_o {care bits had : Nat → Int32} {P q : Nat} (h : q ≠ P) (i : Nat) : stHad care bits P i had q = had q := by
  induction i with
  | zero => rfl
  | succ i ih =>
    rw [stHad_s]
    split
    · exact (pk_un h).trans ih
    · exact ih
theorem stHad_p {care bits had : Nat → Int32} {P : Nat} (h : had P = 0) (i : Nat) : stHad care bits P i had P = hA (care P) (bits P) i := by
  induction i with
  | zero => exact h
  | succ i ih =>
    rw [stHad_s, hA_s]
    split
    · rw [pk_us, ih]
    · exact ih
theorem stPr_s3 (N PW i : Nat) : (stPr N PW (i + 1)).2.2 = stHad (stFd N i N ((stPr N PW i).1, (stPr N PW i).2.1)).1 (stFd N i N ((stPr N PW i).1, (stPr N PW i).2.1)).2 i PW (stPr N PW i).2.2 := rfl
theorem stPr_h0 {N PW q : Nat} (i : Nat) (h : i ≤ q) : (stPr N PW i).2.2 q = 0 := by
  induction i with
  | zero => rfl
  | succ i ih =>
    rw [stPr_s3, stHad_o (by omega)]
    exact ih (by omega)
theorem stPr_h {N PW q : Nat} (i : Nat) (h : q < i) : (stPr N PW i).2.2 q = hA (cB N q N).1 (cB N q N).2 PW := by
  induction i with
  | zero => exact absurd h (Nat.not_lt_zero q)
  | succ i ih =>
    rw [stPr_s3]
    by_cases hE : q = i
    · subst hE
      have h1 := stFd_p (N := N) (P := q) ((stPr N PW q).1, (stPr N PW q).2.1) (stPr_0 q (Nat.le_refl q)).1 (stPr_0 q (Nat.le_refl q)).2 N
      rw [stHad_p (stPr_h0 q (Nat.le_refl q)), h1.1, h1.2]
    · rw [stHad_o hE]; exact ih (by omega)
set_option maxRecDepth 100000 in
theorem had_c : ∀ N, N < 5 → ∀ q, q < 3 ^ N → hA (cB N q N).1 (cB N q N).2 (2 ^ N) = rPts N q (2 ^ N) := by decide +kernel
theorem pn_num (dg : Nat → Nat) (c N : Nat) : pnum dg c N = pn dg N c := by
  induction N with
  | zero => rfl
  | succ N ih =>
    show 3 * pnum dg c N + dg (4 * c + N) = pn dg N c * 3 + dg (4 * c + N)
    rw [ih, Nat.mul_comm]
/-- the products of one kind, by the digits -/
def kW (N : Nat) (dg : Nat → Nat) (kd : Nat → Int32) (o : Nat) (wt : Int32) (c : Nat) : Int32 := itr (fun c acc => if kd (2 * c + o) = wt then acc ||| rPts N (pnum dg c N) (2 ^ N) else acc) c 0
theorem fKind_kW {prod kind had kd : Nat → Int32} {dg : Nat → Nat} {M N OU Z o : Nat} {wt : Int32} (hth : ∀ q, q < Z → had q = rPts N q (2 ^ N)) (hpt : ∀ c, c < M → prod c = nI (pn dg N c)) (hkk : ∀ c, c < M → ∀ o, o < OU → kind (c * 2 + o) = kd (2 * c + o)) (hdg : ∀ j, dg j ≤ 2) (hN : N ≤ 4) (hZ : 3 ^ N = Z) (ho : o < OU) (m : Nat) (hm : m ≤ M) : fKind prod kind had m o wt = kW N dg kd o wt m := by
  induction m with
  | zero => rfl
  | succ m ih =>
    have h1 := ih (by omega)
    have hl := pn_lt hdg N m
    have h8 := p3_81 hN
    show (if kind (m * 2 + o) = wt then fKind prod kind had m o wt ||| had (prod m).toNatClampNeg else fKind prod kind had m o wt) = (if kd (2 * m + o) = wt then kW N dg kd o wt m ||| rPts N (pnum dg m N) (2 ^ N) else kW N dg kd o wt m)
    rw [h1, hkk m (by omega) o ho, hpt m (by omega), nI_clamp (by omega), hth _ (by omega), pn_num]
theorem kOn_kW (N : Nat) (dg : Nat → Nat) (kd : Nat → Int32) (o m : Nat) : kOn N dg kd o m = kW N dg kd o 1 m := rfl
theorem or4 (a b c : Int32) : (a ||| b) ||| c = (a ||| c) ||| b := by rw [Int32.or_assoc, Int32.or_comm b c, ← Int32.or_assoc]
theorem kCan_kW {N : Nat} {dg : Nat → Nat} {kd : Nat → Int32} {o M OU : Nat} (h3 : ∀ c, c < M → ∀ o, o < OU → kd (2 * c + o) = 0 ∨ kd (2 * c + o) = 1 ∨ kd (2 * c + o) = 2) (ho : o < OU) (m : Nat) (hm : m ≤ M) : kCan N dg kd o m = kW N dg kd o 1 m ||| kW N dg kd o 2 m := by
  induction m with
  | zero => show (0 : Int32) = 0 ||| 0; decide
  | succ m ih =>
    have h1 := ih (by omega)
    show (if kd (2 * m + o) ≤ 0 then kCan N dg kd o m else kCan N dg kd o m ||| rPts N (pnum dg m N) (2 ^ N)) = (if kd (2 * m + o) = 1 then kW N dg kd o 1 m ||| rPts N (pnum dg m N) (2 ^ N) else kW N dg kd o 1 m) ||| (if kd (2 * m + o) = 2 then kW N dg kd o 2 m ||| rPts N (pnum dg m N) (2 ^ N) else kW N dg kd o 2 m)
    rw [h1]
    rcases h3 m (by omega) o ho with h | h | h
    · rw [h, if_pos (by decide), if_neg (by decide), if_neg (by decide)]
    · rw [h, if_neg (by decide), if_pos rfl, if_neg (by decide), or4]
    · rw [h, if_neg (by decide), if_neg (by decide), if_pos rfl, Int32.or_assoc]
theorem sCan_o {N M : Nat} {dg : Nat → Nat} {kd can : Nat → Int32} {o : Nat} (m : Nat) (h : o < m) : sCan N dg kd M can m o = kCan N dg kd o M := by
  induction m with
  | zero => exact absurd h (Nat.not_lt_zero o)
  | succ m ih =>
    show upd (sCan N dg kd M can m) m (kCan N dg kd m M) o = _
    by_cases hE : o = m
    · subst hE; rw [pk_us]
    · rw [pk_un hE]; exact ih (by omega)
theorem sOn_o {N M : Nat} {dg : Nat → Nat} {kd on : Nat → Int32} {o : Nat} (m : Nat) (h : o < m) : sOn N dg kd M on m o = kOn N dg kd o M := by
  induction m with
  | zero => exact absurd h (Nat.not_lt_zero o)
  | succ m ih =>
    show upd (sOn N dg kd M on m) m (kOn N dg kd m M) o = _
    by_cases hE : o = m
    · subst hE; rw [pk_us]
    · rw [pk_un hE]; exact ih (by omega)
theorem ta_eq {f g : Nat → Int32} {N : Nat} (m : Nat) (h : ∀ o, o < m → f o = g o) : taC f N m = taF g N m := by
  induction m with
  | zero => rfl
  | succ m ih =>
    show (taC f N m && decide (f m = full N)) = (taF g N m && decide (g m = full N))
    rw [ih (fun o ho => h o (by omega)), h m (by omega)]
theorem taut_eq {prod kind had kd can : Nat → Int32} {dg : Nat → Nat} {M N OU Z : Nat} (hth : ∀ q, q < Z → had q = rPts N q (2 ^ N)) (hpt : ∀ c, c < M → prod c = nI (pn dg N c)) (hkk : ∀ c, c < M → ∀ o, o < OU → kind (c * 2 + o) = kd (2 * c + o)) (h3 : ∀ c, c < M → ∀ o, o < OU → kd (2 * c + o) = 0 ∨ kd (2 * c + o) = 1 ∨ kd (2 * c + o) = 2) (hdg : ∀ j, dg j ≤ 2) (hN : N ≤ 4) (hZ : 3 ^ N = Z) (hOU : OU ≤ 2) : taC (fun o => fKind prod kind had M o 1 ||| fKind prod kind had M o 2) N OU = taF (sCan N dg kd M can 2) N OU := by
  refine ta_eq OU (fun o ho => ?_)
  show fKind prod kind had M o 1 ||| fKind prod kind had M o 2 = _
  rw [fKind_kW hth hpt hkk hdg hN hZ ho M (Nat.le_refl M), fKind_kW hth hpt hkk hdg hN hZ ho M (Nat.le_refl M), sCan_o 2 (by omega), kCan_kW h3 ho M (Nat.le_refl M)]
