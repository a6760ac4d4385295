/-! ===== the outputs of a product, both sides ===== -/
theorem fOuts0_q {outs : Nat → Int32} {q : Nat} (j : Nat) (h : q < j) : fOuts0 outs j q = 0 := by
  induction j with
  | zero => exact absurd h (Nat.not_lt_zero q)
  | succ j ih =>
    show upd (fOuts0 outs j) j 0 q = 0
    by_cases hE : q = j
    · subst hE; rw [pk_us]
    · rw [pk_un hE]; exact ih (by omega)
theorem fOutsI_s (had : Nat → Int32) (off : Int32) (o : Nat) (f : Nat → Int32) (j : Nat) : fOutsI had off o f (j + 1) = if had j &&& off = 0 then upd (fOutsI had off o f j) j (fOutsI had off o f j j ||| (1 <<< (nI o &&& 31))) else fOutsI had off o f j := rfl
theorem fOutsI_o {had f : Nat → Int32} {off : Int32} {o q : Nat} (j : Nat) (h : j ≤ q) : fOutsI had off o f j q = f q := by
  induction j with
  | zero => rfl
  | succ j ih =>
    rw [fOutsI_s]
    split
    · rw [pk_un (by omega)]; exact ih (by omega)
    · exact ih (by omega)
theorem fOutsI_q {had f : Nat → Int32} {off : Int32} {o q : Nat} (j : Nat) (h : q < j) : fOutsI had off o f j q = if had q &&& off = 0 then f q ||| (1 <<< (nI o &&& 31)) else f q := by
  induction j with
  | zero => exact absurd h (Nat.not_lt_zero q)
  | succ j ih =>
    rw [fOutsI_s]
    by_cases hE : q = j
    · subst hE
      split
      · rw [pk_us, fOutsI_o q (Nat.le_refl q)]
      · exact fOutsI_o q (Nat.le_refl q)
    · rw [← ih (by omega)]
      split
      · exact pk_un hE
      · rfl
theorem fOuts_q {prod kind had outs : Nat → Int32} {M Z q : Nat} (h : q < Z) (o : Nat) : fOuts prod kind had M Z outs o q = rOut (fNot prod kind had M) (had q) o := by
  induction o with
  | zero => exact fOuts0_q Z h
  | succ o ih =>
    show fOutsI had (fNot prod kind had M o ^^^ (-1)) o (fOuts prod kind had M Z outs o) Z q = (if had q &&& (fNot prod kind had M o ^^^ (-1)) = 0 then rOut (fNot prod kind had M) (had q) o ||| ((1 : Int32) <<< (nI o &&& 31)) else rOut (fNot prod kind had M) (had q) o)
    rw [fOutsI_q Z h, ih]
theorem rOut_cong {f g : Nat → Int32} {has : Int32} (m : Nat) (h : ∀ o, o < m → f o = g o) : rOut f has m = rOut g has m := by
  induction m with
  | zero => rfl
  | succ m ih =>
    show (if has &&& (f m ^^^ (-1)) = 0 then rOut f has m ||| ((1 : Int32) <<< (nI m &&& 31)) else rOut f has m) = (if has &&& (g m ^^^ (-1)) = 0 then rOut g has m ||| ((1 : Int32) <<< (nI m &&& 31)) else rOut g has m)
    rw [ih (fun o ho => h o (by omega)), h m (by omega)]
theorem outs_eq {prod kind had kd can outs : Nat → Int32} {dg : Nat → Nat} {M N OU Z q : Nat} (hth : ∀ q, q < Z → had q = rPts N q (2 ^ N)) (hpt : ∀ c, c < M → prod c = nI (pn dg N c)) (hkk : ∀ c, c < M → ∀ o, o < OU → kind (c * 2 + o) = kd (2 * c + o)) (h3 : ∀ c, c < M → ∀ o, o < OU → kd (2 * c + o) = 0 ∨ kd (2 * c + o) = 1 ∨ kd (2 * c + o) = 2) (hdg : ∀ j, dg j ≤ 2) (hN : N ≤ 4) (hZ : 3 ^ N = Z) (hOU : OU ≤ 2) (hq : q < Z) : fOuts prod kind had M Z outs OU q = oP N OU (sCan N dg kd M can 2) q := by
  rw [fOuts_q hq, hth q hq]
  refine rOut_cong OU (fun o ho => ?_)
  show fKind prod kind had M o 1 ||| fKind prod kind had M o 2 = _
  rw [fKind_kW hth hpt hkk hdg hN hZ ho M (Nat.le_refl M), fKind_kW hth hpt hkk hdg hN hZ ho M (Nat.le_refl M), sCan_o 2 (by omega), kCan_kW h3 ho M (Nat.le_refl M)]
