/-! ===== weights as longs ===== -/
def iL (w : Nat) : Int64 := Int64.ofNat w
theorem iL_add (a b : Nat) : iL a + iL b = iL (a + b) := (Int64.ofNat_add a b).symm
theorem iL_int {a : Nat} (ha : a < 9223372036854775808) : (iL a).toInt = (a : Int) := by
  unfold iL
  rw [Int64.toInt_ofNat_of_lt (by rw [show (2 : Nat) ^ 63 = 9223372036854775808 from rfl]; exact ha)]
theorem iL_lt {a b : Nat} (ha : a < 9223372036854775808) (hb : b < 9223372036854775808) : iL a < iL b ↔ a < b := by
  rw [Int64.lt_iff_toInt_lt, iL_int ha, iL_int hb]; omega
theorem iL_inj {a b : Nat} (ha : a < 9223372036854775808) (hb : b < 9223372036854775808) (h : iL a = iL b) : a = b := by
  have h1 := iL_int ha
  rw [h, iL_int hb] at h1
  omega
theorem lgc_le {a b : Nat} (ha : a < 9223372036854775808) (hb : b < 9223372036854775808) : 0 ≤ lg_cmp (iL a) (iL b) ↔ b ≤ a := by
  unfold lg_cmp
  by_cases h1 : iL a > iL b
  · have := (iL_lt hb ha).mp h1
    rw [if_pos h1]; exact ⟨fun _ => by omega, fun _ => by decide⟩
  · have h2 : ¬ b < a := fun g => h1 ((iL_lt hb ha).mpr g)
    rw [if_neg h1]
    by_cases h3 : iL a = iL b
    · have := iL_inj ha hb h3
      rw [if_pos h3]; exact ⟨fun _ => by omega, fun _ => by decide⟩
    · rw [if_neg h3]
      refine ⟨fun g => absurd g (by decide), fun g => ?_⟩
      have : a = b := by omega
      rw [this] at h3
      exact absurd rfl h3
def wgB : Bool := (List.range 7).all (fun c => (List.range 48).all (fun k => decide (fWgh (nI c) k = iL (72057594037927936 + c * 281474976710656 - 2 ^ (47 - k)))))
set_option maxRecDepth 100000 in
theorem wg_c : wgB = true := by decide +kernel
theorem fWgh_w {c : Nat → Nat} {k : Nat} (hc : c k ≤ 6) (hk : k < 48) : fWgh (nI (c k)) k = iL (wk c k) := of_decide_eq_true (all_rr wg_c (show c k < 7 by omega) hk)
theorem sumS_bd {f : Nat → Nat} {S : Int64} {B : Nat} (n : Nat) (h : ∀ k, k < n → f k ≤ B) : sumS f S n ≤ n * B := by
  induction n with
  | zero => show 0 ≤ 0 * B; omega
  | succ n ih =>
    have ih := ih (fun k hk => h k (by omega))
    have h1 := h n (by omega)
    rw [sumS_s, Nat.add_mul]
    split <;> omega
theorem wk_le {c : Nat → Nat} {k : Nat} (hc : c k ≤ 6) : wk c k ≤ 73746443898191872 := by
  unfold wk
  have : c k * 281474976710656 ≤ 6 * 281474976710656 := Nat.mul_le_mul_right _ hc
  omega
theorem wN_le {c : Nat → Nat} {S : Int64} {n : Nat} (hn : n ≤ 48) (hc : ∀ k, k < n → c k ≤ 6) : wN c S n ≤ 3539829307113209856 := by
  have h := sumS_bd (f := wk c) (S := S) n (fun k hk => wk_le (hc k hk))
  have h2 : n * 73746443898191872 ≤ 48 * 73746443898191872 := Nat.mul_le_mul_right _ hn
  unfold wN
  omega
/-- what the rows of the finder are -/
def FRr (n : Nat) (c : Nat → Nat) (pts : Nat → Int32) (W : Int32) (wts hav : Nat → Int64) : Prop := n ≤ 48 ∧ (∀ k, k < n → c k ≤ 6) ∧ (∀ k, k < n → wts k = iL (wk c k)) ∧ (∀ e, e < 32 → inS (hav e) n ∧ ∀ k, k < n → bl (hav e) k = bt (pts k) e) ∧ ∀ k, k < n → pts k &&& (W ^^^ (-1)) = 0
def fV (c : Nat → Nat) (pts : Nat → Int32) (W : Int32) (n : Nat) (fd fw : Int64) : Prop := inS fd n ∧ covS pts W n fd ∧ fw = iL (wN c fd n)
def iV (c : Nat → Nat) (pts : Nat → Int32) (W : Int32) (n : Nat) (op : Int32) (ch wg : Int64) (d : Nat) : Prop := inS ch n ∧ (∀ e, e < 32 → (bt op e = true ↔ bt W e = true ∧ ∀ k, k < n → bl ch k = true → bt (pts k) e = false)) ∧ wg = iL (wN c ch n) ∧ d + cnt (bt op) 32 ≤ 32
def tg (n : Nat) (S us ch : Int64) : Prop := (∀ k, k < n → bl ch k = true → bl S k = true) ∧ ∀ k, k < n → bl S k = true → bl ch k = true ∨ bl us k = true
def iP (c : Nat → Nat) (pts : Nat → Int32) (W : Int32) (n : Nat) (S us ch fd fdx fwx : Int64) : Prop := fV c pts W n fdx fwx ∧ (fd = S → fdx = S) ∧ (tg n S us ch → fdx = S)
section IMP
variable {c : Nat → Nat} {pts : Nat → Int32} {W op : Int32} {n d : Nat} {wts hav : Nat → Int64} {S us ch fd fw wg : Int64}
theorem ch_le (hn : n ≤ 48) (ht : tg n S us ch) : wN c ch n ≤ wN c S n := sumS_le n ht.1
theorem ip_heavy (hR : FRr n c pts W wts hav) (hS : isOpt c pts W n S) (hI : iV c pts W n op ch wg d) (hF : fV c pts W n fd fw) (h : 0 ≤ lg_cmp wg fw) : iP c pts W n S us ch fd fd fw := by
  refine ⟨hF, id, fun ht => ?_⟩
  have b1 := wN_le (S := ch) hR.1 hR.2.1
  have b2 := wN_le (S := fd) hR.1 hR.2.1
  rw [hI.2.2.1, hF.2.2, lgc_le (by omega) (by omega)] at h
  exact opt_eq hR.1 hS hF.1 hF.2.1 (Nat.le_trans h (ch_le (us := us) hR.1 ht))
theorem iv_cov (hI : iV c pts W n 0 ch wg d) : covS pts W n ch := by
  intro e he hW
  apply Classical.byContradiction
  intro g
  have h : bt 0 e = true := (hI.2.1 e he).mpr ⟨hW, fun k hk hb => by
    cases hp : bt (pts k) e with
    | false => rfl
    | true => exact absurd ⟨k, hk, hb, hp⟩ g⟩
  rw [b_0] at h; cases h
theorem ip_zk (hR : FRr n c pts W wts hav) (hS : isOpt c pts W n S) (hI : iV c pts W n 0 ch wg d) (hF : fV c pts W n fd fw) (h : ¬ 0 ≤ lg_cmp wg fw) : iP c pts W n S us ch fd ch wg := by
  have b1 := wN_le (S := ch) hR.1 hR.2.1
  have b2 := wN_le (S := fd) hR.1 hR.2.1
  have hc := iv_cov hI
  rw [hI.2.2.1, hF.2.2, lgc_le (by omega) (by omega)] at h
  refine ⟨⟨hI.1, hc, hI.2.2.1⟩, fun hE => ?_, fun ht => opt_eq hR.1 hS hI.1 hc (ch_le (us := us) hR.1 ht)⟩
  subst hE
  exact absurd (hS.2.2 ch hI.1 hc) h
theorem ip_deep (hI : iV c pts W n op ch wg d) (h : ¬ op = 0) : d < 32 := by
  obtain ⟨e, he, hb⟩ := ex_bit h
  have h1 := hI.2.2.2
  have h2 : cnt (bt op) 32 ≠ 0 := fun g => by
    have := cnt_0.mp g e he
    rw [hb] at this; cases this
  omega
/-- a lighter cover is none -/
theorem no_lighter (hR : FRr n c pts W wts hav) (hS : isOpt c pts W n S) {T : Int64} (hT : inS T n) (hc : covS pts W n T) : ¬ wN c T n < wN c S n := fun g => absurd (hS.2.2 T hT hc) (by omega)
theorem dom_no (hR : FRr n c pts W wts hav) (hS : isOpt c pts W n S) (hI : iV c pts W n op ch wg d) (ht : tg n S us ch) {k : Nat} (hk : k < n) (hSk : bl S k = true) (hck : ¬ bl ch k = true) (hd : ¬ fDomi pts wts n us op k = 0) : False := by
  have hn := hR.1
  -- what covers a point besides k
  have hoth : ∀ e, e < 32 → bt W e = true → (bt op e = true ∧ bt (pts k) e = true) ∨ ∃ j, j < n ∧ j ≠ k ∧ bl S j = true ∧ bt (pts j) e = true := by
    intro e he hW
    by_cases hop : bt op e = true
    · by_cases hpk : bt (pts k) e = true
      · exact Or.inl ⟨hop, hpk⟩
      · obtain ⟨j, hj, h1, h2⟩ := hS.2.1 e he hW
        exact Or.inr ⟨j, hj, fun g => hpk (g ▸ h2), h1, h2⟩
    · right
      apply Classical.byContradiction
      intro g
      refine hop ((hI.2.1 e he).mpr ⟨hW, fun j hj hb => ?_⟩)
      cases hp : bt (pts j) e with
      | false => rfl
      | true => exact absurd ⟨j, hj, fun e => hck (e ▸ hb), ht.1 j hj hb, hp⟩ g
  unfold fDomi at hd
  by_cases h0 : pts k &&& op = 0
  · -- no open point: leave k out
    refine no_lighter hR hS (T := clrB S k) (inS_clr hS.1 hk hn) (fun e he hW => ?_) (by have := wN_clr (c := c) hk hn hSk; have := wk_pos c k; omega)
    rcases hoth e he hW with ⟨h1, h2⟩ | ⟨j, hj, hjk, h1, h2⟩
    · have : bt (pts k &&& op) e = true := by rw [b_and, h1, h2]; rfl
      rw [h0, b_0] at this; cases this
    · exact ⟨j, hj, by rw [clrB_b (by omega) (by omega), h1, decide_eq_false hjk]; rfl, h2⟩
  · rw [if_neg h0] at hd
    have ha : anyB (fDom pts wts us (pts k &&& op) k) n = true := by
      cases hx : anyB (fDom pts wts us (pts k &&& op) k) n with
      | true => rfl
      | false => rw [hx] at hd; exact absurd rfl hd
    obtain ⟨j, hj, hdj⟩ := (anyB_iff n).mp ha
    unfold fDom at hdj
    rw [Bool.and_eq_true, Bool.and_eq_true] at hdj
    obtain ⟨g1, g2, g3⟩ := hdj
    have g2 : ¬ 0 ≤ lg_cmp (wts j) (wts k) := fun q => by rw [decide_eq_true q] at g2; cases g2
    have g3 : (pts k &&& op) &&& (pts j ^^^ (-1)) = 0 := of_decide_eq_true g3
    have b1 := wk_le (hR.2.1 j hj)
    have b2 := wk_le (hR.2.1 k hk)
    rw [hR.2.2.1 j hj, hR.2.2.1 k hk, lgc_le (by omega) (by omega)] at g2
    have hjk : j ≠ k := fun e => by subst e; omega
    have hw := wN_clr (c := c) hk hn hSk
    by_cases hSj : bl S j = true
    · refine no_lighter hR hS (T := clrB S k) (inS_clr hS.1 hk hn) (fun e he hW => ?_) (by have := wk_pos c k; omega)
      rcases hoth e he hW with ⟨h1, h2⟩ | ⟨i, hi, hik, h1, h2⟩
      · exact ⟨j, hj, by rw [clrB_b (by omega) (by omega), hSj, decide_eq_false hjk]; rfl, (nb0 _ _).mp g3 e he (by rw [b_and, h1, h2]; rfl)⟩
      · exact ⟨i, hi, by rw [clrB_b (by omega) (by omega), h1, decide_eq_false hik]; rfl, h2⟩
    · have hcj : bl (clrB S k) j = false := by rw [clrB_b (by omega) (by omega), Bool.eq_false_iff.mpr hSj]; rfl
      have hw2 := wN_set (c := c) (S := clrB S k) hj hn hcj
      refine no_lighter hR hS (T := setB (clrB S k) j) (inS_set (inS_clr hS.1 hk hn) hj hn) (fun e he hW => ?_) (by omega)
      rcases hoth e he hW with ⟨h1, h2⟩ | ⟨i, hi, hik, h1, h2⟩
      · exact ⟨j, hj, by rw [setB_b (by omega) (by omega), decide_eq_true rfl, Bool.or_true], (nb0 _ _).mp g3 e he (by rw [b_and, h1, h2]; rfl)⟩
      · exact ⟨i, hi, by rw [setB_b (by omega) (by omega), clrB_b (by omega) (by omega), h1, decide_eq_false hik]; rfl, h2⟩
theorem fWout_b (hn : n ≤ 48) {e : Nat} (he : e < 64) (m : Nat) (hm : m ≤ n) : bl (fWout pts wts n us op m) e = true ↔ bl us e = true ∧ (e < m → fDomi pts wts n us op e = 0) := by
  induction m with
  | zero => exact ⟨fun h => ⟨h, fun g => absurd g (Nat.not_lt_zero e)⟩, fun h => h.1⟩
  | succ m ih =>
    have ih := ih (by omega)
    rw [show fWout pts wts n us op (m + 1) = (if fIn us (nI m) = 0 then fWout pts wts n us op m else if fDomi pts wts n us op m = 0 then fWout pts wts n us op m else clrB (fWout pts wts n us op m) m) from rfl]
    by_cases hE : e = m
    · subst hE
      by_cases h1 : fIn us (nI e) = 0
      · rw [if_pos h1, ih]
        have := (fIn_0 (S := us) he).mp h1
        rw [this]
        exact ⟨fun h => (Bool.false_ne_true h.1).elim, fun h => (Bool.false_ne_true h.1).elim⟩
      · rw [if_neg h1]
        by_cases h2 : fDomi pts wts n us op e = 0
        · rw [if_pos h2, ih]
          exact ⟨fun h => ⟨h.1, fun _ => h2⟩, fun h => ⟨h.1, fun g => absurd g (Nat.lt_irrefl e)⟩⟩
        · rw [if_neg h2, clrB_b (by omega) he, decide_eq_true rfl, Bool.not_true, Bool.and_false]
          exact ⟨fun h => (Bool.false_ne_true h).elim, fun h => absurd (h.2 (Nat.lt_succ_self e)) h2⟩
    · have hs : (e < m + 1 → fDomi pts wts n us op e = 0) ↔ (e < m → fDomi pts wts n us op e = 0) := ⟨fun h g => h (by omega), fun h g => h (by omega)⟩
      rw [hs, ← ih]
      split
      · exact Iff.rfl
      · split
        · exact Iff.rfl
        · rw [clrB_b (by omega) he, decide_eq_false hE, Bool.not_false, Bool.and_true]
theorem tg_wout (hR : FRr n c pts W wts hav) (hS : isOpt c pts W n S) (hI : iV c pts W n op ch wg d) (ht : tg n S us ch) : tg n S (fWout pts wts n us op n) ch := by
  have hn := hR.1
  refine ⟨ht.1, fun k hk hb => ?_⟩
  by_cases hc : bl ch k = true
  · exact Or.inl hc
  · right
    have hu := (ht.2 k hk hb).resolve_left hc
    refine (fWout_b hn (by omega) n (Nat.le_refl n)).mpr ⟨hu, fun _ => ?_⟩
    apply Classical.byContradiction
    intro g
    exact dom_no hR hS hI ht hk hb hc g
theorem ip_sub {us2 fdx fwx : Int64} (h : iP c pts W n S us2 ch fd fdx fwx) (hs : tg n S us ch → tg n S us2 ch) : iP c pts W n S us ch fd fdx fwx := ⟨h.1, h.2.1, fun ht => h.2.2 (hs ht)⟩
theorem fRar_o {hav : Nat → Int64} (m : Nat) (hm : m ≤ 32) : ((fRar hav op us m).2 = 65 ∧ ∀ e, e < m → bt op e = false) ∨ ∃ e, e < m ∧ (fRar hav op us m).1 = nI e ∧ bt op e = true ∧ ∃ q, q ≤ 64 ∧ (fRar hav op us m).2 = nI q := by
  induction m with
  | zero => exact Or.inl ⟨rfl, fun e he => absurd he (Nat.not_lt_zero e)⟩
  | succ m ih =>
    have ih := ih (by omega)
    rw [show fRar hav op us (m + 1) = (if (op >>> (nI m &&& 31)) &&& 1 = 1 then (if (fRar hav op us m).2 ≤ bcL (hav m &&& us) then fRar hav op us m else (nI m, bcL (hav m &&& us))) else fRar hav op us m) from rfl]
    obtain ⟨q, hq, eq⟩ := bcL_le (hav m &&& us)
    by_cases h1 : (op >>> (nI m &&& 31)) &&& 1 = 1
    · have hb := (sh1_1 (by omega)).mp h1
      rw [if_pos h1]
      rcases ih with ⟨g1, g2⟩ | ⟨e, he, g1, g2, g3⟩
      · rw [if_neg (by rw [g1, eq]; intro h; have := (nI_leI (a := 65) (b := q) (by omega) (by omega)).mp h; omega)]
        exact Or.inr ⟨m, Nat.lt_succ_self m, rfl, hb, q, hq, eq⟩
      · split
        · exact Or.inr ⟨e, by omega, g1, g2, g3⟩
        · exact Or.inr ⟨m, Nat.lt_succ_self m, rfl, hb, q, hq, eq⟩
    · have hb : bt op m = false := Bool.eq_false_iff.mpr (fun g => h1 ((sh1_1 (by omega)).mpr g))
      rw [if_neg h1]
      rcases ih with ⟨g1, g2⟩ | ⟨e, he, g⟩
      · refine Or.inl ⟨g1, fun e he => ?_⟩
        by_cases hE : e = m
        · subst hE; exact hb
        · exact g2 e (by omega)
      · exact Or.inr ⟨e, by omega, g⟩
theorem rar_in {hav : Nat → Int64} (h : ¬ op = 0) : ∃ e, e < 32 ∧ (fRar hav op us 32).1 = nI e ∧ bt op e = true := by
  rcases fRar_o (op := op) (us := us) (hav := hav) 32 (Nat.le_refl 32) with ⟨_, g⟩ | ⟨e, he, g1, g2, _⟩
  · obtain ⟨e, he, hb⟩ := ex_bit h
    rw [g e he] at hb; cases hb
  · exact ⟨e, he, g1, g2⟩
end IMP
