/-! ===== the primes that are known stay the current ones ===== -/
theorem not_can {prod kind had kd : Nat → Int32} {dg : Nat → Nat} {M N OU Z : Nat} (hth : ∀ q, q < Z → had q = rPts N q (2 ^ N)) (hpt : ∀ c, c < M → prod c = nI (pn dg N c)) (hkk : ∀ c, c < M → ∀ o, o < OU → kind (c * 2 + o) = kd (2 * c + o)) (h3 : ∀ c, c < M → ∀ o, o < OU → kd (2 * c + o) = 0 ∨ kd (2 * c + o) = 1 ∨ kd (2 * c + o) = 2) (hdg : ∀ j, dg j ≤ 2) (hN : N ≤ 4) (hZ : 3 ^ N = Z) : ∀ o, o < OU → fNot prod kind had M o = kCan N dg kd o M := by
  intro o ho
  show fKind prod kind had M o 1 ||| fKind prod kind had M o 2 = _
  rw [fKind_kW hth hpt hkk hdg hN hZ ho M (Nat.le_refl M), fKind_kW hth hpt hkk hdg hN hZ ho M (Nat.le_refl M), kCan_kW h3 ho M (Nat.le_refl M)]
theorem on_on {prod kind had kd : Nat → Int32} {dg : Nat → Nat} {M N OU Z : Nat} (hth : ∀ q, q < Z → had q = rPts N q (2 ^ N)) (hpt : ∀ c, c < M → prod c = nI (pn dg N c)) (hkk : ∀ c, c < M → ∀ o, o < OU → kind (c * 2 + o) = kd (2 * c + o)) (hdg : ∀ j, dg j ≤ 2) (hN : N ≤ 4) (hZ : 3 ^ N = Z) : ∀ o, o < OU → fKind prod kind had M o 1 = kOn N dg kd o M := fun _ ho => fKind_kW hth hpt hkk hdg hN hZ ho M (Nat.le_refl M)
theorem can_can {N M : Nat} {dg : Nat → Nat} {kd can : Nat → Int32} {OU : Nat} (hOU : OU ≤ 2) : ∀ o, o < OU → sCan N dg kd M can 2 o = kCan N dg kd o M := fun _ ho => sCan_o 2 (by omega)
theorem on_can {N M : Nat} {dg : Nat → Nat} {kd on : Nat → Int32} {OU : Nat} (hOU : OU ≤ 2) : ∀ o, o < OU → sOn N dg kd M on 2 o = kOn N dg kd o M := fun _ ho => sOn_o 2 (by omega)
theorem dg4_lo {dg : Nat → Nat} {M k : Nat} (h : k < 4 * M) (i : Nat) : dg4 dg M i k = dg k := by
  induction i with
  | zero => rfl
  | succ i ih =>
    show (if k = 4 * M + i then 2 else dg4 dg M i k) = dg k
    rw [if_neg (by omega)]; exact ih
theorem can_new {kd : Nat → Int32} {dg : Nat → Nat} {M N o : Nat} (hN : N ≤ 4) (ho : o < 2) (m : Nat) (hm : m ≤ M) : kCan N (dg4 dg M 4) (upd (upd kd (2 * M) 0) (2 * M + 1) 0) o m = kCan N dg kd o m := by
  induction m with
  | zero => exact Eq.trans (b := (0 : Int32)) rfl rfl
  | succ m ih =>
    show (if upd (upd kd (2 * M) 0) (2 * M + 1) 0 (2 * m + o) ≤ 0 then kCan N (dg4 dg M 4) (upd (upd kd (2 * M) 0) (2 * M + 1) 0) o m else kCan N (dg4 dg M 4) (upd (upd kd (2 * M) 0) (2 * M + 1) 0) o m ||| rPts N (pnum (dg4 dg M 4) m N) (2 ^ N)) = (if kd (2 * m + o) ≤ 0 then kCan N dg kd o m else kCan N dg kd o m ||| rPts N (pnum dg m N) (2 ^ N))
    rw [ih (by omega), pk_un (by omega), pk_un (by omega), pn_num, pn_num, pn_cong N (fun j hj => dg4_lo (dg := dg) (M := M) (k := 4 * m + j) (by omega) 4)]
theorem can_cube {kd : Nat → Int32} {dg : Nat → Nat} {M N o : Nat} (hN : N ≤ 4) (ho : o < 2) : kCan N (dg4 dg M 4) (upd (upd kd (2 * M) 0) (2 * M + 1) 0) o (M + 1) = kCan N dg kd o M := by
  show (if upd (upd kd (2 * M) 0) (2 * M + 1) 0 (2 * M + o) ≤ 0 then kCan N (dg4 dg M 4) (upd (upd kd (2 * M) 0) (2 * M + 1) 0) o M else _) = _
  have h : upd (upd kd (2 * M) 0) (2 * M + 1) 0 (2 * M + o) = 0 := by
    rcases (show o = 0 ∨ o = 1 by omega) with rfl | rfl
    · rw [pk_un (by omega), Nat.add_zero, pk_us]
    · rw [pk_us]
  rw [h, if_pos (by decide), can_new hN ho M (Nat.le_refl M)]
theorem cu_cube {kd tp to : Nat → Int32} {dg : Nat → Nat} {M N OU Z K : Nat} {po : Int32} (h : po = 0 → isPr N OU Z (fun o => kCan N dg kd o M) K tp to) (hN : N ≤ 4) (hOU : OU ≤ 2) : po = 0 → isPr N OU Z (fun o => kCan N (dg4 dg M 4) (upd (upd kd (2 * M) 0) (2 * M + 1) 0) o (M + 1)) K tp to := fun h0 => isPr_cong (fun o ho => (can_cube hN (by omega)).symm) (h h0)
theorem updN_id {dg : Nat → Nat} {k v : Nat} (h : dg k = v) : updN dg k v = dg := by
  funext j
  unfold updN
  split
  · rename_i e; rw [e, h]
  · rfl
theorem upd_idv {f : Nat → Int32} {k : Nat} {v : Int32} (h : f k = v) : upd f k v = f := by
  funext j
  unfold upd
  split
  · rename_i e; rw [e, h]
  · rfl
theorem cu_lit {kd tp to : Nat → Int32} {dg : Nat → Nat} {M N OU Z K k v : Nat} {po pox : Int32} {c : Prop} (h : po = 0 → isPr N OU Z (fun o => kCan N dg kd o M) K tp to) (h2 : pox = 0 → po = 0 ∧ c) (hc : c ↔ dg k = v) : pox = 0 → isPr N OU Z (fun o => kCan N (updN dg k v) kd o M) K tp to := by
  intro h0
  obtain ⟨g1, g2⟩ := h2 h0
  rw [updN_id (hc.mp g2)]; exact h g1
theorem cu_to {kd kind tp to : Nat → Int32} {dg : Nat → Nat} {M N OU Z K k k2 : Nat} {po pox z : Int32} (h : po = 0 → isPr N OU Z (fun o => kCan N dg kd o M) K tp to) (h2 : pox = 0 → po = 0 ∧ kind k2 = z) (hc : kind k2 = kd k) : pox = 0 → isPr N OU Z (fun o => kCan N dg (upd kd k z) o M) K tp to := by
  intro h0
  obtain ⟨g1, g2⟩ := h2 h0
  rw [upd_idv (hc.symm.trans g2)]; exact h g1
def ptB (N : Nat) : Bool := (List.range (3 ^ N)).all (fun p => !decide (rPts N p (2 ^ N) = 0))
set_option maxRecDepth 100000 in
theorem pt_c : ((List.range 5).all ptB) = true := by decide +kernel
theorem pt_ne {N p : Nat} (hN : N ≤ 4) (hp : p < 3 ^ N) : rPts N p (2 ^ N) ≠ 0 := by
  intro g
  have h := List.all_eq_true.mp (List.all_eq_true.mp pt_c N (List.mem_range.mpr (by omega))) p (List.mem_range.mpr hp)
  rw [decide_eq_true g] at h
  exact absurd h (by decide)
theorem oP_none {N OU p : Nat} (hN : N ≤ 4) (hp : p < 3 ^ N) : oP N OU (fun _ => 0) p = 0 := by
  unfold oP
  induction OU with
  | zero => rfl
  | succ m ih =>
    show (if rPts N p (2 ^ N) &&& ((0 : Int32) ^^^ (-1)) = 0 then rOut (fun _ => 0) (rPts N p (2 ^ N)) m ||| ((1 : Int32) <<< (nI m &&& 31)) else rOut (fun _ => 0) (rPts N p (2 ^ N)) m) = 0
    rw [if_neg (fun g => ?_)]
    · exact ih
    · obtain ⟨e, he, hb⟩ := ex_bit (pt_ne hN hp)
      have := (nb0 _ _).mp g e he hb
      rw [b_0] at this; cases this
theorem pS_none {N OU Z : Nat} (hN : N ≤ 4) (hZ : 3 ^ N = Z) (p : Nat) (hp : p ≤ Z) : (pS N OU Z (fun _ => 0) p).1 = 0 := by
  induction p with
  | zero => rfl
  | succ p ih =>
    rw [pS_s, if_neg (fun g => ?_)]
    · exact ih (by omega)
    · have := ((prB_iff Z).mp g).1
      rw [oP_none hN (by omega)] at this
      exact this (by decide)
theorem cu_start {kd tp to : Nat → Int32} {dg : Nat → Nat} {N OU : Nat} (hN : N ≤ 4) : isPr N OU (3 ^ N) (fun o => kCan N dg kd o 0) 0 tp to := by
  have h : (fun o => kCan N dg kd o 0) = (fun _ => (0 : Int32)) := rfl
  rw [h]
  exact ⟨(pS_none hN rfl _ (Nat.le_refl _)).symm, fun k hk => absurd hk (Nat.not_lt_zero k)⟩
