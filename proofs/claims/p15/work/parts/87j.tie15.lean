/-! ===== the first order with the fewest nodes, both sides ===== -/
def ndN (N OU : Nat) (on : Nat → Int32) (k : Nat) : Nat := (rNl N OU k on N (0, fun _ => 0)).1
def bst2 (N OU : Nat) (on : Nat → Int32) (k : Nat) : Int32 × Int32 := itr (fun k x => (if nI (ndN N OU on (k + 1)) < x.2 then nI (k + 1) else x.1, if nI (ndN N OU on (k + 1)) < x.2 then nI (ndN N OU on (k + 1)) else x.2)) k (0, nI (ndN N OU on 0))
theorem bst2_s (N OU : Nat) (on : Nat → Int32) (k : Nat) : bst2 N OU on (k + 1) = (if nI (ndN N OU on (k + 1)) < (bst2 N OU on k).2 then nI (k + 1) else (bst2 N OU on k).1, if nI (ndN N OU on (k + 1)) < (bst2 N OU on k).2 then nI (ndN N OU on (k + 1)) else (bst2 N OU on k).2) := rfl
theorem rNl_any {on fd : Nat → Int32} {N OU od : Nat} (hN : N ≤ 4) (ho : od < rOrd N) : (rNl N OU od on N (0, fd)).1 = ndN N OU on od := (nod_eq (on := on) (ron := on) (z := ((fun _ => 0), (fun _ => 0), (fun _ => 0))) hN ho (fun _ _ => rfl)).symm.trans (nod_eq hN ho (fun _ _ => rfl))
theorem nd_cong {on ron : Nat → Int32} {N OU od : Nat} (hN : N ≤ 4) (ho : od < rOrd N) (h : ∀ o, o < OU → on o = ron o) : ndN N OU on od = ndN N OU ron od := (nod_eq (on := on) (ron := on) (z := ((fun _ => 0), (fun _ => 0), (fun _ => 0))) hN ho (fun _ _ => rfl)).symm.trans (nod_eq hN ho h)
theorem rBe_b {on fd : Nat → Int32} {N OU : Nat} (hN : N ≤ 4) (hr : 0 < rOrd N) (k : Nat) (hk : k < rOrd N) : (rBe N OU on fd k).1 = (bst2 N OU on k).1 ∧ (rBe N OU on fd k).2.1 = (bst2 N OU on k).2 := by
  induction k with
  | zero =>
    refine ⟨rfl, ?_⟩
    show nI (rNl N OU 0 on N (0, fd)).1 = nI (ndN N OU on 0)
    rw [rNl_any hN hr]
  | succ k ih =>
    obtain ⟨h1, h2⟩ := ih (by omega)
    rw [bst2_s]
    have e : (rNl N OU (k + 1) on N (0, (rBe N OU on fd k).2.2)).1 = ndN N OU on (k + 1) := rNl_any hN hk
    constructor
    · show (if nI (rNl N OU (k + 1) on N (0, (rBe N OU on fd k).2.2)).1 < (rBe N OU on fd k).2.1 then nI (k + 1) else (rBe N OU on fd k).1) = _
      rw [e, h1, h2]
    · show (if nI (rNl N OU (k + 1) on N (0, (rBe N OU on fd k).2.2)).1 < (rBe N OU on fd k).2.1 then nI (rNl N OU (k + 1) on N (0, (rBe N OU on fd k).2.2)).1 else (rBe N OU on fd k).2.1) = _
      rw [e, h2]
theorem bst2_cong {on ron : Nat → Int32} {N OU : Nat} (hN : N ≤ 4) (hr : 0 < rOrd N) (h : ∀ o, o < OU → on o = ron o) (k : Nat) (hk : k < rOrd N) : bst2 N OU on k = bst2 N OU ron k := by
  induction k with
  | zero =>
    show (0, nI (ndN N OU on 0)) = ((0 : Int32), nI (ndN N OU ron 0))
    rw [nd_cong hN hr h]
  | succ k ih => rw [bst2_s, bst2_s, ih (by omega), nd_cong hN hk h]
theorem fac_ord {N : Nat} (h1 : 1 ≤ N) (hN : N ≤ 4) : fac N = nI (rOrd N) := by
  rcases (show N = 1 ∨ N = 2 ∨ N = 3 ∨ N = 4 by omega) with rfl | rfl | rfl | rfl <;> decide +kernel
theorem dNd_nd {on ron : Nat → Int32} {N OU od : Nat} {z : (Nat → Int32) × (Nat → Int32) × (Nat → Int32)} (hN : N ≤ 4) (ho : od < rOrd N) (hon : ∀ o, o < OU → on o = ron o) : (dNd N OU on (nI od) z).1 = ndN N OU ron od := nod_eq hN ho hon
theorem nod_ref {N M : Nat} {dg : Nat → Nat} {kd on fd : Nat → Int32} {OU od : Nat} (hN : N ≤ 4) (ho : od < rOrd N) (hOU : OU ≤ 2) : (rNl N OU od (sOn N dg kd M on 2) N (0, fd)).1 = ndN N OU (fun o => kOn N dg kd o M) od := (rNl_any hN ho).trans (nd_cong hN ho (on_can hOU))
theorem ord_ref {N M : Nat} {dg : Nat → Nat} {kd on fd : Nat → Int32} {OU : Nat} (hN : N ≤ 4) (hN1 : 1 ≤ N) (hOU : OU ≤ 2) : (rBe N OU (sOn N dg kd M on 2) fd (rOrd N - 1)).1 = (bst2 N OU (fun o => kOn N dg kd o M) (rOrd N - 1)).1 := by
  have hr := (rOrd_le hN).2 hN1
  rw [(rBe_b hN hr _ (by omega)).1, bst2_cong hN hr (on_can hOU) _ (by omega)]
