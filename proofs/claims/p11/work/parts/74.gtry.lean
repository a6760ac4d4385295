/-! ===== the reference: tryAll, exact ===== -/
/-- x holds the points of the primes from k on -/
def rsem (pt : Nat → Int32) (PK : Nat) (x : Int32) (k : Nat) : Prop := ∀ e, e < 32 → (bt x e = true ↔ ∃ j, k ≤ j ∧ j < PK ∧ bt (pt j) e = true)
def hdF (pt cv : Nat → Int32) (d : Nat) : Int32 := itr (fun j acc => acc ||| pt (cv j).toNatClampNeg) d 0
def tW (PK : Nat) (x : Int32) : Nat := PK + 1 - (x.toInt + 1).toNat
def tM (PK : Nat) (cv : Nat → Int32) : Nat → Nat
  | 0 => 0
  | j + 1 => tM PK cv j * (PK + 2) + tW PK (cv j)
def tS (PK mny : Nat) (cv : Nat → Int32) (dd : Nat) : Nat := tM PK cv dd * (PK + 2) ^ (mny + 1 - dd)
theorem tM_ext {PK : Nat} {f g : Nat → Int32} {d : Nat} (h : ∀ j, j < d → f j = g j) : tM PK f d = tM PK g d := by
  induction d with
  | zero => rfl
  | succ d ih => rw [show tM PK f (d + 1) = tM PK f d * (PK + 2) + tW PK (f d) from rfl, ih (fun j hj => h j (by omega)), h d (by omega)]; rfl
theorem tW_v {PK v : Nat} (hv : v < 2 ^ 30) : tW PK (nI v - 1) = PK + 1 - v := by
  unfold tW
  rw [show nI v - 1 = nI v - nI 1 from rfl, pk_sub_toInt (by omega) (by omega)]
  omega
theorem tW_n {PK v : Nat} (hv : v < 2 ^ 30) : tW PK (nI v) = PK + 1 - (v + 1) := by
  unfold tW
  rw [nI_toInt (by omega)]
  omega
theorem tS_pop {PK mny d v : Nat} {cv f : Nat → Int32} (hd : d ≤ mny) (hv : v ≤ PK) (hPK : PK ≤ 81) (hc : cv d = nI v - 1) (hf : ∀ j, j < d → f j = cv j) : tS PK mny f d < tS PK mny cv (d + 1) := by
  unfold tS
  rw [tM_ext hf, show tM PK cv (d + 1) = tM PK cv d * (PK + 2) + tW PK (cv d) from rfl, hc, tW_v (by omega), show mny + 1 - d = (mny + 1 - (d + 1)) + 1 by omega, Nat.pow_succ]
  have hp : 0 < (PK + 2) ^ (mny + 1 - (d + 1)) := Nat.pow_pos (by omega)
  rw [Nat.add_mul, Nat.mul_assoc, Nat.mul_comm (PK + 2) ((PK + 2) ^ (mny + 1 - (d + 1)))]
  exact Nat.lt_add_of_pos_right (Nat.mul_pos (by omega) hp)
theorem tS_stay {PK mny d v : Nat} {cv : Nat → Int32} (hd : d ≤ mny) (hv : v < PK) (hPK : PK ≤ 81) (hc : cv d = nI v - 1) : tS PK mny (upd cv d (nI v)) (d + 1) < tS PK mny cv (d + 1) := by
  unfold tS
  rw [show tM PK (upd cv d (nI v)) (d + 1) = tM PK (upd cv d (nI v)) d * (PK + 2) + tW PK (upd cv d (nI v) d) from rfl, pk_us, tM_ext (g := cv) (fun j hj => pk_un (by omega)), tW_n (by omega), show tM PK cv (d + 1) = tM PK cv d * (PK + 2) + tW PK (cv d) from rfl, hc, tW_v (by omega)]
  have hp : 0 < (PK + 2) ^ (mny + 1 - (d + 1)) := Nat.pow_pos (by omega)
  exact Nat.mul_lt_mul_of_pos_right (by omega) hp
theorem tS_push {PK mny d v : Nat} {cv : Nat → Int32} (hd : d < mny) (hv : v < PK) (hPK : PK ≤ 81) (hc : cv d = nI v - 1) : tS PK mny (upd (upd cv d (nI v)) (d + 1) (nI v)) (d + 2) < tS PK mny cv (d + 1) := by
  unfold tS
  rw [show tM PK (upd (upd cv d (nI v)) (d + 1) (nI v)) (d + 2) = tM PK (upd (upd cv d (nI v)) (d + 1) (nI v)) (d + 1) * (PK + 2) + tW PK (upd (upd cv d (nI v)) (d + 1) (nI v) (d + 1)) from rfl, pk_us, tM_ext (g := upd cv d (nI v)) (fun j hj => pk_un (by omega)),
    show tM PK (upd cv d (nI v)) (d + 1) = tM PK (upd cv d (nI v)) d * (PK + 2) + tW PK (upd cv d (nI v) d) from rfl, pk_us, tM_ext (g := cv) (fun j hj => pk_un (by omega)), tW_n (by omega), show tM PK cv (d + 1) = tM PK cv d * (PK + 2) + tW PK (cv d) from rfl, hc, tW_v (by omega), show mny + 1 - (d + 1) = (mny + 1 - (d + 2)) + 1 by omega, Nat.pow_succ]
  have hp : 0 < (PK + 2) ^ (mny + 1 - (d + 2)) := Nat.pow_pos (by omega)
  generalize (PK + 2) ^ (mny + 1 - (d + 2)) = P at hp ⊢
  generalize tM PK cv d * (PK + 2) = X
  rw [Nat.mul_comm P, ← Nat.mul_assoc]
  refine Nat.mul_lt_mul_of_pos_right ?_ hp
  have h1 : X + (PK + 1 - v) = (X + (PK + 1 - (v + 1))) + 1 := by omega
  rw [h1, Nat.add_mul _ 1]
  omega
/-- the road straight down: all primes, one behind the other -/
def tPath (dd : Nat) (cv : Nat → Int32) : Prop := 0 < dd ∧ (∀ j, j + 1 < dd → cv j = nI j) ∧ cv (dd - 1) = nI (dd - 1) - 1
theorem hdF_b {pt cv : Nat → Int32} {d : Nat} (hd : d ≤ 81) (h : ∀ j, j < d → cv j = nI j) (e : Nat) : bt (hdF pt cv d) e = true ↔ ∃ j, j < d ∧ bt (pt j) e = true := by
  induction d with
  | zero => exact ⟨fun h => (by rw [show hdF pt cv 0 = 0 from rfl, b_0] at h; cases h), fun ⟨j, hj, _⟩ => absurd hj (Nat.not_lt_zero j)⟩
  | succ d ih =>
    rw [show hdF pt cv (d + 1) = hdF pt cv d ||| pt (cv d).toNatClampNeg from rfl, b_or, Bool.or_eq_true, ih (by omega) (fun j hj => h j (by omega)), h d (by omega), nI_clamp (by omega)]
    constructor
    · rintro (⟨j, hj, hb⟩ | hb)
      · exact ⟨j, by omega, hb⟩
      · exact ⟨d, by omega, hb⟩
    · rintro ⟨j, hj, hb⟩
      by_cases hE : j = d
      · subst hE; exact Or.inr hb
      · exact Or.inl ⟨j, by omega, hb⟩
section TRY
variable {pt cv rs : Nat → Int32} {wt : Int32} {PK d : Nat}
theorem try_a (hPK : PK ≤ 81) (hcov : ∀ e, e < 32 → bt wt e = true → ∃ k, k < PK ∧ bt (pt k) e = true) (hrs : rsem pt PK (rs d) d) (hd : d ≤ PK) (h : ∀ j, j < d → cv j = nI j) : wt &&& ((hdF pt cv d ||| rs d) ^^^ (-1)) = 0 := by
  refine (nb0 _ _).mpr (fun e he hw => ?_)
  obtain ⟨k, hk, hb⟩ := hcov e he hw
  rw [b_or, Bool.or_eq_true]
  by_cases hkd : k < d
  · exact Or.inl ((hdF_b (by omega) h e).mpr ⟨k, hkd, hb⟩)
  · exact Or.inr ((hrs e he).mpr ⟨k, by omega, hk, hb⟩)
theorem try_b (hPK : PK ≤ 81) (hcov : ∀ e, e < 32 → bt wt e = true → ∃ k, k < PK ∧ bt (pt k) e = true) (h : ∀ j, j < PK → cv j = nI j) : wt &&& (hdF pt cv PK ^^^ (-1)) = 0 :=
  (nb0 _ _).mpr (fun e he hw => (hdF_b hPK h e).mpr (hcov e he hw))
theorem try_c (hPK : PK ≤ 81) (hcov : ∀ e, e < 32 → bt wt e = true → ∃ k, k < PK ∧ bt (pt k) e = true) (hrs : rsem pt PK (rs (d + 1)) (d + 1)) (hd : d < PK) (h : ∀ j, j < d → cv j = nI j) : (wt &&& ((hdF pt cv d ||| pt d) ^^^ (-1))) &&& (rs (d + 1) ^^^ (-1)) = 0 := by
  refine (nb0 _ _).mpr (fun e he hw => ?_)
  rw [b_and, b_xor, b_m1 e he, b_or, Bool.and_eq_true] at hw
  obtain ⟨k, hk, hb⟩ := hcov e he hw.1
  have h1 : bt (hdF pt cv d) e = false ∧ bt (pt d) e = false := by
    cases h2 : bt (hdF pt cv d) e <;> cases h3 : bt (pt d) e <;> rw [h2, h3] at hw <;> first | exact ⟨rfl, rfl⟩ | (cases hw.2)
  refine (hrs e he).mpr ⟨k, ?_, hk, hb⟩
  apply Classical.byContradiction
  intro hn
  by_cases hE : k = d
  · subst hE; rw [h1.2] at hb; cases hb
  · rw [(hdF_b (by omega) h e).mpr ⟨k, by omega, hb⟩] at h1; cases h1.1
theorem try_d (hPK : PK ≤ 81) (hcov : ∀ e, e < 32 → bt wt e = true → ∃ k, k < PK ∧ bt (pt k) e = true) (hd : d + 1 = PK) (h : ∀ j, j < d → cv j = nI j) : wt &&& ((hdF pt cv d ||| pt d) ^^^ (-1)) = 0 := by
  refine (nb0 _ _).mpr (fun e he hw => ?_)
  obtain ⟨k, hk, hb⟩ := hcov e he hw
  rw [b_or, Bool.or_eq_true]
  by_cases hE : k = d
  · subst hE; exact Or.inr hb
  · exact Or.inl ((hdF_b (by omega) h e).mpr ⟨k, by omega, hb⟩)
end TRY
/-- what holds at the head of the search -/
def tInv (PK mny : Nat) (fl : Bool) (be cv : Nat → Int32) (dd : Nat) : Prop := dd ≤ mny + 1 ∧ (∀ j, j + 1 < dd → ∃ c, c < PK ∧ cv j = nI c) ∧ (0 < dd → ∃ v, v ≤ PK ∧ cv (dd - 1) = nI v - 1) ∧ (fl = true → ∀ t, t < mny → ∃ c, c < PK ∧ be t = nI c) ∧ (mny = PK → fl = true ∨ tPath dd cv)
theorem tI_pop {PK mny d : Nat} {fl fl' : Bool} {be be' cv f : Nat → Int32} (h : tInv PK mny fl be cv (d + 1)) (hf : ∀ j, j < d → f j = cv j) (hb : fl' = true → ∀ t, t < mny → ∃ c, c < PK ∧ be' t = nI c) (hp : mny = PK → fl' = true) : tInv PK mny fl' be' f d := by
  obtain ⟨h1, h2, h3, h4, h5⟩ := h
  refine ⟨by omega, fun j hj => ?_, fun hd => ?_, hb, fun hm => Or.inl (hp hm)⟩
  · rw [hf j (by omega)]; exact h2 j (by omega)
  · obtain ⟨c, hc, he⟩ := h2 (d - 1) (by omega)
    exact ⟨c + 1, by omega, by rw [hf (d - 1) (by omega), he, nI_pred]⟩
theorem tI_stay {PK mny d v : Nat} {fl : Bool} {be cv : Nat → Int32} (h : tInv PK mny fl be cv (d + 1)) (hv : v < PK) (hp : mny = PK → fl = true) : tInv PK mny fl be (upd cv d (nI v)) (d + 1) := by
  obtain ⟨h1, h2, h3, h4, h5⟩ := h
  refine ⟨h1, fun j hj => ?_, fun hd => ⟨v + 1, by omega, ?_⟩, h4, fun hm => Or.inl (hp hm)⟩
  · rw [pk_un (by omega)]; exact h2 j hj
  · rw [show d + 1 - 1 = d from rfl, pk_us, nI_pred]
theorem tI_push {PK mny d v : Nat} {fl : Bool} {be cv : Nat → Int32} (h : tInv PK mny fl be cv (d + 1)) (hd : d < mny) (hv : v < PK) (hPK : PK ≤ 81) (hc : cv d = nI v - 1) : tInv PK mny fl be (upd (upd cv d (nI v)) (d + 1) (nI v)) (d + 2) := by
  obtain ⟨h1, h2, h3, h4, h5⟩ := h
  refine ⟨by omega, fun j hj => ?_, fun hd => ⟨v + 1, by omega, ?_⟩, h4, fun hm => ?_⟩
  · rw [pk_un (by omega)]
    by_cases hE : j = d
    · subst hE; exact ⟨v, hv, pk_us⟩
    · rw [pk_un hE]; exact h2 j (by omega)
  · rw [show d + 2 - 1 = d + 1 from rfl, pk_us, nI_pred]
  · rcases h5 hm with h | ⟨h6, h7, h8⟩
    · exact Or.inl h
    · have hvd : v = d := by
        rw [show d + 1 - 1 = d from rfl, hc] at h8
        have h9 := congrArg (fun x => x + 1) h8
        simp only [Int32.sub_add_cancel] at h9
        exact (nI_eq (a := v) (b := d) (by omega) (by omega)).mp h9
      subst hvd
      refine Or.inr ⟨by omega, fun j hj => ?_, ?_⟩
      · rw [pk_un (by omega)]
        by_cases hE : j = v
        · subst hE; exact pk_us
        · rw [pk_un hE]; exact h7 j (by omega)
      · rw [show v + 2 - 1 = v + 1 from rfl, pk_us, nI_pred]
/-- on the road straight down the next is d -/
theorem tP_v {PK d v : Nat} {cv : Nat → Int32} (h : tPath (d + 1) cv) (hv : v ≤ PK) (hPK : PK ≤ 81) (hd : d ≤ 81) (hc : cv d = nI v - 1) : v = d ∧ ∀ j, j < d → cv j = nI j := by
  obtain ⟨h6, h7, h8⟩ := h
  rw [show d + 1 - 1 = d from rfl, hc] at h8
  have h9 := congrArg (fun x => x + 1) h8
  simp only [Int32.sub_add_cancel] at h9
  exact ⟨(nI_eq (a := v) (b := d) (by omega) (by omega)).mp h9, fun j hj => h7 j (by omega)⟩
theorem tI_end {PK mny dd : Nat} {fl : Bool} {be cv : Nat → Int32} (h : tInv PK mny fl be cv dd) (hPK : PK ≤ 81) (hm : mny ≤ PK) (c : nI dd - 1 < 0) : (fl = true → ∀ t, t < mny → ∃ c, c < PK ∧ be t = nI c) ∧ (mny = PK → fl = true) := by
  have h0 : dd = 0 := by
    have h1 := h.1
    apply Classical.byContradiction
    intro hne
    rw [show dd = (dd - 1) + 1 by omega, nI_pred] at c
    exact absurd c (Int32.not_lt.mpr (nI_nn (by omega)))
  refine ⟨h.2.2.2.1, fun hm => (h.2.2.2.2 hm).elim id (fun hp => ?_)⟩
  have := hp.1
  omega
theorem q_in2 {PK : Nat} {v : Int32} (h : ∃ c, c < PK ∧ v = nI c) (hPK : PK ≤ 81) : vp_in v 81 := by
  obtain ⟨c, hc, rfl⟩ := h
  exact vp_in_nI (by omega) (by omega)
theorem rsem_end (pt : Nat → Int32) (PK : Nat) : rsem pt PK 0 PK := fun e _ => ⟨fun h => (by rw [b_0] at h; cases h), fun ⟨j, h1, h2, _⟩ => absurd h2 (by omega)⟩
theorem rsem_s {pt : Nat → Int32} {PK k : Nat} {x : Int32} (hk : k < PK) (h : rsem pt PK x (k + 1)) : rsem pt PK (x ||| pt k) k := fun e he => by
  rw [b_or, Bool.or_eq_true, h e he]
  constructor
  · rintro (⟨j, h1, h2, h3⟩ | h3)
    · exact ⟨j, by omega, h2, h3⟩
    · exact ⟨k, Nat.le_refl k, hk, h3⟩
  · rintro ⟨j, h1, h2, h3⟩
    by_cases hE : j = k
    · subst hE; exact Or.inr h3
    · exact Or.inl ⟨j, by omega, h2, h3⟩
set_option maxHeartbeats 1000000 in
set_option maxRecDepth 100000 in
theorem lg_Ref_tryAll0 {p : Program} {e : Env} {s : State} {m : MethodId} {args : Array Value} {below : List Frame} {meth : Method} {c : Code} {Q : State → Prop} (l : Launch) (dC : Nat → ClassId) (dI : Nat → Nat → Nat) (cI cJ : ClassId) (r0 : Nat) (th : Int32) (N : Nat) (OU : Nat) (Z : Nat) (r1 : Nat) (r2 : Nat) (M : Nat) (r3 : Nat) (r4 : Nat) (r5 : Nat) (r6 : Nat) (r7 : Nat) (r8 : Nat) (PK : Nat) (r9 : Nat) (kp : Int32) (r10 : Nat) (r11 : Nat) (TK : Nat) (r12 : Nat) (qc : Int32) (r13 : Nat) (r14 : Nat) (bst : Int32) (r15 : Nat) (pc : Nat → Int32) (pt : Nat → Int32) (rs : Nat → Int32) (ch : Nat → Int32) (be : Nat → Int32) (wt : Int32) (mny : Nat) (hPK : PK ≤ 81) (hcov : ∀ e, e < 32 → bt wt e = true → ∃ k, k < PK ∧ bt (pt k) e = true) (hmny : mny ≤ PK) (hrs : ∀ k, k ≤ PK → rsem pt PK (rs k) k) (fl : Bool) (bc : Int32) (cv : Nat → Int32) (bx : Nat → Int32) (d : Nat) (hd : d ≤ 81) (hc : ∀ j, j < d → ∃ c, c < PK ∧ cv j = nI c) (hx : p.tables.exec = Jvm.exec) (hb : c.code = b_Ref_tryAll) (hts : ∀ w ∈ lwg, w.before args s = true) (hown : s.vm.findClass R_Ref = some m.cls) (hml : c.maxLocals = 10) (hK : va_K (dC, dI) classes [(cI, .int), (cJ, .long)] s) {A : Nat → Prop} (hA : ∀ q : Nat, s.heap.size ≤ q → A q) (kk : ∀ (cs : Int32), (True) → ∀ (H : Heap) (locs : List Loc) (ls : Array Slot), va_P (dC, dI) classes [(r0, .inr (8, [.int th, .int ((nI N)), .int ((nI OU)), .int ((nI Z)), .ref r1, .ref r2, .int ((nI M)), .ref r3, .ref r4, .ref r5, .ref r6, .ref r7, .ref r8, .int ((nI PK)), .ref r9, .int kp, .ref r10, .ref r11, .int ((nI TK)), .ref r12, .int qc, .ref r13, .ref r14, .int bc, .ref r15])), (r7, .inl (cI, 81, .inl pc)), (r8, .inl (cI, 81, .inl pt)), (r9, .inl (cI, 82, .inl rs)), (r13, .inl (cI, 82, .inl cv)), (r14, .inl (cI, 82, .inl bx))] H → va_D A [(r0, .inr (8, [.int th, .int ((nI N)), .int ((nI OU)), .int ((nI Z)), .ref r1, .ref r2, .int ((nI M)), .ref r3, .ref r4, .ref r5, .ref r6, .ref r7, .ref r8, .int ((nI PK)), .ref r9, .int kp, .ref r10, .ref r11, .int ((nI TK)), .ref r12, .int qc, .ref r13, .ref r14, .int bc, .ref r15])), (r7, .inl (cI, 81, .inl pc)), (r8, .inl (cI, 81, .inl pt)), (r9, .inl (cI, 82, .inl rs)), (r13, .inl (cI, 82, .inl cv)), (r14, .inl (cI, 82, .inl bx))] → va_S A s.heap H locs → lv_has ls 10 [(0, .ref r0), (1, .int ((nI mny))), (2, .int wt), (3, .int ((bI fl))), (4, .int ((nI d))), (5, .int ((hdF pt cv d))), (6, .int cs)] → W p l e ({ frames := 0, cells := 0, slots := 0, locals := 0 } : Room) s m args below meth c H locs 0 0 Q (F0 m 73 ls [])) : ∀ (fu : Nat) (j : Nat) (cs : Int32), d - j < fu → (j ≤ d) → ∀ (H : Heap) (locs : List Loc) (ls : Array Slot), va_P (dC, dI) classes [(r0, .inr (8, [.int th, .int ((nI N)), .int ((nI OU)), .int ((nI Z)), .ref r1, .ref r2, .int ((nI M)), .ref r3, .ref r4, .ref r5, .ref r6, .ref r7, .ref r8, .int ((nI PK)), .ref r9, .int kp, .ref r10, .ref r11, .int ((nI TK)), .ref r12, .int qc, .ref r13, .ref r14, .int bc, .ref r15])), (r7, .inl (cI, 81, .inl pc)), (r8, .inl (cI, 81, .inl pt)), (r9, .inl (cI, 82, .inl rs)), (r13, .inl (cI, 82, .inl cv)), (r14, .inl (cI, 82, .inl bx))] H → va_D A [(r0, .inr (8, [.int th, .int ((nI N)), .int ((nI OU)), .int ((nI Z)), .ref r1, .ref r2, .int ((nI M)), .ref r3, .ref r4, .ref r5, .ref r6, .ref r7, .ref r8, .int ((nI PK)), .ref r9, .int kp, .ref r10, .ref r11, .int ((nI TK)), .ref r12, .int qc, .ref r13, .ref r14, .int bc, .ref r15])), (r7, .inl (cI, 81, .inl pc)), (r8, .inl (cI, 81, .inl pt)), (r9, .inl (cI, 82, .inl rs)), (r13, .inl (cI, 82, .inl cv)), (r14, .inl (cI, 82, .inl bx))] → va_S A s.heap H locs → lv_has ls 10 [(0, .ref r0), (1, .int ((nI mny))), (2, .int wt), (3, .int ((bI fl))), (4, .int ((nI d))), (5, .int ((hdF pt cv j))), (6, .int cs), (7, .int ((nI j)))] → W p l e ({ frames := 0, cells := 0, slots := 0, locals := 0 } : Room) s m args below meth c H locs 0 0 Q (F0 m 26 ls []) := by
  intro fu
  induction fu with
  | zero => intro j cs h; exact absurd h (Nat.not_lt_zero _)
  | succ fu ih =>
    intro j cs hmu hI H locs ls hP hD hS hl
    refine lv_iload hx hb d_Ref_tryAll_26 (lv_at hl 7 rfl) ?_
    refine lv_iload hx hb d_Ref_tryAll_28 (lv_at hl 4 rfl) ?_
    refine lv_icmp_ge (tgt := 73) hx hb d_Ref_tryAll_30 (by decide) (fun c_30 => ?_) (fun c_30 => ?_)
    · have hE : j = d := Nat.le_antisymm hI ((nI_leI (a := d) (b := j) (by omega) (by omega)).mp c_30)
      subst hE
      exact kk cs (trivial) _ _ ls (hP.sub [0, 1, 2, 3, 4, 5] rfl) (hD.sub [0, 1, 2, 3, 4, 5] (by decide) rfl) hS (lv_sub hl [0, 1, 2, 3, 4, 5, 6] rfl)
    · have hlt : j < d := Nat.lt_of_not_le (fun h => c_30 ((nI_leI (a := d) (b := j) (by omega) (by omega)).mpr h))
      refine lv_iload hx hb d_Ref_tryAll_33 (lv_at hl 5 rfl) ?_
      refine lv_aload_n hx hb d_Ref_tryAll_35 rfl (lv_at hl 0 rfl) ?_
      refine va_get (D := (dC, dI)) (ci := 8) (v := .ref r8) (C := R_Ref) (T := F_Ref) (N := 25) hx hb hts i_Ref hown hK hP 0 rfl rfl 12 (by decide) (hts _ mw_fl_Ref_31) (fun _ h9 => h9) rfl d_Ref_tryAll_36 ?_
      refine lv_aload_n hx hb d_Ref_tryAll_39 rfl (lv_at hl 0 rfl) ?_
      refine va_get (D := (dC, dI)) (ci := 8) (v := .ref r13) (C := R_Ref) (T := F_Ref) (N := 25) hx hb hts i_Ref hown hK hP 0 rfl rfl 21 (by decide) (hts _ mw_fl_Ref_46) (fun _ h9 => h9) rfl d_Ref_tryAll_40 ?_
      refine lv_iload hx hb d_Ref_tryAll_43 (lv_at hl 7 rfl) ?_
      refine va_iald hx hb hK hP 4 0 rfl rfl (vp_in_nI (show j < 82 by omega) (by omega)) d_Ref_tryAll_45 ?_
      refine w_ti (show _ = cv j from by rw [nI_clamp (by omega)]) ?_
      refine va_iald hx hb hK hP 2 0 rfl rfl (q_in2 (hc j hlt) hPK) d_Ref_tryAll_46 ?_
      refine lv_ior hx hb d_Ref_tryAll_47 ?_
      refine w_ti (show _ = hdF pt cv (j + 1) from rfl) ?_
      refine lv_istore (lv' := [(5, .int ((hdF pt cv (j + 1)))), (0, .ref r0), (1, .int ((nI mny))), (2, .int wt), (3, .int ((bI fl))), (4, .int ((nI d))), (6, .int cs), (7, .int ((nI j)))]) hx hb d_Ref_tryAll_48 hl (by decide) rfl (fun ls hl => ?_)
      refine lv_iload hx hb d_Ref_tryAll_50 (lv_at hl 6 rfl) ?_
      refine lv_aload_n hx hb d_Ref_tryAll_52 rfl (lv_at hl 1 rfl) ?_
      refine va_get (D := (dC, dI)) (ci := 8) (v := .ref r7) (C := R_Ref) (T := F_Ref) (N := 25) hx hb hts i_Ref hown hK hP 0 rfl rfl 11 (by decide) (hts _ mw_fl_Ref_28) (fun _ h9 => h9) rfl d_Ref_tryAll_53 ?_
      refine lv_aload_n hx hb d_Ref_tryAll_56 rfl (lv_at hl 1 rfl) ?_
      refine va_get (D := (dC, dI)) (ci := 8) (v := .ref r13) (C := R_Ref) (T := F_Ref) (N := 25) hx hb hts i_Ref hown hK hP 0 rfl rfl 21 (by decide) (hts _ mw_fl_Ref_46) (fun _ h9 => h9) rfl d_Ref_tryAll_57 ?_
      refine lv_iload hx hb d_Ref_tryAll_60 (lv_at hl 7 rfl) ?_
      refine va_iald hx hb hK hP 4 0 rfl rfl (vp_in_nI (show j < 82 by omega) (by omega)) d_Ref_tryAll_62 ?_
      refine w_ti (show _ = cv j from by rw [nI_clamp (by omega)]) ?_
      refine va_iald hx hb hK hP 1 0 rfl rfl (q_in2 (hc j hlt) hPK) d_Ref_tryAll_63 ?_
      refine lv_iadd hx hb d_Ref_tryAll_64 ?_
      refine lv_istore (lv' := [(6, .int ((cs + (pc (cv j).toNatClampNeg)))), (5, .int ((hdF pt cv (j + 1)))), (0, .ref r0), (1, .int ((nI mny))), (2, .int wt), (3, .int ((bI fl))), (4, .int ((nI d))), (7, .int ((nI j)))]) hx hb d_Ref_tryAll_65 hl (by decide) rfl (fun ls hl => ?_)
      refine lv_iinc (v := (nI (j + 1))) (lv' := [(7, .int ((nI (j + 1)))), (6, .int ((cs + (pc (cv j).toNatClampNeg)))), (5, .int ((hdF pt cv (j + 1)))), (0, .ref r0), (1, .int ((nI mny))), (2, .int wt), (3, .int ((bI fl))), (4, .int ((nI d)))]) hx hb d_Ref_tryAll_67 hl (k := 7) rfl (show nI j + 1 = nI (j + 1) from nI_1 _) (by decide) rfl (fun ls hl => ?_)
      refine lv_goto (tgt := 26) hx hb d_Ref_tryAll_70 (by decide) ?_
      exact ih ((j + 1)) ((cs + (pc (cv j).toNatClampNeg))) (by omega) (by omega) _ _ ls (hP.sub [0, 1, 2, 3, 4, 5] rfl) (hD.sub [0, 1, 2, 3, 4, 5] (by decide) rfl) hS (lv_sub hl [3, 4, 5, 6, 7, 2, 1, 0] rfl)
set_option maxHeartbeats 1000000 in
set_option maxRecDepth 100000 in
theorem lg_Ref_tryAll1 {p : Program} {e : Env} {s : State} {m : MethodId} {args : Array Value} {below : List Frame} {meth : Method} {c : Code} {Q : State → Prop} (l : Launch) (dC : Nat → ClassId) (dI : Nat → Nat → Nat) (cI cJ : ClassId) (r0 : Nat) (th : Int32) (N : Nat) (OU : Nat) (Z : Nat) (r1 : Nat) (r2 : Nat) (M : Nat) (r3 : Nat) (r4 : Nat) (r5 : Nat) (r6 : Nat) (r7 : Nat) (r8 : Nat) (PK : Nat) (r9 : Nat) (kp : Int32) (r10 : Nat) (r11 : Nat) (TK : Nat) (r12 : Nat) (qc : Int32) (r13 : Nat) (r14 : Nat) (bst : Int32) (r15 : Nat) (pc : Nat → Int32) (pt : Nat → Int32) (rs : Nat → Int32) (ch : Nat → Int32) (be : Nat → Int32) (wt : Int32) (mny : Nat) (hPK : PK ≤ 81) (hcov : ∀ e, e < 32 → bt wt e = true → ∃ k, k < PK ∧ bt (pt k) e = true) (hmny : mny ≤ PK) (hrs : ∀ k, k ≤ PK → rsem pt PK (rs k) k) (fl : Bool) (bc : Int32) (cv : Nat → Int32) (d : Nat) (hc : ∀ j, j < mny → ∃ c, c < PK ∧ cv j = nI c) (hx : p.tables.exec = Jvm.exec) (hb : c.code = b_Ref_tryAll) (hts : ∀ w ∈ lwg, w.before args s = true) (hown : s.vm.findClass R_Ref = some m.cls) (hml : c.maxLocals = 10) (hK : va_K (dC, dI) classes [(cI, .int), (cJ, .long)] s) {A : Nat → Prop} (hA : ∀ q : Nat, s.heap.size ≤ q → A q) (kk : ∀ (bx : Nat → Int32), (∀ t, t < mny → ∃ c, c < PK ∧ bx t = nI c) → ∀ (H : Heap) (locs : List Loc) (ls : Array Slot), va_P (dC, dI) classes [(r0, .inr (8, [.int th, .int ((nI N)), .int ((nI OU)), .int ((nI Z)), .ref r1, .ref r2, .int ((nI M)), .ref r3, .ref r4, .ref r5, .ref r6, .ref r7, .ref r8, .int ((nI PK)), .ref r9, .int kp, .ref r10, .ref r11, .int ((nI TK)), .ref r12, .int qc, .ref r13, .ref r14, .int bc, .ref r15])), (r7, .inl (cI, 81, .inl pc)), (r8, .inl (cI, 81, .inl pt)), (r9, .inl (cI, 82, .inl rs)), (r13, .inl (cI, 82, .inl cv)), (r14, .inl (cI, 82, .inl bx))] H → va_D A [(r0, .inr (8, [.int th, .int ((nI N)), .int ((nI OU)), .int ((nI Z)), .ref r1, .ref r2, .int ((nI M)), .ref r3, .ref r4, .ref r5, .ref r6, .ref r7, .ref r8, .int ((nI PK)), .ref r9, .int kp, .ref r10, .ref r11, .int ((nI TK)), .ref r12, .int qc, .ref r13, .ref r14, .int bc, .ref r15])), (r7, .inl (cI, 81, .inl pc)), (r8, .inl (cI, 81, .inl pt)), (r9, .inl (cI, 82, .inl rs)), (r13, .inl (cI, 82, .inl cv)), (r14, .inl (cI, 82, .inl bx))] → va_S A s.heap H locs → lv_has ls 10 [(0, .ref r0), (1, .int ((nI mny))), (2, .int wt), (3, .int ((bI fl))), (4, .int ((nI d)))] → W p l e ({ frames := 0, cells := 0, slots := 0, locals := 0 } : Room) s m args below meth c H locs 0 0 Q (F0 m 138 ls [])) : ∀ (fu : Nat) (j : Nat) (bx : Nat → Int32), mny - j < fu → (j ≤ mny ∧ ∀ t, t < j → ∃ c, c < PK ∧ bx t = nI c) → ∀ (H : Heap) (locs : List Loc) (ls : Array Slot), va_P (dC, dI) classes [(r0, .inr (8, [.int th, .int ((nI N)), .int ((nI OU)), .int ((nI Z)), .ref r1, .ref r2, .int ((nI M)), .ref r3, .ref r4, .ref r5, .ref r6, .ref r7, .ref r8, .int ((nI PK)), .ref r9, .int kp, .ref r10, .ref r11, .int ((nI TK)), .ref r12, .int qc, .ref r13, .ref r14, .int bc, .ref r15])), (r7, .inl (cI, 81, .inl pc)), (r8, .inl (cI, 81, .inl pt)), (r9, .inl (cI, 82, .inl rs)), (r13, .inl (cI, 82, .inl cv)), (r14, .inl (cI, 82, .inl bx))] H → va_D A [(r0, .inr (8, [.int th, .int ((nI N)), .int ((nI OU)), .int ((nI Z)), .ref r1, .ref r2, .int ((nI M)), .ref r3, .ref r4, .ref r5, .ref r6, .ref r7, .ref r8, .int ((nI PK)), .ref r9, .int kp, .ref r10, .ref r11, .int ((nI TK)), .ref r12, .int qc, .ref r13, .ref r14, .int bc, .ref r15])), (r7, .inl (cI, 81, .inl pc)), (r8, .inl (cI, 81, .inl pt)), (r9, .inl (cI, 82, .inl rs)), (r13, .inl (cI, 82, .inl cv)), (r14, .inl (cI, 82, .inl bx))] → va_S A s.heap H locs → lv_has ls 10 [(0, .ref r0), (1, .int ((nI mny))), (2, .int wt), (3, .int ((bI fl))), (4, .int ((nI d))), (7, .int ((nI j)))] → W p l e ({ frames := 0, cells := 0, slots := 0, locals := 0 } : Room) s m args below meth c H locs 0 0 Q (F0 m 112 ls []) := by
  intro fu
  induction fu with
  | zero => intro j bx h; exact absurd h (Nat.not_lt_zero _)
  | succ fu ih =>
    intro j bx hmu hI H locs ls hP hD hS hl
    have hI1 := hI.1
    refine lv_iload hx hb d_Ref_tryAll_112 (lv_at hl 5 rfl) ?_
    refine lv_iload_n hx hb d_Ref_tryAll_114 rfl (lv_at hl 1 rfl) ?_
    refine lv_icmp_ge (tgt := 138) hx hb d_Ref_tryAll_115 (by decide) (fun c_115 => ?_) (fun c_115 => ?_)
    · exact kk bx ((show j = mny from Nat.le_antisymm hI.1 ((nI_leI (a := mny) (b := j) (by omega) (by omega)).mp c_115)) ▸ hI.2) _ _ ls (hP.sub [0, 1, 2, 3, 4, 5] rfl) (hD.sub [0, 1, 2, 3, 4, 5] (by decide) rfl) hS (lv_sub hl [0, 1, 2, 3, 4] rfl)
    · have hlt : j < mny := Nat.lt_of_not_le (fun h => c_115 ((nI_leI (a := mny) (b := j) (by omega) (by omega)).mpr h))
      obtain ⟨c9, hc9, he9⟩ := hc j hlt
      refine lv_aload_n hx hb d_Ref_tryAll_118 rfl (lv_at hl 0 rfl) ?_
      refine va_get (D := (dC, dI)) (ci := 8) (v := .ref r14) (C := R_Ref) (T := F_Ref) (N := 25) hx hb hts i_Ref hown hK hP 0 rfl rfl 22 (by decide) (hts _ mw_fl_Ref_49) (fun _ h9 => h9) rfl d_Ref_tryAll_119 ?_
      refine lv_iload hx hb d_Ref_tryAll_122 (lv_at hl 5 rfl) ?_
      refine lv_aload_n hx hb d_Ref_tryAll_124 rfl (lv_at hl 0 rfl) ?_
      refine va_get (D := (dC, dI)) (ci := 8) (v := .ref r13) (C := R_Ref) (T := F_Ref) (N := 25) hx hb hts i_Ref hown hK hP 0 rfl rfl 21 (by decide) (hts _ mw_fl_Ref_46) (fun _ h9 => h9) rfl d_Ref_tryAll_125 ?_
      refine lv_iload hx hb d_Ref_tryAll_128 (lv_at hl 5 rfl) ?_
      refine va_iald hx hb hK hP 4 0 rfl rfl (vp_in_nI (show j < 82 by omega) (by omega)) d_Ref_tryAll_130 ?_
      refine w_ti (show _ = nI c9 from by rw [nI_clamp (by omega)]; exact he9) ?_
      refine va_iast hx hb hK hP hD hS 5 0 rfl rfl (vp_in_nI (show j < 82 by omega) (by omega)) d_Ref_tryAll_131 (fun H locs hP hD hS => ?_)
      have hP : va_P (dC, dI) classes [(r0, .inr (8, [.int th, .int ((nI N)), .int ((nI OU)), .int ((nI Z)), .ref r1, .ref r2, .int ((nI M)), .ref r3, .ref r4, .ref r5, .ref r6, .ref r7, .ref r8, .int ((nI PK)), .ref r9, .int kp, .ref r10, .ref r11, .int ((nI TK)), .ref r12, .int qc, .ref r13, .ref r14, .int bc, .ref r15])), (r7, .inl (cI, 81, .inl pc)), (r8, .inl (cI, 81, .inl pt)), (r9, .inl (cI, 82, .inl rs)), (r13, .inl (cI, 82, .inl cv)), (r14, .inl (cI, 82, .inl ((upd bx (nI j).toNatClampNeg ((nI c9))))))] H := hP
      have hD : va_D A [(r0, .inr (8, [.int th, .int ((nI N)), .int ((nI OU)), .int ((nI Z)), .ref r1, .ref r2, .int ((nI M)), .ref r3, .ref r4, .ref r5, .ref r6, .ref r7, .ref r8, .int ((nI PK)), .ref r9, .int kp, .ref r10, .ref r11, .int ((nI TK)), .ref r12, .int qc, .ref r13, .ref r14, .int bc, .ref r15])), (r7, .inl (cI, 81, .inl pc)), (r8, .inl (cI, 81, .inl pt)), (r9, .inl (cI, 82, .inl rs)), (r13, .inl (cI, 82, .inl cv)), (r14, .inl (cI, 82, .inl ((upd bx (nI j).toNatClampNeg ((nI c9))))))] := hD
      rw [show (nI j).toNatClampNeg = j from nI_clamp (by omega)] at hP hD
      refine lv_iinc (v := (nI (j + 1))) (lv' := [(7, .int ((nI (j + 1)))), (0, .ref r0), (1, .int ((nI mny))), (2, .int wt), (3, .int ((bI fl))), (4, .int ((nI d)))]) hx hb d_Ref_tryAll_132 hl (k := 5) rfl (show nI j + 1 = nI (j + 1) from nI_1 _) (by decide) rfl (fun ls hl => ?_)
      refine lv_goto (tgt := 112) hx hb d_Ref_tryAll_135 (by decide) ?_
      exact ih ((j + 1)) ((upd bx j (nI c9))) (by omega) (⟨by omega, q_ext hI.2 hc9⟩) _ _ ls (hP.sub [0, 1, 2, 3, 4, 5] rfl) (hD.sub [0, 1, 2, 3, 4, 5] (by decide) rfl) hS (lv_sub hl [1, 2, 3, 4, 5, 0] rfl)
set_option maxHeartbeats 1000000 in
set_option maxRecDepth 100000 in
theorem lg_Ref_tryAll2 {p : Program} {e : Env} {s : State} {m : MethodId} {args : Array Value} {below : List Frame} {meth : Method} {c : Code} {Q : State → Prop} (l : Launch) (dC : Nat → ClassId) (dI : Nat → Nat → Nat) (cI cJ : ClassId) (r0 : Nat) (th : Int32) (N : Nat) (OU : Nat) (Z : Nat) (r1 : Nat) (r2 : Nat) (M : Nat) (r3 : Nat) (r4 : Nat) (r5 : Nat) (r6 : Nat) (r7 : Nat) (r8 : Nat) (PK : Nat) (r9 : Nat) (kp : Int32) (r10 : Nat) (r11 : Nat) (TK : Nat) (r12 : Nat) (qc : Int32) (r13 : Nat) (r14 : Nat) (bst : Int32) (r15 : Nat) (pc : Nat → Int32) (pt : Nat → Int32) (rs : Nat → Int32) (ch : Nat → Int32) (be : Nat → Int32) (wt : Int32) (mny : Nat) (hPK : PK ≤ 81) (hcov : ∀ e, e < 32 → bt wt e = true → ∃ k, k < PK ∧ bt (pt k) e = true) (hmny : mny ≤ PK) (hrs : ∀ k, k ≤ PK → rsem pt PK (rs k) k)   (hx : p.tables.exec = Jvm.exec) (hb : c.code = b_Ref_tryAll) (hts : ∀ w ∈ lwg, w.before args s = true) (hown : s.vm.findClass R_Ref = some m.cls) (hml : c.maxLocals = 10) (hK : va_K (dC, dI) classes [(cI, .int), (cJ, .long)] s) {A : Nat → Prop} (hA : ∀ q : Nat, s.heap.size ≤ q → A q) (kk : ∀ (fl : Bool) (bc : Int32) (cv : Nat → Int32) (bx : Nat → Int32), ((fl = true → ∀ t, t < mny → ∃ c, c < PK ∧ bx t = nI c) ∧ (mny = PK → fl = true)) → ∀ (H : Heap) (locs : List Loc) (ls : Array Slot), va_P (dC, dI) classes [(r0, .inr (8, [.int th, .int ((nI N)), .int ((nI OU)), .int ((nI Z)), .ref r1, .ref r2, .int ((nI M)), .ref r3, .ref r4, .ref r5, .ref r6, .ref r7, .ref r8, .int ((nI PK)), .ref r9, .int kp, .ref r10, .ref r11, .int ((nI TK)), .ref r12, .int qc, .ref r13, .ref r14, .int bc, .ref r15])), (r7, .inl (cI, 81, .inl pc)), (r8, .inl (cI, 81, .inl pt)), (r9, .inl (cI, 82, .inl rs)), (r13, .inl (cI, 82, .inl cv)), (r14, .inl (cI, 82, .inl bx))] H → va_D A [(r0, .inr (8, [.int th, .int ((nI N)), .int ((nI OU)), .int ((nI Z)), .ref r1, .ref r2, .int ((nI M)), .ref r3, .ref r4, .ref r5, .ref r6, .ref r7, .ref r8, .int ((nI PK)), .ref r9, .int kp, .ref r10, .ref r11, .int ((nI TK)), .ref r12, .int qc, .ref r13, .ref r14, .int bc, .ref r15])), (r7, .inl (cI, 81, .inl pc)), (r8, .inl (cI, 81, .inl pt)), (r9, .inl (cI, 82, .inl rs)), (r13, .inl (cI, 82, .inl cv)), (r14, .inl (cI, 82, .inl bx))] → va_S A s.heap H locs → lv_has ls 10 [(0, .ref r0), (3, .int ((bI fl)))] → W p l e ({ frames := 0, cells := 0, slots := 0, locals := 0 } : Room) s m args below meth c H locs 0 0 Q (F0 m 269 ls [])) : ∀ (fu : Nat) (dd : Nat) (fl : Bool) (bc : Int32) (cv : Nat → Int32) (bx : Nat → Int32), tS PK mny cv dd < fu → (tInv PK mny fl bx cv dd) → ∀ (H : Heap) (locs : List Loc) (ls : Array Slot), va_P (dC, dI) classes [(r0, .inr (8, [.int th, .int ((nI N)), .int ((nI OU)), .int ((nI Z)), .ref r1, .ref r2, .int ((nI M)), .ref r3, .ref r4, .ref r5, .ref r6, .ref r7, .ref r8, .int ((nI PK)), .ref r9, .int kp, .ref r10, .ref r11, .int ((nI TK)), .ref r12, .int qc, .ref r13, .ref r14, .int bc, .ref r15])), (r7, .inl (cI, 81, .inl pc)), (r8, .inl (cI, 81, .inl pt)), (r9, .inl (cI, 82, .inl rs)), (r13, .inl (cI, 82, .inl cv)), (r14, .inl (cI, 82, .inl bx))] H → va_D A [(r0, .inr (8, [.int th, .int ((nI N)), .int ((nI OU)), .int ((nI Z)), .ref r1, .ref r2, .int ((nI M)), .ref r3, .ref r4, .ref r5, .ref r6, .ref r7, .ref r8, .int ((nI PK)), .ref r9, .int kp, .ref r10, .ref r11, .int ((nI TK)), .ref r12, .int qc, .ref r13, .ref r14, .int bc, .ref r15])), (r7, .inl (cI, 81, .inl pc)), (r8, .inl (cI, 81, .inl pt)), (r9, .inl (cI, 82, .inl rs)), (r13, .inl (cI, 82, .inl cv)), (r14, .inl (cI, 82, .inl bx))] → va_S A s.heap H locs → lv_has ls 10 [(0, .ref r0), (1, .int ((nI mny))), (2, .int wt), (3, .int ((bI fl))), (4, .int ((nI dd - 1)))] → W p l e ({ frames := 0, cells := 0, slots := 0, locals := 0 } : Room) s m args below meth c H locs 0 0 Q (F0 m 12 ls []) := by
  intro fu
  induction fu with
  | zero => intro dd fl bc cv bx h; exact absurd h (Nat.not_lt_zero _)
  | succ fu ih =>
    intro dd fl bc cv bx hmu hI H locs ls hP hD hS hl
    have hmn := hmny
    have hddm := hI.1
    refine lv_iload hx hb d_Ref_tryAll_12 (lv_at hl 4 rfl) ?_
    refine lv_if_lt (tgt := 269) hx hb d_Ref_tryAll_14 (by decide) (fun c_14 => ?_) (fun c_14 => ?_)
    · exact kk fl bc cv bx (tI_end hI hPK hmny c_14) _ _ ls (hP.sub [0, 1, 2, 3, 4, 5] rfl) (hD.sub [0, 1, 2, 3, 4, 5] (by decide) rfl) hS (lv_sub hl [0, 3] rfl)
    · obtain ⟨d, rfl⟩ : ∃ d, dd = d + 1 := ⟨dd - 1, by have : ¬ dd = 0 := fun h => c_14 (by rw [h]; decide); omega⟩
      rw [nI_pred] at hl
      obtain ⟨v, hv, hcv⟩ := hI.2.2.1 (Nat.succ_pos d)
      have hcv : cv d = nI v - 1 := hcv
      have hI1 := hI.1
      refine lv_iconst (v := 0) hx hb d_Ref_tryAll_17 (by decide) ?_
      refine lv_istore (lv' := [(5, .int 0), (0, .ref r0), (1, .int ((nI mny))), (2, .int wt), (3, .int ((bI fl))), (4, .int ((nI d)))]) hx hb d_Ref_tryAll_18 hl (by decide) rfl (fun ls hl => ?_)
      refine lv_iconst (v := 0) hx hb d_Ref_tryAll_20 (by decide) ?_
      refine lv_istore (lv' := [(6, .int 0), (5, .int 0), (0, .ref r0), (1, .int ((nI mny))), (2, .int wt), (3, .int ((bI fl))), (4, .int ((nI d)))]) hx hb d_Ref_tryAll_21 hl (by decide) rfl (fun ls hl => ?_)
      refine lv_iconst (v := 0) hx hb d_Ref_tryAll_23 (by decide) ?_
      refine lv_istore (lv' := [(7, .int 0), (6, .int 0), (5, .int 0), (0, .ref r0), (1, .int ((nI mny))), (2, .int wt), (3, .int ((bI fl))), (4, .int ((nI d)))]) hx hb d_Ref_tryAll_24 hl (by decide) rfl (fun ls hl => ?_)
      refine lg_Ref_tryAll0 l dC dI cI cJ r0 th N OU Z r1 r2 M r3 r4 r5 r6 r7 r8 PK r9 kp r10 r11 TK r12 qc r13 r14 bst r15 pc pt rs ch be wt mny hPK hcov hmny hrs fl bc cv bx d (by omega) (fun j hj => hI.2.1 j (by omega)) hx hb hts hown hml hK hA (fun cs__1 hI__2 H locs ls hP hD hS hl => ?_) _ 0 0 (Nat.lt_succ_self _) (Nat.zero_le _) _ _ ls (hP.sub [0, 1, 2, 3, 4, 5] rfl) (hD.sub [0, 1, 2, 3, 4, 5] (by decide) rfl) hS (lv_sub hl [3, 4, 5, 6, 7, 2, 1, 0] rfl)
      have hP : va_P (dC, dI) classes [(r0, .inr (8, [.int th, .int ((nI N)), .int ((nI OU)), .int ((nI Z)), .ref r1, .ref r2, .int ((nI M)), .ref r3, .ref r4, .ref r5, .ref r6, .ref r7, .ref r8, .int ((nI PK)), .ref r9, .int kp, .ref r10, .ref r11, .int ((nI TK)), .ref r12, .int qc, .ref r13, .ref r14, .int bc, .ref r15])), (r7, .inl (cI, 81, .inl pc)), (r8, .inl (cI, 81, .inl pt)), (r9, .inl (cI, 82, .inl rs)), (r13, .inl (cI, 82, .inl cv)), (r14, .inl (cI, 82, .inl bx))] H := hP
      have hD : va_D A [(r0, .inr (8, [.int th, .int ((nI N)), .int ((nI OU)), .int ((nI Z)), .ref r1, .ref r2, .int ((nI M)), .ref r3, .ref r4, .ref r5, .ref r6, .ref r7, .ref r8, .int ((nI PK)), .ref r9, .int kp, .ref r10, .ref r11, .int ((nI TK)), .ref r12, .int qc, .ref r13, .ref r14, .int bc, .ref r15])), (r7, .inl (cI, 81, .inl pc)), (r8, .inl (cI, 81, .inl pt)), (r9, .inl (cI, 82, .inl rs)), (r13, .inl (cI, 82, .inl cv)), (r14, .inl (cI, 82, .inl bx))] := hD
      have hl : lv_has ls 10 [(0, .ref r0), (1, .int ((nI mny))), (2, .int wt), (3, .int ((bI fl))), (4, .int ((nI d))), (5, .int ((hdF pt cv d))), (6, .int cs__1)] := hl
      refine lv_iload hx hb d_Ref_tryAll_73 (lv_at hl 4 rfl) ?_
      refine lv_iload_n hx hb d_Ref_tryAll_75 rfl (lv_at hl 1 rfl) ?_
      refine lv_icmp_ne (tgt := 144) hx hb d_Ref_tryAll_76 (by decide) (fun c_76 => ?_) (fun c_76 => ?_)
      · have hdm : d < mny := by have : ¬ d = mny := fun h => c_76 ((nI_eq (a := d) (b := mny) (by omega) (by omega)).mpr h); omega
        refine lv_aload_n hx hb d_Ref_tryAll_144 rfl (lv_at hl 0 rfl) ?_
        refine va_get (D := (dC, dI)) (ci := 8) (v := .ref r13) (C := R_Ref) (T := F_Ref) (N := 25) hx hb hts i_Ref hown hK hP 0 rfl rfl 21 (by decide) (hts _ mw_fl_Ref_46) (fun _ h9 => h9) rfl d_Ref_tryAll_145 ?_
        refine lv_iload hx hb d_Ref_tryAll_148 (lv_at hl 4 rfl) ?_
        refine lv_dup2_11 hx hb d_Ref_tryAll_150 rfl rfl ?_
        refine va_iald hx hb hK hP 4 0 rfl rfl (vp_in_nI (show d < 82 by omega) (by omega)) d_Ref_tryAll_151 ?_
        refine w_ti (show _ = cv d from by rw [nI_clamp (by omega)]) ?_
        refine lv_iconst (v := 1) hx hb d_Ref_tryAll_152 (by decide) ?_
        refine lv_iadd hx hb d_Ref_tryAll_153 ?_
        refine w_ti (show _ = nI v from by rw [hcv]; exact Int32.sub_add_cancel _ _) ?_
        refine va_iast hx hb hK hP hD hS 4 0 rfl rfl (vp_in_nI (show d < 82 by omega) (by omega)) d_Ref_tryAll_154 (fun H locs hP hD hS => ?_)
        have hP : va_P (dC, dI) classes [(r0, .inr (8, [.int th, .int ((nI N)), .int ((nI OU)), .int ((nI Z)), .ref r1, .ref r2, .int ((nI M)), .ref r3, .ref r4, .ref r5, .ref r6, .ref r7, .ref r8, .int ((nI PK)), .ref r9, .int kp, .ref r10, .ref r11, .int ((nI TK)), .ref r12, .int qc, .ref r13, .ref r14, .int bc, .ref r15])), (r7, .inl (cI, 81, .inl pc)), (r8, .inl (cI, 81, .inl pt)), (r9, .inl (cI, 82, .inl rs)), (r13, .inl (cI, 82, .inl ((upd cv (nI d).toNatClampNeg ((nI v)))))), (r14, .inl (cI, 82, .inl bx))] H := hP
        have hD : va_D A [(r0, .inr (8, [.int th, .int ((nI N)), .int ((nI OU)), .int ((nI Z)), .ref r1, .ref r2, .int ((nI M)), .ref r3, .ref r4, .ref r5, .ref r6, .ref r7, .ref r8, .int ((nI PK)), .ref r9, .int kp, .ref r10, .ref r11, .int ((nI TK)), .ref r12, .int qc, .ref r13, .ref r14, .int bc, .ref r15])), (r7, .inl (cI, 81, .inl pc)), (r8, .inl (cI, 81, .inl pt)), (r9, .inl (cI, 82, .inl rs)), (r13, .inl (cI, 82, .inl ((upd cv (nI d).toNatClampNeg ((nI v)))))), (r14, .inl (cI, 82, .inl bx))] := hD
        rw [show (nI d).toNatClampNeg = d from nI_clamp (by omega)] at hP hD
        refine lv_aload_n hx hb d_Ref_tryAll_155 rfl (lv_at hl 0 rfl) ?_
        refine va_get (D := (dC, dI)) (ci := 8) (v := .ref r13) (C := R_Ref) (T := F_Ref) (N := 25) hx hb hts i_Ref hown hK hP 0 rfl rfl 21 (by decide) (hts _ mw_fl_Ref_46) (fun _ h9 => h9) rfl d_Ref_tryAll_156 ?_
        refine lv_iload hx hb d_Ref_tryAll_159 (lv_at hl 4 rfl) ?_
        refine va_iald hx hb hK hP 4 0 rfl rfl (vp_in_nI (show d < 82 by omega) (by omega)) d_Ref_tryAll_161 ?_
        refine w_ti (show _ = nI v from by rw [nI_clamp (by omega)]; exact pk_us) ?_
        refine lv_istore (lv' := [(7, .int ((nI v))), (0, .ref r0), (1, .int ((nI mny))), (2, .int wt), (3, .int ((bI fl))), (4, .int ((nI d))), (5, .int ((hdF pt cv d))), (6, .int cs__1)]) hx hb d_Ref_tryAll_162 hl (by decide) rfl (fun ls hl => ?_)
        refine lv_iload hx hb d_Ref_tryAll_164 (lv_at hl 0 rfl) ?_
        refine lv_aload_n hx hb d_Ref_tryAll_166 rfl (lv_at hl 1 rfl) ?_
        refine va_get (D := (dC, dI)) (ci := 8) (v := .int ((nI PK))) (C := R_Ref) (T := F_Ref) (N := 25) hx hb hts i_Ref hown hK hP 0 rfl rfl 13 (by decide) (hts _ mw_fl_Ref_82) (fun _ h9 => h9) rfl d_Ref_tryAll_167 ?_
        refine lv_icmp_ge (tgt := 190) hx hb d_Ref_tryAll_170 (by decide) (fun c_170 => ?_) (fun c_170 => ?_)
        · refine lv_iinc (v := (nI d - 1)) (lv' := [(4, .int ((nI d - 1))), (7, .int ((nI v))), (0, .ref r0), (1, .int ((nI mny))), (2, .int wt), (3, .int ((bI fl))), (5, .int ((hdF pt cv d))), (6, .int cs__1)]) hx hb d_Ref_tryAll_190 hl (k := 5) rfl (show nI d + (-1) = nI d - 1 from (Int32.sub_eq_add_neg _ _).symm) (by decide) rfl (fun ls hl => ?_)
          refine lv_goto (tgt := 266) hx hb d_Ref_tryAll_193 (by decide) ?_
          refine lv_goto (tgt := 12) hx hb d_Ref_tryAll_266 (by decide) ?_
          exact ih d fl bc ((upd cv d (nI v))) bx (by have := tS_pop (mny := mny) (f := upd cv d (nI v)) (by omega) hv hPK hcv (fun j hj => pk_un (by omega)); omega) (tI_pop hI (fun j hj => pk_un (by omega)) hI.2.2.2.1 (fun hm => (hI.2.2.2.2 hm).elim id (fun hp => absurd ((nI_leI (a := PK) (b := v) (by omega) (by omega)).mp c_170) (by have := (tP_v hp hv hPK (by omega) hcv).1; omega)))) _ _ ls (hP.sub [0, 1, 2, 3, 4, 5] rfl) (hD.sub [0, 1, 2, 3, 4, 5] (by decide) rfl) hS (lv_sub hl [2, 3, 4, 5, 0] rfl)
        · have hvP : v < PK := Nat.lt_of_not_le (fun h => c_170 ((nI_leI (a := PK) (b := v) (by omega) (by omega)).mpr h))
          refine lv_iload_n hx hb d_Ref_tryAll_173 rfl (lv_at hl 3 rfl) ?_
          refine lv_iload hx hb d_Ref_tryAll_174 (lv_at hl 6 rfl) ?_
          refine lv_aload_n hx hb d_Ref_tryAll_176 rfl (lv_at hl 1 rfl) ?_
          refine va_get (D := (dC, dI)) (ci := 8) (v := .ref r9) (C := R_Ref) (T := F_Ref) (N := 25) hx hb hts i_Ref hown hK hP 0 rfl rfl 14 (by decide) (hts _ mw_fl_Ref_34) (fun _ h9 => h9) rfl d_Ref_tryAll_177 ?_
          refine lv_iload hx hb d_Ref_tryAll_180 (lv_at hl 0 rfl) ?_
          refine va_iald hx hb hK hP 3 0 rfl rfl (vp_in_nI (show v < 82 by omega) (by omega)) d_Ref_tryAll_182 ?_
          refine w_ti (show _ = rs v from by rw [nI_clamp (by omega)]) ?_
          refine lv_ior hx hb d_Ref_tryAll_183 ?_
          refine lv_iconst (v := (-1)) hx hb d_Ref_tryAll_184 (by decide) ?_
          refine lv_ixor hx hb d_Ref_tryAll_185 ?_
          refine lv_iand hx hb d_Ref_tryAll_186 ?_
          refine lv_if_eq (tgt := 196) hx hb d_Ref_tryAll_187 (by decide) (fun c_187 => ?_) (fun c_187 => ?_)
          · refine lv_iload_n hx hb d_Ref_tryAll_196 rfl (lv_at hl 3 rfl) ?_
            refine lv_iload hx hb d_Ref_tryAll_197 (lv_at hl 6 rfl) ?_
            refine lv_aload_n hx hb d_Ref_tryAll_199 rfl (lv_at hl 1 rfl) ?_
            refine va_get (D := (dC, dI)) (ci := 8) (v := .ref r8) (C := R_Ref) (T := F_Ref) (N := 25) hx hb hts i_Ref hown hK hP 0 rfl rfl 12 (by decide) (hts _ mw_fl_Ref_31) (fun _ h9 => h9) rfl d_Ref_tryAll_200 ?_
            refine lv_iload hx hb d_Ref_tryAll_203 (lv_at hl 0 rfl) ?_
            refine va_iald hx hb hK hP 2 0 rfl rfl (vp_in_nI (show v < 81 by omega) (by omega)) d_Ref_tryAll_205 ?_
            refine w_ti (show _ = pt v from by rw [nI_clamp (by omega)]) ?_
            refine lv_ior hx hb d_Ref_tryAll_206 ?_
            refine lv_iconst (v := (-1)) hx hb d_Ref_tryAll_207 (by decide) ?_
            refine lv_ixor hx hb d_Ref_tryAll_208 ?_
            refine lv_iand hx hb d_Ref_tryAll_209 ?_
            refine lv_istore (lv' := [(8, .int ((wt &&& (((hdF pt cv d) ||| (pt v)) ^^^ (-1))))), (7, .int ((nI v))), (0, .ref r0), (1, .int ((nI mny))), (2, .int wt), (3, .int ((bI fl))), (4, .int ((nI d))), (5, .int ((hdF pt cv d))), (6, .int cs__1)]) hx hb d_Ref_tryAll_210 hl (by decide) rfl (fun ls hl => ?_)
            refine lv_iload hx hb d_Ref_tryAll_212 (lv_at hl 0 rfl) ?_
            refine lv_if_eq (tgt := 225) hx hb d_Ref_tryAll_214 (by decide) (fun c_214 => ?_) (fun c_214 => ?_)
            · refine lv_iload hx hb d_Ref_tryAll_225 (lv_at hl 0 rfl) ?_
              refine lv_aload_n hx hb d_Ref_tryAll_227 rfl (lv_at hl 2 rfl) ?_
              refine va_get (D := (dC, dI)) (ci := 8) (v := .ref r9) (C := R_Ref) (T := F_Ref) (N := 25) hx hb hts i_Ref hown hK hP 0 rfl rfl 14 (by decide) (hts _ mw_fl_Ref_34) (fun _ h9 => h9) rfl d_Ref_tryAll_228 ?_
              refine lv_iload hx hb d_Ref_tryAll_231 (lv_at hl 1 rfl) ?_
              refine lv_iconst (v := 1) hx hb d_Ref_tryAll_233 (by decide) ?_
              refine lv_iadd hx hb d_Ref_tryAll_234 ?_
              refine w_ti (show _ = nI (v + 1) from nI_1 v) ?_
              refine va_iald hx hb hK hP 3 0 rfl rfl (vp_in_nI (show (v + 1) < 82 by omega) (by omega)) d_Ref_tryAll_235 ?_
              refine w_ti (show _ = rs (v + 1) from by rw [nI_clamp (by omega)]) ?_
              refine lv_iconst (v := (-1)) hx hb d_Ref_tryAll_236 (by decide) ?_
              refine lv_ixor hx hb d_Ref_tryAll_237 ?_
              refine lv_iand hx hb d_Ref_tryAll_238 ?_
              refine lv_if_eq (tgt := 246) hx hb d_Ref_tryAll_239 (by decide) (fun c_239 => ?_) (fun c_239 => ?_)
              · refine lv_iconst (v := 0) hx hb d_Ref_tryAll_246 (by decide) ?_
                refine lv_istore (lv' := [(9, .int 0), (8, .int ((wt &&& (((hdF pt cv d) ||| (pt v)) ^^^ (-1))))), (7, .int ((nI v))), (0, .ref r0), (1, .int ((nI mny))), (2, .int wt), (3, .int ((bI fl))), (4, .int ((nI d))), (5, .int ((hdF pt cv d))), (6, .int cs__1)]) hx hb d_Ref_tryAll_247 hl (by decide) rfl (fun ls hl => ?_)
                refine lv_iload hx hb d_Ref_tryAll_249 (lv_at hl 0 rfl) ?_
                refine lv_if_ne (tgt := 266) hx hb d_Ref_tryAll_251 (by decide) (fun c_251 => ?_) (fun c_251 => ?_)
                · exact absurd c_251 (by decide +kernel)
                · refine lv_iinc (v := (nI (d + 1))) (lv' := [(4, .int ((nI (d + 1)))), (9, .int 0), (8, .int ((wt &&& (((hdF pt cv d) ||| (pt v)) ^^^ (-1))))), (7, .int ((nI v))), (0, .ref r0), (1, .int ((nI mny))), (2, .int wt), (3, .int ((bI fl))), (5, .int ((hdF pt cv d))), (6, .int cs__1)]) hx hb d_Ref_tryAll_254 hl (k := 7) rfl (show nI d + 1 = nI (d + 1) from nI_1 _) (by decide) rfl (fun ls hl => ?_)
                  refine lv_aload_n hx hb d_Ref_tryAll_257 rfl (lv_at hl 4 rfl) ?_
                  refine va_get (D := (dC, dI)) (ci := 8) (v := .ref r13) (C := R_Ref) (T := F_Ref) (N := 25) hx hb hts i_Ref hown hK hP 0 rfl rfl 21 (by decide) (hts _ mw_fl_Ref_46) (fun _ h9 => h9) rfl d_Ref_tryAll_258 ?_
                  refine lv_iload hx hb d_Ref_tryAll_261 (lv_at hl 0 rfl) ?_
                  refine lv_iload hx hb d_Ref_tryAll_263 (lv_at hl 3 rfl) ?_
                  refine va_iast hx hb hK hP hD hS 4 0 rfl rfl (vp_in_nI (show d + 1 < 82 by omega) (by omega)) d_Ref_tryAll_265 (fun H locs hP hD hS => ?_)
                  have hP : va_P (dC, dI) classes [(r0, .inr (8, [.int th, .int ((nI N)), .int ((nI OU)), .int ((nI Z)), .ref r1, .ref r2, .int ((nI M)), .ref r3, .ref r4, .ref r5, .ref r6, .ref r7, .ref r8, .int ((nI PK)), .ref r9, .int kp, .ref r10, .ref r11, .int ((nI TK)), .ref r12, .int qc, .ref r13, .ref r14, .int bc, .ref r15])), (r7, .inl (cI, 81, .inl pc)), (r8, .inl (cI, 81, .inl pt)), (r9, .inl (cI, 82, .inl rs)), (r13, .inl (cI, 82, .inl ((upd ((upd cv d ((nI v)))) (nI (d + 1)).toNatClampNeg ((nI v)))))), (r14, .inl (cI, 82, .inl bx))] H := hP
                  have hD : va_D A [(r0, .inr (8, [.int th, .int ((nI N)), .int ((nI OU)), .int ((nI Z)), .ref r1, .ref r2, .int ((nI M)), .ref r3, .ref r4, .ref r5, .ref r6, .ref r7, .ref r8, .int ((nI PK)), .ref r9, .int kp, .ref r10, .ref r11, .int ((nI TK)), .ref r12, .int qc, .ref r13, .ref r14, .int bc, .ref r15])), (r7, .inl (cI, 81, .inl pc)), (r8, .inl (cI, 81, .inl pt)), (r9, .inl (cI, 82, .inl rs)), (r13, .inl (cI, 82, .inl ((upd ((upd cv d ((nI v)))) (nI (d + 1)).toNatClampNeg ((nI v)))))), (r14, .inl (cI, 82, .inl bx))] := hD
                  rw [show (nI (d + 1)).toNatClampNeg = d + 1 from nI_clamp (by omega)] at hP hD
                  refine lv_goto (tgt := 12) hx hb d_Ref_tryAll_266 (by decide) ?_
                  rw [← nI_pred (d + 1)] at hl
                  exact ih ((d + 2)) fl bc ((upd (upd cv d (nI v)) (d + 1) (nI v))) bx (by have := tS_push (mny := mny) hdm hvP hPK hcv; omega) (tI_push hI hdm hvP hPK hcv) _ _ ls (hP.sub [0, 1, 2, 3, 4, 5] rfl) (hD.sub [0, 1, 2, 3, 4, 5] (by decide) rfl) hS (lv_sub hl [4, 5, 6, 7, 0] rfl)
              · refine lv_iconst (v := 1) hx hb d_Ref_tryAll_242 (by decide) ?_
                refine lv_goto (tgt := 247) hx hb d_Ref_tryAll_243 (by decide) ?_
                refine lv_istore (lv' := [(9, .int 1), (8, .int ((wt &&& (((hdF pt cv d) ||| (pt v)) ^^^ (-1))))), (7, .int ((nI v))), (0, .ref r0), (1, .int ((nI mny))), (2, .int wt), (3, .int ((bI fl))), (4, .int ((nI d))), (5, .int ((hdF pt cv d))), (6, .int cs__1)]) hx hb d_Ref_tryAll_247 hl (by decide) rfl (fun ls hl => ?_)
                refine lv_iload hx hb d_Ref_tryAll_249 (lv_at hl 0 rfl) ?_
                refine lv_if_ne (tgt := 266) hx hb d_Ref_tryAll_251 (by decide) (fun c_251 => ?_) (fun c_251 => ?_)
                · refine lv_goto (tgt := 12) hx hb d_Ref_tryAll_266 (by decide) ?_
                  rw [← nI_pred d] at hl
                  exact ih ((d + 1)) fl bc ((upd cv d (nI v))) bx (by have := tS_stay (mny := mny) (by omega) hvP hPK hcv; omega) (tI_stay hI hvP (fun hm => (hI.2.2.2.2 hm).elim id (fun hp => absurd (by have h9 := tP_v hp hv hPK (by omega) hcv; rw [h9.1]; exact try_c hPK hcov (hrs (d + 1) (by omega)) (by omega) h9.2) c_239))) _ _ ls (hP.sub [0, 1, 2, 3, 4, 5] rfl) (hD.sub [0, 1, 2, 3, 4, 5] (by decide) rfl) hS (lv_sub hl [3, 4, 5, 6, 7] rfl)
                · exact absurd c_251 (by decide +kernel)
            · refine lv_iload hx hb d_Ref_tryAll_217 (lv_at hl 6 rfl) ?_
              refine lv_iconst (v := 1) hx hb d_Ref_tryAll_219 (by decide) ?_
              refine lv_iadd hx hb d_Ref_tryAll_220 ?_
              refine w_ti (show _ = nI (d + 1) from nI_1 d) ?_
              refine lv_iload_n hx hb d_Ref_tryAll_221 rfl (lv_at hl 3 rfl) ?_
              refine lv_icmp_eq (tgt := 242) hx hb d_Ref_tryAll_222 (by decide) (fun c_222 => ?_) (fun c_222 => ?_)
              · refine lv_iconst (v := 1) hx hb d_Ref_tryAll_242 (by decide) ?_
                refine lv_goto (tgt := 247) hx hb d_Ref_tryAll_243 (by decide) ?_
                refine lv_istore (lv' := [(9, .int 1), (8, .int ((wt &&& (((hdF pt cv d) ||| (pt v)) ^^^ (-1))))), (7, .int ((nI v))), (0, .ref r0), (1, .int ((nI mny))), (2, .int wt), (3, .int ((bI fl))), (4, .int ((nI d))), (5, .int ((hdF pt cv d))), (6, .int cs__1)]) hx hb d_Ref_tryAll_247 hl (by decide) rfl (fun ls hl => ?_)
                refine lv_iload hx hb d_Ref_tryAll_249 (lv_at hl 0 rfl) ?_
                refine lv_if_ne (tgt := 266) hx hb d_Ref_tryAll_251 (by decide) (fun c_251 => ?_) (fun c_251 => ?_)
                · refine lv_goto (tgt := 12) hx hb d_Ref_tryAll_266 (by decide) ?_
                  rw [← nI_pred d] at hl
                  exact ih ((d + 1)) fl bc ((upd cv d (nI v))) bx (by have := tS_stay (mny := mny) (by omega) hvP hPK hcv; omega) (tI_stay hI hvP (fun hm => (hI.2.2.2.2 hm).elim id (fun hp => absurd (by have h9 := tP_v hp hv hPK (by omega) hcv; rw [h9.1]; exact try_d hPK hcov (by have := (nI_eq (a := d + 1) (b := mny) (by omega) (by omega)).mp c_222; omega) h9.2) c_214))) _ _ ls (hP.sub [0, 1, 2, 3, 4, 5] rfl) (hD.sub [0, 1, 2, 3, 4, 5] (by decide) rfl) hS (lv_sub hl [3, 4, 5, 6, 7] rfl)
                · exact absurd c_251 (by decide +kernel)
              · refine lv_iload hx hb d_Ref_tryAll_225 (lv_at hl 0 rfl) ?_
                refine lv_aload_n hx hb d_Ref_tryAll_227 rfl (lv_at hl 2 rfl) ?_
                refine va_get (D := (dC, dI)) (ci := 8) (v := .ref r9) (C := R_Ref) (T := F_Ref) (N := 25) hx hb hts i_Ref hown hK hP 0 rfl rfl 14 (by decide) (hts _ mw_fl_Ref_34) (fun _ h9 => h9) rfl d_Ref_tryAll_228 ?_
                refine lv_iload hx hb d_Ref_tryAll_231 (lv_at hl 1 rfl) ?_
                refine lv_iconst (v := 1) hx hb d_Ref_tryAll_233 (by decide) ?_
                refine lv_iadd hx hb d_Ref_tryAll_234 ?_
                refine w_ti (show _ = nI (v + 1) from nI_1 v) ?_
                refine va_iald hx hb hK hP 3 0 rfl rfl (vp_in_nI (show (v + 1) < 82 by omega) (by omega)) d_Ref_tryAll_235 ?_
                refine w_ti (show _ = rs (v + 1) from by rw [nI_clamp (by omega)]) ?_
                refine lv_iconst (v := (-1)) hx hb d_Ref_tryAll_236 (by decide) ?_
                refine lv_ixor hx hb d_Ref_tryAll_237 ?_
                refine lv_iand hx hb d_Ref_tryAll_238 ?_
                refine lv_if_eq (tgt := 246) hx hb d_Ref_tryAll_239 (by decide) (fun c_239 => ?_) (fun c_239 => ?_)
                · refine lv_iconst (v := 0) hx hb d_Ref_tryAll_246 (by decide) ?_
                  refine lv_istore (lv' := [(9, .int 0), (8, .int ((wt &&& (((hdF pt cv d) ||| (pt v)) ^^^ (-1))))), (7, .int ((nI v))), (0, .ref r0), (1, .int ((nI mny))), (2, .int wt), (3, .int ((bI fl))), (4, .int ((nI d))), (5, .int ((hdF pt cv d))), (6, .int cs__1)]) hx hb d_Ref_tryAll_247 hl (by decide) rfl (fun ls hl => ?_)
                  refine lv_iload hx hb d_Ref_tryAll_249 (lv_at hl 0 rfl) ?_
                  refine lv_if_ne (tgt := 266) hx hb d_Ref_tryAll_251 (by decide) (fun c_251 => ?_) (fun c_251 => ?_)
                  · exact absurd c_251 (by decide +kernel)
                  · refine lv_iinc (v := (nI (d + 1))) (lv' := [(4, .int ((nI (d + 1)))), (9, .int 0), (8, .int ((wt &&& (((hdF pt cv d) ||| (pt v)) ^^^ (-1))))), (7, .int ((nI v))), (0, .ref r0), (1, .int ((nI mny))), (2, .int wt), (3, .int ((bI fl))), (5, .int ((hdF pt cv d))), (6, .int cs__1)]) hx hb d_Ref_tryAll_254 hl (k := 7) rfl (show nI d + 1 = nI (d + 1) from nI_1 _) (by decide) rfl (fun ls hl => ?_)
                    refine lv_aload_n hx hb d_Ref_tryAll_257 rfl (lv_at hl 4 rfl) ?_
                    refine va_get (D := (dC, dI)) (ci := 8) (v := .ref r13) (C := R_Ref) (T := F_Ref) (N := 25) hx hb hts i_Ref hown hK hP 0 rfl rfl 21 (by decide) (hts _ mw_fl_Ref_46) (fun _ h9 => h9) rfl d_Ref_tryAll_258 ?_
                    refine lv_iload hx hb d_Ref_tryAll_261 (lv_at hl 0 rfl) ?_
                    refine lv_iload hx hb d_Ref_tryAll_263 (lv_at hl 3 rfl) ?_
                    refine va_iast hx hb hK hP hD hS 4 0 rfl rfl (vp_in_nI (show d + 1 < 82 by omega) (by omega)) d_Ref_tryAll_265 (fun H locs hP hD hS => ?_)
                    have hP : va_P (dC, dI) classes [(r0, .inr (8, [.int th, .int ((nI N)), .int ((nI OU)), .int ((nI Z)), .ref r1, .ref r2, .int ((nI M)), .ref r3, .ref r4, .ref r5, .ref r6, .ref r7, .ref r8, .int ((nI PK)), .ref r9, .int kp, .ref r10, .ref r11, .int ((nI TK)), .ref r12, .int qc, .ref r13, .ref r14, .int bc, .ref r15])), (r7, .inl (cI, 81, .inl pc)), (r8, .inl (cI, 81, .inl pt)), (r9, .inl (cI, 82, .inl rs)), (r13, .inl (cI, 82, .inl ((upd ((upd cv d ((nI v)))) (nI (d + 1)).toNatClampNeg ((nI v)))))), (r14, .inl (cI, 82, .inl bx))] H := hP
                    have hD : va_D A [(r0, .inr (8, [.int th, .int ((nI N)), .int ((nI OU)), .int ((nI Z)), .ref r1, .ref r2, .int ((nI M)), .ref r3, .ref r4, .ref r5, .ref r6, .ref r7, .ref r8, .int ((nI PK)), .ref r9, .int kp, .ref r10, .ref r11, .int ((nI TK)), .ref r12, .int qc, .ref r13, .ref r14, .int bc, .ref r15])), (r7, .inl (cI, 81, .inl pc)), (r8, .inl (cI, 81, .inl pt)), (r9, .inl (cI, 82, .inl rs)), (r13, .inl (cI, 82, .inl ((upd ((upd cv d ((nI v)))) (nI (d + 1)).toNatClampNeg ((nI v)))))), (r14, .inl (cI, 82, .inl bx))] := hD
                    rw [show (nI (d + 1)).toNatClampNeg = d + 1 from nI_clamp (by omega)] at hP hD
                    refine lv_goto (tgt := 12) hx hb d_Ref_tryAll_266 (by decide) ?_
                    rw [← nI_pred (d + 1)] at hl
                    exact ih ((d + 2)) fl bc ((upd (upd cv d (nI v)) (d + 1) (nI v))) bx (by have := tS_push (mny := mny) hdm hvP hPK hcv; omega) (tI_push hI hdm hvP hPK hcv) _ _ ls (hP.sub [0, 1, 2, 3, 4, 5] rfl) (hD.sub [0, 1, 2, 3, 4, 5] (by decide) rfl) hS (lv_sub hl [4, 5, 6, 7, 0] rfl)
                · refine lv_iconst (v := 1) hx hb d_Ref_tryAll_242 (by decide) ?_
                  refine lv_goto (tgt := 247) hx hb d_Ref_tryAll_243 (by decide) ?_
                  refine lv_istore (lv' := [(9, .int 1), (8, .int ((wt &&& (((hdF pt cv d) ||| (pt v)) ^^^ (-1))))), (7, .int ((nI v))), (0, .ref r0), (1, .int ((nI mny))), (2, .int wt), (3, .int ((bI fl))), (4, .int ((nI d))), (5, .int ((hdF pt cv d))), (6, .int cs__1)]) hx hb d_Ref_tryAll_247 hl (by decide) rfl (fun ls hl => ?_)
                  refine lv_iload hx hb d_Ref_tryAll_249 (lv_at hl 0 rfl) ?_
                  refine lv_if_ne (tgt := 266) hx hb d_Ref_tryAll_251 (by decide) (fun c_251 => ?_) (fun c_251 => ?_)
                  · refine lv_goto (tgt := 12) hx hb d_Ref_tryAll_266 (by decide) ?_
                    rw [← nI_pred d] at hl
                    exact ih ((d + 1)) fl bc ((upd cv d (nI v))) bx (by have := tS_stay (mny := mny) (by omega) hvP hPK hcv; omega) (tI_stay hI hvP (fun hm => (hI.2.2.2.2 hm).elim id (fun hp => absurd (by have h9 := tP_v hp hv hPK (by omega) hcv; rw [h9.1]; exact try_c hPK hcov (hrs (d + 1) (by omega)) (by omega) h9.2) c_239))) _ _ ls (hP.sub [0, 1, 2, 3, 4, 5] rfl) (hD.sub [0, 1, 2, 3, 4, 5] (by decide) rfl) hS (lv_sub hl [3, 4, 5, 6, 7] rfl)
                  · exact absurd c_251 (by decide +kernel)
          · refine lv_iinc (v := (nI d - 1)) (lv' := [(4, .int ((nI d - 1))), (7, .int ((nI v))), (0, .ref r0), (1, .int ((nI mny))), (2, .int wt), (3, .int ((bI fl))), (5, .int ((hdF pt cv d))), (6, .int cs__1)]) hx hb d_Ref_tryAll_190 hl (k := 5) rfl (show nI d + (-1) = nI d - 1 from (Int32.sub_eq_add_neg _ _).symm) (by decide) rfl (fun ls hl => ?_)
            refine lv_goto (tgt := 266) hx hb d_Ref_tryAll_193 (by decide) ?_
            refine lv_goto (tgt := 12) hx hb d_Ref_tryAll_266 (by decide) ?_
            exact ih d fl bc ((upd cv d (nI v))) bx (by have := tS_pop (mny := mny) (f := upd cv d (nI v)) (by omega) hv hPK hcv (fun j hj => pk_un (by omega)); omega) (tI_pop hI (fun j hj => pk_un (by omega)) hI.2.2.2.1 (fun hm => (hI.2.2.2.2 hm).elim id (fun hp => absurd (by have h9 := tP_v hp hv hPK (by omega) hcv; rw [h9.1]; exact try_a hPK hcov (hrs d (by omega)) (by omega) h9.2) c_187))) _ _ ls (hP.sub [0, 1, 2, 3, 4, 5] rfl) (hD.sub [0, 1, 2, 3, 4, 5] (by decide) rfl) hS (lv_sub hl [2, 3, 4, 5, 0] rfl)
      · have hdm : d = mny := (nI_eq (a := d) (b := mny) (by omega) (by omega)).mp c_76
        refine lv_iload_n hx hb d_Ref_tryAll_79 rfl (lv_at hl 2 rfl) ?_
        refine lv_iload hx hb d_Ref_tryAll_80 (lv_at hl 5 rfl) ?_
        refine lv_iconst (v := (-1)) hx hb d_Ref_tryAll_82 (by decide) ?_
        refine lv_ixor hx hb d_Ref_tryAll_83 ?_
        refine lv_iand hx hb d_Ref_tryAll_84 ?_
        refine lv_if_ne (tgt := 138) hx hb d_Ref_tryAll_85 (by decide) (fun c_85 => ?_) (fun c_85 => ?_)
        · refine lv_iinc (v := (nI d - 1)) (lv' := [(4, .int ((nI d - 1))), (0, .ref r0), (1, .int ((nI mny))), (2, .int wt), (3, .int ((bI fl))), (5, .int ((hdF pt cv d))), (6, .int cs__1)]) hx hb d_Ref_tryAll_138 hl (k := 4) rfl (show nI d + (-1) = nI d - 1 from (Int32.sub_eq_add_neg _ _).symm) (by decide) rfl (fun ls hl => ?_)
          refine lv_goto (tgt := 266) hx hb d_Ref_tryAll_141 (by decide) ?_
          refine lv_goto (tgt := 12) hx hb d_Ref_tryAll_266 (by decide) ?_
          exact ih d fl bc cv bx (by have := tS_pop (mny := mny) (f := cv) (by omega) hv hPK hcv (fun _ _ => rfl); omega) (tI_pop hI (fun _ _ => rfl) hI.2.2.2.1 (fun hm => (hI.2.2.2.2 hm).elim id (fun hp => absurd (by rw [show d = PK by omega]; exact try_b hPK hcov (fun j hj => (tP_v hp hv hPK (by omega) hcv).2 j (by omega))) c_85))) _ _ ls (hP.sub [0, 1, 2, 3, 4, 5] rfl) (hD.sub [0, 1, 2, 3, 4, 5] (by decide) rfl) hS (lv_sub hl [1, 2, 3, 4, 0] rfl)
        · refine lv_iload_n hx hb d_Ref_tryAll_88 rfl (lv_at hl 3 rfl) ?_
          refine lv_if_eq (tgt := 101) hx hb d_Ref_tryAll_89 (by decide) (fun c_89 => ?_) (fun c_89 => ?_)
          · refine lv_iconst (v := 1) hx hb d_Ref_tryAll_101 (by decide) ?_
            refine lv_istore_n (lv' := [(3, .int 1), (0, .ref r0), (1, .int ((nI mny))), (2, .int wt), (4, .int ((nI d))), (5, .int ((hdF pt cv d))), (6, .int cs__1)]) hx hb d_Ref_tryAll_102 rfl hl (by decide) rfl (fun ls hl => ?_)
            refine lv_aload_n hx hb d_Ref_tryAll_103 rfl (lv_at hl 1 rfl) ?_
            refine lv_iload hx hb d_Ref_tryAll_104 (lv_at hl 6 rfl) ?_
            refine va_put (D := (dC, dI)) (ci := 8) (v := .int cs__1) (ty := .int) (C := R_Ref) (T := F_Ref) (N := 25) hx hb hts i_Ref t_Ref t_Ref_ok n_Ref hown hK hP hD hS 0 rfl rfl 23 (by decide) (hts _ mw_fl_Ref_94) (fun _ h9 => h9) rfl (by decide +kernel) rfl rfl (Nat.le_of_ble_eq_true rfl) d_Ref_tryAll_106 (fun H locs hP hD hS => ?_)
            have hP : va_P (dC, dI) classes [(r0, .inr (8, [.int th, .int ((nI N)), .int ((nI OU)), .int ((nI Z)), .ref r1, .ref r2, .int ((nI M)), .ref r3, .ref r4, .ref r5, .ref r6, .ref r7, .ref r8, .int ((nI PK)), .ref r9, .int kp, .ref r10, .ref r11, .int ((nI TK)), .ref r12, .int qc, .ref r13, .ref r14, .int cs__1, .ref r15])), (r7, .inl (cI, 81, .inl pc)), (r8, .inl (cI, 81, .inl pt)), (r9, .inl (cI, 82, .inl rs)), (r13, .inl (cI, 82, .inl cv)), (r14, .inl (cI, 82, .inl bx))] H := hP
            have hD : va_D A [(r0, .inr (8, [.int th, .int ((nI N)), .int ((nI OU)), .int ((nI Z)), .ref r1, .ref r2, .int ((nI M)), .ref r3, .ref r4, .ref r5, .ref r6, .ref r7, .ref r8, .int ((nI PK)), .ref r9, .int kp, .ref r10, .ref r11, .int ((nI TK)), .ref r12, .int qc, .ref r13, .ref r14, .int cs__1, .ref r15])), (r7, .inl (cI, 81, .inl pc)), (r8, .inl (cI, 81, .inl pt)), (r9, .inl (cI, 82, .inl rs)), (r13, .inl (cI, 82, .inl cv)), (r14, .inl (cI, 82, .inl bx))] := hD
            refine lv_iconst (v := 0) hx hb d_Ref_tryAll_109 (by decide) ?_
            refine lv_istore (lv' := [(7, .int 0), (3, .int 1), (0, .ref r0), (1, .int ((nI mny))), (2, .int wt), (4, .int ((nI d))), (5, .int ((hdF pt cv d))), (6, .int cs__1)]) hx hb d_Ref_tryAll_110 hl (by decide) rfl (fun ls hl => ?_)
            have hl : lv_has ls 10 [(7, .int 0), (3, .int (bI true)), (0, .ref r0), (1, .int ((nI mny))), (2, .int wt), (4, .int ((nI d))), (5, .int ((hdF pt cv d))), (6, .int cs__1)] := hl
            refine lg_Ref_tryAll1 l dC dI cI cJ r0 th N OU Z r1 r2 M r3 r4 r5 r6 r7 r8 PK r9 kp r10 r11 TK r12 qc r13 r14 bst r15 pc pt rs ch be wt mny hPK hcov hmny hrs true cs__1 cv d (fun j hj => hI.2.1 j (by omega)) hx hb hts hown hml hK hA (fun bx__3 hI__4 H locs ls hP hD hS hl => ?_) _ 0 bx (Nat.lt_succ_self _) (⟨Nat.zero_le _, fun t ht => absurd ht (Nat.not_lt_zero t)⟩) _ _ ls (hP.sub [0, 1, 2, 3, 4, 5] rfl) (hD.sub [0, 1, 2, 3, 4, 5] (by decide) rfl) hS (lv_sub hl [2, 3, 4, 1, 5, 0] rfl)
            have hP : va_P (dC, dI) classes [(r0, .inr (8, [.int th, .int ((nI N)), .int ((nI OU)), .int ((nI Z)), .ref r1, .ref r2, .int ((nI M)), .ref r3, .ref r4, .ref r5, .ref r6, .ref r7, .ref r8, .int ((nI PK)), .ref r9, .int kp, .ref r10, .ref r11, .int ((nI TK)), .ref r12, .int qc, .ref r13, .ref r14, .int cs__1, .ref r15])), (r7, .inl (cI, 81, .inl pc)), (r8, .inl (cI, 81, .inl pt)), (r9, .inl (cI, 82, .inl rs)), (r13, .inl (cI, 82, .inl cv)), (r14, .inl (cI, 82, .inl bx__3))] H := hP
            have hD : va_D A [(r0, .inr (8, [.int th, .int ((nI N)), .int ((nI OU)), .int ((nI Z)), .ref r1, .ref r2, .int ((nI M)), .ref r3, .ref r4, .ref r5, .ref r6, .ref r7, .ref r8, .int ((nI PK)), .ref r9, .int kp, .ref r10, .ref r11, .int ((nI TK)), .ref r12, .int qc, .ref r13, .ref r14, .int cs__1, .ref r15])), (r7, .inl (cI, 81, .inl pc)), (r8, .inl (cI, 81, .inl pt)), (r9, .inl (cI, 82, .inl rs)), (r13, .inl (cI, 82, .inl cv)), (r14, .inl (cI, 82, .inl bx__3))] := hD
            have hl : lv_has ls 10 [(0, .ref r0), (1, .int ((nI mny))), (2, .int wt), (3, .int ((bI true))), (4, .int ((nI d)))] := hl
            refine lv_iinc (v := (nI d - 1)) (lv' := [(4, .int ((nI d - 1))), (0, .ref r0), (1, .int ((nI mny))), (2, .int wt), (3, .int ((bI true)))]) hx hb d_Ref_tryAll_138 hl (k := 4) rfl (show nI d + (-1) = nI d - 1 from (Int32.sub_eq_add_neg _ _).symm) (by decide) rfl (fun ls hl => ?_)
            refine lv_goto (tgt := 266) hx hb d_Ref_tryAll_141 (by decide) ?_
            refine lv_goto (tgt := 12) hx hb d_Ref_tryAll_266 (by decide) ?_
            exact ih d true cs__1 cv bx__3 (by have := tS_pop (mny := mny) (f := cv) (by omega) hv hPK hcv (fun _ _ => rfl); omega) (tI_pop hI (fun _ _ => rfl) (fun _ => hI__4) (fun _ => rfl)) _ _ ls (hP.sub [0, 1, 2, 3, 4, 5] rfl) (hD.sub [0, 1, 2, 3, 4, 5] (by decide) rfl) hS (lv_sub hl [1, 2, 3, 4, 0] rfl)
          · refine lv_iload hx hb d_Ref_tryAll_92 (lv_at hl 6 rfl) ?_
            refine lv_aload_n hx hb d_Ref_tryAll_94 rfl (lv_at hl 0 rfl) ?_
            refine va_get (D := (dC, dI)) (ci := 8) (v := .int bc) (C := R_Ref) (T := F_Ref) (N := 25) hx hb hts i_Ref hown hK hP 0 rfl rfl 23 (by decide) (hts _ mw_fl_Ref_94) (fun _ h9 => h9) rfl d_Ref_tryAll_95 ?_
            refine lv_icmp_ge (tgt := 138) hx hb d_Ref_tryAll_98 (by decide) (fun c_98 => ?_) (fun c_98 => ?_)
            · refine lv_iinc (v := (nI d - 1)) (lv' := [(4, .int ((nI d - 1))), (0, .ref r0), (1, .int ((nI mny))), (2, .int wt), (3, .int ((bI fl))), (5, .int ((hdF pt cv d))), (6, .int cs__1)]) hx hb d_Ref_tryAll_138 hl (k := 4) rfl (show nI d + (-1) = nI d - 1 from (Int32.sub_eq_add_neg _ _).symm) (by decide) rfl (fun ls hl => ?_)
              refine lv_goto (tgt := 266) hx hb d_Ref_tryAll_141 (by decide) ?_
              refine lv_goto (tgt := 12) hx hb d_Ref_tryAll_266 (by decide) ?_
              exact ih d fl bc cv bx (by have := tS_pop (mny := mny) (f := cv) (by omega) hv hPK hcv (fun _ _ => rfl); omega) (tI_pop hI (fun _ _ => rfl) hI.2.2.2.1 (fun _ => bI_t c_89)) _ _ ls (hP.sub [0, 1, 2, 3, 4, 5] rfl) (hD.sub [0, 1, 2, 3, 4, 5] (by decide) rfl) hS (lv_sub hl [1, 2, 3, 4, 0] rfl)
            · refine lv_iconst (v := 1) hx hb d_Ref_tryAll_101 (by decide) ?_
              refine lv_istore_n (lv' := [(3, .int 1), (0, .ref r0), (1, .int ((nI mny))), (2, .int wt), (4, .int ((nI d))), (5, .int ((hdF pt cv d))), (6, .int cs__1)]) hx hb d_Ref_tryAll_102 rfl hl (by decide) rfl (fun ls hl => ?_)
              refine lv_aload_n hx hb d_Ref_tryAll_103 rfl (lv_at hl 1 rfl) ?_
              refine lv_iload hx hb d_Ref_tryAll_104 (lv_at hl 6 rfl) ?_
              refine va_put (D := (dC, dI)) (ci := 8) (v := .int cs__1) (ty := .int) (C := R_Ref) (T := F_Ref) (N := 25) hx hb hts i_Ref t_Ref t_Ref_ok n_Ref hown hK hP hD hS 0 rfl rfl 23 (by decide) (hts _ mw_fl_Ref_94) (fun _ h9 => h9) rfl (by decide +kernel) rfl rfl (Nat.le_of_ble_eq_true rfl) d_Ref_tryAll_106 (fun H locs hP hD hS => ?_)
              have hP : va_P (dC, dI) classes [(r0, .inr (8, [.int th, .int ((nI N)), .int ((nI OU)), .int ((nI Z)), .ref r1, .ref r2, .int ((nI M)), .ref r3, .ref r4, .ref r5, .ref r6, .ref r7, .ref r8, .int ((nI PK)), .ref r9, .int kp, .ref r10, .ref r11, .int ((nI TK)), .ref r12, .int qc, .ref r13, .ref r14, .int cs__1, .ref r15])), (r7, .inl (cI, 81, .inl pc)), (r8, .inl (cI, 81, .inl pt)), (r9, .inl (cI, 82, .inl rs)), (r13, .inl (cI, 82, .inl cv)), (r14, .inl (cI, 82, .inl bx))] H := hP
              have hD : va_D A [(r0, .inr (8, [.int th, .int ((nI N)), .int ((nI OU)), .int ((nI Z)), .ref r1, .ref r2, .int ((nI M)), .ref r3, .ref r4, .ref r5, .ref r6, .ref r7, .ref r8, .int ((nI PK)), .ref r9, .int kp, .ref r10, .ref r11, .int ((nI TK)), .ref r12, .int qc, .ref r13, .ref r14, .int cs__1, .ref r15])), (r7, .inl (cI, 81, .inl pc)), (r8, .inl (cI, 81, .inl pt)), (r9, .inl (cI, 82, .inl rs)), (r13, .inl (cI, 82, .inl cv)), (r14, .inl (cI, 82, .inl bx))] := hD
              refine lv_iconst (v := 0) hx hb d_Ref_tryAll_109 (by decide) ?_
              refine lv_istore (lv' := [(7, .int 0), (3, .int 1), (0, .ref r0), (1, .int ((nI mny))), (2, .int wt), (4, .int ((nI d))), (5, .int ((hdF pt cv d))), (6, .int cs__1)]) hx hb d_Ref_tryAll_110 hl (by decide) rfl (fun ls hl => ?_)
              have hl : lv_has ls 10 [(7, .int 0), (3, .int (bI true)), (0, .ref r0), (1, .int ((nI mny))), (2, .int wt), (4, .int ((nI d))), (5, .int ((hdF pt cv d))), (6, .int cs__1)] := hl
              refine lg_Ref_tryAll1 l dC dI cI cJ r0 th N OU Z r1 r2 M r3 r4 r5 r6 r7 r8 PK r9 kp r10 r11 TK r12 qc r13 r14 bst r15 pc pt rs ch be wt mny hPK hcov hmny hrs true cs__1 cv d (fun j hj => hI.2.1 j (by omega)) hx hb hts hown hml hK hA (fun bx__5 hI__6 H locs ls hP hD hS hl => ?_) _ 0 bx (Nat.lt_succ_self _) (⟨Nat.zero_le _, fun t ht => absurd ht (Nat.not_lt_zero t)⟩) _ _ ls (hP.sub [0, 1, 2, 3, 4, 5] rfl) (hD.sub [0, 1, 2, 3, 4, 5] (by decide) rfl) hS (lv_sub hl [2, 3, 4, 1, 5, 0] rfl)
              have hP : va_P (dC, dI) classes [(r0, .inr (8, [.int th, .int ((nI N)), .int ((nI OU)), .int ((nI Z)), .ref r1, .ref r2, .int ((nI M)), .ref r3, .ref r4, .ref r5, .ref r6, .ref r7, .ref r8, .int ((nI PK)), .ref r9, .int kp, .ref r10, .ref r11, .int ((nI TK)), .ref r12, .int qc, .ref r13, .ref r14, .int cs__1, .ref r15])), (r7, .inl (cI, 81, .inl pc)), (r8, .inl (cI, 81, .inl pt)), (r9, .inl (cI, 82, .inl rs)), (r13, .inl (cI, 82, .inl cv)), (r14, .inl (cI, 82, .inl bx__5))] H := hP
              have hD : va_D A [(r0, .inr (8, [.int th, .int ((nI N)), .int ((nI OU)), .int ((nI Z)), .ref r1, .ref r2, .int ((nI M)), .ref r3, .ref r4, .ref r5, .ref r6, .ref r7, .ref r8, .int ((nI PK)), .ref r9, .int kp, .ref r10, .ref r11, .int ((nI TK)), .ref r12, .int qc, .ref r13, .ref r14, .int cs__1, .ref r15])), (r7, .inl (cI, 81, .inl pc)), (r8, .inl (cI, 81, .inl pt)), (r9, .inl (cI, 82, .inl rs)), (r13, .inl (cI, 82, .inl cv)), (r14, .inl (cI, 82, .inl bx__5))] := hD
              have hl : lv_has ls 10 [(0, .ref r0), (1, .int ((nI mny))), (2, .int wt), (3, .int ((bI true))), (4, .int ((nI d)))] := hl
              refine lv_iinc (v := (nI d - 1)) (lv' := [(4, .int ((nI d - 1))), (0, .ref r0), (1, .int ((nI mny))), (2, .int wt), (3, .int ((bI true)))]) hx hb d_Ref_tryAll_138 hl (k := 4) rfl (show nI d + (-1) = nI d - 1 from (Int32.sub_eq_add_neg _ _).symm) (by decide) rfl (fun ls hl => ?_)
              refine lv_goto (tgt := 266) hx hb d_Ref_tryAll_141 (by decide) ?_
              refine lv_goto (tgt := 12) hx hb d_Ref_tryAll_266 (by decide) ?_
              exact ih d true cs__1 cv bx__5 (by have := tS_pop (mny := mny) (f := cv) (by omega) hv hPK hcv (fun _ _ => rfl); omega) (tI_pop hI (fun _ _ => rfl) (fun _ => hI__6) (fun _ => rfl)) _ _ ls (hP.sub [0, 1, 2, 3, 4, 5] rfl) (hD.sub [0, 1, 2, 3, 4, 5] (by decide) rfl) hS (lv_sub hl [1, 2, 3, 4, 0] rfl)
set_option maxHeartbeats 1000000 in
set_option maxRecDepth 100000 in
theorem c_Ref_tryAll (l : Launch) (dC : Nat → ClassId) (dI : Nat → Nat → Nat) (cI cJ : ClassId) (sz0 : Nat) (r0 : Nat) (th : Int32) (N : Nat) (OU : Nat) (Z : Nat) (r1 : Nat) (r2 : Nat) (M : Nat) (r3 : Nat) (r4 : Nat) (r5 : Nat) (r6 : Nat) (r7 : Nat) (r8 : Nat) (PK : Nat) (r9 : Nat) (kp : Int32) (r10 : Nat) (r11 : Nat) (TK : Nat) (r12 : Nat) (qc : Int32) (r13 : Nat) (r14 : Nat) (bst : Int32) (r15 : Nat) (pc : Nat → Int32) (pt : Nat → Int32) (rs : Nat → Int32) (ch : Nat → Int32) (be : Nat → Int32) (wt : Int32) (mny : Nat) (hPK : PK ≤ 81) (hcov : ∀ e, e < 32 → bt wt e = true → ∃ k, k < PK ∧ bt (pt k) e = true) (hmny : mny ≤ PK) (hrs : ∀ k, k ≤ PK → rsem pt PK (rs k) k) : Met l y_Ref_tryAll (ct y_Ref_tryAll b_Ref_tryAll 10 (some .boolean)) ({ frames := 0, cells := 0, slots := 0, locals := 0 }) (va_Pc [.ref r0, .int ((nI mny)), .int wt] (fun U => U.heap.size = sz0 ∧ va_P (dC, dI) classes [(r0, .inr (8, [.int th, .int ((nI N)), .int ((nI OU)), .int ((nI Z)), .ref r1, .ref r2, .int ((nI M)), .ref r3, .ref r4, .ref r5, .ref r6, .ref r7, .ref r8, .int ((nI PK)), .ref r9, .int kp, .ref r10, .ref r11, .int ((nI TK)), .ref r12, .int qc, .ref r13, .ref r14, .int bst, .ref r15])), (r7, .inl (cI, 81, .inl pc)), (r8, .inl (cI, 81, .inl pt)), (r9, .inl (cI, 82, .inl rs)), (r13, .inl (cI, 82, .inl ch)), (r14, .inl (cI, 82, .inl be))] U.heap ∧ va_K (dC, dI) classes [(cI, .int), (cJ, .long)] U ∧ va_D (fun _ => True) [(r0, .inr (8, [.int th, .int ((nI N)), .int ((nI OU)), .int ((nI Z)), .ref r1, .ref r2, .int ((nI M)), .ref r3, .ref r4, .ref r5, .ref r6, .ref r7, .ref r8, .int ((nI PK)), .ref r9, .int kp, .ref r10, .ref r11, .int ((nI TK)), .ref r12, .int qc, .ref r13, .ref r14, .int bst, .ref r15])), (r7, .inl (cI, 81, .inl pc)), (r8, .inl (cI, 81, .inl pt)), (r9, .inl (cI, 82, .inl rs)), (r13, .inl (cI, 82, .inl ch)), (r14, .inl (cI, 82, .inl be))])) (va_Qi (fun (r : Int32) (u : (Bool) × (Nat → Int32) × (Nat → Int32) × (Int32)) => match u with | (fl, bex, chx, bsx) => r = bI fl ∧ (fl = true → ∀ t, t < mny → ∃ c, c < PK ∧ bex t = nI c) ∧ (mny = PK → fl = true)) (fun (u : (Bool) × (Nat → Int32) × (Nat → Int32) × (Int32)) => match u with | (fl, bex, chx, bsx) => at_w dC dI cI cJ (va_A [(r0, .inr (8, [.int th, .int ((nI N)), .int ((nI OU)), .int ((nI Z)), .ref r1, .ref r2, .int ((nI M)), .ref r3, .ref r4, .ref r5, .ref r6, .ref r7, .ref r8, .int ((nI PK)), .ref r9, .int kp, .ref r10, .ref r11, .int ((nI TK)), .ref r12, .int qc, .ref r13, .ref r14, .int bst, .ref r15])), (r7, .inl (cI, 81, .inl pc)), (r8, .inl (cI, 81, .inl pt)), (r9, .inl (cI, 82, .inl rs)), (r13, .inl (cI, 82, .inl ch)), (r14, .inl (cI, 82, .inl be))] sz0) [(r0, .inr (8, [.int th, .int ((nI N)), .int ((nI OU)), .int ((nI Z)), .ref r1, .ref r2, .int ((nI M)), .ref r3, .ref r4, .ref r5, .ref r6, .ref r7, .ref r8, .int ((nI PK)), .ref r9, .int kp, .ref r10, .ref r11, .int ((nI TK)), .ref r12, .int qc, .ref r13, .ref r14, .int bsx, .ref r15])), (r7, .inl (cI, 81, .inl pc)), (r8, .inl (cI, 81, .inl pt)), (r9, .inl (cI, 82, .inl rs)), (r13, .inl (cI, 82, .inl chx)), (r14, .inl (cI, 82, .inl bex))]) (va_A [(r0, .inr (8, [.int th, .int ((nI N)), .int ((nI OU)), .int ((nI Z)), .ref r1, .ref r2, .int ((nI M)), .ref r3, .ref r4, .ref r5, .ref r6, .ref r7, .ref r8, .int ((nI PK)), .ref r9, .int kp, .ref r10, .ref r11, .int ((nI TK)), .ref r12, .int qc, .ref r13, .ref r14, .int bst, .ref r15])), (r7, .inl (cI, 81, .inl pc)), (r8, .inl (cI, 81, .inl pt)), (r9, .inl (cI, 82, .inl rs)), (r13, .inl (cI, 82, .inl ch)), (r14, .inl (cI, 82, .inl be))] sz0)) 0 0 (va_A [(r0, .inr (8, [.int th, .int ((nI N)), .int ((nI OU)), .int ((nI Z)), .ref r1, .ref r2, .int ((nI M)), .ref r3, .ref r4, .ref r5, .ref r6, .ref r7, .ref r8, .int ((nI PK)), .ref r9, .int kp, .ref r10, .ref r11, .int ((nI TK)), .ref r12, .int qc, .ref r13, .ref r14, .int bst, .ref r15])), (r7, .inl (cI, 81, .inl pc)), (r8, .inl (cI, 81, .inl pt)), (r9, .inl (cI, 82, .inl rs)), (r13, .inl (cI, 82, .inl ch)), (r14, .inl (cI, 82, .inl be))] sz0) := by
  refine Met.ofW (cc := b_Ref_tryAll) (maxL := 10) (ret := some .boolean) (by decide) rfl ?_
  intro p e s m args below meth c s₁ B hml hv
  obtain ⟨rfl, hsz, hP, hK, hD0⟩ := hv
  have hx := B.exec
  have hb := B.bytes
  have hr := B.returns
  have hts : ∀ w ∈ lwg, w.before _ s = true := fun w h => atoms_spec (ws := ct y_Ref_tryAll b_Ref_tryAll 10 (some .boolean)) B.pre w (List.mem_cons_of_mem _ h)
  have hown : s.vm.findClass R_Ref = some m.cls := findClass_of_methodNamed B.named
  have hlocks := B.notSynchronized
  subst hsz
  have hD := hD0.self (sz := s.heap.size)
  generalize hAe : va_A [(r0, .inr (8, [.int th, .int ((nI N)), .int ((nI OU)), .int ((nI Z)), .ref r1, .ref r2, .int ((nI M)), .ref r3, .ref r4, .ref r5, .ref r6, .ref r7, .ref r8, .int ((nI PK)), .ref r9, .int kp, .ref r10, .ref r11, .int ((nI TK)), .ref r12, .int qc, .ref r13, .ref r14, .int bst, .ref r15])), (r7, .inl (cI, 81, .inl pc)), (r8, .inl (cI, 81, .inl pt)), (r9, .inl (cI, 82, .inl rs)), (r13, .inl (cI, 82, .inl ch)), (r14, .inl (cI, 82, .inl be))] s.heap.size = A at hD ⊢
  have hA : ∀ q : Nat, s.heap.size ≤ q → A q := fun q h => by rw [← hAe]; exact Or.inr h
  have hS : va_S A s.heap s.heap [] := va_S.rf
  have hl := lv_entry ([.ref r0, .int ((nI mny)), .int wt]) (n := 10) (Nat.le_of_ble_eq_true rfl)
  rw [lg_entry_eq]
  generalize (lg_sl ([.ref r0, .int ((nI mny)), .int wt]) ++ List.replicate (10 - (lg_sl ([.ref r0, .int ((nI mny)), .int wt])).length) Slot.unset).toArray = ls at hl ⊢
  have hl : lv_has ls 10 [(0, .ref r0), (1, .int ((nI mny))), (2, .int wt)] := hl
  have hP : va_P (dC, dI) classes [(r0, .inr (8, [.int th, .int ((nI N)), .int ((nI OU)), .int ((nI Z)), .ref r1, .ref r2, .int ((nI M)), .ref r3, .ref r4, .ref r5, .ref r6, .ref r7, .ref r8, .int ((nI PK)), .ref r9, .int kp, .ref r10, .ref r11, .int ((nI TK)), .ref r12, .int qc, .ref r13, .ref r14, .int bst, .ref r15])), (r7, .inl (cI, 81, .inl pc)), (r8, .inl (cI, 81, .inl pt)), (r9, .inl (cI, 82, .inl rs)), (r13, .inl (cI, 82, .inl ch)), (r14, .inl (cI, 82, .inl be))] s.heap := hP
  refine lv_iconst (v := 0) hx hb d_Ref_tryAll_0 (by decide) ?_
  refine lv_istore_n (lv' := [(3, .int 0), (0, .ref r0), (1, .int ((nI mny))), (2, .int wt)]) hx hb d_Ref_tryAll_1 rfl hl (by decide) rfl (fun ls hl => ?_)
  refine lv_iconst (v := 0) hx hb d_Ref_tryAll_2 (by decide) ?_
  refine lv_istore (lv' := [(4, .int 0), (3, .int 0), (0, .ref r0), (1, .int ((nI mny))), (2, .int wt)]) hx hb d_Ref_tryAll_3 hl (by decide) rfl (fun ls hl => ?_)
  refine lv_aload_n hx hb d_Ref_tryAll_5 rfl (lv_at hl 2 rfl) ?_
  refine va_get (D := (dC, dI)) (ci := 8) (v := .ref r13) (C := R_Ref) (T := F_Ref) (N := 25) hx hb hts i_Ref hown hK hP 0 rfl rfl 21 (by decide) (hts _ mw_fl_Ref_46) (fun _ h9 => h9) rfl d_Ref_tryAll_6 ?_
  refine lv_iconst (v := 0) hx hb d_Ref_tryAll_9 (by decide) ?_
  refine lv_iconst (v := (-1)) hx hb d_Ref_tryAll_10 (by decide) ?_
  refine va_iast hx hb hK hP hD hS 4 0 rfl rfl (vp_in_nI (n := 0) (N := 82) (by omega) (by omega)) d_Ref_tryAll_11 (fun H locs hP hD hS => ?_)
  have hP : va_P (dC, dI) classes [(r0, .inr (8, [.int th, .int ((nI N)), .int ((nI OU)), .int ((nI Z)), .ref r1, .ref r2, .int ((nI M)), .ref r3, .ref r4, .ref r5, .ref r6, .ref r7, .ref r8, .int ((nI PK)), .ref r9, .int kp, .ref r10, .ref r11, .int ((nI TK)), .ref r12, .int qc, .ref r13, .ref r14, .int bst, .ref r15])), (r7, .inl (cI, 81, .inl pc)), (r8, .inl (cI, 81, .inl pt)), (r9, .inl (cI, 82, .inl rs)), (r13, .inl (cI, 82, .inl ((upd ch (0 : Int32).toNatClampNeg ((-1)))))), (r14, .inl (cI, 82, .inl be))] H := hP
  have hD : va_D A [(r0, .inr (8, [.int th, .int ((nI N)), .int ((nI OU)), .int ((nI Z)), .ref r1, .ref r2, .int ((nI M)), .ref r3, .ref r4, .ref r5, .ref r6, .ref r7, .ref r8, .int ((nI PK)), .ref r9, .int kp, .ref r10, .ref r11, .int ((nI TK)), .ref r12, .int qc, .ref r13, .ref r14, .int bst, .ref r15])), (r7, .inl (cI, 81, .inl pc)), (r8, .inl (cI, 81, .inl pt)), (r9, .inl (cI, 82, .inl rs)), (r13, .inl (cI, 82, .inl ((upd ch (0 : Int32).toNatClampNeg ((-1)))))), (r14, .inl (cI, 82, .inl be))] := hD
  have hl : lv_has ls 10 [(4, .int 0), (3, .int 0), (0, .ref r0), (1, .int ((nI mny))), (2, .int wt)] := hl
  refine lg_Ref_tryAll2 l dC dI cI cJ r0 th N OU Z r1 r2 M r3 r4 r5 r6 r7 r8 PK r9 kp r10 r11 TK r12 qc r13 r14 bst r15 pc pt rs ch be wt mny hPK hcov hmny hrs   hx hb hts hown hml hK hA (fun fl__1 bc__2 cv__3 bx__4 hI__5 H locs ls hP hD hS hl => ?_) _ 1 false bst ((upd ch 0 (-1))) be (Nat.lt_succ_self _) (⟨by omega, fun j hj => absurd hj (by omega), fun _ => ⟨0, Nat.zero_le _, by show upd ch 0 (-1) 0 = nI 0 - 1; rw [pk_us]; decide⟩, fun h => (by cases h), fun _ => Or.inr ⟨by decide, fun j hj => absurd hj (by omega), by show upd ch 0 (-1) 0 = nI 0 - 1; rw [pk_us]; decide⟩⟩) _ _ ls (hP.sub [0, 1, 2, 3, 4, 5] rfl) (hD.sub [0, 1, 2, 3, 4, 5] (by decide) rfl) hS (lv_sub hl [2, 3, 4, 1, 0] rfl)
  have hP : va_P (dC, dI) classes [(r0, .inr (8, [.int th, .int ((nI N)), .int ((nI OU)), .int ((nI Z)), .ref r1, .ref r2, .int ((nI M)), .ref r3, .ref r4, .ref r5, .ref r6, .ref r7, .ref r8, .int ((nI PK)), .ref r9, .int kp, .ref r10, .ref r11, .int ((nI TK)), .ref r12, .int qc, .ref r13, .ref r14, .int bc__2, .ref r15])), (r7, .inl (cI, 81, .inl pc)), (r8, .inl (cI, 81, .inl pt)), (r9, .inl (cI, 82, .inl rs)), (r13, .inl (cI, 82, .inl cv__3)), (r14, .inl (cI, 82, .inl bx__4))] H := hP
  have hD : va_D A [(r0, .inr (8, [.int th, .int ((nI N)), .int ((nI OU)), .int ((nI Z)), .ref r1, .ref r2, .int ((nI M)), .ref r3, .ref r4, .ref r5, .ref r6, .ref r7, .ref r8, .int ((nI PK)), .ref r9, .int kp, .ref r10, .ref r11, .int ((nI TK)), .ref r12, .int qc, .ref r13, .ref r14, .int bc__2, .ref r15])), (r7, .inl (cI, 81, .inl pc)), (r8, .inl (cI, 81, .inl pt)), (r9, .inl (cI, 82, .inl rs)), (r13, .inl (cI, 82, .inl cv__3)), (r14, .inl (cI, 82, .inl bx__4))] := hD
  have hl : lv_has ls 10 [(0, .ref r0), (3, .int ((bI fl__1)))] := hl
  refine lv_iload_n hx hb d_Ref_tryAll_269 rfl (lv_at hl 1 rfl) ?_
  have hP9 := hP.sub (ws' := [(r0, .inr (8, [.int th, .int ((nI N)), .int ((nI OU)), .int ((nI Z)), .ref r1, .ref r2, .int ((nI M)), .ref r3, .ref r4, .ref r5, .ref r6, .ref r7, .ref r8, .int ((nI PK)), .ref r9, .int kp, .ref r10, .ref r11, .int ((nI TK)), .ref r12, .int qc, .ref r13, .ref r14, .int bc__2, .ref r15])), (r7, .inl (cI, 81, .inl pc)), (r8, .inl (cI, 81, .inl pt)), (r9, .inl (cI, 82, .inl rs)), (r13, .inl (cI, 82, .inl cv__3)), (r14, .inl (cI, 82, .inl bx__4))]) [0, 1, 2, 3, 4, 5] rfl
  have hD9 := hD.sub (ws' := [(r0, .inr (8, [.int th, .int ((nI N)), .int ((nI OU)), .int ((nI Z)), .ref r1, .ref r2, .int ((nI M)), .ref r3, .ref r4, .ref r5, .ref r6, .ref r7, .ref r8, .int ((nI PK)), .ref r9, .int kp, .ref r10, .ref r11, .int ((nI TK)), .ref r12, .int qc, .ref r13, .ref r14, .int bc__2, .ref r15])), (r7, .inl (cI, 81, .inl pc)), (r8, .inl (cI, 81, .inl pt)), (r9, .inl (cI, 82, .inl rs)), (r13, .inl (cI, 82, .inl cv__3)), (r14, .inl (cI, 82, .inl bx__4))]) [0, 1, 2, 3, 4, 5] (by decide) rfl
  exact W.zret (v := (bI fl__1)) hx hb hr (bI_z _) (fun t ht hW => ⟨⟨(bI fl__1), (fl__1, bx__4, cv__3, bc__2), rfl, ⟨rfl, hI__5⟩, by rw [ht]; exact hP9, va_K.moved hW.alike hK, hD9⟩, hS.F ht⟩) hS.2.2 d_Ref_tryAll_270
