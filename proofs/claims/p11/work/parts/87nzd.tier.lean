/-! ===== what run keeps ===== -/
def cT (N OU Z : Nat) (on can : Nat → Int32) (k : Nat) : Int32 := tP N OU on can ((pS N OU Z can Z).2.1 k).toNatClampNeg
def cC (N OU Z : Nat) (can : Nat → Int32) (k : Nat) : Nat := (rCost N ((pS N OU Z can Z).2.1 k).toNatClampNeg ((pS N OU Z can Z).2.2 k) N).toNatClampNeg
def cI32 (N OU Z : Nat) (can : Nat → Int32) (k : Nat) : Int32 := nI (cC N OU Z can k)
/-- the set that run keeps -/
def KF (N OU Z : Nat) (on can : Nat → Int32) (ex : Int32) (F : Int64) : Prop := inS F (pS N OU Z can Z).1 ∧ covS (cT N OU Z on can) (apO on OU) (pS N OU Z can Z).1 F ∧ (ex = 0 → ∃ nq, nq ≤ 32 ∧ qEnd (cT N OU Z on can) (cI32 N OU Z can) (pS N OU Z can Z).1 (apO on OU) nq ∧ F = qR (cT N OU Z on can) (cI32 N OU Z can) (pS N OU Z can Z).1 (apO on OU) nq nq) ∧ (¬ ex = 0 → isOpt (cC N OU Z can) (cT N OU Z on can) (apO on OU) (pS N OU Z can Z).1 F)
theorem KF_uniq {N OU Z : Nat} {on can : Nat → Int32} {ex : Int32} {F G : Int64} (hn : (pS N OU Z can Z).1 ≤ 48) (h : KF N OU Z on can ex F) (h2 : KF N OU Z on can ex G) : F = G := by
  by_cases he : ex = 0
  · obtain ⟨a, _, a1, rfl⟩ := h.2.2.1 he
    obtain ⟨b, _, b1, rfl⟩ := h2.2.2.1 he
    rw [qEnd_eq a1 b1]
  · have a := h.2.2.2 he
    have b := h2.2.2.2 he
    exact opt_eq hn b a.1 a.2.1 (a.2.2 G b.1 b.2.1)
theorem pS_pq {N OU Z : Nat} {can : Nat → Int32} (p : Nat) : ∀ k, k < (pS N OU Z can p).1 → ∃ q, q < p ∧ (pS N OU Z can p).2.1 k = nI q ∧ (pS N OU Z can p).2.2 k = oP N OU can q := by
  induction p with
  | zero => exact fun k hk => absurd hk (Nat.not_lt_zero k)
  | succ p ih =>
    rw [pS_s]
    split
    · intro k hk
      have hk : k < (pS N OU Z can p).1 + 1 := hk
      show ∃ q, q < p + 1 ∧ upd _ _ _ k = nI q ∧ upd _ _ _ k = oP N OU can q
      by_cases hE : k = (pS N OU Z can p).1
      · rw [hE, pk_us, pk_us]; exact ⟨p, Nat.lt_succ_self p, rfl, rfl⟩
      · rw [pk_un hE, pk_un hE]
        obtain ⟨q, hq, e⟩ := ih k (by omega)
        exact ⟨q, by omega, e⟩
    · intro k hk
      obtain ⟨q, hq, e⟩ := ih k hk
      exact ⟨q, by omega, e⟩
section RUN
variable {N OU Z K M : Nat} {on can care bits had tp to : Nat → Int32}
theorem ak_eq (hth : ∀ q, q < Z → had q = rPts N q (2 ^ N)) (hN : N ≤ 4) (hZ : 3 ^ N = Z) (h1 : 1 ≤ OU) (hOU : OU ≤ 2) (hlo : ∀ o, o < 2 → lo16 (on o)) {f : Nat → Int32} (hf : ∀ o, o < OU → f o = on o) (hp : isPr N OU Z can K tp to) {k : Nat} (hk : k < K) : apO (fun o => fHad tp to had k (nI o)) OU &&& apO f OU = cT N OU Z on can k := by
  obtain ⟨e, h⟩ := hp
  obtain ⟨a, b⟩ := h k hk
  obtain ⟨q, hq, e1, e2⟩ := pS_pq Z k (by rw [← e]; exact hk)
  have h8 := p3_81 hN
  unfold cT
  rw [e1, nI_clamp (by omega), ← pt_tie hN h1 hOU hlo, apO_cong OU hf]
  refine congrArg (fun x => x &&& apO on OU) (apO_cong OU (fun o ho => ?_))
  show (if (to k >>> (nI o &&& 31)) &&& 1 = 1 then had (tp k).toNatClampNeg else 0) = _
  rw [a, b, e1, e2, nI_clamp (by omega), hth q hq]
theorem ck_eq (htb : ∀ q, q < Z → care q = (cB N q N).1 ∧ bits q = (cB N q N).2) (hN : N ≤ 4) (hZ : 3 ^ N = Z) (hOU : OU ≤ 2) (hp : isPr N OU Z can K tp to) {k : Nat} (hk : k < K) : bcI (care (tp k).toNatClampNeg) + bcI (to k) = nI (cC N OU Z can k) ∧ cC N OU Z can k ≤ 6 := by
  obtain ⟨e, h⟩ := hp
  obtain ⟨a, b⟩ := h k hk
  obtain ⟨q, hq, e1, e2⟩ := pS_pq Z k (by rw [← e]; exact hk)
  obtain ⟨s, hs, e3⟩ := oP_4 (N := N) (p := q) (can := can) hOU
  have h8 := p3_81 hN
  have hc := co_p hN (show q < 3 ^ N by omega) hs
  unfold cC
  rw [a, b, e1, e2, e3, nI_clamp (by omega), (htb q hq).1]
  exact ⟨hc.1.trans hc.2.1, hc.2.2⟩
theorem isOpt_cong {c : Nat → Nat} {pts pts2 : Nat → Int32} {W : Int32} {n : Nat} {S : Int64} (h : ∀ k, k < n → pts k = pts2 k) (hS : isOpt c pts W n S) : isOpt c pts2 W n S := by
  have hc : ∀ T, covS pts W n T ↔ covS pts2 W n T := fun T => ⟨fun g e he hW => (by obtain ⟨k, hk, a, b⟩ := g e he hW; exact ⟨k, hk, a, by rw [← h k hk]; exact b⟩), fun g e he hW => (by obtain ⟨k, hk, a, b⟩ := g e he hW; exact ⟨k, hk, a, by rw [h k hk]; exact b⟩)⟩
  exact ⟨hS.1, (hc S).mp hS.2.1, fun T hT hcT => hS.2.2 T hT ((hc T).mpr hcT)⟩
theorem fQP_cong {pts pts2 cst cst2 : Nat → Int32} {op : Int32} {n : Nat} (hp : ∀ k, k < n → pts k = pts2 k) (hc : ∀ k, k < n → cst k = cst2 k) (m : Nat) (hm : m ≤ n) (hn : n ≤ 81) : fQP pts cst op m = fQP pts2 cst2 op m := by
  induction m with
  | zero => exact Eq.trans (b := ((-1 : Int32), (0 : Int32))) rfl rfl
  | succ m ih =>
    have ih := ih (by omega)
    rw [show fQP pts cst op (m + 1) = (if (fQP pts cst op m).2 < bcI (pts m &&& op) then (nI m, bcI (pts m &&& op)) else if (fQP pts cst op m).1 = -1 then fQP pts cst op m else if bcI (pts m &&& op) = (fQP pts cst op m).2 then (if cst (fQP pts cst op m).1.toNatClampNeg ≤ cst m then fQP pts cst op m else (nI m, bcI (pts m &&& op))) else fQP pts cst op m) from rfl,
      show fQP pts2 cst2 op (m + 1) = (if (fQP pts2 cst2 op m).2 < bcI (pts2 m &&& op) then (nI m, bcI (pts2 m &&& op)) else if (fQP pts2 cst2 op m).1 = -1 then fQP pts2 cst2 op m else if bcI (pts2 m &&& op) = (fQP pts2 cst2 op m).2 then (if cst2 (fQP pts2 cst2 op m).1.toNatClampNeg ≤ cst2 m then fQP pts2 cst2 op m else (nI m, bcI (pts2 m &&& op))) else fQP pts2 cst2 op m) from rfl, ih, hp m (by omega), hc m (by omega)]
    by_cases h1 : (fQP pts2 cst2 op m).1 = -1
    · rw [if_pos h1, if_pos h1]
    · rcases fQP_k (pts := pts2) (cst := cst2) (op := op) m (by omega) with ⟨g1, _⟩ | ⟨k, hk, g1, _⟩
      · exact absurd g1 h1
      · have e : cst (fQP pts2 cst2 op m).1.toNatClampNeg = cst2 (fQP pts2 cst2 op m).1.toNatClampNeg := by rw [g1, nI_clamp (by omega)]; exact hc k (by omega)
        rw [e]
theorem opQ_cong {pts pts2 cst cst2 : Nat → Int32} {W : Int32} {n : Nat} (hn : n ≤ 48) (hcov : ∀ e, e < 32 → bt W e = true → ∃ k, k < n ∧ bt (pts k) e = true) (hp : ∀ k, k < n → pts k = pts2 k) (hc : ∀ k, k < n → cst k = cst2 k) (m : Nat) : opQ pts cst n W m = opQ pts2 cst2 n W m := by
  induction m with
  | zero => exact Eq.trans (b := W) rfl rfl
  | succ m ih =>
    rw [opQ_s, opQ_s]
    have e : pkQ pts cst n W m = pkQ pts2 cst2 n W m := by
      unfold pkQ pkF
      rw [ih, fQP_cong hp hc n (Nat.le_refl n) (by omega)]
    rw [← ih, ← e]
    by_cases h0 : opQ pts cst n W m = 0
    · rw [h0]
      refine b_ext (fun i hi => ?_)
      rw [b_and, b_and, b_0]; rfl
    · rw [hp _ (pkQ_ok hn hcov h0).1]
theorem pkQ_cong {pts pts2 cst cst2 : Nat → Int32} {W : Int32} {n : Nat} (hn : n ≤ 48) (hcov : ∀ e, e < 32 → bt W e = true → ∃ k, k < n ∧ bt (pts k) e = true) (hp : ∀ k, k < n → pts k = pts2 k) (hc : ∀ k, k < n → cst k = cst2 k) (m : Nat) : pkQ pts cst n W m = pkQ pts2 cst2 n W m := by
  unfold pkQ pkF
  rw [opQ_cong hn hcov hp hc, fQP_cong hp hc n (Nat.le_refl n) (by omega)]
theorem qEnd_cong {pts pts2 cst cst2 : Nat → Int32} {W : Int32} {n nq : Nat} (hn : n ≤ 48) (hcov : ∀ e, e < 32 → bt W e = true → ∃ k, k < n ∧ bt (pts k) e = true) (hp : ∀ k, k < n → pts k = pts2 k) (hc : ∀ k, k < n → cst k = cst2 k) (h : qEnd pts cst n W nq) : qEnd pts2 cst2 n W nq := ⟨by rw [← opQ_cong hn hcov hp hc]; exact h.1, fun i hi => by rw [← opQ_cong hn hcov hp hc]; exact h.2 i hi⟩
theorem fCov_cong {pts pts2 : Nat → Int32} {S : Int64} {n : Nat} (m : Nat) (hm : m ≤ n) (hp : ∀ k, k < n → pts k = pts2 k) : fCov pts S m = fCov pts2 S m := by
  induction m with
  | zero => exact Eq.trans (b := (0 : Int32)) rfl rfl
  | succ m ih =>
    show (if fIn S (nI m) = 0 then fCov pts S m else fCov pts S m ||| pts m) = (if fIn S (nI m) = 0 then fCov pts2 S m else fCov pts2 S m ||| pts2 m)
    rw [ih (by omega), hp m (by omega)]
theorem qm_cong {a b : Nat → Nat} (m : Nat) (h : ∀ j, j < m → a j = b j) : qm a m = qm b m := by
  induction m with
  | zero => exact Eq.trans (b := (0 : Int64)) rfl rfl
  | succ m ih =>
    show setB (qm a m) (a m) = setB (qm b m) (b m)
    rw [ih (fun j hj => h j (by omega)), h m (by omega)]
theorem qR_cong {pts pts2 cst cst2 : Nat → Int32} {W : Int32} {n nq : Nat} (hn : n ≤ 48) (hcov : ∀ e, e < 32 → bt W e = true → ∃ k, k < n ∧ bt (pts k) e = true) (hp : ∀ k, k < n → pts k = pts2 k) (hc : ∀ k, k < n → cst k = cst2 k) (i : Nat) : qR pts cst n W nq i = qR pts2 cst2 n W nq i := by
  induction i with
  | zero => exact qm_cong nq (fun j _ => pkQ_cong hn hcov hp hc j)
  | succ i ih => rw [qR_s, qR_s, ih, pkQ_cong hn hcov hp hc, fCov_cong n (Nat.le_refl n) hp]
/-- the kept row by the set's members -/
theorem stT_en {op oo tp to : Nat → Int32} {F : Int64} (k : Nat) (hk : k ≤ 64) : (stT op oo tp to F k).1 = (enS F k).1 ∧ ∀ t, t < (enS F k).1 → (stT op oo tp to F k).2.1 t = op ((enS F k).2 t) ∧ (stT op oo tp to F k).2.2 t = oo ((enS F k).2 t) := by
  induction k with
  | zero => exact ⟨rfl, fun t ht => absurd ht (Nat.not_lt_zero t)⟩
  | succ k ih =>
    obtain ⟨h1, h2⟩ := ih (by omega)
    rw [enS_s, show stT op oo tp to F (k + 1) = (if lg_cmp ((F >>> ((nI k).toInt64 &&& 63)) &&& 1) 1 = 0 then ((stT op oo tp to F k).1 + 1, upd (stT op oo tp to F k).2.1 (stT op oo tp to F k).1 (op k), upd (stT op oo tp to F k).2.2 (stT op oo tp to F k).1 (oo k)) else stT op oo tp to F k) from rfl]
    by_cases hb : bl F k = true
    · rw [if_pos hb, if_pos ((l_get (by omega)).mpr hb), h1]
      refine ⟨rfl, fun t ht => ?_⟩
      have ht : t < (enS F k).1 + 1 := ht
      show upd _ _ _ t = op (updN _ _ _ t) ∧ upd _ _ _ t = oo (updN _ _ _ t)
      by_cases hE : t = (enS F k).1
      · rw [hE, pk_us, pk_us, updN_s]; exact ⟨rfl, rfl⟩
      · rw [pk_un hE, pk_un hE, updN_n hE]; exact h2 t (by omega)
    · rw [if_neg hb, if_neg (fun g => hb ((l_get (by omega)).mp g))]; exact ⟨h1, h2⟩
/-- what is kept: how many, products, outputs -/
def KK (N OU Z : Nat) (on can : Nat → Int32) (ex : Int32) (TK : Nat) (kp ko : Nat → Int32) : Prop := ∃ F, KF N OU Z on can ex F ∧ TK = (enS F (pS N OU Z can Z).1).1 ∧ ∀ t, t < TK → kp t = (pS N OU Z can Z).2.1 ((enS F (pS N OU Z can Z).1).2 t) ∧ ko t = (pS N OU Z can Z).2.2 ((enS F (pS N OU Z can Z).1).2 t)
theorem KK_eq {ex : Int32} {TK TK2 : Nat} {kp ko kp2 ko2 : Nat → Int32} (hn : (pS N OU Z can Z).1 ≤ 48) (h : KK N OU Z on can ex TK kp ko) (h2 : KK N OU Z on can ex TK2 kp2 ko2) : TK = TK2 ∧ ∀ t, t < TK → kp t = kp2 t ∧ ko t = ko2 t := by
  obtain ⟨F, a1, a2, a3⟩ := h
  obtain ⟨G, b1, b2, b3⟩ := h2
  have e := KF_uniq hn a1 b1
  subst e
  refine ⟨a2.trans b2.symm, fun t ht => ?_⟩
  obtain ⟨x1, x2⟩ := a3 t ht
  obtain ⟨y1, y2⟩ := b3 t (by rw [b2, ← a2]; exact ht)
  exact ⟨x1.trans y1.symm, x2.trans y2.symm⟩
theorem cT_cong {on2 can2 : Nat → Int32} (h1 : ∀ o, o < 2 → on o = on2 o) (h2 : ∀ o, o < OU → can o = can2 o) : cT N OU Z on can = cT N OU Z on2 can2 := by
  funext k
  unfold cT tP
  rw [pS_cong h2, oP_cong h2, h1 0 (by omega), h1 1 (by omega)]
theorem cC_cong {can2 : Nat → Int32} (h2 : ∀ o, o < OU → can o = can2 o) : cC N OU Z can = cC N OU Z can2 := by
  funext k
  unfold cC
  rw [pS_cong h2]
theorem KK_cong {on2 can2 : Nat → Int32} {ex : Int32} {TK : Nat} {kp ko : Nat → Int32} (hOU : OU ≤ 2) (h1 : ∀ o, o < 2 → on o = on2 o) (h2 : ∀ o, o < OU → can o = can2 o) (h : KK N OU Z on can ex TK kp ko) : KK N OU Z on2 can2 ex TK kp ko := by
  unfold KK KF at h ⊢
  have e : cI32 N OU Z can = cI32 N OU Z can2 := by funext k; unfold cI32; rw [cC_cong h2]
  rw [← cT_cong h1 h2, ← pS_cong h2, ← apO_cong OU (fun o ho => h1 o (by omega)), ← cC_cong h2, ← e]
  exact h
/-- the class's find, in the common rows -/
theorem KF_find {cst pts : Nat → Int32} {ap : Int32} {ex : Int32} {F : Int64} (hn : (pS N OU Z can Z).1 ≤ 48) (hap : ap = apO on OU) (hpt : ∀ k, k < (pS N OU Z can Z).1 → pts k = cT N OU Z on can k) (hcs : ∀ k, k < (pS N OU Z can Z).1 → cst k = nI (cC N OU Z can k)) (hcov : ∀ e, e < 32 → bt ap e = true → ∃ k, k < (pS N OU Z can Z).1 ∧ bt (pts k) e = true) (hpW : ∀ k, k < (pS N OU Z can Z).1 → pts k &&& (ap ^^^ (-1)) = 0) (h0 : ex = 0 → ∃ nq, nq ≤ 32 ∧ qEnd pts cst (pS N OU Z can Z).1 ap nq ∧ F = qR pts cst (pS N OU Z can Z).1 ap nq nq) (h1 : ¬ ex = 0 → isOpt (cC N OU Z can) pts ap (pS N OU Z can Z).1 F) : KF N OU Z on can ex F := by
  have hC : ∀ G, covS pts ap (pS N OU Z can Z).1 G → covS (cT N OU Z on can) (apO on OU) (pS N OU Z can Z).1 G := fun G g e he hW => by
    obtain ⟨k, hk, a, b⟩ := g e he (by rw [hap]; exact hW)
    exact ⟨k, hk, a, by rw [← hpt k hk]; exact b⟩
  have hX : inS F (pS N OU Z can Z).1 ∧ covS pts ap (pS N OU Z can Z).1 F := by
    by_cases he : ex = 0
    · obtain ⟨nq, _, q1, q2⟩ := h0 he
      have := qR_in hn hcov hpW q1 nq (Nat.le_refl nq)
      rw [q2]; exact ⟨this.1, this.2.1⟩
    · exact ⟨(h1 he).1, (h1 he).2.1⟩
  refine ⟨hX.1, hC F hX.2, fun he => ?_, fun he => ?_⟩
  · obtain ⟨nq, q0, q1, q2⟩ := h0 he
    refine ⟨nq, q0, ?_, ?_⟩
    · rw [← hap]; exact qEnd_cong hn hcov hpt hcs q1
    · rw [← hap, q2]; exact qR_cong hn hcov hpt hcs nq
  · rw [← hap]; exact isOpt_cong hpt (h1 he)
end RUN
