/-! ===== the law's cases, any state ===== -/
theorem fDig_nI (c b i : Int32) : ∃ d, d ≤ 2 ∧ fDig c b i = nI d := by
  unfold fDig
  split
  · exact ⟨2, by omega, rfl⟩
  · obtain ⟨j, hj, ej⟩ := pk_andE (b >>> (i &&& 31)) (m := 1) 1 (by decide)
    exact ⟨j, by omega, ej⟩
theorem fNum_nI (N : Nat) (c b : Int32) : ∃ n, n < 3 ^ N ∧ fNum N c b = nI n := by
  induction N with
  | zero => exact ⟨0, by decide, rfl⟩
  | succ N ih =>
    obtain ⟨n, hn, e⟩ := ih
    obtain ⟨d, hd, e2⟩ := fDig_nI c b (nI N)
    refine ⟨n * 3 + d, by rw [Nat.pow_succ]; omega, ?_⟩
    show fNum N c b * 3 + fDig c b (nI N) = _
    rw [e, e2, show (3 : Int32) = nI 3 from rfl, pk_mul, nI_add]
theorem fNum_in {N : Nat} {c b : Int32} (hN : N ≤ 4) : vp_in (fNum N c b) 81 := by
  obtain ⟨n, hn, e⟩ := fNum_nI N c b
  have h8 : 3 ^ N ≤ 81 := Nat.pow_le_pow_right (n := 3) (by omega) hN
  rw [e]
  exact vp_in_nI (by omega) (by omega)
theorem pr_cube {prod : Nat → Int32} {M Z N : Nat} (h : ∀ c, c < M → vp_in (prod c) 81) (hZ : 3 ^ N = Z) (hZ8 : Z ≤ 81) : ∀ c, c < M + 1 → vp_in (upd prod M (nI Z - 1) c) 81 := by
  intro c hc
  have h1 : 1 ≤ Z := by rw [← hZ]; exact Nat.pow_pos (by omega)
  by_cases hE : c = M
  · subst hE; rw [pk_us, show (1 : Int32) = nI 1 from rfl, pk_sub h1]; exact vp_in_nI (by omega) (by omega)
  · rw [pk_un hE]; exact h c (by omega)
theorem updN_ok {dg : Nat → Nat} {k v : Nat} (h : ∀ j, dg j ≤ 2) (hv : v ≤ 2) : ∀ j, updN dg k v j ≤ 2 := by
  intro j
  unfold updN
  split
  · exact hv
  · exact h j
theorem dg4_ok {dg : Nat → Nat} {M : Nat} (h : ∀ j, dg j ≤ 2) (i : Nat) : ∀ j, dg4 dg M i j ≤ 2 := by
  induction i with
  | zero => exact h
  | succ i ih => exact updN_ok (dg := dg4 dg M i) ih (by omega)
theorem sx {L i k : Nat} (hL : L ≤ 2050) (hi : i + 4 ≤ L) (hk : k ≤ 3) : vp_in (nI (i + k)) L := vp_in_nI (by omega) (by omega)
theorem sxc {L i k : Nat} {xs : Nat → Int32} (hL : L ≤ 2050) (hi : i + 4 ≤ L) (hk : k ≤ 3) : xs (nI (i + k)).toNatClampNeg = xs (i + k) := by rw [nI_clamp (by omega)]
theorem lgc (x : Int64) : lg_cmp x x = 0 := by simp [lg_cmp]
theorem ixcj {x y : Int32} {M N : Nat} (h : ¬ (x < 0 ∨ nI M ≤ x ∨ y < 0 ∨ nI N ≤ y)) (hM : M < 2 ^ 31) (hN : N < 2 ^ 31) : ∃ C J, C < M ∧ J < N ∧ x = nI C ∧ y = nI J := by
  obtain ⟨C, hC, rfl⟩ := rng (y := x) (N := M) (fun g => h (Or.inl g)) (Int32.not_le.mp (fun g => h (Or.inr (Or.inl g)))) hM
  obtain ⟨J, hJ, rfl⟩ := rng (y := y) (N := N) (fun g => h (Or.inr (Or.inr (Or.inl g)))) (Int32.not_le.mp (fun g => h (Or.inr (Or.inr (Or.inr g))))) hN
  exact ⟨C, J, hC, hJ, rfl, rfl⟩
theorem ixz {z : Int32} (h : ¬ (z < 0 ∨ 2 < z)) : ∃ w, w ≤ 2 ∧ z = nI w := by
  obtain ⟨w, hw, rfl⟩ := nI_of (x := z) (fun g => h (Or.inl g))
  exact ⟨w, (nI_leI (a := w) (b := 2) hw (by omega)).mp (Int32.not_lt.mp (fun g => h (Or.inr g))), rfl⟩
theorem law_idx {L i : Nat} (hL : L ≤ 2050) (hi : i ≤ 4000) (h : ¬ nI L - 4 < nI i) : i + 4 ≤ L := by
  by_cases h4 : 4 ≤ L
  · rw [show (4 : Int32) = nI 4 from rfl, pk_sub h4] at h
    have := (nI_leI (a := i) (b := L - 4) (by omega) (by omega)).mp (Int32.not_lt.mp h)
    omega
  · have hp : ¬ nI i < 0 := nI_pos (by omega)
    have h5 : nI L - 4 < 0 := by
      rcases (show L = 0 ∨ L = 1 ∨ L = 2 ∨ L = 3 by omega) with rfl | rfl | rfl | rfl <;> decide +kernel
    exact absurd (Int32.lt_of_le_of_lt (Int32.not_lt.mp h) h5) hp
theorem dg4_o {dg : Nat → Nat} {M k : Nat} (h : k < 4 * M) (i : Nat) : dg4 dg M i k = dg k := by
  induction i with
  | zero => rfl
  | succ i ih =>
    show (if k = 4 * M + i then 2 else dg4 dg M i k) = dg k
    rw [if_neg (by omega)]; exact ih
theorem dg4_y {dg : Nat → Nat} {M j : Nat} (i : Nat) (h : j < i) : dg4 dg M i (4 * M + j) = 2 := by
  induction i with
  | zero => exact absurd h (Nat.not_lt_zero j)
  | succ i ih =>
    show (if 4 * M + j = 4 * M + i then 2 else dg4 dg M i (4 * M + j)) = 2
    by_cases hE : j = i
    · rw [if_pos (by omega)]
    · rw [if_neg (by omega)]; exact ih (by omega)
theorem pn_free {dg : Nat → Nat} {M : Nat} (N : Nat) (hN : N ≤ 4) : pn (dg4 dg M 4) N M + 1 = 3 ^ N := by
  induction N with
  | zero => rfl
  | succ N ih =>
    have h1 := ih (by omega)
    show pn (dg4 dg M 4) N M * 3 + dg4 dg M 4 (4 * M + N) + 1 = _
    rw [dg4_y 4 (by omega), Nat.pow_succ]
    omega
theorem pt_cube {prod : Nat → Int32} {dg : Nat → Nat} {M N Z : Nat} (h : ∀ c, c < M → prod c = nI (pn dg N c)) (hN : N ≤ 4) (hZ : 3 ^ N = Z) : ∀ c, c < M + 1 → upd prod M (nI Z - 1) c = nI (pn (dg4 dg M 4) N c) := by
  intro c hc
  have h1 := pn_free (dg := dg) (M := M) N hN
  by_cases hE : c = M
  · subst hE
    rw [pk_us, show (1 : Int32) = nI 1 from rfl, pk_sub (by omega), ← hZ, ← h1]
    rfl
  · rw [pk_un hE, h c (by omega), pn_cong N (fun j hj => (dg4_o (dg := dg) (M := M) (k := 4 * c + j) (by omega) 4).symm)]
theorem dg_eq {care bits prod : Nat → Int32} {dg : Nat → Nat} {M N Z C J : Nat} (htb : ∀ q, q < Z → care q = (cB N q N).1 ∧ bits q = (cB N q N).2) (hpt : ∀ c, c < M → prod c = nI (pn dg N c)) (hdg : ∀ j, dg j ≤ 2) (hN : N ≤ 4) (hZ : 3 ^ N = Z) (hZ8 : Z ≤ 81) (hC : C < M) (hJ : J < N) : fDig (care (prod C).toNatClampNeg) (bits (prod C).toNatClampNeg) (nI J) = nI (dg (4 * C + J)) := by
  have hl := pn_lt hdg N C
  rw [hpt C hC, nI_clamp (by omega), (htb _ (by omega)).1, (htb _ (by omega)).2, dig_c N (by omega) _ hl J hJ, pn_dig hdg hN hJ]
theorem nI_in2 {a b : Nat} (ha : a ≤ 2) (hb : b ≤ 2) : nI a = nI b ↔ a = b := by
  rcases (show a = 0 ∨ a = 1 ∨ a = 2 by omega) with rfl | rfl | rfl <;> rcases (show b = 0 ∨ b = 1 ∨ b = 2 by omega) with rfl | rfl | rfl <;> decide
theorem lit_iff {care bits prod : Nat → Int32} {dg : Nat → Nat} {M N Z C J wv : Nat} (htb : ∀ q, q < Z → care q = (cB N q N).1 ∧ bits q = (cB N q N).2) (hpt : ∀ c, c < M → prod c = nI (pn dg N c)) (hdg : ∀ j, dg j ≤ 2) (hN : N ≤ 4) (hZ : 3 ^ N = Z) (hZ8 : Z ≤ 81) (hC : C < M) (hJ : J < N) (hw2 : wv ≤ 2) : fDig (care (prod C).toNatClampNeg) (bits (prod C).toNatClampNeg) (nI J) = nI wv ↔ dg (4 * C + J) = wv := by
  rw [dg_eq htb hpt hdg hN hZ hZ8 hC hJ]
  exact nI_in2 (hdg _) hw2
theorem pt_lit {care bits prod : Nat → Int32} {dg : Nat → Nat} {M N Z C J wv : Nat} (htb : ∀ q, q < Z → care q = (cB N q N).1 ∧ bits q = (cB N q N).2) (hpt : ∀ c, c < M → prod c = nI (pn dg N c)) (hdg : ∀ j, dg j ≤ 2) (hN : N ≤ 4) (hZ : 3 ^ N = Z) (hZ8 : Z ≤ 81) (hC : C < M) (hJ : J < N) (hw2 : wv ≤ 2) : ∀ c, c < M → (if fDig (care (prod C).toNatClampNeg) (bits (prod C).toNatClampNeg) (nI J) = nI wv then prod else upd prod C (fWith N (care (prod C).toNatClampNeg) (bits (prod C).toNatClampNeg) (nI J) (nI wv))) c = nI (pn (updN dg (4 * C + J) wv) N c) := by
  intro c hc
  have hl := pn_lt hdg N C
  by_cases hE : c = C
  · subst hE
    by_cases hw : dg (4 * c + J) = wv
    · rw [if_pos ((lit_iff htb hpt hdg hN hZ hZ8 hC hJ hw2).mpr hw), hpt c hc]
      refine congrArg nI (pn_cong N (fun j hj => ?_))
      show _ = if 4 * c + j = 4 * c + J then wv else dg (4 * c + j)
      by_cases hj2 : j = J
      · subst hj2; rw [if_pos rfl]; exact hw
      · rw [if_neg (by omega)]
    · rw [if_neg (fun g => hw ((lit_iff htb hpt hdg hN hZ hZ8 hC hJ hw2).mp g)), pk_us, hpt c hc, nI_clamp (by omega), (htb _ (by omega)).1, (htb _ (by omega)).2, with_c N (by omega) _ hl J hJ wv (by omega), pn_set hdg hN hJ hw2]
  · have e : (if fDig (care (prod C).toNatClampNeg) (bits (prod C).toNatClampNeg) (nI J) = nI wv then prod else upd prod C (fWith N (care (prod C).toNatClampNeg) (bits (prod C).toNatClampNeg) (nI J) (nI wv))) c = prod c := by
      split
      · rfl
      · exact pk_un hE
    rw [e, hpt c hc]
    refine congrArg nI (pn_cong N (fun j hj => ?_))
    show _ = if 4 * c + j = 4 * C + J then wv else dg (4 * c + j)
    rw [if_neg (by omega)]
theorem wv0 {wv : Nat} (h : wv ≤ 2) : ¬ nI wv < 0 := nI_pos (by omega)
theorem wv2 {wv : Nat} (h : wv ≤ 2) : ¬ 2 < nI wv := fun g => absurd ((nI_ltI (a := 2) (b := wv) (by omega) (by omega)).mp g) (by omega)
theorem fNone_n (kind : Nat → Int32) (M o k : Nat) (h : k < M * 2) : fNone kind M o k = kind k := by
  induction o with
  | zero => rfl
  | succ o ih =>
    show upd (fNone kind M o) (M * 2 + o) 0 k = _
    rw [pk_un (by omega)]; exact ih
theorem fNone_y (kind : Nat → Int32) (M o k : Nat) (h : k < o) : fNone kind M o (M * 2 + k) = 0 := by
  induction o with
  | zero => exact absurd h (Nat.not_lt_zero k)
  | succ o ih =>
    show upd (fNone kind M o) (M * 2 + o) 0 (M * 2 + k) = 0
    by_cases hE : k = o
    · subst hE; rw [pk_us]
    · rw [pk_un (by omega)]; exact ih (by omega)
theorem kk_cube {kind kd : Nat → Int32} {M OU : Nat} (h : ∀ c, c < M → ∀ o, o < OU → kind (c * 2 + o) = kd (2 * c + o)) (hOU : OU ≤ 2) : ∀ c, c < M + 1 → ∀ o, o < OU → fNone kind M OU (c * 2 + o) = upd (upd kd (2 * M) 0) (2 * M + 1) 0 (2 * c + o) := by
  intro c hc o ho
  by_cases hE : c = M
  · subst hE
    rw [fNone_y kind c OU o ho]
    rcases (show o = 0 ∨ o = 1 by omega) with rfl | rfl
    · rw [pk_un (by omega), Nat.add_zero, pk_us]
    · rw [pk_us]
  · rw [fNone_n kind M OU _ (by omega), pk_un (by omega), pk_un (by omega)]
    exact h c (by omega) o ho
theorem kk_upd {kind kd : Nat → Int32} {M OU C J : Nat} {z : Int32} (h : ∀ c, c < M → ∀ o, o < OU → kind (c * 2 + o) = kd (2 * c + o)) : ∀ c, c < M → ∀ o, o < OU → upd kind (C * 2 + J) z (c * 2 + o) = upd kd (2 * C + J) z (2 * c + o) := by
  intro c hc o ho
  by_cases hE : c * 2 + o = C * 2 + J
  · rw [hE, pk_us, show 2 * c + o = 2 * C + J by omega, pk_us]
  · rw [pk_un hE, pk_un (by omega)]; exact h c hc o ho
theorem k3_cube {kd : Nat → Int32} {M OU : Nat} (h : ∀ c, c < M → ∀ o, o < OU → kd (2 * c + o) = 0 ∨ kd (2 * c + o) = 1 ∨ kd (2 * c + o) = 2) (hOU : OU ≤ 2) : ∀ c, c < M + 1 → ∀ o, o < OU → upd (upd kd (2 * M) 0) (2 * M + 1) 0 (2 * c + o) = 0 ∨ upd (upd kd (2 * M) 0) (2 * M + 1) 0 (2 * c + o) = 1 ∨ upd (upd kd (2 * M) 0) (2 * M + 1) 0 (2 * c + o) = 2 := by
  intro c hc o ho
  by_cases hE : c = M
  · subst hE
    rcases (show o = 0 ∨ o = 1 by omega) with rfl | rfl
    · rw [pk_un (by omega), Nat.add_zero, pk_us]; exact Or.inl rfl
    · rw [pk_us]; exact Or.inl rfl
  · rw [pk_un (by omega), pk_un (by omega)]
    exact h c (by omega) o ho
theorem k3_upd {kd : Nat → Int32} {M OU C J : Nat} {z : Int32} (h : ∀ c, c < M → ∀ o, o < OU → kd (2 * c + o) = 0 ∨ kd (2 * c + o) = 1 ∨ kd (2 * c + o) = 2) (hz0 : ¬ z < 0) (hz2 : ¬ 2 < z) : ∀ c, c < M → ∀ o, o < OU → upd kd (2 * C + J) z (2 * c + o) = 0 ∨ upd kd (2 * C + J) z (2 * c + o) = 1 ∨ upd kd (2 * C + J) z (2 * c + o) = 2 := by
  intro c hc o ho
  by_cases hE : 2 * c + o = 2 * C + J
  · rw [hE, pk_us]
    obtain ⟨w, hw, rfl⟩ := ixz (z := z) (fun g => g.elim hz0 hz2)
    rcases (show w = 0 ∨ w = 1 ∨ w = 2 by omega) with rfl | rfl | rfl
    · exact Or.inl rfl
    · exact Or.inr (Or.inl rfl)
    · exact Or.inr (Or.inr rfl)
  · rw [pk_un hE]; exact h c hc o ho
abbrev w9 (cI cJ : ClassId) (N OU Z : Nat) (care bits had : Nat → Int32) (m0 : Nat) (a0 : Nat) (a1 : Nat) (a2 : Nat) (a3 : Nat) (b0 : Nat) (b1 : Nat) (b2 : Nat) (t0 : Nat) (t1 : Nat) (t2 : Nat) (f0 : Nat) (f1 : Nat) (g0 : Nat) (g1 : Nat) (g2 : Nat) (g3 : Nat) (g4 : Nat) (g5 : Nat) (k0 : Nat) (k1 : Nat) (k2 : Nat) (v0 : Nat) (v1 : Nat) (v2 : Nat) (v3 : Nat) (d0 : Nat) (d1 : Nat) (d2 : Nat) (d3 : Nat) (r0 : Nat) (r1 : Nat) (r2 : Nat) (r3 : Nat) (r4 : Nat) (r5 : Nat) (r6 : Nat) (r7 : Nat) (r8 : Nat) (r9 : Nat) (r10 : Nat) (r11 : Nat) (r12 : Nat) (r13 : Nat) (r14 : Nat) (r15 : Nat) (o0 : Nat) (hk : Int32) (po : Int32) (M : Nat) (prod : Nat → Int32) (kind : Nat → Int32) (K : Nat) (tp : Nat → Int32) (to : Nat → Int32) (TK : Nat) (kp : Nat → Int32) (ko : Nat → Int32) (outs : Nat → Int32) (K0 : Nat) (ap : Int32) (fd : Int64) (fw : Int64) (pts : Nat → Int32) (cst : Nat → Int32) (wts : Nat → Int64) (hav : Nat → Int64) (pck : Nat → Int32) (S : Nat) (lo : Int64) (hi : Int64) (on : Int32) (ze : Int32) (kl : Nat → Int64) (kh : Nat → Int64) (row : Nat → Int32) (asked : Nat → Int32) (tabs : Nat → Int32) (seen : Nat → Int32) (th : Int32) (PK : Nat) (qk : Int32) (TR : Nat) (qc : Int32) (bst : Int32) (dg : Nat → Nat) (kd : Nat → Int32) (ron : Nat → Int32) (rcan : Nat → Int32) (rpp : Nat → Int32) (rpo : Nat → Int32) (rpc : Nat → Int32) (rpt : Nat → Int32) (rrs : Nat → Int32) (rkp : Nat → Int32) (rko : Nat → Int32) (rqu : Nat → Int32) (rch : Nat → Int32) (rbe : Nat → Int32) (rfd : Nat → Int32) (of : Nat → Int64) : va_W := [(m0, .inr (7, [.int ((nI N)), .int ((nI OU)), .ref b0, .ref t0, .ref f0, .ref g0, .ref k0, .ref v0, .ref d0, .int hk, .int po])), (a0, .inr (5, [.int ((nI N)), .int ((nI Z)), .ref a1, .ref a2, .ref a3])), (a1, .inl (cI, 81, .inl care)), (a2, .inl (cI, 81, .inl bits)), (a3, .inl (cI, 81, .inl had)), (b0, .inr (1, [.ref a0, .int ((nI OU)), .ref b1, .ref b2, .int ((nI M))])), (b1, .inl (cI, 24, .inl prod)), (b2, .inl (cI, 48, .inl kind)), (t0, .inr (6, [.ref a0, .ref t1, .ref t2, .int ((nI K))])), (t1, .inl (cI, 81, .inl tp)), (t2, .inl (cI, 81, .inl to)), (f0, .inr (4, [.ref a0, .int ((nI OU)), .ref f1])), (f1, .inl (cI, 81, .inl outs)), (g0, .inr (0, [.int ((nI OU)), .ref g1, .ref g2, .ref g3, .ref g4, .ref g5, .int ((nI K0)), .int ap, .long fd, .long fw])), (g1, .inl (cI, 81, .inl pts)), (g2, .inl (cI, 81, .inl cst)), (g3, .inl (cJ, 81, .inr (.inl wts))), (g4, .inl (cJ, 32, .inr (.inl hav))), (g5, .inl (cI, 32, .inl pck)), (k0, .inr (6, [.ref a0, .ref k1, .ref k2, .int ((nI TK))])), (k1, .inl (cI, 81, .inl kp)), (k2, .inl (cI, 81, .inl ko)), (v0, .inr (3, [.ref a0, .ref v1, .ref v2, .ref v3, .int ((nI S)), .long lo, .long hi, .int on, .int ze])), (v1, .inl (cJ, 81, .inr (.inl kl))), (v2, .inl (cJ, 81, .inr (.inl kh))), (v3, .inl (cI, 81, .inl row)), (d0, .inr (2, [.int ((nI N)), .int ((nI OU)), .ref d1, .ref d2, .ref d3])), (d1, .inl (cI, 4, .inl asked)), (d2, .inl (cI, 2, .inl tabs)), (d3, .inl (cI, 16, .inl seen)), (r0, .inr (8, [.int th, .int ((nI N)), .int ((nI OU)), .int ((nI Z)), .ref r1, .ref r2, .int ((nI M)), .ref r3, .ref r4, .ref r5, .ref r6, .ref r7, .ref r8, .int ((nI PK)), .ref r9, .int qk, .ref r10, .ref r11, .int ((nI TR)), .ref r12, .int qc, .ref r13, .ref r14, .int bst, .ref r15])), (r1, .inl (cI, 96, .inl ((dF dg)))), (r2, .inl (cI, 48, .inl kd)), (r3, .inl (cI, 2, .inl ron)), (r4, .inl (cI, 2, .inl rcan)), (r5, .inl (cI, 81, .inl rpp)), (r6, .inl (cI, 81, .inl rpo)), (r7, .inl (cI, 81, .inl rpc)), (r8, .inl (cI, 81, .inl rpt)), (r9, .inl (cI, 82, .inl rrs)), (r10, .inl (cI, 81, .inl rkp)), (r11, .inl (cI, 81, .inl rko)), (r12, .inl (cI, 81, .inl rqu)), (r13, .inl (cI, 82, .inl rch)), (r14, .inl (cI, 82, .inl rbe)), (r15, .inl (cI, 64, .inl rfd)), (o0, .inl (cJ, 1, .inr (.inl of)))]
