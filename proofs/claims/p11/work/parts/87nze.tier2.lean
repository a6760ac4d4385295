/-! ===== run: small lemmas ===== -/
theorem lg_le (x y : Int64) : lg_cmp x y ≤ 0 ↔ x ≤ y := by
  unfold lg_cmp
  by_cases h1 : x > y
  · rw [if_pos h1]; exact ⟨fun g => absurd g (by decide), fun g => absurd h1 (Int64.not_lt.mpr g)⟩
  · rw [if_neg h1]
    by_cases h2 : x = y
    · rw [if_pos h2]; exact ⟨fun _ => h2 ▸ Int64.le_refl _, fun _ => by decide⟩
    · rw [if_neg h2]; exact ⟨fun _ => Int64.not_lt.mp h1, fun _ => by decide⟩
section RN2
variable {N OU Z K M : Nat} {on can care bits had tp to : Nat → Int32}
theorem cvF {f : Nat → Int32} (hth : ∀ q, q < Z → had q = rPts N q (2 ^ N)) (hN : N ≤ 4) (hZ : 3 ^ N = Z) (h1 : 1 ≤ OU) (hOU : OU ≤ 2) (hlo : ∀ o, o < 2 → lo16 (on o)) (hf : ∀ o, o < OU → f o = on o) (hp : isPr N OU Z can K tp to) (hcv : ∀ e, e < 32 → bt (apO on OU) e = true → ∃ k, k < (pS N OU Z can Z).1 ∧ bt (cT N OU Z on can k) e = true) : ∀ e, e < 32 → bt (apO f OU) e = true → ∃ k, k < K ∧ bt (apO (fun o => fHad tp to had k (nI o)) OU &&& apO f OU) e = true := by
  intro e he hb
  rw [apO_cong OU hf] at hb
  obtain ⟨k, hk, h⟩ := hcv e he hb
  have hk2 : k < K := by rw [hp.1]; exact hk
  exact ⟨k, hk2, by rw [ak_eq hth hN hZ h1 hOU hlo hf hp hk2]; exact h⟩
theorem kf_of {cst pts : Nat → Int32} {ap : Int32} {ex : Int32} {F : Int64} {f : Nat → Int32} (hth : ∀ q, q < Z → had q = rPts N q (2 ^ N)) (htb : ∀ q, q < Z → care q = (cB N q N).1 ∧ bits q = (cB N q N).2) (hN : N ≤ 4) (hZ : 3 ^ N = Z) (h1 : 1 ≤ OU) (hOU : OU ≤ 2) (hlo : ∀ o, o < 2 → lo16 (on o)) (hf : ∀ o, o < OU → f o = on o) (hp : isPr N OU Z can K tp to) (hcv : ∀ e, e < 32 → bt (apO on OU) e = true → ∃ k, k < (pS N OU Z can Z).1 ∧ bt (cT N OU Z on can k) e = true)
    (hap : ap = apO f OU) (hr : ∀ j, j < K → pts j = (apO (fun o => fHad tp to had j (nI o)) OU &&& apO f OU) ∧ cst j = (bcI (care (tp j).toNatClampNeg) + bcI (to j))) (h0 : ex = 0 → ∃ nq, nq ≤ 32 ∧ qEnd pts cst K ap nq ∧ F = qR pts cst K ap nq nq) (h2 : ¬ ex = 0 → isOpt (cC N OU Z can) pts ap K F) : KF N OU Z on can ex F := by
  have hn := pS_le48 (can := can) hN hZ hOU
  have hap2 : ap = apO on OU := hap.trans (apO_cong OU hf)
  have hp2 := hp
  obtain ⟨hK, _⟩ := hp2
  have e1 : ∀ k, k < (pS N OU Z can Z).1 → pts k = cT N OU Z on can k := fun k hk => (hr k (by rw [hK]; exact hk)).1.trans (ak_eq hth hN hZ h1 hOU hlo hf hp (by rw [hK]; exact hk))
  have e2 : ∀ k, k < (pS N OU Z can Z).1 → cst k = nI (cC N OU Z can k) := fun k hk => (hr k (by rw [hK]; exact hk)).2.trans (ck_eq htb hN hZ hOU hp (by rw [hK]; exact hk)).1
  rw [hK] at h0 h2
  refine KF_find hn hap2 e1 e2 (fun e he hb => ?_) (fun k hk => ?_) h0 h2
  · rw [hap2] at hb
    obtain ⟨k, hk, h⟩ := hcv e he hb
    exact ⟨k, hk, by rw [e1 k hk]; exact h⟩
  · rw [(hr k (by rw [hK]; exact hk)).1, hap]
    exact (nb0 _ _).mpr (fun e he hb => by rw [b_and, Bool.and_eq_true] at hb; exact hb.2)
theorem KK_of {ex : Int32} {F : Int64} {kp ko : Nat → Int32} (hp : isPr N OU Z can K tp to) (hn : K ≤ 48) (hF : KF N OU Z on can ex F) : KK N OU Z on can ex (stT tp to kp ko F K).1 (stT tp to kp ko F K).2.1 (stT tp to kp ko F K).2.2 := by
  obtain ⟨hK, h⟩ := hp
  have hs := stT_en (op := tp) (oo := to) (tp := kp) (to := ko) (F := F) K (by omega)
  refine ⟨F, hF, by rw [← hK]; exact hs.1, fun t ht => ?_⟩
  rw [hs.1] at ht
  obtain ⟨a, b⟩ := hs.2 t ht
  have hlt := (enS_ok F K).1.1 t ht
  obtain ⟨x, y⟩ := h _ hlt
  rw [a, b, x, y, ← hK]
  exact ⟨rfl, rfl⟩
/-- the reference's rows, in the common ones -/
theorem ref_rows {pp po pc pt : Nat → Int32} (hN : N ≤ 4) (hZ : 3 ^ N = Z) (hOU : OU ≤ 2) : (stF N OU Z on can (0, pp, po, pc, pt) Z).1 = (pS N OU Z can Z).1 ∧ ∀ k, k < (pS N OU Z can Z).1 → (stF N OU Z on can (0, pp, po, pc, pt) Z).2.1 k = (pS N OU Z can Z).2.1 k ∧ (stF N OU Z on can (0, pp, po, pc, pt) Z).2.2.1 k = (pS N OU Z can Z).2.2 k ∧ (stF N OU Z on can (0, pp, po, pc, pt) Z).2.2.2.1 k = nI (cC N OU Z can k) ∧ cC N OU Z can k ≤ 6 ∧ (stF N OU Z on can (0, pp, po, pc, pt) Z).2.2.2.2 k = cT N OU Z on can k := by
  have h := stF_pS (on := on) (can := can) (N := N) (OU := OU) (Z := Z) (pp := pp) (po := po) (pc := pc) (pt := pt) Z
  have h8 := p3_81 hN
  refine ⟨h.1, fun k hk => ?_⟩
  obtain ⟨q, hq, e1, e2, e3, e4⟩ := stF_q (on := on) (can := can) (N := N) (OU := OU) (Z := Z) (pp := pp) (po := po) (pc := pc) (pt := pt) Z (by omega) k (by rw [h.1]; exact hk)
  obtain ⟨s, hs, e5⟩ := oP_4 (N := N) (p := q) (can := can) hOU
  have hc := co_p hN (show q < 3 ^ N by omega) hs
  have g1 := (h.2 k hk).1
  have g2 := (h.2 k hk).2
  refine ⟨g1, g2, ?_, ?_, ?_⟩
  · unfold cC
    rw [← g1, ← g2, e1, e2, nI_clamp (by omega), e3, e5]; exact hc.2.1
  · unfold cC
    rw [← g1, ← g2, e1, e2, nI_clamp (by omega), e5]; exact hc.2.2
  · unfold cT
    rw [← g1, e1, nI_clamp (by omega), e4]
theorem tP_sub {q : Nat} (hN : N ≤ 4) (h1 : 1 ≤ OU) (hOU : OU ≤ 2) (hlo : ∀ o, o < 2 → lo16 (on o)) : tP N OU on can q &&& (apO on OU ^^^ (-1)) = 0 := by
  rw [← pt_tie hN h1 hOU hlo]
  exact (nb0 _ _).mpr (fun e he hb => by rw [b_and, Bool.and_eq_true] at hb; exact hb.2)
theorem KF_ref {pp po pc pt : Nat → Int32} {ex : Int32} {F : Int64} (hN : N ≤ 4) (hZ : 3 ^ N = Z) (h1 : 1 ≤ OU) (hOU : OU ≤ 2) (hlo : ∀ o, o < 2 → lo16 (on o)) (hcv : ∀ e, e < 32 → bt (wnt OU on) e = true → ∃ k, k < (stF N OU Z on can (0, pp, po, pc, pt) Z).1 ∧ bt ((stF N OU Z on can (0, pp, po, pc, pt) Z).2.2.2.2 k) e = true) (h0 : ex = 0 → ∃ nq, nq ≤ 32 ∧ qEnd (stF N OU Z on can (0, pp, po, pc, pt) Z).2.2.2.2 (stF N OU Z on can (0, pp, po, pc, pt) Z).2.2.2.1 (stF N OU Z on can (0, pp, po, pc, pt) Z).1 (wnt OU on) nq ∧ F = qR (stF N OU Z on can (0, pp, po, pc, pt) Z).2.2.2.2 (stF N OU Z on can (0, pp, po, pc, pt) Z).2.2.2.1 (stF N OU Z on can (0, pp, po, pc, pt) Z).1 (wnt OU on) nq nq) (h2 : ¬ ex = 0 → isOpt (cC N OU Z can) (stF N OU Z on can (0, pp, po, pc, pt) Z).2.2.2.2 (wnt OU on) (stF N OU Z on can (0, pp, po, pc, pt) Z).1 F) : KF N OU Z on can ex F := by
  have hr := ref_rows (on := on) (can := can) (N := N) (OU := OU) (Z := Z) (pp := pp) (po := po) (pc := pc) (pt := pt) hN hZ hOU
  rw [hr.1] at hcv h0 h2
  exact KF_find (pS_le48 hN hZ hOU) (wnt_ap h1 hOU) (fun k hk => (hr.2 k hk).2.2.2.2) (fun k hk => (hr.2 k hk).2.2.1) hcv (fun k hk => by rw [(hr.2 k hk).2.2.2.2, wnt_ap h1 hOU]; exact tP_sub hN h1 hOU hlo) h0 h2
theorem KK_ref {pp po pc pt : Nat → Int32} {ex : Int32} {F : Int64} {TK : Nat} {kp ko : Nat → Int32} (hN : N ≤ 4) (hZ : 3 ^ N = Z) (hOU : OU ≤ 2) (hF : KF N OU Z on can ex F) (hT : TK = (enS F (stF N OU Z on can (0, pp, po, pc, pt) Z).1).1) (h : ∀ t, t < TK → kp t = (stF N OU Z on can (0, pp, po, pc, pt) Z).2.1 ((enS F (stF N OU Z on can (0, pp, po, pc, pt) Z).1).2 t) ∧ ko t = (stF N OU Z on can (0, pp, po, pc, pt) Z).2.2.1 ((enS F (stF N OU Z on can (0, pp, po, pc, pt) Z).1).2 t)) : KK N OU Z on can ex TK kp ko := by
  have hr := ref_rows (on := on) (can := can) (N := N) (OU := OU) (Z := Z) (pp := pp) (po := po) (pc := pc) (pt := pt) hN hZ hOU
  rw [hr.1] at hT h
  refine ⟨F, hF, hT, fun t ht => ?_⟩
  have hlt := (enS_ok F (pS N OU Z can Z).1).1.1 t (by rw [← hT]; exact ht)
  obtain ⟨a, b⟩ := h t ht
  rw [a, b, (hr.2 _ hlt).1, (hr.2 _ hlt).2.1]
  exact ⟨rfl, rfl⟩
theorem cvC {dg : Nat → Nat} {kd : Nat → Int32} (hN : N ≤ 4) (hOU : OU ≤ 2) (hO1 : 1 ≤ OU) (hZ : 3 ^ N = Z) (hdg : ∀ j, dg j ≤ 2) : ∀ e, e < 32 → bt (apO (fun o => kOn N dg kd o M) OU) e = true → ∃ k, k < (pS N OU Z (fun o => kCan N dg kd o M) Z).1 ∧ bt (cT N OU Z (fun o => kOn N dg kd o M) (fun o => kCan N dg kd o M) k) e = true := by
  have hc := cov_ok (N := N) (OU := OU) (Z := Z) (M := M) (dg := dg) (kd := kd) (on := fun _ => 0) (can := fun _ => 0) (x := (0, (fun _ => 0), (fun _ => 0), (fun _ => 0), (fun _ => 0))) hN hOU hO1 hZ hdg
  have hr := ref_rows (on := sOn N dg kd M (fun _ => 0) 2) (can := sCan N dg kd M (fun _ => 0) 2) (N := N) (OU := OU) (Z := Z) (pp := fun _ => 0) (po := fun _ => 0) (pc := fun _ => 0) (pt := fun _ => 0) hN hZ hOU
  have e1 : ∀ o, o < 2 → sOn N dg kd M (fun _ => 0) 2 o = kOn N dg kd o M := fun o ho => sOn_o 2 ho
  have e2 : ∀ o, o < OU → sCan N dg kd M (fun _ => 0) 2 o = kCan N dg kd o M := fun o ho => sCan_o 2 (by omega)
  intro e he hb
  rw [← apO_cong OU (f := sOn N dg kd M (fun _ => 0) 2) (fun o ho => e1 o (by omega)), ← wnt_ap hO1 hOU] at hb
  obtain ⟨k, hk, h⟩ := hc e he hb
  rw [hr.1] at hk
  rw [(hr.2 k hk).2.2.2.2] at h
  refine ⟨k, by rw [← pS_cong e2]; exact hk, ?_⟩
  rw [← cT_cong (on2 := fun o => kOn N dg kd o M) (can2 := fun o => kCan N dg kd o M) e1 e2]; exact h
theorem lo_on {dg : Nat → Nat} {kd on0 : Nat → Int32} (hN : N ≤ 4) : ∀ o, o < 2 → lo16 (sOn N dg kd M on0 2 o) := fun o ho => by rw [sOn_o 2 (by omega), kOn_kW]; exact lo_kW hN M
theorem lo_k {dg : Nat → Nat} {kd : Nat → Int32} (hN : N ≤ 4) : ∀ o, o < 2 → lo16 (kOn N dg kd o M) := fun o _ => by rw [kOn_kW]; exact lo_kW hN M
end RN2
