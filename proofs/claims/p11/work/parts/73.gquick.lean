/-! ===== the reference: quick ===== -/
def qTop (pt : Nat → Int32) (had : Int32) (i : Nat) (tp : Int32) : Prop := (tp = -1 ∧ ∀ k, k < i → pt k &&& (had ^^^ (-1)) = 0) ∨ ∃ k, k < i ∧ tp = nI k ∧ ¬ pt k &&& (had ^^^ (-1)) = 0
theorem qT_0 (pt : Nat → Int32) (had : Int32) : qTop pt had 0 (-1) := Or.inl ⟨rfl, fun k hk => absurd hk (Nat.not_lt_zero k)⟩
theorem qT_b {pt : Nat → Int32} {had : Int32} {i : Nat} (h : ¬ pt i &&& (had ^^^ (-1)) = 0) : qTop pt had (i + 1) (nI i) := Or.inr ⟨i, Nat.lt_succ_self i, rfl, h⟩
theorem nI_nn {k : Nat} (h : k < 2 ^ 31) : (0 : Int32) ≤ nI k := (nI_leI (a := 0) (b := k) (by omega) h).mpr (Nat.zero_le k)
theorem qT_k1 {pt : Nat → Int32} {had tp : Int32} {i : Nat} (h : qTop pt had i tp) (hi : i ≤ 81) (ht : tp < 0) (h0 : pt i &&& (had ^^^ (-1)) = 0) : qTop pt had (i + 1) tp := by
  rcases h with ⟨h1, h2⟩ | ⟨k, hk, rfl, h2⟩
  · refine Or.inl ⟨h1, fun k hk => ?_⟩
    by_cases hE : k = i
    · subst hE; exact h0
    · exact h2 k (by omega)
  · exact absurd ht (Int32.not_lt.mpr (nI_nn (by omega)))
theorem qT_k2 {pt : Nat → Int32} {had tp : Int32} {i : Nat} (h : qTop pt had i tp) (ht : 0 ≤ tp) : qTop pt had (i + 1) tp := by
  rcases h with ⟨h1, h2⟩ | ⟨k, hk, h1, h2⟩
  · rw [h1] at ht; exact absurd ht (by decide)
  · exact Or.inr ⟨k, by omega, h1, h2⟩
theorem qT_in {pt : Nat → Int32} {had tp : Int32} {i : Nat} (h : qTop pt had i tp) (ht : 0 ≤ tp) (hi : i ≤ 81) : vp_in tp 81 ∧ ¬ pt tp.toNatClampNeg &&& (had ^^^ (-1)) = 0 := by
  rcases h with ⟨h1, h2⟩ | ⟨k, hk, rfl, h2⟩
  · rw [h1] at ht; exact absurd ht (by decide)
  · exact ⟨vp_in_nI (by omega) (by omega), by rw [nI_clamp (by omega)]; exact h2⟩
theorem qT_end {pt : Nat → Int32} {had tp wt : Int32} {PK : Nat} (h : qTop pt had PK tp) (hcov : ∀ e, e < 32 → bt wt e = true → ∃ k, k < PK ∧ bt (pt k) e = true) (ho : ¬ wt &&& (had ^^^ (-1)) = 0) : ∃ k, k < PK ∧ tp = nI k ∧ ¬ pt k &&& (had ^^^ (-1)) = 0 := by
  rcases h with ⟨h1, h2⟩ | h
  · obtain ⟨e, he, hw, hh⟩ := open_bit ho
    obtain ⟨k, hk, hb⟩ := hcov e he hw
    exact absurd (h2 k hk) (bit_open he hb hh)
  · exact h
theorem q_zc {x had : Int32} (h : ¬ x &&& (had ^^^ (-1)) = 0) : zc (had ||| x) < zc had := by
  obtain ⟨e, he, hx, hh⟩ := open_bit h
  exact zc_lt he hh hx
theorem q_ext {cv : Nat → Int32} {n PK k : Nat} (h : ∀ t, t < n → ∃ c, c < PK ∧ cv t = nI c) (hk : k < PK) : ∀ t, t < n + 1 → ∃ c, c < PK ∧ upd cv n (nI k) t = nI c := by
  intro t ht
  by_cases hE : t = n
  · subst hE; exact ⟨k, hk, pk_us⟩
  · obtain ⟨c, h1, h2⟩ := h t (by omega)
    exact ⟨c, h1, by rw [pk_un hE]; exact h2⟩
def qOK (PK : Nat) (v : Int32) : Prop := v = -1 ∨ ∃ c, c < PK ∧ v = nI c
theorem q_in {PK : Nat} {v : Int32} (h : qOK PK v) (hv : 0 ≤ v) (hPK : PK ≤ 81) : vp_in v 81 := by
  rcases h with h | ⟨c, hc, rfl⟩
  · rw [h] at hv; exact absurd hv (by decide)
  · exact vp_in_nI (by omega) (by omega)
theorem q_upd {PK n k : Nat} {cv : Nat → Int32} {v : Int32} (h : ∀ t, t < n → qOK PK (cv t)) (hv : qOK PK v) : ∀ t, t < n → qOK PK (upd cv k v t) := by
  intro t ht
  by_cases hE : t = k
  · subst hE; rw [pk_us]; exact hv
  · rw [pk_un hE]; exact h t ht
theorem dwn_t {i n : Nat} (h : i ≤ n) (hn : n < 2 ^ 31) (c : nI (n - i) - 1 < 0) : i = n := by
  apply Classical.byContradiction
  intro hne
  rw [show n - i = (n - i - 1) + 1 by omega, nI_pred] at c
  exact absurd c (Int32.not_lt.mpr (nI_nn (by omega)))
theorem dwn_f {i n : Nat} (h : i ≤ n) (c : ¬ nI (n - i) - 1 < 0) : i < n := by
  apply Classical.byContradiction
  intro hne
  rw [show n - i = 0 by omega] at c
  exact c (by decide)
theorem dwn_e {i n : Nat} (h : i < n) : nI (n - i) - 1 = nI (n - i - 1) := by rw [show n - i = (n - i - 1) + 1 by omega, nI_pred]; rfl
theorem dwn_s {i n : Nat} (h : i < n) : nI (n - i - 1) + (-1) = nI (n - (i + 1)) - 1 := by rw [show n - (i + 1) = n - i - 1 by omega]; exact (Int32.sub_eq_add_neg _ _).symm
def qlt (cv : Nat → Int32) (i k : Nat) : Bool := decide (0 ≤ cv k ∧ cv k < nI i)
def qeq (cv : Nat → Int32) (i k : Nat) : Bool := decide (cv k = nI i)
theorem q_split (cv : Nat → Int32) {i : Nat} (hi : i < 81) (n : Nat) : cnt (qlt cv (i + 1)) n = cnt (qlt cv i) n + cnt (qeq cv i) n := by
  refine cnt_add (fun k => ?_) (fun k h => ?_) n
  · unfold qlt qeq
    by_cases h0 : 0 ≤ cv k
    · obtain ⟨j, hj, hc⟩ := nI_of (x := cv k) (Int32.not_lt.mpr h0)
      rw [hc]
      have a1 : (nI j < nI (i + 1)) ↔ j < i + 1 := nI_ltI hj (by omega)
      have a2 : (nI j < nI i) ↔ j < i := nI_ltI hj (by omega)
      have a3 : (nI j = nI i) ↔ j = i := nI_eq hj (by omega)
      rw [hc] at h0
      rw [Bool.eq_iff_iff, Bool.or_eq_true, decide_eq_true_eq, decide_eq_true_eq, decide_eq_true_eq, a1, a2, a3]
      constructor
      · intro h; by_cases hE : j = i
        · exact Or.inr hE
        · exact Or.inl ⟨h0, by omega⟩
      · rintro (h | h)
        · exact ⟨h0, by omega⟩
        · exact ⟨h0, by omega⟩
    · rw [decide_eq_false (fun h => h0 h.1), decide_eq_false (fun h => h0 h.1), decide_eq_false (fun h => h0 (by rw [h]; exact nI_nn (by omega)))]
      rfl
  · unfold qlt at h
    unfold qeq
    have h2 := (decide_eq_true_eq.mp h).2
    exact decide_eq_false (fun hE => by rw [hE] at h2; exact Int32.lt_irrefl h2)
theorem q_mn {cv : Nat → Int32} {n i k : Nat} (hi : i < 81) (hk : k < n) (hn : n ≤ 32) (h : cv k = nI i) : cnt (qlt cv i) n + cnt (qeq cv i) k < 32 := by
  have h1 := q_split cv hi n
  have h2 := cnt_le (qlt cv (i + 1)) n
  have h3 : cnt (qeq cv i) (k + 1) ≤ cnt (qeq cv i) n := cnt_mono _ (by omega)
  rw [cnt_s, if_pos (show qeq cv i k = true from decide_eq_true h)] at h3
  omega
set_option maxHeartbeats 1000000 in
set_option maxRecDepth 100000 in
theorem lg_Ref_quick0 {p : Program} {e : Env} {s : State} {m : MethodId} {args : Array Value} {below : List Frame} {meth : Method} {c : Code} {Q : State → Prop} (l : Launch) (dC : Nat → ClassId) (dI : Nat → Nat → Nat) (cI cJ : ClassId) (r0 : Nat) (th : Int32) (N : Nat) (OU : Nat) (Z : Nat) (r1 : Nat) (r2 : Nat) (M : Nat) (r3 : Nat) (r4 : Nat) (r5 : Nat) (r6 : Nat) (r7 : Nat) (r8 : Nat) (PK : Nat) (r9 : Nat) (kp : Int32) (r10 : Nat) (r11 : Nat) (TK : Nat) (r12 : Nat) (qc : Int32) (r13 : Nat) (r14 : Nat) (bst : Int32) (r15 : Nat) (pc : Nat → Int32) (pt : Nat → Int32) (ch : Nat → Int32) (be : Nat → Int32) (wt : Int32) (hPK : PK ≤ 81) (hcov : ∀ e, e < 32 → bt wt e = true → ∃ k, k < PK ∧ bt (pt k) e = true) (n : Nat) (had : Int32) (cv : Nat → Int32)  (hx : p.tables.exec = Jvm.exec) (hb : c.code = b_Ref_quick) (hts : ∀ w ∈ lwg, w.before args s = true) (hown : s.vm.findClass R_Ref = some m.cls) (hml : c.maxLocals = 9) (hK : va_K (dC, dI) classes [(cI, .int), (cJ, .long)] s) {A : Nat → Prop} (hA : ∀ q : Nat, s.heap.size ≤ q → A q) (kk : ∀ (tp : Int32), (qTop pt had PK tp) → ∀ (H : Heap) (locs : List Loc) (ls : Array Slot), va_P (dC, dI) classes [(r0, .inr (8, [.int th, .int ((nI N)), .int ((nI OU)), .int ((nI Z)), .ref r1, .ref r2, .int ((nI M)), .ref r3, .ref r4, .ref r5, .ref r6, .ref r7, .ref r8, .int ((nI PK)), .ref r9, .int kp, .ref r10, .ref r11, .int ((nI TK)), .ref r12, .int qc, .ref r13, .ref r14, .int bst, .ref r15])), (r7, .inl (cI, 81, .inl pc)), (r8, .inl (cI, 81, .inl pt)), (r13, .inl (cI, 82, .inl cv)), (r14, .inl (cI, 82, .inl be))] H → va_D A [(r0, .inr (8, [.int th, .int ((nI N)), .int ((nI OU)), .int ((nI Z)), .ref r1, .ref r2, .int ((nI M)), .ref r3, .ref r4, .ref r5, .ref r6, .ref r7, .ref r8, .int ((nI PK)), .ref r9, .int kp, .ref r10, .ref r11, .int ((nI TK)), .ref r12, .int qc, .ref r13, .ref r14, .int bst, .ref r15])), (r7, .inl (cI, 81, .inl pc)), (r8, .inl (cI, 81, .inl pt)), (r13, .inl (cI, 82, .inl cv)), (r14, .inl (cI, 82, .inl be))] → va_S A s.heap H locs → lv_has ls 9 [(0, .ref r0), (1, .int wt), (2, .int ((nI n))), (3, .int had), (4, .int tp)] → W p l e ({ frames := 1, cells := 0, slots := 0, locals := 22 } : Room) s m args below meth c H locs 0 0 Q (F0 m 131 ls [])) : ∀ (fu : Nat) (i : Nat) (tp : Int32), PK - i < fu → (i ≤ PK ∧ qTop pt had i tp) → ∀ (H : Heap) (locs : List Loc) (ls : Array Slot), va_P (dC, dI) classes [(r0, .inr (8, [.int th, .int ((nI N)), .int ((nI OU)), .int ((nI Z)), .ref r1, .ref r2, .int ((nI M)), .ref r3, .ref r4, .ref r5, .ref r6, .ref r7, .ref r8, .int ((nI PK)), .ref r9, .int kp, .ref r10, .ref r11, .int ((nI TK)), .ref r12, .int qc, .ref r13, .ref r14, .int bst, .ref r15])), (r7, .inl (cI, 81, .inl pc)), (r8, .inl (cI, 81, .inl pt)), (r13, .inl (cI, 82, .inl cv)), (r14, .inl (cI, 82, .inl be))] H → va_D A [(r0, .inr (8, [.int th, .int ((nI N)), .int ((nI OU)), .int ((nI Z)), .ref r1, .ref r2, .int ((nI M)), .ref r3, .ref r4, .ref r5, .ref r6, .ref r7, .ref r8, .int ((nI PK)), .ref r9, .int kp, .ref r10, .ref r11, .int ((nI TK)), .ref r12, .int qc, .ref r13, .ref r14, .int bst, .ref r15])), (r7, .inl (cI, 81, .inl pc)), (r8, .inl (cI, 81, .inl pt)), (r13, .inl (cI, 82, .inl cv)), (r14, .inl (cI, 82, .inl be))] → va_S A s.heap H locs → lv_has ls 9 [(0, .ref r0), (1, .int wt), (2, .int ((nI n))), (3, .int had), (4, .int tp), (5, .int ((nI i)))] → W p l e ({ frames := 1, cells := 0, slots := 0, locals := 22 } : Room) s m args below meth c H locs 0 0 Q (F0 m 18 ls []) := by
  intro fu
  induction fu with
  | zero => intro i tp h; exact absurd h (Nat.not_lt_zero _)
  | succ fu ih =>
    intro i tp hmu hI H locs ls hP hD hS hl
    have hI1 := hI.1
    refine lv_iload hx hb d_Ref_quick_18 (lv_at hl 5 rfl) ?_
    refine lv_aload_n hx hb d_Ref_quick_20 rfl (lv_at hl 0 rfl) ?_
    refine va_get (D := (dC, dI)) (ci := 8) (v := .int ((nI PK))) (C := R_Ref) (T := F_Ref) (N := 25) hx hb hts i_Ref hown hK hP 0 rfl rfl 13 (by decide) (hts _ mw_fl_Ref_82) (fun _ h9 => h9) rfl d_Ref_quick_21 ?_
    refine lv_icmp_ge (tgt := 131) hx hb d_Ref_quick_24 (by decide) (fun c_24 => ?_) (fun c_24 => ?_)
    · exact kk tp ((show i = PK from Nat.le_antisymm hI.1 ((nI_leI (a := PK) (b := i) (by omega) (by omega)).mp c_24)) ▸ hI.2) _ _ ls (hP.sub [0, 1, 2, 3, 4] rfl) (hD.sub [0, 1, 2, 3, 4] (by decide) rfl) hS (lv_sub hl [0, 1, 2, 3, 4] rfl)
    · have hlt : i < PK := Nat.lt_of_not_le (fun h => c_24 ((nI_leI (a := PK) (b := i) (by omega) (by omega)).mpr h))
      refine lv_aload_n hx hb d_Ref_quick_27 rfl (lv_at hl 0 rfl) ?_
      refine va_get (D := (dC, dI)) (ci := 8) (v := .ref r8) (C := R_Ref) (T := F_Ref) (N := 25) hx hb hts i_Ref hown hK hP 0 rfl rfl 12 (by decide) (hts _ mw_fl_Ref_31) (fun _ h9 => h9) rfl d_Ref_quick_28 ?_
      refine lv_iload hx hb d_Ref_quick_31 (lv_at hl 5 rfl) ?_
      refine va_iald hx hb hK hP 2 0 rfl rfl (vp_in_nI (show i < 81 by omega) (by omega)) d_Ref_quick_33 ?_
      refine w_ti (show _ = pt i from by rw [nI_clamp (by omega)]) ?_
      refine lv_iload_n hx hb d_Ref_quick_34 rfl (lv_at hl 3 rfl) ?_
      refine lv_iconst (v := (-1)) hx hb d_Ref_quick_35 (by decide) ?_
      refine lv_ixor hx hb d_Ref_quick_36 ?_
      refine lv_iand hx hb d_Ref_quick_37 ?_
      refine vp_callSi (W.runS (As := [.int (((pt i) &&& (had ^^^ (-1))))]) (rest := []) ⟨hx, hb, hml, hown, hts⟩ (c_Ref_ones l dC dI cI cJ ((pt i) &&& (had ^^^ (-1))) ) (va_cwS 1 hts (ct_goodT mw_ml_Ref_101 mw_st_Ref_ones mw_ini_Ref mw_code_Ref_ones) rfl rfl rfl (by decide +kernel) ⟨Nat.le_of_ble_eq_true rfl, Nat.le_of_ble_eq_true rfl⟩) ⟨fun a U g mk q => by obtain ⟨q0, qP, qK⟩ := q; exact ⟨q0, qP, va_K.moved (u := U) (U := U.calling g mk a) (Vm.Alike.refl U.vm) qK⟩, fun U hU hW => ⟨rfl, by rw [hU]; exact (fun k q h => by simp at h), va_K.moved hW.alike hK⟩⟩ rfl rfl hl.1 rfl (lv_room (Nat.le_of_ble_eq_true rfl)) d_Ref_quick_38 ⟨Nat.le_of_ble_eq_true rfl, Nat.le_of_ble_eq_true rfl⟩) (fun r_1 hr_1 => ?_)
      rw [hr_1]
      clear hr_1
      refine lv_istore (lv' := [(6, .int ((rOnes ((pt i) &&& (had ^^^ (-1))) 32))), (0, .ref r0), (1, .int wt), (2, .int ((nI n))), (3, .int had), (4, .int tp), (5, .int ((nI i)))]) hx hb d_Ref_quick_41 hl (by decide) rfl (fun ls hl => ?_)
      refine lv_iload hx hb d_Ref_quick_43 (lv_at hl 5 rfl) ?_
      refine lv_if_ge (tgt := 52) hx hb d_Ref_quick_45 (by decide) (fun c_45 => ?_) (fun c_45 => ?_)
      · obtain ⟨hin, hnz⟩ := qT_in hI.2 c_45 (by omega)
        refine lv_aload_n hx hb d_Ref_quick_52 rfl (lv_at hl 1 rfl) ?_
        refine va_get (D := (dC, dI)) (ci := 8) (v := .ref r8) (C := R_Ref) (T := F_Ref) (N := 25) hx hb hts i_Ref hown hK hP 0 rfl rfl 12 (by decide) (hts _ mw_fl_Ref_31) (fun _ h9 => h9) rfl d_Ref_quick_53 ?_
        refine lv_iload hx hb d_Ref_quick_56 (lv_at hl 5 rfl) ?_
        refine va_iald hx hb hK hP 2 0 rfl rfl hin d_Ref_quick_58 ?_
        refine lv_iload_n hx hb d_Ref_quick_59 rfl (lv_at hl 4 rfl) ?_
        refine lv_iconst (v := (-1)) hx hb d_Ref_quick_60 (by decide) ?_
        refine lv_ixor hx hb d_Ref_quick_61 ?_
        refine lv_iand hx hb d_Ref_quick_62 ?_
        refine vp_callSi (W.runS (As := [.int (((pt tp.toNatClampNeg) &&& (had ^^^ (-1))))]) (rest := []) ⟨hx, hb, hml, hown, hts⟩ (c_Ref_ones l dC dI cI cJ ((pt tp.toNatClampNeg) &&& (had ^^^ (-1))) ) (va_cwS 1 hts (ct_goodT mw_ml_Ref_101 mw_st_Ref_ones mw_ini_Ref mw_code_Ref_ones) rfl rfl rfl (by decide +kernel) ⟨Nat.le_of_ble_eq_true rfl, Nat.le_of_ble_eq_true rfl⟩) ⟨fun a U g mk q => by obtain ⟨q0, qP, qK⟩ := q; exact ⟨q0, qP, va_K.moved (u := U) (U := U.calling g mk a) (Vm.Alike.refl U.vm) qK⟩, fun U hU hW => ⟨rfl, by rw [hU]; exact (fun k q h => by simp at h), va_K.moved hW.alike hK⟩⟩ rfl rfl hl.1 rfl (lv_room (Nat.le_of_ble_eq_true rfl)) d_Ref_quick_63 ⟨Nat.le_of_ble_eq_true rfl, Nat.le_of_ble_eq_true rfl⟩) (fun r_2 hr_2 => ?_)
        rw [hr_2]
        clear hr_2
        refine lv_istore (lv' := [(7, .int ((rOnes ((pt tp.toNatClampNeg) &&& (had ^^^ (-1))) 32))), (6, .int ((rOnes ((pt i) &&& (had ^^^ (-1))) 32))), (0, .ref r0), (1, .int wt), (2, .int ((nI n))), (3, .int had), (4, .int tp), (5, .int ((nI i)))]) hx hb d_Ref_quick_66 hl (by decide) rfl (fun ls hl => ?_)
        refine lv_iload hx hb d_Ref_quick_68 (lv_at hl 1 rfl) ?_
        refine lv_iload hx hb d_Ref_quick_70 (lv_at hl 0 rfl) ?_
        refine lv_icmp_gt (tgt := 104) hx hb d_Ref_quick_72 (by decide) (fun c_72 => ?_) (fun c_72 => ?_)
        · refine lv_iconst (v := 1) hx hb d_Ref_quick_104 (by decide) ?_
          refine lv_goto (tgt := 109) hx hb d_Ref_quick_105 (by decide) ?_
          refine lv_istore (lv' := [(8, .int 1), (7, .int ((rOnes ((pt tp.toNatClampNeg) &&& (had ^^^ (-1))) 32))), (6, .int ((rOnes ((pt i) &&& (had ^^^ (-1))) 32))), (0, .ref r0), (1, .int wt), (2, .int ((nI n))), (3, .int had), (4, .int tp), (5, .int ((nI i)))]) hx hb d_Ref_quick_109 hl (by decide) rfl (fun ls hl => ?_)
          refine lv_iload hx hb d_Ref_quick_111 (lv_at hl 0 rfl) ?_
          refine lv_if_eq (tgt := 121) hx hb d_Ref_quick_113 (by decide) (fun c_113 => ?_) (fun c_113 => ?_)
          · exact absurd c_113 (by decide +kernel)
          · refine lv_iload hx hb d_Ref_quick_116 (lv_at hl 8 rfl) ?_
            refine lv_goto (tgt := 123) hx hb d_Ref_quick_118 (by decide) ?_
            refine lv_istore (lv' := [(4, .int ((nI i))), (8, .int 1), (7, .int ((rOnes ((pt tp.toNatClampNeg) &&& (had ^^^ (-1))) 32))), (6, .int ((rOnes ((pt i) &&& (had ^^^ (-1))) 32))), (0, .ref r0), (1, .int wt), (2, .int ((nI n))), (3, .int had), (5, .int ((nI i)))]) hx hb d_Ref_quick_123 hl (by decide) rfl (fun ls hl => ?_)
            refine lv_iinc (v := (nI (i + 1))) (lv' := [(5, .int ((nI (i + 1)))), (4, .int ((nI i))), (8, .int 1), (7, .int ((rOnes ((pt tp.toNatClampNeg) &&& (had ^^^ (-1))) 32))), (6, .int ((rOnes ((pt i) &&& (had ^^^ (-1))) 32))), (0, .ref r0), (1, .int wt), (2, .int ((nI n))), (3, .int had)]) hx hb d_Ref_quick_125 hl (k := 8) rfl (show nI i + 1 = nI (i + 1) from nI_1 _) (by decide) rfl (fun ls hl => ?_)
            refine lv_goto (tgt := 18) hx hb d_Ref_quick_128 (by decide) ?_
            exact ih ((i + 1)) ((nI i)) (by omega) (⟨by omega, qT_b (on_lt c_72)⟩) _ _ ls (hP.sub [0, 1, 2, 3, 4] rfl) (hD.sub [0, 1, 2, 3, 4] (by decide) rfl) hS (lv_sub hl [5, 6, 7, 8, 1, 0] rfl)
        · refine lv_iload hx hb d_Ref_quick_75 (lv_at hl 6 rfl) ?_
          refine lv_if_lt (tgt := 108) hx hb d_Ref_quick_77 (by decide) (fun c_77 => ?_) (fun c_77 => ?_)
          · exact absurd c_45 (Int32.not_le.mpr c_77)
          · refine lv_iload hx hb d_Ref_quick_80 (lv_at hl 1 rfl) ?_
            refine lv_iload hx hb d_Ref_quick_82 (lv_at hl 0 rfl) ?_
            refine lv_icmp_ne (tgt := 108) hx hb d_Ref_quick_84 (by decide) (fun c_84 => ?_) (fun c_84 => ?_)
            · refine lv_iconst (v := 0) hx hb d_Ref_quick_108 (by decide) ?_
              refine lv_istore (lv' := [(8, .int 0), (7, .int ((rOnes ((pt tp.toNatClampNeg) &&& (had ^^^ (-1))) 32))), (6, .int ((rOnes ((pt i) &&& (had ^^^ (-1))) 32))), (0, .ref r0), (1, .int wt), (2, .int ((nI n))), (3, .int had), (4, .int tp), (5, .int ((nI i)))]) hx hb d_Ref_quick_109 hl (by decide) rfl (fun ls hl => ?_)
              refine lv_iload hx hb d_Ref_quick_111 (lv_at hl 0 rfl) ?_
              refine lv_if_eq (tgt := 121) hx hb d_Ref_quick_113 (by decide) (fun c_113 => ?_) (fun c_113 => ?_)
              · refine lv_iload hx hb d_Ref_quick_121 (lv_at hl 7 rfl) ?_
                refine lv_istore (lv' := [(4, .int tp), (8, .int 0), (7, .int ((rOnes ((pt tp.toNatClampNeg) &&& (had ^^^ (-1))) 32))), (6, .int ((rOnes ((pt i) &&& (had ^^^ (-1))) 32))), (0, .ref r0), (1, .int wt), (2, .int ((nI n))), (3, .int had), (5, .int ((nI i)))]) hx hb d_Ref_quick_123 hl (by decide) rfl (fun ls hl => ?_)
                refine lv_iinc (v := (nI (i + 1))) (lv' := [(5, .int ((nI (i + 1)))), (4, .int tp), (8, .int 0), (7, .int ((rOnes ((pt tp.toNatClampNeg) &&& (had ^^^ (-1))) 32))), (6, .int ((rOnes ((pt i) &&& (had ^^^ (-1))) 32))), (0, .ref r0), (1, .int wt), (2, .int ((nI n))), (3, .int had)]) hx hb d_Ref_quick_125 hl (k := 8) rfl (show nI i + 1 = nI (i + 1) from nI_1 _) (by decide) rfl (fun ls hl => ?_)
                refine lv_goto (tgt := 18) hx hb d_Ref_quick_128 (by decide) ?_
                exact ih ((i + 1)) tp (by omega) (⟨by omega, qT_k2 hI.2 c_45⟩) _ _ ls (hP.sub [0, 1, 2, 3, 4] rfl) (hD.sub [0, 1, 2, 3, 4] (by decide) rfl) hS (lv_sub hl [5, 6, 7, 8, 1, 0] rfl)
              · exact absurd c_113 (by decide +kernel)
            · refine lv_aload_n hx hb d_Ref_quick_87 rfl (lv_at hl 2 rfl) ?_
              refine va_get (D := (dC, dI)) (ci := 8) (v := .ref r7) (C := R_Ref) (T := F_Ref) (N := 25) hx hb hts i_Ref hown hK hP 0 rfl rfl 11 (by decide) (hts _ mw_fl_Ref_28) (fun _ h9 => h9) rfl d_Ref_quick_88 ?_
              refine lv_iload hx hb d_Ref_quick_91 (lv_at hl 7 rfl) ?_
              refine va_iald hx hb hK hP 1 0 rfl rfl (vp_in_nI (show i < 81 by omega) (by omega)) d_Ref_quick_93 ?_
              refine w_ti (show _ = pc i from by rw [nI_clamp (by omega)]) ?_
              refine lv_aload_n hx hb d_Ref_quick_94 rfl (lv_at hl 2 rfl) ?_
              refine va_get (D := (dC, dI)) (ci := 8) (v := .ref r7) (C := R_Ref) (T := F_Ref) (N := 25) hx hb hts i_Ref hown hK hP 0 rfl rfl 11 (by decide) (hts _ mw_fl_Ref_28) (fun _ h9 => h9) rfl d_Ref_quick_95 ?_
              refine lv_iload hx hb d_Ref_quick_98 (lv_at hl 6 rfl) ?_
              refine va_iald hx hb hK hP 1 0 rfl rfl hin d_Ref_quick_100 ?_
              refine lv_icmp_ge (tgt := 108) hx hb d_Ref_quick_101 (by decide) (fun c_101 => ?_) (fun c_101 => ?_)
              · refine lv_iconst (v := 0) hx hb d_Ref_quick_108 (by decide) ?_
                refine lv_istore (lv' := [(8, .int 0), (7, .int ((rOnes ((pt tp.toNatClampNeg) &&& (had ^^^ (-1))) 32))), (6, .int ((rOnes ((pt i) &&& (had ^^^ (-1))) 32))), (0, .ref r0), (1, .int wt), (2, .int ((nI n))), (3, .int had), (4, .int tp), (5, .int ((nI i)))]) hx hb d_Ref_quick_109 hl (by decide) rfl (fun ls hl => ?_)
                refine lv_iload hx hb d_Ref_quick_111 (lv_at hl 0 rfl) ?_
                refine lv_if_eq (tgt := 121) hx hb d_Ref_quick_113 (by decide) (fun c_113 => ?_) (fun c_113 => ?_)
                · refine lv_iload hx hb d_Ref_quick_121 (lv_at hl 7 rfl) ?_
                  refine lv_istore (lv' := [(4, .int tp), (8, .int 0), (7, .int ((rOnes ((pt tp.toNatClampNeg) &&& (had ^^^ (-1))) 32))), (6, .int ((rOnes ((pt i) &&& (had ^^^ (-1))) 32))), (0, .ref r0), (1, .int wt), (2, .int ((nI n))), (3, .int had), (5, .int ((nI i)))]) hx hb d_Ref_quick_123 hl (by decide) rfl (fun ls hl => ?_)
                  refine lv_iinc (v := (nI (i + 1))) (lv' := [(5, .int ((nI (i + 1)))), (4, .int tp), (8, .int 0), (7, .int ((rOnes ((pt tp.toNatClampNeg) &&& (had ^^^ (-1))) 32))), (6, .int ((rOnes ((pt i) &&& (had ^^^ (-1))) 32))), (0, .ref r0), (1, .int wt), (2, .int ((nI n))), (3, .int had)]) hx hb d_Ref_quick_125 hl (k := 8) rfl (show nI i + 1 = nI (i + 1) from nI_1 _) (by decide) rfl (fun ls hl => ?_)
                  refine lv_goto (tgt := 18) hx hb d_Ref_quick_128 (by decide) ?_
                  exact ih ((i + 1)) tp (by omega) (⟨by omega, qT_k2 hI.2 c_45⟩) _ _ ls (hP.sub [0, 1, 2, 3, 4] rfl) (hD.sub [0, 1, 2, 3, 4] (by decide) rfl) hS (lv_sub hl [5, 6, 7, 8, 1, 0] rfl)
                · exact absurd c_113 (by decide +kernel)
              · refine lv_iconst (v := 1) hx hb d_Ref_quick_104 (by decide) ?_
                refine lv_goto (tgt := 109) hx hb d_Ref_quick_105 (by decide) ?_
                refine lv_istore (lv' := [(8, .int 1), (7, .int ((rOnes ((pt tp.toNatClampNeg) &&& (had ^^^ (-1))) 32))), (6, .int ((rOnes ((pt i) &&& (had ^^^ (-1))) 32))), (0, .ref r0), (1, .int wt), (2, .int ((nI n))), (3, .int had), (4, .int tp), (5, .int ((nI i)))]) hx hb d_Ref_quick_109 hl (by decide) rfl (fun ls hl => ?_)
                refine lv_iload hx hb d_Ref_quick_111 (lv_at hl 0 rfl) ?_
                refine lv_if_eq (tgt := 121) hx hb d_Ref_quick_113 (by decide) (fun c_113 => ?_) (fun c_113 => ?_)
                · exact absurd c_113 (by decide +kernel)
                · refine lv_iload hx hb d_Ref_quick_116 (lv_at hl 8 rfl) ?_
                  refine lv_goto (tgt := 123) hx hb d_Ref_quick_118 (by decide) ?_
                  refine lv_istore (lv' := [(4, .int ((nI i))), (8, .int 1), (7, .int ((rOnes ((pt tp.toNatClampNeg) &&& (had ^^^ (-1))) 32))), (6, .int ((rOnes ((pt i) &&& (had ^^^ (-1))) 32))), (0, .ref r0), (1, .int wt), (2, .int ((nI n))), (3, .int had), (5, .int ((nI i)))]) hx hb d_Ref_quick_123 hl (by decide) rfl (fun ls hl => ?_)
                  refine lv_iinc (v := (nI (i + 1))) (lv' := [(5, .int ((nI (i + 1)))), (4, .int ((nI i))), (8, .int 1), (7, .int ((rOnes ((pt tp.toNatClampNeg) &&& (had ^^^ (-1))) 32))), (6, .int ((rOnes ((pt i) &&& (had ^^^ (-1))) 32))), (0, .ref r0), (1, .int wt), (2, .int ((nI n))), (3, .int had)]) hx hb d_Ref_quick_125 hl (k := 8) rfl (show nI i + 1 = nI (i + 1) from nI_1 _) (by decide) rfl (fun ls hl => ?_)
                  refine lv_goto (tgt := 18) hx hb d_Ref_quick_128 (by decide) ?_
                  exact ih ((i + 1)) ((nI i)) (by omega) (⟨by omega, qT_b (on_eq c_84 hnz)⟩) _ _ ls (hP.sub [0, 1, 2, 3, 4] rfl) (hD.sub [0, 1, 2, 3, 4] (by decide) rfl) hS (lv_sub hl [5, 6, 7, 8, 1, 0] rfl)
      · refine lv_iconst (v := 0) hx hb d_Ref_quick_48 (by decide) ?_
        refine lv_goto (tgt := 66) hx hb d_Ref_quick_49 (by decide) ?_
        refine lv_istore (lv' := [(7, .int 0), (6, .int ((rOnes ((pt i) &&& (had ^^^ (-1))) 32))), (0, .ref r0), (1, .int wt), (2, .int ((nI n))), (3, .int had), (4, .int tp), (5, .int ((nI i)))]) hx hb d_Ref_quick_66 hl (by decide) rfl (fun ls hl => ?_)
        refine lv_iload hx hb d_Ref_quick_68 (lv_at hl 1 rfl) ?_
        refine lv_iload hx hb d_Ref_quick_70 (lv_at hl 0 rfl) ?_
        refine lv_icmp_gt (tgt := 104) hx hb d_Ref_quick_72 (by decide) (fun c_72 => ?_) (fun c_72 => ?_)
        · refine lv_iconst (v := 1) hx hb d_Ref_quick_104 (by decide) ?_
          refine lv_goto (tgt := 109) hx hb d_Ref_quick_105 (by decide) ?_
          refine lv_istore (lv' := [(8, .int 1), (7, .int 0), (6, .int ((rOnes ((pt i) &&& (had ^^^ (-1))) 32))), (0, .ref r0), (1, .int wt), (2, .int ((nI n))), (3, .int had), (4, .int tp), (5, .int ((nI i)))]) hx hb d_Ref_quick_109 hl (by decide) rfl (fun ls hl => ?_)
          refine lv_iload hx hb d_Ref_quick_111 (lv_at hl 0 rfl) ?_
          refine lv_if_eq (tgt := 121) hx hb d_Ref_quick_113 (by decide) (fun c_113 => ?_) (fun c_113 => ?_)
          · exact absurd c_113 (by decide +kernel)
          · refine lv_iload hx hb d_Ref_quick_116 (lv_at hl 8 rfl) ?_
            refine lv_goto (tgt := 123) hx hb d_Ref_quick_118 (by decide) ?_
            refine lv_istore (lv' := [(4, .int ((nI i))), (8, .int 1), (7, .int 0), (6, .int ((rOnes ((pt i) &&& (had ^^^ (-1))) 32))), (0, .ref r0), (1, .int wt), (2, .int ((nI n))), (3, .int had), (5, .int ((nI i)))]) hx hb d_Ref_quick_123 hl (by decide) rfl (fun ls hl => ?_)
            refine lv_iinc (v := (nI (i + 1))) (lv' := [(5, .int ((nI (i + 1)))), (4, .int ((nI i))), (8, .int 1), (7, .int 0), (6, .int ((rOnes ((pt i) &&& (had ^^^ (-1))) 32))), (0, .ref r0), (1, .int wt), (2, .int ((nI n))), (3, .int had)]) hx hb d_Ref_quick_125 hl (k := 8) rfl (show nI i + 1 = nI (i + 1) from nI_1 _) (by decide) rfl (fun ls hl => ?_)
            refine lv_goto (tgt := 18) hx hb d_Ref_quick_128 (by decide) ?_
            exact ih ((i + 1)) ((nI i)) (by omega) (⟨by omega, qT_b (on_pos c_72)⟩) _ _ ls (hP.sub [0, 1, 2, 3, 4] rfl) (hD.sub [0, 1, 2, 3, 4] (by decide) rfl) hS (lv_sub hl [5, 6, 7, 8, 1, 0] rfl)
        · refine lv_iload hx hb d_Ref_quick_75 (lv_at hl 6 rfl) ?_
          refine lv_if_lt (tgt := 108) hx hb d_Ref_quick_77 (by decide) (fun c_77 => ?_) (fun c_77 => ?_)
          · refine lv_iconst (v := 0) hx hb d_Ref_quick_108 (by decide) ?_
            refine lv_istore (lv' := [(8, .int 0), (7, .int 0), (6, .int ((rOnes ((pt i) &&& (had ^^^ (-1))) 32))), (0, .ref r0), (1, .int wt), (2, .int ((nI n))), (3, .int had), (4, .int tp), (5, .int ((nI i)))]) hx hb d_Ref_quick_109 hl (by decide) rfl (fun ls hl => ?_)
            refine lv_iload hx hb d_Ref_quick_111 (lv_at hl 0 rfl) ?_
            refine lv_if_eq (tgt := 121) hx hb d_Ref_quick_113 (by decide) (fun c_113 => ?_) (fun c_113 => ?_)
            · refine lv_iload hx hb d_Ref_quick_121 (lv_at hl 7 rfl) ?_
              refine lv_istore (lv' := [(4, .int tp), (8, .int 0), (7, .int 0), (6, .int ((rOnes ((pt i) &&& (had ^^^ (-1))) 32))), (0, .ref r0), (1, .int wt), (2, .int ((nI n))), (3, .int had), (5, .int ((nI i)))]) hx hb d_Ref_quick_123 hl (by decide) rfl (fun ls hl => ?_)
              refine lv_iinc (v := (nI (i + 1))) (lv' := [(5, .int ((nI (i + 1)))), (4, .int tp), (8, .int 0), (7, .int 0), (6, .int ((rOnes ((pt i) &&& (had ^^^ (-1))) 32))), (0, .ref r0), (1, .int wt), (2, .int ((nI n))), (3, .int had)]) hx hb d_Ref_quick_125 hl (k := 8) rfl (show nI i + 1 = nI (i + 1) from nI_1 _) (by decide) rfl (fun ls hl => ?_)
              refine lv_goto (tgt := 18) hx hb d_Ref_quick_128 (by decide) ?_
              exact ih ((i + 1)) tp (by omega) (⟨by omega, qT_k1 hI.2 (by omega) (Int32.not_le.mp c_45) (on_z c_72)⟩) _ _ ls (hP.sub [0, 1, 2, 3, 4] rfl) (hD.sub [0, 1, 2, 3, 4] (by decide) rfl) hS (lv_sub hl [5, 6, 7, 8, 1, 0] rfl)
            · exact absurd c_113 (by decide +kernel)
          · exact absurd (Int32.not_lt.mp c_77) c_45
set_option maxHeartbeats 1000000 in
set_option maxRecDepth 100000 in
theorem lg_Ref_quick1 {p : Program} {e : Env} {s : State} {m : MethodId} {args : Array Value} {below : List Frame} {meth : Method} {c : Code} {Q : State → Prop} (l : Launch) (dC : Nat → ClassId) (dI : Nat → Nat → Nat) (cI cJ : ClassId) (r0 : Nat) (th : Int32) (N : Nat) (OU : Nat) (Z : Nat) (r1 : Nat) (r2 : Nat) (M : Nat) (r3 : Nat) (r4 : Nat) (r5 : Nat) (r6 : Nat) (r7 : Nat) (r8 : Nat) (PK : Nat) (r9 : Nat) (kp : Int32) (r10 : Nat) (r11 : Nat) (TK : Nat) (r12 : Nat) (qc : Int32) (r13 : Nat) (r14 : Nat) (bst : Int32) (r15 : Nat) (pc : Nat → Int32) (pt : Nat → Int32) (ch : Nat → Int32) (be : Nat → Int32) (wt : Int32) (hPK : PK ≤ 81) (hcov : ∀ e, e < 32 → bt wt e = true → ∃ k, k < PK ∧ bt (pt k) e = true)   (hx : p.tables.exec = Jvm.exec) (hb : c.code = b_Ref_quick) (hts : ∀ w ∈ lwg, w.before args s = true) (hown : s.vm.findClass R_Ref = some m.cls) (hml : c.maxLocals = 9) (hK : va_K (dC, dI) classes [(cI, .int), (cJ, .long)] s) {A : Nat → Prop} (hA : ∀ q : Nat, s.heap.size ≤ q → A q) (kk : ∀ (n : Nat) (cv : Nat → Int32), (n ≤ 32 ∧ ∀ t, t < n → ∃ c, c < PK ∧ cv t = nI c) → ∀ (H : Heap) (locs : List Loc) (ls : Array Slot), va_P (dC, dI) classes [(r0, .inr (8, [.int th, .int ((nI N)), .int ((nI OU)), .int ((nI Z)), .ref r1, .ref r2, .int ((nI M)), .ref r3, .ref r4, .ref r5, .ref r6, .ref r7, .ref r8, .int ((nI PK)), .ref r9, .int kp, .ref r10, .ref r11, .int ((nI TK)), .ref r12, .int qc, .ref r13, .ref r14, .int bst, .ref r15])), (r7, .inl (cI, 81, .inl pc)), (r8, .inl (cI, 81, .inl pt)), (r13, .inl (cI, 82, .inl cv)), (r14, .inl (cI, 82, .inl be))] H → va_D A [(r0, .inr (8, [.int th, .int ((nI N)), .int ((nI OU)), .int ((nI Z)), .ref r1, .ref r2, .int ((nI M)), .ref r3, .ref r4, .ref r5, .ref r6, .ref r7, .ref r8, .int ((nI PK)), .ref r9, .int kp, .ref r10, .ref r11, .int ((nI TK)), .ref r12, .int qc, .ref r13, .ref r14, .int bst, .ref r15])), (r7, .inl (cI, 81, .inl pc)), (r8, .inl (cI, 81, .inl pt)), (r13, .inl (cI, 82, .inl cv)), (r14, .inl (cI, 82, .inl be))] → va_S A s.heap H locs → lv_has ls 9 [(0, .ref r0), (1, .int wt), (2, .int ((nI n)))] → W p l e ({ frames := 1, cells := 0, slots := 0, locals := 22 } : Room) s m args below meth c H locs 0 0 Q (F0 m 155 ls [])) : ∀ (fu : Nat) (n : Nat) (had : Int32) (cv : Nat → Int32), zc had < fu → (n + zc had ≤ 32 ∧ ∀ t, t < n → ∃ c, c < PK ∧ cv t = nI c) → ∀ (H : Heap) (locs : List Loc) (ls : Array Slot), va_P (dC, dI) classes [(r0, .inr (8, [.int th, .int ((nI N)), .int ((nI OU)), .int ((nI Z)), .ref r1, .ref r2, .int ((nI M)), .ref r3, .ref r4, .ref r5, .ref r6, .ref r7, .ref r8, .int ((nI PK)), .ref r9, .int kp, .ref r10, .ref r11, .int ((nI TK)), .ref r12, .int qc, .ref r13, .ref r14, .int bst, .ref r15])), (r7, .inl (cI, 81, .inl pc)), (r8, .inl (cI, 81, .inl pt)), (r13, .inl (cI, 82, .inl cv)), (r14, .inl (cI, 82, .inl be))] H → va_D A [(r0, .inr (8, [.int th, .int ((nI N)), .int ((nI OU)), .int ((nI Z)), .ref r1, .ref r2, .int ((nI M)), .ref r3, .ref r4, .ref r5, .ref r6, .ref r7, .ref r8, .int ((nI PK)), .ref r9, .int kp, .ref r10, .ref r11, .int ((nI TK)), .ref r12, .int qc, .ref r13, .ref r14, .int bst, .ref r15])), (r7, .inl (cI, 81, .inl pc)), (r8, .inl (cI, 81, .inl pt)), (r13, .inl (cI, 82, .inl cv)), (r14, .inl (cI, 82, .inl be))] → va_S A s.heap H locs → lv_has ls 9 [(0, .ref r0), (1, .int wt), (2, .int ((nI n))), (3, .int had)] → W p l e ({ frames := 1, cells := 0, slots := 0, locals := 22 } : Room) s m args below meth c H locs 0 0 Q (F0 m 4 ls []) := by
  intro fu
  induction fu with
  | zero => intro n had cv h; exact absurd h (Nat.not_lt_zero _)
  | succ fu ih =>
    intro n had cv hmu hI H locs ls hP hD hS hl
    have hI1 := hI.1
    refine lv_iload_n hx hb d_Ref_quick_4 rfl (lv_at hl 1 rfl) ?_
    refine lv_iload_n hx hb d_Ref_quick_5 rfl (lv_at hl 3 rfl) ?_
    refine lv_iconst (v := (-1)) hx hb d_Ref_quick_6 (by decide) ?_
    refine lv_ixor hx hb d_Ref_quick_7 ?_
    refine lv_iand hx hb d_Ref_quick_8 ?_
    refine lv_if_eq (tgt := 155) hx hb d_Ref_quick_9 (by decide) (fun c_9 => ?_) (fun c_9 => ?_)
    · exact kk n cv (⟨by omega, hI.2⟩) _ _ ls (hP.sub [0, 1, 2, 3, 4] rfl) (hD.sub [0, 1, 2, 3, 4] (by decide) rfl) hS (lv_sub hl [0, 1, 2] rfl)
    · refine lv_iconst (v := (-1)) hx hb d_Ref_quick_12 (by decide) ?_
      refine lv_istore (lv' := [(4, .int ((-1))), (0, .ref r0), (1, .int wt), (2, .int ((nI n))), (3, .int had)]) hx hb d_Ref_quick_13 hl (by decide) rfl (fun ls hl => ?_)
      refine lv_iconst (v := 0) hx hb d_Ref_quick_15 (by decide) ?_
      refine lv_istore (lv' := [(5, .int 0), (4, .int ((-1))), (0, .ref r0), (1, .int wt), (2, .int ((nI n))), (3, .int had)]) hx hb d_Ref_quick_16 hl (by decide) rfl (fun ls hl => ?_)
      refine lg_Ref_quick0 l dC dI cI cJ r0 th N OU Z r1 r2 M r3 r4 r5 r6 r7 r8 PK r9 kp r10 r11 TK r12 qc r13 r14 bst r15 pc pt ch be wt hPK hcov n had cv  hx hb hts hown hml hK hA (fun tp__1 hI__2 H locs ls hP hD hS hl => ?_) _ 0 ((-1)) (Nat.lt_succ_self _) (⟨Nat.zero_le _, qT_0 pt had⟩) _ _ ls (hP.sub [0, 1, 2, 3, 4] rfl) (hD.sub [0, 1, 2, 3, 4] (by decide) rfl) hS (lv_sub hl [2, 3, 4, 5, 1, 0] rfl)
      have hP : va_P (dC, dI) classes [(r0, .inr (8, [.int th, .int ((nI N)), .int ((nI OU)), .int ((nI Z)), .ref r1, .ref r2, .int ((nI M)), .ref r3, .ref r4, .ref r5, .ref r6, .ref r7, .ref r8, .int ((nI PK)), .ref r9, .int kp, .ref r10, .ref r11, .int ((nI TK)), .ref r12, .int qc, .ref r13, .ref r14, .int bst, .ref r15])), (r7, .inl (cI, 81, .inl pc)), (r8, .inl (cI, 81, .inl pt)), (r13, .inl (cI, 82, .inl cv)), (r14, .inl (cI, 82, .inl be))] H := hP
      have hD : va_D A [(r0, .inr (8, [.int th, .int ((nI N)), .int ((nI OU)), .int ((nI Z)), .ref r1, .ref r2, .int ((nI M)), .ref r3, .ref r4, .ref r5, .ref r6, .ref r7, .ref r8, .int ((nI PK)), .ref r9, .int kp, .ref r10, .ref r11, .int ((nI TK)), .ref r12, .int qc, .ref r13, .ref r14, .int bst, .ref r15])), (r7, .inl (cI, 81, .inl pc)), (r8, .inl (cI, 81, .inl pt)), (r13, .inl (cI, 82, .inl cv)), (r14, .inl (cI, 82, .inl be))] := hD
      have hl : lv_has ls 9 [(0, .ref r0), (1, .int wt), (2, .int ((nI n))), (3, .int had), (4, .int tp__1)] := hl
      obtain ⟨k9, hk9, ht9, hn9⟩ := qT_end hI__2 hcov c_9
      subst ht9
      have hz9 := q_zc hn9
      refine lv_aload_n hx hb d_Ref_quick_131 rfl (lv_at hl 0 rfl) ?_
      refine va_get (D := (dC, dI)) (ci := 8) (v := .ref r13) (C := R_Ref) (T := F_Ref) (N := 25) hx hb hts i_Ref hown hK hP 0 rfl rfl 21 (by decide) (hts _ mw_fl_Ref_46) (fun _ h9 => h9) rfl d_Ref_quick_132 ?_
      refine lv_iload_n hx hb d_Ref_quick_135 rfl (lv_at hl 2 rfl) ?_
      refine lv_iload hx hb d_Ref_quick_136 (lv_at hl 4 rfl) ?_
      refine va_iast hx hb hK hP hD hS 3 0 rfl rfl (vp_in_nI (show n < 82 by omega) (by omega)) d_Ref_quick_138 (fun H locs hP hD hS => ?_)
      have hP : va_P (dC, dI) classes [(r0, .inr (8, [.int th, .int ((nI N)), .int ((nI OU)), .int ((nI Z)), .ref r1, .ref r2, .int ((nI M)), .ref r3, .ref r4, .ref r5, .ref r6, .ref r7, .ref r8, .int ((nI PK)), .ref r9, .int kp, .ref r10, .ref r11, .int ((nI TK)), .ref r12, .int qc, .ref r13, .ref r14, .int bst, .ref r15])), (r7, .inl (cI, 81, .inl pc)), (r8, .inl (cI, 81, .inl pt)), (r13, .inl (cI, 82, .inl ((upd cv (nI n).toNatClampNeg ((nI k9)))))), (r14, .inl (cI, 82, .inl be))] H := hP
      have hD : va_D A [(r0, .inr (8, [.int th, .int ((nI N)), .int ((nI OU)), .int ((nI Z)), .ref r1, .ref r2, .int ((nI M)), .ref r3, .ref r4, .ref r5, .ref r6, .ref r7, .ref r8, .int ((nI PK)), .ref r9, .int kp, .ref r10, .ref r11, .int ((nI TK)), .ref r12, .int qc, .ref r13, .ref r14, .int bst, .ref r15])), (r7, .inl (cI, 81, .inl pc)), (r8, .inl (cI, 81, .inl pt)), (r13, .inl (cI, 82, .inl ((upd cv (nI n).toNatClampNeg ((nI k9)))))), (r14, .inl (cI, 82, .inl be))] := hD
      rw [show (nI n).toNatClampNeg = n from nI_clamp (by omega)] at hP hD
      refine lv_iinc (v := (nI (n + 1))) (lv' := [(2, .int ((nI (n + 1)))), (0, .ref r0), (1, .int wt), (3, .int had), (4, .int ((nI k9)))]) hx hb d_Ref_quick_139 hl (k := 2) rfl (show nI n + 1 = nI (n + 1) from nI_1 _) (by decide) rfl (fun ls hl => ?_)
      refine lv_iload_n hx hb d_Ref_quick_142 rfl (lv_at hl 3 rfl) ?_
      refine lv_aload_n hx hb d_Ref_quick_143 rfl (lv_at hl 1 rfl) ?_
      refine va_get (D := (dC, dI)) (ci := 8) (v := .ref r8) (C := R_Ref) (T := F_Ref) (N := 25) hx hb hts i_Ref hown hK hP 0 rfl rfl 12 (by decide) (hts _ mw_fl_Ref_31) (fun _ h9 => h9) rfl d_Ref_quick_144 ?_
      refine lv_iload hx hb d_Ref_quick_147 (lv_at hl 4 rfl) ?_
      refine va_iald hx hb hK hP 2 0 rfl rfl (vp_in_nI (show k9 < 81 by omega) (by omega)) d_Ref_quick_149 ?_
      refine w_ti (show _ = pt k9 from by rw [nI_clamp (by omega)]) ?_
      refine lv_ior hx hb d_Ref_quick_150 ?_
      refine lv_istore_n (lv' := [(3, .int ((had ||| (pt k9)))), (2, .int ((nI (n + 1)))), (0, .ref r0), (1, .int wt), (4, .int ((nI k9)))]) hx hb d_Ref_quick_151 rfl hl (by decide) rfl (fun ls hl => ?_)
      refine lv_goto (tgt := 4) hx hb d_Ref_quick_152 (by decide) ?_
      exact ih ((n + 1)) ((had ||| (pt k9))) ((upd cv n (nI k9))) (by omega) (⟨by omega, q_ext hI.2 hk9⟩) _ _ ls (hP.sub [0, 1, 2, 3, 4] rfl) (hD.sub [0, 1, 2, 3, 4] (by decide) rfl) hS (lv_sub hl [2, 3, 1, 0] rfl)
set_option maxHeartbeats 1000000 in
set_option maxRecDepth 100000 in
theorem lg_Ref_quick2 {p : Program} {e : Env} {s : State} {m : MethodId} {args : Array Value} {below : List Frame} {meth : Method} {c : Code} {Q : State → Prop} (l : Launch) (dC : Nat → ClassId) (dI : Nat → Nat → Nat) (cI cJ : ClassId) (r0 : Nat) (th : Int32) (N : Nat) (OU : Nat) (Z : Nat) (r1 : Nat) (r2 : Nat) (M : Nat) (r3 : Nat) (r4 : Nat) (r5 : Nat) (r6 : Nat) (r7 : Nat) (r8 : Nat) (PK : Nat) (r9 : Nat) (kp : Int32) (r10 : Nat) (r11 : Nat) (TK : Nat) (r12 : Nat) (qc : Int32) (r13 : Nat) (r14 : Nat) (bst : Int32) (r15 : Nat) (pc : Nat → Int32) (pt : Nat → Int32) (ch : Nat → Int32) (be : Nat → Int32) (wt : Int32) (hPK : PK ≤ 81) (hcov : ∀ e, e < 32 → bt wt e = true → ∃ k, k < PK ∧ bt (pt k) e = true) (n : Nat) (kx : Nat) (cv : Nat → Int32) (hn : n ≤ 32) (hkx : kx < n) (hc : ∀ t, t < n → qOK PK (cv t)) (hx : p.tables.exec = Jvm.exec) (hb : c.code = b_Ref_quick) (hts : ∀ w ∈ lwg, w.before args s = true) (hown : s.vm.findClass R_Ref = some m.cls) (hml : c.maxLocals = 9) (hK : va_K (dC, dI) classes [(cI, .int), (cJ, .long)] s) {A : Nat → Prop} (hA : ∀ q : Nat, s.heap.size ≤ q → A q) (kk : ∀ (ot : Int32), (True) → ∀ (H : Heap) (locs : List Loc) (ls : Array Slot), va_P (dC, dI) classes [(r0, .inr (8, [.int th, .int ((nI N)), .int ((nI OU)), .int ((nI Z)), .ref r1, .ref r2, .int ((nI M)), .ref r3, .ref r4, .ref r5, .ref r6, .ref r7, .ref r8, .int ((nI PK)), .ref r9, .int kp, .ref r10, .ref r11, .int ((nI TK)), .ref r12, .int qc, .ref r13, .ref r14, .int bst, .ref r15])), (r7, .inl (cI, 81, .inl pc)), (r8, .inl (cI, 81, .inl pt)), (r13, .inl (cI, 82, .inl cv)), (r14, .inl (cI, 82, .inl be))] H → va_D A [(r0, .inr (8, [.int th, .int ((nI N)), .int ((nI OU)), .int ((nI Z)), .ref r1, .ref r2, .int ((nI M)), .ref r3, .ref r4, .ref r5, .ref r6, .ref r7, .ref r8, .int ((nI PK)), .ref r9, .int kp, .ref r10, .ref r11, .int ((nI TK)), .ref r12, .int qc, .ref r13, .ref r14, .int bst, .ref r15])), (r7, .inl (cI, 81, .inl pc)), (r8, .inl (cI, 81, .inl pt)), (r13, .inl (cI, 82, .inl cv)), (r14, .inl (cI, 82, .inl be))] → va_S A s.heap H locs → lv_has ls 9 [(0, .ref r0), (1, .int wt), (2, .int ((nI n))), (4, .int ((nI kx))), (5, .int ot)] → W p l e ({ frames := 1, cells := 0, slots := 0, locals := 22 } : Room) s m args below meth c H locs 0 0 Q (F0 m 222 ls [])) : ∀ (fu : Nat) (j : Nat) (ot : Int32), n - j < fu → (j ≤ n) → ∀ (H : Heap) (locs : List Loc) (ls : Array Slot), va_P (dC, dI) classes [(r0, .inr (8, [.int th, .int ((nI N)), .int ((nI OU)), .int ((nI Z)), .ref r1, .ref r2, .int ((nI M)), .ref r3, .ref r4, .ref r5, .ref r6, .ref r7, .ref r8, .int ((nI PK)), .ref r9, .int kp, .ref r10, .ref r11, .int ((nI TK)), .ref r12, .int qc, .ref r13, .ref r14, .int bst, .ref r15])), (r7, .inl (cI, 81, .inl pc)), (r8, .inl (cI, 81, .inl pt)), (r13, .inl (cI, 82, .inl cv)), (r14, .inl (cI, 82, .inl be))] H → va_D A [(r0, .inr (8, [.int th, .int ((nI N)), .int ((nI OU)), .int ((nI Z)), .ref r1, .ref r2, .int ((nI M)), .ref r3, .ref r4, .ref r5, .ref r6, .ref r7, .ref r8, .int ((nI PK)), .ref r9, .int kp, .ref r10, .ref r11, .int ((nI TK)), .ref r12, .int qc, .ref r13, .ref r14, .int bst, .ref r15])), (r7, .inl (cI, 81, .inl pc)), (r8, .inl (cI, 81, .inl pt)), (r13, .inl (cI, 82, .inl cv)), (r14, .inl (cI, 82, .inl be))] → va_S A s.heap H locs → lv_has ls 9 [(0, .ref r0), (1, .int wt), (2, .int ((nI n))), (4, .int ((nI kx))), (5, .int ot), (6, .int ((nI j)))] → W p l e ({ frames := 1, cells := 0, slots := 0, locals := 22 } : Room) s m args below meth c H locs 0 0 Q (F0 m 171 ls []) := by
  intro fu
  induction fu with
  | zero => intro j ot h; exact absurd h (Nat.not_lt_zero _)
  | succ fu ih =>
    intro j ot hmu hI H locs ls hP hD hS hl
    refine lv_iload hx hb d_Ref_quick_171 (lv_at hl 5 rfl) ?_
    refine lv_iload_n hx hb d_Ref_quick_173 rfl (lv_at hl 2 rfl) ?_
    refine lv_icmp_ge (tgt := 222) hx hb d_Ref_quick_174 (by decide) (fun c_174 => ?_) (fun c_174 => ?_)
    · exact kk ot (trivial) _ _ ls (hP.sub [0, 1, 2, 3, 4] rfl) (hD.sub [0, 1, 2, 3, 4] (by decide) rfl) hS (lv_sub hl [0, 1, 2, 3, 4] rfl)
    · have hlt : j < n := Nat.lt_of_not_le (fun h => c_174 ((nI_leI (a := n) (b := j) (by omega) (by omega)).mpr h))
      refine lv_iload hx hb d_Ref_quick_177 (lv_at hl 5 rfl) ?_
      refine lv_iload hx hb d_Ref_quick_179 (lv_at hl 3 rfl) ?_
      refine lv_icmp_eq (tgt := 194) hx hb d_Ref_quick_181 (by decide) (fun c_181 => ?_) (fun c_181 => ?_)
      · refine lv_iload hx hb d_Ref_quick_194 (lv_at hl 4 rfl) ?_
        refine lv_goto (tgt := 214) hx hb d_Ref_quick_196 (by decide) ?_
        refine lv_istore (lv' := [(5, .int ot), (0, .ref r0), (1, .int wt), (2, .int ((nI n))), (4, .int ((nI kx))), (6, .int ((nI j)))]) hx hb d_Ref_quick_214 hl (by decide) rfl (fun ls hl => ?_)
        refine lv_iinc (v := (nI (j + 1))) (lv' := [(6, .int ((nI (j + 1)))), (5, .int ot), (0, .ref r0), (1, .int wt), (2, .int ((nI n))), (4, .int ((nI kx)))]) hx hb d_Ref_quick_216 hl (k := 5) rfl (show nI j + 1 = nI (j + 1) from nI_1 _) (by decide) rfl (fun ls hl => ?_)
        refine lv_goto (tgt := 171) hx hb d_Ref_quick_219 (by decide) ?_
        exact ih ((j + 1)) ot (by omega) (by omega) _ _ ls (hP.sub [0, 1, 2, 3, 4] rfl) (hD.sub [0, 1, 2, 3, 4] (by decide) rfl) hS (lv_sub hl [2, 3, 4, 5, 1, 0] rfl)
      · refine lv_aload_n hx hb d_Ref_quick_184 rfl (lv_at hl 0 rfl) ?_
        refine va_get (D := (dC, dI)) (ci := 8) (v := .ref r13) (C := R_Ref) (T := F_Ref) (N := 25) hx hb hts i_Ref hown hK hP 0 rfl rfl 21 (by decide) (hts _ mw_fl_Ref_46) (fun _ h9 => h9) rfl d_Ref_quick_185 ?_
        refine lv_iload hx hb d_Ref_quick_188 (lv_at hl 5 rfl) ?_
        refine va_iald hx hb hK hP 3 0 rfl rfl (vp_in_nI (show j < 82 by omega) (by omega)) d_Ref_quick_190 ?_
        refine w_ti (show _ = cv j from by rw [nI_clamp (by omega)]) ?_
        refine lv_if_ge (tgt := 199) hx hb d_Ref_quick_191 (by decide) (fun c_191 => ?_) (fun c_191 => ?_)
        · refine lv_iload hx hb d_Ref_quick_199 (lv_at hl 4 rfl) ?_
          refine lv_aload_n hx hb d_Ref_quick_201 rfl (lv_at hl 0 rfl) ?_
          refine va_get (D := (dC, dI)) (ci := 8) (v := .ref r8) (C := R_Ref) (T := F_Ref) (N := 25) hx hb hts i_Ref hown hK hP 0 rfl rfl 12 (by decide) (hts _ mw_fl_Ref_31) (fun _ h9 => h9) rfl d_Ref_quick_202 ?_
          refine lv_aload_n hx hb d_Ref_quick_205 rfl (lv_at hl 0 rfl) ?_
          refine va_get (D := (dC, dI)) (ci := 8) (v := .ref r13) (C := R_Ref) (T := F_Ref) (N := 25) hx hb hts i_Ref hown hK hP 0 rfl rfl 21 (by decide) (hts _ mw_fl_Ref_46) (fun _ h9 => h9) rfl d_Ref_quick_206 ?_
          refine lv_iload hx hb d_Ref_quick_209 (lv_at hl 5 rfl) ?_
          refine va_iald hx hb hK hP 3 0 rfl rfl (vp_in_nI (show j < 82 by omega) (by omega)) d_Ref_quick_211 ?_
          refine w_ti (show _ = cv j from by rw [nI_clamp (by omega)]) ?_
          refine va_iald hx hb hK hP 2 0 rfl rfl (q_in (hc j hlt) c_191 hPK) d_Ref_quick_212 ?_
          refine lv_ior hx hb d_Ref_quick_213 ?_
          refine lv_istore (lv' := [(5, .int ((ot ||| (pt (cv j).toNatClampNeg)))), (0, .ref r0), (1, .int wt), (2, .int ((nI n))), (4, .int ((nI kx))), (6, .int ((nI j)))]) hx hb d_Ref_quick_214 hl (by decide) rfl (fun ls hl => ?_)
          refine lv_iinc (v := (nI (j + 1))) (lv' := [(6, .int ((nI (j + 1)))), (5, .int ((ot ||| (pt (cv j).toNatClampNeg)))), (0, .ref r0), (1, .int wt), (2, .int ((nI n))), (4, .int ((nI kx)))]) hx hb d_Ref_quick_216 hl (k := 5) rfl (show nI j + 1 = nI (j + 1) from nI_1 _) (by decide) rfl (fun ls hl => ?_)
          refine lv_goto (tgt := 171) hx hb d_Ref_quick_219 (by decide) ?_
          exact ih ((j + 1)) ((ot ||| (pt (cv j).toNatClampNeg))) (by omega) (by omega) _ _ ls (hP.sub [0, 1, 2, 3, 4] rfl) (hD.sub [0, 1, 2, 3, 4] (by decide) rfl) hS (lv_sub hl [2, 3, 4, 5, 1, 0] rfl)
        · refine lv_iload hx hb d_Ref_quick_194 (lv_at hl 4 rfl) ?_
          refine lv_goto (tgt := 214) hx hb d_Ref_quick_196 (by decide) ?_
          refine lv_istore (lv' := [(5, .int ot), (0, .ref r0), (1, .int wt), (2, .int ((nI n))), (4, .int ((nI kx))), (6, .int ((nI j)))]) hx hb d_Ref_quick_214 hl (by decide) rfl (fun ls hl => ?_)
          refine lv_iinc (v := (nI (j + 1))) (lv' := [(6, .int ((nI (j + 1)))), (5, .int ot), (0, .ref r0), (1, .int wt), (2, .int ((nI n))), (4, .int ((nI kx)))]) hx hb d_Ref_quick_216 hl (k := 5) rfl (show nI j + 1 = nI (j + 1) from nI_1 _) (by decide) rfl (fun ls hl => ?_)
          refine lv_goto (tgt := 171) hx hb d_Ref_quick_219 (by decide) ?_
          exact ih ((j + 1)) ot (by omega) (by omega) _ _ ls (hP.sub [0, 1, 2, 3, 4] rfl) (hD.sub [0, 1, 2, 3, 4] (by decide) rfl) hS (lv_sub hl [2, 3, 4, 5, 1, 0] rfl)
set_option maxHeartbeats 1000000 in
set_option maxRecDepth 100000 in
theorem lg_Ref_quick3 {p : Program} {e : Env} {s : State} {m : MethodId} {args : Array Value} {below : List Frame} {meth : Method} {c : Code} {Q : State → Prop} (l : Launch) (dC : Nat → ClassId) (dI : Nat → Nat → Nat) (cI cJ : ClassId) (r0 : Nat) (th : Int32) (N : Nat) (OU : Nat) (Z : Nat) (r1 : Nat) (r2 : Nat) (M : Nat) (r3 : Nat) (r4 : Nat) (r5 : Nat) (r6 : Nat) (r7 : Nat) (r8 : Nat) (PK : Nat) (r9 : Nat) (kp : Int32) (r10 : Nat) (r11 : Nat) (TK : Nat) (r12 : Nat) (qc : Int32) (r13 : Nat) (r14 : Nat) (bst : Int32) (r15 : Nat) (pc : Nat → Int32) (pt : Nat → Int32) (ch : Nat → Int32) (be : Nat → Int32) (wt : Int32) (hPK : PK ≤ 81) (hcov : ∀ e, e < 32 → bt wt e = true → ∃ k, k < PK ∧ bt (pt k) e = true) (n : Nat) (hn : n ≤ 32) (hx : p.tables.exec = Jvm.exec) (hb : c.code = b_Ref_quick) (hts : ∀ w ∈ lwg, w.before args s = true) (hown : s.vm.findClass R_Ref = some m.cls) (hml : c.maxLocals = 9) (hK : va_K (dC, dI) classes [(cI, .int), (cJ, .long)] s) {A : Nat → Prop} (hA : ∀ q : Nat, s.heap.size ≤ q → A q) (kk : ∀ (cv : Nat → Int32), (∀ t, t < n → qOK PK (cv t)) → ∀ (H : Heap) (locs : List Loc) (ls : Array Slot), va_P (dC, dI) classes [(r0, .inr (8, [.int th, .int ((nI N)), .int ((nI OU)), .int ((nI Z)), .ref r1, .ref r2, .int ((nI M)), .ref r3, .ref r4, .ref r5, .ref r6, .ref r7, .ref r8, .int ((nI PK)), .ref r9, .int kp, .ref r10, .ref r11, .int ((nI TK)), .ref r12, .int qc, .ref r13, .ref r14, .int bst, .ref r15])), (r7, .inl (cI, 81, .inl pc)), (r8, .inl (cI, 81, .inl pt)), (r13, .inl (cI, 82, .inl cv)), (r14, .inl (cI, 82, .inl be))] H → va_D A [(r0, .inr (8, [.int th, .int ((nI N)), .int ((nI OU)), .int ((nI Z)), .ref r1, .ref r2, .int ((nI M)), .ref r3, .ref r4, .ref r5, .ref r6, .ref r7, .ref r8, .int ((nI PK)), .ref r9, .int kp, .ref r10, .ref r11, .int ((nI TK)), .ref r12, .int qc, .ref r13, .ref r14, .int bst, .ref r15])), (r7, .inl (cI, 81, .inl pc)), (r8, .inl (cI, 81, .inl pt)), (r13, .inl (cI, 82, .inl cv)), (r14, .inl (cI, 82, .inl be))] → va_S A s.heap H locs → lv_has ls 9 [(0, .ref r0), (1, .int wt), (2, .int ((nI n)))] → W p l e ({ frames := 1, cells := 0, slots := 0, locals := 22 } : Room) s m args below meth c H locs 0 0 Q (F0 m 255 ls [])) : ∀ (fu : Nat) (i : Nat) (cv : Nat → Int32), n - i < fu → (i ≤ n ∧ ∀ t, t < n → qOK PK (cv t)) → ∀ (H : Heap) (locs : List Loc) (ls : Array Slot), va_P (dC, dI) classes [(r0, .inr (8, [.int th, .int ((nI N)), .int ((nI OU)), .int ((nI Z)), .ref r1, .ref r2, .int ((nI M)), .ref r3, .ref r4, .ref r5, .ref r6, .ref r7, .ref r8, .int ((nI PK)), .ref r9, .int kp, .ref r10, .ref r11, .int ((nI TK)), .ref r12, .int qc, .ref r13, .ref r14, .int bst, .ref r15])), (r7, .inl (cI, 81, .inl pc)), (r8, .inl (cI, 81, .inl pt)), (r13, .inl (cI, 82, .inl cv)), (r14, .inl (cI, 82, .inl be))] H → va_D A [(r0, .inr (8, [.int th, .int ((nI N)), .int ((nI OU)), .int ((nI Z)), .ref r1, .ref r2, .int ((nI M)), .ref r3, .ref r4, .ref r5, .ref r6, .ref r7, .ref r8, .int ((nI PK)), .ref r9, .int kp, .ref r10, .ref r11, .int ((nI TK)), .ref r12, .int qc, .ref r13, .ref r14, .int bst, .ref r15])), (r7, .inl (cI, 81, .inl pc)), (r8, .inl (cI, 81, .inl pt)), (r13, .inl (cI, 82, .inl cv)), (r14, .inl (cI, 82, .inl be))] → va_S A s.heap H locs → lv_has ls 9 [(0, .ref r0), (1, .int wt), (2, .int ((nI n))), (4, .int ((nI (n - i) - 1)))] → W p l e ({ frames := 1, cells := 0, slots := 0, locals := 22 } : Room) s m args below meth c H locs 0 0 Q (F0 m 160 ls []) := by
  intro fu
  induction fu with
  | zero => intro i cv h; exact absurd h (Nat.not_lt_zero _)
  | succ fu ih =>
    intro i cv hmu hI H locs ls hP hD hS hl
    have hI1 := hI.1
    refine lv_iload hx hb d_Ref_quick_160 (lv_at hl 3 rfl) ?_
    refine lv_if_lt (tgt := 255) hx hb d_Ref_quick_162 (by decide) (fun c_162 => ?_) (fun c_162 => ?_)
    · exact kk cv (hI.2) _ _ ls (hP.sub [0, 1, 2, 3, 4] rfl) (hD.sub [0, 1, 2, 3, 4] (by decide) rfl) hS (lv_sub hl [0, 1, 2] rfl)
    · have hlt : i < n := dwn_f hI.1 c_162
      rw [dwn_e hlt] at hl
      refine lv_iconst (v := 0) hx hb d_Ref_quick_165 (by decide) ?_
      refine lv_istore (lv' := [(5, .int 0), (0, .ref r0), (1, .int wt), (2, .int ((nI n))), (4, .int ((nI (n - i - 1))))]) hx hb d_Ref_quick_166 hl (by decide) rfl (fun ls hl => ?_)
      refine lv_iconst (v := 0) hx hb d_Ref_quick_168 (by decide) ?_
      refine lv_istore (lv' := [(6, .int 0), (5, .int 0), (0, .ref r0), (1, .int wt), (2, .int ((nI n))), (4, .int ((nI (n - i - 1))))]) hx hb d_Ref_quick_169 hl (by decide) rfl (fun ls hl => ?_)
      refine lg_Ref_quick2 l dC dI cI cJ r0 th N OU Z r1 r2 M r3 r4 r5 r6 r7 r8 PK r9 kp r10 r11 TK r12 qc r13 r14 bst r15 pc pt ch be wt hPK hcov n ((n - i - 1)) cv hn (by omega) (hI.2) hx hb hts hown hml hK hA (fun ot__1 hI__2 H locs ls hP hD hS hl => ?_) _ 0 0 (Nat.lt_succ_self _) (Nat.zero_le _) _ _ ls (hP.sub [0, 1, 2, 3, 4] rfl) (hD.sub [0, 1, 2, 3, 4] (by decide) rfl) hS (lv_sub hl [2, 3, 4, 5, 1, 0] rfl)
      have hP : va_P (dC, dI) classes [(r0, .inr (8, [.int th, .int ((nI N)), .int ((nI OU)), .int ((nI Z)), .ref r1, .ref r2, .int ((nI M)), .ref r3, .ref r4, .ref r5, .ref r6, .ref r7, .ref r8, .int ((nI PK)), .ref r9, .int kp, .ref r10, .ref r11, .int ((nI TK)), .ref r12, .int qc, .ref r13, .ref r14, .int bst, .ref r15])), (r7, .inl (cI, 81, .inl pc)), (r8, .inl (cI, 81, .inl pt)), (r13, .inl (cI, 82, .inl cv)), (r14, .inl (cI, 82, .inl be))] H := hP
      have hD : va_D A [(r0, .inr (8, [.int th, .int ((nI N)), .int ((nI OU)), .int ((nI Z)), .ref r1, .ref r2, .int ((nI M)), .ref r3, .ref r4, .ref r5, .ref r6, .ref r7, .ref r8, .int ((nI PK)), .ref r9, .int kp, .ref r10, .ref r11, .int ((nI TK)), .ref r12, .int qc, .ref r13, .ref r14, .int bst, .ref r15])), (r7, .inl (cI, 81, .inl pc)), (r8, .inl (cI, 81, .inl pt)), (r13, .inl (cI, 82, .inl cv)), (r14, .inl (cI, 82, .inl be))] := hD
      have hl : lv_has ls 9 [(0, .ref r0), (1, .int wt), (2, .int ((nI n))), (4, .int ((nI ((n - i - 1))))), (5, .int ot__1)] := hl
      refine lv_aload_n hx hb d_Ref_quick_222 rfl (lv_at hl 0 rfl) ?_
      refine va_get (D := (dC, dI)) (ci := 8) (v := .ref r13) (C := R_Ref) (T := F_Ref) (N := 25) hx hb hts i_Ref hown hK hP 0 rfl rfl 21 (by decide) (hts _ mw_fl_Ref_46) (fun _ h9 => h9) rfl d_Ref_quick_223 ?_
      refine lv_iload hx hb d_Ref_quick_226 (lv_at hl 3 rfl) ?_
      refine lv_iload_n hx hb d_Ref_quick_228 rfl (lv_at hl 1 rfl) ?_
      refine lv_iload hx hb d_Ref_quick_229 (lv_at hl 4 rfl) ?_
      refine lv_iconst (v := (-1)) hx hb d_Ref_quick_231 (by decide) ?_
      refine lv_ixor hx hb d_Ref_quick_232 ?_
      refine lv_iand hx hb d_Ref_quick_233 ?_
      refine lv_if_ne (tgt := 241) hx hb d_Ref_quick_234 (by decide) (fun c_234 => ?_) (fun c_234 => ?_)
      · refine lv_aload_n hx hb d_Ref_quick_241 rfl (lv_at hl 0 rfl) ?_
        refine va_get (D := (dC, dI)) (ci := 8) (v := .ref r13) (C := R_Ref) (T := F_Ref) (N := 25) hx hb hts i_Ref hown hK hP 0 rfl rfl 21 (by decide) (hts _ mw_fl_Ref_46) (fun _ h9 => h9) rfl d_Ref_quick_242 ?_
        refine lv_iload hx hb d_Ref_quick_245 (lv_at hl 3 rfl) ?_
        refine va_iald hx hb hK hP 3 0 rfl rfl (vp_in_nI (show ((n - i - 1)) < 82 by omega) (by omega)) d_Ref_quick_247 ?_
        refine w_ti (show _ = cv (n - i - 1) from by rw [nI_clamp (by omega)]) ?_
        refine va_iast hx hb hK hP hD hS 3 0 rfl rfl (vp_in_nI (show ((n - i - 1)) < 82 by omega) (by omega)) d_Ref_quick_248 (fun H locs hP hD hS => ?_)
        have hP : va_P (dC, dI) classes [(r0, .inr (8, [.int th, .int ((nI N)), .int ((nI OU)), .int ((nI Z)), .ref r1, .ref r2, .int ((nI M)), .ref r3, .ref r4, .ref r5, .ref r6, .ref r7, .ref r8, .int ((nI PK)), .ref r9, .int kp, .ref r10, .ref r11, .int ((nI TK)), .ref r12, .int qc, .ref r13, .ref r14, .int bst, .ref r15])), (r7, .inl (cI, 81, .inl pc)), (r8, .inl (cI, 81, .inl pt)), (r13, .inl (cI, 82, .inl ((upd cv (nI ((n - i - 1))).toNatClampNeg ((cv (n - i - 1))))))), (r14, .inl (cI, 82, .inl be))] H := hP
        have hD : va_D A [(r0, .inr (8, [.int th, .int ((nI N)), .int ((nI OU)), .int ((nI Z)), .ref r1, .ref r2, .int ((nI M)), .ref r3, .ref r4, .ref r5, .ref r6, .ref r7, .ref r8, .int ((nI PK)), .ref r9, .int kp, .ref r10, .ref r11, .int ((nI TK)), .ref r12, .int qc, .ref r13, .ref r14, .int bst, .ref r15])), (r7, .inl (cI, 81, .inl pc)), (r8, .inl (cI, 81, .inl pt)), (r13, .inl (cI, 82, .inl ((upd cv (nI ((n - i - 1))).toNatClampNeg ((cv (n - i - 1))))))), (r14, .inl (cI, 82, .inl be))] := hD
        rw [show (nI ((n - i - 1))).toNatClampNeg = n - i - 1 from nI_clamp (by omega)] at hP hD
        refine lv_iinc (v := (nI (n - (i + 1)) - 1)) (lv' := [(4, .int ((nI (n - (i + 1)) - 1))), (0, .ref r0), (1, .int wt), (2, .int ((nI n))), (5, .int ot__1)]) hx hb d_Ref_quick_249 hl (k := 3) rfl (show nI (n - i - 1) + (-1) = nI (n - (i + 1)) - 1 from dwn_s hlt) (by decide) rfl (fun ls hl => ?_)
        refine lv_goto (tgt := 160) hx hb d_Ref_quick_252 (by decide) ?_
        exact ih ((i + 1)) ((upd cv (n - i - 1) (cv (n - i - 1)))) (by omega) (⟨by omega, q_upd hI.2 (hI.2 (n - i - 1) (by omega))⟩) _ _ ls (hP.sub [0, 1, 2, 3, 4] rfl) (hD.sub [0, 1, 2, 3, 4] (by decide) rfl) hS (lv_sub hl [1, 2, 3, 0] rfl)
      · refine lv_iconst (v := (-1)) hx hb d_Ref_quick_237 (by decide) ?_
        refine lv_goto (tgt := 248) hx hb d_Ref_quick_238 (by decide) ?_
        refine va_iast hx hb hK hP hD hS 3 0 rfl rfl (vp_in_nI (show ((n - i - 1)) < 82 by omega) (by omega)) d_Ref_quick_248 (fun H locs hP hD hS => ?_)
        have hP : va_P (dC, dI) classes [(r0, .inr (8, [.int th, .int ((nI N)), .int ((nI OU)), .int ((nI Z)), .ref r1, .ref r2, .int ((nI M)), .ref r3, .ref r4, .ref r5, .ref r6, .ref r7, .ref r8, .int ((nI PK)), .ref r9, .int kp, .ref r10, .ref r11, .int ((nI TK)), .ref r12, .int qc, .ref r13, .ref r14, .int bst, .ref r15])), (r7, .inl (cI, 81, .inl pc)), (r8, .inl (cI, 81, .inl pt)), (r13, .inl (cI, 82, .inl ((upd cv (nI ((n - i - 1))).toNatClampNeg ((-1)))))), (r14, .inl (cI, 82, .inl be))] H := hP
        have hD : va_D A [(r0, .inr (8, [.int th, .int ((nI N)), .int ((nI OU)), .int ((nI Z)), .ref r1, .ref r2, .int ((nI M)), .ref r3, .ref r4, .ref r5, .ref r6, .ref r7, .ref r8, .int ((nI PK)), .ref r9, .int kp, .ref r10, .ref r11, .int ((nI TK)), .ref r12, .int qc, .ref r13, .ref r14, .int bst, .ref r15])), (r7, .inl (cI, 81, .inl pc)), (r8, .inl (cI, 81, .inl pt)), (r13, .inl (cI, 82, .inl ((upd cv (nI ((n - i - 1))).toNatClampNeg ((-1)))))), (r14, .inl (cI, 82, .inl be))] := hD
        rw [show (nI ((n - i - 1))).toNatClampNeg = n - i - 1 from nI_clamp (by omega)] at hP hD
        refine lv_iinc (v := (nI (n - (i + 1)) - 1)) (lv' := [(4, .int ((nI (n - (i + 1)) - 1))), (0, .ref r0), (1, .int wt), (2, .int ((nI n))), (5, .int ot__1)]) hx hb d_Ref_quick_249 hl (k := 3) rfl (show nI (n - i - 1) + (-1) = nI (n - (i + 1)) - 1 from dwn_s hlt) (by decide) rfl (fun ls hl => ?_)
        refine lv_goto (tgt := 160) hx hb d_Ref_quick_252 (by decide) ?_
        exact ih ((i + 1)) ((upd cv (n - i - 1) (-1))) (by omega) (⟨by omega, q_upd hI.2 (Or.inl rfl)⟩) _ _ ls (hP.sub [0, 1, 2, 3, 4] rfl) (hD.sub [0, 1, 2, 3, 4] (by decide) rfl) hS (lv_sub hl [1, 2, 3, 0] rfl)
set_option maxHeartbeats 1000000 in
set_option maxRecDepth 100000 in
theorem lg_Ref_quick4 {p : Program} {e : Env} {s : State} {m : MethodId} {args : Array Value} {below : List Frame} {meth : Method} {c : Code} {Q : State → Prop} (l : Launch) (dC : Nat → ClassId) (dI : Nat → Nat → Nat) (cI cJ : ClassId) (r0 : Nat) (th : Int32) (N : Nat) (OU : Nat) (Z : Nat) (r1 : Nat) (r2 : Nat) (M : Nat) (r3 : Nat) (r4 : Nat) (r5 : Nat) (r6 : Nat) (r7 : Nat) (r8 : Nat) (PK : Nat) (r9 : Nat) (kp : Int32) (r10 : Nat) (r11 : Nat) (TK : Nat) (r12 : Nat) (qc : Int32) (r13 : Nat) (r14 : Nat) (bst : Int32) (r15 : Nat) (pc : Nat → Int32) (pt : Nat → Int32) (ch : Nat → Int32) (be : Nat → Int32) (wt : Int32) (hPK : PK ≤ 81) (hcov : ∀ e, e < 32 → bt wt e = true → ∃ k, k < PK ∧ bt (pt k) e = true) (n : Nat) (cv : Nat → Int32) (i : Nat) (hn : n ≤ 32) (hi : i < PK) (hx : p.tables.exec = Jvm.exec) (hb : c.code = b_Ref_quick) (hts : ∀ w ∈ lwg, w.before args s = true) (hown : s.vm.findClass R_Ref = some m.cls) (hml : c.maxLocals = 9) (hK : va_K (dC, dI) classes [(cI, .int), (cJ, .long)] s) {A : Nat → Prop} (hA : ∀ q : Nat, s.heap.size ≤ q → A q) (kk : ∀ (mn : Nat) (bx : Nat → Int32), (mn = cnt (qlt cv (i + 1)) n ∧ ∀ t, t < mn → ∃ c, c < PK ∧ bx t = nI c) → ∀ (H : Heap) (locs : List Loc) (ls : Array Slot), va_P (dC, dI) classes [(r0, .inr (8, [.int th, .int ((nI N)), .int ((nI OU)), .int ((nI Z)), .ref r1, .ref r2, .int ((nI M)), .ref r3, .ref r4, .ref r5, .ref r6, .ref r7, .ref r8, .int ((nI PK)), .ref r9, .int kp, .ref r10, .ref r11, .int ((nI TK)), .ref r12, .int qc, .ref r13, .ref r14, .int bst, .ref r15])), (r7, .inl (cI, 81, .inl pc)), (r8, .inl (cI, 81, .inl pt)), (r13, .inl (cI, 82, .inl cv)), (r14, .inl (cI, 82, .inl bx))] H → va_D A [(r0, .inr (8, [.int th, .int ((nI N)), .int ((nI OU)), .int ((nI Z)), .ref r1, .ref r2, .int ((nI M)), .ref r3, .ref r4, .ref r5, .ref r6, .ref r7, .ref r8, .int ((nI PK)), .ref r9, .int kp, .ref r10, .ref r11, .int ((nI TK)), .ref r12, .int qc, .ref r13, .ref r14, .int bst, .ref r15])), (r7, .inl (cI, 81, .inl pc)), (r8, .inl (cI, 81, .inl pt)), (r13, .inl (cI, 82, .inl cv)), (r14, .inl (cI, 82, .inl bx))] → va_S A s.heap H locs → lv_has ls 9 [(0, .ref r0), (2, .int ((nI n))), (4, .int ((nI mn))), (5, .int ((nI i)))] → W p l e ({ frames := 1, cells := 0, slots := 0, locals := 22 } : Room) s m args below meth c H locs 0 0 Q (F0 m 309 ls [])) : ∀ (fu : Nat) (k : Nat) (mn : Nat) (bx : Nat → Int32), n - k < fu → (k ≤ n ∧ mn = cnt (qlt cv i) n + cnt (qeq cv i) k ∧ ∀ t, t < mn → ∃ c, c < PK ∧ bx t = nI c) → ∀ (H : Heap) (locs : List Loc) (ls : Array Slot), va_P (dC, dI) classes [(r0, .inr (8, [.int th, .int ((nI N)), .int ((nI OU)), .int ((nI Z)), .ref r1, .ref r2, .int ((nI M)), .ref r3, .ref r4, .ref r5, .ref r6, .ref r7, .ref r8, .int ((nI PK)), .ref r9, .int kp, .ref r10, .ref r11, .int ((nI TK)), .ref r12, .int qc, .ref r13, .ref r14, .int bst, .ref r15])), (r7, .inl (cI, 81, .inl pc)), (r8, .inl (cI, 81, .inl pt)), (r13, .inl (cI, 82, .inl cv)), (r14, .inl (cI, 82, .inl bx))] H → va_D A [(r0, .inr (8, [.int th, .int ((nI N)), .int ((nI OU)), .int ((nI Z)), .ref r1, .ref r2, .int ((nI M)), .ref r3, .ref r4, .ref r5, .ref r6, .ref r7, .ref r8, .int ((nI PK)), .ref r9, .int kp, .ref r10, .ref r11, .int ((nI TK)), .ref r12, .int qc, .ref r13, .ref r14, .int bst, .ref r15])), (r7, .inl (cI, 81, .inl pc)), (r8, .inl (cI, 81, .inl pt)), (r13, .inl (cI, 82, .inl cv)), (r14, .inl (cI, 82, .inl bx))] → va_S A s.heap H locs → lv_has ls 9 [(0, .ref r0), (2, .int ((nI n))), (4, .int ((nI mn))), (5, .int ((nI i))), (6, .int ((nI k)))] → W p l e ({ frames := 1, cells := 0, slots := 0, locals := 22 } : Room) s m args below meth c H locs 0 0 Q (F0 m 273 ls []) := by
  intro fu
  induction fu with
  | zero => intro k mn bx h; exact absurd h (Nat.not_lt_zero _)
  | succ fu ih =>
    intro k mn bx hmu hI H locs ls hP hD hS hl
    have hI1 := hI.1
    have hI2 := hI.2.1
    refine lv_iload hx hb d_Ref_quick_273 (lv_at hl 4 rfl) ?_
    refine lv_iload_n hx hb d_Ref_quick_275 rfl (lv_at hl 1 rfl) ?_
    refine lv_icmp_ge (tgt := 309) hx hb d_Ref_quick_276 (by decide) (fun c_276 => ?_) (fun c_276 => ?_)
    · exact kk mn bx (⟨by rw [q_split cv (by omega) n, hI.2.1, show k = n from Nat.le_antisymm hI.1 ((nI_leI (a := n) (b := k) (by omega) (by omega)).mp c_276)], hI.2.2⟩) _ _ ls (hP.sub [0, 1, 2, 3, 4] rfl) (hD.sub [0, 1, 2, 3, 4] (by decide) rfl) hS (lv_sub hl [0, 1, 2, 3] rfl)
    · have hlt : k < n := Nat.lt_of_not_le (fun h => c_276 ((nI_leI (a := n) (b := k) (by omega) (by omega)).mpr h))
      refine lv_aload_n hx hb d_Ref_quick_279 rfl (lv_at hl 0 rfl) ?_
      refine va_get (D := (dC, dI)) (ci := 8) (v := .ref r13) (C := R_Ref) (T := F_Ref) (N := 25) hx hb hts i_Ref hown hK hP 0 rfl rfl 21 (by decide) (hts _ mw_fl_Ref_46) (fun _ h9 => h9) rfl d_Ref_quick_280 ?_
      refine lv_iload hx hb d_Ref_quick_283 (lv_at hl 4 rfl) ?_
      refine va_iald hx hb hK hP 3 0 rfl rfl (vp_in_nI (show k < 82 by omega) (by omega)) d_Ref_quick_285 ?_
      refine w_ti (show _ = cv k from by rw [nI_clamp (by omega)]) ?_
      refine lv_iload hx hb d_Ref_quick_286 (lv_at hl 3 rfl) ?_
      refine lv_icmp_ne (tgt := 303) hx hb d_Ref_quick_288 (by decide) (fun c_288 => ?_) (fun c_288 => ?_)
      · refine lv_iinc (v := (nI (k + 1))) (lv' := [(6, .int ((nI (k + 1)))), (0, .ref r0), (2, .int ((nI n))), (4, .int ((nI mn))), (5, .int ((nI i)))]) hx hb d_Ref_quick_303 hl (k := 4) rfl (show nI k + 1 = nI (k + 1) from nI_1 _) (by decide) rfl (fun ls hl => ?_)
        refine lv_goto (tgt := 273) hx hb d_Ref_quick_306 (by decide) ?_
        exact ih ((k + 1)) mn bx (by omega) (⟨by omega, by rw [cnt_s, if_neg (show ¬ qeq cv i k = true from fun h => c_288 (decide_eq_true_eq.mp h))]; exact hI.2.1, hI.2.2⟩) _ _ ls (hP.sub [0, 1, 2, 3, 4] rfl) (hD.sub [0, 1, 2, 3, 4] (by decide) rfl) hS (lv_sub hl [1, 2, 3, 4, 0] rfl)
      · have hm9 := q_mn (cv := cv) (show i < 81 by omega) hlt hn c_288
        refine lv_aload_n hx hb d_Ref_quick_291 rfl (lv_at hl 0 rfl) ?_
        refine va_get (D := (dC, dI)) (ci := 8) (v := .ref r14) (C := R_Ref) (T := F_Ref) (N := 25) hx hb hts i_Ref hown hK hP 0 rfl rfl 22 (by decide) (hts _ mw_fl_Ref_49) (fun _ h9 => h9) rfl d_Ref_quick_292 ?_
        refine lv_iload hx hb d_Ref_quick_295 (lv_at hl 2 rfl) ?_
        refine lv_iload hx hb d_Ref_quick_297 (lv_at hl 3 rfl) ?_
        refine va_iast hx hb hK hP hD hS 4 0 rfl rfl (vp_in_nI (show mn < 82 by omega) (by omega)) d_Ref_quick_299 (fun H locs hP hD hS => ?_)
        have hP : va_P (dC, dI) classes [(r0, .inr (8, [.int th, .int ((nI N)), .int ((nI OU)), .int ((nI Z)), .ref r1, .ref r2, .int ((nI M)), .ref r3, .ref r4, .ref r5, .ref r6, .ref r7, .ref r8, .int ((nI PK)), .ref r9, .int kp, .ref r10, .ref r11, .int ((nI TK)), .ref r12, .int qc, .ref r13, .ref r14, .int bst, .ref r15])), (r7, .inl (cI, 81, .inl pc)), (r8, .inl (cI, 81, .inl pt)), (r13, .inl (cI, 82, .inl cv)), (r14, .inl (cI, 82, .inl ((upd bx (nI mn).toNatClampNeg ((nI i))))))] H := hP
        have hD : va_D A [(r0, .inr (8, [.int th, .int ((nI N)), .int ((nI OU)), .int ((nI Z)), .ref r1, .ref r2, .int ((nI M)), .ref r3, .ref r4, .ref r5, .ref r6, .ref r7, .ref r8, .int ((nI PK)), .ref r9, .int kp, .ref r10, .ref r11, .int ((nI TK)), .ref r12, .int qc, .ref r13, .ref r14, .int bst, .ref r15])), (r7, .inl (cI, 81, .inl pc)), (r8, .inl (cI, 81, .inl pt)), (r13, .inl (cI, 82, .inl cv)), (r14, .inl (cI, 82, .inl ((upd bx (nI mn).toNatClampNeg ((nI i))))))] := hD
        rw [show (nI mn).toNatClampNeg = mn from nI_clamp (by omega)] at hP hD
        refine lv_iinc (v := (nI (mn + 1))) (lv' := [(4, .int ((nI (mn + 1)))), (0, .ref r0), (2, .int ((nI n))), (5, .int ((nI i))), (6, .int ((nI k)))]) hx hb d_Ref_quick_300 hl (k := 2) rfl (show nI mn + 1 = nI (mn + 1) from nI_1 _) (by decide) rfl (fun ls hl => ?_)
        refine lv_iinc (v := (nI (k + 1))) (lv' := [(6, .int ((nI (k + 1)))), (4, .int ((nI (mn + 1)))), (0, .ref r0), (2, .int ((nI n))), (5, .int ((nI i)))]) hx hb d_Ref_quick_303 hl (k := 4) rfl (show nI k + 1 = nI (k + 1) from nI_1 _) (by decide) rfl (fun ls hl => ?_)
        refine lv_goto (tgt := 273) hx hb d_Ref_quick_306 (by decide) ?_
        exact ih ((k + 1)) ((mn + 1)) ((upd bx mn (nI i))) (by omega) (⟨by omega, by rw [cnt_s, if_pos (show qeq cv i k = true from decide_eq_true c_288)]; omega, q_ext hI.2.2 hi⟩) _ _ ls (hP.sub [0, 1, 2, 3, 4] rfl) (hD.sub [0, 1, 2, 3, 4] (by decide) rfl) hS (lv_sub hl [2, 3, 1, 4, 0] rfl)
set_option maxHeartbeats 1000000 in
set_option maxRecDepth 100000 in
theorem lg_Ref_quick5 {p : Program} {e : Env} {s : State} {m : MethodId} {args : Array Value} {below : List Frame} {meth : Method} {c : Code} {Q : State → Prop} (l : Launch) (dC : Nat → ClassId) (dI : Nat → Nat → Nat) (cI cJ : ClassId) (r0 : Nat) (th : Int32) (N : Nat) (OU : Nat) (Z : Nat) (r1 : Nat) (r2 : Nat) (M : Nat) (r3 : Nat) (r4 : Nat) (r5 : Nat) (r6 : Nat) (r7 : Nat) (r8 : Nat) (PK : Nat) (r9 : Nat) (kp : Int32) (r10 : Nat) (r11 : Nat) (TK : Nat) (r12 : Nat) (qc : Int32) (r13 : Nat) (r14 : Nat) (bst : Int32) (r15 : Nat) (pc : Nat → Int32) (pt : Nat → Int32) (ch : Nat → Int32) (be : Nat → Int32) (wt : Int32) (hPK : PK ≤ 81) (hcov : ∀ e, e < 32 → bt wt e = true → ∃ k, k < PK ∧ bt (pt k) e = true) (n : Nat) (cv : Nat → Int32) (hn : n ≤ 32) (hx : p.tables.exec = Jvm.exec) (hb : c.code = b_Ref_quick) (hts : ∀ w ∈ lwg, w.before args s = true) (hown : s.vm.findClass R_Ref = some m.cls) (hml : c.maxLocals = 9) (hK : va_K (dC, dI) classes [(cI, .int), (cJ, .long)] s) {A : Nat → Prop} (hA : ∀ q : Nat, s.heap.size ≤ q → A q) (kk : ∀ (mn : Nat) (bx : Nat → Int32), (mn ≤ 81 ∧ ∀ t, t < mn → ∃ c, c < PK ∧ bx t = nI c) → ∀ (H : Heap) (locs : List Loc) (ls : Array Slot), va_P (dC, dI) classes [(r0, .inr (8, [.int th, .int ((nI N)), .int ((nI OU)), .int ((nI Z)), .ref r1, .ref r2, .int ((nI M)), .ref r3, .ref r4, .ref r5, .ref r6, .ref r7, .ref r8, .int ((nI PK)), .ref r9, .int kp, .ref r10, .ref r11, .int ((nI TK)), .ref r12, .int qc, .ref r13, .ref r14, .int bst, .ref r15])), (r7, .inl (cI, 81, .inl pc)), (r8, .inl (cI, 81, .inl pt)), (r13, .inl (cI, 82, .inl cv)), (r14, .inl (cI, 82, .inl bx))] H → va_D A [(r0, .inr (8, [.int th, .int ((nI N)), .int ((nI OU)), .int ((nI Z)), .ref r1, .ref r2, .int ((nI M)), .ref r3, .ref r4, .ref r5, .ref r6, .ref r7, .ref r8, .int ((nI PK)), .ref r9, .int kp, .ref r10, .ref r11, .int ((nI TK)), .ref r12, .int qc, .ref r13, .ref r14, .int bst, .ref r15])), (r7, .inl (cI, 81, .inl pc)), (r8, .inl (cI, 81, .inl pt)), (r13, .inl (cI, 82, .inl cv)), (r14, .inl (cI, 82, .inl bx))] → va_S A s.heap H locs → lv_has ls 9 [(0, .ref r0), (4, .int ((nI mn)))] → W p l e ({ frames := 1, cells := 0, slots := 0, locals := 22 } : Room) s m args below meth c H locs 0 0 Q (F0 m 315 ls [])) : ∀ (fu : Nat) (i : Nat) (mn : Nat) (bx : Nat → Int32), PK - i < fu → (i ≤ PK ∧ mn = cnt (qlt cv i) n ∧ ∀ t, t < mn → ∃ c, c < PK ∧ bx t = nI c) → ∀ (H : Heap) (locs : List Loc) (ls : Array Slot), va_P (dC, dI) classes [(r0, .inr (8, [.int th, .int ((nI N)), .int ((nI OU)), .int ((nI Z)), .ref r1, .ref r2, .int ((nI M)), .ref r3, .ref r4, .ref r5, .ref r6, .ref r7, .ref r8, .int ((nI PK)), .ref r9, .int kp, .ref r10, .ref r11, .int ((nI TK)), .ref r12, .int qc, .ref r13, .ref r14, .int bst, .ref r15])), (r7, .inl (cI, 81, .inl pc)), (r8, .inl (cI, 81, .inl pt)), (r13, .inl (cI, 82, .inl cv)), (r14, .inl (cI, 82, .inl bx))] H → va_D A [(r0, .inr (8, [.int th, .int ((nI N)), .int ((nI OU)), .int ((nI Z)), .ref r1, .ref r2, .int ((nI M)), .ref r3, .ref r4, .ref r5, .ref r6, .ref r7, .ref r8, .int ((nI PK)), .ref r9, .int kp, .ref r10, .ref r11, .int ((nI TK)), .ref r12, .int qc, .ref r13, .ref r14, .int bst, .ref r15])), (r7, .inl (cI, 81, .inl pc)), (r8, .inl (cI, 81, .inl pt)), (r13, .inl (cI, 82, .inl cv)), (r14, .inl (cI, 82, .inl bx))] → va_S A s.heap H locs → lv_has ls 9 [(0, .ref r0), (2, .int ((nI n))), (4, .int ((nI mn))), (5, .int ((nI i)))] → W p l e ({ frames := 1, cells := 0, slots := 0, locals := 22 } : Room) s m args below meth c H locs 0 0 Q (F0 m 261 ls []) := by
  intro fu
  induction fu with
  | zero => intro i mn bx h; exact absurd h (Nat.not_lt_zero _)
  | succ fu ih =>
    intro i mn bx hmu hI H locs ls hP hD hS hl
    have hI1 := hI.1
    refine lv_iload hx hb d_Ref_quick_261 (lv_at hl 3 rfl) ?_
    refine lv_aload_n hx hb d_Ref_quick_263 rfl (lv_at hl 0 rfl) ?_
    refine va_get (D := (dC, dI)) (ci := 8) (v := .int ((nI PK))) (C := R_Ref) (T := F_Ref) (N := 25) hx hb hts i_Ref hown hK hP 0 rfl rfl 13 (by decide) (hts _ mw_fl_Ref_82) (fun _ h9 => h9) rfl d_Ref_quick_264 ?_
    refine lv_icmp_ge (tgt := 315) hx hb d_Ref_quick_267 (by decide) (fun c_267 => ?_) (fun c_267 => ?_)
    · exact kk mn bx (⟨by have := cnt_le (qlt cv i) n; have := hI.2.1; omega, hI.2.2⟩) _ _ ls (hP.sub [0, 1, 2, 3, 4] rfl) (hD.sub [0, 1, 2, 3, 4] (by decide) rfl) hS (lv_sub hl [0, 2] rfl)
    · have hlt : i < PK := Nat.lt_of_not_le (fun h => c_267 ((nI_leI (a := PK) (b := i) (by omega) (by omega)).mpr h))
      refine lv_iconst (v := 0) hx hb d_Ref_quick_270 (by decide) ?_
      refine lv_istore (lv' := [(6, .int 0), (0, .ref r0), (2, .int ((nI n))), (4, .int ((nI mn))), (5, .int ((nI i)))]) hx hb d_Ref_quick_271 hl (by decide) rfl (fun ls hl => ?_)
      refine lg_Ref_quick4 l dC dI cI cJ r0 th N OU Z r1 r2 M r3 r4 r5 r6 r7 r8 PK r9 kp r10 r11 TK r12 qc r13 r14 bst r15 pc pt ch be wt hPK hcov n cv i hn hlt hx hb hts hown hml hK hA (fun mn__1 bx__2 hI__3 H locs ls hP hD hS hl => ?_) _ 0 mn bx (Nat.lt_succ_self _) (⟨Nat.zero_le _, hI.2.1, hI.2.2⟩) _ _ ls (hP.sub [0, 1, 2, 3, 4] rfl) (hD.sub [0, 1, 2, 3, 4] (by decide) rfl) hS (lv_sub hl [1, 2, 3, 4, 0] rfl)
      have hP : va_P (dC, dI) classes [(r0, .inr (8, [.int th, .int ((nI N)), .int ((nI OU)), .int ((nI Z)), .ref r1, .ref r2, .int ((nI M)), .ref r3, .ref r4, .ref r5, .ref r6, .ref r7, .ref r8, .int ((nI PK)), .ref r9, .int kp, .ref r10, .ref r11, .int ((nI TK)), .ref r12, .int qc, .ref r13, .ref r14, .int bst, .ref r15])), (r7, .inl (cI, 81, .inl pc)), (r8, .inl (cI, 81, .inl pt)), (r13, .inl (cI, 82, .inl cv)), (r14, .inl (cI, 82, .inl bx__2))] H := hP
      have hD : va_D A [(r0, .inr (8, [.int th, .int ((nI N)), .int ((nI OU)), .int ((nI Z)), .ref r1, .ref r2, .int ((nI M)), .ref r3, .ref r4, .ref r5, .ref r6, .ref r7, .ref r8, .int ((nI PK)), .ref r9, .int kp, .ref r10, .ref r11, .int ((nI TK)), .ref r12, .int qc, .ref r13, .ref r14, .int bst, .ref r15])), (r7, .inl (cI, 81, .inl pc)), (r8, .inl (cI, 81, .inl pt)), (r13, .inl (cI, 82, .inl cv)), (r14, .inl (cI, 82, .inl bx__2))] := hD
      have hl : lv_has ls 9 [(0, .ref r0), (2, .int ((nI n))), (4, .int ((nI mn__1))), (5, .int ((nI i)))] := hl
      refine lv_iinc (v := (nI (i + 1))) (lv' := [(5, .int ((nI (i + 1)))), (0, .ref r0), (2, .int ((nI n))), (4, .int ((nI mn__1)))]) hx hb d_Ref_quick_309 hl (k := 3) rfl (show nI i + 1 = nI (i + 1) from nI_1 _) (by decide) rfl (fun ls hl => ?_)
      refine lv_goto (tgt := 261) hx hb d_Ref_quick_312 (by decide) ?_
      exact ih ((i + 1)) mn__1 bx__2 (by omega) (⟨by omega, hI__3⟩) _ _ ls (hP.sub [0, 1, 2, 3, 4] rfl) (hD.sub [0, 1, 2, 3, 4] (by decide) rfl) hS (lv_sub hl [1, 2, 3, 0] rfl)
set_option maxHeartbeats 1000000 in
set_option maxRecDepth 100000 in
theorem c_Ref_quick (l : Launch) (dC : Nat → ClassId) (dI : Nat → Nat → Nat) (cI cJ : ClassId) (sz0 : Nat) (r0 : Nat) (th : Int32) (N : Nat) (OU : Nat) (Z : Nat) (r1 : Nat) (r2 : Nat) (M : Nat) (r3 : Nat) (r4 : Nat) (r5 : Nat) (r6 : Nat) (r7 : Nat) (r8 : Nat) (PK : Nat) (r9 : Nat) (kp : Int32) (r10 : Nat) (r11 : Nat) (TK : Nat) (r12 : Nat) (qc : Int32) (r13 : Nat) (r14 : Nat) (bst : Int32) (r15 : Nat) (pc : Nat → Int32) (pt : Nat → Int32) (ch : Nat → Int32) (be : Nat → Int32) (wt : Int32) (hPK : PK ≤ 81) (hcov : ∀ e, e < 32 → bt wt e = true → ∃ k, k < PK ∧ bt (pt k) e = true) : Met l y_Ref_quick (ct y_Ref_quick b_Ref_quick 9 (some .int)) ({ frames := 1, cells := 0, slots := 0, locals := 22 }) (va_Pc [.ref r0, .int wt] (fun U => U.heap.size = sz0 ∧ va_P (dC, dI) classes [(r0, .inr (8, [.int th, .int ((nI N)), .int ((nI OU)), .int ((nI Z)), .ref r1, .ref r2, .int ((nI M)), .ref r3, .ref r4, .ref r5, .ref r6, .ref r7, .ref r8, .int ((nI PK)), .ref r9, .int kp, .ref r10, .ref r11, .int ((nI TK)), .ref r12, .int qc, .ref r13, .ref r14, .int bst, .ref r15])), (r7, .inl (cI, 81, .inl pc)), (r8, .inl (cI, 81, .inl pt)), (r13, .inl (cI, 82, .inl ch)), (r14, .inl (cI, 82, .inl be))] U.heap ∧ va_K (dC, dI) classes [(cI, .int), (cJ, .long)] U ∧ va_D (fun _ => True) [(r0, .inr (8, [.int th, .int ((nI N)), .int ((nI OU)), .int ((nI Z)), .ref r1, .ref r2, .int ((nI M)), .ref r3, .ref r4, .ref r5, .ref r6, .ref r7, .ref r8, .int ((nI PK)), .ref r9, .int kp, .ref r10, .ref r11, .int ((nI TK)), .ref r12, .int qc, .ref r13, .ref r14, .int bst, .ref r15])), (r7, .inl (cI, 81, .inl pc)), (r8, .inl (cI, 81, .inl pt)), (r13, .inl (cI, 82, .inl ch)), (r14, .inl (cI, 82, .inl be))])) (va_Qi (fun (r : Int32) (u : (Nat) × (Nat → Int32) × (Nat → Int32)) => match u with | (mn, bex, chx) => r = nI mn ∧ mn ≤ 81 ∧ ∀ t, t < mn → ∃ c, c < PK ∧ bex t = nI c) (fun (u : (Nat) × (Nat → Int32) × (Nat → Int32)) => match u with | (mn, bex, chx) => at_w dC dI cI cJ (va_A [(r0, .inr (8, [.int th, .int ((nI N)), .int ((nI OU)), .int ((nI Z)), .ref r1, .ref r2, .int ((nI M)), .ref r3, .ref r4, .ref r5, .ref r6, .ref r7, .ref r8, .int ((nI PK)), .ref r9, .int kp, .ref r10, .ref r11, .int ((nI TK)), .ref r12, .int qc, .ref r13, .ref r14, .int bst, .ref r15])), (r7, .inl (cI, 81, .inl pc)), (r8, .inl (cI, 81, .inl pt)), (r13, .inl (cI, 82, .inl ch)), (r14, .inl (cI, 82, .inl be))] sz0) [(r0, .inr (8, [.int th, .int ((nI N)), .int ((nI OU)), .int ((nI Z)), .ref r1, .ref r2, .int ((nI M)), .ref r3, .ref r4, .ref r5, .ref r6, .ref r7, .ref r8, .int ((nI PK)), .ref r9, .int kp, .ref r10, .ref r11, .int ((nI TK)), .ref r12, .int qc, .ref r13, .ref r14, .int bst, .ref r15])), (r7, .inl (cI, 81, .inl pc)), (r8, .inl (cI, 81, .inl pt)), (r13, .inl (cI, 82, .inl chx)), (r14, .inl (cI, 82, .inl bex))]) (va_A [(r0, .inr (8, [.int th, .int ((nI N)), .int ((nI OU)), .int ((nI Z)), .ref r1, .ref r2, .int ((nI M)), .ref r3, .ref r4, .ref r5, .ref r6, .ref r7, .ref r8, .int ((nI PK)), .ref r9, .int kp, .ref r10, .ref r11, .int ((nI TK)), .ref r12, .int qc, .ref r13, .ref r14, .int bst, .ref r15])), (r7, .inl (cI, 81, .inl pc)), (r8, .inl (cI, 81, .inl pt)), (r13, .inl (cI, 82, .inl ch)), (r14, .inl (cI, 82, .inl be))] sz0)) 0 0 (va_A [(r0, .inr (8, [.int th, .int ((nI N)), .int ((nI OU)), .int ((nI Z)), .ref r1, .ref r2, .int ((nI M)), .ref r3, .ref r4, .ref r5, .ref r6, .ref r7, .ref r8, .int ((nI PK)), .ref r9, .int kp, .ref r10, .ref r11, .int ((nI TK)), .ref r12, .int qc, .ref r13, .ref r14, .int bst, .ref r15])), (r7, .inl (cI, 81, .inl pc)), (r8, .inl (cI, 81, .inl pt)), (r13, .inl (cI, 82, .inl ch)), (r14, .inl (cI, 82, .inl be))] sz0) := by
  refine Met.ofW (cc := b_Ref_quick) (maxL := 9) (ret := some .int) (by decide) rfl ?_
  intro p e s m args below meth c s₁ B hml hv
  obtain ⟨rfl, hsz, hP, hK, hD0⟩ := hv
  have hx := B.exec
  have hb := B.bytes
  have hr := B.returns
  have hts : ∀ w ∈ lwg, w.before _ s = true := fun w h => atoms_spec (ws := ct y_Ref_quick b_Ref_quick 9 (some .int)) B.pre w (List.mem_cons_of_mem _ h)
  have hown : s.vm.findClass R_Ref = some m.cls := findClass_of_methodNamed B.named
  have hlocks := B.notSynchronized
  subst hsz
  have hD := hD0.self (sz := s.heap.size)
  generalize hAe : va_A [(r0, .inr (8, [.int th, .int ((nI N)), .int ((nI OU)), .int ((nI Z)), .ref r1, .ref r2, .int ((nI M)), .ref r3, .ref r4, .ref r5, .ref r6, .ref r7, .ref r8, .int ((nI PK)), .ref r9, .int kp, .ref r10, .ref r11, .int ((nI TK)), .ref r12, .int qc, .ref r13, .ref r14, .int bst, .ref r15])), (r7, .inl (cI, 81, .inl pc)), (r8, .inl (cI, 81, .inl pt)), (r13, .inl (cI, 82, .inl ch)), (r14, .inl (cI, 82, .inl be))] s.heap.size = A at hD ⊢
  have hA : ∀ q : Nat, s.heap.size ≤ q → A q := fun q h => by rw [← hAe]; exact Or.inr h
  have hS : va_S A s.heap s.heap [] := va_S.rf
  have hl := lv_entry ([.ref r0, .int wt]) (n := 9) (Nat.le_of_ble_eq_true rfl)
  rw [lg_entry_eq]
  generalize (lg_sl ([.ref r0, .int wt]) ++ List.replicate (9 - (lg_sl ([.ref r0, .int wt])).length) Slot.unset).toArray = ls at hl ⊢
  have hl : lv_has ls 9 [(0, .ref r0), (1, .int wt)] := hl
  have hP : va_P (dC, dI) classes [(r0, .inr (8, [.int th, .int ((nI N)), .int ((nI OU)), .int ((nI Z)), .ref r1, .ref r2, .int ((nI M)), .ref r3, .ref r4, .ref r5, .ref r6, .ref r7, .ref r8, .int ((nI PK)), .ref r9, .int kp, .ref r10, .ref r11, .int ((nI TK)), .ref r12, .int qc, .ref r13, .ref r14, .int bst, .ref r15])), (r7, .inl (cI, 81, .inl pc)), (r8, .inl (cI, 81, .inl pt)), (r13, .inl (cI, 82, .inl ch)), (r14, .inl (cI, 82, .inl be))] s.heap := hP
  refine lv_iconst (v := 0) hx hb d_Ref_quick_0 (by decide) ?_
  refine lv_istore_n (lv' := [(2, .int 0), (0, .ref r0), (1, .int wt)]) hx hb d_Ref_quick_1 rfl hl (by decide) rfl (fun ls hl => ?_)
  refine lv_iconst (v := 0) hx hb d_Ref_quick_2 (by decide) ?_
  refine lv_istore_n (lv' := [(3, .int 0), (2, .int 0), (0, .ref r0), (1, .int wt)]) hx hb d_Ref_quick_3 rfl hl (by decide) rfl (fun ls hl => ?_)
  refine lg_Ref_quick1 l dC dI cI cJ r0 th N OU Z r1 r2 M r3 r4 r5 r6 r7 r8 PK r9 kp r10 r11 TK r12 qc r13 r14 bst r15 pc pt ch be wt hPK hcov   hx hb hts hown hml hK hA (fun n__1 cv__2 hI__3 H locs ls hP hD hS hl => ?_) _ 0 0 ch (Nat.lt_succ_self _) (⟨by have := zc_le 0; omega, fun t ht => absurd ht (Nat.not_lt_zero t)⟩) _ _ ls (hP.sub [0, 1, 2, 3, 4] rfl) (hD.sub [0, 1, 2, 3, 4] (by decide) rfl) hS (lv_sub hl [2, 3, 1, 0] rfl)
  have hP : va_P (dC, dI) classes [(r0, .inr (8, [.int th, .int ((nI N)), .int ((nI OU)), .int ((nI Z)), .ref r1, .ref r2, .int ((nI M)), .ref r3, .ref r4, .ref r5, .ref r6, .ref r7, .ref r8, .int ((nI PK)), .ref r9, .int kp, .ref r10, .ref r11, .int ((nI TK)), .ref r12, .int qc, .ref r13, .ref r14, .int bst, .ref r15])), (r7, .inl (cI, 81, .inl pc)), (r8, .inl (cI, 81, .inl pt)), (r13, .inl (cI, 82, .inl cv__2)), (r14, .inl (cI, 82, .inl be))] H := hP
  have hD : va_D A [(r0, .inr (8, [.int th, .int ((nI N)), .int ((nI OU)), .int ((nI Z)), .ref r1, .ref r2, .int ((nI M)), .ref r3, .ref r4, .ref r5, .ref r6, .ref r7, .ref r8, .int ((nI PK)), .ref r9, .int kp, .ref r10, .ref r11, .int ((nI TK)), .ref r12, .int qc, .ref r13, .ref r14, .int bst, .ref r15])), (r7, .inl (cI, 81, .inl pc)), (r8, .inl (cI, 81, .inl pt)), (r13, .inl (cI, 82, .inl cv__2)), (r14, .inl (cI, 82, .inl be))] := hD
  have hl : lv_has ls 9 [(0, .ref r0), (1, .int wt), (2, .int ((nI n__1)))] := hl
  refine lv_iload_n hx hb d_Ref_quick_155 rfl (lv_at hl 2 rfl) ?_
  refine lv_iconst (v := 1) hx hb d_Ref_quick_156 (by decide) ?_
  refine lv_isub hx hb d_Ref_quick_157 ?_
  refine lv_istore (lv' := [(4, .int (((nI n__1) - 1))), (0, .ref r0), (1, .int wt), (2, .int ((nI n__1)))]) hx hb d_Ref_quick_158 hl (by decide) rfl (fun ls hl => ?_)
  have hl9 : lv_has ls 9 [(4, .int (((nI n__1) - 1))), (0, .ref r0), (1, .int wt), (2, .int ((nI n__1)))] := hl
  refine lg_Ref_quick3 l dC dI cI cJ r0 th N OU Z r1 r2 M r3 r4 r5 r6 r7 r8 PK r9 kp r10 r11 TK r12 qc r13 r14 bst r15 pc pt ch be wt hPK hcov n__1 (hI__3.1) hx hb hts hown hml hK hA (fun cv__4 hI__5 H locs ls hP hD hS hl => ?_) _ 0 cv__2 (Nat.lt_succ_self _) (⟨Nat.zero_le _, fun t ht => Or.inr (hI__3.2 t ht)⟩) _ _ ls (hP.sub [0, 1, 2, 3, 4] rfl) (hD.sub [0, 1, 2, 3, 4] (by decide) rfl) hS (lv_sub hl [1, 2, 3, 0] rfl)
  have hP : va_P (dC, dI) classes [(r0, .inr (8, [.int th, .int ((nI N)), .int ((nI OU)), .int ((nI Z)), .ref r1, .ref r2, .int ((nI M)), .ref r3, .ref r4, .ref r5, .ref r6, .ref r7, .ref r8, .int ((nI PK)), .ref r9, .int kp, .ref r10, .ref r11, .int ((nI TK)), .ref r12, .int qc, .ref r13, .ref r14, .int bst, .ref r15])), (r7, .inl (cI, 81, .inl pc)), (r8, .inl (cI, 81, .inl pt)), (r13, .inl (cI, 82, .inl cv__4)), (r14, .inl (cI, 82, .inl be))] H := hP
  have hD : va_D A [(r0, .inr (8, [.int th, .int ((nI N)), .int ((nI OU)), .int ((nI Z)), .ref r1, .ref r2, .int ((nI M)), .ref r3, .ref r4, .ref r5, .ref r6, .ref r7, .ref r8, .int ((nI PK)), .ref r9, .int kp, .ref r10, .ref r11, .int ((nI TK)), .ref r12, .int qc, .ref r13, .ref r14, .int bst, .ref r15])), (r7, .inl (cI, 81, .inl pc)), (r8, .inl (cI, 81, .inl pt)), (r13, .inl (cI, 82, .inl cv__4)), (r14, .inl (cI, 82, .inl be))] := hD
  have hl : lv_has ls 9 [(0, .ref r0), (1, .int wt), (2, .int ((nI n__1)))] := hl
  refine lv_iconst (v := 0) hx hb d_Ref_quick_255 (by decide) ?_
  refine lv_istore (lv' := [(4, .int 0), (0, .ref r0), (1, .int wt), (2, .int ((nI n__1)))]) hx hb d_Ref_quick_256 hl (by decide) rfl (fun ls hl => ?_)
  refine lv_iconst (v := 0) hx hb d_Ref_quick_258 (by decide) ?_
  refine lv_istore (lv' := [(5, .int 0), (4, .int 0), (0, .ref r0), (1, .int wt), (2, .int ((nI n__1)))]) hx hb d_Ref_quick_259 hl (by decide) rfl (fun ls hl => ?_)
  refine lg_Ref_quick5 l dC dI cI cJ r0 th N OU Z r1 r2 M r3 r4 r5 r6 r7 r8 PK r9 kp r10 r11 TK r12 qc r13 r14 bst r15 pc pt ch be wt hPK hcov n__1 cv__4 (hI__3.1) hx hb hts hown hml hK hA (fun mn__6 bx__7 hI__8 H locs ls hP hD hS hl => ?_) _ 0 0 be (Nat.lt_succ_self _) (⟨Nat.zero_le _, (cnt_0.mpr (fun k _ => decide_eq_false (fun h => Int32.lt_irrefl (Int32.lt_of_le_of_lt h.1 h.2)))).symm, fun t ht => absurd ht (Nat.not_lt_zero t)⟩) _ _ ls (hP.sub [0, 1, 2, 3, 4] rfl) (hD.sub [0, 1, 2, 3, 4] (by decide) rfl) hS (lv_sub hl [2, 4, 1, 0] rfl)
  have hP : va_P (dC, dI) classes [(r0, .inr (8, [.int th, .int ((nI N)), .int ((nI OU)), .int ((nI Z)), .ref r1, .ref r2, .int ((nI M)), .ref r3, .ref r4, .ref r5, .ref r6, .ref r7, .ref r8, .int ((nI PK)), .ref r9, .int kp, .ref r10, .ref r11, .int ((nI TK)), .ref r12, .int qc, .ref r13, .ref r14, .int bst, .ref r15])), (r7, .inl (cI, 81, .inl pc)), (r8, .inl (cI, 81, .inl pt)), (r13, .inl (cI, 82, .inl cv__4)), (r14, .inl (cI, 82, .inl bx__7))] H := hP
  have hD : va_D A [(r0, .inr (8, [.int th, .int ((nI N)), .int ((nI OU)), .int ((nI Z)), .ref r1, .ref r2, .int ((nI M)), .ref r3, .ref r4, .ref r5, .ref r6, .ref r7, .ref r8, .int ((nI PK)), .ref r9, .int kp, .ref r10, .ref r11, .int ((nI TK)), .ref r12, .int qc, .ref r13, .ref r14, .int bst, .ref r15])), (r7, .inl (cI, 81, .inl pc)), (r8, .inl (cI, 81, .inl pt)), (r13, .inl (cI, 82, .inl cv__4)), (r14, .inl (cI, 82, .inl bx__7))] := hD
  have hl : lv_has ls 9 [(0, .ref r0), (4, .int ((nI mn__6)))] := hl
  refine lv_iload hx hb d_Ref_quick_315 (lv_at hl 1 rfl) ?_
  have hP9 := hP.sub (ws' := [(r0, .inr (8, [.int th, .int ((nI N)), .int ((nI OU)), .int ((nI Z)), .ref r1, .ref r2, .int ((nI M)), .ref r3, .ref r4, .ref r5, .ref r6, .ref r7, .ref r8, .int ((nI PK)), .ref r9, .int kp, .ref r10, .ref r11, .int ((nI TK)), .ref r12, .int qc, .ref r13, .ref r14, .int bst, .ref r15])), (r7, .inl (cI, 81, .inl pc)), (r8, .inl (cI, 81, .inl pt)), (r13, .inl (cI, 82, .inl cv__4)), (r14, .inl (cI, 82, .inl bx__7))]) [0, 1, 2, 3, 4] rfl
  have hD9 := hD.sub (ws' := [(r0, .inr (8, [.int th, .int ((nI N)), .int ((nI OU)), .int ((nI Z)), .ref r1, .ref r2, .int ((nI M)), .ref r3, .ref r4, .ref r5, .ref r6, .ref r7, .ref r8, .int ((nI PK)), .ref r9, .int kp, .ref r10, .ref r11, .int ((nI TK)), .ref r12, .int qc, .ref r13, .ref r14, .int bst, .ref r15])), (r7, .inl (cI, 81, .inl pc)), (r8, .inl (cI, 81, .inl pt)), (r13, .inl (cI, 82, .inl cv__4)), (r14, .inl (cI, 82, .inl bx__7))]) [0, 1, 2, 3, 4] (by decide) rfl
  exact W.iret (v := (nI mn__6)) hx hb hr (fun t ht hW => ⟨⟨(nI mn__6), (mn__6, bx__7, cv__4), rfl, ⟨rfl, hI__8.1, hI__8.2⟩, by rw [ht]; exact hP9, va_K.moved hW.alike hK, hD9⟩, hS.F ht⟩) hS.2.2 d_Ref_quick_317
