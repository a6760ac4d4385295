/-! ===== the reference: kernels with its answer ===== -/
theorem itrA_ff {g : Nat → Bool} {x : Bool} {i : Nat} (h : itr (fun k acc => acc && g k) i x = false) : ∀ j, i ≤ j → itr (fun k acc => acc && g k) j x = false := by
  intro j hj
  induction j with
  | zero => rw [Nat.le_zero.mp hj] at h; exact h
  | succ j ih =>
    by_cases hE : i = j + 1
    · subst hE; exact h
    · rw [show itr (fun k acc => acc && g k) (j + 1) x = (itr (fun k acc => acc && g k) j x && g j) from rfl, ih (by omega)]; rfl
section KR
variable {rkp : Nat → Int32} {N TR Z b o i p : Nat} {sm : Int32} {ov isv fr sv : Bool}
theorem kSm_n (h : (sm, ov) = kSm rkp N TR b i p) (h0 : rIn rkp N (nI p) b TR = 0) : (sm, ov) = kSm rkp N TR b i (p + 1) := by
  rw [show kSm rkp N TR b i (p + 1) = (if qIn rkp N TR b p = true then (nI (rDig N p i), (kSm rkp N TR b i p).2 && (decide ((kSm rkp N TR b i p).1 < 0) || decide ((kSm rkp N TR b i p).1 = nI (rDig N p i)))) else kSm rkp N TR b i p) from rfl, if_neg (fun g => qIn_t.mp g h0)]
  exact h
theorem kSm_y (h : (sm, ov) = kSm rkp N TR b i p) (h0 : ¬ rIn rkp N (nI p) b TR = 0) : (nI (rDig N p i), ov && (decide (sm < 0) || decide (sm = nI (rDig N p i)))) = kSm rkp N TR b i (p + 1) := by
  rw [show kSm rkp N TR b i (p + 1) = (if qIn rkp N TR b p = true then (nI (rDig N p i), (kSm rkp N TR b i p).2 && (decide ((kSm rkp N TR b i p).1 < 0) || decide ((kSm rkp N TR b i p).1 = nI (rDig N p i)))) else kSm rkp N TR b i p) from rfl, if_pos (qIn_t.mpr h0), ← h]
theorem kIs_0 : kIs rkp N TR Z b 0 = decide (2 ≤ cnt (qIn rkp N TR b) Z) := rfl
theorem kIs_s (h : isv = kIs rkp N TR Z b i) (h1 : isv = true) (h2 : (sm, ov) = kSm rkp N TR b i Z) : (!ov || decide (sm = 2)) = kIs rkp N TR Z b (i + 1) := by
  rw [show kIs rkp N TR Z b (i + 1) = (kIs rkp N TR Z b i && (!(kSm rkp N TR b i Z).2 || decide ((kSm rkp N TR b i Z).1 = 2))) from rfl, ← h, h1, ← h2]
  rfl
theorem kIs_ff (h : isv = kIs rkp N TR Z b i) (h1 : isv = false) {j : Nat} (hj : i ≤ j) : isv = kIs rkp N TR Z b j := by
  rw [h1] at h ⊢
  exact (itrA_ff (g := fun i => !(kSm rkp N TR b i Z).2 || decide ((kSm rkp N TR b i Z).1 = 2)) (x := decide (2 ≤ cnt (qIn rkp N TR b) Z)) h.symm j hj).symm
theorem kSq_s (h : sv = kSq rkp N TR Z b o p) (h1 : sv = true) : decide (rIn rkp N (nI p) b TR = rIn rkp N (nI p) o TR) = kSq rkp N TR Z b o (p + 1) := by
  rw [show kSq rkp N TR Z b o (p + 1) = (kSq rkp N TR Z b o p && decide (rIn rkp N (nI p) b TR = rIn rkp N (nI p) o TR)) from rfl, ← h, h1]
  rfl
theorem kSq_ff (h : sv = kSq rkp N TR Z b o p) (h1 : sv = false) {j : Nat} (hj : p ≤ j) : sv = kSq rkp N TR Z b o j := by
  rw [h1] at h ⊢
  exact (itrA_ff (g := fun p => decide (rIn rkp N (nI p) b TR = rIn rkp N (nI p) o TR)) (x := kIs rkp N TR Z o N) h.symm j hj).symm
theorem kFr_s (h : fr = kFr rkp N TR Z b i) (h1 : fr = true) (h2 : sv = kSq rkp N TR Z b i Z) : (!sv) = kFr rkp N TR Z b (i + 1) := by
  rw [show kFr rkp N TR Z b (i + 1) = (kFr rkp N TR Z b i && !kSq rkp N TR Z b i Z) from rfl, ← h, h1, ← h2]
  rfl
theorem kFr_ff (h : fr = kFr rkp N TR Z b i) (h1 : fr = false) {j : Nat} (hj : i ≤ j) : fr = kFr rkp N TR Z b j := by
  rw [h1] at h ⊢
  exact (itrA_ff (g := fun o => !kSq rkp N TR Z b o Z) (x := kIs rkp N TR Z b N) h.symm j hj).symm
end KR
set_option maxHeartbeats 1000000 in
set_option maxRecDepth 100000 in
theorem lk_Ref_isKernel1 {p : Program} {e : Env} {s : State} {m : MethodId} {args : Array Value} {below : List Frame} {meth : Method} {c : Code} {Q : State → Prop} (l : Launch) (dC : Nat → ClassId) (dI : Nat → Nat → Nat) (cI cJ : ClassId) (r0 : Nat) (th : Int32) (N : Nat) (OU : Nat) (Z : Nat) (r1 : Nat) (r2 : Nat) (M : Nat) (r3 : Nat) (r4 : Nat) (r5 : Nat) (r6 : Nat) (r7 : Nat) (r8 : Nat) (PK : Nat) (r9 : Nat) (kp : Int32) (r10 : Nat) (r11 : Nat) (TK : Nat) (r12 : Nat) (qc : Int32) (r13 : Nat) (r14 : Nat) (bst : Int32) (r15 : Nat) (kpr : Nat → Int32) (by1 : Nat) (hN : N ≤ 4) (hZ : 3 ^ N = Z) (hTK : TK ≤ 81) (hkv : ∀ k, k < TK → vp_in (kpr k) 81) (hby : by1 < 81)   (hx : p.tables.exec = Jvm.exec) (hb : c.code = b_Ref_isKernel) (hts : ∀ w ∈ lwg, w.before args s = true) (hown : s.vm.findClass R_Ref = some m.cls) (hml : c.maxLocals = 8) (hK : va_K (dC, dI) classes [(cI, .int), (cJ, .long)] s) {A : Nat → Prop} (hA : ∀ q : Nat, s.heap.size ≤ q → A q) (kk : ∀ (cn : Nat), (cn = cnt (qIn kpr N TK by1) Z) → ∀ (H : Heap) (locs : List Loc) (ls : Array Slot), va_P (dC, dI) classes [(r0, .inr (8, [.int th, .int ((nI N)), .int ((nI OU)), .int ((nI Z)), .ref r1, .ref r2, .int ((nI M)), .ref r3, .ref r4, .ref r5, .ref r6, .ref r7, .ref r8, .int ((nI PK)), .ref r9, .int kp, .ref r10, .ref r11, .int ((nI TK)), .ref r12, .int qc, .ref r13, .ref r14, .int bst, .ref r15])), (r10, .inl (cI, 81, .inl kpr))] H → va_D A [(r0, .inr (8, [.int th, .int ((nI N)), .int ((nI OU)), .int ((nI Z)), .ref r1, .ref r2, .int ((nI M)), .ref r3, .ref r4, .ref r5, .ref r6, .ref r7, .ref r8, .int ((nI PK)), .ref r9, .int kp, .ref r10, .ref r11, .int ((nI TK)), .ref r12, .int qc, .ref r13, .ref r14, .int bst, .ref r15])), (r10, .inl (cI, 81, .inl kpr))] → va_S A s.heap H locs → lv_has ls 8 [(0, .ref r0), (1, .int ((nI by1))), (2, .int ((nI cn)))] → W p l e ({ frames := 3, cells := 0, slots := 0, locals := 74 } : Room) s m args below meth c H locs 0 0 Q (F0 m 35 ls [])) : ∀ (fu : Nat) (i : Nat) (cn : Nat), Z - i < fu → (i ≤ Z ∧ cn = cnt (qIn kpr N TK by1) i) → ∀ (H : Heap) (locs : List Loc) (ls : Array Slot), va_P (dC, dI) classes [(r0, .inr (8, [.int th, .int ((nI N)), .int ((nI OU)), .int ((nI Z)), .ref r1, .ref r2, .int ((nI M)), .ref r3, .ref r4, .ref r5, .ref r6, .ref r7, .ref r8, .int ((nI PK)), .ref r9, .int kp, .ref r10, .ref r11, .int ((nI TK)), .ref r12, .int qc, .ref r13, .ref r14, .int bst, .ref r15])), (r10, .inl (cI, 81, .inl kpr))] H → va_D A [(r0, .inr (8, [.int th, .int ((nI N)), .int ((nI OU)), .int ((nI Z)), .ref r1, .ref r2, .int ((nI M)), .ref r3, .ref r4, .ref r5, .ref r6, .ref r7, .ref r8, .int ((nI PK)), .ref r9, .int kp, .ref r10, .ref r11, .int ((nI TK)), .ref r12, .int qc, .ref r13, .ref r14, .int bst, .ref r15])), (r10, .inl (cI, 81, .inl kpr))] → va_S A s.heap H locs → lv_has ls 8 [(0, .ref r0), (1, .int ((nI by1))), (2, .int ((nI cn))), (3, .int ((nI i)))] → W p l e ({ frames := 3, cells := 0, slots := 0, locals := 74 } : Room) s m args below meth c H locs 0 0 Q (F0 m 4 ls []) := by
  intro fu
  induction fu with
  | zero => intro i cn h; exact absurd h (Nat.not_lt_zero _)
  | succ fu ih =>
    intro i cn hmu hI H locs ls hP hD hS hl
    have hZ8 : Z ≤ 81 := by rw [← hZ]; exact p3_81 hN
    have hI1 := hI.1
    refine lv_iload_n hx hb d_Ref_isKernel_4 rfl (lv_at hl 3 rfl) ?_
    refine lv_aload_n hx hb d_Ref_isKernel_5 rfl (lv_at hl 0 rfl) ?_
    refine va_get (D := (dC, dI)) (ci := 8) (v := .int ((nI Z))) (C := R_Ref) (T := F_Ref) (N := 25) hx hb hts i_Ref hown hK hP 0 rfl rfl 3 (by decide) (hts _ mw_fl_Ref_62) (fun _ h9 => h9) rfl d_Ref_isKernel_6 ?_
    refine lv_icmp_ge (tgt := 35) hx hb d_Ref_isKernel_9 (by decide) (fun c_9 => ?_) (fun c_9 => ?_)
    · have hE9 : i = Z := Nat.le_antisymm hI1 ((nI_leI (a := Z) (b := i) (by omega) (by omega)).mp c_9)
      have hI9 := hI.2
      rw [hE9] at hI9
      exact kk cn (hI9) _ _ ls (hP.sub [0, 1] rfl) (hD.sub [0, 1] (by decide) rfl) hS (lv_sub hl [0, 1, 2] rfl)
    · have hlt_i : i < Z := Nat.lt_of_not_le (fun h => c_9 ((nI_leI (a := Z) (b := i) (by omega) (by omega)).mpr h))
      refine lv_aload_n hx hb d_Ref_isKernel_12 rfl (lv_at hl 0 rfl) ?_
      refine lv_iload_n hx hb d_Ref_isKernel_13 rfl (lv_at hl 3 rfl) ?_
      refine lv_iload_n hx hb d_Ref_isKernel_14 rfl (lv_at hl 1 rfl) ?_
      refine vp_callSi (W.runV (As := [.int ((nI i)), .int ((nI by1))]) (rest := []) ⟨hx, hb, hml, hown, hts⟩ (c_Ref_isIn l dC dI cI cJ r0 th N OU Z r1 r2 M r3 r4 r5 r6 r7 r8 PK r9 kp r10 r11 TK r12 qc r13 r14 bst r15 kpr (nI i) (nI by1) hN hTK hkv (vp_in_nI hby (by omega))) (cwV 2 hts (ct_goodV mw_ml_Ref_126 mw_im_Ref_isIn mw_se_Ref_isIn mw_ini_Ref mw_code_Ref_isIn) rfl rfl rfl (by decide +kernel) ⟨Nat.le_of_ble_eq_true rfl, Nat.le_of_ble_eq_true rfl⟩) ⟨fun a U g mk q => by obtain ⟨q0, qP, qK⟩ := q; exact ⟨q0, qP, va_K.moved (u := U) (U := U.calling g mk a) (Vm.Alike.refl U.vm) qK⟩, va_recv hK hP (ci := 8) (q0 := 0) rfl rfl, fun U hU hW => ⟨rfl, by rw [hU]; exact hP, va_K.moved hW.alike hK⟩⟩ rfl rfl hl.1 rfl (lv_room (Nat.le_of_ble_eq_true rfl)) d_Ref_isKernel_15 ⟨Nat.le_of_ble_eq_true rfl, Nat.le_of_ble_eq_true rfl⟩) (fun r_1 hr_1 => ?_)
      rw [hr_1]
      clear hr_1
      refine w_ti (show _ = rIn kpr N (nI i) by1 TK from by rw [nI_clamp (by omega)]) ?_
      refine lv_if_eq (tgt := 27) hx hb d_Ref_isKernel_18 (by decide) (fun c_18 => ?_) (fun c_18 => ?_)
      · refine lv_iload_n hx hb d_Ref_isKernel_27 rfl (lv_at hl 2 rfl) ?_
        refine lv_istore_n (lv' := [(2, .int ((nI cn))), (0, .ref r0), (1, .int ((nI by1))), (3, .int ((nI i)))]) hx hb d_Ref_isKernel_28 rfl hl (by decide) rfl (fun ls hl => ?_)
        refine lv_iinc (v := (nI (i + 1))) (lv' := [(3, .int ((nI (i + 1)))), (2, .int ((nI cn))), (0, .ref r0), (1, .int ((nI by1)))]) hx hb d_Ref_isKernel_29 hl (k := 3) rfl (show nI i + 1 = nI (i + 1) from nI_1 _) (by decide) rfl (fun ls hl => ?_)
        refine lv_goto (tgt := 4) hx hb d_Ref_isKernel_32 (by decide) ?_
        exact ih ((i + 1)) cn (by omega) (⟨by omega, by rw [cnt_s, if_neg (fun g => qIn_t.mp g c_18)]; exact hI.2⟩) _ _ ls (hP.sub [0, 1] rfl) (hD.sub [0, 1] (by decide) rfl) hS (lv_sub hl [2, 3, 1, 0] rfl)
      · refine lv_iload_n hx hb d_Ref_isKernel_21 rfl (lv_at hl 2 rfl) ?_
        refine lv_iconst (v := 1) hx hb d_Ref_isKernel_22 (by decide) ?_
        refine lv_iadd hx hb d_Ref_isKernel_23 ?_
        refine w_ti (show _ = nI (cn + 1) from nI_1 cn) ?_
        refine lv_goto (tgt := 28) hx hb d_Ref_isKernel_24 (by decide) ?_
        refine lv_istore_n (lv' := [(2, .int ((nI (cn + 1)))), (0, .ref r0), (1, .int ((nI by1))), (3, .int ((nI i)))]) hx hb d_Ref_isKernel_28 rfl hl (by decide) rfl (fun ls hl => ?_)
        refine lv_iinc (v := (nI (i + 1))) (lv' := [(3, .int ((nI (i + 1)))), (2, .int ((nI (cn + 1)))), (0, .ref r0), (1, .int ((nI by1)))]) hx hb d_Ref_isKernel_29 hl (k := 3) rfl (show nI i + 1 = nI (i + 1) from nI_1 _) (by decide) rfl (fun ls hl => ?_)
        refine lv_goto (tgt := 4) hx hb d_Ref_isKernel_32 (by decide) ?_
        exact ih ((i + 1)) ((cn + 1)) (by omega) (⟨by omega, by rw [cnt_s, if_pos (qIn_t.mpr c_18), ← hI.2]⟩) _ _ ls (hP.sub [0, 1] rfl) (hD.sub [0, 1] (by decide) rfl) hS (lv_sub hl [2, 3, 1, 0] rfl)
set_option maxHeartbeats 1000000 in
set_option maxRecDepth 100000 in
theorem lk_Ref_isKernel3 {p : Program} {e : Env} {s : State} {m : MethodId} {args : Array Value} {below : List Frame} {meth : Method} {c : Code} {Q : State → Prop} (l : Launch) (dC : Nat → ClassId) (dI : Nat → Nat → Nat) (cI cJ : ClassId) (r0 : Nat) (th : Int32) (N : Nat) (OU : Nat) (Z : Nat) (r1 : Nat) (r2 : Nat) (M : Nat) (r3 : Nat) (r4 : Nat) (r5 : Nat) (r6 : Nat) (r7 : Nat) (r8 : Nat) (PK : Nat) (r9 : Nat) (kp : Int32) (r10 : Nat) (r11 : Nat) (TK : Nat) (r12 : Nat) (qc : Int32) (r13 : Nat) (r14 : Nat) (bst : Int32) (r15 : Nat) (kpr : Nat → Int32) (by1 : Nat) (hN : N ≤ 4) (hZ : 3 ^ N = Z) (hTK : TK ≤ 81) (hkv : ∀ k, k < TK → vp_in (kpr k) 81) (hby : by1 < 81) (isv : Bool) (iv : Nat) (hiv : iv < N) (hx : p.tables.exec = Jvm.exec) (hb : c.code = b_Ref_isKernel) (hts : ∀ w ∈ lwg, w.before args s = true) (hown : s.vm.findClass R_Ref = some m.cls) (hml : c.maxLocals = 8) (hK : va_K (dC, dI) classes [(cI, .int), (cJ, .long)] s) {A : Nat → Prop} (hA : ∀ q : Nat, s.heap.size ≤ q → A q) (kk : ∀ (sm : Int32) (ov : Bool), ((sm, ov) = kSm kpr N TK by1 iv Z) → ∀ (H : Heap) (locs : List Loc) (ls : Array Slot), va_P (dC, dI) classes [(r0, .inr (8, [.int th, .int ((nI N)), .int ((nI OU)), .int ((nI Z)), .ref r1, .ref r2, .int ((nI M)), .ref r3, .ref r4, .ref r5, .ref r6, .ref r7, .ref r8, .int ((nI PK)), .ref r9, .int kp, .ref r10, .ref r11, .int ((nI TK)), .ref r12, .int qc, .ref r13, .ref r14, .int bst, .ref r15])), (r10, .inl (cI, 81, .inl kpr))] H → va_D A [(r0, .inr (8, [.int th, .int ((nI N)), .int ((nI OU)), .int ((nI Z)), .ref r1, .ref r2, .int ((nI M)), .ref r3, .ref r4, .ref r5, .ref r6, .ref r7, .ref r8, .int ((nI PK)), .ref r9, .int kp, .ref r10, .ref r11, .int ((nI TK)), .ref r12, .int qc, .ref r13, .ref r14, .int bst, .ref r15])), (r10, .inl (cI, 81, .inl kpr))] → va_S A s.heap H locs → lv_has ls 8 [(0, .ref r0), (1, .int ((nI by1))), (3, .int ((bI isv))), (4, .int ((nI iv))), (5, .int sm), (6, .int ((bI ov)))] → W p l e ({ frames := 3, cells := 0, slots := 0, locals := 74 } : Room) s m args below meth c H locs 0 0 Q (F0 m 136 ls [])) : ∀ (fu : Nat) (j : Nat) (sm : Int32) (ov : Bool), Z - j < fu → (j ≤ Z ∧ (sm, ov) = kSm kpr N TK by1 iv j) → ∀ (H : Heap) (locs : List Loc) (ls : Array Slot), va_P (dC, dI) classes [(r0, .inr (8, [.int th, .int ((nI N)), .int ((nI OU)), .int ((nI Z)), .ref r1, .ref r2, .int ((nI M)), .ref r3, .ref r4, .ref r5, .ref r6, .ref r7, .ref r8, .int ((nI PK)), .ref r9, .int kp, .ref r10, .ref r11, .int ((nI TK)), .ref r12, .int qc, .ref r13, .ref r14, .int bst, .ref r15])), (r10, .inl (cI, 81, .inl kpr))] H → va_D A [(r0, .inr (8, [.int th, .int ((nI N)), .int ((nI OU)), .int ((nI Z)), .ref r1, .ref r2, .int ((nI M)), .ref r3, .ref r4, .ref r5, .ref r6, .ref r7, .ref r8, .int ((nI PK)), .ref r9, .int kp, .ref r10, .ref r11, .int ((nI TK)), .ref r12, .int qc, .ref r13, .ref r14, .int bst, .ref r15])), (r10, .inl (cI, 81, .inl kpr))] → va_S A s.heap H locs → lv_has ls 8 [(0, .ref r0), (1, .int ((nI by1))), (3, .int ((bI isv))), (4, .int ((nI iv))), (5, .int sm), (6, .int ((bI ov))), (7, .int ((nI j)))] → W p l e ({ frames := 3, cells := 0, slots := 0, locals := 74 } : Room) s m args below meth c H locs 0 0 Q (F0 m 71 ls []) := by
  intro fu
  induction fu with
  | zero => intro j sm ov h; exact absurd h (Nat.not_lt_zero _)
  | succ fu ih =>
    intro j sm ov hmu hI H locs ls hP hD hS hl
    have hZ8 : Z ≤ 81 := by rw [← hZ]; exact p3_81 hN
    have hI1 := hI.1
    refine lv_iload hx hb d_Ref_isKernel_71 (lv_at hl 6 rfl) ?_
    refine lv_aload_n hx hb d_Ref_isKernel_73 rfl (lv_at hl 0 rfl) ?_
    refine va_get (D := (dC, dI)) (ci := 8) (v := .int ((nI Z))) (C := R_Ref) (T := F_Ref) (N := 25) hx hb hts i_Ref hown hK hP 0 rfl rfl 3 (by decide) (hts _ mw_fl_Ref_62) (fun _ h9 => h9) rfl d_Ref_isKernel_74 ?_
    refine lv_icmp_ge (tgt := 136) hx hb d_Ref_isKernel_77 (by decide) (fun c_77 => ?_) (fun c_77 => ?_)
    · have hE9 : j = Z := Nat.le_antisymm hI1 ((nI_leI (a := Z) (b := j) (by omega) (by omega)).mp c_77)
      have hI9 := hI.2
      rw [hE9] at hI9
      exact kk sm ov (hI9) _ _ ls (hP.sub [0, 1] rfl) (hD.sub [0, 1] (by decide) rfl) hS (lv_sub hl [0, 1, 2, 3, 4, 5] rfl)
    · have hlt_j : j < Z := Nat.lt_of_not_le (fun h => c_77 ((nI_leI (a := Z) (b := j) (by omega) (by omega)).mpr h))
      refine lv_aload_n hx hb d_Ref_isKernel_80 rfl (lv_at hl 0 rfl) ?_
      refine lv_iload hx hb d_Ref_isKernel_81 (lv_at hl 6 rfl) ?_
      refine lv_iload_n hx hb d_Ref_isKernel_83 rfl (lv_at hl 1 rfl) ?_
      refine vp_callSi (W.runV (As := [.int ((nI j)), .int ((nI by1))]) (rest := []) ⟨hx, hb, hml, hown, hts⟩ (c_Ref_isIn l dC dI cI cJ r0 th N OU Z r1 r2 M r3 r4 r5 r6 r7 r8 PK r9 kp r10 r11 TK r12 qc r13 r14 bst r15 kpr (nI j) (nI by1) hN hTK hkv (vp_in_nI hby (by omega))) (cwV 2 hts (ct_goodV mw_ml_Ref_126 mw_im_Ref_isIn mw_se_Ref_isIn mw_ini_Ref mw_code_Ref_isIn) rfl rfl rfl (by decide +kernel) ⟨Nat.le_of_ble_eq_true rfl, Nat.le_of_ble_eq_true rfl⟩) ⟨fun a U g mk q => by obtain ⟨q0, qP, qK⟩ := q; exact ⟨q0, qP, va_K.moved (u := U) (U := U.calling g mk a) (Vm.Alike.refl U.vm) qK⟩, va_recv hK hP (ci := 8) (q0 := 0) rfl rfl, fun U hU hW => ⟨rfl, by rw [hU]; exact hP, va_K.moved hW.alike hK⟩⟩ rfl rfl hl.1 rfl (lv_room (Nat.le_of_ble_eq_true rfl)) d_Ref_isKernel_84 ⟨Nat.le_of_ble_eq_true rfl, Nat.le_of_ble_eq_true rfl⟩) (fun r_1 hr_1 => ?_)
      rw [hr_1]
      clear hr_1
      refine w_ti (show _ = rIn kpr N (nI j) by1 TK from by rw [nI_clamp (by omega)]) ?_
      refine lv_if_eq (tgt := 130) hx hb d_Ref_isKernel_87 (by decide) (fun c_87 => ?_) (fun c_87 => ?_)
      · refine lv_iinc (v := (nI (j + 1))) (lv' := [(7, .int ((nI (j + 1)))), (0, .ref r0), (1, .int ((nI by1))), (3, .int ((bI isv))), (4, .int ((nI iv))), (5, .int sm), (6, .int ((bI ov)))]) hx hb d_Ref_isKernel_130 hl (k := 6) rfl (show nI j + 1 = nI (j + 1) from nI_1 _) (by decide) rfl (fun ls hl => ?_)
        refine lv_goto (tgt := 71) hx hb d_Ref_isKernel_133 (by decide) ?_
        exact ih ((j + 1)) sm ov (by omega) (⟨by omega, kSm_n hI.2 c_87⟩) _ _ ls (hP.sub [0, 1] rfl) (hD.sub [0, 1] (by decide) rfl) hS (lv_sub hl [1, 2, 3, 4, 5, 6, 0] rfl)
      · refine lv_iload hx hb d_Ref_isKernel_90 (lv_at hl 5 rfl) ?_
        refine lv_if_eq (tgt := 117) hx hb d_Ref_isKernel_92 (by decide) (fun c_92 => ?_) (fun c_92 => ?_)
        · refine lv_iconst (v := 0) hx hb d_Ref_isKernel_117 (by decide) ?_
          refine lv_istore (lv' := [(6, .int 0), (0, .ref r0), (1, .int ((nI by1))), (3, .int ((bI isv))), (4, .int ((nI iv))), (5, .int sm), (7, .int ((nI j)))]) hx hb d_Ref_isKernel_118 hl (by decide) rfl (fun ls hl => ?_)
          refine lv_aload_n hx hb d_Ref_isKernel_120 rfl (lv_at hl 1 rfl) ?_
          refine lv_iload hx hb d_Ref_isKernel_121 (lv_at hl 6 rfl) ?_
          refine lv_iload hx hb d_Ref_isKernel_123 (lv_at hl 4 rfl) ?_
          refine vp_callSi (W.runV (As := [.int ((nI j)), .int ((nI iv))]) (rest := []) ⟨hx, hb, hml, hown, hts⟩ (c2_Ref_digit l dC dI cI cJ r0 th N OU Z r1 r2 M r3 r4 r5 r6 r7 r8 PK r9 kp r10 r11 TK r12 qc r13 r14 bst r15 (nI j) iv hN (vp_in_nI (show j < 81 by omega) (by omega)) hiv) (cwV 2 hts (ct_goodV mw_ml_Ref_68 mw_im_Ref_digit mw_se_Ref_digit mw_ini_Ref mw_code_Ref_digit) rfl rfl rfl (by decide +kernel) ⟨Nat.le_of_ble_eq_true rfl, Nat.le_of_ble_eq_true rfl⟩) ⟨fun a U g mk q => by obtain ⟨q0, qP, qK⟩ := q; exact ⟨q0, qP, va_K.moved (u := U) (U := U.calling g mk a) (Vm.Alike.refl U.vm) qK⟩, va_recv hK hP (ci := 8) (q0 := 0) rfl rfl, fun U hU hW => ⟨rfl, by rw [hU]; exact (hP.sub (ws' := [(r0, .inr (8, [.int th, .int ((nI N)), .int ((nI OU)), .int ((nI Z)), .ref r1, .ref r2, .int ((nI M)), .ref r3, .ref r4, .ref r5, .ref r6, .ref r7, .ref r8, .int ((nI PK)), .ref r9, .int kp, .ref r10, .ref r11, .int ((nI TK)), .ref r12, .int qc, .ref r13, .ref r14, .int bst, .ref r15]))]) [0] rfl), va_K.moved hW.alike hK⟩⟩ rfl rfl hl.1 rfl (lv_room (Nat.le_of_ble_eq_true rfl)) d_Ref_isKernel_125 ⟨Nat.le_of_ble_eq_true rfl, Nat.le_of_ble_eq_true rfl⟩) (fun r_2 hr_2 => ?_)
          rw [hr_2]
          clear hr_2
          refine w_ti (show _ = nI (rDig N j iv) from by rw [nI_clamp (by omega)]) ?_
          refine lv_istore (lv' := [(5, .int ((nI (rDig N j iv)))), (6, .int 0), (0, .ref r0), (1, .int ((nI by1))), (3, .int ((bI isv))), (4, .int ((nI iv))), (7, .int ((nI j)))]) hx hb d_Ref_isKernel_128 hl (by decide) rfl (fun ls hl => ?_)
          refine lv_iinc (v := (nI (j + 1))) (lv' := [(7, .int ((nI (j + 1)))), (5, .int ((nI (rDig N j iv)))), (6, .int 0), (0, .ref r0), (1, .int ((nI by1))), (3, .int ((bI isv))), (4, .int ((nI iv)))]) hx hb d_Ref_isKernel_130 hl (k := 6) rfl (show nI j + 1 = nI (j + 1) from nI_1 _) (by decide) rfl (fun ls hl => ?_)
          refine lv_goto (tgt := 71) hx hb d_Ref_isKernel_133 (by decide) ?_
          exact ih ((j + 1)) ((nI (rDig N j iv))) false (by omega) (⟨by omega, by rw [← kSm_y hI.2 c_87, (Bool.eq_false_iff.mpr (bI_f c_92))]; rfl⟩) _ _ ls (hP.sub [0, 1] rfl) (hD.sub [0, 1] (by decide) rfl) hS (lv_sub hl [3, 4, 5, 6, 1, 2, 0] rfl)
        · refine lv_iload hx hb d_Ref_isKernel_95 (lv_at hl 4 rfl) ?_
          refine lv_if_lt (tgt := 113) hx hb d_Ref_isKernel_97 (by decide) (fun c_97 => ?_) (fun c_97 => ?_)
          · refine lv_iconst (v := 1) hx hb d_Ref_isKernel_113 (by decide) ?_
            refine lv_goto (tgt := 118) hx hb d_Ref_isKernel_114 (by decide) ?_
            refine lv_istore (lv' := [(6, .int 1), (0, .ref r0), (1, .int ((nI by1))), (3, .int ((bI isv))), (4, .int ((nI iv))), (5, .int sm), (7, .int ((nI j)))]) hx hb d_Ref_isKernel_118 hl (by decide) rfl (fun ls hl => ?_)
            refine lv_aload_n hx hb d_Ref_isKernel_120 rfl (lv_at hl 1 rfl) ?_
            refine lv_iload hx hb d_Ref_isKernel_121 (lv_at hl 6 rfl) ?_
            refine lv_iload hx hb d_Ref_isKernel_123 (lv_at hl 4 rfl) ?_
            refine vp_callSi (W.runV (As := [.int ((nI j)), .int ((nI iv))]) (rest := []) ⟨hx, hb, hml, hown, hts⟩ (c2_Ref_digit l dC dI cI cJ r0 th N OU Z r1 r2 M r3 r4 r5 r6 r7 r8 PK r9 kp r10 r11 TK r12 qc r13 r14 bst r15 (nI j) iv hN (vp_in_nI (show j < 81 by omega) (by omega)) hiv) (cwV 2 hts (ct_goodV mw_ml_Ref_68 mw_im_Ref_digit mw_se_Ref_digit mw_ini_Ref mw_code_Ref_digit) rfl rfl rfl (by decide +kernel) ⟨Nat.le_of_ble_eq_true rfl, Nat.le_of_ble_eq_true rfl⟩) ⟨fun a U g mk q => by obtain ⟨q0, qP, qK⟩ := q; exact ⟨q0, qP, va_K.moved (u := U) (U := U.calling g mk a) (Vm.Alike.refl U.vm) qK⟩, va_recv hK hP (ci := 8) (q0 := 0) rfl rfl, fun U hU hW => ⟨rfl, by rw [hU]; exact (hP.sub (ws' := [(r0, .inr (8, [.int th, .int ((nI N)), .int ((nI OU)), .int ((nI Z)), .ref r1, .ref r2, .int ((nI M)), .ref r3, .ref r4, .ref r5, .ref r6, .ref r7, .ref r8, .int ((nI PK)), .ref r9, .int kp, .ref r10, .ref r11, .int ((nI TK)), .ref r12, .int qc, .ref r13, .ref r14, .int bst, .ref r15]))]) [0] rfl), va_K.moved hW.alike hK⟩⟩ rfl rfl hl.1 rfl (lv_room (Nat.le_of_ble_eq_true rfl)) d_Ref_isKernel_125 ⟨Nat.le_of_ble_eq_true rfl, Nat.le_of_ble_eq_true rfl⟩) (fun r_3 hr_3 => ?_)
            rw [hr_3]
            clear hr_3
            refine w_ti (show _ = nI (rDig N j iv) from by rw [nI_clamp (by omega)]) ?_
            refine lv_istore (lv' := [(5, .int ((nI (rDig N j iv)))), (6, .int 1), (0, .ref r0), (1, .int ((nI by1))), (3, .int ((bI isv))), (4, .int ((nI iv))), (7, .int ((nI j)))]) hx hb d_Ref_isKernel_128 hl (by decide) rfl (fun ls hl => ?_)
            refine lv_iinc (v := (nI (j + 1))) (lv' := [(7, .int ((nI (j + 1)))), (5, .int ((nI (rDig N j iv)))), (6, .int 1), (0, .ref r0), (1, .int ((nI by1))), (3, .int ((bI isv))), (4, .int ((nI iv)))]) hx hb d_Ref_isKernel_130 hl (k := 6) rfl (show nI j + 1 = nI (j + 1) from nI_1 _) (by decide) rfl (fun ls hl => ?_)
            refine lv_goto (tgt := 71) hx hb d_Ref_isKernel_133 (by decide) ?_
            exact ih ((j + 1)) ((nI (rDig N j iv))) true (by omega) (⟨by omega, by rw [← kSm_y hI.2 c_87, bI_t c_92, decide_eq_true c_97]; rfl⟩) _ _ ls (hP.sub [0, 1] rfl) (hD.sub [0, 1] (by decide) rfl) hS (lv_sub hl [3, 4, 5, 6, 1, 2, 0] rfl)
          · refine lv_iload hx hb d_Ref_isKernel_100 (lv_at hl 4 rfl) ?_
            refine lv_aload_n hx hb d_Ref_isKernel_102 rfl (lv_at hl 0 rfl) ?_
            refine lv_iload hx hb d_Ref_isKernel_103 (lv_at hl 6 rfl) ?_
            refine lv_iload hx hb d_Ref_isKernel_105 (lv_at hl 3 rfl) ?_
            refine vp_callSi (W.runV (As := [.int ((nI j)), .int ((nI iv))]) (rest := [.int sm]) ⟨hx, hb, hml, hown, hts⟩ (c2_Ref_digit l dC dI cI cJ r0 th N OU Z r1 r2 M r3 r4 r5 r6 r7 r8 PK r9 kp r10 r11 TK r12 qc r13 r14 bst r15 (nI j) iv hN (vp_in_nI (show j < 81 by omega) (by omega)) hiv) (cwV 2 hts (ct_goodV mw_ml_Ref_68 mw_im_Ref_digit mw_se_Ref_digit mw_ini_Ref mw_code_Ref_digit) rfl rfl rfl (by decide +kernel) ⟨Nat.le_of_ble_eq_true rfl, Nat.le_of_ble_eq_true rfl⟩) ⟨fun a U g mk q => by obtain ⟨q0, qP, qK⟩ := q; exact ⟨q0, qP, va_K.moved (u := U) (U := U.calling g mk a) (Vm.Alike.refl U.vm) qK⟩, va_recv hK hP (ci := 8) (q0 := 0) rfl rfl, fun U hU hW => ⟨rfl, by rw [hU]; exact (hP.sub (ws' := [(r0, .inr (8, [.int th, .int ((nI N)), .int ((nI OU)), .int ((nI Z)), .ref r1, .ref r2, .int ((nI M)), .ref r3, .ref r4, .ref r5, .ref r6, .ref r7, .ref r8, .int ((nI PK)), .ref r9, .int kp, .ref r10, .ref r11, .int ((nI TK)), .ref r12, .int qc, .ref r13, .ref r14, .int bst, .ref r15]))]) [0] rfl), va_K.moved hW.alike hK⟩⟩ rfl rfl hl.1 rfl (lv_room (Nat.le_of_ble_eq_true rfl)) d_Ref_isKernel_107 ⟨Nat.le_of_ble_eq_true rfl, Nat.le_of_ble_eq_true rfl⟩) (fun r_4 hr_4 => ?_)
            rw [hr_4]
            clear hr_4
            refine w_ti (show _ = nI (rDig N j iv) from by rw [nI_clamp (by omega)]) ?_
            refine lv_icmp_ne (tgt := 117) hx hb d_Ref_isKernel_110 (by decide) (fun c_110 => ?_) (fun c_110 => ?_)
            · refine lv_iconst (v := 0) hx hb d_Ref_isKernel_117 (by decide) ?_
              refine lv_istore (lv' := [(6, .int 0), (0, .ref r0), (1, .int ((nI by1))), (3, .int ((bI isv))), (4, .int ((nI iv))), (5, .int sm), (7, .int ((nI j)))]) hx hb d_Ref_isKernel_118 hl (by decide) rfl (fun ls hl => ?_)
              refine lv_aload_n hx hb d_Ref_isKernel_120 rfl (lv_at hl 1 rfl) ?_
              refine lv_iload hx hb d_Ref_isKernel_121 (lv_at hl 6 rfl) ?_
              refine lv_iload hx hb d_Ref_isKernel_123 (lv_at hl 4 rfl) ?_
              refine vp_callSi (W.runV (As := [.int ((nI j)), .int ((nI iv))]) (rest := []) ⟨hx, hb, hml, hown, hts⟩ (c2_Ref_digit l dC dI cI cJ r0 th N OU Z r1 r2 M r3 r4 r5 r6 r7 r8 PK r9 kp r10 r11 TK r12 qc r13 r14 bst r15 (nI j) iv hN (vp_in_nI (show j < 81 by omega) (by omega)) hiv) (cwV 2 hts (ct_goodV mw_ml_Ref_68 mw_im_Ref_digit mw_se_Ref_digit mw_ini_Ref mw_code_Ref_digit) rfl rfl rfl (by decide +kernel) ⟨Nat.le_of_ble_eq_true rfl, Nat.le_of_ble_eq_true rfl⟩) ⟨fun a U g mk q => by obtain ⟨q0, qP, qK⟩ := q; exact ⟨q0, qP, va_K.moved (u := U) (U := U.calling g mk a) (Vm.Alike.refl U.vm) qK⟩, va_recv hK hP (ci := 8) (q0 := 0) rfl rfl, fun U hU hW => ⟨rfl, by rw [hU]; exact (hP.sub (ws' := [(r0, .inr (8, [.int th, .int ((nI N)), .int ((nI OU)), .int ((nI Z)), .ref r1, .ref r2, .int ((nI M)), .ref r3, .ref r4, .ref r5, .ref r6, .ref r7, .ref r8, .int ((nI PK)), .ref r9, .int kp, .ref r10, .ref r11, .int ((nI TK)), .ref r12, .int qc, .ref r13, .ref r14, .int bst, .ref r15]))]) [0] rfl), va_K.moved hW.alike hK⟩⟩ rfl rfl hl.1 rfl (lv_room (Nat.le_of_ble_eq_true rfl)) d_Ref_isKernel_125 ⟨Nat.le_of_ble_eq_true rfl, Nat.le_of_ble_eq_true rfl⟩) (fun r_5 hr_5 => ?_)
              rw [hr_5]
              clear hr_5
              refine w_ti (show _ = nI (rDig N j iv) from by rw [nI_clamp (by omega)]) ?_
              refine lv_istore (lv' := [(5, .int ((nI (rDig N j iv)))), (6, .int 0), (0, .ref r0), (1, .int ((nI by1))), (3, .int ((bI isv))), (4, .int ((nI iv))), (7, .int ((nI j)))]) hx hb d_Ref_isKernel_128 hl (by decide) rfl (fun ls hl => ?_)
              refine lv_iinc (v := (nI (j + 1))) (lv' := [(7, .int ((nI (j + 1)))), (5, .int ((nI (rDig N j iv)))), (6, .int 0), (0, .ref r0), (1, .int ((nI by1))), (3, .int ((bI isv))), (4, .int ((nI iv)))]) hx hb d_Ref_isKernel_130 hl (k := 6) rfl (show nI j + 1 = nI (j + 1) from nI_1 _) (by decide) rfl (fun ls hl => ?_)
              refine lv_goto (tgt := 71) hx hb d_Ref_isKernel_133 (by decide) ?_
              exact ih ((j + 1)) ((nI (rDig N j iv))) false (by omega) (⟨by omega, by rw [← kSm_y hI.2 c_87, bI_t c_92, decide_eq_false c_97, decide_eq_false c_110]; rfl⟩) _ _ ls (hP.sub [0, 1] rfl) (hD.sub [0, 1] (by decide) rfl) hS (lv_sub hl [3, 4, 5, 6, 1, 2, 0] rfl)
            · refine lv_iconst (v := 1) hx hb d_Ref_isKernel_113 (by decide) ?_
              refine lv_goto (tgt := 118) hx hb d_Ref_isKernel_114 (by decide) ?_
              refine lv_istore (lv' := [(6, .int 1), (0, .ref r0), (1, .int ((nI by1))), (3, .int ((bI isv))), (4, .int ((nI iv))), (5, .int sm), (7, .int ((nI j)))]) hx hb d_Ref_isKernel_118 hl (by decide) rfl (fun ls hl => ?_)
              refine lv_aload_n hx hb d_Ref_isKernel_120 rfl (lv_at hl 1 rfl) ?_
              refine lv_iload hx hb d_Ref_isKernel_121 (lv_at hl 6 rfl) ?_
              refine lv_iload hx hb d_Ref_isKernel_123 (lv_at hl 4 rfl) ?_
              refine vp_callSi (W.runV (As := [.int ((nI j)), .int ((nI iv))]) (rest := []) ⟨hx, hb, hml, hown, hts⟩ (c2_Ref_digit l dC dI cI cJ r0 th N OU Z r1 r2 M r3 r4 r5 r6 r7 r8 PK r9 kp r10 r11 TK r12 qc r13 r14 bst r15 (nI j) iv hN (vp_in_nI (show j < 81 by omega) (by omega)) hiv) (cwV 2 hts (ct_goodV mw_ml_Ref_68 mw_im_Ref_digit mw_se_Ref_digit mw_ini_Ref mw_code_Ref_digit) rfl rfl rfl (by decide +kernel) ⟨Nat.le_of_ble_eq_true rfl, Nat.le_of_ble_eq_true rfl⟩) ⟨fun a U g mk q => by obtain ⟨q0, qP, qK⟩ := q; exact ⟨q0, qP, va_K.moved (u := U) (U := U.calling g mk a) (Vm.Alike.refl U.vm) qK⟩, va_recv hK hP (ci := 8) (q0 := 0) rfl rfl, fun U hU hW => ⟨rfl, by rw [hU]; exact (hP.sub (ws' := [(r0, .inr (8, [.int th, .int ((nI N)), .int ((nI OU)), .int ((nI Z)), .ref r1, .ref r2, .int ((nI M)), .ref r3, .ref r4, .ref r5, .ref r6, .ref r7, .ref r8, .int ((nI PK)), .ref r9, .int kp, .ref r10, .ref r11, .int ((nI TK)), .ref r12, .int qc, .ref r13, .ref r14, .int bst, .ref r15]))]) [0] rfl), va_K.moved hW.alike hK⟩⟩ rfl rfl hl.1 rfl (lv_room (Nat.le_of_ble_eq_true rfl)) d_Ref_isKernel_125 ⟨Nat.le_of_ble_eq_true rfl, Nat.le_of_ble_eq_true rfl⟩) (fun r_6 hr_6 => ?_)
              rw [hr_6]
              clear hr_6
              refine w_ti (show _ = nI (rDig N j iv) from by rw [nI_clamp (by omega)]) ?_
              refine lv_istore (lv' := [(5, .int ((nI (rDig N j iv)))), (6, .int 1), (0, .ref r0), (1, .int ((nI by1))), (3, .int ((bI isv))), (4, .int ((nI iv))), (7, .int ((nI j)))]) hx hb d_Ref_isKernel_128 hl (by decide) rfl (fun ls hl => ?_)
              refine lv_iinc (v := (nI (j + 1))) (lv' := [(7, .int ((nI (j + 1)))), (5, .int ((nI (rDig N j iv)))), (6, .int 1), (0, .ref r0), (1, .int ((nI by1))), (3, .int ((bI isv))), (4, .int ((nI iv)))]) hx hb d_Ref_isKernel_130 hl (k := 6) rfl (show nI j + 1 = nI (j + 1) from nI_1 _) (by decide) rfl (fun ls hl => ?_)
              refine lv_goto (tgt := 71) hx hb d_Ref_isKernel_133 (by decide) ?_
              exact ih ((j + 1)) ((nI (rDig N j iv))) true (by omega) (⟨by omega, by rw [← kSm_y hI.2 c_87, bI_t c_92, decide_eq_false c_97, decide_eq_true c_110]; rfl⟩) _ _ ls (hP.sub [0, 1] rfl) (hD.sub [0, 1] (by decide) rfl) hS (lv_sub hl [3, 4, 5, 6, 1, 2, 0] rfl)
set_option maxHeartbeats 1000000 in
set_option maxRecDepth 100000 in
theorem lk_Ref_isKernel2 {p : Program} {e : Env} {s : State} {m : MethodId} {args : Array Value} {below : List Frame} {meth : Method} {c : Code} {Q : State → Prop} (l : Launch) (dC : Nat → ClassId) (dI : Nat → Nat → Nat) (cI cJ : ClassId) (r0 : Nat) (th : Int32) (N : Nat) (OU : Nat) (Z : Nat) (r1 : Nat) (r2 : Nat) (M : Nat) (r3 : Nat) (r4 : Nat) (r5 : Nat) (r6 : Nat) (r7 : Nat) (r8 : Nat) (PK : Nat) (r9 : Nat) (kp : Int32) (r10 : Nat) (r11 : Nat) (TK : Nat) (r12 : Nat) (qc : Int32) (r13 : Nat) (r14 : Nat) (bst : Int32) (r15 : Nat) (kpr : Nat → Int32) (by1 : Nat) (hN : N ≤ 4) (hZ : 3 ^ N = Z) (hTK : TK ≤ 81) (hkv : ∀ k, k < TK → vp_in (kpr k) 81) (hby : by1 < 81)   (hx : p.tables.exec = Jvm.exec) (hb : c.code = b_Ref_isKernel) (hts : ∀ w ∈ lwg, w.before args s = true) (hown : s.vm.findClass R_Ref = some m.cls) (hml : c.maxLocals = 8) (hK : va_K (dC, dI) classes [(cI, .int), (cJ, .long)] s) {A : Nat → Prop} (hA : ∀ q : Nat, s.heap.size ≤ q → A q) (kk : ∀ (isv : Bool), (isv = kIs kpr N TK Z by1 N) → ∀ (H : Heap) (locs : List Loc) (ls : Array Slot), va_P (dC, dI) classes [(r0, .inr (8, [.int th, .int ((nI N)), .int ((nI OU)), .int ((nI Z)), .ref r1, .ref r2, .int ((nI M)), .ref r3, .ref r4, .ref r5, .ref r6, .ref r7, .ref r8, .int ((nI PK)), .ref r9, .int kp, .ref r10, .ref r11, .int ((nI TK)), .ref r12, .int qc, .ref r13, .ref r14, .int bst, .ref r15])), (r10, .inl (cI, 81, .inl kpr))] H → va_D A [(r0, .inr (8, [.int th, .int ((nI N)), .int ((nI OU)), .int ((nI Z)), .ref r1, .ref r2, .int ((nI M)), .ref r3, .ref r4, .ref r5, .ref r6, .ref r7, .ref r8, .int ((nI PK)), .ref r9, .int kp, .ref r10, .ref r11, .int ((nI TK)), .ref r12, .int qc, .ref r13, .ref r14, .int bst, .ref r15])), (r10, .inl (cI, 81, .inl kpr))] → va_S A s.heap H locs → lv_has ls 8 [(0, .ref r0), (3, .int ((bI isv)))] → W p l e ({ frames := 3, cells := 0, slots := 0, locals := 74 } : Room) s m args below meth c H locs 0 0 Q (F0 m 159 ls [])) : ∀ (fu : Nat) (i : Nat) (isv : Bool), N - i < fu → (i ≤ N ∧ isv = kIs kpr N TK Z by1 i) → ∀ (H : Heap) (locs : List Loc) (ls : Array Slot), va_P (dC, dI) classes [(r0, .inr (8, [.int th, .int ((nI N)), .int ((nI OU)), .int ((nI Z)), .ref r1, .ref r2, .int ((nI M)), .ref r3, .ref r4, .ref r5, .ref r6, .ref r7, .ref r8, .int ((nI PK)), .ref r9, .int kp, .ref r10, .ref r11, .int ((nI TK)), .ref r12, .int qc, .ref r13, .ref r14, .int bst, .ref r15])), (r10, .inl (cI, 81, .inl kpr))] H → va_D A [(r0, .inr (8, [.int th, .int ((nI N)), .int ((nI OU)), .int ((nI Z)), .ref r1, .ref r2, .int ((nI M)), .ref r3, .ref r4, .ref r5, .ref r6, .ref r7, .ref r8, .int ((nI PK)), .ref r9, .int kp, .ref r10, .ref r11, .int ((nI TK)), .ref r12, .int qc, .ref r13, .ref r14, .int bst, .ref r15])), (r10, .inl (cI, 81, .inl kpr))] → va_S A s.heap H locs → lv_has ls 8 [(0, .ref r0), (1, .int ((nI by1))), (3, .int ((bI isv))), (4, .int ((nI i)))] → W p l e ({ frames := 3, cells := 0, slots := 0, locals := 74 } : Room) s m args below meth c H locs 0 0 Q (F0 m 49 ls []) := by
  intro fu
  induction fu with
  | zero => intro i isv h; exact absurd h (Nat.not_lt_zero _)
  | succ fu ih =>
    intro i isv hmu hI H locs ls hP hD hS hl
    have hI1 := hI.1
    refine lv_iload hx hb d_Ref_isKernel_49 (lv_at hl 3 rfl) ?_
    refine lv_aload_n hx hb d_Ref_isKernel_51 rfl (lv_at hl 0 rfl) ?_
    refine va_get (D := (dC, dI)) (ci := 8) (v := .int ((nI N))) (C := R_Ref) (T := F_Ref) (N := 25) hx hb hts i_Ref hown hK hP 0 rfl rfl 1 (by decide) (hts _ mw_fl_Ref_55) (fun _ h9 => h9) rfl d_Ref_isKernel_52 ?_
    refine lv_icmp_ge (tgt := 159) hx hb d_Ref_isKernel_55 (by decide) (fun c_55 => ?_) (fun c_55 => ?_)
    · have hE9 : i = N := Nat.le_antisymm hI1 ((nI_leI (a := N) (b := i) (by omega) (by omega)).mp c_55)
      have hI9 := hI.2
      rw [hE9] at hI9
      exact kk isv (hI9) _ _ ls (hP.sub [0, 1] rfl) (hD.sub [0, 1] (by decide) rfl) hS (lv_sub hl [0, 2] rfl)
    · have hlt_i : i < N := Nat.lt_of_not_le (fun h => c_55 ((nI_leI (a := N) (b := i) (by omega) (by omega)).mpr h))
      refine lv_iload_n hx hb d_Ref_isKernel_58 rfl (lv_at hl 2 rfl) ?_
      refine lv_if_eq (tgt := 159) hx hb d_Ref_isKernel_59 (by decide) (fun c_59 => ?_) (fun c_59 => ?_)
      · exact kk isv (kIs_ff hI.2 (Bool.eq_false_iff.mpr (bI_f c_59)) hI1) _ _ ls (hP.sub [0, 1] rfl) (hD.sub [0, 1] (by decide) rfl) hS (lv_sub hl [0, 2] rfl)
      · refine lv_iconst (v := (-1)) hx hb d_Ref_isKernel_62 (by decide) ?_
        refine lv_istore (lv' := [(5, .int ((-1))), (0, .ref r0), (1, .int ((nI by1))), (3, .int ((bI isv))), (4, .int ((nI i)))]) hx hb d_Ref_isKernel_63 hl (by decide) rfl (fun ls hl => ?_)
        refine lv_iconst (v := 1) hx hb d_Ref_isKernel_65 (by decide) ?_
        refine lv_istore (lv' := [(6, .int 1), (5, .int ((-1))), (0, .ref r0), (1, .int ((nI by1))), (3, .int ((bI isv))), (4, .int ((nI i)))]) hx hb d_Ref_isKernel_66 hl (by decide) rfl (fun ls hl => ?_)
        refine lv_iconst (v := 0) hx hb d_Ref_isKernel_68 (by decide) ?_
        refine lv_istore (lv' := [(7, .int 0), (6, .int 1), (5, .int ((-1))), (0, .ref r0), (1, .int ((nI by1))), (3, .int ((bI isv))), (4, .int ((nI i)))]) hx hb d_Ref_isKernel_69 hl (by decide) rfl (fun ls hl => ?_)
        refine lk_Ref_isKernel3 l dC dI cI cJ r0 th N OU Z r1 r2 M r3 r4 r5 r6 r7 r8 PK r9 kp r10 r11 TK r12 qc r13 r14 bst r15 kpr by1 hN hZ hTK hkv hby isv i hlt_i hx hb hts hown hml hK hA (fun sm__1 ov__2 hI__3 H locs ls hP hD hS hl => ?_) _ 0 ((-1)) true (Nat.lt_succ_self _) (⟨Nat.zero_le _, rfl⟩) _ _ ls (hP.sub [0, 1] rfl) (hD.sub [0, 1] (by decide) rfl) hS (lv_sub hl [3, 4, 5, 6, 2, 1, 0] rfl)
        have hP : va_P (dC, dI) classes [(r0, .inr (8, [.int th, .int ((nI N)), .int ((nI OU)), .int ((nI Z)), .ref r1, .ref r2, .int ((nI M)), .ref r3, .ref r4, .ref r5, .ref r6, .ref r7, .ref r8, .int ((nI PK)), .ref r9, .int kp, .ref r10, .ref r11, .int ((nI TK)), .ref r12, .int qc, .ref r13, .ref r14, .int bst, .ref r15])), (r10, .inl (cI, 81, .inl kpr))] H := hP
        have hD : va_D A [(r0, .inr (8, [.int th, .int ((nI N)), .int ((nI OU)), .int ((nI Z)), .ref r1, .ref r2, .int ((nI M)), .ref r3, .ref r4, .ref r5, .ref r6, .ref r7, .ref r8, .int ((nI PK)), .ref r9, .int kp, .ref r10, .ref r11, .int ((nI TK)), .ref r12, .int qc, .ref r13, .ref r14, .int bst, .ref r15])), (r10, .inl (cI, 81, .inl kpr))] := hD
        have hl : lv_has ls 8 [(0, .ref r0), (1, .int ((nI by1))), (3, .int ((bI isv))), (4, .int ((nI i))), (5, .int sm__1), (6, .int ((bI ov__2)))] := hl
        refine lv_iload hx hb d_Ref_isKernel_136 (lv_at hl 5 rfl) ?_
        refine lv_if_eq (tgt := 147) hx hb d_Ref_isKernel_138 (by decide) (fun c_138 => ?_) (fun c_138 => ?_)
        · refine lv_iconst (v := 1) hx hb d_Ref_isKernel_147 (by decide) ?_
          refine lv_goto (tgt := 152) hx hb d_Ref_isKernel_148 (by decide) ?_
          refine lv_istore_n (lv' := [(3, .int 1), (0, .ref r0), (1, .int ((nI by1))), (4, .int ((nI i))), (5, .int sm__1), (6, .int ((bI ov__2)))]) hx hb d_Ref_isKernel_152 rfl hl (by decide) rfl (fun ls hl => ?_)
          refine lv_iinc (v := (nI (i + 1))) (lv' := [(4, .int ((nI (i + 1)))), (3, .int 1), (0, .ref r0), (1, .int ((nI by1))), (5, .int sm__1), (6, .int ((bI ov__2)))]) hx hb d_Ref_isKernel_153 hl (k := 3) rfl (show nI i + 1 = nI (i + 1) from nI_1 _) (by decide) rfl (fun ls hl => ?_)
          refine lv_goto (tgt := 49) hx hb d_Ref_isKernel_156 (by decide) ?_
          exact ih ((i + 1)) true (by omega) (⟨by omega, by rw [← kIs_s hI.2 (bI_t c_59) hI__3, (Bool.eq_false_iff.mpr (bI_f c_138))]; rfl⟩) _ _ ls (hP.sub [0, 1] rfl) (hD.sub [0, 1] (by decide) rfl) hS (lv_sub hl [2, 3, 1, 0] rfl)
        · refine lv_iload hx hb d_Ref_isKernel_141 (lv_at hl 4 rfl) ?_
          refine lv_iconst (v := 2) hx hb d_Ref_isKernel_143 (by decide) ?_
          refine lv_icmp_ne (tgt := 151) hx hb d_Ref_isKernel_144 (by decide) (fun c_144 => ?_) (fun c_144 => ?_)
          · refine lv_iconst (v := 0) hx hb d_Ref_isKernel_151 (by decide) ?_
            refine lv_istore_n (lv' := [(3, .int 0), (0, .ref r0), (1, .int ((nI by1))), (4, .int ((nI i))), (5, .int sm__1), (6, .int ((bI ov__2)))]) hx hb d_Ref_isKernel_152 rfl hl (by decide) rfl (fun ls hl => ?_)
            refine lv_iinc (v := (nI (i + 1))) (lv' := [(4, .int ((nI (i + 1)))), (3, .int 0), (0, .ref r0), (1, .int ((nI by1))), (5, .int sm__1), (6, .int ((bI ov__2)))]) hx hb d_Ref_isKernel_153 hl (k := 3) rfl (show nI i + 1 = nI (i + 1) from nI_1 _) (by decide) rfl (fun ls hl => ?_)
            refine lv_goto (tgt := 49) hx hb d_Ref_isKernel_156 (by decide) ?_
            exact ih ((i + 1)) false (by omega) (⟨by omega, by rw [← kIs_s hI.2 (bI_t c_59) hI__3, bI_t c_138, decide_eq_false c_144]; rfl⟩) _ _ ls (hP.sub [0, 1] rfl) (hD.sub [0, 1] (by decide) rfl) hS (lv_sub hl [2, 3, 1, 0] rfl)
          · refine lv_iconst (v := 1) hx hb d_Ref_isKernel_147 (by decide) ?_
            refine lv_goto (tgt := 152) hx hb d_Ref_isKernel_148 (by decide) ?_
            refine lv_istore_n (lv' := [(3, .int 1), (0, .ref r0), (1, .int ((nI by1))), (4, .int ((nI i))), (5, .int sm__1), (6, .int ((bI ov__2)))]) hx hb d_Ref_isKernel_152 rfl hl (by decide) rfl (fun ls hl => ?_)
            refine lv_iinc (v := (nI (i + 1))) (lv' := [(4, .int ((nI (i + 1)))), (3, .int 1), (0, .ref r0), (1, .int ((nI by1))), (5, .int sm__1), (6, .int ((bI ov__2)))]) hx hb d_Ref_isKernel_153 hl (k := 3) rfl (show nI i + 1 = nI (i + 1) from nI_1 _) (by decide) rfl (fun ls hl => ?_)
            refine lv_goto (tgt := 49) hx hb d_Ref_isKernel_156 (by decide) ?_
            exact ih ((i + 1)) true (by omega) (⟨by omega, by rw [← kIs_s hI.2 (bI_t c_59) hI__3, bI_t c_138, decide_eq_true c_144]; rfl⟩) _ _ ls (hP.sub [0, 1] rfl) (hD.sub [0, 1] (by decide) rfl) hS (lv_sub hl [2, 3, 1, 0] rfl)
set_option maxHeartbeats 1000000 in
set_option maxRecDepth 100000 in
theorem ck_Ref_isKernel (l : Launch) (dC : Nat → ClassId) (dI : Nat → Nat → Nat) (cI cJ : ClassId) (sz0 : Nat) (r0 : Nat) (th : Int32) (N : Nat) (OU : Nat) (Z : Nat) (r1 : Nat) (r2 : Nat) (M : Nat) (r3 : Nat) (r4 : Nat) (r5 : Nat) (r6 : Nat) (r7 : Nat) (r8 : Nat) (PK : Nat) (r9 : Nat) (kp : Int32) (r10 : Nat) (r11 : Nat) (TK : Nat) (r12 : Nat) (qc : Int32) (r13 : Nat) (r14 : Nat) (bst : Int32) (r15 : Nat) (kpr : Nat → Int32) (by1 : Nat) (hN : N ≤ 4) (hZ : 3 ^ N = Z) (hTK : TK ≤ 81) (hkv : ∀ k, k < TK → vp_in (kpr k) 81) (hby : by1 < 81) : Met l y_Ref_isKernel (ct y_Ref_isKernel b_Ref_isKernel 8 (some .boolean)) ({ frames := 3, cells := 0, slots := 0, locals := 74 }) (va_Pc [.ref r0, .int ((nI by1))] (fun U => U.heap.size = sz0 ∧ va_P (dC, dI) classes [(r0, .inr (8, [.int th, .int ((nI N)), .int ((nI OU)), .int ((nI Z)), .ref r1, .ref r2, .int ((nI M)), .ref r3, .ref r4, .ref r5, .ref r6, .ref r7, .ref r8, .int ((nI PK)), .ref r9, .int kp, .ref r10, .ref r11, .int ((nI TK)), .ref r12, .int qc, .ref r13, .ref r14, .int bst, .ref r15])), (r10, .inl (cI, 81, .inl kpr))] U.heap ∧ va_K (dC, dI) classes [(cI, .int), (cJ, .long)] U ∧ va_D (fun _ => True) [(r0, .inr (8, [.int th, .int ((nI N)), .int ((nI OU)), .int ((nI Z)), .ref r1, .ref r2, .int ((nI M)), .ref r3, .ref r4, .ref r5, .ref r6, .ref r7, .ref r8, .int ((nI PK)), .ref r9, .int kp, .ref r10, .ref r11, .int ((nI TK)), .ref r12, .int qc, .ref r13, .ref r14, .int bst, .ref r15])), (r10, .inl (cI, 81, .inl kpr))])) (va_Qi (fun (r : Int32) (_ : Unit) => r = bI (kIs kpr N TK Z by1 N)) (fun _ => at_w dC dI cI cJ (va_A [(r0, .inr (8, [.int th, .int ((nI N)), .int ((nI OU)), .int ((nI Z)), .ref r1, .ref r2, .int ((nI M)), .ref r3, .ref r4, .ref r5, .ref r6, .ref r7, .ref r8, .int ((nI PK)), .ref r9, .int kp, .ref r10, .ref r11, .int ((nI TK)), .ref r12, .int qc, .ref r13, .ref r14, .int bst, .ref r15])), (r10, .inl (cI, 81, .inl kpr))] sz0) [(r0, .inr (8, [.int th, .int ((nI N)), .int ((nI OU)), .int ((nI Z)), .ref r1, .ref r2, .int ((nI M)), .ref r3, .ref r4, .ref r5, .ref r6, .ref r7, .ref r8, .int ((nI PK)), .ref r9, .int kp, .ref r10, .ref r11, .int ((nI TK)), .ref r12, .int qc, .ref r13, .ref r14, .int bst, .ref r15])), (r10, .inl (cI, 81, .inl kpr))]) (va_A [(r0, .inr (8, [.int th, .int ((nI N)), .int ((nI OU)), .int ((nI Z)), .ref r1, .ref r2, .int ((nI M)), .ref r3, .ref r4, .ref r5, .ref r6, .ref r7, .ref r8, .int ((nI PK)), .ref r9, .int kp, .ref r10, .ref r11, .int ((nI TK)), .ref r12, .int qc, .ref r13, .ref r14, .int bst, .ref r15])), (r10, .inl (cI, 81, .inl kpr))] sz0)) 0 0 (va_A [(r0, .inr (8, [.int th, .int ((nI N)), .int ((nI OU)), .int ((nI Z)), .ref r1, .ref r2, .int ((nI M)), .ref r3, .ref r4, .ref r5, .ref r6, .ref r7, .ref r8, .int ((nI PK)), .ref r9, .int kp, .ref r10, .ref r11, .int ((nI TK)), .ref r12, .int qc, .ref r13, .ref r14, .int bst, .ref r15])), (r10, .inl (cI, 81, .inl kpr))] sz0) := by
  refine Met.ofW (cc := b_Ref_isKernel) (maxL := 8) (ret := some .boolean) (by decide) rfl ?_
  intro p e s m args below meth c s₁ B hml hv
  obtain ⟨rfl, hsz, hP, hK, hD0⟩ := hv
  have hx := B.exec
  have hb := B.bytes
  have hr := B.returns
  have hts : ∀ w ∈ lwg, w.before _ s = true := fun w h => atoms_spec (ws := ct y_Ref_isKernel b_Ref_isKernel 8 (some .boolean)) B.pre w (List.mem_cons_of_mem _ h)
  have hown : s.vm.findClass R_Ref = some m.cls := findClass_of_methodNamed B.named
  have hlocks := B.notSynchronized
  subst hsz
  have hD := hD0.self (sz := s.heap.size)
  generalize hAe : va_A [(r0, .inr (8, [.int th, .int ((nI N)), .int ((nI OU)), .int ((nI Z)), .ref r1, .ref r2, .int ((nI M)), .ref r3, .ref r4, .ref r5, .ref r6, .ref r7, .ref r8, .int ((nI PK)), .ref r9, .int kp, .ref r10, .ref r11, .int ((nI TK)), .ref r12, .int qc, .ref r13, .ref r14, .int bst, .ref r15])), (r10, .inl (cI, 81, .inl kpr))] s.heap.size = A at hD ⊢
  have hA : ∀ q : Nat, s.heap.size ≤ q → A q := fun q h => by rw [← hAe]; exact Or.inr h
  have hS : va_S A s.heap s.heap [] := va_S.rf
  have hl := lv_entry ([.ref r0, .int ((nI by1))]) (n := 8) (Nat.le_of_ble_eq_true rfl)
  rw [lg_entry_eq]
  generalize (lg_sl ([.ref r0, .int ((nI by1))]) ++ List.replicate (8 - (lg_sl ([.ref r0, .int ((nI by1))])).length) Slot.unset).toArray = ls at hl ⊢
  have hl : lv_has ls 8 [(0, .ref r0), (1, .int ((nI by1)))] := hl
  have hP : va_P (dC, dI) classes [(r0, .inr (8, [.int th, .int ((nI N)), .int ((nI OU)), .int ((nI Z)), .ref r1, .ref r2, .int ((nI M)), .ref r3, .ref r4, .ref r5, .ref r6, .ref r7, .ref r8, .int ((nI PK)), .ref r9, .int kp, .ref r10, .ref r11, .int ((nI TK)), .ref r12, .int qc, .ref r13, .ref r14, .int bst, .ref r15])), (r10, .inl (cI, 81, .inl kpr))] s.heap := hP
  refine lv_iconst (v := 0) hx hb d_Ref_isKernel_0 (by decide) ?_
  refine lv_istore_n (lv' := [(2, .int 0), (0, .ref r0), (1, .int ((nI by1)))]) hx hb d_Ref_isKernel_1 rfl hl (by decide) rfl (fun ls hl => ?_)
  refine lv_iconst (v := 0) hx hb d_Ref_isKernel_2 (by decide) ?_
  refine lv_istore_n (lv' := [(3, .int 0), (2, .int 0), (0, .ref r0), (1, .int ((nI by1)))]) hx hb d_Ref_isKernel_3 rfl hl (by decide) rfl (fun ls hl => ?_)
  refine lk_Ref_isKernel1 l dC dI cI cJ r0 th N OU Z r1 r2 M r3 r4 r5 r6 r7 r8 PK r9 kp r10 r11 TK r12 qc r13 r14 bst r15 kpr by1 hN hZ hTK hkv hby   hx hb hts hown hml hK hA (fun cn__1 hI__2 H locs ls hP hD hS hl => ?_) _ 0 0 (Nat.lt_succ_self _) (⟨Nat.zero_le _, rfl⟩) _ _ ls (hP.sub [0, 1] rfl) (hD.sub [0, 1] (by decide) rfl) hS (lv_sub hl [2, 3, 1, 0] rfl)
  have hP : va_P (dC, dI) classes [(r0, .inr (8, [.int th, .int ((nI N)), .int ((nI OU)), .int ((nI Z)), .ref r1, .ref r2, .int ((nI M)), .ref r3, .ref r4, .ref r5, .ref r6, .ref r7, .ref r8, .int ((nI PK)), .ref r9, .int kp, .ref r10, .ref r11, .int ((nI TK)), .ref r12, .int qc, .ref r13, .ref r14, .int bst, .ref r15])), (r10, .inl (cI, 81, .inl kpr))] H := hP
  have hD : va_D A [(r0, .inr (8, [.int th, .int ((nI N)), .int ((nI OU)), .int ((nI Z)), .ref r1, .ref r2, .int ((nI M)), .ref r3, .ref r4, .ref r5, .ref r6, .ref r7, .ref r8, .int ((nI PK)), .ref r9, .int kp, .ref r10, .ref r11, .int ((nI TK)), .ref r12, .int qc, .ref r13, .ref r14, .int bst, .ref r15])), (r10, .inl (cI, 81, .inl kpr))] := hD
  have hl : lv_has ls 8 [(0, .ref r0), (1, .int ((nI by1))), (2, .int ((nI cn__1)))] := hl
  have hZ8 : Z ≤ 81 := by rw [← hZ]; exact p3_81 hN
  have hc9 : cn__1 ≤ Z := by rw [hI__2]; exact cnt_le _ _
  have hlt9 : nI cn__1 < (2 : Int32) ↔ cn__1 < 2 := nI_ltI (b := 2) (by omega) (by omega)
  refine lv_iload_n hx hb d_Ref_isKernel_35 rfl (lv_at hl 2 rfl) ?_
  refine lv_iconst (v := 2) hx hb d_Ref_isKernel_36 (by decide) ?_
  refine lv_icmp_lt (tgt := 44) hx hb d_Ref_isKernel_37 (by decide) (fun c_37 => ?_) (fun c_37 => ?_)
  · refine lv_iconst (v := 0) hx hb d_Ref_isKernel_44 (by decide) ?_
    refine lv_istore_n (lv' := [(3, .int 0), (0, .ref r0), (1, .int ((nI by1))), (2, .int ((nI cn__1)))]) hx hb d_Ref_isKernel_45 rfl hl (by decide) rfl (fun ls hl => ?_)
    refine lv_iconst (v := 0) hx hb d_Ref_isKernel_46 (by decide) ?_
    refine lv_istore (lv' := [(4, .int 0), (3, .int 0), (0, .ref r0), (1, .int ((nI by1))), (2, .int ((nI cn__1)))]) hx hb d_Ref_isKernel_47 hl (by decide) rfl (fun ls hl => ?_)
    refine lk_Ref_isKernel2 l dC dI cI cJ r0 th N OU Z r1 r2 M r3 r4 r5 r6 r7 r8 PK r9 kp r10 r11 TK r12 qc r13 r14 bst r15 kpr by1 hN hZ hTK hkv hby   hx hb hts hown hml hK hA (fun isv__3 hI__4 H locs ls hP hD hS hl => ?_) _ 0 false (Nat.lt_succ_self _) (⟨Nat.zero_le _, by rw [kIs_0, ← hI__2, decide_eq_false (fun g => absurd (hlt9.mp c_37) (by omega))]⟩) _ _ ls (hP.sub [0, 1] rfl) (hD.sub [0, 1] (by decide) rfl) hS (lv_sub hl [2, 3, 1, 0] rfl)
    have hP : va_P (dC, dI) classes [(r0, .inr (8, [.int th, .int ((nI N)), .int ((nI OU)), .int ((nI Z)), .ref r1, .ref r2, .int ((nI M)), .ref r3, .ref r4, .ref r5, .ref r6, .ref r7, .ref r8, .int ((nI PK)), .ref r9, .int kp, .ref r10, .ref r11, .int ((nI TK)), .ref r12, .int qc, .ref r13, .ref r14, .int bst, .ref r15])), (r10, .inl (cI, 81, .inl kpr))] H := hP
    have hD : va_D A [(r0, .inr (8, [.int th, .int ((nI N)), .int ((nI OU)), .int ((nI Z)), .ref r1, .ref r2, .int ((nI M)), .ref r3, .ref r4, .ref r5, .ref r6, .ref r7, .ref r8, .int ((nI PK)), .ref r9, .int kp, .ref r10, .ref r11, .int ((nI TK)), .ref r12, .int qc, .ref r13, .ref r14, .int bst, .ref r15])), (r10, .inl (cI, 81, .inl kpr))] := hD
    have hl : lv_has ls 8 [(0, .ref r0), (3, .int ((bI isv__3)))] := hl
    refine lv_iload_n hx hb d_Ref_isKernel_159 rfl (lv_at hl 1 rfl) ?_
    have hP9 := hP.sub (ws' := [(r0, .inr (8, [.int th, .int ((nI N)), .int ((nI OU)), .int ((nI Z)), .ref r1, .ref r2, .int ((nI M)), .ref r3, .ref r4, .ref r5, .ref r6, .ref r7, .ref r8, .int ((nI PK)), .ref r9, .int kp, .ref r10, .ref r11, .int ((nI TK)), .ref r12, .int qc, .ref r13, .ref r14, .int bst, .ref r15])), (r10, .inl (cI, 81, .inl kpr))]) [0, 1] rfl
    have hD9 := hD.sub (ws' := [(r0, .inr (8, [.int th, .int ((nI N)), .int ((nI OU)), .int ((nI Z)), .ref r1, .ref r2, .int ((nI M)), .ref r3, .ref r4, .ref r5, .ref r6, .ref r7, .ref r8, .int ((nI PK)), .ref r9, .int kp, .ref r10, .ref r11, .int ((nI TK)), .ref r12, .int qc, .ref r13, .ref r14, .int bst, .ref r15])), (r10, .inl (cI, 81, .inl kpr))]) [0, 1] (by decide) rfl
    exact W.zret (v := (bI isv__3)) hx hb hr (bI_z _) (fun t ht hW => ⟨⟨(bI isv__3), (), rfl, congrArg bI hI__4, by rw [ht]; exact hP9, va_K.moved hW.alike hK, hD9⟩, hS.F ht⟩) hS.2.2 d_Ref_isKernel_160
  · refine lv_iconst (v := 1) hx hb d_Ref_isKernel_40 (by decide) ?_
    refine lv_goto (tgt := 45) hx hb d_Ref_isKernel_41 (by decide) ?_
    refine lv_istore_n (lv' := [(3, .int 1), (0, .ref r0), (1, .int ((nI by1))), (2, .int ((nI cn__1)))]) hx hb d_Ref_isKernel_45 rfl hl (by decide) rfl (fun ls hl => ?_)
    refine lv_iconst (v := 0) hx hb d_Ref_isKernel_46 (by decide) ?_
    refine lv_istore (lv' := [(4, .int 0), (3, .int 1), (0, .ref r0), (1, .int ((nI by1))), (2, .int ((nI cn__1)))]) hx hb d_Ref_isKernel_47 hl (by decide) rfl (fun ls hl => ?_)
    refine lk_Ref_isKernel2 l dC dI cI cJ r0 th N OU Z r1 r2 M r3 r4 r5 r6 r7 r8 PK r9 kp r10 r11 TK r12 qc r13 r14 bst r15 kpr by1 hN hZ hTK hkv hby   hx hb hts hown hml hK hA (fun isv__5 hI__6 H locs ls hP hD hS hl => ?_) _ 0 true (Nat.lt_succ_self _) (⟨Nat.zero_le _, by rw [kIs_0, ← hI__2, decide_eq_true (Nat.le_of_not_lt (fun g => c_37 (hlt9.mpr g)))]⟩) _ _ ls (hP.sub [0, 1] rfl) (hD.sub [0, 1] (by decide) rfl) hS (lv_sub hl [2, 3, 1, 0] rfl)
    have hP : va_P (dC, dI) classes [(r0, .inr (8, [.int th, .int ((nI N)), .int ((nI OU)), .int ((nI Z)), .ref r1, .ref r2, .int ((nI M)), .ref r3, .ref r4, .ref r5, .ref r6, .ref r7, .ref r8, .int ((nI PK)), .ref r9, .int kp, .ref r10, .ref r11, .int ((nI TK)), .ref r12, .int qc, .ref r13, .ref r14, .int bst, .ref r15])), (r10, .inl (cI, 81, .inl kpr))] H := hP
    have hD : va_D A [(r0, .inr (8, [.int th, .int ((nI N)), .int ((nI OU)), .int ((nI Z)), .ref r1, .ref r2, .int ((nI M)), .ref r3, .ref r4, .ref r5, .ref r6, .ref r7, .ref r8, .int ((nI PK)), .ref r9, .int kp, .ref r10, .ref r11, .int ((nI TK)), .ref r12, .int qc, .ref r13, .ref r14, .int bst, .ref r15])), (r10, .inl (cI, 81, .inl kpr))] := hD
    have hl : lv_has ls 8 [(0, .ref r0), (3, .int ((bI isv__5)))] := hl
    refine lv_iload_n hx hb d_Ref_isKernel_159 rfl (lv_at hl 1 rfl) ?_
    have hP9 := hP.sub (ws' := [(r0, .inr (8, [.int th, .int ((nI N)), .int ((nI OU)), .int ((nI Z)), .ref r1, .ref r2, .int ((nI M)), .ref r3, .ref r4, .ref r5, .ref r6, .ref r7, .ref r8, .int ((nI PK)), .ref r9, .int kp, .ref r10, .ref r11, .int ((nI TK)), .ref r12, .int qc, .ref r13, .ref r14, .int bst, .ref r15])), (r10, .inl (cI, 81, .inl kpr))]) [0, 1] rfl
    have hD9 := hD.sub (ws' := [(r0, .inr (8, [.int th, .int ((nI N)), .int ((nI OU)), .int ((nI Z)), .ref r1, .ref r2, .int ((nI M)), .ref r3, .ref r4, .ref r5, .ref r6, .ref r7, .ref r8, .int ((nI PK)), .ref r9, .int kp, .ref r10, .ref r11, .int ((nI TK)), .ref r12, .int qc, .ref r13, .ref r14, .int bst, .ref r15])), (r10, .inl (cI, 81, .inl kpr))]) [0, 1] (by decide) rfl
    exact W.zret (v := (bI isv__5)) hx hb hr (bI_z _) (fun t ht hW => ⟨⟨(bI isv__5), (), rfl, congrArg bI hI__6, by rw [ht]; exact hP9, va_K.moved hW.alike hK, hD9⟩, hS.F ht⟩) hS.2.2 d_Ref_isKernel_160
set_option maxHeartbeats 1000000 in
set_option maxRecDepth 100000 in
theorem c0_Ref_kernels (l : Launch) (dC : Nat → ClassId) (dI : Nat → Nat → Nat) (cI cJ : ClassId) (sz0 : Nat) (r0 : Nat) (th : Int32) (N : Nat) (OU : Nat) (Z : Nat) (r1 : Nat) (r2 : Nat) (M : Nat) (r3 : Nat) (r4 : Nat) (r5 : Nat) (r6 : Nat) (r7 : Nat) (r8 : Nat) (PK : Nat) (r9 : Nat) (kp : Int32) (r10 : Nat) (r11 : Nat) (TK : Nat) (r12 : Nat) (qc : Int32) (r13 : Nat) (r14 : Nat) (bst : Int32) (r15 : Nat) (hk0 : kp = 0) : Met l y_Ref_kernels (ct y_Ref_kernels b_Ref_kernels 7 (some .int)) ({ frames := 4, cells := 0, slots := 0, locals := 101 }) (va_Pc [.ref r0] (fun U => U.heap.size = sz0 ∧ va_P (dC, dI) classes [(r0, .inr (8, [.int th, .int ((nI N)), .int ((nI OU)), .int ((nI Z)), .ref r1, .ref r2, .int ((nI M)), .ref r3, .ref r4, .ref r5, .ref r6, .ref r7, .ref r8, .int ((nI PK)), .ref r9, .int kp, .ref r10, .ref r11, .int ((nI TK)), .ref r12, .int qc, .ref r13, .ref r14, .int bst, .ref r15]))] U.heap ∧ va_K (dC, dI) classes [(cI, .int), (cJ, .long)] U ∧ va_D (fun _ => True) [(r0, .inr (8, [.int th, .int ((nI N)), .int ((nI OU)), .int ((nI Z)), .ref r1, .ref r2, .int ((nI M)), .ref r3, .ref r4, .ref r5, .ref r6, .ref r7, .ref r8, .int ((nI PK)), .ref r9, .int kp, .ref r10, .ref r11, .int ((nI TK)), .ref r12, .int qc, .ref r13, .ref r14, .int bst, .ref r15]))])) (va_Qi (fun (r : Int32) (_ : Unit) => r = 0) (fun _ => at_w dC dI cI cJ (va_A [(r0, .inr (8, [.int th, .int ((nI N)), .int ((nI OU)), .int ((nI Z)), .ref r1, .ref r2, .int ((nI M)), .ref r3, .ref r4, .ref r5, .ref r6, .ref r7, .ref r8, .int ((nI PK)), .ref r9, .int kp, .ref r10, .ref r11, .int ((nI TK)), .ref r12, .int qc, .ref r13, .ref r14, .int bst, .ref r15]))] sz0) [(r0, .inr (8, [.int 1, .int ((nI N)), .int ((nI OU)), .int ((nI Z)), .ref r1, .ref r2, .int ((nI M)), .ref r3, .ref r4, .ref r5, .ref r6, .ref r7, .ref r8, .int ((nI PK)), .ref r9, .int kp, .ref r10, .ref r11, .int ((nI TK)), .ref r12, .int qc, .ref r13, .ref r14, .int bst, .ref r15]))]) (va_A [(r0, .inr (8, [.int th, .int ((nI N)), .int ((nI OU)), .int ((nI Z)), .ref r1, .ref r2, .int ((nI M)), .ref r3, .ref r4, .ref r5, .ref r6, .ref r7, .ref r8, .int ((nI PK)), .ref r9, .int kp, .ref r10, .ref r11, .int ((nI TK)), .ref r12, .int qc, .ref r13, .ref r14, .int bst, .ref r15]))] sz0)) 0 0 (va_A [(r0, .inr (8, [.int th, .int ((nI N)), .int ((nI OU)), .int ((nI Z)), .ref r1, .ref r2, .int ((nI M)), .ref r3, .ref r4, .ref r5, .ref r6, .ref r7, .ref r8, .int ((nI PK)), .ref r9, .int kp, .ref r10, .ref r11, .int ((nI TK)), .ref r12, .int qc, .ref r13, .ref r14, .int bst, .ref r15]))] sz0) := by
  refine Met.ofW (cc := b_Ref_kernels) (maxL := 7) (ret := some .int) (by decide) rfl ?_
  intro p e s m args below meth c s₁ B hml hv
  obtain ⟨rfl, hsz, hP, hK, hD0⟩ := hv
  have hx := B.exec
  have hb := B.bytes
  have hr := B.returns
  have hts : ∀ w ∈ lwg, w.before _ s = true := fun w h => atoms_spec (ws := ct y_Ref_kernels b_Ref_kernels 7 (some .int)) B.pre w (List.mem_cons_of_mem _ h)
  have hown : s.vm.findClass R_Ref = some m.cls := findClass_of_methodNamed B.named
  have hlocks := B.notSynchronized
  subst hsz
  have hD := hD0.self (sz := s.heap.size)
  generalize hAe : va_A [(r0, .inr (8, [.int th, .int ((nI N)), .int ((nI OU)), .int ((nI Z)), .ref r1, .ref r2, .int ((nI M)), .ref r3, .ref r4, .ref r5, .ref r6, .ref r7, .ref r8, .int ((nI PK)), .ref r9, .int kp, .ref r10, .ref r11, .int ((nI TK)), .ref r12, .int qc, .ref r13, .ref r14, .int bst, .ref r15]))] s.heap.size = A at hD ⊢
  have hA : ∀ q : Nat, s.heap.size ≤ q → A q := fun q h => by rw [← hAe]; exact Or.inr h
  have hS : va_S A s.heap s.heap [] := va_S.rf
  have hl := lv_entry ([.ref r0]) (n := 7) (Nat.le_of_ble_eq_true rfl)
  rw [lg_entry_eq]
  generalize (lg_sl ([.ref r0]) ++ List.replicate (7 - (lg_sl ([.ref r0])).length) Slot.unset).toArray = ls at hl ⊢
  have hl : lv_has ls 7 [(0, .ref r0)] := hl
  have hP : va_P (dC, dI) classes [(r0, .inr (8, [.int th, .int ((nI N)), .int ((nI OU)), .int ((nI Z)), .ref r1, .ref r2, .int ((nI M)), .ref r3, .ref r4, .ref r5, .ref r6, .ref r7, .ref r8, .int ((nI PK)), .ref r9, .int kp, .ref r10, .ref r11, .int ((nI TK)), .ref r12, .int qc, .ref r13, .ref r14, .int bst, .ref r15]))] s.heap := hP
  refine lv_aload_n hx hb d_Ref_kernels_0 rfl (lv_at hl 0 rfl) ?_
  refine lv_aload_n hx hb d_Ref_kernels_1 rfl (lv_at hl 0 rfl) ?_
  refine va_get (D := (dC, dI)) (ci := 8) (v := .int kp) (C := R_Ref) (T := F_Ref) (N := 25) hx hb hts i_Ref hown hK hP 0 rfl rfl 15 (by decide) (hts _ mw_fl_Ref_113) (fun _ h9 => h9) rfl d_Ref_kernels_2 ?_
  refine lv_if_eq (tgt := 12) hx hb d_Ref_kernels_5 (by decide) (fun c_5 => ?_) (fun c_5 => ?_)
  · refine lv_iconst (v := 1) hx hb d_Ref_kernels_12 (by decide) ?_
    refine va_put (D := (dC, dI)) (ci := 8) (v := .int 1) (ty := .int) (C := R_Ref) (T := F_Ref) (N := 25) hx hb hts i_Ref t_Ref t_Ref_ok n_Ref hown hK hP hD hS 0 rfl rfl 0 (by decide) (hts _ mw_fl_Ref_65) (fun _ h9 => h9) rfl (by decide +kernel) rfl rfl (Nat.le_of_ble_eq_true rfl) d_Ref_kernels_13 (fun H locs hP hD hS => ?_)
    have hP : va_P (dC, dI) classes [(r0, .inr (8, [.int 1, .int ((nI N)), .int ((nI OU)), .int ((nI Z)), .ref r1, .ref r2, .int ((nI M)), .ref r3, .ref r4, .ref r5, .ref r6, .ref r7, .ref r8, .int ((nI PK)), .ref r9, .int kp, .ref r10, .ref r11, .int ((nI TK)), .ref r12, .int qc, .ref r13, .ref r14, .int bst, .ref r15]))] H := hP
    have hD : va_D A [(r0, .inr (8, [.int 1, .int ((nI N)), .int ((nI OU)), .int ((nI Z)), .ref r1, .ref r2, .int ((nI M)), .ref r3, .ref r4, .ref r5, .ref r6, .ref r7, .ref r8, .int ((nI PK)), .ref r9, .int kp, .ref r10, .ref r11, .int ((nI TK)), .ref r12, .int qc, .ref r13, .ref r14, .int bst, .ref r15]))] := hD
    refine lv_iconst (v := 0) hx hb d_Ref_kernels_16 (by decide) ?_
    refine lv_istore_n (lv' := [(1, .int 0), (0, .ref r0)]) hx hb d_Ref_kernels_17 rfl hl (by decide) rfl (fun ls hl => ?_)
    refine lv_iconst (v := 0) hx hb d_Ref_kernels_18 (by decide) ?_
    refine lv_istore_n (lv' := [(2, .int 0), (1, .int 0), (0, .ref r0)]) hx hb d_Ref_kernels_19 rfl hl (by decide) rfl (fun ls hl => ?_)
    refine lv_iload_n hx hb d_Ref_kernels_20 rfl (lv_at hl 0 rfl) ?_
    refine lv_aload_n hx hb d_Ref_kernels_21 rfl (lv_at hl 2 rfl) ?_
    refine va_get (D := (dC, dI)) (ci := 8) (v := .int ((nI Z))) (C := R_Ref) (T := F_Ref) (N := 25) hx hb hts i_Ref hown hK hP 0 rfl rfl 3 (by decide) (hts _ mw_fl_Ref_62) (fun _ h9 => h9) rfl d_Ref_kernels_22 ?_
    refine lv_icmp_ge (tgt := 145) hx hb d_Ref_kernels_25 (by decide) (fun c_25 => ?_) (fun c_25 => ?_)
    · refine lv_iload_n hx hb d_Ref_kernels_145 rfl (lv_at hl 1 rfl) ?_
      have hP9 := hP.sub (ws' := [(r0, .inr (8, [.int 1, .int ((nI N)), .int ((nI OU)), .int ((nI Z)), .ref r1, .ref r2, .int ((nI M)), .ref r3, .ref r4, .ref r5, .ref r6, .ref r7, .ref r8, .int ((nI PK)), .ref r9, .int kp, .ref r10, .ref r11, .int ((nI TK)), .ref r12, .int qc, .ref r13, .ref r14, .int bst, .ref r15]))]) [0] rfl
      have hD9 := hD.sub (ws' := [(r0, .inr (8, [.int 1, .int ((nI N)), .int ((nI OU)), .int ((nI Z)), .ref r1, .ref r2, .int ((nI M)), .ref r3, .ref r4, .ref r5, .ref r6, .ref r7, .ref r8, .int ((nI PK)), .ref r9, .int kp, .ref r10, .ref r11, .int ((nI TK)), .ref r12, .int qc, .ref r13, .ref r14, .int bst, .ref r15]))]) [0] (by decide) rfl
      exact W.iret (v := 0) hx hb hr (fun t ht hW => ⟨⟨0, (), rfl, rfl, by rw [ht]; exact hP9, va_K.moved hW.alike hK, hD9⟩, hS.F ht⟩) hS.2.2 d_Ref_kernels_146
    · refine lv_aload_n hx hb d_Ref_kernels_28 rfl (lv_at hl 2 rfl) ?_
      refine va_get (D := (dC, dI)) (ci := 8) (v := .int kp) (C := R_Ref) (T := F_Ref) (N := 25) hx hb hts i_Ref hown hK hP 0 rfl rfl 15 (by decide) (hts _ mw_fl_Ref_113) (fun _ h9 => h9) rfl d_Ref_kernels_29 ?_
      refine lv_if_eq (tgt := 145) hx hb d_Ref_kernels_32 (by decide) (fun c_32 => ?_) (fun c_32 => ?_)
      · refine lv_iload_n hx hb d_Ref_kernels_145 rfl (lv_at hl 1 rfl) ?_
        have hP9 := hP.sub (ws' := [(r0, .inr (8, [.int 1, .int ((nI N)), .int ((nI OU)), .int ((nI Z)), .ref r1, .ref r2, .int ((nI M)), .ref r3, .ref r4, .ref r5, .ref r6, .ref r7, .ref r8, .int ((nI PK)), .ref r9, .int kp, .ref r10, .ref r11, .int ((nI TK)), .ref r12, .int qc, .ref r13, .ref r14, .int bst, .ref r15]))]) [0] rfl
        have hD9 := hD.sub (ws' := [(r0, .inr (8, [.int 1, .int ((nI N)), .int ((nI OU)), .int ((nI Z)), .ref r1, .ref r2, .int ((nI M)), .ref r3, .ref r4, .ref r5, .ref r6, .ref r7, .ref r8, .int ((nI PK)), .ref r9, .int kp, .ref r10, .ref r11, .int ((nI TK)), .ref r12, .int qc, .ref r13, .ref r14, .int bst, .ref r15]))]) [0] (by decide) rfl
        exact W.iret (v := 0) hx hb hr (fun t ht hW => ⟨⟨0, (), rfl, rfl, by rw [ht]; exact hP9, va_K.moved hW.alike hK, hD9⟩, hS.F ht⟩) hS.2.2 d_Ref_kernels_146
      · exact absurd hk0 c_32
  · exact absurd hk0 c_5
set_option maxHeartbeats 1000000 in
set_option maxRecDepth 100000 in
theorem lk_Ref_kernels3 {p : Program} {e : Env} {s : State} {m : MethodId} {args : Array Value} {below : List Frame} {meth : Method} {c : Code} {Q : State → Prop} (l : Launch) (dC : Nat → ClassId) (dI : Nat → Nat → Nat) (cI cJ : ClassId) (r0 : Nat) (th : Int32) (N : Nat) (OU : Nat) (Z : Nat) (r1 : Nat) (r2 : Nat) (M : Nat) (r3 : Nat) (r4 : Nat) (r5 : Nat) (r6 : Nat) (r7 : Nat) (r8 : Nat) (PK : Nat) (r9 : Nat) (kp : Int32) (r10 : Nat) (r11 : Nat) (TK : Nat) (r12 : Nat) (qc : Int32) (r13 : Nat) (r14 : Nat) (bst : Int32) (r15 : Nat) (kpr : Nat → Int32) (hk1 : ¬ kp = 0) (hN : N ≤ 4) (hZ : 3 ^ N = Z) (hTK : TK ≤ 81) (hkv : ∀ k, k < TK → vp_in (kpr k) 81) (n9 : Nat) (bv : Nat) (fr : Bool) (jv : Nat) (hbv : bv < Z) (hjv : jv < Z) (hx : p.tables.exec = Jvm.exec) (hb : c.code = b_Ref_kernels) (hts : ∀ w ∈ lwg, w.before args s = true) (hown : s.vm.findClass R_Ref = some m.cls) (hml : c.maxLocals = 7) (hK : va_K (dC, dI) classes [(cI, .int), (cJ, .long)] s) {A : Nat → Prop} (hA : ∀ q : Nat, s.heap.size ≤ q → A q) (kk : ∀ (sm : Bool), (sm = kSq kpr N TK Z bv jv Z) → ∀ (H : Heap) (locs : List Loc) (ls : Array Slot), va_P (dC, dI) classes [(r0, .inr (8, [.int 0, .int ((nI N)), .int ((nI OU)), .int ((nI Z)), .ref r1, .ref r2, .int ((nI M)), .ref r3, .ref r4, .ref r5, .ref r6, .ref r7, .ref r8, .int ((nI PK)), .ref r9, .int kp, .ref r10, .ref r11, .int ((nI TK)), .ref r12, .int qc, .ref r13, .ref r14, .int bst, .ref r15])), (r10, .inl (cI, 81, .inl kpr))] H → va_D A [(r0, .inr (8, [.int 0, .int ((nI N)), .int ((nI OU)), .int ((nI Z)), .ref r1, .ref r2, .int ((nI M)), .ref r3, .ref r4, .ref r5, .ref r6, .ref r7, .ref r8, .int ((nI PK)), .ref r9, .int kp, .ref r10, .ref r11, .int ((nI TK)), .ref r12, .int qc, .ref r13, .ref r14, .int bst, .ref r15])), (r10, .inl (cI, 81, .inl kpr))] → va_S A s.heap H locs → lv_has ls 7 [(0, .ref r0), (1, .int ((nI n9))), (2, .int ((nI bv))), (3, .int ((bI fr))), (4, .int ((nI jv))), (5, .int ((bI sm)))] → W p l e ({ frames := 4, cells := 0, slots := 0, locals := 101 } : Room) s m args below meth c H locs 0 0 Q (F0 m 110 ls [])) : ∀ (fu : Nat) (k : Nat) (sm : Bool), Z - k < fu → (k ≤ Z ∧ sm = kSq kpr N TK Z bv jv k) → ∀ (H : Heap) (locs : List Loc) (ls : Array Slot), va_P (dC, dI) classes [(r0, .inr (8, [.int 0, .int ((nI N)), .int ((nI OU)), .int ((nI Z)), .ref r1, .ref r2, .int ((nI M)), .ref r3, .ref r4, .ref r5, .ref r6, .ref r7, .ref r8, .int ((nI PK)), .ref r9, .int kp, .ref r10, .ref r11, .int ((nI TK)), .ref r12, .int qc, .ref r13, .ref r14, .int bst, .ref r15])), (r10, .inl (cI, 81, .inl kpr))] H → va_D A [(r0, .inr (8, [.int 0, .int ((nI N)), .int ((nI OU)), .int ((nI Z)), .ref r1, .ref r2, .int ((nI M)), .ref r3, .ref r4, .ref r5, .ref r6, .ref r7, .ref r8, .int ((nI PK)), .ref r9, .int kp, .ref r10, .ref r11, .int ((nI TK)), .ref r12, .int qc, .ref r13, .ref r14, .int bst, .ref r15])), (r10, .inl (cI, 81, .inl kpr))] → va_S A s.heap H locs → lv_has ls 7 [(0, .ref r0), (1, .int ((nI n9))), (2, .int ((nI bv))), (3, .int ((bI fr))), (4, .int ((nI jv))), (5, .int ((bI sm))), (6, .int ((nI k)))] → W p l e ({ frames := 4, cells := 0, slots := 0, locals := 101 } : Room) s m args below meth c H locs 0 0 Q (F0 m 65 ls []) := by
  intro fu
  induction fu with
  | zero => intro k sm h; exact absurd h (Nat.not_lt_zero _)
  | succ fu ih =>
    intro k sm hmu hI H locs ls hP hD hS hl
    have hZ8 : Z ≤ 81 := by rw [← hZ]; exact p3_81 hN
    have hI1 := hI.1
    refine lv_iload hx hb d_Ref_kernels_65 (lv_at hl 6 rfl) ?_
    refine lv_aload_n hx hb d_Ref_kernels_67 rfl (lv_at hl 0 rfl) ?_
    refine va_get (D := (dC, dI)) (ci := 8) (v := .int ((nI Z))) (C := R_Ref) (T := F_Ref) (N := 25) hx hb hts i_Ref hown hK hP 0 rfl rfl 3 (by decide) (hts _ mw_fl_Ref_62) (fun _ h9 => h9) rfl d_Ref_kernels_68 ?_
    refine lv_icmp_ge (tgt := 110) hx hb d_Ref_kernels_71 (by decide) (fun c_71 => ?_) (fun c_71 => ?_)
    · have hE9 : k = Z := Nat.le_antisymm hI1 ((nI_leI (a := Z) (b := k) (by omega) (by omega)).mp c_71)
      have hI9 := hI.2
      rw [hE9] at hI9
      exact kk sm (hI9) _ _ ls (hP.sub [0, 1] rfl) (hD.sub [0, 1] (by decide) rfl) hS (lv_sub hl [0, 1, 2, 3, 4, 5] rfl)
    · have hlt_k : k < Z := Nat.lt_of_not_le (fun h => c_71 ((nI_leI (a := Z) (b := k) (by omega) (by omega)).mpr h))
      refine lv_iload hx hb d_Ref_kernels_74 (lv_at hl 5 rfl) ?_
      refine lv_if_eq (tgt := 110) hx hb d_Ref_kernels_76 (by decide) (fun c_76 => ?_) (fun c_76 => ?_)
      · exact kk sm (kSq_ff hI.2 (Bool.eq_false_iff.mpr (bI_f c_76)) hI1) _ _ ls (hP.sub [0, 1] rfl) (hD.sub [0, 1] (by decide) rfl) hS (lv_sub hl [0, 1, 2, 3, 4, 5] rfl)
      · refine lv_aload_n hx hb d_Ref_kernels_79 rfl (lv_at hl 0 rfl) ?_
        refine lv_iload hx hb d_Ref_kernels_80 (lv_at hl 6 rfl) ?_
        refine lv_iload_n hx hb d_Ref_kernels_82 rfl (lv_at hl 2 rfl) ?_
        refine vp_callSi (W.runV (As := [.int ((nI k)), .int ((nI bv))]) (rest := []) ⟨hx, hb, hml, hown, hts⟩ (c_Ref_isIn l dC dI cI cJ r0 0 N OU Z r1 r2 M r3 r4 r5 r6 r7 r8 PK r9 kp r10 r11 TK r12 qc r13 r14 bst r15 kpr (nI k) (nI bv) hN hTK hkv (vp_in_nI (show bv < 81 by omega) (by omega))) (cwV 2 hts (ct_goodV mw_ml_Ref_126 mw_im_Ref_isIn mw_se_Ref_isIn mw_ini_Ref mw_code_Ref_isIn) rfl rfl rfl (by decide +kernel) ⟨Nat.le_of_ble_eq_true rfl, Nat.le_of_ble_eq_true rfl⟩) ⟨fun a U g mk q => by obtain ⟨q0, qP, qK⟩ := q; exact ⟨q0, qP, va_K.moved (u := U) (U := U.calling g mk a) (Vm.Alike.refl U.vm) qK⟩, va_recv hK hP (ci := 8) (q0 := 0) rfl rfl, fun U hU hW => ⟨rfl, by rw [hU]; exact hP, va_K.moved hW.alike hK⟩⟩ rfl rfl hl.1 rfl (lv_room (Nat.le_of_ble_eq_true rfl)) d_Ref_kernels_83 ⟨Nat.le_of_ble_eq_true rfl, Nat.le_of_ble_eq_true rfl⟩) (fun r_1 hr_1 => ?_)
        rw [hr_1]
        clear hr_1
        refine w_ti (show _ = rIn kpr N (nI k) bv TK from by rw [nI_clamp (by omega)]) ?_
        refine lv_aload_n hx hb d_Ref_kernels_86 rfl (lv_at hl 0 rfl) ?_
        refine lv_iload hx hb d_Ref_kernels_87 (lv_at hl 6 rfl) ?_
        refine lv_iload hx hb d_Ref_kernels_89 (lv_at hl 4 rfl) ?_
        refine vp_callSi (W.runV (As := [.int ((nI k)), .int ((nI jv))]) (rest := [.int ((rIn kpr N (nI k) bv TK))]) ⟨hx, hb, hml, hown, hts⟩ (c_Ref_isIn l dC dI cI cJ r0 0 N OU Z r1 r2 M r3 r4 r5 r6 r7 r8 PK r9 kp r10 r11 TK r12 qc r13 r14 bst r15 kpr (nI k) (nI jv) hN hTK hkv (vp_in_nI (show jv < 81 by omega) (by omega))) (cwV 2 hts (ct_goodV mw_ml_Ref_126 mw_im_Ref_isIn mw_se_Ref_isIn mw_ini_Ref mw_code_Ref_isIn) rfl rfl rfl (by decide +kernel) ⟨Nat.le_of_ble_eq_true rfl, Nat.le_of_ble_eq_true rfl⟩) ⟨fun a U g mk q => by obtain ⟨q0, qP, qK⟩ := q; exact ⟨q0, qP, va_K.moved (u := U) (U := U.calling g mk a) (Vm.Alike.refl U.vm) qK⟩, va_recv hK hP (ci := 8) (q0 := 0) rfl rfl, fun U hU hW => ⟨rfl, by rw [hU]; exact hP, va_K.moved hW.alike hK⟩⟩ rfl rfl hl.1 rfl (lv_room (Nat.le_of_ble_eq_true rfl)) d_Ref_kernels_91 ⟨Nat.le_of_ble_eq_true rfl, Nat.le_of_ble_eq_true rfl⟩) (fun r_2 hr_2 => ?_)
        rw [hr_2]
        clear hr_2
        refine w_ti (show _ = rIn kpr N (nI k) jv TK from by rw [nI_clamp (by omega)]) ?_
        refine lv_icmp_ne (tgt := 101) hx hb d_Ref_kernels_94 (by decide) (fun c_94 => ?_) (fun c_94 => ?_)
        · refine lv_iconst (v := 0) hx hb d_Ref_kernels_101 (by decide) ?_
          refine lv_istore (lv' := [(5, .int 0), (0, .ref r0), (1, .int ((nI n9))), (2, .int ((nI bv))), (3, .int ((bI fr))), (4, .int ((nI jv))), (6, .int ((nI k)))]) hx hb d_Ref_kernels_102 hl (by decide) rfl (fun ls hl => ?_)
          refine lv_iinc (v := (nI (k + 1))) (lv' := [(6, .int ((nI (k + 1)))), (5, .int 0), (0, .ref r0), (1, .int ((nI n9))), (2, .int ((nI bv))), (3, .int ((bI fr))), (4, .int ((nI jv)))]) hx hb d_Ref_kernels_104 hl (k := 6) rfl (show nI k + 1 = nI (k + 1) from nI_1 _) (by decide) rfl (fun ls hl => ?_)
          refine lv_goto (tgt := 65) hx hb d_Ref_kernels_107 (by decide) ?_
          exact ih ((k + 1)) false (by omega) (⟨by omega, by rw [← kSq_s hI.2 (bI_t c_76), decide_eq_false c_94]⟩) _ _ ls (hP.sub [0, 1] rfl) (hD.sub [0, 1] (by decide) rfl) hS (lv_sub hl [2, 3, 4, 5, 6, 1, 0] rfl)
        · refine lv_iconst (v := 1) hx hb d_Ref_kernels_97 (by decide) ?_
          refine lv_goto (tgt := 102) hx hb d_Ref_kernels_98 (by decide) ?_
          refine lv_istore (lv' := [(5, .int 1), (0, .ref r0), (1, .int ((nI n9))), (2, .int ((nI bv))), (3, .int ((bI fr))), (4, .int ((nI jv))), (6, .int ((nI k)))]) hx hb d_Ref_kernels_102 hl (by decide) rfl (fun ls hl => ?_)
          refine lv_iinc (v := (nI (k + 1))) (lv' := [(6, .int ((nI (k + 1)))), (5, .int 1), (0, .ref r0), (1, .int ((nI n9))), (2, .int ((nI bv))), (3, .int ((bI fr))), (4, .int ((nI jv)))]) hx hb d_Ref_kernels_104 hl (k := 6) rfl (show nI k + 1 = nI (k + 1) from nI_1 _) (by decide) rfl (fun ls hl => ?_)
          refine lv_goto (tgt := 65) hx hb d_Ref_kernels_107 (by decide) ?_
          exact ih ((k + 1)) true (by omega) (⟨by omega, by rw [← kSq_s hI.2 (bI_t c_76), decide_eq_true c_94]⟩) _ _ ls (hP.sub [0, 1] rfl) (hD.sub [0, 1] (by decide) rfl) hS (lv_sub hl [2, 3, 4, 5, 6, 1, 0] rfl)
set_option maxHeartbeats 1000000 in
set_option maxRecDepth 100000 in
theorem lk_Ref_kernels2 {p : Program} {e : Env} {s : State} {m : MethodId} {args : Array Value} {below : List Frame} {meth : Method} {c : Code} {Q : State → Prop} (l : Launch) (dC : Nat → ClassId) (dI : Nat → Nat → Nat) (cI cJ : ClassId) (r0 : Nat) (th : Int32) (N : Nat) (OU : Nat) (Z : Nat) (r1 : Nat) (r2 : Nat) (M : Nat) (r3 : Nat) (r4 : Nat) (r5 : Nat) (r6 : Nat) (r7 : Nat) (r8 : Nat) (PK : Nat) (r9 : Nat) (kp : Int32) (r10 : Nat) (r11 : Nat) (TK : Nat) (r12 : Nat) (qc : Int32) (r13 : Nat) (r14 : Nat) (bst : Int32) (r15 : Nat) (kpr : Nat → Int32) (hk1 : ¬ kp = 0) (hN : N ≤ 4) (hZ : 3 ^ N = Z) (hTK : TK ≤ 81) (hkv : ∀ k, k < TK → vp_in (kpr k) 81) (n9 : Nat) (bv : Nat) (hbv : bv < Z) (hx : p.tables.exec = Jvm.exec) (hb : c.code = b_Ref_kernels) (hts : ∀ w ∈ lwg, w.before args s = true) (hown : s.vm.findClass R_Ref = some m.cls) (hml : c.maxLocals = 7) (hK : va_K (dC, dI) classes [(cI, .int), (cJ, .long)] s) {A : Nat → Prop} (hA : ∀ q : Nat, s.heap.size ≤ q → A q) (kk : ∀ (fr : Bool), (fr = kFr kpr N TK Z bv bv) → ∀ (H : Heap) (locs : List Loc) (ls : Array Slot), va_P (dC, dI) classes [(r0, .inr (8, [.int 0, .int ((nI N)), .int ((nI OU)), .int ((nI Z)), .ref r1, .ref r2, .int ((nI M)), .ref r3, .ref r4, .ref r5, .ref r6, .ref r7, .ref r8, .int ((nI PK)), .ref r9, .int kp, .ref r10, .ref r11, .int ((nI TK)), .ref r12, .int qc, .ref r13, .ref r14, .int bst, .ref r15])), (r10, .inl (cI, 81, .inl kpr))] H → va_D A [(r0, .inr (8, [.int 0, .int ((nI N)), .int ((nI OU)), .int ((nI Z)), .ref r1, .ref r2, .int ((nI M)), .ref r3, .ref r4, .ref r5, .ref r6, .ref r7, .ref r8, .int ((nI PK)), .ref r9, .int kp, .ref r10, .ref r11, .int ((nI TK)), .ref r12, .int qc, .ref r13, .ref r14, .int bst, .ref r15])), (r10, .inl (cI, 81, .inl kpr))] → va_S A s.heap H locs → lv_has ls 7 [(0, .ref r0), (1, .int ((nI n9))), (2, .int ((nI bv))), (3, .int ((bI fr)))] → W p l e ({ frames := 4, cells := 0, slots := 0, locals := 101 } : Room) s m args below meth c H locs 0 0 Q (F0 m 127 ls [])) : ∀ (fu : Nat) (j : Nat) (fr : Bool), bv - j < fu → (j ≤ bv ∧ fr = kFr kpr N TK Z bv j) → ∀ (H : Heap) (locs : List Loc) (ls : Array Slot), va_P (dC, dI) classes [(r0, .inr (8, [.int 0, .int ((nI N)), .int ((nI OU)), .int ((nI Z)), .ref r1, .ref r2, .int ((nI M)), .ref r3, .ref r4, .ref r5, .ref r6, .ref r7, .ref r8, .int ((nI PK)), .ref r9, .int kp, .ref r10, .ref r11, .int ((nI TK)), .ref r12, .int qc, .ref r13, .ref r14, .int bst, .ref r15])), (r10, .inl (cI, 81, .inl kpr))] H → va_D A [(r0, .inr (8, [.int 0, .int ((nI N)), .int ((nI OU)), .int ((nI Z)), .ref r1, .ref r2, .int ((nI M)), .ref r3, .ref r4, .ref r5, .ref r6, .ref r7, .ref r8, .int ((nI PK)), .ref r9, .int kp, .ref r10, .ref r11, .int ((nI TK)), .ref r12, .int qc, .ref r13, .ref r14, .int bst, .ref r15])), (r10, .inl (cI, 81, .inl kpr))] → va_S A s.heap H locs → lv_has ls 7 [(0, .ref r0), (1, .int ((nI n9))), (2, .int ((nI bv))), (3, .int ((bI fr))), (4, .int ((nI j)))] → W p l e ({ frames := 4, cells := 0, slots := 0, locals := 101 } : Room) s m args below meth c H locs 0 0 Q (F0 m 44 ls []) := by
  intro fu
  induction fu with
  | zero => intro j fr h; exact absurd h (Nat.not_lt_zero _)
  | succ fu ih =>
    intro j fr hmu hI H locs ls hP hD hS hl
    have hZ8 : Z ≤ 81 := by rw [← hZ]; exact p3_81 hN
    have hI1 := hI.1
    refine lv_iload hx hb d_Ref_kernels_44 (lv_at hl 4 rfl) ?_
    refine lv_iload_n hx hb d_Ref_kernels_46 rfl (lv_at hl 2 rfl) ?_
    refine lv_icmp_ge (tgt := 127) hx hb d_Ref_kernels_47 (by decide) (fun c_47 => ?_) (fun c_47 => ?_)
    · have hE9 : j = bv := Nat.le_antisymm hI1 ((nI_leI (a := bv) (b := j) (by omega) (by omega)).mp c_47)
      have hI9 := hI.2
      rw [hE9] at hI9
      exact kk fr (hI9) _ _ ls (hP.sub [0, 1] rfl) (hD.sub [0, 1] (by decide) rfl) hS (lv_sub hl [0, 1, 2, 3] rfl)
    · have hlt_j : j < bv := Nat.lt_of_not_le (fun h => c_47 ((nI_leI (a := bv) (b := j) (by omega) (by omega)).mpr h))
      refine lv_iload_n hx hb d_Ref_kernels_50 rfl (lv_at hl 3 rfl) ?_
      refine lv_if_eq (tgt := 127) hx hb d_Ref_kernels_51 (by decide) (fun c_51 => ?_) (fun c_51 => ?_)
      · exact kk fr (kFr_ff hI.2 (Bool.eq_false_iff.mpr (bI_f c_51)) hI1) _ _ ls (hP.sub [0, 1] rfl) (hD.sub [0, 1] (by decide) rfl) hS (lv_sub hl [0, 1, 2, 3] rfl)
      · refine lv_aload_n hx hb d_Ref_kernels_54 rfl (lv_at hl 0 rfl) ?_
        refine lv_iload hx hb d_Ref_kernels_55 (lv_at hl 4 rfl) ?_
        have hPc := hP.sub (ws' := [(r0, .inr (8, [.int 0, .int ((nI N)), .int ((nI OU)), .int ((nI Z)), .ref r1, .ref r2, .int ((nI M)), .ref r3, .ref r4, .ref r5, .ref r6, .ref r7, .ref r8, .int ((nI PK)), .ref r9, .int kp, .ref r10, .ref r11, .int ((nI TK)), .ref r12, .int qc, .ref r13, .ref r14, .int bst, .ref r15])), (r10, .inl (cI, 81, .inl kpr))]) [0, 1] rfl
        have hDc := hD.sub (ws' := [(r0, .inr (8, [.int 0, .int ((nI N)), .int ((nI OU)), .int ((nI Z)), .ref r1, .ref r2, .int ((nI M)), .ref r3, .ref r4, .ref r5, .ref r6, .ref r7, .ref r8, .int ((nI PK)), .ref r9, .int kp, .ref r10, .ref r11, .int ((nI TK)), .ref r12, .int qc, .ref r13, .ref r14, .int bst, .ref r15])), (r10, .inl (cI, 81, .inl kpr))]) [0, 1] (by decide) rfl
        have hFc := va_free (wc := [(r0, .inr (8, [.int 0, .int ((nI N)), .int ((nI OU)), .int ((nI Z)), .ref r1, .ref r2, .int ((nI M)), .ref r3, .ref r4, .ref r5, .ref r6, .ref r7, .ref r8, .int ((nI PK)), .ref r9, .int kp, .ref r10, .ref r11, .int ((nI TK)), .ref r12, .int qc, .ref r13, .ref r14, .int bst, .ref r15])), (r10, .inl (cI, 81, .inl kpr))]) hD hS hA [0, 1] rfl
        refine va_calli (va_runV (As := [.int ((nI j))]) (rest := []) ⟨hx, hb, hml, hown, hts⟩ (ck_Ref_isKernel l dC dI cI cJ _ r0 0 N OU Z r1 r2 M r3 r4 r5 r6 r7 r8 PK r9 kp r10 r11 TK r12 qc r13 r14 bst r15 kpr j hN hZ hTK hkv (by omega)) (cwV 1 hts (ct_goodV mw_ml_Ref_129 mw_im_Ref_isKernel mw_se_Ref_isKernel mw_ini_Ref mw_code_Ref_isKernel) rfl rfl rfl (by decide +kernel) ⟨Nat.le_of_ble_eq_true rfl, Nat.le_of_ble_eq_true rfl⟩) ⟨fun a U g mk q => by obtain ⟨q0, q1, qP, qK, qD⟩ := q; exact ⟨q0, q1, qP, va_K.moved (u := U) (U := U.calling g mk a) (Vm.Alike.refl U.vm) qK, qD⟩, va_recv hK hPc (ci := 8) (q0 := 0) rfl rfl, fun U hU hW => ⟨rfl, by rw [hU], by rw [hU]; exact hPc, va_K.moved hW.alike hK, hDc.weaken (fun _ _ _ _ => trivial)⟩⟩ rfl rfl hl.1 rfl (lv_room (Nat.le_of_ble_eq_true rfl)) d_Ref_kernels_57 ⟨Nat.le_of_ble_eq_true rfl, Nat.le_of_ble_eq_true rfl⟩) hS (fun q _ h => hFc q h) hFc (fun r_1 u t H1 locs ht hvm hw hB hz1 hk1 hS => ?_)
        obtain ⟨hP1, hK1, hD1⟩ := hB
        rw [ht] at hP1
        obtain ⟨hP, hD⟩ := va_join (wr := []) (w1 := [(r0, .inr (8, [.int 0, .int ((nI N)), .int ((nI OU)), .int ((nI Z)), .ref r1, .ref r2, .int ((nI M)), .ref r3, .ref r4, .ref r5, .ref r6, .ref r7, .ref r8, .int ((nI PK)), .ref r9, .int kp, .ref r10, .ref r11, .int ((nI TK)), .ref r12, .int qc, .ref r13, .ref r14, .int bst, .ref r15])), (r10, .inl (cI, 81, .inl kpr))]) hP hD [0, 1] [] rfl rfl (by decide) (by decide) hk1 hFc hP1 hD1
        clear hPc hDc hFc hP1 hK1 hD1 hk1 hz1 hvm ht
        generalize H1 = H at hP hS ⊢
        have hP : va_P (dC, dI) classes [(r0, .inr (8, [.int 0, .int ((nI N)), .int ((nI OU)), .int ((nI Z)), .ref r1, .ref r2, .int ((nI M)), .ref r3, .ref r4, .ref r5, .ref r6, .ref r7, .ref r8, .int ((nI PK)), .ref r9, .int kp, .ref r10, .ref r11, .int ((nI TK)), .ref r12, .int qc, .ref r13, .ref r14, .int bst, .ref r15])), (r10, .inl (cI, 81, .inl kpr))] H := hP
        have hD : va_D A [(r0, .inr (8, [.int 0, .int ((nI N)), .int ((nI OU)), .int ((nI Z)), .ref r1, .ref r2, .int ((nI M)), .ref r3, .ref r4, .ref r5, .ref r6, .ref r7, .ref r8, .int ((nI PK)), .ref r9, .int kp, .ref r10, .ref r11, .int ((nI TK)), .ref r12, .int qc, .ref r13, .ref r14, .int bst, .ref r15])), (r10, .inl (cI, 81, .inl kpr))] := hD
        rw [hw]
        clear hw
        refine lv_istore (lv' := [(5, .int ((bI (kIs kpr N TK Z j N)))), (0, .ref r0), (1, .int ((nI n9))), (2, .int ((nI bv))), (3, .int ((bI fr))), (4, .int ((nI j)))]) hx hb d_Ref_kernels_60 hl (by decide) rfl (fun ls hl => ?_)
        refine lv_iconst (v := 0) hx hb d_Ref_kernels_62 (by decide) ?_
        refine lv_istore (lv' := [(6, .int 0), (5, .int ((bI (kIs kpr N TK Z j N)))), (0, .ref r0), (1, .int ((nI n9))), (2, .int ((nI bv))), (3, .int ((bI fr))), (4, .int ((nI j)))]) hx hb d_Ref_kernels_63 hl (by decide) rfl (fun ls hl => ?_)
        refine lk_Ref_kernels3 l dC dI cI cJ r0 th N OU Z r1 r2 M r3 r4 r5 r6 r7 r8 PK r9 kp r10 r11 TK r12 qc r13 r14 bst r15 kpr hk1 hN hZ hTK hkv n9 bv fr j hbv (by omega) hx hb hts hown hml hK hA (fun sm__2 hI__3 H locs ls hP hD hS hl => ?_) _ 0 ((kIs kpr N TK Z j N)) (Nat.lt_succ_self _) (⟨Nat.zero_le _, rfl⟩) _ _ ls (hP.sub [0, 1] rfl) (hD.sub [0, 1] (by decide) rfl) hS (lv_sub hl [2, 3, 4, 5, 6, 1, 0] rfl)
        have hP : va_P (dC, dI) classes [(r0, .inr (8, [.int 0, .int ((nI N)), .int ((nI OU)), .int ((nI Z)), .ref r1, .ref r2, .int ((nI M)), .ref r3, .ref r4, .ref r5, .ref r6, .ref r7, .ref r8, .int ((nI PK)), .ref r9, .int kp, .ref r10, .ref r11, .int ((nI TK)), .ref r12, .int qc, .ref r13, .ref r14, .int bst, .ref r15])), (r10, .inl (cI, 81, .inl kpr))] H := hP
        have hD : va_D A [(r0, .inr (8, [.int 0, .int ((nI N)), .int ((nI OU)), .int ((nI Z)), .ref r1, .ref r2, .int ((nI M)), .ref r3, .ref r4, .ref r5, .ref r6, .ref r7, .ref r8, .int ((nI PK)), .ref r9, .int kp, .ref r10, .ref r11, .int ((nI TK)), .ref r12, .int qc, .ref r13, .ref r14, .int bst, .ref r15])), (r10, .inl (cI, 81, .inl kpr))] := hD
        have hl : lv_has ls 7 [(0, .ref r0), (1, .int ((nI n9))), (2, .int ((nI bv))), (3, .int ((bI fr))), (4, .int ((nI j))), (5, .int ((bI sm__2)))] := hl
        refine lv_iload hx hb d_Ref_kernels_110 (lv_at hl 5 rfl) ?_
        refine lv_if_ne (tgt := 119) hx hb d_Ref_kernels_112 (by decide) (fun c_112 => ?_) (fun c_112 => ?_)
        · refine lv_iconst (v := 0) hx hb d_Ref_kernels_119 (by decide) ?_
          refine lv_istore_n (lv' := [(3, .int 0), (0, .ref r0), (1, .int ((nI n9))), (2, .int ((nI bv))), (4, .int ((nI j))), (5, .int ((bI sm__2)))]) hx hb d_Ref_kernels_120 rfl hl (by decide) rfl (fun ls hl => ?_)
          refine lv_iinc (v := (nI (j + 1))) (lv' := [(4, .int ((nI (j + 1)))), (3, .int 0), (0, .ref r0), (1, .int ((nI n9))), (2, .int ((nI bv))), (5, .int ((bI sm__2)))]) hx hb d_Ref_kernels_121 hl (k := 4) rfl (show nI j + 1 = nI (j + 1) from nI_1 _) (by decide) rfl (fun ls hl => ?_)
          refine lv_goto (tgt := 44) hx hb d_Ref_kernels_124 (by decide) ?_
          exact ih ((j + 1)) false (by omega) (⟨by omega, by rw [← kFr_s hI.2 (bI_t c_51) hI__3, bI_t c_112]; rfl⟩) _ _ ls (hP.sub [0, 1] rfl) (hD.sub [0, 1] (by decide) rfl) hS (lv_sub hl [2, 3, 4, 1, 0] rfl)
        · refine lv_iconst (v := 1) hx hb d_Ref_kernels_115 (by decide) ?_
          refine lv_goto (tgt := 120) hx hb d_Ref_kernels_116 (by decide) ?_
          refine lv_istore_n (lv' := [(3, .int 1), (0, .ref r0), (1, .int ((nI n9))), (2, .int ((nI bv))), (4, .int ((nI j))), (5, .int ((bI sm__2)))]) hx hb d_Ref_kernels_120 rfl hl (by decide) rfl (fun ls hl => ?_)
          refine lv_iinc (v := (nI (j + 1))) (lv' := [(4, .int ((nI (j + 1)))), (3, .int 1), (0, .ref r0), (1, .int ((nI n9))), (2, .int ((nI bv))), (5, .int ((bI sm__2)))]) hx hb d_Ref_kernels_121 hl (k := 4) rfl (show nI j + 1 = nI (j + 1) from nI_1 _) (by decide) rfl (fun ls hl => ?_)
          refine lv_goto (tgt := 44) hx hb d_Ref_kernels_124 (by decide) ?_
          exact ih ((j + 1)) true (by omega) (⟨by omega, by rw [← kFr_s hI.2 (bI_t c_51) hI__3, (Bool.eq_false_iff.mpr (bI_f c_112))]; rfl⟩) _ _ ls (hP.sub [0, 1] rfl) (hD.sub [0, 1] (by decide) rfl) hS (lv_sub hl [2, 3, 4, 1, 0] rfl)
set_option maxHeartbeats 1000000 in
set_option maxRecDepth 100000 in
theorem lk_Ref_kernels1 {p : Program} {e : Env} {s : State} {m : MethodId} {args : Array Value} {below : List Frame} {meth : Method} {c : Code} {Q : State → Prop} (l : Launch) (dC : Nat → ClassId) (dI : Nat → Nat → Nat) (cI cJ : ClassId) (r0 : Nat) (th : Int32) (N : Nat) (OU : Nat) (Z : Nat) (r1 : Nat) (r2 : Nat) (M : Nat) (r3 : Nat) (r4 : Nat) (r5 : Nat) (r6 : Nat) (r7 : Nat) (r8 : Nat) (PK : Nat) (r9 : Nat) (kp : Int32) (r10 : Nat) (r11 : Nat) (TK : Nat) (r12 : Nat) (qc : Int32) (r13 : Nat) (r14 : Nat) (bst : Int32) (r15 : Nat) (kpr : Nat → Int32) (hk1 : ¬ kp = 0) (hN : N ≤ 4) (hZ : 3 ^ N = Z) (hTK : TK ≤ 81) (hkv : ∀ k, k < TK → vp_in (kpr k) 81)   (hx : p.tables.exec = Jvm.exec) (hb : c.code = b_Ref_kernels) (hts : ∀ w ∈ lwg, w.before args s = true) (hown : s.vm.findClass R_Ref = some m.cls) (hml : c.maxLocals = 7) (hK : va_K (dC, dI) classes [(cI, .int), (cJ, .long)] s) {A : Nat → Prop} (hA : ∀ q : Nat, s.heap.size ≤ q → A q) (kk : ∀ (n9 : Nat), (n9 = (cnt (fun b => kFr kpr N TK Z b b) Z)) → ∀ (H : Heap) (locs : List Loc) (ls : Array Slot), va_P (dC, dI) classes [(r0, .inr (8, [.int 0, .int ((nI N)), .int ((nI OU)), .int ((nI Z)), .ref r1, .ref r2, .int ((nI M)), .ref r3, .ref r4, .ref r5, .ref r6, .ref r7, .ref r8, .int ((nI PK)), .ref r9, .int kp, .ref r10, .ref r11, .int ((nI TK)), .ref r12, .int qc, .ref r13, .ref r14, .int bst, .ref r15])), (r10, .inl (cI, 81, .inl kpr))] H → va_D A [(r0, .inr (8, [.int 0, .int ((nI N)), .int ((nI OU)), .int ((nI Z)), .ref r1, .ref r2, .int ((nI M)), .ref r3, .ref r4, .ref r5, .ref r6, .ref r7, .ref r8, .int ((nI PK)), .ref r9, .int kp, .ref r10, .ref r11, .int ((nI TK)), .ref r12, .int qc, .ref r13, .ref r14, .int bst, .ref r15])), (r10, .inl (cI, 81, .inl kpr))] → va_S A s.heap H locs → lv_has ls 7 [(0, .ref r0), (1, .int ((nI n9)))] → W p l e ({ frames := 4, cells := 0, slots := 0, locals := 101 } : Room) s m args below meth c H locs 0 0 Q (F0 m 145 ls [])) : ∀ (fu : Nat) (i : Nat) (n9 : Nat), Z - i < fu → (i ≤ Z ∧ n9 = (cnt (fun b => kFr kpr N TK Z b b) i)) → ∀ (H : Heap) (locs : List Loc) (ls : Array Slot), va_P (dC, dI) classes [(r0, .inr (8, [.int 0, .int ((nI N)), .int ((nI OU)), .int ((nI Z)), .ref r1, .ref r2, .int ((nI M)), .ref r3, .ref r4, .ref r5, .ref r6, .ref r7, .ref r8, .int ((nI PK)), .ref r9, .int kp, .ref r10, .ref r11, .int ((nI TK)), .ref r12, .int qc, .ref r13, .ref r14, .int bst, .ref r15])), (r10, .inl (cI, 81, .inl kpr))] H → va_D A [(r0, .inr (8, [.int 0, .int ((nI N)), .int ((nI OU)), .int ((nI Z)), .ref r1, .ref r2, .int ((nI M)), .ref r3, .ref r4, .ref r5, .ref r6, .ref r7, .ref r8, .int ((nI PK)), .ref r9, .int kp, .ref r10, .ref r11, .int ((nI TK)), .ref r12, .int qc, .ref r13, .ref r14, .int bst, .ref r15])), (r10, .inl (cI, 81, .inl kpr))] → va_S A s.heap H locs → lv_has ls 7 [(0, .ref r0), (1, .int ((nI n9))), (2, .int ((nI i)))] → W p l e ({ frames := 4, cells := 0, slots := 0, locals := 101 } : Room) s m args below meth c H locs 0 0 Q (F0 m 20 ls []) := by
  intro fu
  induction fu with
  | zero => intro i n9 h; exact absurd h (Nat.not_lt_zero _)
  | succ fu ih =>
    intro i n9 hmu hI H locs ls hP hD hS hl
    have hZ8 : Z ≤ 81 := by rw [← hZ]; exact p3_81 hN
    have hI1 := hI.1
    refine lv_iload_n hx hb d_Ref_kernels_20 rfl (lv_at hl 2 rfl) ?_
    refine lv_aload_n hx hb d_Ref_kernels_21 rfl (lv_at hl 0 rfl) ?_
    refine va_get (D := (dC, dI)) (ci := 8) (v := .int ((nI Z))) (C := R_Ref) (T := F_Ref) (N := 25) hx hb hts i_Ref hown hK hP 0 rfl rfl 3 (by decide) (hts _ mw_fl_Ref_62) (fun _ h9 => h9) rfl d_Ref_kernels_22 ?_
    refine lv_icmp_ge (tgt := 145) hx hb d_Ref_kernels_25 (by decide) (fun c_25 => ?_) (fun c_25 => ?_)
    · have hE9 : i = Z := Nat.le_antisymm hI1 ((nI_leI (a := Z) (b := i) (by omega) (by omega)).mp c_25)
      have hI9 := hI.2
      rw [hE9] at hI9
      exact kk n9 (hI9) _ _ ls (hP.sub [0, 1] rfl) (hD.sub [0, 1] (by decide) rfl) hS (lv_sub hl [0, 1] rfl)
    · have hlt_i : i < Z := Nat.lt_of_not_le (fun h => c_25 ((nI_leI (a := Z) (b := i) (by omega) (by omega)).mpr h))
      refine lv_aload_n hx hb d_Ref_kernels_28 rfl (lv_at hl 0 rfl) ?_
      refine va_get (D := (dC, dI)) (ci := 8) (v := .int kp) (C := R_Ref) (T := F_Ref) (N := 25) hx hb hts i_Ref hown hK hP 0 rfl rfl 15 (by decide) (hts _ mw_fl_Ref_113) (fun _ h9 => h9) rfl d_Ref_kernels_29 ?_
      refine lv_if_eq (tgt := 145) hx hb d_Ref_kernels_32 (by decide) (fun c_32 => ?_) (fun c_32 => ?_)
      · exact absurd c_32 hk1
      · refine lv_aload_n hx hb d_Ref_kernels_35 rfl (lv_at hl 0 rfl) ?_
        refine lv_iload_n hx hb d_Ref_kernels_36 rfl (lv_at hl 2 rfl) ?_
        have hPc := hP.sub (ws' := [(r0, .inr (8, [.int 0, .int ((nI N)), .int ((nI OU)), .int ((nI Z)), .ref r1, .ref r2, .int ((nI M)), .ref r3, .ref r4, .ref r5, .ref r6, .ref r7, .ref r8, .int ((nI PK)), .ref r9, .int kp, .ref r10, .ref r11, .int ((nI TK)), .ref r12, .int qc, .ref r13, .ref r14, .int bst, .ref r15])), (r10, .inl (cI, 81, .inl kpr))]) [0, 1] rfl
        have hDc := hD.sub (ws' := [(r0, .inr (8, [.int 0, .int ((nI N)), .int ((nI OU)), .int ((nI Z)), .ref r1, .ref r2, .int ((nI M)), .ref r3, .ref r4, .ref r5, .ref r6, .ref r7, .ref r8, .int ((nI PK)), .ref r9, .int kp, .ref r10, .ref r11, .int ((nI TK)), .ref r12, .int qc, .ref r13, .ref r14, .int bst, .ref r15])), (r10, .inl (cI, 81, .inl kpr))]) [0, 1] (by decide) rfl
        have hFc := va_free (wc := [(r0, .inr (8, [.int 0, .int ((nI N)), .int ((nI OU)), .int ((nI Z)), .ref r1, .ref r2, .int ((nI M)), .ref r3, .ref r4, .ref r5, .ref r6, .ref r7, .ref r8, .int ((nI PK)), .ref r9, .int kp, .ref r10, .ref r11, .int ((nI TK)), .ref r12, .int qc, .ref r13, .ref r14, .int bst, .ref r15])), (r10, .inl (cI, 81, .inl kpr))]) hD hS hA [0, 1] rfl
        refine va_calli (va_runV (As := [.int ((nI i))]) (rest := []) ⟨hx, hb, hml, hown, hts⟩ (ck_Ref_isKernel l dC dI cI cJ _ r0 0 N OU Z r1 r2 M r3 r4 r5 r6 r7 r8 PK r9 kp r10 r11 TK r12 qc r13 r14 bst r15 kpr i hN hZ hTK hkv (by omega)) (cwV 1 hts (ct_goodV mw_ml_Ref_129 mw_im_Ref_isKernel mw_se_Ref_isKernel mw_ini_Ref mw_code_Ref_isKernel) rfl rfl rfl (by decide +kernel) ⟨Nat.le_of_ble_eq_true rfl, Nat.le_of_ble_eq_true rfl⟩) ⟨fun a U g mk q => by obtain ⟨q0, q1, qP, qK, qD⟩ := q; exact ⟨q0, q1, qP, va_K.moved (u := U) (U := U.calling g mk a) (Vm.Alike.refl U.vm) qK, qD⟩, va_recv hK hPc (ci := 8) (q0 := 0) rfl rfl, fun U hU hW => ⟨rfl, by rw [hU], by rw [hU]; exact hPc, va_K.moved hW.alike hK, hDc.weaken (fun _ _ _ _ => trivial)⟩⟩ rfl rfl hl.1 rfl (lv_room (Nat.le_of_ble_eq_true rfl)) d_Ref_kernels_37 ⟨Nat.le_of_ble_eq_true rfl, Nat.le_of_ble_eq_true rfl⟩) hS (fun q _ h => hFc q h) hFc (fun r_1 u t H1 locs ht hvm hw hB hz1 hk1 hS => ?_)
        obtain ⟨hP1, hK1, hD1⟩ := hB
        rw [ht] at hP1
        obtain ⟨hP, hD⟩ := va_join (wr := []) (w1 := [(r0, .inr (8, [.int 0, .int ((nI N)), .int ((nI OU)), .int ((nI Z)), .ref r1, .ref r2, .int ((nI M)), .ref r3, .ref r4, .ref r5, .ref r6, .ref r7, .ref r8, .int ((nI PK)), .ref r9, .int kp, .ref r10, .ref r11, .int ((nI TK)), .ref r12, .int qc, .ref r13, .ref r14, .int bst, .ref r15])), (r10, .inl (cI, 81, .inl kpr))]) hP hD [0, 1] [] rfl rfl (by decide) (by decide) hk1 hFc hP1 hD1
        clear hPc hDc hFc hP1 hK1 hD1 hk1 hz1 hvm ht
        generalize H1 = H at hP hS ⊢
        have hP : va_P (dC, dI) classes [(r0, .inr (8, [.int 0, .int ((nI N)), .int ((nI OU)), .int ((nI Z)), .ref r1, .ref r2, .int ((nI M)), .ref r3, .ref r4, .ref r5, .ref r6, .ref r7, .ref r8, .int ((nI PK)), .ref r9, .int kp, .ref r10, .ref r11, .int ((nI TK)), .ref r12, .int qc, .ref r13, .ref r14, .int bst, .ref r15])), (r10, .inl (cI, 81, .inl kpr))] H := hP
        have hD : va_D A [(r0, .inr (8, [.int 0, .int ((nI N)), .int ((nI OU)), .int ((nI Z)), .ref r1, .ref r2, .int ((nI M)), .ref r3, .ref r4, .ref r5, .ref r6, .ref r7, .ref r8, .int ((nI PK)), .ref r9, .int kp, .ref r10, .ref r11, .int ((nI TK)), .ref r12, .int qc, .ref r13, .ref r14, .int bst, .ref r15])), (r10, .inl (cI, 81, .inl kpr))] := hD
        rw [hw]
        clear hw
        refine lv_istore_n (lv' := [(3, .int ((bI (kIs kpr N TK Z i N)))), (0, .ref r0), (1, .int ((nI n9))), (2, .int ((nI i)))]) hx hb d_Ref_kernels_40 rfl hl (by decide) rfl (fun ls hl => ?_)
        refine lv_iconst (v := 0) hx hb d_Ref_kernels_41 (by decide) ?_
        refine lv_istore (lv' := [(4, .int 0), (3, .int ((bI (kIs kpr N TK Z i N)))), (0, .ref r0), (1, .int ((nI n9))), (2, .int ((nI i)))]) hx hb d_Ref_kernels_42 hl (by decide) rfl (fun ls hl => ?_)
        refine lk_Ref_kernels2 l dC dI cI cJ r0 th N OU Z r1 r2 M r3 r4 r5 r6 r7 r8 PK r9 kp r10 r11 TK r12 qc r13 r14 bst r15 kpr hk1 hN hZ hTK hkv n9 i hlt_i hx hb hts hown hml hK hA (fun fr__2 hI__3 H locs ls hP hD hS hl => ?_) _ 0 ((kIs kpr N TK Z i N)) (Nat.lt_succ_self _) (⟨Nat.zero_le _, rfl⟩) _ _ ls (hP.sub [0, 1] rfl) (hD.sub [0, 1] (by decide) rfl) hS (lv_sub hl [2, 3, 4, 1, 0] rfl)
        have hP : va_P (dC, dI) classes [(r0, .inr (8, [.int 0, .int ((nI N)), .int ((nI OU)), .int ((nI Z)), .ref r1, .ref r2, .int ((nI M)), .ref r3, .ref r4, .ref r5, .ref r6, .ref r7, .ref r8, .int ((nI PK)), .ref r9, .int kp, .ref r10, .ref r11, .int ((nI TK)), .ref r12, .int qc, .ref r13, .ref r14, .int bst, .ref r15])), (r10, .inl (cI, 81, .inl kpr))] H := hP
        have hD : va_D A [(r0, .inr (8, [.int 0, .int ((nI N)), .int ((nI OU)), .int ((nI Z)), .ref r1, .ref r2, .int ((nI M)), .ref r3, .ref r4, .ref r5, .ref r6, .ref r7, .ref r8, .int ((nI PK)), .ref r9, .int kp, .ref r10, .ref r11, .int ((nI TK)), .ref r12, .int qc, .ref r13, .ref r14, .int bst, .ref r15])), (r10, .inl (cI, 81, .inl kpr))] := hD
        have hl : lv_has ls 7 [(0, .ref r0), (1, .int ((nI n9))), (2, .int ((nI i))), (3, .int ((bI fr__2)))] := hl
        refine lv_iload_n hx hb d_Ref_kernels_127 rfl (lv_at hl 3 rfl) ?_
        refine lv_if_eq (tgt := 137) hx hb d_Ref_kernels_128 (by decide) (fun c_128 => ?_) (fun c_128 => ?_)
        · refine lv_iload_n hx hb d_Ref_kernels_137 rfl (lv_at hl 1 rfl) ?_
          refine lv_istore_n (lv' := [(1, .int ((nI n9))), (0, .ref r0), (2, .int ((nI i))), (3, .int ((bI fr__2)))]) hx hb d_Ref_kernels_138 rfl hl (by decide) rfl (fun ls hl => ?_)
          refine lv_iinc (v := (nI (i + 1))) (lv' := [(2, .int ((nI (i + 1)))), (1, .int ((nI n9))), (0, .ref r0), (3, .int ((bI fr__2)))]) hx hb d_Ref_kernels_139 hl (k := 2) rfl (show nI i + 1 = nI (i + 1) from nI_1 _) (by decide) rfl (fun ls hl => ?_)
          refine lv_goto (tgt := 20) hx hb d_Ref_kernels_142 (by decide) ?_
          exact ih ((i + 1)) n9 (by omega) (⟨by omega, by rw [cnt_s, if_neg (fun g => bI_f c_128 (hI__3.trans g))]; exact hI.2⟩) _ _ ls (hP.sub [0, 1] rfl) (hD.sub [0, 1] (by decide) rfl) hS (lv_sub hl [2, 1, 0] rfl)
        · refine lv_iload_n hx hb d_Ref_kernels_131 rfl (lv_at hl 1 rfl) ?_
          refine lv_iconst (v := 1) hx hb d_Ref_kernels_132 (by decide) ?_
          refine lv_iadd hx hb d_Ref_kernels_133 ?_
          refine w_ti (show _ = nI (n9 + 1) from nI_1 n9) ?_
          refine lv_goto (tgt := 138) hx hb d_Ref_kernels_134 (by decide) ?_
          refine lv_istore_n (lv' := [(1, .int ((nI (n9 + 1)))), (0, .ref r0), (2, .int ((nI i))), (3, .int ((bI fr__2)))]) hx hb d_Ref_kernels_138 rfl hl (by decide) rfl (fun ls hl => ?_)
          refine lv_iinc (v := (nI (i + 1))) (lv' := [(2, .int ((nI (i + 1)))), (1, .int ((nI (n9 + 1)))), (0, .ref r0), (3, .int ((bI fr__2)))]) hx hb d_Ref_kernels_139 hl (k := 2) rfl (show nI i + 1 = nI (i + 1) from nI_1 _) (by decide) rfl (fun ls hl => ?_)
          refine lv_goto (tgt := 20) hx hb d_Ref_kernels_142 (by decide) ?_
          exact ih ((i + 1)) ((n9 + 1)) (by omega) (⟨by omega, by rw [cnt_s, if_pos (hI__3.symm.trans (bI_t c_128)), ← hI.2]⟩) _ _ ls (hP.sub [0, 1] rfl) (hD.sub [0, 1] (by decide) rfl) hS (lv_sub hl [2, 1, 0] rfl)
set_option maxHeartbeats 1000000 in
set_option maxRecDepth 100000 in
theorem c1_Ref_kernels (l : Launch) (dC : Nat → ClassId) (dI : Nat → Nat → Nat) (cI cJ : ClassId) (sz0 : Nat) (r0 : Nat) (th : Int32) (N : Nat) (OU : Nat) (Z : Nat) (r1 : Nat) (r2 : Nat) (M : Nat) (r3 : Nat) (r4 : Nat) (r5 : Nat) (r6 : Nat) (r7 : Nat) (r8 : Nat) (PK : Nat) (r9 : Nat) (kp : Int32) (r10 : Nat) (r11 : Nat) (TK : Nat) (r12 : Nat) (qc : Int32) (r13 : Nat) (r14 : Nat) (bst : Int32) (r15 : Nat) (kpr : Nat → Int32) (hk1 : ¬ kp = 0) (hN : N ≤ 4) (hZ : 3 ^ N = Z) (hTK : TK ≤ 81) (hkv : ∀ k, k < TK → vp_in (kpr k) 81) : Met l y_Ref_kernels (ct y_Ref_kernels b_Ref_kernels 7 (some .int)) ({ frames := 4, cells := 0, slots := 0, locals := 101 }) (va_Pc [.ref r0] (fun U => U.heap.size = sz0 ∧ va_P (dC, dI) classes [(r0, .inr (8, [.int th, .int ((nI N)), .int ((nI OU)), .int ((nI Z)), .ref r1, .ref r2, .int ((nI M)), .ref r3, .ref r4, .ref r5, .ref r6, .ref r7, .ref r8, .int ((nI PK)), .ref r9, .int kp, .ref r10, .ref r11, .int ((nI TK)), .ref r12, .int qc, .ref r13, .ref r14, .int bst, .ref r15])), (r10, .inl (cI, 81, .inl kpr))] U.heap ∧ va_K (dC, dI) classes [(cI, .int), (cJ, .long)] U ∧ va_D (fun _ => True) [(r0, .inr (8, [.int th, .int ((nI N)), .int ((nI OU)), .int ((nI Z)), .ref r1, .ref r2, .int ((nI M)), .ref r3, .ref r4, .ref r5, .ref r6, .ref r7, .ref r8, .int ((nI PK)), .ref r9, .int kp, .ref r10, .ref r11, .int ((nI TK)), .ref r12, .int qc, .ref r13, .ref r14, .int bst, .ref r15])), (r10, .inl (cI, 81, .inl kpr))])) (va_Qi (fun (r : Int32) (_ : Unit) => r = nI (cnt (fun b => kFr kpr N TK Z b b) Z)) (fun _ => at_w dC dI cI cJ (va_A [(r0, .inr (8, [.int th, .int ((nI N)), .int ((nI OU)), .int ((nI Z)), .ref r1, .ref r2, .int ((nI M)), .ref r3, .ref r4, .ref r5, .ref r6, .ref r7, .ref r8, .int ((nI PK)), .ref r9, .int kp, .ref r10, .ref r11, .int ((nI TK)), .ref r12, .int qc, .ref r13, .ref r14, .int bst, .ref r15])), (r10, .inl (cI, 81, .inl kpr))] sz0) [(r0, .inr (8, [.int 0, .int ((nI N)), .int ((nI OU)), .int ((nI Z)), .ref r1, .ref r2, .int ((nI M)), .ref r3, .ref r4, .ref r5, .ref r6, .ref r7, .ref r8, .int ((nI PK)), .ref r9, .int kp, .ref r10, .ref r11, .int ((nI TK)), .ref r12, .int qc, .ref r13, .ref r14, .int bst, .ref r15])), (r10, .inl (cI, 81, .inl kpr))]) (va_A [(r0, .inr (8, [.int th, .int ((nI N)), .int ((nI OU)), .int ((nI Z)), .ref r1, .ref r2, .int ((nI M)), .ref r3, .ref r4, .ref r5, .ref r6, .ref r7, .ref r8, .int ((nI PK)), .ref r9, .int kp, .ref r10, .ref r11, .int ((nI TK)), .ref r12, .int qc, .ref r13, .ref r14, .int bst, .ref r15])), (r10, .inl (cI, 81, .inl kpr))] sz0)) 0 0 (va_A [(r0, .inr (8, [.int th, .int ((nI N)), .int ((nI OU)), .int ((nI Z)), .ref r1, .ref r2, .int ((nI M)), .ref r3, .ref r4, .ref r5, .ref r6, .ref r7, .ref r8, .int ((nI PK)), .ref r9, .int kp, .ref r10, .ref r11, .int ((nI TK)), .ref r12, .int qc, .ref r13, .ref r14, .int bst, .ref r15])), (r10, .inl (cI, 81, .inl kpr))] sz0) := by
  refine Met.ofW (cc := b_Ref_kernels) (maxL := 7) (ret := some .int) (by decide) rfl ?_
  intro p e s m args below meth c s₁ B hml hv
  obtain ⟨rfl, hsz, hP, hK, hD0⟩ := hv
  have hx := B.exec
  have hb := B.bytes
  have hr := B.returns
  have hts : ∀ w ∈ lwg, w.before _ s = true := fun w h => atoms_spec (ws := ct y_Ref_kernels b_Ref_kernels 7 (some .int)) B.pre w (List.mem_cons_of_mem _ h)
  have hown : s.vm.findClass R_Ref = some m.cls := findClass_of_methodNamed B.named
  have hlocks := B.notSynchronized
  subst hsz
  have hD := hD0.self (sz := s.heap.size)
  generalize hAe : va_A [(r0, .inr (8, [.int th, .int ((nI N)), .int ((nI OU)), .int ((nI Z)), .ref r1, .ref r2, .int ((nI M)), .ref r3, .ref r4, .ref r5, .ref r6, .ref r7, .ref r8, .int ((nI PK)), .ref r9, .int kp, .ref r10, .ref r11, .int ((nI TK)), .ref r12, .int qc, .ref r13, .ref r14, .int bst, .ref r15])), (r10, .inl (cI, 81, .inl kpr))] s.heap.size = A at hD ⊢
  have hA : ∀ q : Nat, s.heap.size ≤ q → A q := fun q h => by rw [← hAe]; exact Or.inr h
  have hS : va_S A s.heap s.heap [] := va_S.rf
  have hl := lv_entry ([.ref r0]) (n := 7) (Nat.le_of_ble_eq_true rfl)
  rw [lg_entry_eq]
  generalize (lg_sl ([.ref r0]) ++ List.replicate (7 - (lg_sl ([.ref r0])).length) Slot.unset).toArray = ls at hl ⊢
  have hl : lv_has ls 7 [(0, .ref r0)] := hl
  have hP : va_P (dC, dI) classes [(r0, .inr (8, [.int th, .int ((nI N)), .int ((nI OU)), .int ((nI Z)), .ref r1, .ref r2, .int ((nI M)), .ref r3, .ref r4, .ref r5, .ref r6, .ref r7, .ref r8, .int ((nI PK)), .ref r9, .int kp, .ref r10, .ref r11, .int ((nI TK)), .ref r12, .int qc, .ref r13, .ref r14, .int bst, .ref r15])), (r10, .inl (cI, 81, .inl kpr))] s.heap := hP
  refine lv_aload_n hx hb d_Ref_kernels_0 rfl (lv_at hl 0 rfl) ?_
  refine lv_aload_n hx hb d_Ref_kernels_1 rfl (lv_at hl 0 rfl) ?_
  refine va_get (D := (dC, dI)) (ci := 8) (v := .int kp) (C := R_Ref) (T := F_Ref) (N := 25) hx hb hts i_Ref hown hK hP 0 rfl rfl 15 (by decide) (hts _ mw_fl_Ref_113) (fun _ h9 => h9) rfl d_Ref_kernels_2 ?_
  refine lv_if_eq (tgt := 12) hx hb d_Ref_kernels_5 (by decide) (fun c_5 => ?_) (fun c_5 => ?_)
  · exact absurd c_5 hk1
  · refine lv_iconst (v := 0) hx hb d_Ref_kernels_8 (by decide) ?_
    refine lv_goto (tgt := 13) hx hb d_Ref_kernels_9 (by decide) ?_
    refine va_put (D := (dC, dI)) (ci := 8) (v := .int 0) (ty := .int) (C := R_Ref) (T := F_Ref) (N := 25) hx hb hts i_Ref t_Ref t_Ref_ok n_Ref hown hK hP hD hS 0 rfl rfl 0 (by decide) (hts _ mw_fl_Ref_65) (fun _ h9 => h9) rfl (by decide +kernel) rfl rfl (Nat.le_of_ble_eq_true rfl) d_Ref_kernels_13 (fun H locs hP hD hS => ?_)
    have hP : va_P (dC, dI) classes [(r0, .inr (8, [.int 0, .int ((nI N)), .int ((nI OU)), .int ((nI Z)), .ref r1, .ref r2, .int ((nI M)), .ref r3, .ref r4, .ref r5, .ref r6, .ref r7, .ref r8, .int ((nI PK)), .ref r9, .int kp, .ref r10, .ref r11, .int ((nI TK)), .ref r12, .int qc, .ref r13, .ref r14, .int bst, .ref r15])), (r10, .inl (cI, 81, .inl kpr))] H := hP
    have hD : va_D A [(r0, .inr (8, [.int 0, .int ((nI N)), .int ((nI OU)), .int ((nI Z)), .ref r1, .ref r2, .int ((nI M)), .ref r3, .ref r4, .ref r5, .ref r6, .ref r7, .ref r8, .int ((nI PK)), .ref r9, .int kp, .ref r10, .ref r11, .int ((nI TK)), .ref r12, .int qc, .ref r13, .ref r14, .int bst, .ref r15])), (r10, .inl (cI, 81, .inl kpr))] := hD
    refine lv_iconst (v := 0) hx hb d_Ref_kernels_16 (by decide) ?_
    refine lv_istore_n (lv' := [(1, .int 0), (0, .ref r0)]) hx hb d_Ref_kernels_17 rfl hl (by decide) rfl (fun ls hl => ?_)
    refine lv_iconst (v := 0) hx hb d_Ref_kernels_18 (by decide) ?_
    refine lv_istore_n (lv' := [(2, .int 0), (1, .int 0), (0, .ref r0)]) hx hb d_Ref_kernels_19 rfl hl (by decide) rfl (fun ls hl => ?_)
    refine lk_Ref_kernels1 l dC dI cI cJ r0 th N OU Z r1 r2 M r3 r4 r5 r6 r7 r8 PK r9 kp r10 r11 TK r12 qc r13 r14 bst r15 kpr hk1 hN hZ hTK hkv   hx hb hts hown hml hK hA (fun n9__1 hI__2 H locs ls hP hD hS hl => ?_) _ 0 0 (Nat.lt_succ_self _) (⟨Nat.zero_le _, rfl⟩) _ _ ls (hP.sub [0, 1] rfl) (hD.sub [0, 1] (by decide) rfl) hS (lv_sub hl [2, 1, 0] rfl)
    have hP : va_P (dC, dI) classes [(r0, .inr (8, [.int 0, .int ((nI N)), .int ((nI OU)), .int ((nI Z)), .ref r1, .ref r2, .int ((nI M)), .ref r3, .ref r4, .ref r5, .ref r6, .ref r7, .ref r8, .int ((nI PK)), .ref r9, .int kp, .ref r10, .ref r11, .int ((nI TK)), .ref r12, .int qc, .ref r13, .ref r14, .int bst, .ref r15])), (r10, .inl (cI, 81, .inl kpr))] H := hP
    have hD : va_D A [(r0, .inr (8, [.int 0, .int ((nI N)), .int ((nI OU)), .int ((nI Z)), .ref r1, .ref r2, .int ((nI M)), .ref r3, .ref r4, .ref r5, .ref r6, .ref r7, .ref r8, .int ((nI PK)), .ref r9, .int kp, .ref r10, .ref r11, .int ((nI TK)), .ref r12, .int qc, .ref r13, .ref r14, .int bst, .ref r15])), (r10, .inl (cI, 81, .inl kpr))] := hD
    have hl : lv_has ls 7 [(0, .ref r0), (1, .int ((nI n9__1)))] := hl
    refine lv_iload_n hx hb d_Ref_kernels_145 rfl (lv_at hl 1 rfl) ?_
    have hP9 := hP.sub (ws' := [(r0, .inr (8, [.int 0, .int ((nI N)), .int ((nI OU)), .int ((nI Z)), .ref r1, .ref r2, .int ((nI M)), .ref r3, .ref r4, .ref r5, .ref r6, .ref r7, .ref r8, .int ((nI PK)), .ref r9, .int kp, .ref r10, .ref r11, .int ((nI TK)), .ref r12, .int qc, .ref r13, .ref r14, .int bst, .ref r15])), (r10, .inl (cI, 81, .inl kpr))]) [0, 1] rfl
    have hD9 := hD.sub (ws' := [(r0, .inr (8, [.int 0, .int ((nI N)), .int ((nI OU)), .int ((nI Z)), .ref r1, .ref r2, .int ((nI M)), .ref r3, .ref r4, .ref r5, .ref r6, .ref r7, .ref r8, .int ((nI PK)), .ref r9, .int kp, .ref r10, .ref r11, .int ((nI TK)), .ref r12, .int qc, .ref r13, .ref r14, .int bst, .ref r15])), (r10, .inl (cI, 81, .inl kpr))]) [0, 1] (by decide) rfl
    exact W.iret (v := (nI n9__1)) hx hb hr (fun t ht hW => ⟨⟨(nI n9__1), (), rfl, congrArg nI hI__2, by rw [ht]; exact hP9, va_K.moved hW.alike hK, hD9⟩, hS.F ht⟩) hS.2.2 d_Ref_kernels_146
