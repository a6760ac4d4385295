/-! ===== the reference: at, cost, equal, value by roads ===== -/
def coR (N : Nat) (kpr kot : Nat → Int32) (k : Nat) : Int32 := itr (fun k acc => acc + rCost N (kpr k).toNatClampNeg (kot k) N) k 0
set_option maxHeartbeats 1000000 in
set_option maxRecDepth 100000 in
theorem c0_Ref_cost (l : Launch) (dC : Nat → ClassId) (dI : Nat → Nat → Nat) (cI cJ : ClassId) (sz0 : Nat) (r0 : Nat) (th : Int32) (N : Nat) (OU : Nat) (Z : Nat) (r1 : Nat) (r2 : Nat) (M : Nat) (r3 : Nat) (r4 : Nat) (r5 : Nat) (r6 : Nat) (r7 : Nat) (r8 : Nat) (PK : Nat) (r9 : Nat) (kp : Int32) (r10 : Nat) (r11 : Nat) (TK : Nat) (r12 : Nat) (qc : Int32) (r13 : Nat) (r14 : Nat) (bst : Int32) (r15 : Nat) (hk0 : kp = 0) : Met l y_Ref_cost (ct y_Ref_cost b_Ref_cost 3 (some .long)) ({ frames := 2, cells := 0, slots := 0, locals := 48 }) (va_Pc [.ref r0] (fun U => U.heap.size = sz0 ∧ va_P (dC, dI) classes [(r0, .inr (8, [.int th, .int ((nI N)), .int ((nI OU)), .int ((nI Z)), .ref r1, .ref r2, .int ((nI M)), .ref r3, .ref r4, .ref r5, .ref r6, .ref r7, .ref r8, .int ((nI PK)), .ref r9, .int kp, .ref r10, .ref r11, .int ((nI TK)), .ref r12, .int qc, .ref r13, .ref r14, .int bst, .ref r15]))] U.heap ∧ va_K (dC, dI) classes [(cI, .int), (cJ, .long)] U ∧ va_D (fun _ => True) [(r0, .inr (8, [.int th, .int ((nI N)), .int ((nI OU)), .int ((nI Z)), .ref r1, .ref r2, .int ((nI M)), .ref r3, .ref r4, .ref r5, .ref r6, .ref r7, .ref r8, .int ((nI PK)), .ref r9, .int kp, .ref r10, .ref r11, .int ((nI TK)), .ref r12, .int qc, .ref r13, .ref r14, .int bst, .ref r15]))])) (va_Ql (fun (r : Int64) (_ : Unit) => r = (0 : Int32).toInt64) (fun _ => at_w dC dI cI cJ (va_A [(r0, .inr (8, [.int th, .int ((nI N)), .int ((nI OU)), .int ((nI Z)), .ref r1, .ref r2, .int ((nI M)), .ref r3, .ref r4, .ref r5, .ref r6, .ref r7, .ref r8, .int ((nI PK)), .ref r9, .int kp, .ref r10, .ref r11, .int ((nI TK)), .ref r12, .int qc, .ref r13, .ref r14, .int bst, .ref r15]))] sz0) [(r0, .inr (8, [.int 1, .int ((nI N)), .int ((nI OU)), .int ((nI Z)), .ref r1, .ref r2, .int ((nI M)), .ref r3, .ref r4, .ref r5, .ref r6, .ref r7, .ref r8, .int ((nI PK)), .ref r9, .int kp, .ref r10, .ref r11, .int ((nI TK)), .ref r12, .int qc, .ref r13, .ref r14, .int bst, .ref r15]))]) (va_A [(r0, .inr (8, [.int th, .int ((nI N)), .int ((nI OU)), .int ((nI Z)), .ref r1, .ref r2, .int ((nI M)), .ref r3, .ref r4, .ref r5, .ref r6, .ref r7, .ref r8, .int ((nI PK)), .ref r9, .int kp, .ref r10, .ref r11, .int ((nI TK)), .ref r12, .int qc, .ref r13, .ref r14, .int bst, .ref r15]))] sz0)) 0 0 (va_A [(r0, .inr (8, [.int th, .int ((nI N)), .int ((nI OU)), .int ((nI Z)), .ref r1, .ref r2, .int ((nI M)), .ref r3, .ref r4, .ref r5, .ref r6, .ref r7, .ref r8, .int ((nI PK)), .ref r9, .int kp, .ref r10, .ref r11, .int ((nI TK)), .ref r12, .int qc, .ref r13, .ref r14, .int bst, .ref r15]))] sz0) := by
  refine Met.ofW (cc := b_Ref_cost) (maxL := 3) (ret := some .long) (by decide) rfl ?_
  intro p e s m args below meth c s₁ B hml hv
  obtain ⟨rfl, hsz, hP, hK, hD0⟩ := hv
  have hx := B.exec
  have hb := B.bytes
  have hr := B.returns
  have hts : ∀ w ∈ lwg, w.before _ s = true := fun w h => atoms_spec (ws := ct y_Ref_cost b_Ref_cost 3 (some .long)) B.pre w (List.mem_cons_of_mem _ h)
  have hown : s.vm.findClass R_Ref = some m.cls := findClass_of_methodNamed B.named
  have hlocks := B.notSynchronized
  subst hsz
  have hD := hD0.self (sz := s.heap.size)
  generalize hAe : va_A [(r0, .inr (8, [.int th, .int ((nI N)), .int ((nI OU)), .int ((nI Z)), .ref r1, .ref r2, .int ((nI M)), .ref r3, .ref r4, .ref r5, .ref r6, .ref r7, .ref r8, .int ((nI PK)), .ref r9, .int kp, .ref r10, .ref r11, .int ((nI TK)), .ref r12, .int qc, .ref r13, .ref r14, .int bst, .ref r15]))] s.heap.size = A at hD ⊢
  have hA : ∀ q : Nat, s.heap.size ≤ q → A q := fun q h => by rw [← hAe]; exact Or.inr h
  have hS : va_S A s.heap s.heap [] := va_S.rf
  have hl := lv_entry ([.ref r0]) (n := 3) (Nat.le_of_ble_eq_true rfl)
  rw [lg_entry_eq]
  generalize (lg_sl ([.ref r0]) ++ List.replicate (3 - (lg_sl ([.ref r0])).length) Slot.unset).toArray = ls at hl ⊢
  have hl : lv_has ls 3 [(0, .ref r0)] := hl
  have hP : va_P (dC, dI) classes [(r0, .inr (8, [.int th, .int ((nI N)), .int ((nI OU)), .int ((nI Z)), .ref r1, .ref r2, .int ((nI M)), .ref r3, .ref r4, .ref r5, .ref r6, .ref r7, .ref r8, .int ((nI PK)), .ref r9, .int kp, .ref r10, .ref r11, .int ((nI TK)), .ref r12, .int qc, .ref r13, .ref r14, .int bst, .ref r15]))] s.heap := hP
  refine lv_aload_n hx hb d_Ref_cost_0 rfl (lv_at hl 0 rfl) ?_
  refine lv_aload_n hx hb d_Ref_cost_1 rfl (lv_at hl 0 rfl) ?_
  refine va_get (D := (dC, dI)) (ci := 8) (v := .int kp) (C := R_Ref) (T := F_Ref) (N := 25) hx hb hts i_Ref hown hK hP 0 rfl rfl 15 (by decide) (hts _ mw_fl_Ref_113) (fun _ h9 => h9) rfl d_Ref_cost_2 ?_
  refine lv_if_eq (tgt := 12) hx hb d_Ref_cost_5 (by decide) (fun c_5 => ?_) (fun c_5 => ?_)
  · refine lv_iconst (v := 1) hx hb d_Ref_cost_12 (by decide) ?_
    refine va_put (D := (dC, dI)) (ci := 8) (v := .int 1) (ty := .int) (C := R_Ref) (T := F_Ref) (N := 25) hx hb hts i_Ref t_Ref t_Ref_ok n_Ref hown hK hP hD hS 0 rfl rfl 0 (by decide) (hts _ mw_fl_Ref_65) (fun _ h9 => h9) rfl (by decide +kernel) rfl rfl (Nat.le_of_ble_eq_true rfl) d_Ref_cost_13 (fun H locs hP hD hS => ?_)
    have hP : va_P (dC, dI) classes [(r0, .inr (8, [.int 1, .int ((nI N)), .int ((nI OU)), .int ((nI Z)), .ref r1, .ref r2, .int ((nI M)), .ref r3, .ref r4, .ref r5, .ref r6, .ref r7, .ref r8, .int ((nI PK)), .ref r9, .int kp, .ref r10, .ref r11, .int ((nI TK)), .ref r12, .int qc, .ref r13, .ref r14, .int bst, .ref r15]))] H := hP
    have hD : va_D A [(r0, .inr (8, [.int 1, .int ((nI N)), .int ((nI OU)), .int ((nI Z)), .ref r1, .ref r2, .int ((nI M)), .ref r3, .ref r4, .ref r5, .ref r6, .ref r7, .ref r8, .int ((nI PK)), .ref r9, .int kp, .ref r10, .ref r11, .int ((nI TK)), .ref r12, .int qc, .ref r13, .ref r14, .int bst, .ref r15]))] := hD
    refine lv_iconst (v := 0) hx hb d_Ref_cost_16 (by decide) ?_
    refine lv_istore_n (lv' := [(1, .int 0), (0, .ref r0)]) hx hb d_Ref_cost_17 rfl hl (by decide) rfl (fun ls hl => ?_)
    refine lv_iconst (v := 0) hx hb d_Ref_cost_18 (by decide) ?_
    refine lv_istore_n (lv' := [(2, .int 0), (1, .int 0), (0, .ref r0)]) hx hb d_Ref_cost_19 rfl hl (by decide) rfl (fun ls hl => ?_)
    refine lv_iload_n hx hb d_Ref_cost_20 rfl (lv_at hl 0 rfl) ?_
    refine lv_aload_n hx hb d_Ref_cost_21 rfl (lv_at hl 2 rfl) ?_
    refine va_get (D := (dC, dI)) (ci := 8) (v := .int ((nI TK))) (C := R_Ref) (T := F_Ref) (N := 25) hx hb hts i_Ref hown hK hP 0 rfl rfl 18 (by decide) (hts _ mw_fl_Ref_110) (fun _ h9 => h9) rfl d_Ref_cost_22 ?_
    refine lv_icmp_ge (tgt := 60) hx hb d_Ref_cost_25 (by decide) (fun c_25 => ?_) (fun c_25 => ?_)
    · refine lv_iload_n hx hb d_Ref_cost_60 rfl (lv_at hl 1 rfl) ?_
      refine lv_i2l hx hb d_Ref_cost_61 rfl ?_
      have hP9 := hP.sub (ws' := [(r0, .inr (8, [.int 1, .int ((nI N)), .int ((nI OU)), .int ((nI Z)), .ref r1, .ref r2, .int ((nI M)), .ref r3, .ref r4, .ref r5, .ref r6, .ref r7, .ref r8, .int ((nI PK)), .ref r9, .int kp, .ref r10, .ref r11, .int ((nI TK)), .ref r12, .int qc, .ref r13, .ref r14, .int bst, .ref r15]))]) [0] rfl
      have hD9 := hD.sub (ws' := [(r0, .inr (8, [.int 1, .int ((nI N)), .int ((nI OU)), .int ((nI Z)), .ref r1, .ref r2, .int ((nI M)), .ref r3, .ref r4, .ref r5, .ref r6, .ref r7, .ref r8, .int ((nI PK)), .ref r9, .int kp, .ref r10, .ref r11, .int ((nI TK)), .ref r12, .int qc, .ref r13, .ref r14, .int bst, .ref r15]))]) [0] (by decide) rfl
      exact W.lret (v := (0 : Int32).toInt64) hx hb hr (fun t ht hW => ⟨⟨(0 : Int32).toInt64, (), rfl, rfl, by rw [ht]; exact hP9, va_K.moved hW.alike hK, hD9⟩, hS.F ht⟩) hS.2.2 d_Ref_cost_62
    · refine lv_aload_n hx hb d_Ref_cost_28 rfl (lv_at hl 2 rfl) ?_
      refine va_get (D := (dC, dI)) (ci := 8) (v := .int kp) (C := R_Ref) (T := F_Ref) (N := 25) hx hb hts i_Ref hown hK hP 0 rfl rfl 15 (by decide) (hts _ mw_fl_Ref_113) (fun _ h9 => h9) rfl d_Ref_cost_29 ?_
      refine lv_if_eq (tgt := 60) hx hb d_Ref_cost_32 (by decide) (fun c_32 => ?_) (fun c_32 => ?_)
      · refine lv_iload_n hx hb d_Ref_cost_60 rfl (lv_at hl 1 rfl) ?_
        refine lv_i2l hx hb d_Ref_cost_61 rfl ?_
        have hP9 := hP.sub (ws' := [(r0, .inr (8, [.int 1, .int ((nI N)), .int ((nI OU)), .int ((nI Z)), .ref r1, .ref r2, .int ((nI M)), .ref r3, .ref r4, .ref r5, .ref r6, .ref r7, .ref r8, .int ((nI PK)), .ref r9, .int kp, .ref r10, .ref r11, .int ((nI TK)), .ref r12, .int qc, .ref r13, .ref r14, .int bst, .ref r15]))]) [0] rfl
        have hD9 := hD.sub (ws' := [(r0, .inr (8, [.int 1, .int ((nI N)), .int ((nI OU)), .int ((nI Z)), .ref r1, .ref r2, .int ((nI M)), .ref r3, .ref r4, .ref r5, .ref r6, .ref r7, .ref r8, .int ((nI PK)), .ref r9, .int kp, .ref r10, .ref r11, .int ((nI TK)), .ref r12, .int qc, .ref r13, .ref r14, .int bst, .ref r15]))]) [0] (by decide) rfl
        exact W.lret (v := (0 : Int32).toInt64) hx hb hr (fun t ht hW => ⟨⟨(0 : Int32).toInt64, (), rfl, rfl, by rw [ht]; exact hP9, va_K.moved hW.alike hK, hD9⟩, hS.F ht⟩) hS.2.2 d_Ref_cost_62
      · exact absurd hk0 c_32
  · exact absurd hk0 c_5
set_option maxHeartbeats 1000000 in
set_option maxRecDepth 100000 in
theorem lh_Ref_cost {p : Program} {e : Env} {s : State} {m : MethodId} {args : Array Value} {below : List Frame} {meth : Method} {c : Code} {Q : State → Prop} (l : Launch) (dC : Nat → ClassId) (dI : Nat → Nat → Nat) (cI cJ : ClassId) (r0 : Nat) (th : Int32) (N : Nat) (OU : Nat) (Z : Nat) (r1 : Nat) (r2 : Nat) (M : Nat) (r3 : Nat) (r4 : Nat) (r5 : Nat) (r6 : Nat) (r7 : Nat) (r8 : Nat) (PK : Nat) (r9 : Nat) (kp : Int32) (r10 : Nat) (r11 : Nat) (TK : Nat) (r12 : Nat) (qc : Int32) (r13 : Nat) (r14 : Nat) (bst : Int32) (r15 : Nat) (kpr : Nat → Int32) (kot : Nat → Int32) (hk1 : ¬ kp = 0) (hN : N ≤ 4) (hTK : TK ≤ 81) (hkv : ∀ k, k < TK → vp_in (kpr k) 81)   (hx : p.tables.exec = Jvm.exec) (hb : c.code = b_Ref_cost) (hts : ∀ w ∈ lwg, w.before args s = true) (hown : s.vm.findClass R_Ref = some m.cls) (hml : c.maxLocals = 3) (hK : va_K (dC, dI) classes [(cI, .int), (cJ, .long)] s) {A : Nat → Prop} (hA : ∀ q : Nat, s.heap.size ≤ q → A q) (kk : ∀ (u0 : Unit), (True) → ∀ (H : Heap) (locs : List Loc) (ls : Array Slot), va_P (dC, dI) classes [(r0, .inr (8, [.int 0, .int ((nI N)), .int ((nI OU)), .int ((nI Z)), .ref r1, .ref r2, .int ((nI M)), .ref r3, .ref r4, .ref r5, .ref r6, .ref r7, .ref r8, .int ((nI PK)), .ref r9, .int kp, .ref r10, .ref r11, .int ((nI TK)), .ref r12, .int qc, .ref r13, .ref r14, .int bst, .ref r15])), (r10, .inl (cI, 81, .inl kpr)), (r11, .inl (cI, 81, .inl kot))] H → va_D A [(r0, .inr (8, [.int 0, .int ((nI N)), .int ((nI OU)), .int ((nI Z)), .ref r1, .ref r2, .int ((nI M)), .ref r3, .ref r4, .ref r5, .ref r6, .ref r7, .ref r8, .int ((nI PK)), .ref r9, .int kp, .ref r10, .ref r11, .int ((nI TK)), .ref r12, .int qc, .ref r13, .ref r14, .int bst, .ref r15])), (r10, .inl (cI, 81, .inl kpr)), (r11, .inl (cI, 81, .inl kot))] → va_S A s.heap H locs → lv_has ls 3 [(0, .ref r0), (1, .int ((coR N kpr kot TK)))] → W p l e ({ frames := 2, cells := 0, slots := 0, locals := 48 } : Room) s m args below meth c H locs 0 0 Q (F0 m 60 ls [])) : ∀ (fu : Nat) (k : Nat), TK - k < fu → (k ≤ TK) → ∀ (H : Heap) (locs : List Loc) (ls : Array Slot), va_P (dC, dI) classes [(r0, .inr (8, [.int 0, .int ((nI N)), .int ((nI OU)), .int ((nI Z)), .ref r1, .ref r2, .int ((nI M)), .ref r3, .ref r4, .ref r5, .ref r6, .ref r7, .ref r8, .int ((nI PK)), .ref r9, .int kp, .ref r10, .ref r11, .int ((nI TK)), .ref r12, .int qc, .ref r13, .ref r14, .int bst, .ref r15])), (r10, .inl (cI, 81, .inl kpr)), (r11, .inl (cI, 81, .inl kot))] H → va_D A [(r0, .inr (8, [.int 0, .int ((nI N)), .int ((nI OU)), .int ((nI Z)), .ref r1, .ref r2, .int ((nI M)), .ref r3, .ref r4, .ref r5, .ref r6, .ref r7, .ref r8, .int ((nI PK)), .ref r9, .int kp, .ref r10, .ref r11, .int ((nI TK)), .ref r12, .int qc, .ref r13, .ref r14, .int bst, .ref r15])), (r10, .inl (cI, 81, .inl kpr)), (r11, .inl (cI, 81, .inl kot))] → va_S A s.heap H locs → lv_has ls 3 [(0, .ref r0), (1, .int ((coR N kpr kot k))), (2, .int ((nI k)))] → W p l e ({ frames := 2, cells := 0, slots := 0, locals := 48 } : Room) s m args below meth c H locs 0 0 Q (F0 m 20 ls []) := by
  intro fu
  induction fu with
  | zero => intro k h; exact absurd h (Nat.not_lt_zero _)
  | succ fu ih =>
    intro k hmu hI H locs ls hP hD hS hl
    refine lv_iload_n hx hb d_Ref_cost_20 rfl (lv_at hl 2 rfl) ?_
    refine lv_aload_n hx hb d_Ref_cost_21 rfl (lv_at hl 0 rfl) ?_
    refine va_get (D := (dC, dI)) (ci := 8) (v := .int ((nI TK))) (C := R_Ref) (T := F_Ref) (N := 25) hx hb hts i_Ref hown hK hP 0 rfl rfl 18 (by decide) (hts _ mw_fl_Ref_110) (fun _ h9 => h9) rfl d_Ref_cost_22 ?_
    refine lv_icmp_ge (tgt := 60) hx hb d_Ref_cost_25 (by decide) (fun c_25 => ?_) (fun c_25 => ?_)
    · have hE9 : k = TK := Nat.le_antisymm hI ((nI_leI (a := TK) (b := k) (by omega) (by omega)).mp c_25)
      subst hE9
      exact kk (()) (trivial) _ _ ls (hP.sub [0, 1, 2] rfl) (hD.sub [0, 1, 2] (by decide) rfl) hS (lv_sub hl [0, 1] rfl)
    · have hlt_k : k < TK := Nat.lt_of_not_le (fun h => c_25 ((nI_leI (a := TK) (b := k) (by omega) (by omega)).mpr h))
      refine lv_aload_n hx hb d_Ref_cost_28 rfl (lv_at hl 0 rfl) ?_
      refine va_get (D := (dC, dI)) (ci := 8) (v := .int kp) (C := R_Ref) (T := F_Ref) (N := 25) hx hb hts i_Ref hown hK hP 0 rfl rfl 15 (by decide) (hts _ mw_fl_Ref_113) (fun _ h9 => h9) rfl d_Ref_cost_29 ?_
      refine lv_if_eq (tgt := 60) hx hb d_Ref_cost_32 (by decide) (fun c_32 => ?_) (fun c_32 => ?_)
      · exact absurd c_32 hk1
      · refine lv_iload_n hx hb d_Ref_cost_35 rfl (lv_at hl 1 rfl) ?_
        refine lv_aload_n hx hb d_Ref_cost_36 rfl (lv_at hl 0 rfl) ?_
        refine lv_aload_n hx hb d_Ref_cost_37 rfl (lv_at hl 0 rfl) ?_
        refine va_get (D := (dC, dI)) (ci := 8) (v := .ref r10) (C := R_Ref) (T := F_Ref) (N := 25) hx hb hts i_Ref hown hK hP 0 rfl rfl 16 (by decide) (hts _ mw_fl_Ref_37) (fun _ h9 => h9) rfl d_Ref_cost_38 ?_
        refine lv_iload_n hx hb d_Ref_cost_41 rfl (lv_at hl 2 rfl) ?_
        refine va_iald hx hb hK hP 1 0 rfl rfl (vp_in_nI (show k < 81 by omega) (by omega)) d_Ref_cost_42 ?_
        refine w_ti (show _ = kpr k from by rw [nI_clamp (by omega)]) ?_
        refine lv_aload_n hx hb d_Ref_cost_43 rfl (lv_at hl 0 rfl) ?_
        refine va_get (D := (dC, dI)) (ci := 8) (v := .ref r11) (C := R_Ref) (T := F_Ref) (N := 25) hx hb hts i_Ref hown hK hP 0 rfl rfl 17 (by decide) (hts _ mw_fl_Ref_40) (fun _ h9 => h9) rfl d_Ref_cost_44 ?_
        refine lv_iload_n hx hb d_Ref_cost_47 rfl (lv_at hl 2 rfl) ?_
        refine va_iald hx hb hK hP 2 0 rfl rfl (vp_in_nI (show k < 81 by omega) (by omega)) d_Ref_cost_48 ?_
        refine w_ti (show _ = kot k from by rw [nI_clamp (by omega)]) ?_
        refine vp_callSi (W.runV (As := [.int ((kpr k)), .int ((kot k))]) (rest := [.int ((coR N kpr kot k))]) ⟨hx, hb, hml, hown, hts⟩ (c_Ref_costOf l dC dI cI cJ r0 0 N OU Z r1 r2 M r3 r4 r5 r6 r7 r8 PK r9 kp r10 r11 TK r12 qc r13 r14 bst r15 (kpr k) (kot k) hN (hkv k hlt_k)) (cwV 2 hts (ct_goodV mw_ml_Ref_88 mw_im_Ref_costOf mw_se_Ref_costOf mw_ini_Ref mw_code_Ref_costOf) rfl rfl rfl (by decide +kernel) ⟨Nat.le_of_ble_eq_true rfl, Nat.le_of_ble_eq_true rfl⟩) ⟨fun a U g mk q => by obtain ⟨q0, qP, qK⟩ := q; exact ⟨q0, qP, va_K.moved (u := U) (U := U.calling g mk a) (Vm.Alike.refl U.vm) qK⟩, va_recv hK hP (ci := 8) (q0 := 0) rfl rfl, fun U hU hW => ⟨rfl, by rw [hU]; exact (hP.sub (ws' := [(r0, .inr (8, [.int 0, .int ((nI N)), .int ((nI OU)), .int ((nI Z)), .ref r1, .ref r2, .int ((nI M)), .ref r3, .ref r4, .ref r5, .ref r6, .ref r7, .ref r8, .int ((nI PK)), .ref r9, .int kp, .ref r10, .ref r11, .int ((nI TK)), .ref r12, .int qc, .ref r13, .ref r14, .int bst, .ref r15]))]) [0] rfl), va_K.moved hW.alike hK⟩⟩ rfl rfl hl.1 rfl (lv_room (Nat.le_of_ble_eq_true rfl)) d_Ref_cost_49 ⟨Nat.le_of_ble_eq_true rfl, Nat.le_of_ble_eq_true rfl⟩) (fun r_1 hr_1 => ?_)
        rw [hr_1]
        clear hr_1
        refine lv_iadd hx hb d_Ref_cost_52 ?_
        refine w_ti (show _ = coR N kpr kot (k + 1) from rfl) ?_
        refine lv_istore_n (lv' := [(1, .int ((coR N kpr kot (k + 1)))), (0, .ref r0), (2, .int ((nI k)))]) hx hb d_Ref_cost_53 rfl hl (by decide) rfl (fun ls hl => ?_)
        refine lv_iinc (v := (nI (k + 1))) (lv' := [(2, .int ((nI (k + 1)))), (1, .int ((coR N kpr kot (k + 1)))), (0, .ref r0)]) hx hb d_Ref_cost_54 hl (k := 2) rfl (show nI k + 1 = nI (k + 1) from nI_1 _) (by decide) rfl (fun ls hl => ?_)
        refine lv_goto (tgt := 20) hx hb d_Ref_cost_57 (by decide) ?_
        exact ih ((k + 1)) (by omega) (by omega) _ _ ls (hP.sub [0, 1, 2] rfl) (hD.sub [0, 1, 2] (by decide) rfl) hS (lv_sub hl [2, 1, 0] rfl)
set_option maxHeartbeats 1000000 in
set_option maxRecDepth 100000 in
theorem c1_Ref_cost (l : Launch) (dC : Nat → ClassId) (dI : Nat → Nat → Nat) (cI cJ : ClassId) (sz0 : Nat) (r0 : Nat) (th : Int32) (N : Nat) (OU : Nat) (Z : Nat) (r1 : Nat) (r2 : Nat) (M : Nat) (r3 : Nat) (r4 : Nat) (r5 : Nat) (r6 : Nat) (r7 : Nat) (r8 : Nat) (PK : Nat) (r9 : Nat) (kp : Int32) (r10 : Nat) (r11 : Nat) (TK : Nat) (r12 : Nat) (qc : Int32) (r13 : Nat) (r14 : Nat) (bst : Int32) (r15 : Nat) (kpr : Nat → Int32) (kot : Nat → Int32) (hk1 : ¬ kp = 0) (hN : N ≤ 4) (hTK : TK ≤ 81) (hkv : ∀ k, k < TK → vp_in (kpr k) 81) : Met l y_Ref_cost (ct y_Ref_cost b_Ref_cost 3 (some .long)) ({ frames := 2, cells := 0, slots := 0, locals := 48 }) (va_Pc [.ref r0] (fun U => U.heap.size = sz0 ∧ va_P (dC, dI) classes [(r0, .inr (8, [.int th, .int ((nI N)), .int ((nI OU)), .int ((nI Z)), .ref r1, .ref r2, .int ((nI M)), .ref r3, .ref r4, .ref r5, .ref r6, .ref r7, .ref r8, .int ((nI PK)), .ref r9, .int kp, .ref r10, .ref r11, .int ((nI TK)), .ref r12, .int qc, .ref r13, .ref r14, .int bst, .ref r15])), (r10, .inl (cI, 81, .inl kpr)), (r11, .inl (cI, 81, .inl kot))] U.heap ∧ va_K (dC, dI) classes [(cI, .int), (cJ, .long)] U ∧ va_D (fun _ => True) [(r0, .inr (8, [.int th, .int ((nI N)), .int ((nI OU)), .int ((nI Z)), .ref r1, .ref r2, .int ((nI M)), .ref r3, .ref r4, .ref r5, .ref r6, .ref r7, .ref r8, .int ((nI PK)), .ref r9, .int kp, .ref r10, .ref r11, .int ((nI TK)), .ref r12, .int qc, .ref r13, .ref r14, .int bst, .ref r15])), (r10, .inl (cI, 81, .inl kpr)), (r11, .inl (cI, 81, .inl kot))])) (va_Ql (fun (r : Int64) (_ : Unit) => r = (coR N kpr kot TK).toInt64) (fun _ => at_w dC dI cI cJ (va_A [(r0, .inr (8, [.int th, .int ((nI N)), .int ((nI OU)), .int ((nI Z)), .ref r1, .ref r2, .int ((nI M)), .ref r3, .ref r4, .ref r5, .ref r6, .ref r7, .ref r8, .int ((nI PK)), .ref r9, .int kp, .ref r10, .ref r11, .int ((nI TK)), .ref r12, .int qc, .ref r13, .ref r14, .int bst, .ref r15])), (r10, .inl (cI, 81, .inl kpr)), (r11, .inl (cI, 81, .inl kot))] sz0) [(r0, .inr (8, [.int 0, .int ((nI N)), .int ((nI OU)), .int ((nI Z)), .ref r1, .ref r2, .int ((nI M)), .ref r3, .ref r4, .ref r5, .ref r6, .ref r7, .ref r8, .int ((nI PK)), .ref r9, .int kp, .ref r10, .ref r11, .int ((nI TK)), .ref r12, .int qc, .ref r13, .ref r14, .int bst, .ref r15])), (r10, .inl (cI, 81, .inl kpr)), (r11, .inl (cI, 81, .inl kot))]) (va_A [(r0, .inr (8, [.int th, .int ((nI N)), .int ((nI OU)), .int ((nI Z)), .ref r1, .ref r2, .int ((nI M)), .ref r3, .ref r4, .ref r5, .ref r6, .ref r7, .ref r8, .int ((nI PK)), .ref r9, .int kp, .ref r10, .ref r11, .int ((nI TK)), .ref r12, .int qc, .ref r13, .ref r14, .int bst, .ref r15])), (r10, .inl (cI, 81, .inl kpr)), (r11, .inl (cI, 81, .inl kot))] sz0)) 0 0 (va_A [(r0, .inr (8, [.int th, .int ((nI N)), .int ((nI OU)), .int ((nI Z)), .ref r1, .ref r2, .int ((nI M)), .ref r3, .ref r4, .ref r5, .ref r6, .ref r7, .ref r8, .int ((nI PK)), .ref r9, .int kp, .ref r10, .ref r11, .int ((nI TK)), .ref r12, .int qc, .ref r13, .ref r14, .int bst, .ref r15])), (r10, .inl (cI, 81, .inl kpr)), (r11, .inl (cI, 81, .inl kot))] sz0) := by
  refine Met.ofW (cc := b_Ref_cost) (maxL := 3) (ret := some .long) (by decide) rfl ?_
  intro p e s m args below meth c s₁ B hml hv
  obtain ⟨rfl, hsz, hP, hK, hD0⟩ := hv
  have hx := B.exec
  have hb := B.bytes
  have hr := B.returns
  have hts : ∀ w ∈ lwg, w.before _ s = true := fun w h => atoms_spec (ws := ct y_Ref_cost b_Ref_cost 3 (some .long)) B.pre w (List.mem_cons_of_mem _ h)
  have hown : s.vm.findClass R_Ref = some m.cls := findClass_of_methodNamed B.named
  have hlocks := B.notSynchronized
  subst hsz
  have hD := hD0.self (sz := s.heap.size)
  generalize hAe : va_A [(r0, .inr (8, [.int th, .int ((nI N)), .int ((nI OU)), .int ((nI Z)), .ref r1, .ref r2, .int ((nI M)), .ref r3, .ref r4, .ref r5, .ref r6, .ref r7, .ref r8, .int ((nI PK)), .ref r9, .int kp, .ref r10, .ref r11, .int ((nI TK)), .ref r12, .int qc, .ref r13, .ref r14, .int bst, .ref r15])), (r10, .inl (cI, 81, .inl kpr)), (r11, .inl (cI, 81, .inl kot))] s.heap.size = A at hD ⊢
  have hA : ∀ q : Nat, s.heap.size ≤ q → A q := fun q h => by rw [← hAe]; exact Or.inr h
  have hS : va_S A s.heap s.heap [] := va_S.rf
  have hl := lv_entry ([.ref r0]) (n := 3) (Nat.le_of_ble_eq_true rfl)
  rw [lg_entry_eq]
  generalize (lg_sl ([.ref r0]) ++ List.replicate (3 - (lg_sl ([.ref r0])).length) Slot.unset).toArray = ls at hl ⊢
  have hl : lv_has ls 3 [(0, .ref r0)] := hl
  have hP : va_P (dC, dI) classes [(r0, .inr (8, [.int th, .int ((nI N)), .int ((nI OU)), .int ((nI Z)), .ref r1, .ref r2, .int ((nI M)), .ref r3, .ref r4, .ref r5, .ref r6, .ref r7, .ref r8, .int ((nI PK)), .ref r9, .int kp, .ref r10, .ref r11, .int ((nI TK)), .ref r12, .int qc, .ref r13, .ref r14, .int bst, .ref r15])), (r10, .inl (cI, 81, .inl kpr)), (r11, .inl (cI, 81, .inl kot))] s.heap := hP
  refine lv_aload_n hx hb d_Ref_cost_0 rfl (lv_at hl 0 rfl) ?_
  refine lv_aload_n hx hb d_Ref_cost_1 rfl (lv_at hl 0 rfl) ?_
  refine va_get (D := (dC, dI)) (ci := 8) (v := .int kp) (C := R_Ref) (T := F_Ref) (N := 25) hx hb hts i_Ref hown hK hP 0 rfl rfl 15 (by decide) (hts _ mw_fl_Ref_113) (fun _ h9 => h9) rfl d_Ref_cost_2 ?_
  refine lv_if_eq (tgt := 12) hx hb d_Ref_cost_5 (by decide) (fun c_5 => ?_) (fun c_5 => ?_)
  · exact absurd c_5 hk1
  · refine lv_iconst (v := 0) hx hb d_Ref_cost_8 (by decide) ?_
    refine lv_goto (tgt := 13) hx hb d_Ref_cost_9 (by decide) ?_
    refine va_put (D := (dC, dI)) (ci := 8) (v := .int 0) (ty := .int) (C := R_Ref) (T := F_Ref) (N := 25) hx hb hts i_Ref t_Ref t_Ref_ok n_Ref hown hK hP hD hS 0 rfl rfl 0 (by decide) (hts _ mw_fl_Ref_65) (fun _ h9 => h9) rfl (by decide +kernel) rfl rfl (Nat.le_of_ble_eq_true rfl) d_Ref_cost_13 (fun H locs hP hD hS => ?_)
    have hP : va_P (dC, dI) classes [(r0, .inr (8, [.int 0, .int ((nI N)), .int ((nI OU)), .int ((nI Z)), .ref r1, .ref r2, .int ((nI M)), .ref r3, .ref r4, .ref r5, .ref r6, .ref r7, .ref r8, .int ((nI PK)), .ref r9, .int kp, .ref r10, .ref r11, .int ((nI TK)), .ref r12, .int qc, .ref r13, .ref r14, .int bst, .ref r15])), (r10, .inl (cI, 81, .inl kpr)), (r11, .inl (cI, 81, .inl kot))] H := hP
    have hD : va_D A [(r0, .inr (8, [.int 0, .int ((nI N)), .int ((nI OU)), .int ((nI Z)), .ref r1, .ref r2, .int ((nI M)), .ref r3, .ref r4, .ref r5, .ref r6, .ref r7, .ref r8, .int ((nI PK)), .ref r9, .int kp, .ref r10, .ref r11, .int ((nI TK)), .ref r12, .int qc, .ref r13, .ref r14, .int bst, .ref r15])), (r10, .inl (cI, 81, .inl kpr)), (r11, .inl (cI, 81, .inl kot))] := hD
    refine lv_iconst (v := 0) hx hb d_Ref_cost_16 (by decide) ?_
    refine lv_istore_n (lv' := [(1, .int 0), (0, .ref r0)]) hx hb d_Ref_cost_17 rfl hl (by decide) rfl (fun ls hl => ?_)
    refine lv_iconst (v := 0) hx hb d_Ref_cost_18 (by decide) ?_
    refine lv_istore_n (lv' := [(2, .int 0), (1, .int 0), (0, .ref r0)]) hx hb d_Ref_cost_19 rfl hl (by decide) rfl (fun ls hl => ?_)
    refine lh_Ref_cost l dC dI cI cJ r0 th N OU Z r1 r2 M r3 r4 r5 r6 r7 r8 PK r9 kp r10 r11 TK r12 qc r13 r14 bst r15 kpr kot hk1 hN hTK hkv   hx hb hts hown hml hK hA (fun u0__1 hI__2 H locs ls hP hD hS hl => ?_) _ 0 (Nat.lt_succ_self _) (Nat.zero_le _) _ _ ls (hP.sub [0, 1, 2] rfl) (hD.sub [0, 1, 2] (by decide) rfl) hS (lv_sub hl [2, 1, 0] rfl)
    have hP : va_P (dC, dI) classes [(r0, .inr (8, [.int 0, .int ((nI N)), .int ((nI OU)), .int ((nI Z)), .ref r1, .ref r2, .int ((nI M)), .ref r3, .ref r4, .ref r5, .ref r6, .ref r7, .ref r8, .int ((nI PK)), .ref r9, .int kp, .ref r10, .ref r11, .int ((nI TK)), .ref r12, .int qc, .ref r13, .ref r14, .int bst, .ref r15])), (r10, .inl (cI, 81, .inl kpr)), (r11, .inl (cI, 81, .inl kot))] H := hP
    have hD : va_D A [(r0, .inr (8, [.int 0, .int ((nI N)), .int ((nI OU)), .int ((nI Z)), .ref r1, .ref r2, .int ((nI M)), .ref r3, .ref r4, .ref r5, .ref r6, .ref r7, .ref r8, .int ((nI PK)), .ref r9, .int kp, .ref r10, .ref r11, .int ((nI TK)), .ref r12, .int qc, .ref r13, .ref r14, .int bst, .ref r15])), (r10, .inl (cI, 81, .inl kpr)), (r11, .inl (cI, 81, .inl kot))] := hD
    have hl : lv_has ls 3 [(0, .ref r0), (1, .int ((coR N kpr kot TK)))] := hl
    refine lv_iload_n hx hb d_Ref_cost_60 rfl (lv_at hl 1 rfl) ?_
    refine lv_i2l hx hb d_Ref_cost_61 rfl ?_
    have hP9 := hP.sub (ws' := [(r0, .inr (8, [.int 0, .int ((nI N)), .int ((nI OU)), .int ((nI Z)), .ref r1, .ref r2, .int ((nI M)), .ref r3, .ref r4, .ref r5, .ref r6, .ref r7, .ref r8, .int ((nI PK)), .ref r9, .int kp, .ref r10, .ref r11, .int ((nI TK)), .ref r12, .int qc, .ref r13, .ref r14, .int bst, .ref r15])), (r10, .inl (cI, 81, .inl kpr)), (r11, .inl (cI, 81, .inl kot))]) [0, 1, 2] rfl
    have hD9 := hD.sub (ws' := [(r0, .inr (8, [.int 0, .int ((nI N)), .int ((nI OU)), .int ((nI Z)), .ref r1, .ref r2, .int ((nI M)), .ref r3, .ref r4, .ref r5, .ref r6, .ref r7, .ref r8, .int ((nI PK)), .ref r9, .int kp, .ref r10, .ref r11, .int ((nI TK)), .ref r12, .int qc, .ref r13, .ref r14, .int bst, .ref r15])), (r10, .inl (cI, 81, .inl kpr)), (r11, .inl (cI, 81, .inl kot))]) [0, 1, 2] (by decide) rfl
    exact W.lret (v := (coR N kpr kot TK).toInt64) hx hb hr (fun t ht hW => ⟨⟨(coR N kpr kot TK).toInt64, (), rfl, rfl, by rw [ht]; exact hP9, va_K.moved hW.alike hK, hD9⟩, hS.F ht⟩) hS.2.2 d_Ref_cost_62
