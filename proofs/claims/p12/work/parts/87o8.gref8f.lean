/-! ===== the reference: at, cost, equal, value by roads ===== -/
def coR (N : Nat) (kpr kot : Nat → Int32) (k : Nat) : Int32 := itr (fun k acc => acc + rCost N (kpr k).toNatClampNeg (kot k) N) k 0
set_option maxHeartbeats 1000000 in
set_option maxRecDepth 100000 in
theorem c0_Ref_divide (l : Launch) (dC : Nat → ClassId) (dI : Nat → Nat → Nat) (cI cJ : ClassId) (sz0 : Nat) (r0 : Nat) (th : Int32) (N : Nat) (OU : Nat) (Z : Nat) (r1 : Nat) (r2 : Nat) (M : Nat) (r3 : Nat) (r4 : Nat) (r5 : Nat) (r6 : Nat) (r7 : Nat) (r8 : Nat) (PK : Nat) (r9 : Nat) (kp : Int32) (r10 : Nat) (r11 : Nat) (TK : Nat) (r12 : Nat) (qc : Int32) (r13 : Nat) (r14 : Nat) (bst : Int32) (r15 : Nat) (se : Int32) (hk0 : kp = 0) : Met l y_Ref_divide (ct y_Ref_divide b_Ref_divide 5 (some .int)) ({ frames := 3, cells := 0, slots := 0, locals := 74 }) (va_Pc [.ref r0, .int se] (fun U => U.heap.size = sz0 ∧ va_P (dC, dI) classes [(r0, .inr (8, [.int th, .int ((nI N)), .int ((nI OU)), .int ((nI Z)), .ref r1, .ref r2, .int ((nI M)), .ref r3, .ref r4, .ref r5, .ref r6, .ref r7, .ref r8, .int ((nI PK)), .ref r9, .int kp, .ref r10, .ref r11, .int ((nI TK)), .ref r12, .int qc, .ref r13, .ref r14, .int bst, .ref r15]))] U.heap ∧ va_K (dC, dI) classes [(cI, .int), (cJ, .long)] U ∧ va_D (fun _ => True) [(r0, .inr (8, [.int th, .int ((nI N)), .int ((nI OU)), .int ((nI Z)), .ref r1, .ref r2, .int ((nI M)), .ref r3, .ref r4, .ref r5, .ref r6, .ref r7, .ref r8, .int ((nI PK)), .ref r9, .int kp, .ref r10, .ref r11, .int ((nI TK)), .ref r12, .int qc, .ref r13, .ref r14, .int bst, .ref r15]))])) (va_Qi (fun (r : Int32) (_ : Unit) => r = 0) (fun _ => at_w dC dI cI cJ (va_A [(r0, .inr (8, [.int th, .int ((nI N)), .int ((nI OU)), .int ((nI Z)), .ref r1, .ref r2, .int ((nI M)), .ref r3, .ref r4, .ref r5, .ref r6, .ref r7, .ref r8, .int ((nI PK)), .ref r9, .int kp, .ref r10, .ref r11, .int ((nI TK)), .ref r12, .int qc, .ref r13, .ref r14, .int bst, .ref r15]))] sz0) [(r0, .inr (8, [.int 1, .int ((nI N)), .int ((nI OU)), .int ((nI Z)), .ref r1, .ref r2, .int ((nI M)), .ref r3, .ref r4, .ref r5, .ref r6, .ref r7, .ref r8, .int ((nI PK)), .ref r9, .int kp, .ref r10, .ref r11, .int ((nI TK)), .ref r12, .int qc, .ref r13, .ref r14, .int bst, .ref r15]))]) (va_A [(r0, .inr (8, [.int th, .int ((nI N)), .int ((nI OU)), .int ((nI Z)), .ref r1, .ref r2, .int ((nI M)), .ref r3, .ref r4, .ref r5, .ref r6, .ref r7, .ref r8, .int ((nI PK)), .ref r9, .int kp, .ref r10, .ref r11, .int ((nI TK)), .ref r12, .int qc, .ref r13, .ref r14, .int bst, .ref r15]))] sz0)) 0 0 (va_A [(r0, .inr (8, [.int th, .int ((nI N)), .int ((nI OU)), .int ((nI Z)), .ref r1, .ref r2, .int ((nI M)), .ref r3, .ref r4, .ref r5, .ref r6, .ref r7, .ref r8, .int ((nI PK)), .ref r9, .int kp, .ref r10, .ref r11, .int ((nI TK)), .ref r12, .int qc, .ref r13, .ref r14, .int bst, .ref r15]))] sz0) := by
  refine Met.ofW (cc := b_Ref_divide) (maxL := 5) (ret := some .int) (by decide) rfl ?_
  intro p e s m args below meth c s₁ B hml hv
  obtain ⟨rfl, hsz, hP, hK, hD0⟩ := hv
  have hx := B.exec
  have hb := B.bytes
  have hr := B.returns
  have hts : ∀ w ∈ lwg, w.before _ s = true := fun w h => atoms_spec (ws := ct y_Ref_divide b_Ref_divide 5 (some .int)) B.pre w (List.mem_cons_of_mem _ h)
  have hown : s.vm.findClass R_Ref = some m.cls := findClass_of_methodNamed B.named
  have hlocks := B.notSynchronized
  subst hsz
  have hD := hD0.self (sz := s.heap.size)
  generalize hAe : va_A [(r0, .inr (8, [.int th, .int ((nI N)), .int ((nI OU)), .int ((nI Z)), .ref r1, .ref r2, .int ((nI M)), .ref r3, .ref r4, .ref r5, .ref r6, .ref r7, .ref r8, .int ((nI PK)), .ref r9, .int kp, .ref r10, .ref r11, .int ((nI TK)), .ref r12, .int qc, .ref r13, .ref r14, .int bst, .ref r15]))] s.heap.size = A at hD ⊢
  have hA : ∀ q : Nat, s.heap.size ≤ q → A q := fun q h => by rw [← hAe]; exact Or.inr h
  have hS : va_S A s.heap s.heap [] := va_S.rf
  have hl := lv_entry ([.ref r0, .int se]) (n := 5) (Nat.le_of_ble_eq_true rfl)
  rw [lg_entry_eq]
  generalize (lg_sl ([.ref r0, .int se]) ++ List.replicate (5 - (lg_sl ([.ref r0, .int se])).length) Slot.unset).toArray = ls at hl ⊢
  have hl : lv_has ls 5 [(0, .ref r0), (1, .int se)] := hl
  have hP : va_P (dC, dI) classes [(r0, .inr (8, [.int th, .int ((nI N)), .int ((nI OU)), .int ((nI Z)), .ref r1, .ref r2, .int ((nI M)), .ref r3, .ref r4, .ref r5, .ref r6, .ref r7, .ref r8, .int ((nI PK)), .ref r9, .int kp, .ref r10, .ref r11, .int ((nI TK)), .ref r12, .int qc, .ref r13, .ref r14, .int bst, .ref r15]))] s.heap := hP
  refine lv_aload_n hx hb d_Ref_divide_0 rfl (lv_at hl 0 rfl) ?_
  refine lv_aload_n hx hb d_Ref_divide_1 rfl (lv_at hl 0 rfl) ?_
  refine va_get (D := (dC, dI)) (ci := 8) (v := .int kp) (C := R_Ref) (T := F_Ref) (N := 25) hx hb hts i_Ref hown hK hP 0 rfl rfl 15 (by decide) (hts _ mw_fl_Ref_113) (fun _ h9 => h9) rfl d_Ref_divide_2 ?_
  refine lv_if_ne (tgt := 12) hx hb d_Ref_divide_5 (by decide) (fun c_5 => ?_) (fun c_5 => ?_)
  · exact absurd hk0 c_5
  · refine lv_iconst (v := 1) hx hb d_Ref_divide_8 (by decide) ?_
    refine lv_goto (tgt := 39) hx hb d_Ref_divide_9 (by decide) ?_
    refine va_put (D := (dC, dI)) (ci := 8) (v := .int 1) (ty := .int) (C := R_Ref) (T := F_Ref) (N := 25) hx hb hts i_Ref t_Ref t_Ref_ok n_Ref hown hK hP hD hS 0 rfl rfl 0 (by decide) (hts _ mw_fl_Ref_65) (fun _ h9 => h9) rfl (by decide +kernel) rfl rfl (Nat.le_of_ble_eq_true rfl) d_Ref_divide_39 (fun H locs hP hD hS => ?_)
    have hP : va_P (dC, dI) classes [(r0, .inr (8, [.int 1, .int ((nI N)), .int ((nI OU)), .int ((nI Z)), .ref r1, .ref r2, .int ((nI M)), .ref r3, .ref r4, .ref r5, .ref r6, .ref r7, .ref r8, .int ((nI PK)), .ref r9, .int kp, .ref r10, .ref r11, .int ((nI TK)), .ref r12, .int qc, .ref r13, .ref r14, .int bst, .ref r15]))] H := hP
    have hD : va_D A [(r0, .inr (8, [.int 1, .int ((nI N)), .int ((nI OU)), .int ((nI Z)), .ref r1, .ref r2, .int ((nI M)), .ref r3, .ref r4, .ref r5, .ref r6, .ref r7, .ref r8, .int ((nI PK)), .ref r9, .int kp, .ref r10, .ref r11, .int ((nI TK)), .ref r12, .int qc, .ref r13, .ref r14, .int bst, .ref r15]))] := hD
    refine lv_aload_n hx hb d_Ref_divide_42 rfl (lv_at hl 0 rfl) ?_
    refine va_get (D := (dC, dI)) (ci := 8) (v := .int 1) (C := R_Ref) (T := F_Ref) (N := 25) hx hb hts i_Ref hown hK hP 0 rfl rfl 0 (by decide) (hts _ mw_fl_Ref_65) (fun _ h9 => h9) rfl d_Ref_divide_43 ?_
    refine lv_if_le (tgt := 51) hx hb d_Ref_divide_46 (by decide) (fun c_46 => ?_) (fun c_46 => ?_)
    · exact absurd c_46 (by decide +kernel)
    · refine lv_iconst (v := 0) hx hb d_Ref_divide_49 (by decide) ?_
      have hP9 := hP.sub (ws' := [(r0, .inr (8, [.int 1, .int ((nI N)), .int ((nI OU)), .int ((nI Z)), .ref r1, .ref r2, .int ((nI M)), .ref r3, .ref r4, .ref r5, .ref r6, .ref r7, .ref r8, .int ((nI PK)), .ref r9, .int kp, .ref r10, .ref r11, .int ((nI TK)), .ref r12, .int qc, .ref r13, .ref r14, .int bst, .ref r15]))]) [0] rfl
      have hD9 := hD.sub (ws' := [(r0, .inr (8, [.int 1, .int ((nI N)), .int ((nI OU)), .int ((nI Z)), .ref r1, .ref r2, .int ((nI M)), .ref r3, .ref r4, .ref r5, .ref r6, .ref r7, .ref r8, .int ((nI PK)), .ref r9, .int kp, .ref r10, .ref r11, .int ((nI TK)), .ref r12, .int qc, .ref r13, .ref r14, .int bst, .ref r15]))]) [0] (by decide) rfl
      exact W.iret (v := 0) hx hb hr (fun t ht hW => ⟨⟨0, (), rfl, rfl, by rw [ht]; exact hP9, va_K.moved hW.alike hK, hD9⟩, hS.F ht⟩) hS.2.2 d_Ref_divide_50
set_option maxHeartbeats 1000000 in
set_option maxRecDepth 100000 in
theorem c1_Ref_divide (l : Launch) (dC : Nat → ClassId) (dI : Nat → Nat → Nat) (cI cJ : ClassId) (sz0 : Nat) (r0 : Nat) (th : Int32) (N : Nat) (OU : Nat) (Z : Nat) (r1 : Nat) (r2 : Nat) (M : Nat) (r3 : Nat) (r4 : Nat) (r5 : Nat) (r6 : Nat) (r7 : Nat) (r8 : Nat) (PK : Nat) (r9 : Nat) (kp : Int32) (r10 : Nat) (r11 : Nat) (TK : Nat) (r12 : Nat) (qc : Int32) (r13 : Nat) (r14 : Nat) (bst : Int32) (r15 : Nat) (se : Int32) (hk1 : ¬ kp = 0) (hTK : TK ≤ 81) (hbad : se ≤ 0 ∨ (TK < 31 ∧ ¬ se >>> (nI TK &&& 31) = 0)) : Met l y_Ref_divide (ct y_Ref_divide b_Ref_divide 5 (some .int)) ({ frames := 3, cells := 0, slots := 0, locals := 74 }) (va_Pc [.ref r0, .int se] (fun U => U.heap.size = sz0 ∧ va_P (dC, dI) classes [(r0, .inr (8, [.int th, .int ((nI N)), .int ((nI OU)), .int ((nI Z)), .ref r1, .ref r2, .int ((nI M)), .ref r3, .ref r4, .ref r5, .ref r6, .ref r7, .ref r8, .int ((nI PK)), .ref r9, .int kp, .ref r10, .ref r11, .int ((nI TK)), .ref r12, .int qc, .ref r13, .ref r14, .int bst, .ref r15]))] U.heap ∧ va_K (dC, dI) classes [(cI, .int), (cJ, .long)] U ∧ va_D (fun _ => True) [(r0, .inr (8, [.int th, .int ((nI N)), .int ((nI OU)), .int ((nI Z)), .ref r1, .ref r2, .int ((nI M)), .ref r3, .ref r4, .ref r5, .ref r6, .ref r7, .ref r8, .int ((nI PK)), .ref r9, .int kp, .ref r10, .ref r11, .int ((nI TK)), .ref r12, .int qc, .ref r13, .ref r14, .int bst, .ref r15]))])) (va_Qi (fun (r : Int32) (_ : Unit) => r = 0) (fun _ => at_w dC dI cI cJ (va_A [(r0, .inr (8, [.int th, .int ((nI N)), .int ((nI OU)), .int ((nI Z)), .ref r1, .ref r2, .int ((nI M)), .ref r3, .ref r4, .ref r5, .ref r6, .ref r7, .ref r8, .int ((nI PK)), .ref r9, .int kp, .ref r10, .ref r11, .int ((nI TK)), .ref r12, .int qc, .ref r13, .ref r14, .int bst, .ref r15]))] sz0) [(r0, .inr (8, [.int 2, .int ((nI N)), .int ((nI OU)), .int ((nI Z)), .ref r1, .ref r2, .int ((nI M)), .ref r3, .ref r4, .ref r5, .ref r6, .ref r7, .ref r8, .int ((nI PK)), .ref r9, .int kp, .ref r10, .ref r11, .int ((nI TK)), .ref r12, .int qc, .ref r13, .ref r14, .int bst, .ref r15]))]) (va_A [(r0, .inr (8, [.int th, .int ((nI N)), .int ((nI OU)), .int ((nI Z)), .ref r1, .ref r2, .int ((nI M)), .ref r3, .ref r4, .ref r5, .ref r6, .ref r7, .ref r8, .int ((nI PK)), .ref r9, .int kp, .ref r10, .ref r11, .int ((nI TK)), .ref r12, .int qc, .ref r13, .ref r14, .int bst, .ref r15]))] sz0)) 0 0 (va_A [(r0, .inr (8, [.int th, .int ((nI N)), .int ((nI OU)), .int ((nI Z)), .ref r1, .ref r2, .int ((nI M)), .ref r3, .ref r4, .ref r5, .ref r6, .ref r7, .ref r8, .int ((nI PK)), .ref r9, .int kp, .ref r10, .ref r11, .int ((nI TK)), .ref r12, .int qc, .ref r13, .ref r14, .int bst, .ref r15]))] sz0) := by
  refine Met.ofW (cc := b_Ref_divide) (maxL := 5) (ret := some .int) (by decide) rfl ?_
  intro p e s m args below meth c s₁ B hml hv
  obtain ⟨rfl, hsz, hP, hK, hD0⟩ := hv
  have hx := B.exec
  have hb := B.bytes
  have hr := B.returns
  have hts : ∀ w ∈ lwg, w.before _ s = true := fun w h => atoms_spec (ws := ct y_Ref_divide b_Ref_divide 5 (some .int)) B.pre w (List.mem_cons_of_mem _ h)
  have hown : s.vm.findClass R_Ref = some m.cls := findClass_of_methodNamed B.named
  have hlocks := B.notSynchronized
  subst hsz
  have hD := hD0.self (sz := s.heap.size)
  generalize hAe : va_A [(r0, .inr (8, [.int th, .int ((nI N)), .int ((nI OU)), .int ((nI Z)), .ref r1, .ref r2, .int ((nI M)), .ref r3, .ref r4, .ref r5, .ref r6, .ref r7, .ref r8, .int ((nI PK)), .ref r9, .int kp, .ref r10, .ref r11, .int ((nI TK)), .ref r12, .int qc, .ref r13, .ref r14, .int bst, .ref r15]))] s.heap.size = A at hD ⊢
  have hA : ∀ q : Nat, s.heap.size ≤ q → A q := fun q h => by rw [← hAe]; exact Or.inr h
  have hS : va_S A s.heap s.heap [] := va_S.rf
  have hl := lv_entry ([.ref r0, .int se]) (n := 5) (Nat.le_of_ble_eq_true rfl)
  rw [lg_entry_eq]
  generalize (lg_sl ([.ref r0, .int se]) ++ List.replicate (5 - (lg_sl ([.ref r0, .int se])).length) Slot.unset).toArray = ls at hl ⊢
  have hl : lv_has ls 5 [(0, .ref r0), (1, .int se)] := hl
  have hP : va_P (dC, dI) classes [(r0, .inr (8, [.int th, .int ((nI N)), .int ((nI OU)), .int ((nI Z)), .ref r1, .ref r2, .int ((nI M)), .ref r3, .ref r4, .ref r5, .ref r6, .ref r7, .ref r8, .int ((nI PK)), .ref r9, .int kp, .ref r10, .ref r11, .int ((nI TK)), .ref r12, .int qc, .ref r13, .ref r14, .int bst, .ref r15]))] s.heap := hP
  refine lv_aload_n hx hb d_Ref_divide_0 rfl (lv_at hl 0 rfl) ?_
  refine lv_aload_n hx hb d_Ref_divide_1 rfl (lv_at hl 0 rfl) ?_
  refine va_get (D := (dC, dI)) (ci := 8) (v := .int kp) (C := R_Ref) (T := F_Ref) (N := 25) hx hb hts i_Ref hown hK hP 0 rfl rfl 15 (by decide) (hts _ mw_fl_Ref_113) (fun _ h9 => h9) rfl d_Ref_divide_2 ?_
  refine lv_if_ne (tgt := 12) hx hb d_Ref_divide_5 (by decide) (fun c_5 => ?_) (fun c_5 => ?_)
  · refine lv_iload_n hx hb d_Ref_divide_12 rfl (lv_at hl 1 rfl) ?_
    refine lv_if_le (tgt := 34) hx hb d_Ref_divide_13 (by decide) (fun c_13 => ?_) (fun c_13 => ?_)
    · refine lv_iconst (v := 2) hx hb d_Ref_divide_34 (by decide) ?_
      refine lv_goto (tgt := 39) hx hb d_Ref_divide_35 (by decide) ?_
      refine va_put (D := (dC, dI)) (ci := 8) (v := .int 2) (ty := .int) (C := R_Ref) (T := F_Ref) (N := 25) hx hb hts i_Ref t_Ref t_Ref_ok n_Ref hown hK hP hD hS 0 rfl rfl 0 (by decide) (hts _ mw_fl_Ref_65) (fun _ h9 => h9) rfl (by decide +kernel) rfl rfl (Nat.le_of_ble_eq_true rfl) d_Ref_divide_39 (fun H locs hP hD hS => ?_)
      have hP : va_P (dC, dI) classes [(r0, .inr (8, [.int 2, .int ((nI N)), .int ((nI OU)), .int ((nI Z)), .ref r1, .ref r2, .int ((nI M)), .ref r3, .ref r4, .ref r5, .ref r6, .ref r7, .ref r8, .int ((nI PK)), .ref r9, .int kp, .ref r10, .ref r11, .int ((nI TK)), .ref r12, .int qc, .ref r13, .ref r14, .int bst, .ref r15]))] H := hP
      have hD : va_D A [(r0, .inr (8, [.int 2, .int ((nI N)), .int ((nI OU)), .int ((nI Z)), .ref r1, .ref r2, .int ((nI M)), .ref r3, .ref r4, .ref r5, .ref r6, .ref r7, .ref r8, .int ((nI PK)), .ref r9, .int kp, .ref r10, .ref r11, .int ((nI TK)), .ref r12, .int qc, .ref r13, .ref r14, .int bst, .ref r15]))] := hD
      refine lv_aload_n hx hb d_Ref_divide_42 rfl (lv_at hl 0 rfl) ?_
      refine va_get (D := (dC, dI)) (ci := 8) (v := .int 2) (C := R_Ref) (T := F_Ref) (N := 25) hx hb hts i_Ref hown hK hP 0 rfl rfl 0 (by decide) (hts _ mw_fl_Ref_65) (fun _ h9 => h9) rfl d_Ref_divide_43 ?_
      refine lv_if_le (tgt := 51) hx hb d_Ref_divide_46 (by decide) (fun c_46 => ?_) (fun c_46 => ?_)
      · exact absurd c_46 (by decide +kernel)
      · refine lv_iconst (v := 0) hx hb d_Ref_divide_49 (by decide) ?_
        have hP9 := hP.sub (ws' := [(r0, .inr (8, [.int 2, .int ((nI N)), .int ((nI OU)), .int ((nI Z)), .ref r1, .ref r2, .int ((nI M)), .ref r3, .ref r4, .ref r5, .ref r6, .ref r7, .ref r8, .int ((nI PK)), .ref r9, .int kp, .ref r10, .ref r11, .int ((nI TK)), .ref r12, .int qc, .ref r13, .ref r14, .int bst, .ref r15]))]) [0] rfl
        have hD9 := hD.sub (ws' := [(r0, .inr (8, [.int 2, .int ((nI N)), .int ((nI OU)), .int ((nI Z)), .ref r1, .ref r2, .int ((nI M)), .ref r3, .ref r4, .ref r5, .ref r6, .ref r7, .ref r8, .int ((nI PK)), .ref r9, .int kp, .ref r10, .ref r11, .int ((nI TK)), .ref r12, .int qc, .ref r13, .ref r14, .int bst, .ref r15]))]) [0] (by decide) rfl
        exact W.iret (v := 0) hx hb hr (fun t ht hW => ⟨⟨0, (), rfl, rfl, by rw [ht]; exact hP9, va_K.moved hW.alike hK, hD9⟩, hS.F ht⟩) hS.2.2 d_Ref_divide_50
    · refine lv_aload_n hx hb d_Ref_divide_16 rfl (lv_at hl 0 rfl) ?_
      refine va_get (D := (dC, dI)) (ci := 8) (v := .int ((nI TK))) (C := R_Ref) (T := F_Ref) (N := 25) hx hb hts i_Ref hown hK hP 0 rfl rfl 18 (by decide) (hts _ mw_fl_Ref_110) (fun _ h9 => h9) rfl d_Ref_divide_17 ?_
      refine lv_bipush (v := 31) hx hb d_Ref_divide_20 (by decide) ?_
      refine lv_icmp_ge (tgt := 38) hx hb d_Ref_divide_22 (by decide) (fun c_22 => ?_) (fun c_22 => ?_)
      · exact (hbad.elim c_13 (fun g => absurd (((nI_leI (a := 31) (b := TK) (by omega) (by omega))).mp c_22) (by omega))).elim
      · refine lv_iload_n hx hb d_Ref_divide_25 rfl (lv_at hl 1 rfl) ?_
        refine lv_aload_n hx hb d_Ref_divide_26 rfl (lv_at hl 0 rfl) ?_
        refine va_get (D := (dC, dI)) (ci := 8) (v := .int ((nI TK))) (C := R_Ref) (T := F_Ref) (N := 25) hx hb hts i_Ref hown hK hP 0 rfl rfl 18 (by decide) (hts _ mw_fl_Ref_110) (fun _ h9 => h9) rfl d_Ref_divide_27 ?_
        refine lv_ishr hx hb d_Ref_divide_30 ?_
        refine lv_if_eq (tgt := 38) hx hb d_Ref_divide_31 (by decide) (fun c_31 => ?_) (fun c_31 => ?_)
        · exact (hbad.elim c_13 (fun g => g.2 c_31)).elim
        · refine lv_iconst (v := 2) hx hb d_Ref_divide_34 (by decide) ?_
          refine lv_goto (tgt := 39) hx hb d_Ref_divide_35 (by decide) ?_
          refine va_put (D := (dC, dI)) (ci := 8) (v := .int 2) (ty := .int) (C := R_Ref) (T := F_Ref) (N := 25) hx hb hts i_Ref t_Ref t_Ref_ok n_Ref hown hK hP hD hS 0 rfl rfl 0 (by decide) (hts _ mw_fl_Ref_65) (fun _ h9 => h9) rfl (by decide +kernel) rfl rfl (Nat.le_of_ble_eq_true rfl) d_Ref_divide_39 (fun H locs hP hD hS => ?_)
          have hP : va_P (dC, dI) classes [(r0, .inr (8, [.int 2, .int ((nI N)), .int ((nI OU)), .int ((nI Z)), .ref r1, .ref r2, .int ((nI M)), .ref r3, .ref r4, .ref r5, .ref r6, .ref r7, .ref r8, .int ((nI PK)), .ref r9, .int kp, .ref r10, .ref r11, .int ((nI TK)), .ref r12, .int qc, .ref r13, .ref r14, .int bst, .ref r15]))] H := hP
          have hD : va_D A [(r0, .inr (8, [.int 2, .int ((nI N)), .int ((nI OU)), .int ((nI Z)), .ref r1, .ref r2, .int ((nI M)), .ref r3, .ref r4, .ref r5, .ref r6, .ref r7, .ref r8, .int ((nI PK)), .ref r9, .int kp, .ref r10, .ref r11, .int ((nI TK)), .ref r12, .int qc, .ref r13, .ref r14, .int bst, .ref r15]))] := hD
          refine lv_aload_n hx hb d_Ref_divide_42 rfl (lv_at hl 0 rfl) ?_
          refine va_get (D := (dC, dI)) (ci := 8) (v := .int 2) (C := R_Ref) (T := F_Ref) (N := 25) hx hb hts i_Ref hown hK hP 0 rfl rfl 0 (by decide) (hts _ mw_fl_Ref_65) (fun _ h9 => h9) rfl d_Ref_divide_43 ?_
          refine lv_if_le (tgt := 51) hx hb d_Ref_divide_46 (by decide) (fun c_46 => ?_) (fun c_46 => ?_)
          · exact absurd c_46 (by decide +kernel)
          · refine lv_iconst (v := 0) hx hb d_Ref_divide_49 (by decide) ?_
            have hP9 := hP.sub (ws' := [(r0, .inr (8, [.int 2, .int ((nI N)), .int ((nI OU)), .int ((nI Z)), .ref r1, .ref r2, .int ((nI M)), .ref r3, .ref r4, .ref r5, .ref r6, .ref r7, .ref r8, .int ((nI PK)), .ref r9, .int kp, .ref r10, .ref r11, .int ((nI TK)), .ref r12, .int qc, .ref r13, .ref r14, .int bst, .ref r15]))]) [0] rfl
            have hD9 := hD.sub (ws' := [(r0, .inr (8, [.int 2, .int ((nI N)), .int ((nI OU)), .int ((nI Z)), .ref r1, .ref r2, .int ((nI M)), .ref r3, .ref r4, .ref r5, .ref r6, .ref r7, .ref r8, .int ((nI PK)), .ref r9, .int kp, .ref r10, .ref r11, .int ((nI TK)), .ref r12, .int qc, .ref r13, .ref r14, .int bst, .ref r15]))]) [0] (by decide) rfl
            exact W.iret (v := 0) hx hb hr (fun t ht hW => ⟨⟨0, (), rfl, rfl, by rw [ht]; exact hP9, va_K.moved hW.alike hK, hD9⟩, hS.F ht⟩) hS.2.2 d_Ref_divide_50
  · exact absurd c_5 hk1
set_option maxHeartbeats 1000000 in
set_option maxRecDepth 100000 in
theorem lh_Ref_divide2 {p : Program} {e : Env} {s : State} {m : MethodId} {args : Array Value} {below : List Frame} {meth : Method} {c : Code} {Q : State → Prop} (l : Launch) (dC : Nat → ClassId) (dI : Nat → Nat → Nat) (cI cJ : ClassId) (r0 : Nat) (th : Int32) (N : Nat) (OU : Nat) (Z : Nat) (r1 : Nat) (r2 : Nat) (M : Nat) (r3 : Nat) (r4 : Nat) (r5 : Nat) (r6 : Nat) (r7 : Nat) (r8 : Nat) (PK : Nat) (r9 : Nat) (kp : Int32) (r10 : Nat) (r11 : Nat) (TK : Nat) (r12 : Nat) (qc : Int32) (r13 : Nat) (r14 : Nat) (bst : Int32) (r15 : Nat) (kpr : Nat → Int32) (quo : Nat → Int32) (se : Int32) (hk1 : ¬ kp = 0) (hN : N ≤ 4) (hZ : 3 ^ N = Z) (hTK : TK ≤ 81) (hkv : ∀ k, k < TK → vp_in (kpr k) 81) (hgood : ¬ (se ≤ 0 ∨ (TK < 31 ∧ ¬ se >>> (nI TK &&& 31) = 0))) (Qv : Nat) (qv : Nat → Int32) (pv : Nat)  (hx : p.tables.exec = Jvm.exec) (hb : c.code = b_Ref_divide) (hts : ∀ w ∈ lwg, w.before args s = true) (hown : s.vm.findClass R_Ref = some m.cls) (hml : c.maxLocals = 5) (hK : va_K (dC, dI) classes [(cI, .int), (cJ, .long)] s) {A : Nat → Prop} (hA : ∀ q : Nat, s.heap.size ≤ q → A q) (kk : ∀ (u0 : Unit), (True) → ∀ (H : Heap) (locs : List Loc) (ls : Array Slot), va_P (dC, dI) classes [(r0, .inr (8, [.int 0, .int ((nI N)), .int ((nI OU)), .int ((nI Z)), .ref r1, .ref r2, .int ((nI M)), .ref r3, .ref r4, .ref r5, .ref r6, .ref r7, .ref r8, .int ((nI PK)), .ref r9, .int kp, .ref r10, .ref r11, .int ((nI TK)), .ref r12, .int ((nI Qv)), .ref r13, .ref r14, .int bst, .ref r15])), (r10, .inl (cI, 81, .inl kpr)), (r12, .inl (cI, 81, .inl qv))] H → va_D A [(r0, .inr (8, [.int 0, .int ((nI N)), .int ((nI OU)), .int ((nI Z)), .ref r1, .ref r2, .int ((nI M)), .ref r3, .ref r4, .ref r5, .ref r6, .ref r7, .ref r8, .int ((nI PK)), .ref r9, .int kp, .ref r10, .ref r11, .int ((nI TK)), .ref r12, .int ((nI Qv)), .ref r13, .ref r14, .int bst, .ref r15])), (r10, .inl (cI, 81, .inl kpr)), (r12, .inl (cI, 81, .inl qv))] → va_S A s.heap H locs → lv_has ls 5 [(0, .ref r0), (1, .int se), (2, .int ((nI pv))), (3, .int ((bI (dAll kpr N TK se pv TK))))] → W p l e ({ frames := 3, cells := 0, slots := 0, locals := 74 } : Room) s m args below meth c H locs 0 0 Q (F0 m 120 ls [])) : ∀ (fu : Nat) (k : Nat), TK - k < fu → (k ≤ TK) → ∀ (H : Heap) (locs : List Loc) (ls : Array Slot), va_P (dC, dI) classes [(r0, .inr (8, [.int 0, .int ((nI N)), .int ((nI OU)), .int ((nI Z)), .ref r1, .ref r2, .int ((nI M)), .ref r3, .ref r4, .ref r5, .ref r6, .ref r7, .ref r8, .int ((nI PK)), .ref r9, .int kp, .ref r10, .ref r11, .int ((nI TK)), .ref r12, .int ((nI Qv)), .ref r13, .ref r14, .int bst, .ref r15])), (r10, .inl (cI, 81, .inl kpr)), (r12, .inl (cI, 81, .inl qv))] H → va_D A [(r0, .inr (8, [.int 0, .int ((nI N)), .int ((nI OU)), .int ((nI Z)), .ref r1, .ref r2, .int ((nI M)), .ref r3, .ref r4, .ref r5, .ref r6, .ref r7, .ref r8, .int ((nI PK)), .ref r9, .int kp, .ref r10, .ref r11, .int ((nI TK)), .ref r12, .int ((nI Qv)), .ref r13, .ref r14, .int bst, .ref r15])), (r10, .inl (cI, 81, .inl kpr)), (r12, .inl (cI, 81, .inl qv))] → va_S A s.heap H locs → lv_has ls 5 [(0, .ref r0), (1, .int se), (2, .int ((nI pv))), (3, .int ((bI (dAll kpr N TK se pv k)))), (4, .int ((nI k)))] → W p l e ({ frames := 3, cells := 0, slots := 0, locals := 74 } : Room) s m args below meth c H locs 0 0 Q (F0 m 71 ls []) := by
  intro fu
  induction fu with
  | zero => intro k h; exact absurd h (Nat.not_lt_zero _)
  | succ fu ih =>
    intro k hmu hI H locs ls hP hD hS hl
    have hZ8 : Z ≤ 81 := by rw [← hZ]; exact p3_81 hN
    refine lv_iload hx hb d_Ref_divide_71 (lv_at hl 4 rfl) ?_
    refine lv_aload_n hx hb d_Ref_divide_73 rfl (lv_at hl 0 rfl) ?_
    refine va_get (D := (dC, dI)) (ci := 8) (v := .int ((nI TK))) (C := R_Ref) (T := F_Ref) (N := 25) hx hb hts i_Ref hown hK hP 0 rfl rfl 18 (by decide) (hts _ mw_fl_Ref_110) (fun _ h9 => h9) rfl d_Ref_divide_74 ?_
    refine lv_icmp_ge (tgt := 120) hx hb d_Ref_divide_77 (by decide) (fun c_77 => ?_) (fun c_77 => ?_)
    · have hE9 : k = TK := Nat.le_antisymm hI ((nI_leI (a := TK) (b := k) (by omega) (by omega)).mp c_77)
      subst hE9
      exact kk (()) (trivial) _ _ ls (hP.sub [0, 1, 2] rfl) (hD.sub [0, 1, 2] (by decide) rfl) hS (lv_sub hl [0, 1, 2, 3] rfl)
    · have hlt_k : k < TK := Nat.lt_of_not_le (fun h => c_77 ((nI_leI (a := TK) (b := k) (by omega) (by omega)).mpr h))
      refine lv_iload_n hx hb d_Ref_divide_80 rfl (lv_at hl 3 rfl) ?_
      refine lv_if_eq (tgt := 112) hx hb d_Ref_divide_81 (by decide) (fun c_81 => ?_) (fun c_81 => ?_)
      · refine lv_iconst (v := 0) hx hb d_Ref_divide_112 (by decide) ?_
        refine w_ti (show _ = bI (dAll kpr N TK se pv (k + 1)) from by rw [show dAll kpr N TK se pv (k + 1) = (dAll kpr N TK se pv k && (decide ((se >>> (nI k &&& 31)) &&& 1 = 0) || !decide (rIn kpr N (nI pv) (kpr k).toNatClampNeg TK = 0))) from rfl, Bool.eq_false_iff.mpr (bI_f c_81)]; rfl) ?_
        refine lv_istore_n (lv' := [(3, .int ((bI (dAll kpr N TK se pv (k + 1))))), (0, .ref r0), (1, .int se), (2, .int ((nI pv))), (4, .int ((nI k)))]) hx hb d_Ref_divide_113 rfl hl (by decide) rfl (fun ls hl => ?_)
        refine lv_iinc (v := (nI (k + 1))) (lv' := [(4, .int ((nI (k + 1)))), (3, .int ((bI (dAll kpr N TK se pv (k + 1))))), (0, .ref r0), (1, .int se), (2, .int ((nI pv)))]) hx hb d_Ref_divide_114 hl (k := 4) rfl (show nI k + 1 = nI (k + 1) from nI_1 _) (by decide) rfl (fun ls hl => ?_)
        refine lv_goto (tgt := 71) hx hb d_Ref_divide_117 (by decide) ?_
        exact ih ((k + 1)) (by omega) (by omega) _ _ ls (hP.sub [0, 1, 2] rfl) (hD.sub [0, 1, 2] (by decide) rfl) hS (lv_sub hl [2, 3, 4, 1, 0] rfl)
      · refine lv_iload_n hx hb d_Ref_divide_84 rfl (lv_at hl 1 rfl) ?_
        refine lv_iload hx hb d_Ref_divide_85 (lv_at hl 4 rfl) ?_
        refine lv_ishr hx hb d_Ref_divide_87 ?_
        refine lv_iconst (v := 1) hx hb d_Ref_divide_88 (by decide) ?_
        refine lv_iand hx hb d_Ref_divide_89 ?_
        refine lv_if_eq (tgt := 108) hx hb d_Ref_divide_90 (by decide) (fun c_90 => ?_) (fun c_90 => ?_)
        · refine lv_iconst (v := 1) hx hb d_Ref_divide_108 (by decide) ?_
          refine lv_goto (tgt := 113) hx hb d_Ref_divide_109 (by decide) ?_
          refine w_ti (show _ = bI (dAll kpr N TK se pv (k + 1)) from by rw [show dAll kpr N TK se pv (k + 1) = (dAll kpr N TK se pv k && (decide ((se >>> (nI k &&& 31)) &&& 1 = 0) || !decide (rIn kpr N (nI pv) (kpr k).toNatClampNeg TK = 0))) from rfl, bI_t c_81, decide_eq_true c_90]; rfl) ?_
          refine lv_istore_n (lv' := [(3, .int ((bI (dAll kpr N TK se pv (k + 1))))), (0, .ref r0), (1, .int se), (2, .int ((nI pv))), (4, .int ((nI k)))]) hx hb d_Ref_divide_113 rfl hl (by decide) rfl (fun ls hl => ?_)
          refine lv_iinc (v := (nI (k + 1))) (lv' := [(4, .int ((nI (k + 1)))), (3, .int ((bI (dAll kpr N TK se pv (k + 1))))), (0, .ref r0), (1, .int se), (2, .int ((nI pv)))]) hx hb d_Ref_divide_114 hl (k := 4) rfl (show nI k + 1 = nI (k + 1) from nI_1 _) (by decide) rfl (fun ls hl => ?_)
          refine lv_goto (tgt := 71) hx hb d_Ref_divide_117 (by decide) ?_
          exact ih ((k + 1)) (by omega) (by omega) _ _ ls (hP.sub [0, 1, 2] rfl) (hD.sub [0, 1, 2] (by decide) rfl) hS (lv_sub hl [2, 3, 4, 1, 0] rfl)
        · refine lv_aload_n hx hb d_Ref_divide_93 rfl (lv_at hl 0 rfl) ?_
          refine lv_iload_n hx hb d_Ref_divide_94 rfl (lv_at hl 2 rfl) ?_
          refine lv_aload_n hx hb d_Ref_divide_95 rfl (lv_at hl 0 rfl) ?_
          refine va_get (D := (dC, dI)) (ci := 8) (v := .ref r10) (C := R_Ref) (T := F_Ref) (N := 25) hx hb hts i_Ref hown hK hP 0 rfl rfl 16 (by decide) (hts _ mw_fl_Ref_37) (fun _ h9 => h9) rfl d_Ref_divide_96 ?_
          refine lv_iload hx hb d_Ref_divide_99 (lv_at hl 4 rfl) ?_
          refine va_iald hx hb hK hP 1 0 rfl rfl (vp_in_nI (show k < 81 by omega) (by omega)) d_Ref_divide_101 ?_
          refine w_ti (show _ = kpr k from by rw [nI_clamp (by omega)]) ?_
          refine vp_callSi (W.runV (As := [.int ((nI pv)), .int ((kpr k))]) (rest := []) ⟨hx, hb, hml, hown, hts⟩ (c_Ref_isIn l dC dI cI cJ r0 0 N OU Z r1 r2 M r3 r4 r5 r6 r7 r8 PK r9 kp r10 r11 TK r12 (nI Qv) r13 r14 bst r15 kpr (nI pv) (kpr k) hN hTK hkv (hkv k hlt_k)) (cwV 2 hts (ct_goodV mw_ml_Ref_126 mw_im_Ref_isIn mw_se_Ref_isIn mw_ini_Ref mw_code_Ref_isIn) rfl rfl rfl (by decide +kernel) ⟨Nat.le_of_ble_eq_true rfl, Nat.le_of_ble_eq_true rfl⟩) ⟨fun a U g mk q => by obtain ⟨q0, qP, qK⟩ := q; exact ⟨q0, qP, va_K.moved (u := U) (U := U.calling g mk a) (Vm.Alike.refl U.vm) qK⟩, va_recv hK hP (ci := 8) (q0 := 0) rfl rfl, fun U hU hW => ⟨rfl, by rw [hU]; exact (hP.sub (ws' := [(r0, .inr (8, [.int 0, .int ((nI N)), .int ((nI OU)), .int ((nI Z)), .ref r1, .ref r2, .int ((nI M)), .ref r3, .ref r4, .ref r5, .ref r6, .ref r7, .ref r8, .int ((nI PK)), .ref r9, .int kp, .ref r10, .ref r11, .int ((nI TK)), .ref r12, .int (nI Qv), .ref r13, .ref r14, .int bst, .ref r15])), (r10, .inl (cI, 81, .inl kpr))]) [0, 1] rfl), va_K.moved hW.alike hK⟩⟩ rfl rfl hl.1 rfl (lv_room (Nat.le_of_ble_eq_true rfl)) d_Ref_divide_102 ⟨Nat.le_of_ble_eq_true rfl, Nat.le_of_ble_eq_true rfl⟩) (fun r_1 hr_1 => ?_)
          rw [hr_1]
          clear hr_1
          refine lv_if_eq (tgt := 112) hx hb d_Ref_divide_105 (by decide) (fun c_105 => ?_) (fun c_105 => ?_)
          · refine lv_iconst (v := 0) hx hb d_Ref_divide_112 (by decide) ?_
            refine w_ti (show _ = bI (dAll kpr N TK se pv (k + 1)) from by rw [show dAll kpr N TK se pv (k + 1) = (dAll kpr N TK se pv k && (decide ((se >>> (nI k &&& 31)) &&& 1 = 0) || !decide (rIn kpr N (nI pv) (kpr k).toNatClampNeg TK = 0))) from rfl, bI_t c_81, decide_eq_false c_90, decide_eq_true c_105]; rfl) ?_
            refine lv_istore_n (lv' := [(3, .int ((bI (dAll kpr N TK se pv (k + 1))))), (0, .ref r0), (1, .int se), (2, .int ((nI pv))), (4, .int ((nI k)))]) hx hb d_Ref_divide_113 rfl hl (by decide) rfl (fun ls hl => ?_)
            refine lv_iinc (v := (nI (k + 1))) (lv' := [(4, .int ((nI (k + 1)))), (3, .int ((bI (dAll kpr N TK se pv (k + 1))))), (0, .ref r0), (1, .int se), (2, .int ((nI pv)))]) hx hb d_Ref_divide_114 hl (k := 4) rfl (show nI k + 1 = nI (k + 1) from nI_1 _) (by decide) rfl (fun ls hl => ?_)
            refine lv_goto (tgt := 71) hx hb d_Ref_divide_117 (by decide) ?_
            exact ih ((k + 1)) (by omega) (by omega) _ _ ls (hP.sub [0, 1, 2] rfl) (hD.sub [0, 1, 2] (by decide) rfl) hS (lv_sub hl [2, 3, 4, 1, 0] rfl)
          · refine lv_iconst (v := 1) hx hb d_Ref_divide_108 (by decide) ?_
            refine lv_goto (tgt := 113) hx hb d_Ref_divide_109 (by decide) ?_
            refine w_ti (show _ = bI (dAll kpr N TK se pv (k + 1)) from by rw [show dAll kpr N TK se pv (k + 1) = (dAll kpr N TK se pv k && (decide ((se >>> (nI k &&& 31)) &&& 1 = 0) || !decide (rIn kpr N (nI pv) (kpr k).toNatClampNeg TK = 0))) from rfl, bI_t c_81, decide_eq_false c_90, decide_eq_false c_105]; rfl) ?_
            refine lv_istore_n (lv' := [(3, .int ((bI (dAll kpr N TK se pv (k + 1))))), (0, .ref r0), (1, .int se), (2, .int ((nI pv))), (4, .int ((nI k)))]) hx hb d_Ref_divide_113 rfl hl (by decide) rfl (fun ls hl => ?_)
            refine lv_iinc (v := (nI (k + 1))) (lv' := [(4, .int ((nI (k + 1)))), (3, .int ((bI (dAll kpr N TK se pv (k + 1))))), (0, .ref r0), (1, .int se), (2, .int ((nI pv)))]) hx hb d_Ref_divide_114 hl (k := 4) rfl (show nI k + 1 = nI (k + 1) from nI_1 _) (by decide) rfl (fun ls hl => ?_)
            refine lv_goto (tgt := 71) hx hb d_Ref_divide_117 (by decide) ?_
            exact ih ((k + 1)) (by omega) (by omega) _ _ ls (hP.sub [0, 1, 2] rfl) (hD.sub [0, 1, 2] (by decide) rfl) hS (lv_sub hl [2, 3, 4, 1, 0] rfl)
set_option maxHeartbeats 1000000 in
set_option maxRecDepth 100000 in
theorem lh_Ref_divide1 {p : Program} {e : Env} {s : State} {m : MethodId} {args : Array Value} {below : List Frame} {meth : Method} {c : Code} {Q : State → Prop} (l : Launch) (dC : Nat → ClassId) (dI : Nat → Nat → Nat) (cI cJ : ClassId) (r0 : Nat) (th : Int32) (N : Nat) (OU : Nat) (Z : Nat) (r1 : Nat) (r2 : Nat) (M : Nat) (r3 : Nat) (r4 : Nat) (r5 : Nat) (r6 : Nat) (r7 : Nat) (r8 : Nat) (PK : Nat) (r9 : Nat) (kp : Int32) (r10 : Nat) (r11 : Nat) (TK : Nat) (r12 : Nat) (qc : Int32) (r13 : Nat) (r14 : Nat) (bst : Int32) (r15 : Nat) (kpr : Nat → Int32) (quo : Nat → Int32) (se : Int32) (hk1 : ¬ kp = 0) (hN : N ≤ 4) (hZ : 3 ^ N = Z) (hTK : TK ≤ 81) (hkv : ∀ k, k < TK → vp_in (kpr k) 81) (hgood : ¬ (se ≤ 0 ∨ (TK < 31 ∧ ¬ se >>> (nI TK &&& 31) = 0)))   (hx : p.tables.exec = Jvm.exec) (hb : c.code = b_Ref_divide) (hts : ∀ w ∈ lwg, w.before args s = true) (hown : s.vm.findClass R_Ref = some m.cls) (hml : c.maxLocals = 5) (hK : va_K (dC, dI) classes [(cI, .int), (cJ, .long)] s) {A : Nat → Prop} (hA : ∀ q : Nat, s.heap.size ≤ q → A q) (kk : ∀ (qn : Nat) (qv : Nat → Int32), (qn = (cnt (fun p => dAll kpr N TK se p TK) Z)) → ∀ (H : Heap) (locs : List Loc) (ls : Array Slot), va_P (dC, dI) classes [(r0, .inr (8, [.int 0, .int ((nI N)), .int ((nI OU)), .int ((nI Z)), .ref r1, .ref r2, .int ((nI M)), .ref r3, .ref r4, .ref r5, .ref r6, .ref r7, .ref r8, .int ((nI PK)), .ref r9, .int kp, .ref r10, .ref r11, .int ((nI TK)), .ref r12, .int ((nI qn)), .ref r13, .ref r14, .int bst, .ref r15])), (r10, .inl (cI, 81, .inl kpr)), (r12, .inl (cI, 81, .inl qv))] H → va_D A [(r0, .inr (8, [.int 0, .int ((nI N)), .int ((nI OU)), .int ((nI Z)), .ref r1, .ref r2, .int ((nI M)), .ref r3, .ref r4, .ref r5, .ref r6, .ref r7, .ref r8, .int ((nI PK)), .ref r9, .int kp, .ref r10, .ref r11, .int ((nI TK)), .ref r12, .int ((nI qn)), .ref r13, .ref r14, .int bst, .ref r15])), (r10, .inl (cI, 81, .inl kpr)), (r12, .inl (cI, 81, .inl qv))] → va_S A s.heap H locs → lv_has ls 5 [(0, .ref r0)] → W p l e ({ frames := 3, cells := 0, slots := 0, locals := 74 } : Room) s m args below meth c H locs 0 0 Q (F0 m 150 ls [])) : ∀ (fu : Nat) (i : Nat) (qn : Nat) (qv : Nat → Int32), Z - i < fu → (i ≤ Z ∧ qn = (cnt (fun p => dAll kpr N TK se p TK) i)) → ∀ (H : Heap) (locs : List Loc) (ls : Array Slot), va_P (dC, dI) classes [(r0, .inr (8, [.int 0, .int ((nI N)), .int ((nI OU)), .int ((nI Z)), .ref r1, .ref r2, .int ((nI M)), .ref r3, .ref r4, .ref r5, .ref r6, .ref r7, .ref r8, .int ((nI PK)), .ref r9, .int kp, .ref r10, .ref r11, .int ((nI TK)), .ref r12, .int ((nI qn)), .ref r13, .ref r14, .int bst, .ref r15])), (r10, .inl (cI, 81, .inl kpr)), (r12, .inl (cI, 81, .inl qv))] H → va_D A [(r0, .inr (8, [.int 0, .int ((nI N)), .int ((nI OU)), .int ((nI Z)), .ref r1, .ref r2, .int ((nI M)), .ref r3, .ref r4, .ref r5, .ref r6, .ref r7, .ref r8, .int ((nI PK)), .ref r9, .int kp, .ref r10, .ref r11, .int ((nI TK)), .ref r12, .int ((nI qn)), .ref r13, .ref r14, .int bst, .ref r15])), (r10, .inl (cI, 81, .inl kpr)), (r12, .inl (cI, 81, .inl qv))] → va_S A s.heap H locs → lv_has ls 5 [(0, .ref r0), (1, .int se), (2, .int ((nI i)))] → W p l e ({ frames := 3, cells := 0, slots := 0, locals := 74 } : Room) s m args below meth c H locs 0 0 Q (F0 m 58 ls []) := by
  intro fu
  induction fu with
  | zero => intro i qn qv h; exact absurd h (Nat.not_lt_zero _)
  | succ fu ih =>
    intro i qn qv hmu hI H locs ls hP hD hS hl
    have hZ8 : Z ≤ 81 := by rw [← hZ]; exact p3_81 hN
    have hI1 := hI.1
    refine lv_iload_n hx hb d_Ref_divide_58 rfl (lv_at hl 2 rfl) ?_
    refine lv_aload_n hx hb d_Ref_divide_59 rfl (lv_at hl 0 rfl) ?_
    refine va_get (D := (dC, dI)) (ci := 8) (v := .int ((nI Z))) (C := R_Ref) (T := F_Ref) (N := 25) hx hb hts i_Ref hown hK hP 0 rfl rfl 3 (by decide) (hts _ mw_fl_Ref_62) (fun _ h9 => h9) rfl d_Ref_divide_60 ?_
    refine lv_icmp_ge (tgt := 150) hx hb d_Ref_divide_63 (by decide) (fun c_63 => ?_) (fun c_63 => ?_)
    · have hE9 : i = Z := Nat.le_antisymm hI.1 ((nI_leI (a := Z) (b := i) (by omega) (by omega)).mp c_63)
      have hI9 := hI.2
      rw [hE9] at hI9
      exact kk qn qv (hI9) _ _ ls (hP.sub [0, 1, 2] rfl) (hD.sub [0, 1, 2] (by decide) rfl) hS (lv_sub hl [0] rfl)
    · have hlt_i : i < Z := Nat.lt_of_not_le (fun h => c_63 ((nI_leI (a := Z) (b := i) (by omega) (by omega)).mpr h))
      have hqn : qn ≤ i := by rw [hI.2]; exact cnt_le _ _
      refine lv_iconst (v := 1) hx hb d_Ref_divide_66 (by decide) ?_
      refine lv_istore_n (lv' := [(3, .int 1), (0, .ref r0), (1, .int se), (2, .int ((nI i)))]) hx hb d_Ref_divide_67 rfl hl (by decide) rfl (fun ls hl => ?_)
      refine lv_iconst (v := 0) hx hb d_Ref_divide_68 (by decide) ?_
      refine lv_istore (lv' := [(4, .int 0), (3, .int 1), (0, .ref r0), (1, .int se), (2, .int ((nI i)))]) hx hb d_Ref_divide_69 hl (by decide) rfl (fun ls hl => ?_)
      refine lh_Ref_divide2 l dC dI cI cJ r0 th N OU Z r1 r2 M r3 r4 r5 r6 r7 r8 PK r9 kp r10 r11 TK r12 qc r13 r14 bst r15 kpr quo se hk1 hN hZ hTK hkv hgood qn qv i  hx hb hts hown hml hK hA (fun u0__1 hI__2 H locs ls hP hD hS hl => ?_) _ 0 (Nat.lt_succ_self _) (Nat.zero_le _) _ _ ls (hP.sub [0, 1, 2] rfl) (hD.sub [0, 1, 2] (by decide) rfl) hS (lv_sub hl [2, 3, 4, 1, 0] rfl)
      have hP : va_P (dC, dI) classes [(r0, .inr (8, [.int 0, .int ((nI N)), .int ((nI OU)), .int ((nI Z)), .ref r1, .ref r2, .int ((nI M)), .ref r3, .ref r4, .ref r5, .ref r6, .ref r7, .ref r8, .int ((nI PK)), .ref r9, .int kp, .ref r10, .ref r11, .int ((nI TK)), .ref r12, .int ((nI qn)), .ref r13, .ref r14, .int bst, .ref r15])), (r10, .inl (cI, 81, .inl kpr)), (r12, .inl (cI, 81, .inl qv))] H := hP
      have hD : va_D A [(r0, .inr (8, [.int 0, .int ((nI N)), .int ((nI OU)), .int ((nI Z)), .ref r1, .ref r2, .int ((nI M)), .ref r3, .ref r4, .ref r5, .ref r6, .ref r7, .ref r8, .int ((nI PK)), .ref r9, .int kp, .ref r10, .ref r11, .int ((nI TK)), .ref r12, .int ((nI qn)), .ref r13, .ref r14, .int bst, .ref r15])), (r10, .inl (cI, 81, .inl kpr)), (r12, .inl (cI, 81, .inl qv))] := hD
      have hl : lv_has ls 5 [(0, .ref r0), (1, .int se), (2, .int ((nI i))), (3, .int ((bI (dAll kpr N TK se i TK))))] := hl
      refine lv_iload_n hx hb d_Ref_divide_120 rfl (lv_at hl 3 rfl) ?_
      refine lv_if_eq (tgt := 144) hx hb d_Ref_divide_121 (by decide) (fun c_121 => ?_) (fun c_121 => ?_)
      · refine lv_iinc (v := (nI (i + 1))) (lv' := [(2, .int ((nI (i + 1)))), (0, .ref r0), (1, .int se), (3, .int ((bI (dAll kpr N TK se i TK))))]) hx hb d_Ref_divide_144 hl (k := 2) rfl (show nI i + 1 = nI (i + 1) from nI_1 _) (by decide) rfl (fun ls hl => ?_)
        refine lv_goto (tgt := 58) hx hb d_Ref_divide_147 (by decide) ?_
        exact ih ((i + 1)) qn qv (by omega) (⟨by omega, by rw [cnt_s, if_neg (bI_f c_121)]; exact hI.2⟩) _ _ ls (hP.sub [0, 1, 2] rfl) (hD.sub [0, 1, 2] (by decide) rfl) hS (lv_sub hl [1, 2, 0] rfl)
      · refine lv_aload_n hx hb d_Ref_divide_124 rfl (lv_at hl 0 rfl) ?_
        refine va_get (D := (dC, dI)) (ci := 8) (v := .ref r12) (C := R_Ref) (T := F_Ref) (N := 25) hx hb hts i_Ref hown hK hP 0 rfl rfl 19 (by decide) (hts _ mw_fl_Ref_43) (fun _ h9 => h9) rfl d_Ref_divide_125 ?_
        refine lv_aload_n hx hb d_Ref_divide_128 rfl (lv_at hl 0 rfl) ?_
        refine va_get (D := (dC, dI)) (ci := 8) (v := .int ((nI qn))) (C := R_Ref) (T := F_Ref) (N := 25) hx hb hts i_Ref hown hK hP 0 rfl rfl 20 (by decide) (hts _ mw_fl_Ref_117) (fun _ h9 => h9) rfl d_Ref_divide_129 ?_
        refine lv_iload_n hx hb d_Ref_divide_132 rfl (lv_at hl 2 rfl) ?_
        refine va_iast hx hb hK hP hD hS 2 0 rfl rfl (vp_in_nI (show qn < 81 by omega) (by omega)) d_Ref_divide_133 (fun H locs hP hD hS => ?_)
        have hP : va_P (dC, dI) classes [(r0, .inr (8, [.int 0, .int ((nI N)), .int ((nI OU)), .int ((nI Z)), .ref r1, .ref r2, .int ((nI M)), .ref r3, .ref r4, .ref r5, .ref r6, .ref r7, .ref r8, .int ((nI PK)), .ref r9, .int kp, .ref r10, .ref r11, .int ((nI TK)), .ref r12, .int ((nI qn)), .ref r13, .ref r14, .int bst, .ref r15])), (r10, .inl (cI, 81, .inl kpr)), (r12, .inl (cI, 81, .inl ((upd qv (nI qn).toNatClampNeg ((nI i))))))] H := hP
        have hD : va_D A [(r0, .inr (8, [.int 0, .int ((nI N)), .int ((nI OU)), .int ((nI Z)), .ref r1, .ref r2, .int ((nI M)), .ref r3, .ref r4, .ref r5, .ref r6, .ref r7, .ref r8, .int ((nI PK)), .ref r9, .int kp, .ref r10, .ref r11, .int ((nI TK)), .ref r12, .int ((nI qn)), .ref r13, .ref r14, .int bst, .ref r15])), (r10, .inl (cI, 81, .inl kpr)), (r12, .inl (cI, 81, .inl ((upd qv (nI qn).toNatClampNeg ((nI i))))))] := hD
        rw [show (nI qn).toNatClampNeg = qn from nI_clamp (by omega)] at hP hD
        refine lv_aload_n hx hb d_Ref_divide_134 rfl (lv_at hl 0 rfl) ?_
        refine lv_dup hx hb d_Ref_divide_135 rfl ?_
        refine va_get (D := (dC, dI)) (ci := 8) (v := .int ((nI qn))) (C := R_Ref) (T := F_Ref) (N := 25) hx hb hts i_Ref hown hK hP 0 rfl rfl 20 (by decide) (hts _ mw_fl_Ref_117) (fun _ h9 => h9) rfl d_Ref_divide_136 ?_
        refine lv_iconst (v := 1) hx hb d_Ref_divide_139 (by decide) ?_
        refine lv_iadd hx hb d_Ref_divide_140 ?_
        refine w_ti (show _ = nI (qn + 1) from nI_1 qn) ?_
        refine va_put (D := (dC, dI)) (ci := 8) (v := .int ((nI (qn + 1)))) (ty := .int) (C := R_Ref) (T := F_Ref) (N := 25) hx hb hts i_Ref t_Ref t_Ref_ok n_Ref hown hK hP hD hS 0 rfl rfl 20 (by decide) (hts _ mw_fl_Ref_117) (fun _ h9 => h9) rfl (by decide +kernel) rfl rfl (Nat.le_of_ble_eq_true rfl) d_Ref_divide_141 (fun H locs hP hD hS => ?_)
        have hP : va_P (dC, dI) classes [(r0, .inr (8, [.int 0, .int ((nI N)), .int ((nI OU)), .int ((nI Z)), .ref r1, .ref r2, .int ((nI M)), .ref r3, .ref r4, .ref r5, .ref r6, .ref r7, .ref r8, .int ((nI PK)), .ref r9, .int kp, .ref r10, .ref r11, .int ((nI TK)), .ref r12, .int ((nI (qn + 1))), .ref r13, .ref r14, .int bst, .ref r15])), (r10, .inl (cI, 81, .inl kpr)), (r12, .inl (cI, 81, .inl ((upd qv qn ((nI i))))))] H := hP
        have hD : va_D A [(r0, .inr (8, [.int 0, .int ((nI N)), .int ((nI OU)), .int ((nI Z)), .ref r1, .ref r2, .int ((nI M)), .ref r3, .ref r4, .ref r5, .ref r6, .ref r7, .ref r8, .int ((nI PK)), .ref r9, .int kp, .ref r10, .ref r11, .int ((nI TK)), .ref r12, .int ((nI (qn + 1))), .ref r13, .ref r14, .int bst, .ref r15])), (r10, .inl (cI, 81, .inl kpr)), (r12, .inl (cI, 81, .inl ((upd qv qn ((nI i))))))] := hD
        refine lv_iinc (v := (nI (i + 1))) (lv' := [(2, .int ((nI (i + 1)))), (0, .ref r0), (1, .int se), (3, .int ((bI (dAll kpr N TK se i TK))))]) hx hb d_Ref_divide_144 hl (k := 2) rfl (show nI i + 1 = nI (i + 1) from nI_1 _) (by decide) rfl (fun ls hl => ?_)
        refine lv_goto (tgt := 58) hx hb d_Ref_divide_147 (by decide) ?_
        exact ih ((i + 1)) ((qn + 1)) ((upd qv qn ((nI i)))) (by omega) (⟨by omega, by rw [cnt_s, if_pos (bI_t c_121), hI.2]⟩) _ _ ls (hP.sub [0, 1, 2] rfl) (hD.sub [0, 1, 2] (by decide) rfl) hS (lv_sub hl [1, 2, 0] rfl)
set_option maxHeartbeats 1000000 in
set_option maxRecDepth 100000 in
theorem c2_Ref_divide (l : Launch) (dC : Nat → ClassId) (dI : Nat → Nat → Nat) (cI cJ : ClassId) (sz0 : Nat) (r0 : Nat) (th : Int32) (N : Nat) (OU : Nat) (Z : Nat) (r1 : Nat) (r2 : Nat) (M : Nat) (r3 : Nat) (r4 : Nat) (r5 : Nat) (r6 : Nat) (r7 : Nat) (r8 : Nat) (PK : Nat) (r9 : Nat) (kp : Int32) (r10 : Nat) (r11 : Nat) (TK : Nat) (r12 : Nat) (qc : Int32) (r13 : Nat) (r14 : Nat) (bst : Int32) (r15 : Nat) (kpr : Nat → Int32) (quo : Nat → Int32) (se : Int32) (hk1 : ¬ kp = 0) (hN : N ≤ 4) (hZ : 3 ^ N = Z) (hTK : TK ≤ 81) (hkv : ∀ k, k < TK → vp_in (kpr k) 81) (hgood : ¬ (se ≤ 0 ∨ (TK < 31 ∧ ¬ se >>> (nI TK &&& 31) = 0))) : Met l y_Ref_divide (ct y_Ref_divide b_Ref_divide 5 (some .int)) ({ frames := 3, cells := 0, slots := 0, locals := 74 }) (va_Pc [.ref r0, .int se] (fun U => U.heap.size = sz0 ∧ va_P (dC, dI) classes [(r0, .inr (8, [.int th, .int ((nI N)), .int ((nI OU)), .int ((nI Z)), .ref r1, .ref r2, .int ((nI M)), .ref r3, .ref r4, .ref r5, .ref r6, .ref r7, .ref r8, .int ((nI PK)), .ref r9, .int kp, .ref r10, .ref r11, .int ((nI TK)), .ref r12, .int qc, .ref r13, .ref r14, .int bst, .ref r15])), (r10, .inl (cI, 81, .inl kpr)), (r12, .inl (cI, 81, .inl quo))] U.heap ∧ va_K (dC, dI) classes [(cI, .int), (cJ, .long)] U ∧ va_D (fun _ => True) [(r0, .inr (8, [.int th, .int ((nI N)), .int ((nI OU)), .int ((nI Z)), .ref r1, .ref r2, .int ((nI M)), .ref r3, .ref r4, .ref r5, .ref r6, .ref r7, .ref r8, .int ((nI PK)), .ref r9, .int kp, .ref r10, .ref r11, .int ((nI TK)), .ref r12, .int qc, .ref r13, .ref r14, .int bst, .ref r15])), (r10, .inl (cI, 81, .inl kpr)), (r12, .inl (cI, 81, .inl quo))])) (va_Qi (fun (r : Int32) (quox : (Nat → Int32)) => r = nI (cnt (fun p => dAll kpr N TK se p TK) Z)) (fun (quox : (Nat → Int32)) => at_w dC dI cI cJ (va_A [(r0, .inr (8, [.int th, .int ((nI N)), .int ((nI OU)), .int ((nI Z)), .ref r1, .ref r2, .int ((nI M)), .ref r3, .ref r4, .ref r5, .ref r6, .ref r7, .ref r8, .int ((nI PK)), .ref r9, .int kp, .ref r10, .ref r11, .int ((nI TK)), .ref r12, .int qc, .ref r13, .ref r14, .int bst, .ref r15])), (r10, .inl (cI, 81, .inl kpr)), (r12, .inl (cI, 81, .inl quo))] sz0) [(r0, .inr (8, [.int 0, .int ((nI N)), .int ((nI OU)), .int ((nI Z)), .ref r1, .ref r2, .int ((nI M)), .ref r3, .ref r4, .ref r5, .ref r6, .ref r7, .ref r8, .int ((nI PK)), .ref r9, .int kp, .ref r10, .ref r11, .int ((nI TK)), .ref r12, .int ((nI (cnt (fun p => dAll kpr N TK se p TK) Z))), .ref r13, .ref r14, .int bst, .ref r15])), (r10, .inl (cI, 81, .inl kpr)), (r12, .inl (cI, 81, .inl quox))]) (va_A [(r0, .inr (8, [.int th, .int ((nI N)), .int ((nI OU)), .int ((nI Z)), .ref r1, .ref r2, .int ((nI M)), .ref r3, .ref r4, .ref r5, .ref r6, .ref r7, .ref r8, .int ((nI PK)), .ref r9, .int kp, .ref r10, .ref r11, .int ((nI TK)), .ref r12, .int qc, .ref r13, .ref r14, .int bst, .ref r15])), (r10, .inl (cI, 81, .inl kpr)), (r12, .inl (cI, 81, .inl quo))] sz0)) 0 0 (va_A [(r0, .inr (8, [.int th, .int ((nI N)), .int ((nI OU)), .int ((nI Z)), .ref r1, .ref r2, .int ((nI M)), .ref r3, .ref r4, .ref r5, .ref r6, .ref r7, .ref r8, .int ((nI PK)), .ref r9, .int kp, .ref r10, .ref r11, .int ((nI TK)), .ref r12, .int qc, .ref r13, .ref r14, .int bst, .ref r15])), (r10, .inl (cI, 81, .inl kpr)), (r12, .inl (cI, 81, .inl quo))] sz0) := by
  refine Met.ofW (cc := b_Ref_divide) (maxL := 5) (ret := some .int) (by decide) rfl ?_
  intro p e s m args below meth c s₁ B hml hv
  obtain ⟨rfl, hsz, hP, hK, hD0⟩ := hv
  have hx := B.exec
  have hb := B.bytes
  have hr := B.returns
  have hts : ∀ w ∈ lwg, w.before _ s = true := fun w h => atoms_spec (ws := ct y_Ref_divide b_Ref_divide 5 (some .int)) B.pre w (List.mem_cons_of_mem _ h)
  have hown : s.vm.findClass R_Ref = some m.cls := findClass_of_methodNamed B.named
  have hlocks := B.notSynchronized
  subst hsz
  have hD := hD0.self (sz := s.heap.size)
  generalize hAe : va_A [(r0, .inr (8, [.int th, .int ((nI N)), .int ((nI OU)), .int ((nI Z)), .ref r1, .ref r2, .int ((nI M)), .ref r3, .ref r4, .ref r5, .ref r6, .ref r7, .ref r8, .int ((nI PK)), .ref r9, .int kp, .ref r10, .ref r11, .int ((nI TK)), .ref r12, .int qc, .ref r13, .ref r14, .int bst, .ref r15])), (r10, .inl (cI, 81, .inl kpr)), (r12, .inl (cI, 81, .inl quo))] s.heap.size = A at hD ⊢
  have hA : ∀ q : Nat, s.heap.size ≤ q → A q := fun q h => by rw [← hAe]; exact Or.inr h
  have hS : va_S A s.heap s.heap [] := va_S.rf
  have hl := lv_entry ([.ref r0, .int se]) (n := 5) (Nat.le_of_ble_eq_true rfl)
  rw [lg_entry_eq]
  generalize (lg_sl ([.ref r0, .int se]) ++ List.replicate (5 - (lg_sl ([.ref r0, .int se])).length) Slot.unset).toArray = ls at hl ⊢
  have hl : lv_has ls 5 [(0, .ref r0), (1, .int se)] := hl
  have hP : va_P (dC, dI) classes [(r0, .inr (8, [.int th, .int ((nI N)), .int ((nI OU)), .int ((nI Z)), .ref r1, .ref r2, .int ((nI M)), .ref r3, .ref r4, .ref r5, .ref r6, .ref r7, .ref r8, .int ((nI PK)), .ref r9, .int kp, .ref r10, .ref r11, .int ((nI TK)), .ref r12, .int qc, .ref r13, .ref r14, .int bst, .ref r15])), (r10, .inl (cI, 81, .inl kpr)), (r12, .inl (cI, 81, .inl quo))] s.heap := hP
  refine lv_aload_n hx hb d_Ref_divide_0 rfl (lv_at hl 0 rfl) ?_
  refine lv_aload_n hx hb d_Ref_divide_1 rfl (lv_at hl 0 rfl) ?_
  refine va_get (D := (dC, dI)) (ci := 8) (v := .int kp) (C := R_Ref) (T := F_Ref) (N := 25) hx hb hts i_Ref hown hK hP 0 rfl rfl 15 (by decide) (hts _ mw_fl_Ref_113) (fun _ h9 => h9) rfl d_Ref_divide_2 ?_
  refine lv_if_ne (tgt := 12) hx hb d_Ref_divide_5 (by decide) (fun c_5 => ?_) (fun c_5 => ?_)
  · refine lv_iload_n hx hb d_Ref_divide_12 rfl (lv_at hl 1 rfl) ?_
    refine lv_if_le (tgt := 34) hx hb d_Ref_divide_13 (by decide) (fun c_13 => ?_) (fun c_13 => ?_)
    · exact absurd (Or.inl c_13) hgood
    · refine lv_aload_n hx hb d_Ref_divide_16 rfl (lv_at hl 0 rfl) ?_
      refine va_get (D := (dC, dI)) (ci := 8) (v := .int ((nI TK))) (C := R_Ref) (T := F_Ref) (N := 25) hx hb hts i_Ref hown hK hP 0 rfl rfl 18 (by decide) (hts _ mw_fl_Ref_110) (fun _ h9 => h9) rfl d_Ref_divide_17 ?_
      refine lv_bipush (v := 31) hx hb d_Ref_divide_20 (by decide) ?_
      refine lv_icmp_ge (tgt := 38) hx hb d_Ref_divide_22 (by decide) (fun c_22 => ?_) (fun c_22 => ?_)
      · refine lv_iconst (v := 0) hx hb d_Ref_divide_38 (by decide) ?_
        refine va_put (D := (dC, dI)) (ci := 8) (v := .int 0) (ty := .int) (C := R_Ref) (T := F_Ref) (N := 25) hx hb hts i_Ref t_Ref t_Ref_ok n_Ref hown hK hP hD hS 0 rfl rfl 0 (by decide) (hts _ mw_fl_Ref_65) (fun _ h9 => h9) rfl (by decide +kernel) rfl rfl (Nat.le_of_ble_eq_true rfl) d_Ref_divide_39 (fun H locs hP hD hS => ?_)
        have hP : va_P (dC, dI) classes [(r0, .inr (8, [.int 0, .int ((nI N)), .int ((nI OU)), .int ((nI Z)), .ref r1, .ref r2, .int ((nI M)), .ref r3, .ref r4, .ref r5, .ref r6, .ref r7, .ref r8, .int ((nI PK)), .ref r9, .int kp, .ref r10, .ref r11, .int ((nI TK)), .ref r12, .int qc, .ref r13, .ref r14, .int bst, .ref r15])), (r10, .inl (cI, 81, .inl kpr)), (r12, .inl (cI, 81, .inl quo))] H := hP
        have hD : va_D A [(r0, .inr (8, [.int 0, .int ((nI N)), .int ((nI OU)), .int ((nI Z)), .ref r1, .ref r2, .int ((nI M)), .ref r3, .ref r4, .ref r5, .ref r6, .ref r7, .ref r8, .int ((nI PK)), .ref r9, .int kp, .ref r10, .ref r11, .int ((nI TK)), .ref r12, .int qc, .ref r13, .ref r14, .int bst, .ref r15])), (r10, .inl (cI, 81, .inl kpr)), (r12, .inl (cI, 81, .inl quo))] := hD
        refine lv_aload_n hx hb d_Ref_divide_42 rfl (lv_at hl 0 rfl) ?_
        refine va_get (D := (dC, dI)) (ci := 8) (v := .int 0) (C := R_Ref) (T := F_Ref) (N := 25) hx hb hts i_Ref hown hK hP 0 rfl rfl 0 (by decide) (hts _ mw_fl_Ref_65) (fun _ h9 => h9) rfl d_Ref_divide_43 ?_
        refine lv_if_le (tgt := 51) hx hb d_Ref_divide_46 (by decide) (fun c_46 => ?_) (fun c_46 => ?_)
        · refine lv_aload_n hx hb d_Ref_divide_51 rfl (lv_at hl 0 rfl) ?_
          refine lv_iconst (v := 0) hx hb d_Ref_divide_52 (by decide) ?_
          refine va_put (D := (dC, dI)) (ci := 8) (v := .int 0) (ty := .int) (C := R_Ref) (T := F_Ref) (N := 25) hx hb hts i_Ref t_Ref t_Ref_ok n_Ref hown hK hP hD hS 0 rfl rfl 20 (by decide) (hts _ mw_fl_Ref_117) (fun _ h9 => h9) rfl (by decide +kernel) rfl rfl (Nat.le_of_ble_eq_true rfl) d_Ref_divide_53 (fun H locs hP hD hS => ?_)
          have hP : va_P (dC, dI) classes [(r0, .inr (8, [.int 0, .int ((nI N)), .int ((nI OU)), .int ((nI Z)), .ref r1, .ref r2, .int ((nI M)), .ref r3, .ref r4, .ref r5, .ref r6, .ref r7, .ref r8, .int ((nI PK)), .ref r9, .int kp, .ref r10, .ref r11, .int ((nI TK)), .ref r12, .int 0, .ref r13, .ref r14, .int bst, .ref r15])), (r10, .inl (cI, 81, .inl kpr)), (r12, .inl (cI, 81, .inl quo))] H := hP
          have hD : va_D A [(r0, .inr (8, [.int 0, .int ((nI N)), .int ((nI OU)), .int ((nI Z)), .ref r1, .ref r2, .int ((nI M)), .ref r3, .ref r4, .ref r5, .ref r6, .ref r7, .ref r8, .int ((nI PK)), .ref r9, .int kp, .ref r10, .ref r11, .int ((nI TK)), .ref r12, .int 0, .ref r13, .ref r14, .int bst, .ref r15])), (r10, .inl (cI, 81, .inl kpr)), (r12, .inl (cI, 81, .inl quo))] := hD
          refine lv_iconst (v := 0) hx hb d_Ref_divide_56 (by decide) ?_
          refine lv_istore_n (lv' := [(2, .int 0), (0, .ref r0), (1, .int se)]) hx hb d_Ref_divide_57 rfl hl (by decide) rfl (fun ls hl => ?_)
          refine lh_Ref_divide1 l dC dI cI cJ r0 th N OU Z r1 r2 M r3 r4 r5 r6 r7 r8 PK r9 kp r10 r11 TK r12 qc r13 r14 bst r15 kpr quo se hk1 hN hZ hTK hkv hgood   hx hb hts hown hml hK hA (fun qn__1 qv__2 hI__3 H locs ls hP hD hS hl => ?_) _ 0 0 quo (Nat.lt_succ_self _) (⟨Nat.zero_le _, rfl⟩) _ _ ls (hP.sub [0, 1, 2] rfl) (hD.sub [0, 1, 2] (by decide) rfl) hS (lv_sub hl [1, 2, 0] rfl)
          have hP : va_P (dC, dI) classes [(r0, .inr (8, [.int 0, .int ((nI N)), .int ((nI OU)), .int ((nI Z)), .ref r1, .ref r2, .int ((nI M)), .ref r3, .ref r4, .ref r5, .ref r6, .ref r7, .ref r8, .int ((nI PK)), .ref r9, .int kp, .ref r10, .ref r11, .int ((nI TK)), .ref r12, .int ((nI qn__1)), .ref r13, .ref r14, .int bst, .ref r15])), (r10, .inl (cI, 81, .inl kpr)), (r12, .inl (cI, 81, .inl qv__2))] H := hP
          have hD : va_D A [(r0, .inr (8, [.int 0, .int ((nI N)), .int ((nI OU)), .int ((nI Z)), .ref r1, .ref r2, .int ((nI M)), .ref r3, .ref r4, .ref r5, .ref r6, .ref r7, .ref r8, .int ((nI PK)), .ref r9, .int kp, .ref r10, .ref r11, .int ((nI TK)), .ref r12, .int ((nI qn__1)), .ref r13, .ref r14, .int bst, .ref r15])), (r10, .inl (cI, 81, .inl kpr)), (r12, .inl (cI, 81, .inl qv__2))] := hD
          have hl : lv_has ls 5 [(0, .ref r0)] := hl
          have hq9 := hI__3
          rw [hq9] at hP hD
          have hP : va_P (dC, dI) classes [(r0, .inr (8, [.int 0, .int ((nI N)), .int ((nI OU)), .int ((nI Z)), .ref r1, .ref r2, .int ((nI M)), .ref r3, .ref r4, .ref r5, .ref r6, .ref r7, .ref r8, .int ((nI PK)), .ref r9, .int kp, .ref r10, .ref r11, .int ((nI TK)), .ref r12, .int ((nI (cnt (fun p => dAll kpr N TK se p TK) Z))), .ref r13, .ref r14, .int bst, .ref r15])), (r10, .inl (cI, 81, .inl kpr)), (r12, .inl (cI, 81, .inl qv__2))] H := hP
          have hD : va_D A [(r0, .inr (8, [.int 0, .int ((nI N)), .int ((nI OU)), .int ((nI Z)), .ref r1, .ref r2, .int ((nI M)), .ref r3, .ref r4, .ref r5, .ref r6, .ref r7, .ref r8, .int ((nI PK)), .ref r9, .int kp, .ref r10, .ref r11, .int ((nI TK)), .ref r12, .int ((nI (cnt (fun p => dAll kpr N TK se p TK) Z))), .ref r13, .ref r14, .int bst, .ref r15])), (r10, .inl (cI, 81, .inl kpr)), (r12, .inl (cI, 81, .inl qv__2))] := hD
          refine lv_aload_n hx hb d_Ref_divide_150 rfl (lv_at hl 0 rfl) ?_
          refine va_get (D := (dC, dI)) (ci := 8) (v := .int ((nI (cnt (fun p => dAll kpr N TK se p TK) Z)))) (C := R_Ref) (T := F_Ref) (N := 25) hx hb hts i_Ref hown hK hP 0 rfl rfl 20 (by decide) (hts _ mw_fl_Ref_117) (fun _ h9 => h9) rfl d_Ref_divide_151 ?_
          have hP9 := hP.sub (ws' := [(r0, .inr (8, [.int 0, .int ((nI N)), .int ((nI OU)), .int ((nI Z)), .ref r1, .ref r2, .int ((nI M)), .ref r3, .ref r4, .ref r5, .ref r6, .ref r7, .ref r8, .int ((nI PK)), .ref r9, .int kp, .ref r10, .ref r11, .int ((nI TK)), .ref r12, .int ((nI (cnt (fun p => dAll kpr N TK se p TK) Z))), .ref r13, .ref r14, .int bst, .ref r15])), (r10, .inl (cI, 81, .inl kpr)), (r12, .inl (cI, 81, .inl qv__2))]) [0, 1, 2] rfl
          have hD9 := hD.sub (ws' := [(r0, .inr (8, [.int 0, .int ((nI N)), .int ((nI OU)), .int ((nI Z)), .ref r1, .ref r2, .int ((nI M)), .ref r3, .ref r4, .ref r5, .ref r6, .ref r7, .ref r8, .int ((nI PK)), .ref r9, .int kp, .ref r10, .ref r11, .int ((nI TK)), .ref r12, .int ((nI (cnt (fun p => dAll kpr N TK se p TK) Z))), .ref r13, .ref r14, .int bst, .ref r15])), (r10, .inl (cI, 81, .inl kpr)), (r12, .inl (cI, 81, .inl qv__2))]) [0, 1, 2] (by decide) rfl
          exact W.iret (v := (nI (cnt (fun p => dAll kpr N TK se p TK) Z))) hx hb hr (fun t ht hW => ⟨⟨(nI (cnt (fun p => dAll kpr N TK se p TK) Z)), qv__2, rfl, rfl, by rw [ht]; exact hP9, va_K.moved hW.alike hK, hD9⟩, hS.F ht⟩) hS.2.2 d_Ref_divide_154
        · exact absurd c_46 (by decide +kernel)
      · refine lv_iload_n hx hb d_Ref_divide_25 rfl (lv_at hl 1 rfl) ?_
        refine lv_aload_n hx hb d_Ref_divide_26 rfl (lv_at hl 0 rfl) ?_
        refine va_get (D := (dC, dI)) (ci := 8) (v := .int ((nI TK))) (C := R_Ref) (T := F_Ref) (N := 25) hx hb hts i_Ref hown hK hP 0 rfl rfl 18 (by decide) (hts _ mw_fl_Ref_110) (fun _ h9 => h9) rfl d_Ref_divide_27 ?_
        refine lv_ishr hx hb d_Ref_divide_30 ?_
        refine lv_if_eq (tgt := 38) hx hb d_Ref_divide_31 (by decide) (fun c_31 => ?_) (fun c_31 => ?_)
        · refine lv_iconst (v := 0) hx hb d_Ref_divide_38 (by decide) ?_
          refine va_put (D := (dC, dI)) (ci := 8) (v := .int 0) (ty := .int) (C := R_Ref) (T := F_Ref) (N := 25) hx hb hts i_Ref t_Ref t_Ref_ok n_Ref hown hK hP hD hS 0 rfl rfl 0 (by decide) (hts _ mw_fl_Ref_65) (fun _ h9 => h9) rfl (by decide +kernel) rfl rfl (Nat.le_of_ble_eq_true rfl) d_Ref_divide_39 (fun H locs hP hD hS => ?_)
          have hP : va_P (dC, dI) classes [(r0, .inr (8, [.int 0, .int ((nI N)), .int ((nI OU)), .int ((nI Z)), .ref r1, .ref r2, .int ((nI M)), .ref r3, .ref r4, .ref r5, .ref r6, .ref r7, .ref r8, .int ((nI PK)), .ref r9, .int kp, .ref r10, .ref r11, .int ((nI TK)), .ref r12, .int qc, .ref r13, .ref r14, .int bst, .ref r15])), (r10, .inl (cI, 81, .inl kpr)), (r12, .inl (cI, 81, .inl quo))] H := hP
          have hD : va_D A [(r0, .inr (8, [.int 0, .int ((nI N)), .int ((nI OU)), .int ((nI Z)), .ref r1, .ref r2, .int ((nI M)), .ref r3, .ref r4, .ref r5, .ref r6, .ref r7, .ref r8, .int ((nI PK)), .ref r9, .int kp, .ref r10, .ref r11, .int ((nI TK)), .ref r12, .int qc, .ref r13, .ref r14, .int bst, .ref r15])), (r10, .inl (cI, 81, .inl kpr)), (r12, .inl (cI, 81, .inl quo))] := hD
          refine lv_aload_n hx hb d_Ref_divide_42 rfl (lv_at hl 0 rfl) ?_
          refine va_get (D := (dC, dI)) (ci := 8) (v := .int 0) (C := R_Ref) (T := F_Ref) (N := 25) hx hb hts i_Ref hown hK hP 0 rfl rfl 0 (by decide) (hts _ mw_fl_Ref_65) (fun _ h9 => h9) rfl d_Ref_divide_43 ?_
          refine lv_if_le (tgt := 51) hx hb d_Ref_divide_46 (by decide) (fun c_46 => ?_) (fun c_46 => ?_)
          · refine lv_aload_n hx hb d_Ref_divide_51 rfl (lv_at hl 0 rfl) ?_
            refine lv_iconst (v := 0) hx hb d_Ref_divide_52 (by decide) ?_
            refine va_put (D := (dC, dI)) (ci := 8) (v := .int 0) (ty := .int) (C := R_Ref) (T := F_Ref) (N := 25) hx hb hts i_Ref t_Ref t_Ref_ok n_Ref hown hK hP hD hS 0 rfl rfl 20 (by decide) (hts _ mw_fl_Ref_117) (fun _ h9 => h9) rfl (by decide +kernel) rfl rfl (Nat.le_of_ble_eq_true rfl) d_Ref_divide_53 (fun H locs hP hD hS => ?_)
            have hP : va_P (dC, dI) classes [(r0, .inr (8, [.int 0, .int ((nI N)), .int ((nI OU)), .int ((nI Z)), .ref r1, .ref r2, .int ((nI M)), .ref r3, .ref r4, .ref r5, .ref r6, .ref r7, .ref r8, .int ((nI PK)), .ref r9, .int kp, .ref r10, .ref r11, .int ((nI TK)), .ref r12, .int 0, .ref r13, .ref r14, .int bst, .ref r15])), (r10, .inl (cI, 81, .inl kpr)), (r12, .inl (cI, 81, .inl quo))] H := hP
            have hD : va_D A [(r0, .inr (8, [.int 0, .int ((nI N)), .int ((nI OU)), .int ((nI Z)), .ref r1, .ref r2, .int ((nI M)), .ref r3, .ref r4, .ref r5, .ref r6, .ref r7, .ref r8, .int ((nI PK)), .ref r9, .int kp, .ref r10, .ref r11, .int ((nI TK)), .ref r12, .int 0, .ref r13, .ref r14, .int bst, .ref r15])), (r10, .inl (cI, 81, .inl kpr)), (r12, .inl (cI, 81, .inl quo))] := hD
            refine lv_iconst (v := 0) hx hb d_Ref_divide_56 (by decide) ?_
            refine lv_istore_n (lv' := [(2, .int 0), (0, .ref r0), (1, .int se)]) hx hb d_Ref_divide_57 rfl hl (by decide) rfl (fun ls hl => ?_)
            refine lh_Ref_divide1 l dC dI cI cJ r0 th N OU Z r1 r2 M r3 r4 r5 r6 r7 r8 PK r9 kp r10 r11 TK r12 qc r13 r14 bst r15 kpr quo se hk1 hN hZ hTK hkv hgood   hx hb hts hown hml hK hA (fun qn__4 qv__5 hI__6 H locs ls hP hD hS hl => ?_) _ 0 0 quo (Nat.lt_succ_self _) (⟨Nat.zero_le _, rfl⟩) _ _ ls (hP.sub [0, 1, 2] rfl) (hD.sub [0, 1, 2] (by decide) rfl) hS (lv_sub hl [1, 2, 0] rfl)
            have hP : va_P (dC, dI) classes [(r0, .inr (8, [.int 0, .int ((nI N)), .int ((nI OU)), .int ((nI Z)), .ref r1, .ref r2, .int ((nI M)), .ref r3, .ref r4, .ref r5, .ref r6, .ref r7, .ref r8, .int ((nI PK)), .ref r9, .int kp, .ref r10, .ref r11, .int ((nI TK)), .ref r12, .int ((nI qn__4)), .ref r13, .ref r14, .int bst, .ref r15])), (r10, .inl (cI, 81, .inl kpr)), (r12, .inl (cI, 81, .inl qv__5))] H := hP
            have hD : va_D A [(r0, .inr (8, [.int 0, .int ((nI N)), .int ((nI OU)), .int ((nI Z)), .ref r1, .ref r2, .int ((nI M)), .ref r3, .ref r4, .ref r5, .ref r6, .ref r7, .ref r8, .int ((nI PK)), .ref r9, .int kp, .ref r10, .ref r11, .int ((nI TK)), .ref r12, .int ((nI qn__4)), .ref r13, .ref r14, .int bst, .ref r15])), (r10, .inl (cI, 81, .inl kpr)), (r12, .inl (cI, 81, .inl qv__5))] := hD
            have hl : lv_has ls 5 [(0, .ref r0)] := hl
            have hq9 := hI__6
            rw [hq9] at hP hD
            have hP : va_P (dC, dI) classes [(r0, .inr (8, [.int 0, .int ((nI N)), .int ((nI OU)), .int ((nI Z)), .ref r1, .ref r2, .int ((nI M)), .ref r3, .ref r4, .ref r5, .ref r6, .ref r7, .ref r8, .int ((nI PK)), .ref r9, .int kp, .ref r10, .ref r11, .int ((nI TK)), .ref r12, .int ((nI (cnt (fun p => dAll kpr N TK se p TK) Z))), .ref r13, .ref r14, .int bst, .ref r15])), (r10, .inl (cI, 81, .inl kpr)), (r12, .inl (cI, 81, .inl qv__5))] H := hP
            have hD : va_D A [(r0, .inr (8, [.int 0, .int ((nI N)), .int ((nI OU)), .int ((nI Z)), .ref r1, .ref r2, .int ((nI M)), .ref r3, .ref r4, .ref r5, .ref r6, .ref r7, .ref r8, .int ((nI PK)), .ref r9, .int kp, .ref r10, .ref r11, .int ((nI TK)), .ref r12, .int ((nI (cnt (fun p => dAll kpr N TK se p TK) Z))), .ref r13, .ref r14, .int bst, .ref r15])), (r10, .inl (cI, 81, .inl kpr)), (r12, .inl (cI, 81, .inl qv__5))] := hD
            refine lv_aload_n hx hb d_Ref_divide_150 rfl (lv_at hl 0 rfl) ?_
            refine va_get (D := (dC, dI)) (ci := 8) (v := .int ((nI (cnt (fun p => dAll kpr N TK se p TK) Z)))) (C := R_Ref) (T := F_Ref) (N := 25) hx hb hts i_Ref hown hK hP 0 rfl rfl 20 (by decide) (hts _ mw_fl_Ref_117) (fun _ h9 => h9) rfl d_Ref_divide_151 ?_
            have hP9 := hP.sub (ws' := [(r0, .inr (8, [.int 0, .int ((nI N)), .int ((nI OU)), .int ((nI Z)), .ref r1, .ref r2, .int ((nI M)), .ref r3, .ref r4, .ref r5, .ref r6, .ref r7, .ref r8, .int ((nI PK)), .ref r9, .int kp, .ref r10, .ref r11, .int ((nI TK)), .ref r12, .int ((nI (cnt (fun p => dAll kpr N TK se p TK) Z))), .ref r13, .ref r14, .int bst, .ref r15])), (r10, .inl (cI, 81, .inl kpr)), (r12, .inl (cI, 81, .inl qv__5))]) [0, 1, 2] rfl
            have hD9 := hD.sub (ws' := [(r0, .inr (8, [.int 0, .int ((nI N)), .int ((nI OU)), .int ((nI Z)), .ref r1, .ref r2, .int ((nI M)), .ref r3, .ref r4, .ref r5, .ref r6, .ref r7, .ref r8, .int ((nI PK)), .ref r9, .int kp, .ref r10, .ref r11, .int ((nI TK)), .ref r12, .int ((nI (cnt (fun p => dAll kpr N TK se p TK) Z))), .ref r13, .ref r14, .int bst, .ref r15])), (r10, .inl (cI, 81, .inl kpr)), (r12, .inl (cI, 81, .inl qv__5))]) [0, 1, 2] (by decide) rfl
            exact W.iret (v := (nI (cnt (fun p => dAll kpr N TK se p TK) Z))) hx hb hr (fun t ht hW => ⟨⟨(nI (cnt (fun p => dAll kpr N TK se p TK) Z)), qv__5, rfl, rfl, by rw [ht]; exact hP9, va_K.moved hW.alike hK, hD9⟩, hS.F ht⟩) hS.2.2 d_Ref_divide_154
          · exact absurd c_46 (by decide +kernel)
        · exact absurd (Or.inr ⟨Nat.lt_of_not_le (fun g => c_22 (((nI_leI (a := 31) (b := TK) (by omega) (by omega))).mpr g)), c_31⟩) hgood
  · exact absurd c_5 hk1
