/-! ===== the reference: at, cost, equal, value by roads ===== -/
def coR (N : Nat) (kpr kot : Nat → Int32) (k : Nat) : Int32 := itr (fun k acc => acc + rCost N (kpr k).toNatClampNeg (kot k) N) k 0
set_option maxHeartbeats 1000000 in
set_option maxRecDepth 100000 in
theorem c0_Ref_at (l : Launch) (dC : Nat → ClassId) (dI : Nat → Nat → Nat) (cI cJ : ClassId) (sz0 : Nat) (r0 : Nat) (th : Int32) (N : Nat) (OU : Nat) (Z : Nat) (r1 : Nat) (r2 : Nat) (M : Nat) (r3 : Nat) (r4 : Nat) (r5 : Nat) (r6 : Nat) (r7 : Nat) (r8 : Nat) (PK : Nat) (r9 : Nat) (kp : Int32) (r10 : Nat) (r11 : Nat) (TK : Nat) (r12 : Nat) (qc : Int32) (r13 : Nat) (r14 : Nat) (bst : Int32) (r15 : Nat) (x : Int32) (y : Int32) (hk0 : kp = 0) : Met l y_Ref_at (ct y_Ref_at b_Ref_at 3 (some .int)) ({ frames := 1, cells := 0, slots := 0, locals := 24 }) (va_Pc [.ref r0, .int x, .int y] (fun U => U.heap.size = sz0 ∧ va_P (dC, dI) classes [(r0, .inr (8, [.int th, .int ((nI N)), .int ((nI OU)), .int ((nI Z)), .ref r1, .ref r2, .int ((nI M)), .ref r3, .ref r4, .ref r5, .ref r6, .ref r7, .ref r8, .int ((nI PK)), .ref r9, .int kp, .ref r10, .ref r11, .int ((nI TK)), .ref r12, .int qc, .ref r13, .ref r14, .int bst, .ref r15]))] U.heap ∧ va_K (dC, dI) classes [(cI, .int), (cJ, .long)] U ∧ va_D (fun _ => True) [(r0, .inr (8, [.int th, .int ((nI N)), .int ((nI OU)), .int ((nI Z)), .ref r1, .ref r2, .int ((nI M)), .ref r3, .ref r4, .ref r5, .ref r6, .ref r7, .ref r8, .int ((nI PK)), .ref r9, .int kp, .ref r10, .ref r11, .int ((nI TK)), .ref r12, .int qc, .ref r13, .ref r14, .int bst, .ref r15]))])) (va_Qi (fun (r : Int32) (_ : Unit) => r = 0) (fun _ => at_w dC dI cI cJ (va_A [(r0, .inr (8, [.int th, .int ((nI N)), .int ((nI OU)), .int ((nI Z)), .ref r1, .ref r2, .int ((nI M)), .ref r3, .ref r4, .ref r5, .ref r6, .ref r7, .ref r8, .int ((nI PK)), .ref r9, .int kp, .ref r10, .ref r11, .int ((nI TK)), .ref r12, .int qc, .ref r13, .ref r14, .int bst, .ref r15]))] sz0) [(r0, .inr (8, [.int 1, .int ((nI N)), .int ((nI OU)), .int ((nI Z)), .ref r1, .ref r2, .int ((nI M)), .ref r3, .ref r4, .ref r5, .ref r6, .ref r7, .ref r8, .int ((nI PK)), .ref r9, .int kp, .ref r10, .ref r11, .int ((nI TK)), .ref r12, .int qc, .ref r13, .ref r14, .int bst, .ref r15]))]) (va_A [(r0, .inr (8, [.int th, .int ((nI N)), .int ((nI OU)), .int ((nI Z)), .ref r1, .ref r2, .int ((nI M)), .ref r3, .ref r4, .ref r5, .ref r6, .ref r7, .ref r8, .int ((nI PK)), .ref r9, .int kp, .ref r10, .ref r11, .int ((nI TK)), .ref r12, .int qc, .ref r13, .ref r14, .int bst, .ref r15]))] sz0)) 0 0 (va_A [(r0, .inr (8, [.int th, .int ((nI N)), .int ((nI OU)), .int ((nI Z)), .ref r1, .ref r2, .int ((nI M)), .ref r3, .ref r4, .ref r5, .ref r6, .ref r7, .ref r8, .int ((nI PK)), .ref r9, .int kp, .ref r10, .ref r11, .int ((nI TK)), .ref r12, .int qc, .ref r13, .ref r14, .int bst, .ref r15]))] sz0) := by
  refine Met.ofW (cc := b_Ref_at) (maxL := 3) (ret := some .int) (by decide) rfl ?_
  intro p e s m args below meth c s₁ B hml hv
  obtain ⟨rfl, hsz, hP, hK, hD0⟩ := hv
  have hx := B.exec
  have hb := B.bytes
  have hr := B.returns
  have hts : ∀ w ∈ lwg, w.before _ s = true := fun w h => atoms_spec (ws := ct y_Ref_at b_Ref_at 3 (some .int)) B.pre w (List.mem_cons_of_mem _ h)
  have hown : s.vm.findClass R_Ref = some m.cls := findClass_of_methodNamed B.named
  have hlocks := B.notSynchronized
  subst hsz
  have hD := hD0.self (sz := s.heap.size)
  generalize hAe : va_A [(r0, .inr (8, [.int th, .int ((nI N)), .int ((nI OU)), .int ((nI Z)), .ref r1, .ref r2, .int ((nI M)), .ref r3, .ref r4, .ref r5, .ref r6, .ref r7, .ref r8, .int ((nI PK)), .ref r9, .int kp, .ref r10, .ref r11, .int ((nI TK)), .ref r12, .int qc, .ref r13, .ref r14, .int bst, .ref r15]))] s.heap.size = A at hD ⊢
  have hA : ∀ q : Nat, s.heap.size ≤ q → A q := fun q h => by rw [← hAe]; exact Or.inr h
  have hS : va_S A s.heap s.heap [] := va_S.rf
  have hl := lv_entry ([.ref r0, .int x, .int y]) (n := 3) (Nat.le_of_ble_eq_true rfl)
  rw [lg_entry_eq]
  generalize (lg_sl ([.ref r0, .int x, .int y]) ++ List.replicate (3 - (lg_sl ([.ref r0, .int x, .int y])).length) Slot.unset).toArray = ls at hl ⊢
  have hl : lv_has ls 3 [(0, .ref r0), (1, .int x), (2, .int y)] := hl
  have hP : va_P (dC, dI) classes [(r0, .inr (8, [.int th, .int ((nI N)), .int ((nI OU)), .int ((nI Z)), .ref r1, .ref r2, .int ((nI M)), .ref r3, .ref r4, .ref r5, .ref r6, .ref r7, .ref r8, .int ((nI PK)), .ref r9, .int kp, .ref r10, .ref r11, .int ((nI TK)), .ref r12, .int qc, .ref r13, .ref r14, .int bst, .ref r15]))] s.heap := hP
  refine lv_aload_n hx hb d_Ref_at_0 rfl (lv_at hl 0 rfl) ?_
  refine lv_aload_n hx hb d_Ref_at_1 rfl (lv_at hl 0 rfl) ?_
  refine va_get (D := (dC, dI)) (ci := 8) (v := .int kp) (C := R_Ref) (T := F_Ref) (N := 25) hx hb hts i_Ref hown hK hP 0 rfl rfl 15 (by decide) (hts _ mw_fl_Ref_113) (fun _ h9 => h9) rfl d_Ref_at_2 ?_
  refine lv_if_ne (tgt := 12) hx hb d_Ref_at_5 (by decide) (fun c_5 => ?_) (fun c_5 => ?_)
  · exact absurd hk0 c_5
  · refine lv_iconst (v := 1) hx hb d_Ref_at_8 (by decide) ?_
    refine lv_goto (tgt := 46) hx hb d_Ref_at_9 (by decide) ?_
    refine va_put (D := (dC, dI)) (ci := 8) (v := .int 1) (ty := .int) (C := R_Ref) (T := F_Ref) (N := 25) hx hb hts i_Ref t_Ref t_Ref_ok n_Ref hown hK hP hD hS 0 rfl rfl 0 (by decide) (hts _ mw_fl_Ref_65) (fun _ h9 => h9) rfl (by decide +kernel) rfl rfl (Nat.le_of_ble_eq_true rfl) d_Ref_at_46 (fun H locs hP hD hS => ?_)
    have hP : va_P (dC, dI) classes [(r0, .inr (8, [.int 1, .int ((nI N)), .int ((nI OU)), .int ((nI Z)), .ref r1, .ref r2, .int ((nI M)), .ref r3, .ref r4, .ref r5, .ref r6, .ref r7, .ref r8, .int ((nI PK)), .ref r9, .int kp, .ref r10, .ref r11, .int ((nI TK)), .ref r12, .int qc, .ref r13, .ref r14, .int bst, .ref r15]))] H := hP
    have hD : va_D A [(r0, .inr (8, [.int 1, .int ((nI N)), .int ((nI OU)), .int ((nI Z)), .ref r1, .ref r2, .int ((nI M)), .ref r3, .ref r4, .ref r5, .ref r6, .ref r7, .ref r8, .int ((nI PK)), .ref r9, .int kp, .ref r10, .ref r11, .int ((nI TK)), .ref r12, .int qc, .ref r13, .ref r14, .int bst, .ref r15]))] := hD
    refine lv_aload_n hx hb d_Ref_at_49 rfl (lv_at hl 0 rfl) ?_
    refine va_get (D := (dC, dI)) (ci := 8) (v := .int 1) (C := R_Ref) (T := F_Ref) (N := 25) hx hb hts i_Ref hown hK hP 0 rfl rfl 0 (by decide) (hts _ mw_fl_Ref_65) (fun _ h9 => h9) rfl d_Ref_at_50 ?_
    refine lv_if_le (tgt := 58) hx hb d_Ref_at_53 (by decide) (fun c_53 => ?_) (fun c_53 => ?_)
    · exact absurd c_53 (by decide +kernel)
    · refine lv_iconst (v := 0) hx hb d_Ref_at_56 (by decide) ?_
      have hP9 := hP.sub (ws' := [(r0, .inr (8, [.int 1, .int ((nI N)), .int ((nI OU)), .int ((nI Z)), .ref r1, .ref r2, .int ((nI M)), .ref r3, .ref r4, .ref r5, .ref r6, .ref r7, .ref r8, .int ((nI PK)), .ref r9, .int kp, .ref r10, .ref r11, .int ((nI TK)), .ref r12, .int qc, .ref r13, .ref r14, .int bst, .ref r15]))]) [0] rfl
      have hD9 := hD.sub (ws' := [(r0, .inr (8, [.int 1, .int ((nI N)), .int ((nI OU)), .int ((nI Z)), .ref r1, .ref r2, .int ((nI M)), .ref r3, .ref r4, .ref r5, .ref r6, .ref r7, .ref r8, .int ((nI PK)), .ref r9, .int kp, .ref r10, .ref r11, .int ((nI TK)), .ref r12, .int qc, .ref r13, .ref r14, .int bst, .ref r15]))]) [0] (by decide) rfl
      exact W.iret (v := 0) hx hb hr (fun t ht hW => ⟨⟨0, (), rfl, rfl, by rw [ht]; exact hP9, va_K.moved hW.alike hK, hD9⟩, hS.F ht⟩) hS.2.2 d_Ref_at_57
set_option maxHeartbeats 1000000 in
set_option maxRecDepth 100000 in
theorem c1_Ref_at (l : Launch) (dC : Nat → ClassId) (dI : Nat → Nat → Nat) (cI cJ : ClassId) (sz0 : Nat) (r0 : Nat) (th : Int32) (N : Nat) (OU : Nat) (Z : Nat) (r1 : Nat) (r2 : Nat) (M : Nat) (r3 : Nat) (r4 : Nat) (r5 : Nat) (r6 : Nat) (r7 : Nat) (r8 : Nat) (PK : Nat) (r9 : Nat) (kp : Int32) (r10 : Nat) (r11 : Nat) (TK : Nat) (r12 : Nat) (qc : Int32) (r13 : Nat) (r14 : Nat) (bst : Int32) (r15 : Nat) (x : Int32) (y : Int32) (hk1 : ¬ kp = 0) (hbad : x < 0 ∨ nI TK ≤ x ∨ y < 0 ∨ nI N + nI OU ≤ y) : Met l y_Ref_at (ct y_Ref_at b_Ref_at 3 (some .int)) ({ frames := 1, cells := 0, slots := 0, locals := 24 }) (va_Pc [.ref r0, .int x, .int y] (fun U => U.heap.size = sz0 ∧ va_P (dC, dI) classes [(r0, .inr (8, [.int th, .int ((nI N)), .int ((nI OU)), .int ((nI Z)), .ref r1, .ref r2, .int ((nI M)), .ref r3, .ref r4, .ref r5, .ref r6, .ref r7, .ref r8, .int ((nI PK)), .ref r9, .int kp, .ref r10, .ref r11, .int ((nI TK)), .ref r12, .int qc, .ref r13, .ref r14, .int bst, .ref r15]))] U.heap ∧ va_K (dC, dI) classes [(cI, .int), (cJ, .long)] U ∧ va_D (fun _ => True) [(r0, .inr (8, [.int th, .int ((nI N)), .int ((nI OU)), .int ((nI Z)), .ref r1, .ref r2, .int ((nI M)), .ref r3, .ref r4, .ref r5, .ref r6, .ref r7, .ref r8, .int ((nI PK)), .ref r9, .int kp, .ref r10, .ref r11, .int ((nI TK)), .ref r12, .int qc, .ref r13, .ref r14, .int bst, .ref r15]))])) (va_Qi (fun (r : Int32) (_ : Unit) => r = 0) (fun _ => at_w dC dI cI cJ (va_A [(r0, .inr (8, [.int th, .int ((nI N)), .int ((nI OU)), .int ((nI Z)), .ref r1, .ref r2, .int ((nI M)), .ref r3, .ref r4, .ref r5, .ref r6, .ref r7, .ref r8, .int ((nI PK)), .ref r9, .int kp, .ref r10, .ref r11, .int ((nI TK)), .ref r12, .int qc, .ref r13, .ref r14, .int bst, .ref r15]))] sz0) [(r0, .inr (8, [.int 2, .int ((nI N)), .int ((nI OU)), .int ((nI Z)), .ref r1, .ref r2, .int ((nI M)), .ref r3, .ref r4, .ref r5, .ref r6, .ref r7, .ref r8, .int ((nI PK)), .ref r9, .int kp, .ref r10, .ref r11, .int ((nI TK)), .ref r12, .int qc, .ref r13, .ref r14, .int bst, .ref r15]))]) (va_A [(r0, .inr (8, [.int th, .int ((nI N)), .int ((nI OU)), .int ((nI Z)), .ref r1, .ref r2, .int ((nI M)), .ref r3, .ref r4, .ref r5, .ref r6, .ref r7, .ref r8, .int ((nI PK)), .ref r9, .int kp, .ref r10, .ref r11, .int ((nI TK)), .ref r12, .int qc, .ref r13, .ref r14, .int bst, .ref r15]))] sz0)) 0 0 (va_A [(r0, .inr (8, [.int th, .int ((nI N)), .int ((nI OU)), .int ((nI Z)), .ref r1, .ref r2, .int ((nI M)), .ref r3, .ref r4, .ref r5, .ref r6, .ref r7, .ref r8, .int ((nI PK)), .ref r9, .int kp, .ref r10, .ref r11, .int ((nI TK)), .ref r12, .int qc, .ref r13, .ref r14, .int bst, .ref r15]))] sz0) := by
  refine Met.ofW (cc := b_Ref_at) (maxL := 3) (ret := some .int) (by decide) rfl ?_
  intro p e s m args below meth c s₁ B hml hv
  obtain ⟨rfl, hsz, hP, hK, hD0⟩ := hv
  have hx := B.exec
  have hb := B.bytes
  have hr := B.returns
  have hts : ∀ w ∈ lwg, w.before _ s = true := fun w h => atoms_spec (ws := ct y_Ref_at b_Ref_at 3 (some .int)) B.pre w (List.mem_cons_of_mem _ h)
  have hown : s.vm.findClass R_Ref = some m.cls := findClass_of_methodNamed B.named
  have hlocks := B.notSynchronized
  subst hsz
  have hD := hD0.self (sz := s.heap.size)
  generalize hAe : va_A [(r0, .inr (8, [.int th, .int ((nI N)), .int ((nI OU)), .int ((nI Z)), .ref r1, .ref r2, .int ((nI M)), .ref r3, .ref r4, .ref r5, .ref r6, .ref r7, .ref r8, .int ((nI PK)), .ref r9, .int kp, .ref r10, .ref r11, .int ((nI TK)), .ref r12, .int qc, .ref r13, .ref r14, .int bst, .ref r15]))] s.heap.size = A at hD ⊢
  have hA : ∀ q : Nat, s.heap.size ≤ q → A q := fun q h => by rw [← hAe]; exact Or.inr h
  have hS : va_S A s.heap s.heap [] := va_S.rf
  have hl := lv_entry ([.ref r0, .int x, .int y]) (n := 3) (Nat.le_of_ble_eq_true rfl)
  rw [lg_entry_eq]
  generalize (lg_sl ([.ref r0, .int x, .int y]) ++ List.replicate (3 - (lg_sl ([.ref r0, .int x, .int y])).length) Slot.unset).toArray = ls at hl ⊢
  have hl : lv_has ls 3 [(0, .ref r0), (1, .int x), (2, .int y)] := hl
  have hP : va_P (dC, dI) classes [(r0, .inr (8, [.int th, .int ((nI N)), .int ((nI OU)), .int ((nI Z)), .ref r1, .ref r2, .int ((nI M)), .ref r3, .ref r4, .ref r5, .ref r6, .ref r7, .ref r8, .int ((nI PK)), .ref r9, .int kp, .ref r10, .ref r11, .int ((nI TK)), .ref r12, .int qc, .ref r13, .ref r14, .int bst, .ref r15]))] s.heap := hP
  refine lv_aload_n hx hb d_Ref_at_0 rfl (lv_at hl 0 rfl) ?_
  refine lv_aload_n hx hb d_Ref_at_1 rfl (lv_at hl 0 rfl) ?_
  refine va_get (D := (dC, dI)) (ci := 8) (v := .int kp) (C := R_Ref) (T := F_Ref) (N := 25) hx hb hts i_Ref hown hK hP 0 rfl rfl 15 (by decide) (hts _ mw_fl_Ref_113) (fun _ h9 => h9) rfl d_Ref_at_2 ?_
  refine lv_if_ne (tgt := 12) hx hb d_Ref_at_5 (by decide) (fun c_5 => ?_) (fun c_5 => ?_)
  · refine lv_iload_n hx hb d_Ref_at_12 rfl (lv_at hl 1 rfl) ?_
    refine lv_if_lt (tgt := 45) hx hb d_Ref_at_13 (by decide) (fun c_13 => ?_) (fun c_13 => ?_)
    · refine lv_iconst (v := 2) hx hb d_Ref_at_45 (by decide) ?_
      refine va_put (D := (dC, dI)) (ci := 8) (v := .int 2) (ty := .int) (C := R_Ref) (T := F_Ref) (N := 25) hx hb hts i_Ref t_Ref t_Ref_ok n_Ref hown hK hP hD hS 0 rfl rfl 0 (by decide) (hts _ mw_fl_Ref_65) (fun _ h9 => h9) rfl (by decide +kernel) rfl rfl (Nat.le_of_ble_eq_true rfl) d_Ref_at_46 (fun H locs hP hD hS => ?_)
      have hP : va_P (dC, dI) classes [(r0, .inr (8, [.int 2, .int ((nI N)), .int ((nI OU)), .int ((nI Z)), .ref r1, .ref r2, .int ((nI M)), .ref r3, .ref r4, .ref r5, .ref r6, .ref r7, .ref r8, .int ((nI PK)), .ref r9, .int kp, .ref r10, .ref r11, .int ((nI TK)), .ref r12, .int qc, .ref r13, .ref r14, .int bst, .ref r15]))] H := hP
      have hD : va_D A [(r0, .inr (8, [.int 2, .int ((nI N)), .int ((nI OU)), .int ((nI Z)), .ref r1, .ref r2, .int ((nI M)), .ref r3, .ref r4, .ref r5, .ref r6, .ref r7, .ref r8, .int ((nI PK)), .ref r9, .int kp, .ref r10, .ref r11, .int ((nI TK)), .ref r12, .int qc, .ref r13, .ref r14, .int bst, .ref r15]))] := hD
      refine lv_aload_n hx hb d_Ref_at_49 rfl (lv_at hl 0 rfl) ?_
      refine va_get (D := (dC, dI)) (ci := 8) (v := .int 2) (C := R_Ref) (T := F_Ref) (N := 25) hx hb hts i_Ref hown hK hP 0 rfl rfl 0 (by decide) (hts _ mw_fl_Ref_65) (fun _ h9 => h9) rfl d_Ref_at_50 ?_
      refine lv_if_le (tgt := 58) hx hb d_Ref_at_53 (by decide) (fun c_53 => ?_) (fun c_53 => ?_)
      · exact absurd c_53 (by decide +kernel)
      · refine lv_iconst (v := 0) hx hb d_Ref_at_56 (by decide) ?_
        have hP9 := hP.sub (ws' := [(r0, .inr (8, [.int 2, .int ((nI N)), .int ((nI OU)), .int ((nI Z)), .ref r1, .ref r2, .int ((nI M)), .ref r3, .ref r4, .ref r5, .ref r6, .ref r7, .ref r8, .int ((nI PK)), .ref r9, .int kp, .ref r10, .ref r11, .int ((nI TK)), .ref r12, .int qc, .ref r13, .ref r14, .int bst, .ref r15]))]) [0] rfl
        have hD9 := hD.sub (ws' := [(r0, .inr (8, [.int 2, .int ((nI N)), .int ((nI OU)), .int ((nI Z)), .ref r1, .ref r2, .int ((nI M)), .ref r3, .ref r4, .ref r5, .ref r6, .ref r7, .ref r8, .int ((nI PK)), .ref r9, .int kp, .ref r10, .ref r11, .int ((nI TK)), .ref r12, .int qc, .ref r13, .ref r14, .int bst, .ref r15]))]) [0] (by decide) rfl
        exact W.iret (v := 0) hx hb hr (fun t ht hW => ⟨⟨0, (), rfl, rfl, by rw [ht]; exact hP9, va_K.moved hW.alike hK, hD9⟩, hS.F ht⟩) hS.2.2 d_Ref_at_57
    · refine lv_iload_n hx hb d_Ref_at_16 rfl (lv_at hl 1 rfl) ?_
      refine lv_aload_n hx hb d_Ref_at_17 rfl (lv_at hl 0 rfl) ?_
      refine va_get (D := (dC, dI)) (ci := 8) (v := .int ((nI TK))) (C := R_Ref) (T := F_Ref) (N := 25) hx hb hts i_Ref hown hK hP 0 rfl rfl 18 (by decide) (hts _ mw_fl_Ref_110) (fun _ h9 => h9) rfl d_Ref_at_18 ?_
      refine lv_icmp_ge (tgt := 45) hx hb d_Ref_at_21 (by decide) (fun c_21 => ?_) (fun c_21 => ?_)
      · refine lv_iconst (v := 2) hx hb d_Ref_at_45 (by decide) ?_
        refine va_put (D := (dC, dI)) (ci := 8) (v := .int 2) (ty := .int) (C := R_Ref) (T := F_Ref) (N := 25) hx hb hts i_Ref t_Ref t_Ref_ok n_Ref hown hK hP hD hS 0 rfl rfl 0 (by decide) (hts _ mw_fl_Ref_65) (fun _ h9 => h9) rfl (by decide +kernel) rfl rfl (Nat.le_of_ble_eq_true rfl) d_Ref_at_46 (fun H locs hP hD hS => ?_)
        have hP : va_P (dC, dI) classes [(r0, .inr (8, [.int 2, .int ((nI N)), .int ((nI OU)), .int ((nI Z)), .ref r1, .ref r2, .int ((nI M)), .ref r3, .ref r4, .ref r5, .ref r6, .ref r7, .ref r8, .int ((nI PK)), .ref r9, .int kp, .ref r10, .ref r11, .int ((nI TK)), .ref r12, .int qc, .ref r13, .ref r14, .int bst, .ref r15]))] H := hP
        have hD : va_D A [(r0, .inr (8, [.int 2, .int ((nI N)), .int ((nI OU)), .int ((nI Z)), .ref r1, .ref r2, .int ((nI M)), .ref r3, .ref r4, .ref r5, .ref r6, .ref r7, .ref r8, .int ((nI PK)), .ref r9, .int kp, .ref r10, .ref r11, .int ((nI TK)), .ref r12, .int qc, .ref r13, .ref r14, .int bst, .ref r15]))] := hD
        refine lv_aload_n hx hb d_Ref_at_49 rfl (lv_at hl 0 rfl) ?_
        refine va_get (D := (dC, dI)) (ci := 8) (v := .int 2) (C := R_Ref) (T := F_Ref) (N := 25) hx hb hts i_Ref hown hK hP 0 rfl rfl 0 (by decide) (hts _ mw_fl_Ref_65) (fun _ h9 => h9) rfl d_Ref_at_50 ?_
        refine lv_if_le (tgt := 58) hx hb d_Ref_at_53 (by decide) (fun c_53 => ?_) (fun c_53 => ?_)
        · exact absurd c_53 (by decide +kernel)
        · refine lv_iconst (v := 0) hx hb d_Ref_at_56 (by decide) ?_
          have hP9 := hP.sub (ws' := [(r0, .inr (8, [.int 2, .int ((nI N)), .int ((nI OU)), .int ((nI Z)), .ref r1, .ref r2, .int ((nI M)), .ref r3, .ref r4, .ref r5, .ref r6, .ref r7, .ref r8, .int ((nI PK)), .ref r9, .int kp, .ref r10, .ref r11, .int ((nI TK)), .ref r12, .int qc, .ref r13, .ref r14, .int bst, .ref r15]))]) [0] rfl
          have hD9 := hD.sub (ws' := [(r0, .inr (8, [.int 2, .int ((nI N)), .int ((nI OU)), .int ((nI Z)), .ref r1, .ref r2, .int ((nI M)), .ref r3, .ref r4, .ref r5, .ref r6, .ref r7, .ref r8, .int ((nI PK)), .ref r9, .int kp, .ref r10, .ref r11, .int ((nI TK)), .ref r12, .int qc, .ref r13, .ref r14, .int bst, .ref r15]))]) [0] (by decide) rfl
          exact W.iret (v := 0) hx hb hr (fun t ht hW => ⟨⟨0, (), rfl, rfl, by rw [ht]; exact hP9, va_K.moved hW.alike hK, hD9⟩, hS.F ht⟩) hS.2.2 d_Ref_at_57
      · refine lv_iload_n hx hb d_Ref_at_24 rfl (lv_at hl 2 rfl) ?_
        refine lv_if_lt (tgt := 45) hx hb d_Ref_at_25 (by decide) (fun c_25 => ?_) (fun c_25 => ?_)
        · refine lv_iconst (v := 2) hx hb d_Ref_at_45 (by decide) ?_
          refine va_put (D := (dC, dI)) (ci := 8) (v := .int 2) (ty := .int) (C := R_Ref) (T := F_Ref) (N := 25) hx hb hts i_Ref t_Ref t_Ref_ok n_Ref hown hK hP hD hS 0 rfl rfl 0 (by decide) (hts _ mw_fl_Ref_65) (fun _ h9 => h9) rfl (by decide +kernel) rfl rfl (Nat.le_of_ble_eq_true rfl) d_Ref_at_46 (fun H locs hP hD hS => ?_)
          have hP : va_P (dC, dI) classes [(r0, .inr (8, [.int 2, .int ((nI N)), .int ((nI OU)), .int ((nI Z)), .ref r1, .ref r2, .int ((nI M)), .ref r3, .ref r4, .ref r5, .ref r6, .ref r7, .ref r8, .int ((nI PK)), .ref r9, .int kp, .ref r10, .ref r11, .int ((nI TK)), .ref r12, .int qc, .ref r13, .ref r14, .int bst, .ref r15]))] H := hP
          have hD : va_D A [(r0, .inr (8, [.int 2, .int ((nI N)), .int ((nI OU)), .int ((nI Z)), .ref r1, .ref r2, .int ((nI M)), .ref r3, .ref r4, .ref r5, .ref r6, .ref r7, .ref r8, .int ((nI PK)), .ref r9, .int kp, .ref r10, .ref r11, .int ((nI TK)), .ref r12, .int qc, .ref r13, .ref r14, .int bst, .ref r15]))] := hD
          refine lv_aload_n hx hb d_Ref_at_49 rfl (lv_at hl 0 rfl) ?_
          refine va_get (D := (dC, dI)) (ci := 8) (v := .int 2) (C := R_Ref) (T := F_Ref) (N := 25) hx hb hts i_Ref hown hK hP 0 rfl rfl 0 (by decide) (hts _ mw_fl_Ref_65) (fun _ h9 => h9) rfl d_Ref_at_50 ?_
          refine lv_if_le (tgt := 58) hx hb d_Ref_at_53 (by decide) (fun c_53 => ?_) (fun c_53 => ?_)
          · exact absurd c_53 (by decide +kernel)
          · refine lv_iconst (v := 0) hx hb d_Ref_at_56 (by decide) ?_
            have hP9 := hP.sub (ws' := [(r0, .inr (8, [.int 2, .int ((nI N)), .int ((nI OU)), .int ((nI Z)), .ref r1, .ref r2, .int ((nI M)), .ref r3, .ref r4, .ref r5, .ref r6, .ref r7, .ref r8, .int ((nI PK)), .ref r9, .int kp, .ref r10, .ref r11, .int ((nI TK)), .ref r12, .int qc, .ref r13, .ref r14, .int bst, .ref r15]))]) [0] rfl
            have hD9 := hD.sub (ws' := [(r0, .inr (8, [.int 2, .int ((nI N)), .int ((nI OU)), .int ((nI Z)), .ref r1, .ref r2, .int ((nI M)), .ref r3, .ref r4, .ref r5, .ref r6, .ref r7, .ref r8, .int ((nI PK)), .ref r9, .int kp, .ref r10, .ref r11, .int ((nI TK)), .ref r12, .int qc, .ref r13, .ref r14, .int bst, .ref r15]))]) [0] (by decide) rfl
            exact W.iret (v := 0) hx hb hr (fun t ht hW => ⟨⟨0, (), rfl, rfl, by rw [ht]; exact hP9, va_K.moved hW.alike hK, hD9⟩, hS.F ht⟩) hS.2.2 d_Ref_at_57
        · refine lv_iload_n hx hb d_Ref_at_28 rfl (lv_at hl 2 rfl) ?_
          refine lv_aload_n hx hb d_Ref_at_29 rfl (lv_at hl 0 rfl) ?_
          refine va_get (D := (dC, dI)) (ci := 8) (v := .int ((nI N))) (C := R_Ref) (T := F_Ref) (N := 25) hx hb hts i_Ref hown hK hP 0 rfl rfl 1 (by decide) (hts _ mw_fl_Ref_55) (fun _ h9 => h9) rfl d_Ref_at_30 ?_
          refine lv_aload_n hx hb d_Ref_at_33 rfl (lv_at hl 0 rfl) ?_
          refine va_get (D := (dC, dI)) (ci := 8) (v := .int ((nI OU))) (C := R_Ref) (T := F_Ref) (N := 25) hx hb hts i_Ref hown hK hP 0 rfl rfl 2 (by decide) (hts _ mw_fl_Ref_59) (fun _ h9 => h9) rfl d_Ref_at_34 ?_
          refine lv_iadd hx hb d_Ref_at_37 ?_
          refine lv_icmp_ge (tgt := 45) hx hb d_Ref_at_38 (by decide) (fun c_38 => ?_) (fun c_38 => ?_)
          · refine lv_iconst (v := 2) hx hb d_Ref_at_45 (by decide) ?_
            refine va_put (D := (dC, dI)) (ci := 8) (v := .int 2) (ty := .int) (C := R_Ref) (T := F_Ref) (N := 25) hx hb hts i_Ref t_Ref t_Ref_ok n_Ref hown hK hP hD hS 0 rfl rfl 0 (by decide) (hts _ mw_fl_Ref_65) (fun _ h9 => h9) rfl (by decide +kernel) rfl rfl (Nat.le_of_ble_eq_true rfl) d_Ref_at_46 (fun H locs hP hD hS => ?_)
            have hP : va_P (dC, dI) classes [(r0, .inr (8, [.int 2, .int ((nI N)), .int ((nI OU)), .int ((nI Z)), .ref r1, .ref r2, .int ((nI M)), .ref r3, .ref r4, .ref r5, .ref r6, .ref r7, .ref r8, .int ((nI PK)), .ref r9, .int kp, .ref r10, .ref r11, .int ((nI TK)), .ref r12, .int qc, .ref r13, .ref r14, .int bst, .ref r15]))] H := hP
            have hD : va_D A [(r0, .inr (8, [.int 2, .int ((nI N)), .int ((nI OU)), .int ((nI Z)), .ref r1, .ref r2, .int ((nI M)), .ref r3, .ref r4, .ref r5, .ref r6, .ref r7, .ref r8, .int ((nI PK)), .ref r9, .int kp, .ref r10, .ref r11, .int ((nI TK)), .ref r12, .int qc, .ref r13, .ref r14, .int bst, .ref r15]))] := hD
            refine lv_aload_n hx hb d_Ref_at_49 rfl (lv_at hl 0 rfl) ?_
            refine va_get (D := (dC, dI)) (ci := 8) (v := .int 2) (C := R_Ref) (T := F_Ref) (N := 25) hx hb hts i_Ref hown hK hP 0 rfl rfl 0 (by decide) (hts _ mw_fl_Ref_65) (fun _ h9 => h9) rfl d_Ref_at_50 ?_
            refine lv_if_le (tgt := 58) hx hb d_Ref_at_53 (by decide) (fun c_53 => ?_) (fun c_53 => ?_)
            · exact absurd c_53 (by decide +kernel)
            · refine lv_iconst (v := 0) hx hb d_Ref_at_56 (by decide) ?_
              have hP9 := hP.sub (ws' := [(r0, .inr (8, [.int 2, .int ((nI N)), .int ((nI OU)), .int ((nI Z)), .ref r1, .ref r2, .int ((nI M)), .ref r3, .ref r4, .ref r5, .ref r6, .ref r7, .ref r8, .int ((nI PK)), .ref r9, .int kp, .ref r10, .ref r11, .int ((nI TK)), .ref r12, .int qc, .ref r13, .ref r14, .int bst, .ref r15]))]) [0] rfl
              have hD9 := hD.sub (ws' := [(r0, .inr (8, [.int 2, .int ((nI N)), .int ((nI OU)), .int ((nI Z)), .ref r1, .ref r2, .int ((nI M)), .ref r3, .ref r4, .ref r5, .ref r6, .ref r7, .ref r8, .int ((nI PK)), .ref r9, .int kp, .ref r10, .ref r11, .int ((nI TK)), .ref r12, .int qc, .ref r13, .ref r14, .int bst, .ref r15]))]) [0] (by decide) rfl
              exact W.iret (v := 0) hx hb hr (fun t ht hW => ⟨⟨0, (), rfl, rfl, by rw [ht]; exact hP9, va_K.moved hW.alike hK, hD9⟩, hS.F ht⟩) hS.2.2 d_Ref_at_57
          · exact (hbad.elim c_13 (fun g => g.elim c_21 (fun g => g.elim c_25 c_38))).elim
  · exact absurd c_5 hk1
set_option maxHeartbeats 1000000 in
set_option maxRecDepth 100000 in
theorem c2_Ref_at (l : Launch) (dC : Nat → ClassId) (dI : Nat → Nat → Nat) (cI cJ : ClassId) (sz0 : Nat) (r0 : Nat) (th : Int32) (N : Nat) (OU : Nat) (Z : Nat) (r1 : Nat) (r2 : Nat) (M : Nat) (r3 : Nat) (r4 : Nat) (r5 : Nat) (r6 : Nat) (r7 : Nat) (r8 : Nat) (PK : Nat) (r9 : Nat) (kp : Int32) (r10 : Nat) (r11 : Nat) (TK : Nat) (r12 : Nat) (qc : Int32) (r13 : Nat) (r14 : Nat) (bst : Int32) (r15 : Nat) (kpr : Nat → Int32) (kot : Nat → Int32) (C : Nat) (J : Nat) (hk1 : ¬ kp = 0) (hN : N ≤ 4) (hOU : OU ≤ 2) (hTK : TK ≤ 81) (hkv : ∀ k, k < TK → vp_in (kpr k) 81) (hC : C < TK) (hJ : J < N + OU) : Met l y_Ref_at (ct y_Ref_at b_Ref_at 3 (some .int)) ({ frames := 1, cells := 0, slots := 0, locals := 24 }) (va_Pc [.ref r0, .int ((nI C)), .int ((nI J))] (fun U => U.heap.size = sz0 ∧ va_P (dC, dI) classes [(r0, .inr (8, [.int th, .int ((nI N)), .int ((nI OU)), .int ((nI Z)), .ref r1, .ref r2, .int ((nI M)), .ref r3, .ref r4, .ref r5, .ref r6, .ref r7, .ref r8, .int ((nI PK)), .ref r9, .int kp, .ref r10, .ref r11, .int ((nI TK)), .ref r12, .int qc, .ref r13, .ref r14, .int bst, .ref r15])), (r10, .inl (cI, 81, .inl kpr)), (r11, .inl (cI, 81, .inl kot))] U.heap ∧ va_K (dC, dI) classes [(cI, .int), (cJ, .long)] U ∧ va_D (fun _ => True) [(r0, .inr (8, [.int th, .int ((nI N)), .int ((nI OU)), .int ((nI Z)), .ref r1, .ref r2, .int ((nI M)), .ref r3, .ref r4, .ref r5, .ref r6, .ref r7, .ref r8, .int ((nI PK)), .ref r9, .int kp, .ref r10, .ref r11, .int ((nI TK)), .ref r12, .int qc, .ref r13, .ref r14, .int bst, .ref r15])), (r10, .inl (cI, 81, .inl kpr)), (r11, .inl (cI, 81, .inl kot))])) (va_Qi (fun (r : Int32) (_ : Unit) => r = if nI N ≤ nI J then ((kot C >>> ((nI J - nI N) &&& 31)) &&& 1) else nI (rDig N (kpr C).toNatClampNeg J)) (fun _ => at_w dC dI cI cJ (va_A [(r0, .inr (8, [.int th, .int ((nI N)), .int ((nI OU)), .int ((nI Z)), .ref r1, .ref r2, .int ((nI M)), .ref r3, .ref r4, .ref r5, .ref r6, .ref r7, .ref r8, .int ((nI PK)), .ref r9, .int kp, .ref r10, .ref r11, .int ((nI TK)), .ref r12, .int qc, .ref r13, .ref r14, .int bst, .ref r15])), (r10, .inl (cI, 81, .inl kpr)), (r11, .inl (cI, 81, .inl kot))] sz0) [(r0, .inr (8, [.int 0, .int ((nI N)), .int ((nI OU)), .int ((nI Z)), .ref r1, .ref r2, .int ((nI M)), .ref r3, .ref r4, .ref r5, .ref r6, .ref r7, .ref r8, .int ((nI PK)), .ref r9, .int kp, .ref r10, .ref r11, .int ((nI TK)), .ref r12, .int qc, .ref r13, .ref r14, .int bst, .ref r15])), (r10, .inl (cI, 81, .inl kpr)), (r11, .inl (cI, 81, .inl kot))]) (va_A [(r0, .inr (8, [.int th, .int ((nI N)), .int ((nI OU)), .int ((nI Z)), .ref r1, .ref r2, .int ((nI M)), .ref r3, .ref r4, .ref r5, .ref r6, .ref r7, .ref r8, .int ((nI PK)), .ref r9, .int kp, .ref r10, .ref r11, .int ((nI TK)), .ref r12, .int qc, .ref r13, .ref r14, .int bst, .ref r15])), (r10, .inl (cI, 81, .inl kpr)), (r11, .inl (cI, 81, .inl kot))] sz0)) 0 0 (va_A [(r0, .inr (8, [.int th, .int ((nI N)), .int ((nI OU)), .int ((nI Z)), .ref r1, .ref r2, .int ((nI M)), .ref r3, .ref r4, .ref r5, .ref r6, .ref r7, .ref r8, .int ((nI PK)), .ref r9, .int kp, .ref r10, .ref r11, .int ((nI TK)), .ref r12, .int qc, .ref r13, .ref r14, .int bst, .ref r15])), (r10, .inl (cI, 81, .inl kpr)), (r11, .inl (cI, 81, .inl kot))] sz0) := by
  refine Met.ofW (cc := b_Ref_at) (maxL := 3) (ret := some .int) (by decide) rfl ?_
  intro p e s m args below meth c s₁ B hml hv
  obtain ⟨rfl, hsz, hP, hK, hD0⟩ := hv
  have hx := B.exec
  have hb := B.bytes
  have hr := B.returns
  have hts : ∀ w ∈ lwg, w.before _ s = true := fun w h => atoms_spec (ws := ct y_Ref_at b_Ref_at 3 (some .int)) B.pre w (List.mem_cons_of_mem _ h)
  have hown : s.vm.findClass R_Ref = some m.cls := findClass_of_methodNamed B.named
  have hlocks := B.notSynchronized
  subst hsz
  have hD := hD0.self (sz := s.heap.size)
  generalize hAe : va_A [(r0, .inr (8, [.int th, .int ((nI N)), .int ((nI OU)), .int ((nI Z)), .ref r1, .ref r2, .int ((nI M)), .ref r3, .ref r4, .ref r5, .ref r6, .ref r7, .ref r8, .int ((nI PK)), .ref r9, .int kp, .ref r10, .ref r11, .int ((nI TK)), .ref r12, .int qc, .ref r13, .ref r14, .int bst, .ref r15])), (r10, .inl (cI, 81, .inl kpr)), (r11, .inl (cI, 81, .inl kot))] s.heap.size = A at hD ⊢
  have hA : ∀ q : Nat, s.heap.size ≤ q → A q := fun q h => by rw [← hAe]; exact Or.inr h
  have hS : va_S A s.heap s.heap [] := va_S.rf
  have hl := lv_entry ([.ref r0, .int ((nI C)), .int ((nI J))]) (n := 3) (Nat.le_of_ble_eq_true rfl)
  rw [lg_entry_eq]
  generalize (lg_sl ([.ref r0, .int ((nI C)), .int ((nI J))]) ++ List.replicate (3 - (lg_sl ([.ref r0, .int ((nI C)), .int ((nI J))])).length) Slot.unset).toArray = ls at hl ⊢
  have hl : lv_has ls 3 [(0, .ref r0), (1, .int ((nI C))), (2, .int ((nI J)))] := hl
  have hP : va_P (dC, dI) classes [(r0, .inr (8, [.int th, .int ((nI N)), .int ((nI OU)), .int ((nI Z)), .ref r1, .ref r2, .int ((nI M)), .ref r3, .ref r4, .ref r5, .ref r6, .ref r7, .ref r8, .int ((nI PK)), .ref r9, .int kp, .ref r10, .ref r11, .int ((nI TK)), .ref r12, .int qc, .ref r13, .ref r14, .int bst, .ref r15])), (r10, .inl (cI, 81, .inl kpr)), (r11, .inl (cI, 81, .inl kot))] s.heap := hP
  refine lv_aload_n hx hb d_Ref_at_0 rfl (lv_at hl 0 rfl) ?_
  refine lv_aload_n hx hb d_Ref_at_1 rfl (lv_at hl 0 rfl) ?_
  refine va_get (D := (dC, dI)) (ci := 8) (v := .int kp) (C := R_Ref) (T := F_Ref) (N := 25) hx hb hts i_Ref hown hK hP 0 rfl rfl 15 (by decide) (hts _ mw_fl_Ref_113) (fun _ h9 => h9) rfl d_Ref_at_2 ?_
  refine lv_if_ne (tgt := 12) hx hb d_Ref_at_5 (by decide) (fun c_5 => ?_) (fun c_5 => ?_)
  · refine lv_iload_n hx hb d_Ref_at_12 rfl (lv_at hl 1 rfl) ?_
    refine lv_if_lt (tgt := 45) hx hb d_Ref_at_13 (by decide) (fun c_13 => ?_) (fun c_13 => ?_)
    · exact absurd c_13 (nI_pos (by omega))
    · refine lv_iload_n hx hb d_Ref_at_16 rfl (lv_at hl 1 rfl) ?_
      refine lv_aload_n hx hb d_Ref_at_17 rfl (lv_at hl 0 rfl) ?_
      refine va_get (D := (dC, dI)) (ci := 8) (v := .int ((nI TK))) (C := R_Ref) (T := F_Ref) (N := 25) hx hb hts i_Ref hown hK hP 0 rfl rfl 18 (by decide) (hts _ mw_fl_Ref_110) (fun _ h9 => h9) rfl d_Ref_at_18 ?_
      refine lv_icmp_ge (tgt := 45) hx hb d_Ref_at_21 (by decide) (fun c_21 => ?_) (fun c_21 => ?_)
      · exact absurd ((nI_leI (a := TK) (b := C) (by omega) (by omega)).mp c_21) (by omega)
      · refine lv_iload_n hx hb d_Ref_at_24 rfl (lv_at hl 2 rfl) ?_
        refine lv_if_lt (tgt := 45) hx hb d_Ref_at_25 (by decide) (fun c_25 => ?_) (fun c_25 => ?_)
        · exact absurd c_25 (nI_pos (by omega))
        · refine lv_iload_n hx hb d_Ref_at_28 rfl (lv_at hl 2 rfl) ?_
          refine lv_aload_n hx hb d_Ref_at_29 rfl (lv_at hl 0 rfl) ?_
          refine va_get (D := (dC, dI)) (ci := 8) (v := .int ((nI N))) (C := R_Ref) (T := F_Ref) (N := 25) hx hb hts i_Ref hown hK hP 0 rfl rfl 1 (by decide) (hts _ mw_fl_Ref_55) (fun _ h9 => h9) rfl d_Ref_at_30 ?_
          refine lv_aload_n hx hb d_Ref_at_33 rfl (lv_at hl 0 rfl) ?_
          refine va_get (D := (dC, dI)) (ci := 8) (v := .int ((nI OU))) (C := R_Ref) (T := F_Ref) (N := 25) hx hb hts i_Ref hown hK hP 0 rfl rfl 2 (by decide) (hts _ mw_fl_Ref_59) (fun _ h9 => h9) rfl d_Ref_at_34 ?_
          refine lv_iadd hx hb d_Ref_at_37 ?_
          refine lv_icmp_ge (tgt := 45) hx hb d_Ref_at_38 (by decide) (fun c_38 => ?_) (fun c_38 => ?_)
          · exact absurd ((nI_leI (a := N + OU) (b := J) (by omega) (by omega)).mp (by rw [← nI_add]; exact c_38)) (by omega)
          · refine lv_iconst (v := 0) hx hb d_Ref_at_41 (by decide) ?_
            refine lv_goto (tgt := 46) hx hb d_Ref_at_42 (by decide) ?_
            refine va_put (D := (dC, dI)) (ci := 8) (v := .int 0) (ty := .int) (C := R_Ref) (T := F_Ref) (N := 25) hx hb hts i_Ref t_Ref t_Ref_ok n_Ref hown hK hP hD hS 0 rfl rfl 0 (by decide) (hts _ mw_fl_Ref_65) (fun _ h9 => h9) rfl (by decide +kernel) rfl rfl (Nat.le_of_ble_eq_true rfl) d_Ref_at_46 (fun H locs hP hD hS => ?_)
            have hP : va_P (dC, dI) classes [(r0, .inr (8, [.int 0, .int ((nI N)), .int ((nI OU)), .int ((nI Z)), .ref r1, .ref r2, .int ((nI M)), .ref r3, .ref r4, .ref r5, .ref r6, .ref r7, .ref r8, .int ((nI PK)), .ref r9, .int kp, .ref r10, .ref r11, .int ((nI TK)), .ref r12, .int qc, .ref r13, .ref r14, .int bst, .ref r15])), (r10, .inl (cI, 81, .inl kpr)), (r11, .inl (cI, 81, .inl kot))] H := hP
            have hD : va_D A [(r0, .inr (8, [.int 0, .int ((nI N)), .int ((nI OU)), .int ((nI Z)), .ref r1, .ref r2, .int ((nI M)), .ref r3, .ref r4, .ref r5, .ref r6, .ref r7, .ref r8, .int ((nI PK)), .ref r9, .int kp, .ref r10, .ref r11, .int ((nI TK)), .ref r12, .int qc, .ref r13, .ref r14, .int bst, .ref r15])), (r10, .inl (cI, 81, .inl kpr)), (r11, .inl (cI, 81, .inl kot))] := hD
            refine lv_aload_n hx hb d_Ref_at_49 rfl (lv_at hl 0 rfl) ?_
            refine va_get (D := (dC, dI)) (ci := 8) (v := .int 0) (C := R_Ref) (T := F_Ref) (N := 25) hx hb hts i_Ref hown hK hP 0 rfl rfl 0 (by decide) (hts _ mw_fl_Ref_65) (fun _ h9 => h9) rfl d_Ref_at_50 ?_
            refine lv_if_le (tgt := 58) hx hb d_Ref_at_53 (by decide) (fun c_53 => ?_) (fun c_53 => ?_)
            · refine lv_iload_n hx hb d_Ref_at_58 rfl (lv_at hl 2 rfl) ?_
              refine lv_aload_n hx hb d_Ref_at_59 rfl (lv_at hl 0 rfl) ?_
              refine va_get (D := (dC, dI)) (ci := 8) (v := .int ((nI N))) (C := R_Ref) (T := F_Ref) (N := 25) hx hb hts i_Ref hown hK hP 0 rfl rfl 1 (by decide) (hts _ mw_fl_Ref_55) (fun _ h9 => h9) rfl d_Ref_at_60 ?_
              refine lv_icmp_ge (tgt := 80) hx hb d_Ref_at_63 (by decide) (fun c_63 => ?_) (fun c_63 => ?_)
              · refine lv_aload_n hx hb d_Ref_at_80 rfl (lv_at hl 0 rfl) ?_
                refine va_get (D := (dC, dI)) (ci := 8) (v := .ref r11) (C := R_Ref) (T := F_Ref) (N := 25) hx hb hts i_Ref hown hK hP 0 rfl rfl 17 (by decide) (hts _ mw_fl_Ref_40) (fun _ h9 => h9) rfl d_Ref_at_81 ?_
                refine lv_iload_n hx hb d_Ref_at_84 rfl (lv_at hl 1 rfl) ?_
                refine va_iald hx hb hK hP 2 0 rfl rfl (vp_in_nI (show C < 81 by omega) (by omega)) d_Ref_at_85 ?_
                refine w_ti (show _ = kot C from by rw [nI_clamp (by omega)]) ?_
                refine lv_iload_n hx hb d_Ref_at_86 rfl (lv_at hl 2 rfl) ?_
                refine lv_aload_n hx hb d_Ref_at_87 rfl (lv_at hl 0 rfl) ?_
                refine va_get (D := (dC, dI)) (ci := 8) (v := .int ((nI N))) (C := R_Ref) (T := F_Ref) (N := 25) hx hb hts i_Ref hown hK hP 0 rfl rfl 1 (by decide) (hts _ mw_fl_Ref_55) (fun _ h9 => h9) rfl d_Ref_at_88 ?_
                refine lv_isub hx hb d_Ref_at_91 ?_
                refine lv_ishr hx hb d_Ref_at_92 ?_
                refine lv_iconst (v := 1) hx hb d_Ref_at_93 (by decide) ?_
                refine lv_iand hx hb d_Ref_at_94 ?_
                have hP9 := hP.sub (ws' := [(r0, .inr (8, [.int 0, .int ((nI N)), .int ((nI OU)), .int ((nI Z)), .ref r1, .ref r2, .int ((nI M)), .ref r3, .ref r4, .ref r5, .ref r6, .ref r7, .ref r8, .int ((nI PK)), .ref r9, .int kp, .ref r10, .ref r11, .int ((nI TK)), .ref r12, .int qc, .ref r13, .ref r14, .int bst, .ref r15])), (r10, .inl (cI, 81, .inl kpr)), (r11, .inl (cI, 81, .inl kot))]) [0, 1, 2] rfl
                have hD9 := hD.sub (ws' := [(r0, .inr (8, [.int 0, .int ((nI N)), .int ((nI OU)), .int ((nI Z)), .ref r1, .ref r2, .int ((nI M)), .ref r3, .ref r4, .ref r5, .ref r6, .ref r7, .ref r8, .int ((nI PK)), .ref r9, .int kp, .ref r10, .ref r11, .int ((nI TK)), .ref r12, .int qc, .ref r13, .ref r14, .int bst, .ref r15])), (r10, .inl (cI, 81, .inl kpr)), (r11, .inl (cI, 81, .inl kot))]) [0, 1, 2] (by decide) rfl
                exact W.iret (v := (((kot C) >>> (((nI J) - (nI N)) &&& 31)) &&& 1)) hx hb hr (fun t ht hW => ⟨⟨(((kot C) >>> (((nI J) - (nI N)) &&& 31)) &&& 1), (), rfl, (if_pos c_63).symm, by rw [ht]; exact hP9, va_K.moved hW.alike hK, hD9⟩, hS.F ht⟩) hS.2.2 d_Ref_at_95
              · have hy9 : J < N := Nat.lt_of_not_le (fun h => c_63 ((nI_leI (a := N) (b := J) (by omega) (by omega)).mpr h))
                refine lv_aload_n hx hb d_Ref_at_66 rfl (lv_at hl 0 rfl) ?_
                refine lv_aload_n hx hb d_Ref_at_67 rfl (lv_at hl 0 rfl) ?_
                refine va_get (D := (dC, dI)) (ci := 8) (v := .ref r10) (C := R_Ref) (T := F_Ref) (N := 25) hx hb hts i_Ref hown hK hP 0 rfl rfl 16 (by decide) (hts _ mw_fl_Ref_37) (fun _ h9 => h9) rfl d_Ref_at_68 ?_
                refine lv_iload_n hx hb d_Ref_at_71 rfl (lv_at hl 1 rfl) ?_
                refine va_iald hx hb hK hP 1 0 rfl rfl (vp_in_nI (show C < 81 by omega) (by omega)) d_Ref_at_72 ?_
                refine w_ti (show _ = kpr C from by rw [nI_clamp (by omega)]) ?_
                refine lv_iload_n hx hb d_Ref_at_73 rfl (lv_at hl 2 rfl) ?_
                refine vp_callSi (W.runV (As := [.int ((kpr C)), .int ((nI J))]) (rest := []) ⟨hx, hb, hml, hown, hts⟩ (c2_Ref_digit l dC dI cI cJ r0 0 N OU Z r1 r2 M r3 r4 r5 r6 r7 r8 PK r9 kp r10 r11 TK r12 qc r13 r14 bst r15 (kpr C) J hN (hkv C hC) hy9) (cwV 2 hts (ct_goodV mw_ml_Ref_68 mw_im_Ref_digit mw_se_Ref_digit mw_ini_Ref mw_code_Ref_digit) rfl rfl rfl (by decide +kernel) ⟨Nat.le_of_ble_eq_true rfl, Nat.le_of_ble_eq_true rfl⟩) ⟨fun a U g mk q => by obtain ⟨q0, qP, qK⟩ := q; exact ⟨q0, qP, va_K.moved (u := U) (U := U.calling g mk a) (Vm.Alike.refl U.vm) qK⟩, va_recv hK hP (ci := 8) (q0 := 0) rfl rfl, fun U hU hW => ⟨rfl, by rw [hU]; exact (hP.sub (ws' := [(r0, .inr (8, [.int 0, .int ((nI N)), .int ((nI OU)), .int ((nI Z)), .ref r1, .ref r2, .int ((nI M)), .ref r3, .ref r4, .ref r5, .ref r6, .ref r7, .ref r8, .int ((nI PK)), .ref r9, .int kp, .ref r10, .ref r11, .int ((nI TK)), .ref r12, .int qc, .ref r13, .ref r14, .int bst, .ref r15]))]) [0] rfl), va_K.moved hW.alike hK⟩⟩ rfl rfl hl.1 rfl (lv_room (Nat.le_of_ble_eq_true rfl)) d_Ref_at_74 ⟨Nat.le_of_ble_eq_true rfl, Nat.le_of_ble_eq_true rfl⟩) (fun r_1 hr_1 => ?_)
                rw [hr_1]
                clear hr_1
                refine lv_goto (tgt := 95) hx hb d_Ref_at_77 (by decide) ?_
                have hP9 := hP.sub (ws' := [(r0, .inr (8, [.int 0, .int ((nI N)), .int ((nI OU)), .int ((nI Z)), .ref r1, .ref r2, .int ((nI M)), .ref r3, .ref r4, .ref r5, .ref r6, .ref r7, .ref r8, .int ((nI PK)), .ref r9, .int kp, .ref r10, .ref r11, .int ((nI TK)), .ref r12, .int qc, .ref r13, .ref r14, .int bst, .ref r15])), (r10, .inl (cI, 81, .inl kpr)), (r11, .inl (cI, 81, .inl kot))]) [0, 1, 2] rfl
                have hD9 := hD.sub (ws' := [(r0, .inr (8, [.int 0, .int ((nI N)), .int ((nI OU)), .int ((nI Z)), .ref r1, .ref r2, .int ((nI M)), .ref r3, .ref r4, .ref r5, .ref r6, .ref r7, .ref r8, .int ((nI PK)), .ref r9, .int kp, .ref r10, .ref r11, .int ((nI TK)), .ref r12, .int qc, .ref r13, .ref r14, .int bst, .ref r15])), (r10, .inl (cI, 81, .inl kpr)), (r11, .inl (cI, 81, .inl kot))]) [0, 1, 2] (by decide) rfl
                exact W.iret (v := (nI (rDig N (kpr C).toNatClampNeg J))) hx hb hr (fun t ht hW => ⟨⟨(nI (rDig N (kpr C).toNatClampNeg J)), (), rfl, (if_neg c_63).symm, by rw [ht]; exact hP9, va_K.moved hW.alike hK, hD9⟩, hS.F ht⟩) hS.2.2 d_Ref_at_95
            · exact absurd c_53 (by decide +kernel)
  · exact absurd c_5 hk1
