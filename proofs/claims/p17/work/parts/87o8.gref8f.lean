/-! ===== the reference: at, cost, equal, value by roads ===== -/
def coR (N : Nat) (kpr kot : Nat → Int32) (k : Nat) : Int32 := itr (fun k acc => acc + rCost N (kpr k).toNatClampNeg (kot k) N) k 0
set_option maxHeartbeats 1000000 in
set_option maxRecDepth 100000 in
theorem c0_Ref_value (l : Launch) (dC : Nat → ClassId) (dI : Nat → Nat → Nat) (cI cJ : ClassId) (sz0 : Nat) (r0 : Nat) (th : Int32) (N : Nat) (OU : Nat) (Z : Nat) (r1 : Nat) (r2 : Nat) (M : Nat) (r3 : Nat) (r4 : Nat) (r5 : Nat) (r6 : Nat) (r7 : Nat) (r8 : Nat) (PK : Nat) (r9 : Nat) (kp : Int32) (r10 : Nat) (r11 : Nat) (TK : Nat) (r12 : Nat) (qc : Int32) (r13 : Nat) (r14 : Nat) (bst : Int32) (r15 : Nat) (x : Int64) (y : Int32) (hk0 : kp = 0) : Met l y_Ref_value (ct y_Ref_value b_Ref_value 4 (some .boolean)) ({ frames := 3, cells := 0, slots := 0, locals := 73 }) (va_Pc [.ref r0, .long x, .int y] (fun U => U.heap.size = sz0 ∧ va_P (dC, dI) classes [(r0, .inr (8, [.int th, .int ((nI N)), .int ((nI OU)), .int ((nI Z)), .ref r1, .ref r2, .int ((nI M)), .ref r3, .ref r4, .ref r5, .ref r6, .ref r7, .ref r8, .int ((nI PK)), .ref r9, .int kp, .ref r10, .ref r11, .int ((nI TK)), .ref r12, .int qc, .ref r13, .ref r14, .int bst, .ref r15]))] U.heap ∧ va_K (dC, dI) classes [(cI, .int), (cJ, .long)] U ∧ va_D (fun _ => True) [(r0, .inr (8, [.int th, .int ((nI N)), .int ((nI OU)), .int ((nI Z)), .ref r1, .ref r2, .int ((nI M)), .ref r3, .ref r4, .ref r5, .ref r6, .ref r7, .ref r8, .int ((nI PK)), .ref r9, .int kp, .ref r10, .ref r11, .int ((nI TK)), .ref r12, .int qc, .ref r13, .ref r14, .int bst, .ref r15]))])) (va_Qi (fun (r : Int32) (_ : Unit) => r = 0) (fun _ => at_w dC dI cI cJ (va_A [(r0, .inr (8, [.int th, .int ((nI N)), .int ((nI OU)), .int ((nI Z)), .ref r1, .ref r2, .int ((nI M)), .ref r3, .ref r4, .ref r5, .ref r6, .ref r7, .ref r8, .int ((nI PK)), .ref r9, .int kp, .ref r10, .ref r11, .int ((nI TK)), .ref r12, .int qc, .ref r13, .ref r14, .int bst, .ref r15]))] sz0) [(r0, .inr (8, [.int 1, .int ((nI N)), .int ((nI OU)), .int ((nI Z)), .ref r1, .ref r2, .int ((nI M)), .ref r3, .ref r4, .ref r5, .ref r6, .ref r7, .ref r8, .int ((nI PK)), .ref r9, .int kp, .ref r10, .ref r11, .int ((nI TK)), .ref r12, .int qc, .ref r13, .ref r14, .int bst, .ref r15]))]) (va_A [(r0, .inr (8, [.int th, .int ((nI N)), .int ((nI OU)), .int ((nI Z)), .ref r1, .ref r2, .int ((nI M)), .ref r3, .ref r4, .ref r5, .ref r6, .ref r7, .ref r8, .int ((nI PK)), .ref r9, .int kp, .ref r10, .ref r11, .int ((nI TK)), .ref r12, .int qc, .ref r13, .ref r14, .int bst, .ref r15]))] sz0)) 0 0 (va_A [(r0, .inr (8, [.int th, .int ((nI N)), .int ((nI OU)), .int ((nI Z)), .ref r1, .ref r2, .int ((nI M)), .ref r3, .ref r4, .ref r5, .ref r6, .ref r7, .ref r8, .int ((nI PK)), .ref r9, .int kp, .ref r10, .ref r11, .int ((nI TK)), .ref r12, .int qc, .ref r13, .ref r14, .int bst, .ref r15]))] sz0) := by
  refine Met.ofW (cc := b_Ref_value) (maxL := 4) (ret := some .boolean) (by decide) rfl ?_
  intro p e s m args below meth c s₁ B hml hv
  obtain ⟨rfl, hsz, hP, hK, hD0⟩ := hv
  have hx := B.exec
  have hb := B.bytes
  have hr := B.returns
  have hts : ∀ w ∈ lwg, w.before _ s = true := fun w h => atoms_spec (ws := ct y_Ref_value b_Ref_value 4 (some .boolean)) B.pre w (List.mem_cons_of_mem _ h)
  have hown : s.vm.findClass R_Ref = some m.cls := findClass_of_methodNamed B.named
  have hlocks := B.notSynchronized
  subst hsz
  have hD := hD0.self (sz := s.heap.size)
  generalize hAe : va_A [(r0, .inr (8, [.int th, .int ((nI N)), .int ((nI OU)), .int ((nI Z)), .ref r1, .ref r2, .int ((nI M)), .ref r3, .ref r4, .ref r5, .ref r6, .ref r7, .ref r8, .int ((nI PK)), .ref r9, .int kp, .ref r10, .ref r11, .int ((nI TK)), .ref r12, .int qc, .ref r13, .ref r14, .int bst, .ref r15]))] s.heap.size = A at hD ⊢
  have hA : ∀ q : Nat, s.heap.size ≤ q → A q := fun q h => by rw [← hAe]; exact Or.inr h
  have hS : va_S A s.heap s.heap [] := va_S.rf
  have hl := lv_entry ([.ref r0, .long x, .int y]) (n := 4) (Nat.le_of_ble_eq_true rfl)
  rw [lg_entry_eq]
  generalize (lg_sl ([.ref r0, .long x, .int y]) ++ List.replicate (4 - (lg_sl ([.ref r0, .long x, .int y])).length) Slot.unset).toArray = ls at hl ⊢
  have hl : lv_has ls 4 [(0, .ref r0), (1, .long x), (3, .int y)] := hl
  have hP : va_P (dC, dI) classes [(r0, .inr (8, [.int th, .int ((nI N)), .int ((nI OU)), .int ((nI Z)), .ref r1, .ref r2, .int ((nI M)), .ref r3, .ref r4, .ref r5, .ref r6, .ref r7, .ref r8, .int ((nI PK)), .ref r9, .int kp, .ref r10, .ref r11, .int ((nI TK)), .ref r12, .int qc, .ref r13, .ref r14, .int bst, .ref r15]))] s.heap := hP
  refine lv_aload_n hx hb d_Ref_value_0 rfl (lv_at hl 0 rfl) ?_
  refine lv_aload_n hx hb d_Ref_value_1 rfl (lv_at hl 0 rfl) ?_
  refine va_get (D := (dC, dI)) (ci := 8) (v := .int kp) (C := R_Ref) (T := F_Ref) (N := 25) hx hb hts i_Ref hown hK hP 0 rfl rfl 15 (by decide) (hts _ mw_fl_Ref_113) (fun _ h9 => h9) rfl d_Ref_value_2 ?_
  refine lv_if_ne (tgt := 12) hx hb d_Ref_value_5 (by decide) (fun c_5 => ?_) (fun c_5 => ?_)
  · exact absurd hk0 c_5
  · refine lv_iconst (v := 1) hx hb d_Ref_value_8 (by decide) ?_
    refine lv_goto (tgt := 51) hx hb d_Ref_value_9 (by decide) ?_
    refine va_put (D := (dC, dI)) (ci := 8) (v := .int 1) (ty := .int) (C := R_Ref) (T := F_Ref) (N := 25) hx hb hts i_Ref t_Ref t_Ref_ok n_Ref hown hK hP hD hS 0 rfl rfl 0 (by decide) (hts _ mw_fl_Ref_65) (fun _ h9 => h9) rfl (by decide +kernel) rfl rfl (Nat.le_of_ble_eq_true rfl) d_Ref_value_51 (fun H locs hP hD hS => ?_)
    have hP : va_P (dC, dI) classes [(r0, .inr (8, [.int 1, .int ((nI N)), .int ((nI OU)), .int ((nI Z)), .ref r1, .ref r2, .int ((nI M)), .ref r3, .ref r4, .ref r5, .ref r6, .ref r7, .ref r8, .int ((nI PK)), .ref r9, .int kp, .ref r10, .ref r11, .int ((nI TK)), .ref r12, .int qc, .ref r13, .ref r14, .int bst, .ref r15]))] H := hP
    have hD : va_D A [(r0, .inr (8, [.int 1, .int ((nI N)), .int ((nI OU)), .int ((nI Z)), .ref r1, .ref r2, .int ((nI M)), .ref r3, .ref r4, .ref r5, .ref r6, .ref r7, .ref r8, .int ((nI PK)), .ref r9, .int kp, .ref r10, .ref r11, .int ((nI TK)), .ref r12, .int qc, .ref r13, .ref r14, .int bst, .ref r15]))] := hD
    refine lv_aload_n hx hb d_Ref_value_54 rfl (lv_at hl 0 rfl) ?_
    refine va_get (D := (dC, dI)) (ci := 8) (v := .int 1) (C := R_Ref) (T := F_Ref) (N := 25) hx hb hts i_Ref hown hK hP 0 rfl rfl 0 (by decide) (hts _ mw_fl_Ref_65) (fun _ h9 => h9) rfl d_Ref_value_55 ?_
    refine lv_if_ne (tgt := 79) hx hb d_Ref_value_58 (by decide) (fun c_58 => ?_) (fun c_58 => ?_)
    · refine lv_iconst (v := 0) hx hb d_Ref_value_79 (by decide) ?_
      have hP9 := hP.sub (ws' := [(r0, .inr (8, [.int 1, .int ((nI N)), .int ((nI OU)), .int ((nI Z)), .ref r1, .ref r2, .int ((nI M)), .ref r3, .ref r4, .ref r5, .ref r6, .ref r7, .ref r8, .int ((nI PK)), .ref r9, .int kp, .ref r10, .ref r11, .int ((nI TK)), .ref r12, .int qc, .ref r13, .ref r14, .int bst, .ref r15]))]) [0] rfl
      have hD9 := hD.sub (ws' := [(r0, .inr (8, [.int 1, .int ((nI N)), .int ((nI OU)), .int ((nI Z)), .ref r1, .ref r2, .int ((nI M)), .ref r3, .ref r4, .ref r5, .ref r6, .ref r7, .ref r8, .int ((nI PK)), .ref r9, .int kp, .ref r10, .ref r11, .int ((nI TK)), .ref r12, .int qc, .ref r13, .ref r14, .int bst, .ref r15]))]) [0] (by decide) rfl
      exact W.zret (v := 0) hx hb hr (by decide) (fun t ht hW => ⟨⟨0, (), rfl, rfl, by rw [ht]; exact hP9, va_K.moved hW.alike hK, hD9⟩, hS.F ht⟩) hS.2.2 d_Ref_value_80
    · exact absurd c_58 (by decide +kernel)
set_option maxHeartbeats 1000000 in
set_option maxRecDepth 100000 in
theorem c1_Ref_value (l : Launch) (dC : Nat → ClassId) (dI : Nat → Nat → Nat) (cI cJ : ClassId) (sz0 : Nat) (r0 : Nat) (th : Int32) (N : Nat) (OU : Nat) (Z : Nat) (r1 : Nat) (r2 : Nat) (M : Nat) (r3 : Nat) (r4 : Nat) (r5 : Nat) (r6 : Nat) (r7 : Nat) (r8 : Nat) (PK : Nat) (r9 : Nat) (kp : Int32) (r10 : Nat) (r11 : Nat) (TK : Nat) (r12 : Nat) (qc : Int32) (r13 : Nat) (r14 : Nat) (bst : Int32) (r15 : Nat) (x : Int64) (y : Int32) (hk1 : ¬ kp = 0) (hbad : y < 0 ∨ nI OU ≤ y) : Met l y_Ref_value (ct y_Ref_value b_Ref_value 4 (some .boolean)) ({ frames := 3, cells := 0, slots := 0, locals := 73 }) (va_Pc [.ref r0, .long x, .int y] (fun U => U.heap.size = sz0 ∧ va_P (dC, dI) classes [(r0, .inr (8, [.int th, .int ((nI N)), .int ((nI OU)), .int ((nI Z)), .ref r1, .ref r2, .int ((nI M)), .ref r3, .ref r4, .ref r5, .ref r6, .ref r7, .ref r8, .int ((nI PK)), .ref r9, .int kp, .ref r10, .ref r11, .int ((nI TK)), .ref r12, .int qc, .ref r13, .ref r14, .int bst, .ref r15]))] U.heap ∧ va_K (dC, dI) classes [(cI, .int), (cJ, .long)] U ∧ va_D (fun _ => True) [(r0, .inr (8, [.int th, .int ((nI N)), .int ((nI OU)), .int ((nI Z)), .ref r1, .ref r2, .int ((nI M)), .ref r3, .ref r4, .ref r5, .ref r6, .ref r7, .ref r8, .int ((nI PK)), .ref r9, .int kp, .ref r10, .ref r11, .int ((nI TK)), .ref r12, .int qc, .ref r13, .ref r14, .int bst, .ref r15]))])) (va_Qi (fun (r : Int32) (_ : Unit) => r = 0) (fun _ => at_w dC dI cI cJ (va_A [(r0, .inr (8, [.int th, .int ((nI N)), .int ((nI OU)), .int ((nI Z)), .ref r1, .ref r2, .int ((nI M)), .ref r3, .ref r4, .ref r5, .ref r6, .ref r7, .ref r8, .int ((nI PK)), .ref r9, .int kp, .ref r10, .ref r11, .int ((nI TK)), .ref r12, .int qc, .ref r13, .ref r14, .int bst, .ref r15]))] sz0) [(r0, .inr (8, [.int 2, .int ((nI N)), .int ((nI OU)), .int ((nI Z)), .ref r1, .ref r2, .int ((nI M)), .ref r3, .ref r4, .ref r5, .ref r6, .ref r7, .ref r8, .int ((nI PK)), .ref r9, .int kp, .ref r10, .ref r11, .int ((nI TK)), .ref r12, .int qc, .ref r13, .ref r14, .int bst, .ref r15]))]) (va_A [(r0, .inr (8, [.int th, .int ((nI N)), .int ((nI OU)), .int ((nI Z)), .ref r1, .ref r2, .int ((nI M)), .ref r3, .ref r4, .ref r5, .ref r6, .ref r7, .ref r8, .int ((nI PK)), .ref r9, .int kp, .ref r10, .ref r11, .int ((nI TK)), .ref r12, .int qc, .ref r13, .ref r14, .int bst, .ref r15]))] sz0)) 0 0 (va_A [(r0, .inr (8, [.int th, .int ((nI N)), .int ((nI OU)), .int ((nI Z)), .ref r1, .ref r2, .int ((nI M)), .ref r3, .ref r4, .ref r5, .ref r6, .ref r7, .ref r8, .int ((nI PK)), .ref r9, .int kp, .ref r10, .ref r11, .int ((nI TK)), .ref r12, .int qc, .ref r13, .ref r14, .int bst, .ref r15]))] sz0) := by
  refine Met.ofW (cc := b_Ref_value) (maxL := 4) (ret := some .boolean) (by decide) rfl ?_
  intro p e s m args below meth c s₁ B hml hv
  obtain ⟨rfl, hsz, hP, hK, hD0⟩ := hv
  have hx := B.exec
  have hb := B.bytes
  have hr := B.returns
  have hts : ∀ w ∈ lwg, w.before _ s = true := fun w h => atoms_spec (ws := ct y_Ref_value b_Ref_value 4 (some .boolean)) B.pre w (List.mem_cons_of_mem _ h)
  have hown : s.vm.findClass R_Ref = some m.cls := findClass_of_methodNamed B.named
  have hlocks := B.notSynchronized
  subst hsz
  have hD := hD0.self (sz := s.heap.size)
  generalize hAe : va_A [(r0, .inr (8, [.int th, .int ((nI N)), .int ((nI OU)), .int ((nI Z)), .ref r1, .ref r2, .int ((nI M)), .ref r3, .ref r4, .ref r5, .ref r6, .ref r7, .ref r8, .int ((nI PK)), .ref r9, .int kp, .ref r10, .ref r11, .int ((nI TK)), .ref r12, .int qc, .ref r13, .ref r14, .int bst, .ref r15]))] s.heap.size = A at hD ⊢
  have hA : ∀ q : Nat, s.heap.size ≤ q → A q := fun q h => by rw [← hAe]; exact Or.inr h
  have hS : va_S A s.heap s.heap [] := va_S.rf
  have hl := lv_entry ([.ref r0, .long x, .int y]) (n := 4) (Nat.le_of_ble_eq_true rfl)
  rw [lg_entry_eq]
  generalize (lg_sl ([.ref r0, .long x, .int y]) ++ List.replicate (4 - (lg_sl ([.ref r0, .long x, .int y])).length) Slot.unset).toArray = ls at hl ⊢
  have hl : lv_has ls 4 [(0, .ref r0), (1, .long x), (3, .int y)] := hl
  have hP : va_P (dC, dI) classes [(r0, .inr (8, [.int th, .int ((nI N)), .int ((nI OU)), .int ((nI Z)), .ref r1, .ref r2, .int ((nI M)), .ref r3, .ref r4, .ref r5, .ref r6, .ref r7, .ref r8, .int ((nI PK)), .ref r9, .int kp, .ref r10, .ref r11, .int ((nI TK)), .ref r12, .int qc, .ref r13, .ref r14, .int bst, .ref r15]))] s.heap := hP
  refine lv_aload_n hx hb d_Ref_value_0 rfl (lv_at hl 0 rfl) ?_
  refine lv_aload_n hx hb d_Ref_value_1 rfl (lv_at hl 0 rfl) ?_
  refine va_get (D := (dC, dI)) (ci := 8) (v := .int kp) (C := R_Ref) (T := F_Ref) (N := 25) hx hb hts i_Ref hown hK hP 0 rfl rfl 15 (by decide) (hts _ mw_fl_Ref_113) (fun _ h9 => h9) rfl d_Ref_value_2 ?_
  refine lv_if_ne (tgt := 12) hx hb d_Ref_value_5 (by decide) (fun c_5 => ?_) (fun c_5 => ?_)
  · refine lv_iload_n hx hb d_Ref_value_12 rfl (lv_at hl 2 rfl) ?_
    refine lv_if_lt (tgt := 24) hx hb d_Ref_value_13 (by decide) (fun c_13 => ?_) (fun c_13 => ?_)
    · refine lv_iconst (v := 2) hx hb d_Ref_value_24 (by decide) ?_
      refine lv_goto (tgt := 51) hx hb d_Ref_value_25 (by decide) ?_
      refine va_put (D := (dC, dI)) (ci := 8) (v := .int 2) (ty := .int) (C := R_Ref) (T := F_Ref) (N := 25) hx hb hts i_Ref t_Ref t_Ref_ok n_Ref hown hK hP hD hS 0 rfl rfl 0 (by decide) (hts _ mw_fl_Ref_65) (fun _ h9 => h9) rfl (by decide +kernel) rfl rfl (Nat.le_of_ble_eq_true rfl) d_Ref_value_51 (fun H locs hP hD hS => ?_)
      have hP : va_P (dC, dI) classes [(r0, .inr (8, [.int 2, .int ((nI N)), .int ((nI OU)), .int ((nI Z)), .ref r1, .ref r2, .int ((nI M)), .ref r3, .ref r4, .ref r5, .ref r6, .ref r7, .ref r8, .int ((nI PK)), .ref r9, .int kp, .ref r10, .ref r11, .int ((nI TK)), .ref r12, .int qc, .ref r13, .ref r14, .int bst, .ref r15]))] H := hP
      have hD : va_D A [(r0, .inr (8, [.int 2, .int ((nI N)), .int ((nI OU)), .int ((nI Z)), .ref r1, .ref r2, .int ((nI M)), .ref r3, .ref r4, .ref r5, .ref r6, .ref r7, .ref r8, .int ((nI PK)), .ref r9, .int kp, .ref r10, .ref r11, .int ((nI TK)), .ref r12, .int qc, .ref r13, .ref r14, .int bst, .ref r15]))] := hD
      refine lv_aload_n hx hb d_Ref_value_54 rfl (lv_at hl 0 rfl) ?_
      refine va_get (D := (dC, dI)) (ci := 8) (v := .int 2) (C := R_Ref) (T := F_Ref) (N := 25) hx hb hts i_Ref hown hK hP 0 rfl rfl 0 (by decide) (hts _ mw_fl_Ref_65) (fun _ h9 => h9) rfl d_Ref_value_55 ?_
      refine lv_if_ne (tgt := 79) hx hb d_Ref_value_58 (by decide) (fun c_58 => ?_) (fun c_58 => ?_)
      · refine lv_iconst (v := 0) hx hb d_Ref_value_79 (by decide) ?_
        have hP9 := hP.sub (ws' := [(r0, .inr (8, [.int 2, .int ((nI N)), .int ((nI OU)), .int ((nI Z)), .ref r1, .ref r2, .int ((nI M)), .ref r3, .ref r4, .ref r5, .ref r6, .ref r7, .ref r8, .int ((nI PK)), .ref r9, .int kp, .ref r10, .ref r11, .int ((nI TK)), .ref r12, .int qc, .ref r13, .ref r14, .int bst, .ref r15]))]) [0] rfl
        have hD9 := hD.sub (ws' := [(r0, .inr (8, [.int 2, .int ((nI N)), .int ((nI OU)), .int ((nI Z)), .ref r1, .ref r2, .int ((nI M)), .ref r3, .ref r4, .ref r5, .ref r6, .ref r7, .ref r8, .int ((nI PK)), .ref r9, .int kp, .ref r10, .ref r11, .int ((nI TK)), .ref r12, .int qc, .ref r13, .ref r14, .int bst, .ref r15]))]) [0] (by decide) rfl
        exact W.zret (v := 0) hx hb hr (by decide) (fun t ht hW => ⟨⟨0, (), rfl, rfl, by rw [ht]; exact hP9, va_K.moved hW.alike hK, hD9⟩, hS.F ht⟩) hS.2.2 d_Ref_value_80
      · exact absurd c_58 (by decide +kernel)
    · refine lv_iload_n hx hb d_Ref_value_16 rfl (lv_at hl 2 rfl) ?_
      refine lv_aload_n hx hb d_Ref_value_17 rfl (lv_at hl 0 rfl) ?_
      refine va_get (D := (dC, dI)) (ci := 8) (v := .int ((nI OU))) (C := R_Ref) (T := F_Ref) (N := 25) hx hb hts i_Ref hown hK hP 0 rfl rfl 2 (by decide) (hts _ mw_fl_Ref_59) (fun _ h9 => h9) rfl d_Ref_value_18 ?_
      refine lv_icmp_lt (tgt := 28) hx hb d_Ref_value_21 (by decide) (fun c_21 => ?_) (fun c_21 => ?_)
      · exact (hbad.elim c_13 (fun g => absurd c_21 (Int32.not_lt.mpr g))).elim
      · refine lv_iconst (v := 2) hx hb d_Ref_value_24 (by decide) ?_
        refine lv_goto (tgt := 51) hx hb d_Ref_value_25 (by decide) ?_
        refine va_put (D := (dC, dI)) (ci := 8) (v := .int 2) (ty := .int) (C := R_Ref) (T := F_Ref) (N := 25) hx hb hts i_Ref t_Ref t_Ref_ok n_Ref hown hK hP hD hS 0 rfl rfl 0 (by decide) (hts _ mw_fl_Ref_65) (fun _ h9 => h9) rfl (by decide +kernel) rfl rfl (Nat.le_of_ble_eq_true rfl) d_Ref_value_51 (fun H locs hP hD hS => ?_)
        have hP : va_P (dC, dI) classes [(r0, .inr (8, [.int 2, .int ((nI N)), .int ((nI OU)), .int ((nI Z)), .ref r1, .ref r2, .int ((nI M)), .ref r3, .ref r4, .ref r5, .ref r6, .ref r7, .ref r8, .int ((nI PK)), .ref r9, .int kp, .ref r10, .ref r11, .int ((nI TK)), .ref r12, .int qc, .ref r13, .ref r14, .int bst, .ref r15]))] H := hP
        have hD : va_D A [(r0, .inr (8, [.int 2, .int ((nI N)), .int ((nI OU)), .int ((nI Z)), .ref r1, .ref r2, .int ((nI M)), .ref r3, .ref r4, .ref r5, .ref r6, .ref r7, .ref r8, .int ((nI PK)), .ref r9, .int kp, .ref r10, .ref r11, .int ((nI TK)), .ref r12, .int qc, .ref r13, .ref r14, .int bst, .ref r15]))] := hD
        refine lv_aload_n hx hb d_Ref_value_54 rfl (lv_at hl 0 rfl) ?_
        refine va_get (D := (dC, dI)) (ci := 8) (v := .int 2) (C := R_Ref) (T := F_Ref) (N := 25) hx hb hts i_Ref hown hK hP 0 rfl rfl 0 (by decide) (hts _ mw_fl_Ref_65) (fun _ h9 => h9) rfl d_Ref_value_55 ?_
        refine lv_if_ne (tgt := 79) hx hb d_Ref_value_58 (by decide) (fun c_58 => ?_) (fun c_58 => ?_)
        · refine lv_iconst (v := 0) hx hb d_Ref_value_79 (by decide) ?_
          have hP9 := hP.sub (ws' := [(r0, .inr (8, [.int 2, .int ((nI N)), .int ((nI OU)), .int ((nI Z)), .ref r1, .ref r2, .int ((nI M)), .ref r3, .ref r4, .ref r5, .ref r6, .ref r7, .ref r8, .int ((nI PK)), .ref r9, .int kp, .ref r10, .ref r11, .int ((nI TK)), .ref r12, .int qc, .ref r13, .ref r14, .int bst, .ref r15]))]) [0] rfl
          have hD9 := hD.sub (ws' := [(r0, .inr (8, [.int 2, .int ((nI N)), .int ((nI OU)), .int ((nI Z)), .ref r1, .ref r2, .int ((nI M)), .ref r3, .ref r4, .ref r5, .ref r6, .ref r7, .ref r8, .int ((nI PK)), .ref r9, .int kp, .ref r10, .ref r11, .int ((nI TK)), .ref r12, .int qc, .ref r13, .ref r14, .int bst, .ref r15]))]) [0] (by decide) rfl
          exact W.zret (v := 0) hx hb hr (by decide) (fun t ht hW => ⟨⟨0, (), rfl, rfl, by rw [ht]; exact hP9, va_K.moved hW.alike hK, hD9⟩, hS.F ht⟩) hS.2.2 d_Ref_value_80
        · exact absurd c_58 (by decide +kernel)
  · exact absurd c_5 hk1
set_option maxHeartbeats 1000000 in
set_option maxRecDepth 100000 in
theorem c2_Ref_value (l : Launch) (dC : Nat → ClassId) (dI : Nat → Nat → Nat) (cI cJ : ClassId) (sz0 : Nat) (r0 : Nat) (th : Int32) (N : Nat) (OU : Nat) (Z : Nat) (r1 : Nat) (r2 : Nat) (M : Nat) (r3 : Nat) (r4 : Nat) (r5 : Nat) (r6 : Nat) (r7 : Nat) (r8 : Nat) (PK : Nat) (r9 : Nat) (kp : Int32) (r10 : Nat) (r11 : Nat) (TK : Nat) (r12 : Nat) (qc : Int32) (r13 : Nat) (r14 : Nat) (bst : Int32) (r15 : Nat) (x : Int64) (J : Nat) (hk1 : ¬ kp = 0) (hOU : OU ≤ 2) (hJ : J < OU) (hbad : x < 0 ∨ ((1 : Int32) <<< (nI N &&& 31)).toInt64 ≤ x) : Met l y_Ref_value (ct y_Ref_value b_Ref_value 4 (some .boolean)) ({ frames := 3, cells := 0, slots := 0, locals := 73 }) (va_Pc [.ref r0, .long x, .int ((nI J))] (fun U => U.heap.size = sz0 ∧ va_P (dC, dI) classes [(r0, .inr (8, [.int th, .int ((nI N)), .int ((nI OU)), .int ((nI Z)), .ref r1, .ref r2, .int ((nI M)), .ref r3, .ref r4, .ref r5, .ref r6, .ref r7, .ref r8, .int ((nI PK)), .ref r9, .int kp, .ref r10, .ref r11, .int ((nI TK)), .ref r12, .int qc, .ref r13, .ref r14, .int bst, .ref r15]))] U.heap ∧ va_K (dC, dI) classes [(cI, .int), (cJ, .long)] U ∧ va_D (fun _ => True) [(r0, .inr (8, [.int th, .int ((nI N)), .int ((nI OU)), .int ((nI Z)), .ref r1, .ref r2, .int ((nI M)), .ref r3, .ref r4, .ref r5, .ref r6, .ref r7, .ref r8, .int ((nI PK)), .ref r9, .int kp, .ref r10, .ref r11, .int ((nI TK)), .ref r12, .int qc, .ref r13, .ref r14, .int bst, .ref r15]))])) (va_Qi (fun (r : Int32) (_ : Unit) => r = 0) (fun _ => at_w dC dI cI cJ (va_A [(r0, .inr (8, [.int th, .int ((nI N)), .int ((nI OU)), .int ((nI Z)), .ref r1, .ref r2, .int ((nI M)), .ref r3, .ref r4, .ref r5, .ref r6, .ref r7, .ref r8, .int ((nI PK)), .ref r9, .int kp, .ref r10, .ref r11, .int ((nI TK)), .ref r12, .int qc, .ref r13, .ref r14, .int bst, .ref r15]))] sz0) [(r0, .inr (8, [.int 3, .int ((nI N)), .int ((nI OU)), .int ((nI Z)), .ref r1, .ref r2, .int ((nI M)), .ref r3, .ref r4, .ref r5, .ref r6, .ref r7, .ref r8, .int ((nI PK)), .ref r9, .int kp, .ref r10, .ref r11, .int ((nI TK)), .ref r12, .int qc, .ref r13, .ref r14, .int bst, .ref r15]))]) (va_A [(r0, .inr (8, [.int th, .int ((nI N)), .int ((nI OU)), .int ((nI Z)), .ref r1, .ref r2, .int ((nI M)), .ref r3, .ref r4, .ref r5, .ref r6, .ref r7, .ref r8, .int ((nI PK)), .ref r9, .int kp, .ref r10, .ref r11, .int ((nI TK)), .ref r12, .int qc, .ref r13, .ref r14, .int bst, .ref r15]))] sz0)) 0 0 (va_A [(r0, .inr (8, [.int th, .int ((nI N)), .int ((nI OU)), .int ((nI Z)), .ref r1, .ref r2, .int ((nI M)), .ref r3, .ref r4, .ref r5, .ref r6, .ref r7, .ref r8, .int ((nI PK)), .ref r9, .int kp, .ref r10, .ref r11, .int ((nI TK)), .ref r12, .int qc, .ref r13, .ref r14, .int bst, .ref r15]))] sz0) := by
  refine Met.ofW (cc := b_Ref_value) (maxL := 4) (ret := some .boolean) (by decide) rfl ?_
  intro p e s m args below meth c s₁ B hml hv
  obtain ⟨rfl, hsz, hP, hK, hD0⟩ := hv
  have hx := B.exec
  have hb := B.bytes
  have hr := B.returns
  have hts : ∀ w ∈ lwg, w.before _ s = true := fun w h => atoms_spec (ws := ct y_Ref_value b_Ref_value 4 (some .boolean)) B.pre w (List.mem_cons_of_mem _ h)
  have hown : s.vm.findClass R_Ref = some m.cls := findClass_of_methodNamed B.named
  have hlocks := B.notSynchronized
  subst hsz
  have hD := hD0.self (sz := s.heap.size)
  generalize hAe : va_A [(r0, .inr (8, [.int th, .int ((nI N)), .int ((nI OU)), .int ((nI Z)), .ref r1, .ref r2, .int ((nI M)), .ref r3, .ref r4, .ref r5, .ref r6, .ref r7, .ref r8, .int ((nI PK)), .ref r9, .int kp, .ref r10, .ref r11, .int ((nI TK)), .ref r12, .int qc, .ref r13, .ref r14, .int bst, .ref r15]))] s.heap.size = A at hD ⊢
  have hA : ∀ q : Nat, s.heap.size ≤ q → A q := fun q h => by rw [← hAe]; exact Or.inr h
  have hS : va_S A s.heap s.heap [] := va_S.rf
  have hl := lv_entry ([.ref r0, .long x, .int ((nI J))]) (n := 4) (Nat.le_of_ble_eq_true rfl)
  rw [lg_entry_eq]
  generalize (lg_sl ([.ref r0, .long x, .int ((nI J))]) ++ List.replicate (4 - (lg_sl ([.ref r0, .long x, .int ((nI J))])).length) Slot.unset).toArray = ls at hl ⊢
  have hl : lv_has ls 4 [(0, .ref r0), (1, .long x), (3, .int ((nI J)))] := hl
  have hP : va_P (dC, dI) classes [(r0, .inr (8, [.int th, .int ((nI N)), .int ((nI OU)), .int ((nI Z)), .ref r1, .ref r2, .int ((nI M)), .ref r3, .ref r4, .ref r5, .ref r6, .ref r7, .ref r8, .int ((nI PK)), .ref r9, .int kp, .ref r10, .ref r11, .int ((nI TK)), .ref r12, .int qc, .ref r13, .ref r14, .int bst, .ref r15]))] s.heap := hP
  refine lv_aload_n hx hb d_Ref_value_0 rfl (lv_at hl 0 rfl) ?_
  refine lv_aload_n hx hb d_Ref_value_1 rfl (lv_at hl 0 rfl) ?_
  refine va_get (D := (dC, dI)) (ci := 8) (v := .int kp) (C := R_Ref) (T := F_Ref) (N := 25) hx hb hts i_Ref hown hK hP 0 rfl rfl 15 (by decide) (hts _ mw_fl_Ref_113) (fun _ h9 => h9) rfl d_Ref_value_2 ?_
  refine lv_if_ne (tgt := 12) hx hb d_Ref_value_5 (by decide) (fun c_5 => ?_) (fun c_5 => ?_)
  · refine lv_iload_n hx hb d_Ref_value_12 rfl (lv_at hl 2 rfl) ?_
    refine lv_if_lt (tgt := 24) hx hb d_Ref_value_13 (by decide) (fun c_13 => ?_) (fun c_13 => ?_)
    · exact absurd c_13 (nI_pos (by omega))
    · refine lv_iload_n hx hb d_Ref_value_16 rfl (lv_at hl 2 rfl) ?_
      refine lv_aload_n hx hb d_Ref_value_17 rfl (lv_at hl 0 rfl) ?_
      refine va_get (D := (dC, dI)) (ci := 8) (v := .int ((nI OU))) (C := R_Ref) (T := F_Ref) (N := 25) hx hb hts i_Ref hown hK hP 0 rfl rfl 2 (by decide) (hts _ mw_fl_Ref_59) (fun _ h9 => h9) rfl d_Ref_value_18 ?_
      refine lv_icmp_lt (tgt := 28) hx hb d_Ref_value_21 (by decide) (fun c_21 => ?_) (fun c_21 => ?_)
      · refine lv_lload_n hx hb d_Ref_value_28 rfl (lv_at hl 1 rfl) ?_
        refine lv_lconst (v := 0) hx hb d_Ref_value_29 (by decide) ?_
        refine W.lcmp hx hb d_Ref_value_30 ?_
        refine lv_if_lt (tgt := 46) hx hb d_Ref_value_31 (by decide) (fun c_31 => ?_) (fun c_31 => ?_)
        · refine lv_iconst (v := 3) hx hb d_Ref_value_46 (by decide) ?_
          refine lv_goto (tgt := 51) hx hb d_Ref_value_47 (by decide) ?_
          refine va_put (D := (dC, dI)) (ci := 8) (v := .int 3) (ty := .int) (C := R_Ref) (T := F_Ref) (N := 25) hx hb hts i_Ref t_Ref t_Ref_ok n_Ref hown hK hP hD hS 0 rfl rfl 0 (by decide) (hts _ mw_fl_Ref_65) (fun _ h9 => h9) rfl (by decide +kernel) rfl rfl (Nat.le_of_ble_eq_true rfl) d_Ref_value_51 (fun H locs hP hD hS => ?_)
          have hP : va_P (dC, dI) classes [(r0, .inr (8, [.int 3, .int ((nI N)), .int ((nI OU)), .int ((nI Z)), .ref r1, .ref r2, .int ((nI M)), .ref r3, .ref r4, .ref r5, .ref r6, .ref r7, .ref r8, .int ((nI PK)), .ref r9, .int kp, .ref r10, .ref r11, .int ((nI TK)), .ref r12, .int qc, .ref r13, .ref r14, .int bst, .ref r15]))] H := hP
          have hD : va_D A [(r0, .inr (8, [.int 3, .int ((nI N)), .int ((nI OU)), .int ((nI Z)), .ref r1, .ref r2, .int ((nI M)), .ref r3, .ref r4, .ref r5, .ref r6, .ref r7, .ref r8, .int ((nI PK)), .ref r9, .int kp, .ref r10, .ref r11, .int ((nI TK)), .ref r12, .int qc, .ref r13, .ref r14, .int bst, .ref r15]))] := hD
          refine lv_aload_n hx hb d_Ref_value_54 rfl (lv_at hl 0 rfl) ?_
          refine va_get (D := (dC, dI)) (ci := 8) (v := .int 3) (C := R_Ref) (T := F_Ref) (N := 25) hx hb hts i_Ref hown hK hP 0 rfl rfl 0 (by decide) (hts _ mw_fl_Ref_65) (fun _ h9 => h9) rfl d_Ref_value_55 ?_
          refine lv_if_ne (tgt := 79) hx hb d_Ref_value_58 (by decide) (fun c_58 => ?_) (fun c_58 => ?_)
          · refine lv_iconst (v := 0) hx hb d_Ref_value_79 (by decide) ?_
            have hP9 := hP.sub (ws' := [(r0, .inr (8, [.int 3, .int ((nI N)), .int ((nI OU)), .int ((nI Z)), .ref r1, .ref r2, .int ((nI M)), .ref r3, .ref r4, .ref r5, .ref r6, .ref r7, .ref r8, .int ((nI PK)), .ref r9, .int kp, .ref r10, .ref r11, .int ((nI TK)), .ref r12, .int qc, .ref r13, .ref r14, .int bst, .ref r15]))]) [0] rfl
            have hD9 := hD.sub (ws' := [(r0, .inr (8, [.int 3, .int ((nI N)), .int ((nI OU)), .int ((nI Z)), .ref r1, .ref r2, .int ((nI M)), .ref r3, .ref r4, .ref r5, .ref r6, .ref r7, .ref r8, .int ((nI PK)), .ref r9, .int kp, .ref r10, .ref r11, .int ((nI TK)), .ref r12, .int qc, .ref r13, .ref r14, .int bst, .ref r15]))]) [0] (by decide) rfl
            exact W.zret (v := 0) hx hb hr (by decide) (fun t ht hW => ⟨⟨0, (), rfl, rfl, by rw [ht]; exact hP9, va_K.moved hW.alike hK, hD9⟩, hS.F ht⟩) hS.2.2 d_Ref_value_80
          · exact absurd c_58 (by decide +kernel)
        · refine lv_lload_n hx hb d_Ref_value_34 rfl (lv_at hl 1 rfl) ?_
          refine lv_iconst (v := 1) hx hb d_Ref_value_35 (by decide) ?_
          refine lv_aload_n hx hb d_Ref_value_36 rfl (lv_at hl 0 rfl) ?_
          refine va_get (D := (dC, dI)) (ci := 8) (v := .int ((nI N))) (C := R_Ref) (T := F_Ref) (N := 25) hx hb hts i_Ref hown hK hP 0 rfl rfl 1 (by decide) (hts _ mw_fl_Ref_55) (fun _ h9 => h9) rfl d_Ref_value_37 ?_
          refine lv_ishl hx hb d_Ref_value_40 ?_
          refine lv_i2l hx hb d_Ref_value_41 rfl ?_
          refine W.lcmp hx hb d_Ref_value_42 ?_
          refine lv_if_lt (tgt := 50) hx hb d_Ref_value_43 (by decide) (fun c_43 => ?_) (fun c_43 => ?_)
          · exact absurd hbad (by rintro (g | g); exact c_31 (n2m (fun q => absurd g (Int64.not_lt.mpr q))); exact absurd c_43 (Int32.not_lt.mpr ((lg_ge _ _).mpr g)))
          · refine lv_iconst (v := 3) hx hb d_Ref_value_46 (by decide) ?_
            refine lv_goto (tgt := 51) hx hb d_Ref_value_47 (by decide) ?_
            refine va_put (D := (dC, dI)) (ci := 8) (v := .int 3) (ty := .int) (C := R_Ref) (T := F_Ref) (N := 25) hx hb hts i_Ref t_Ref t_Ref_ok n_Ref hown hK hP hD hS 0 rfl rfl 0 (by decide) (hts _ mw_fl_Ref_65) (fun _ h9 => h9) rfl (by decide +kernel) rfl rfl (Nat.le_of_ble_eq_true rfl) d_Ref_value_51 (fun H locs hP hD hS => ?_)
            have hP : va_P (dC, dI) classes [(r0, .inr (8, [.int 3, .int ((nI N)), .int ((nI OU)), .int ((nI Z)), .ref r1, .ref r2, .int ((nI M)), .ref r3, .ref r4, .ref r5, .ref r6, .ref r7, .ref r8, .int ((nI PK)), .ref r9, .int kp, .ref r10, .ref r11, .int ((nI TK)), .ref r12, .int qc, .ref r13, .ref r14, .int bst, .ref r15]))] H := hP
            have hD : va_D A [(r0, .inr (8, [.int 3, .int ((nI N)), .int ((nI OU)), .int ((nI Z)), .ref r1, .ref r2, .int ((nI M)), .ref r3, .ref r4, .ref r5, .ref r6, .ref r7, .ref r8, .int ((nI PK)), .ref r9, .int kp, .ref r10, .ref r11, .int ((nI TK)), .ref r12, .int qc, .ref r13, .ref r14, .int bst, .ref r15]))] := hD
            refine lv_aload_n hx hb d_Ref_value_54 rfl (lv_at hl 0 rfl) ?_
            refine va_get (D := (dC, dI)) (ci := 8) (v := .int 3) (C := R_Ref) (T := F_Ref) (N := 25) hx hb hts i_Ref hown hK hP 0 rfl rfl 0 (by decide) (hts _ mw_fl_Ref_65) (fun _ h9 => h9) rfl d_Ref_value_55 ?_
            refine lv_if_ne (tgt := 79) hx hb d_Ref_value_58 (by decide) (fun c_58 => ?_) (fun c_58 => ?_)
            · refine lv_iconst (v := 0) hx hb d_Ref_value_79 (by decide) ?_
              have hP9 := hP.sub (ws' := [(r0, .inr (8, [.int 3, .int ((nI N)), .int ((nI OU)), .int ((nI Z)), .ref r1, .ref r2, .int ((nI M)), .ref r3, .ref r4, .ref r5, .ref r6, .ref r7, .ref r8, .int ((nI PK)), .ref r9, .int kp, .ref r10, .ref r11, .int ((nI TK)), .ref r12, .int qc, .ref r13, .ref r14, .int bst, .ref r15]))]) [0] rfl
              have hD9 := hD.sub (ws' := [(r0, .inr (8, [.int 3, .int ((nI N)), .int ((nI OU)), .int ((nI Z)), .ref r1, .ref r2, .int ((nI M)), .ref r3, .ref r4, .ref r5, .ref r6, .ref r7, .ref r8, .int ((nI PK)), .ref r9, .int kp, .ref r10, .ref r11, .int ((nI TK)), .ref r12, .int qc, .ref r13, .ref r14, .int bst, .ref r15]))]) [0] (by decide) rfl
              exact W.zret (v := 0) hx hb hr (by decide) (fun t ht hW => ⟨⟨0, (), rfl, rfl, by rw [ht]; exact hP9, va_K.moved hW.alike hK, hD9⟩, hS.F ht⟩) hS.2.2 d_Ref_value_80
            · exact absurd c_58 (by decide +kernel)
      · exact absurd ((nI_ltI (a := J) (b := OU) (by omega) (by omega)).mpr hJ) c_21
  · exact absurd c_5 hk1
set_option maxHeartbeats 1000000 in
set_option maxRecDepth 100000 in
theorem c3_Ref_value (l : Launch) (dC : Nat → ClassId) (dI : Nat → Nat → Nat) (cI cJ : ClassId) (sz0 : Nat) (r0 : Nat) (th : Int32) (N : Nat) (OU : Nat) (Z : Nat) (r1 : Nat) (r2 : Nat) (M : Nat) (r3 : Nat) (r4 : Nat) (r5 : Nat) (r6 : Nat) (r7 : Nat) (r8 : Nat) (PK : Nat) (r9 : Nat) (kp : Int32) (r10 : Nat) (r11 : Nat) (TK : Nat) (r12 : Nat) (qc : Int32) (r13 : Nat) (r14 : Nat) (bst : Int32) (r15 : Nat) (kpr : Nat → Int32) (kot : Nat → Int32) (x : Int64) (J : Nat) (hk1 : ¬ kp = 0) (hN : N ≤ 4) (hOU : OU ≤ 2) (hTK : TK ≤ 81) (hkv : ∀ k, k < TK → vp_in (kpr k) 81) (hJ : J < OU) (hx0 : ¬ x < 0) (hx1 : x < ((1 : Int32) <<< (nI N &&& 31)).toInt64) : Met l y_Ref_value (ct y_Ref_value b_Ref_value 4 (some .boolean)) ({ frames := 3, cells := 0, slots := 0, locals := 73 }) (va_Pc [.ref r0, .long x, .int ((nI J))] (fun U => U.heap.size = sz0 ∧ va_P (dC, dI) classes [(r0, .inr (8, [.int th, .int ((nI N)), .int ((nI OU)), .int ((nI Z)), .ref r1, .ref r2, .int ((nI M)), .ref r3, .ref r4, .ref r5, .ref r6, .ref r7, .ref r8, .int ((nI PK)), .ref r9, .int kp, .ref r10, .ref r11, .int ((nI TK)), .ref r12, .int qc, .ref r13, .ref r14, .int bst, .ref r15])), (r10, .inl (cI, 81, .inl kpr)), (r11, .inl (cI, 81, .inl kot))] U.heap ∧ va_K (dC, dI) classes [(cI, .int), (cJ, .long)] U ∧ va_D (fun _ => True) [(r0, .inr (8, [.int th, .int ((nI N)), .int ((nI OU)), .int ((nI Z)), .ref r1, .ref r2, .int ((nI M)), .ref r3, .ref r4, .ref r5, .ref r6, .ref r7, .ref r8, .int ((nI PK)), .ref r9, .int kp, .ref r10, .ref r11, .int ((nI TK)), .ref r12, .int qc, .ref r13, .ref r14, .int bst, .ref r15])), (r10, .inl (cI, 81, .inl kpr)), (r11, .inl (cI, 81, .inl kot))])) (va_Qi (fun (r : Int32) (_ : Unit) => r = if (rKept kpr kot N (2 ^ N) (nI J) TK >>> (x.toInt32 &&& 31)) &&& 1 = 1 then 1 else 0) (fun _ => at_w dC dI cI cJ (va_A [(r0, .inr (8, [.int th, .int ((nI N)), .int ((nI OU)), .int ((nI Z)), .ref r1, .ref r2, .int ((nI M)), .ref r3, .ref r4, .ref r5, .ref r6, .ref r7, .ref r8, .int ((nI PK)), .ref r9, .int kp, .ref r10, .ref r11, .int ((nI TK)), .ref r12, .int qc, .ref r13, .ref r14, .int bst, .ref r15])), (r10, .inl (cI, 81, .inl kpr)), (r11, .inl (cI, 81, .inl kot))] sz0) [(r0, .inr (8, [.int 0, .int ((nI N)), .int ((nI OU)), .int ((nI Z)), .ref r1, .ref r2, .int ((nI M)), .ref r3, .ref r4, .ref r5, .ref r6, .ref r7, .ref r8, .int ((nI PK)), .ref r9, .int kp, .ref r10, .ref r11, .int ((nI TK)), .ref r12, .int qc, .ref r13, .ref r14, .int bst, .ref r15])), (r10, .inl (cI, 81, .inl kpr)), (r11, .inl (cI, 81, .inl kot))]) (va_A [(r0, .inr (8, [.int th, .int ((nI N)), .int ((nI OU)), .int ((nI Z)), .ref r1, .ref r2, .int ((nI M)), .ref r3, .ref r4, .ref r5, .ref r6, .ref r7, .ref r8, .int ((nI PK)), .ref r9, .int kp, .ref r10, .ref r11, .int ((nI TK)), .ref r12, .int qc, .ref r13, .ref r14, .int bst, .ref r15])), (r10, .inl (cI, 81, .inl kpr)), (r11, .inl (cI, 81, .inl kot))] sz0)) 0 0 (va_A [(r0, .inr (8, [.int th, .int ((nI N)), .int ((nI OU)), .int ((nI Z)), .ref r1, .ref r2, .int ((nI M)), .ref r3, .ref r4, .ref r5, .ref r6, .ref r7, .ref r8, .int ((nI PK)), .ref r9, .int kp, .ref r10, .ref r11, .int ((nI TK)), .ref r12, .int qc, .ref r13, .ref r14, .int bst, .ref r15])), (r10, .inl (cI, 81, .inl kpr)), (r11, .inl (cI, 81, .inl kot))] sz0) := by
  refine Met.ofW (cc := b_Ref_value) (maxL := 4) (ret := some .boolean) (by decide) rfl ?_
  intro p e s m args below meth c s₁ B hml hv
  obtain ⟨rfl, hsz, hP, hK, hD0⟩ := hv
  have hx := B.exec
  have hb := B.bytes
  have hr := B.returns
  have hts : ∀ w ∈ lwg, w.before _ s = true := fun w h => atoms_spec (ws := ct y_Ref_value b_Ref_value 4 (some .boolean)) B.pre w (List.mem_cons_of_mem _ h)
  have hown : s.vm.findClass R_Ref = some m.cls := findClass_of_methodNamed B.named
  have hlocks := B.notSynchronized
  subst hsz
  have hD := hD0.self (sz := s.heap.size)
  generalize hAe : va_A [(r0, .inr (8, [.int th, .int ((nI N)), .int ((nI OU)), .int ((nI Z)), .ref r1, .ref r2, .int ((nI M)), .ref r3, .ref r4, .ref r5, .ref r6, .ref r7, .ref r8, .int ((nI PK)), .ref r9, .int kp, .ref r10, .ref r11, .int ((nI TK)), .ref r12, .int qc, .ref r13, .ref r14, .int bst, .ref r15])), (r10, .inl (cI, 81, .inl kpr)), (r11, .inl (cI, 81, .inl kot))] s.heap.size = A at hD ⊢
  have hA : ∀ q : Nat, s.heap.size ≤ q → A q := fun q h => by rw [← hAe]; exact Or.inr h
  have hS : va_S A s.heap s.heap [] := va_S.rf
  have hl := lv_entry ([.ref r0, .long x, .int ((nI J))]) (n := 4) (Nat.le_of_ble_eq_true rfl)
  rw [lg_entry_eq]
  generalize (lg_sl ([.ref r0, .long x, .int ((nI J))]) ++ List.replicate (4 - (lg_sl ([.ref r0, .long x, .int ((nI J))])).length) Slot.unset).toArray = ls at hl ⊢
  have hl : lv_has ls 4 [(0, .ref r0), (1, .long x), (3, .int ((nI J)))] := hl
  have hP : va_P (dC, dI) classes [(r0, .inr (8, [.int th, .int ((nI N)), .int ((nI OU)), .int ((nI Z)), .ref r1, .ref r2, .int ((nI M)), .ref r3, .ref r4, .ref r5, .ref r6, .ref r7, .ref r8, .int ((nI PK)), .ref r9, .int kp, .ref r10, .ref r11, .int ((nI TK)), .ref r12, .int qc, .ref r13, .ref r14, .int bst, .ref r15])), (r10, .inl (cI, 81, .inl kpr)), (r11, .inl (cI, 81, .inl kot))] s.heap := hP
  refine lv_aload_n hx hb d_Ref_value_0 rfl (lv_at hl 0 rfl) ?_
  refine lv_aload_n hx hb d_Ref_value_1 rfl (lv_at hl 0 rfl) ?_
  refine va_get (D := (dC, dI)) (ci := 8) (v := .int kp) (C := R_Ref) (T := F_Ref) (N := 25) hx hb hts i_Ref hown hK hP 0 rfl rfl 15 (by decide) (hts _ mw_fl_Ref_113) (fun _ h9 => h9) rfl d_Ref_value_2 ?_
  refine lv_if_ne (tgt := 12) hx hb d_Ref_value_5 (by decide) (fun c_5 => ?_) (fun c_5 => ?_)
  · refine lv_iload_n hx hb d_Ref_value_12 rfl (lv_at hl 2 rfl) ?_
    refine lv_if_lt (tgt := 24) hx hb d_Ref_value_13 (by decide) (fun c_13 => ?_) (fun c_13 => ?_)
    · exact absurd c_13 (nI_pos (by omega))
    · refine lv_iload_n hx hb d_Ref_value_16 rfl (lv_at hl 2 rfl) ?_
      refine lv_aload_n hx hb d_Ref_value_17 rfl (lv_at hl 0 rfl) ?_
      refine va_get (D := (dC, dI)) (ci := 8) (v := .int ((nI OU))) (C := R_Ref) (T := F_Ref) (N := 25) hx hb hts i_Ref hown hK hP 0 rfl rfl 2 (by decide) (hts _ mw_fl_Ref_59) (fun _ h9 => h9) rfl d_Ref_value_18 ?_
      refine lv_icmp_lt (tgt := 28) hx hb d_Ref_value_21 (by decide) (fun c_21 => ?_) (fun c_21 => ?_)
      · refine lv_lload_n hx hb d_Ref_value_28 rfl (lv_at hl 1 rfl) ?_
        refine lv_lconst (v := 0) hx hb d_Ref_value_29 (by decide) ?_
        refine W.lcmp hx hb d_Ref_value_30 ?_
        refine lv_if_lt (tgt := 46) hx hb d_Ref_value_31 (by decide) (fun c_31 => ?_) (fun c_31 => ?_)
        · exact absurd c_31 (Int32.not_lt.mpr ((lg_ge x 0).mpr (Int64.not_lt.mp hx0)))
        · refine lv_lload_n hx hb d_Ref_value_34 rfl (lv_at hl 1 rfl) ?_
          refine lv_iconst (v := 1) hx hb d_Ref_value_35 (by decide) ?_
          refine lv_aload_n hx hb d_Ref_value_36 rfl (lv_at hl 0 rfl) ?_
          refine va_get (D := (dC, dI)) (ci := 8) (v := .int ((nI N))) (C := R_Ref) (T := F_Ref) (N := 25) hx hb hts i_Ref hown hK hP 0 rfl rfl 1 (by decide) (hts _ mw_fl_Ref_55) (fun _ h9 => h9) rfl d_Ref_value_37 ?_
          refine lv_ishl hx hb d_Ref_value_40 ?_
          refine lv_i2l hx hb d_Ref_value_41 rfl ?_
          refine W.lcmp hx hb d_Ref_value_42 ?_
          refine lv_if_lt (tgt := 50) hx hb d_Ref_value_43 (by decide) (fun c_43 => ?_) (fun c_43 => ?_)
          · refine lv_iconst (v := 0) hx hb d_Ref_value_50 (by decide) ?_
            refine va_put (D := (dC, dI)) (ci := 8) (v := .int 0) (ty := .int) (C := R_Ref) (T := F_Ref) (N := 25) hx hb hts i_Ref t_Ref t_Ref_ok n_Ref hown hK hP hD hS 0 rfl rfl 0 (by decide) (hts _ mw_fl_Ref_65) (fun _ h9 => h9) rfl (by decide +kernel) rfl rfl (Nat.le_of_ble_eq_true rfl) d_Ref_value_51 (fun H locs hP hD hS => ?_)
            have hP : va_P (dC, dI) classes [(r0, .inr (8, [.int 0, .int ((nI N)), .int ((nI OU)), .int ((nI Z)), .ref r1, .ref r2, .int ((nI M)), .ref r3, .ref r4, .ref r5, .ref r6, .ref r7, .ref r8, .int ((nI PK)), .ref r9, .int kp, .ref r10, .ref r11, .int ((nI TK)), .ref r12, .int qc, .ref r13, .ref r14, .int bst, .ref r15])), (r10, .inl (cI, 81, .inl kpr)), (r11, .inl (cI, 81, .inl kot))] H := hP
            have hD : va_D A [(r0, .inr (8, [.int 0, .int ((nI N)), .int ((nI OU)), .int ((nI Z)), .ref r1, .ref r2, .int ((nI M)), .ref r3, .ref r4, .ref r5, .ref r6, .ref r7, .ref r8, .int ((nI PK)), .ref r9, .int kp, .ref r10, .ref r11, .int ((nI TK)), .ref r12, .int qc, .ref r13, .ref r14, .int bst, .ref r15])), (r10, .inl (cI, 81, .inl kpr)), (r11, .inl (cI, 81, .inl kot))] := hD
            refine lv_aload_n hx hb d_Ref_value_54 rfl (lv_at hl 0 rfl) ?_
            refine va_get (D := (dC, dI)) (ci := 8) (v := .int 0) (C := R_Ref) (T := F_Ref) (N := 25) hx hb hts i_Ref hown hK hP 0 rfl rfl 0 (by decide) (hts _ mw_fl_Ref_65) (fun _ h9 => h9) rfl d_Ref_value_55 ?_
            refine lv_if_ne (tgt := 79) hx hb d_Ref_value_58 (by decide) (fun c_58 => ?_) (fun c_58 => ?_)
            · exact absurd c_58 (by decide +kernel)
            · refine lv_aload_n hx hb d_Ref_value_61 rfl (lv_at hl 0 rfl) ?_
              refine lv_iload_n hx hb d_Ref_value_62 rfl (lv_at hl 2 rfl) ?_
              refine vp_callSi (W.runV (As := [.int ((nI J))]) (rest := []) ⟨hx, hb, hml, hown, hts⟩ (c_Ref_keptPoints l dC dI cI cJ r0 0 N OU Z r1 r2 M r3 r4 r5 r6 r7 r8 PK r9 kp r10 r11 TK r12 qc r13 r14 bst r15 kpr kot ((2 ^ N)) (nI J) hN hTK hkv (pw_ok hN)) (cwV 1 hts (ct_goodV mw_ml_Ref_120 mw_im_Ref_keptPoints mw_se_Ref_keptPoints mw_ini_Ref mw_code_Ref_keptPoints) rfl rfl rfl (by decide +kernel) ⟨Nat.le_of_ble_eq_true rfl, Nat.le_of_ble_eq_true rfl⟩) ⟨fun a U g mk q => by obtain ⟨q0, qP, qK⟩ := q; exact ⟨q0, qP, va_K.moved (u := U) (U := U.calling g mk a) (Vm.Alike.refl U.vm) qK⟩, va_recv hK hP (ci := 8) (q0 := 0) rfl rfl, fun U hU hW => ⟨rfl, by rw [hU]; exact hP, va_K.moved hW.alike hK⟩⟩ rfl rfl hl.1 rfl (lv_room (Nat.le_of_ble_eq_true rfl)) d_Ref_value_63 ⟨Nat.le_of_ble_eq_true rfl, Nat.le_of_ble_eq_true rfl⟩) (fun r_1 hr_1 => ?_)
              rw [hr_1]
              clear hr_1
              refine lv_lload_n hx hb d_Ref_value_66 rfl (lv_at hl 1 rfl) ?_
              refine lv_l2i hx hb d_Ref_value_67 rfl ?_
              refine lv_ishr hx hb d_Ref_value_68 ?_
              refine lv_iconst (v := 1) hx hb d_Ref_value_69 (by decide) ?_
              refine lv_iand hx hb d_Ref_value_70 ?_
              refine lv_iconst (v := 1) hx hb d_Ref_value_71 (by decide) ?_
              refine lv_icmp_ne (tgt := 79) hx hb d_Ref_value_72 (by decide) (fun c_72 => ?_) (fun c_72 => ?_)
              · refine lv_iconst (v := 0) hx hb d_Ref_value_79 (by decide) ?_
                have hP9 := hP.sub (ws' := [(r0, .inr (8, [.int 0, .int ((nI N)), .int ((nI OU)), .int ((nI Z)), .ref r1, .ref r2, .int ((nI M)), .ref r3, .ref r4, .ref r5, .ref r6, .ref r7, .ref r8, .int ((nI PK)), .ref r9, .int kp, .ref r10, .ref r11, .int ((nI TK)), .ref r12, .int qc, .ref r13, .ref r14, .int bst, .ref r15])), (r10, .inl (cI, 81, .inl kpr)), (r11, .inl (cI, 81, .inl kot))]) [0, 1, 2] rfl
                have hD9 := hD.sub (ws' := [(r0, .inr (8, [.int 0, .int ((nI N)), .int ((nI OU)), .int ((nI Z)), .ref r1, .ref r2, .int ((nI M)), .ref r3, .ref r4, .ref r5, .ref r6, .ref r7, .ref r8, .int ((nI PK)), .ref r9, .int kp, .ref r10, .ref r11, .int ((nI TK)), .ref r12, .int qc, .ref r13, .ref r14, .int bst, .ref r15])), (r10, .inl (cI, 81, .inl kpr)), (r11, .inl (cI, 81, .inl kot))]) [0, 1, 2] (by decide) rfl
                exact W.zret (v := 0) hx hb hr (by decide) (fun t ht hW => ⟨⟨0, (), rfl, (if_neg c_72).symm, by rw [ht]; exact hP9, va_K.moved hW.alike hK, hD9⟩, hS.F ht⟩) hS.2.2 d_Ref_value_80
              · refine lv_iconst (v := 1) hx hb d_Ref_value_75 (by decide) ?_
                refine lv_goto (tgt := 80) hx hb d_Ref_value_76 (by decide) ?_
                have hP9 := hP.sub (ws' := [(r0, .inr (8, [.int 0, .int ((nI N)), .int ((nI OU)), .int ((nI Z)), .ref r1, .ref r2, .int ((nI M)), .ref r3, .ref r4, .ref r5, .ref r6, .ref r7, .ref r8, .int ((nI PK)), .ref r9, .int kp, .ref r10, .ref r11, .int ((nI TK)), .ref r12, .int qc, .ref r13, .ref r14, .int bst, .ref r15])), (r10, .inl (cI, 81, .inl kpr)), (r11, .inl (cI, 81, .inl kot))]) [0, 1, 2] rfl
                have hD9 := hD.sub (ws' := [(r0, .inr (8, [.int 0, .int ((nI N)), .int ((nI OU)), .int ((nI Z)), .ref r1, .ref r2, .int ((nI M)), .ref r3, .ref r4, .ref r5, .ref r6, .ref r7, .ref r8, .int ((nI PK)), .ref r9, .int kp, .ref r10, .ref r11, .int ((nI TK)), .ref r12, .int qc, .ref r13, .ref r14, .int bst, .ref r15])), (r10, .inl (cI, 81, .inl kpr)), (r11, .inl (cI, 81, .inl kot))]) [0, 1, 2] (by decide) rfl
                exact W.zret (v := 1) hx hb hr (by decide) (fun t ht hW => ⟨⟨1, (), rfl, (if_pos c_72).symm, by rw [ht]; exact hP9, va_K.moved hW.alike hK, hD9⟩, hS.F ht⟩) hS.2.2 d_Ref_value_80
          · exact absurd (n2m (fun q => absurd hx1 (Int64.not_lt.mpr q))) c_43
      · exact absurd ((nI_ltI (a := J) (b := OU) (by omega) (by omega)).mpr hJ) c_21
  · exact absurd c_5 hk1
