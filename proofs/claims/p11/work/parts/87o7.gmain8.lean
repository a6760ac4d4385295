/-! ===== a call that throws behind its writes ===== -/
def qbT (Es : List String) (Bw : State → Prop) (A : Nat → Prop) : Array Value → State → Outcome → State → Prop := fun _ st o t => xThr Es o t ∧ Bw t ∧ va_F A st t
/-! ===== the class: at, cost, equal, value by roads ===== -/
def coC (care kp ko : Nat → Int32) (k : Nat) : Int64 := itr (fun k acc => acc + (bcI (care (kp k).toNatClampNeg) + bcI (ko k)).toInt64) k 0
def eqC (on no hd : Nat → Int32) (o : Nat) : Bool := itr (fun o acc => acc && (decide (on o &&& (hd o ^^^ (-1)) = 0) && decide (hd o &&& (no o ^^^ (-1)) = 0))) o true
theorem eqC_f {on no hd : Nat → Int32} {i : Nat} (h : eqC on no hd i = false) : ∀ j, i ≤ j → eqC on no hd j = false := by
  intro j hj
  induction j with
  | zero => rw [Nat.le_zero.mp hj] at h; exact h
  | succ j ih =>
    by_cases hE : i = j + 1
    · subst hE; exact h
    · rw [show eqC on no hd (j + 1) = (eqC on no hd j && (decide (on j &&& (hd j ^^^ (-1)) = 0) && decide (hd j &&& (no j ^^^ (-1)) = 0))) from rfl, ih (by omega)]; rfl
theorem eqC_n1 {on no hd : Nat → Int32} {o : Nat} (h : ¬ on o &&& (hd o ^^^ (-1)) = 0) : eqC on no hd (o + 1) = false := by
  show (_ && (decide (on o &&& (hd o ^^^ (-1)) = 0) && _)) = false
  rw [decide_eq_false h, Bool.false_and, Bool.and_false]
theorem eqC_n2 {on no hd : Nat → Int32} {o : Nat} (h : ¬ hd o &&& (no o ^^^ (-1)) = 0) : eqC on no hd (o + 1) = false := by
  show (_ && (_ && decide (hd o &&& (no o ^^^ (-1)) = 0))) = false
  rw [decide_eq_false h, Bool.and_false, Bool.and_false]
theorem eqC_y {on no hd : Nat → Int32} {o : Nat} (h0 : eqC on no hd o = true) (h1 : on o &&& (hd o ^^^ (-1)) = 0) (h2 : hd o &&& (no o ^^^ (-1)) = 0) : eqC on no hd (o + 1) = true := by
  show (eqC on no hd o && (decide (on o &&& (hd o ^^^ (-1)) = 0) && decide (hd o &&& (no o ^^^ (-1)) = 0))) = true
  rw [h0, decide_eq_true h1, decide_eq_true h2]; rfl
theorem n2m {x y : Int64} (h : ¬ y ≤ x) : lg_cmp x y < 0 := by
  apply Int32.not_le.mp
  exact fun g => h ((lg_ge x y).mp g)
theorem colb {K : Nat} {x : Int32} (h : ¬ (if x < 0 ∨ nI K ≤ x then (0 : Int32) else 1) = 0) : ¬ (x < 0 ∨ nI K ≤ x) := fun g => h (if_pos g)
theorem isc {N OU : Nat} {y : Int32} (h : ¬ (if y < 0 then (0 : Int32) else if nI N + nI OU ≤ y then 0 else 1) = 0) : ¬ (y < 0 ∨ nI N + nI OU ≤ y) := by
  rintro (g | g)
  · exact h (if_pos g)
  · apply h
    by_cases h1 : y < 0
    · rw [if_pos h1]
    · rw [if_neg h1, if_pos g]
theorem isc_n {N OU J : Nat} (hJ : J < N + OU) (hN : N ≤ 4) (hOU : OU ≤ 2) : ¬ (if nI J < 0 then (0 : Int32) else if nI N + nI OU ≤ nI J then 0 else 1) = 0 := by
  rw [if_neg (nI_pos (by omega)), if_neg]
  · decide
  · rw [nI_add]
    exact fun g => absurd ((nI_leI (a := N + OU) (b := J) (by omega) (by omega)).mp g) (by omega)
theorem hold_n8 {C M : Nat} (h : C < M) (hM : M ≤ 81) : ¬ (nI C < 0 ∨ nI M ≤ nI C) := by
  rintro (g | g)
  · exact nI_pos (by omega) g
  · have := (nI_leI (a := M) (b := C) (by omega) (by omega)).mp g; omega
set_option maxHeartbeats 1000000 in
set_option maxRecDepth 100000 in
theorem t0_Main_needKept (l : Launch) (hfl : l.flags = flags0) (dC : Nat → ClassId) (dI : Nat → Nat → Nat) (cI cJ : ClassId) (sz0 : Nat) (m0 : Nat) (N : Nat) (OU : Nat) (b0 : Nat) (t0 : Nat) (f0 : Nat) (g0 : Nat) (k0 : Nat) (v0 : Nat) (d0 : Nat) (hk : Int32) (po : Int32) (hk0 : hk = 0) : xt_Met l y_Main_needKept (ct y_Main_needKept b_Main_needKept 1 (none)) ({ frames := 7, cells := 1, slots := 6, locals := 120 }) (va_Pc [.ref m0] (fun U => U.heap.size = sz0 ∧ va_P (dC, dI) classes [(m0, .inr (7, [.int ((nI N)), .int ((nI OU)), .ref b0, .ref t0, .ref f0, .ref g0, .ref k0, .ref v0, .ref d0, .int hk, .int po]))] U.heap ∧ va_K (dC, dI) classes [(cI, .int), (cJ, .long)] U ∧ va_D (fun _ => True) [(m0, .inr (7, [.int ((nI N)), .int ((nI OU)), .ref b0, .ref t0, .ref f0, .ref g0, .ref k0, .ref v0, .ref d0, .int hk, .int po]))] ∧ gl (va_A [(m0, .inr (7, [.int ((nI N)), .int ((nI OU)), .ref b0, .ref t0, .ref f0, .ref g0, .ref k0, .ref v0, .ref d0, .int hk, .int po]))] sz0) U U.heap)) (qbT ["java/lang/IllegalStateException"] (fun t => ∃ (uu : Unit), (True) ∧ at_w dC dI cI cJ (va_A [(m0, .inr (7, [.int ((nI N)), .int ((nI OU)), .ref b0, .ref t0, .ref f0, .ref g0, .ref k0, .ref v0, .ref d0, .int hk, .int po]))] sz0) [(m0, .inr (7, [.int ((nI N)), .int ((nI OU)), .ref b0, .ref t0, .ref f0, .ref g0, .ref k0, .ref v0, .ref d0, .int hk, .int po]))] t) (va_A [(m0, .inr (7, [.int ((nI N)), .int ((nI OU)), .ref b0, .ref t0, .ref f0, .ref g0, .ref k0, .ref v0, .ref d0, .int hk, .int po]))] sz0)) 1 6 (va_A [(m0, .inr (7, [.int ((nI N)), .int ((nI OU)), .ref b0, .ref t0, .ref f0, .ref g0, .ref k0, .ref v0, .ref d0, .int hk, .int po]))] sz0) := by
  refine xt_ofW (cc := b_Main_needKept) (maxL := 1) (ret := none) (by decide) rfl ?_
  intro p e s m args below meth c s₁ B hml hno hv
  obtain ⟨rfl, hsz, hP, hK, hD0, hG⟩ := hv
  have hx := B.exec
  have hb := B.bytes
  have hr := B.returns
  have hts : ∀ w ∈ lwg, w.before _ s = true := fun w h => atoms_spec (ws := ct y_Main_needKept b_Main_needKept 1 (none)) B.pre w (List.mem_cons_of_mem _ h)
  have hown : s.vm.findClass R_Main = some m.cls := findClass_of_methodNamed B.named
  have hlocks := B.notSynchronized
  subst hsz
  have hD := hD0.self (sz := s.heap.size)
  generalize hAe : va_A [(m0, .inr (7, [.int ((nI N)), .int ((nI OU)), .ref b0, .ref t0, .ref f0, .ref g0, .ref k0, .ref v0, .ref d0, .int hk, .int po]))] s.heap.size = A at hD hG ⊢
  have hA : ∀ q : Nat, s.heap.size ≤ q → A q := fun q h => by rw [← hAe]; exact Or.inr h
  have hS : va_S A s.heap s.heap [] := va_S.rf
  have hl := lv_entry ([.ref m0]) (n := 1) (Nat.le_of_ble_eq_true rfl)
  rw [lg_entry_eq]
  generalize (lg_sl ([.ref m0]) ++ List.replicate (1 - (lg_sl ([.ref m0])).length) Slot.unset).toArray = ls at hl ⊢
  have hl : lv_has ls 1 [(0, .ref m0)] := hl
  have hP : va_P (dC, dI) classes [(m0, .inr (7, [.int ((nI N)), .int ((nI OU)), .ref b0, .ref t0, .ref f0, .ref g0, .ref k0, .ref v0, .ref d0, .int hk, .int po]))] s.heap := hP
  obtain ⟨⟨tF, hZF, hTF⟩, hGr⟩ := id hG
  refine lv_aload_n hx hb d_Main_needKept_0 rfl (lv_at hl 0 rfl) ?_
  refine va_get (D := (dC, dI)) (ci := 7) (v := .int hk) (C := R_Main) (T := F_Main) (N := 11) hx hb hts i_Main hown hK hP 0 rfl rfl 9 (by decide) (hts _ mw_fl_Main_81) (fun _ h9 => h9) rfl d_Main_needKept_1 ?_
  refine lv_if_ne (tgt := 17) hx hb d_Main_needKept_4 (by decide) (fun c_4 => ?_) (fun c_4 => ?_)
  · exact absurd hk0 c_4
  · have hP9 := hP.sub (ws' := [(m0, .inr (7, [.int ((nI N)), .int ((nI OU)), .ref b0, .ref t0, .ref f0, .ref g0, .ref k0, .ref v0, .ref d0, .int hk, .int po]))]) [0] rfl
    have hD9 := hD.sub (ws' := [(m0, .inr (7, [.int ((nI N)), .int ((nI OU)), .ref b0, .ref t0, .ref f0, .ref g0, .ref k0, .ref v0, .ref d0, .int hk, .int po]))]) [0] (by decide) rfl
    have hG9 := (hG.kept hS.2.1).2
    obtain ⟨qS, hqS⟩ := hG9.2.2.2 (217, "no cover is kept") (by decide +kernel)
    exact xt_throwNew (A := A) (own := "CoverRows") (cls := "java/lang/IllegalStateException") (tx := "no cover is kept") (names := ["java/lang/RuntimeException", "java/lang/Exception"]) (ix := 215) (ik := 217) (ic := 219) hx hb hfl hts hG9.2.2.1 xc_215 hown (by decide +kernel) (by decide +kernel) hno hlocks hqS hG9.1 hG9.2.1 (hl.1.trans hml.symm) (Nat.le_of_ble_eq_true rfl) (Nat.le_of_ble_eq_true rfl) (Nat.le_of_ble_eq_true rfl) (Nat.le_of_ble_eq_true rfl) d_Main_needKept_7 d_Main_needKept_10 d_Main_needKept_11 d_Main_needKept_13 d_Main_needKept_16 (fun x t ce h1 h2 h3 h4 h5 h6 h7 => ⟨⟨x, ce, "java/lang/IllegalStateException", by decide +kernel, rfl, h5, h6, by rw [h2.alike.findClass]; exact h7⟩, ⟨(), trivial, hP9.kept (fun k q hk => h4 q.1 (hP9 k q hk).lt), va_K.moved h2.alike hK, hD9⟩, ⟨Nat.le_trans hS.1 h3, fun q g1 g2 => (h4 q (Nat.lt_of_lt_of_le g1 hS.1)).trans (hS.2.1 q g1 g2)⟩⟩) hS.2.2
set_option maxHeartbeats 1000000 in
set_option maxRecDepth 100000 in
theorem t1_Main_needKept (l : Launch) (dC : Nat → ClassId) (dI : Nat → Nat → Nat) (cI cJ : ClassId) (sz0 : Nat) (m0 : Nat) (N : Nat) (OU : Nat) (b0 : Nat) (t0 : Nat) (f0 : Nat) (g0 : Nat) (k0 : Nat) (v0 : Nat) (d0 : Nat) (hk : Int32) (po : Int32) (hk1 : ¬ hk = 0) : Met l y_Main_needKept (ct y_Main_needKept b_Main_needKept 1 (none)) ({ frames := 6, cells := 0, slots := 0, locals := 90 }) (va_Pc [.ref m0] (fun U => U.heap.size = sz0 ∧ va_P (dC, dI) classes [(m0, .inr (7, [.int ((nI N)), .int ((nI OU)), .ref b0, .ref t0, .ref f0, .ref g0, .ref k0, .ref v0, .ref d0, .int hk, .int po]))] U.heap ∧ va_K (dC, dI) classes [(cI, .int), (cJ, .long)] U ∧ va_D (fun _ => True) [(m0, .inr (7, [.int ((nI N)), .int ((nI OU)), .ref b0, .ref t0, .ref f0, .ref g0, .ref k0, .ref v0, .ref d0, .int hk, .int po]))])) (va_Qv (fun _ : Unit => True) (fun _ => at_w dC dI cI cJ (va_A [(m0, .inr (7, [.int ((nI N)), .int ((nI OU)), .ref b0, .ref t0, .ref f0, .ref g0, .ref k0, .ref v0, .ref d0, .int hk, .int po]))] sz0) [(m0, .inr (7, [.int ((nI N)), .int ((nI OU)), .ref b0, .ref t0, .ref f0, .ref g0, .ref k0, .ref v0, .ref d0, .int hk, .int po]))]) (va_A [(m0, .inr (7, [.int ((nI N)), .int ((nI OU)), .ref b0, .ref t0, .ref f0, .ref g0, .ref k0, .ref v0, .ref d0, .int hk, .int po]))] sz0)) 0 0 (va_A [(m0, .inr (7, [.int ((nI N)), .int ((nI OU)), .ref b0, .ref t0, .ref f0, .ref g0, .ref k0, .ref v0, .ref d0, .int hk, .int po]))] sz0) := by
  refine Met.ofW (cc := b_Main_needKept) (maxL := 1) (ret := none) (by decide) rfl ?_
  intro p e s m args below meth c s₁ B hml hv
  obtain ⟨rfl, hsz, hP, hK, hD0⟩ := hv
  have hx := B.exec
  have hb := B.bytes
  have hr := B.returns
  have hts : ∀ w ∈ lwg, w.before _ s = true := fun w h => atoms_spec (ws := ct y_Main_needKept b_Main_needKept 1 (none)) B.pre w (List.mem_cons_of_mem _ h)
  have hown : s.vm.findClass R_Main = some m.cls := findClass_of_methodNamed B.named
  have hlocks := B.notSynchronized
  subst hsz
  have hD := hD0.self (sz := s.heap.size)
  generalize hAe : va_A [(m0, .inr (7, [.int ((nI N)), .int ((nI OU)), .ref b0, .ref t0, .ref f0, .ref g0, .ref k0, .ref v0, .ref d0, .int hk, .int po]))] s.heap.size = A at hD ⊢
  have hA : ∀ q : Nat, s.heap.size ≤ q → A q := fun q h => by rw [← hAe]; exact Or.inr h
  have hS : va_S A s.heap s.heap [] := va_S.rf
  have hl := lv_entry ([.ref m0]) (n := 1) (Nat.le_of_ble_eq_true rfl)
  rw [lg_entry_eq]
  generalize (lg_sl ([.ref m0]) ++ List.replicate (1 - (lg_sl ([.ref m0])).length) Slot.unset).toArray = ls at hl ⊢
  have hl : lv_has ls 1 [(0, .ref m0)] := hl
  have hP : va_P (dC, dI) classes [(m0, .inr (7, [.int ((nI N)), .int ((nI OU)), .ref b0, .ref t0, .ref f0, .ref g0, .ref k0, .ref v0, .ref d0, .int hk, .int po]))] s.heap := hP
  refine lv_aload_n hx hb d_Main_needKept_0 rfl (lv_at hl 0 rfl) ?_
  refine va_get (D := (dC, dI)) (ci := 7) (v := .int hk) (C := R_Main) (T := F_Main) (N := 11) hx hb hts i_Main hown hK hP 0 rfl rfl 9 (by decide) (hts _ mw_fl_Main_81) (fun _ h9 => h9) rfl d_Main_needKept_1 ?_
  refine lv_if_ne (tgt := 17) hx hb d_Main_needKept_4 (by decide) (fun c_4 => ?_) (fun c_4 => ?_)
  · have hP9 := hP.sub (ws' := [(m0, .inr (7, [.int ((nI N)), .int ((nI OU)), .ref b0, .ref t0, .ref f0, .ref g0, .ref k0, .ref v0, .ref d0, .int hk, .int po]))]) [0] rfl
    have hD9 := hD.sub (ws' := [(m0, .inr (7, [.int ((nI N)), .int ((nI OU)), .ref b0, .ref t0, .ref f0, .ref g0, .ref k0, .ref v0, .ref d0, .int hk, .int po]))]) [0] (by decide) rfl
    exact W.vret hx hb hr (fun t ht hW => ⟨⟨(), rfl, trivial, by rw [ht]; exact hP9, va_K.moved hW.alike hK, hD9⟩, hS.F ht⟩) hS.2.2 d_Main_needKept_17
  · exact absurd c_4 hk1
set_option maxHeartbeats 1000000 in
set_option maxRecDepth 100000 in
theorem c0_Main_kernels (l : Launch) (hfl : l.flags = flags0) (dC : Nat → ClassId) (dI : Nat → Nat → Nat) (cI cJ : ClassId) (sz0 : Nat) (m0 : Nat) (N : Nat) (OU : Nat) (b0 : Nat) (t0 : Nat) (f0 : Nat) (g0 : Nat) (k0 : Nat) (v0 : Nat) (d0 : Nat) (hk : Int32) (po : Int32) (hk0 : hk = 0) : xt_Met l y_Main_kernels (ct y_Main_kernels b_Main_kernels 1 (some .int)) ({ frames := 9, cells := 1, slots := 6, locals := 200 }) (va_Pc [.ref m0] (fun U => U.heap.size = sz0 ∧ va_P (dC, dI) classes [(m0, .inr (7, [.int ((nI N)), .int ((nI OU)), .ref b0, .ref t0, .ref f0, .ref g0, .ref k0, .ref v0, .ref d0, .int hk, .int po]))] U.heap ∧ va_K (dC, dI) classes [(cI, .int), (cJ, .long)] U ∧ va_D (fun _ => True) [(m0, .inr (7, [.int ((nI N)), .int ((nI OU)), .ref b0, .ref t0, .ref f0, .ref g0, .ref k0, .ref v0, .ref d0, .int hk, .int po]))] ∧ gl (va_A [(m0, .inr (7, [.int ((nI N)), .int ((nI OU)), .ref b0, .ref t0, .ref f0, .ref g0, .ref k0, .ref v0, .ref d0, .int hk, .int po]))] sz0) U U.heap)) (qbT ["java/lang/IllegalStateException"] (fun t => ∃ (uu : Unit), (True) ∧ at_w dC dI cI cJ (va_A [(m0, .inr (7, [.int ((nI N)), .int ((nI OU)), .ref b0, .ref t0, .ref f0, .ref g0, .ref k0, .ref v0, .ref d0, .int hk, .int po]))] sz0) [(m0, .inr (7, [.int ((nI N)), .int ((nI OU)), .ref b0, .ref t0, .ref f0, .ref g0, .ref k0, .ref v0, .ref d0, .int hk, .int po]))] t) (va_A [(m0, .inr (7, [.int ((nI N)), .int ((nI OU)), .ref b0, .ref t0, .ref f0, .ref g0, .ref k0, .ref v0, .ref d0, .int hk, .int po]))] sz0)) 1 6 (va_A [(m0, .inr (7, [.int ((nI N)), .int ((nI OU)), .ref b0, .ref t0, .ref f0, .ref g0, .ref k0, .ref v0, .ref d0, .int hk, .int po]))] sz0) := by
  refine xt_ofW (cc := b_Main_kernels) (maxL := 1) (ret := some .int) (by decide) rfl ?_
  intro p e s m args below meth c s₁ B hml hno hv
  obtain ⟨rfl, hsz, hP, hK, hD0, hG⟩ := hv
  have hx := B.exec
  have hb := B.bytes
  have hr := B.returns
  have hts : ∀ w ∈ lwg, w.before _ s = true := fun w h => atoms_spec (ws := ct y_Main_kernels b_Main_kernels 1 (some .int)) B.pre w (List.mem_cons_of_mem _ h)
  have hown : s.vm.findClass R_Main = some m.cls := findClass_of_methodNamed B.named
  have hlocks := B.notSynchronized
  subst hsz
  have hD := hD0.self (sz := s.heap.size)
  generalize hAe : va_A [(m0, .inr (7, [.int ((nI N)), .int ((nI OU)), .ref b0, .ref t0, .ref f0, .ref g0, .ref k0, .ref v0, .ref d0, .int hk, .int po]))] s.heap.size = A at hD hG ⊢
  have hA : ∀ q : Nat, s.heap.size ≤ q → A q := fun q h => by rw [← hAe]; exact Or.inr h
  have hS : va_S A s.heap s.heap [] := va_S.rf
  have hl := lv_entry ([.ref m0]) (n := 1) (Nat.le_of_ble_eq_true rfl)
  rw [lg_entry_eq]
  generalize (lg_sl ([.ref m0]) ++ List.replicate (1 - (lg_sl ([.ref m0])).length) Slot.unset).toArray = ls at hl ⊢
  have hl : lv_has ls 1 [(0, .ref m0)] := hl
  have hP : va_P (dC, dI) classes [(m0, .inr (7, [.int ((nI N)), .int ((nI OU)), .ref b0, .ref t0, .ref f0, .ref g0, .ref k0, .ref v0, .ref d0, .int hk, .int po]))] s.heap := hP
  obtain ⟨⟨tF, hZF, hTF⟩, hGr⟩ := id hG
  refine lv_aload_n hx hb d_Main_kernels_0 rfl (lv_at hl 0 rfl) ?_
  have hPc := hP.sub (ws' := [(m0, .inr (7, [.int ((nI N)), .int ((nI OU)), .ref b0, .ref t0, .ref f0, .ref g0, .ref k0, .ref v0, .ref d0, .int hk, .int po]))]) [0] rfl
  have hDc := hD.sub (ws' := [(m0, .inr (7, [.int ((nI N)), .int ((nI OU)), .ref b0, .ref t0, .ref f0, .ref g0, .ref k0, .ref v0, .ref d0, .int hk, .int po]))]) [0] (by decide) rfl
  have hFc := va_free (wc := [(m0, .inr (7, [.int ((nI N)), .int ((nI OU)), .ref b0, .ref t0, .ref f0, .ref g0, .ref k0, .ref v0, .ref d0, .int hk, .int po]))]) hD hS hA [0] rfl
  refine xt_callV (As := []) (rest := []) ⟨hx, hb, hml, hown, hts⟩ (t0_Main_needKept l hfl dC dI cI cJ _ m0 N OU b0 t0 f0 g0 k0 v0 d0 hk po hk0) (cwV 0 hts (ct_goodV mw_ml_Main_160 mw_im_Main_needKept mw_se_Main_needKept mw_ini_Main mw_code_Main_needKept) rfl rfl rfl (by decide +kernel) ⟨Nat.le_of_ble_eq_true rfl, Nat.le_of_ble_eq_true rfl⟩) ⟨fun a U g mk q => by obtain ⟨q0, q1, qP, qK, qD, qG⟩ := q; exact ⟨q0, q1, qP, va_K.moved (u := U) (U := U.calling g mk a) (Vm.Alike.refl U.vm) qK, qD, gl.blind qG⟩, va_recv hK hPc (ci := 7) (q0 := 0) rfl rfl, fun U hU hW => ⟨rfl, by rw [hU], by rw [hU]; exact hPc, va_K.moved hW.alike hK, hDc.weaken (fun _ _ _ _ => trivial), by rw [hU]; exact ((hG.kept hS.2.1).narrow hFc).moved hW⟩⟩ rfl hl.1 rfl (lv_room (Nat.le_of_ble_eq_true rfl)) d_Main_kernels_1 ⟨Nat.le_of_ble_eq_true rfl, Nat.le_of_ble_eq_true rfl⟩ (fun v st₀ t H1 L h0 h1 h2 hq hL => ?_) (fun xA st₀ t H1 L h0 h1 h2 hq hL => ?_)
  · obtain ⟨⟨_, _, _, _, hc9, _⟩, _⟩ := hq
    cases hc9
  obtain ⟨⟨_, ce, E9, hE9, hc9, a4, a5, a6⟩, ⟨uu__1, hp9, hP1, hK1, hD1⟩, hz9, hk9⟩ := hq
  cases hc9
  rw [h0] at hz9 hk9
  rw [h1] at hz9 hk9 hP1 a4
  have hS := xh_S2 hS hz9 hk9 hFc hL
  obtain ⟨hP, hD⟩ := va_join (wr := []) (w1 := [(m0, .inr (7, [.int ((nI N)), .int ((nI OU)), .ref b0, .ref t0, .ref f0, .ref g0, .ref k0, .ref v0, .ref d0, .int hk, .int po]))]) hP hD [0] [] rfl rfl (by decide) (by decide) hk9 hFc hP1 hD1
  obtain rfl := List.mem_singleton.mp hE9
  have hP : va_P (dC, dI) classes [(m0, .inr (7, [.int ((nI N)), .int ((nI OU)), .ref b0, .ref t0, .ref f0, .ref g0, .ref k0, .ref v0, .ref d0, .int hk, .int po]))] H1 := hP
  have hD : va_D A [(m0, .inr (7, [.int ((nI N)), .int ((nI OU)), .ref b0, .ref t0, .ref f0, .ref g0, .ref k0, .ref v0, .ref d0, .int hk, .int po]))] := hD
  have hP9 := hP.sub (ws' := [(m0, .inr (7, [.int ((nI N)), .int ((nI OU)), .ref b0, .ref t0, .ref f0, .ref g0, .ref k0, .ref v0, .ref d0, .int hk, .int po]))]) [0] rfl
  have hD9 := hD.sub (ws' := [(m0, .inr (7, [.int ((nI N)), .int ((nI OU)), .ref b0, .ref t0, .ref f0, .ref g0, .ref k0, .ref v0, .ref d0, .int hk, .int po]))]) [0] (by decide) rfl
  exact xt_leave hno hlocks (fun t' ht' hW' => ⟨⟨xA, ce, "java/lang/IllegalStateException", by decide +kernel, rfl, by rw [ht']; exact a4, a5, by rw [hW'.alike.findClass, ← h2.findClass]; exact a6⟩, ⟨(), trivial, by rw [ht']; exact hP9, va_K.moved hW'.alike hK, hD9⟩, hS.F ht'⟩) hS.2.2
set_option maxHeartbeats 1000000 in
set_option maxRecDepth 100000 in
theorem c1_Main_kernels (l : Launch) (dC : Nat → ClassId) (dI : Nat → Nat → Nat) (cI cJ : ClassId) (sz0 : Nat) (m0 : Nat) (N : Nat) (OU : Nat) (b0 : Nat) (t0 : Nat) (f0 : Nat) (g0 : Nat) (k0 : Nat) (v0 : Nat) (d0 : Nat) (hk : Int32) (po : Int32) (k1 : Nat) (k2 : Nat) (TK : Nat) (kp : Nat → Int32) (ko : Nat → Int32) (a0 : Nat) (a1 : Nat) (a2 : Nat) (a3 : Nat) (Z : Nat) (care : Nat → Int32) (bits : Nat → Int32) (had : Nat → Int32) (v1 : Nat) (v2 : Nat) (v3 : Nat) (S : Nat) (lo : Int64) (hi : Int64) (on : Int32) (ze : Int32) (kl : Nat → Int64) (kh : Nat → Int64) (row : Nat → Int32) (hk1 : ¬ hk = 0) (hN : N ≤ 4) (hTK : TK ≤ 81) (hkp : ∀ k, k < TK → vp_in (kp k) 81) (hZ8 : Z ≤ 81) (hS8 : S ≤ 81) : Met l y_Main_kernels (ct y_Main_kernels b_Main_kernels 1 (some .int)) ({ frames := 7, cells := 0, slots := 0, locals := 110 }) (va_Pc [.ref m0] (fun U => U.heap.size = sz0 ∧ va_P (dC, dI) classes [(m0, .inr (7, [.int ((nI N)), .int ((nI OU)), .ref b0, .ref t0, .ref f0, .ref g0, .ref k0, .ref v0, .ref d0, .int hk, .int po])), (k0, .inr (6, [.ref a0, .ref k1, .ref k2, .int ((nI TK))])), (k1, .inl (cI, 81, .inl kp)), (k2, .inl (cI, 81, .inl ko)), (a0, .inr (5, [.int ((nI N)), .int ((nI Z)), .ref a1, .ref a2, .ref a3])), (a1, .inl (cI, 81, .inl care)), (a2, .inl (cI, 81, .inl bits)), (a3, .inl (cI, 81, .inl had)), (v0, .inr (3, [.ref a0, .ref v1, .ref v2, .ref v3, .int ((nI S)), .long lo, .long hi, .int on, .int ze])), (v1, .inl (cJ, 81, .inr (.inl kl))), (v2, .inl (cJ, 81, .inr (.inl kh))), (v3, .inl (cI, 81, .inl row))] U.heap ∧ va_K (dC, dI) classes [(cI, .int), (cJ, .long)] U ∧ va_D (fun _ => True) [(m0, .inr (7, [.int ((nI N)), .int ((nI OU)), .ref b0, .ref t0, .ref f0, .ref g0, .ref k0, .ref v0, .ref d0, .int hk, .int po])), (k0, .inr (6, [.ref a0, .ref k1, .ref k2, .int ((nI TK))])), (k1, .inl (cI, 81, .inl kp)), (k2, .inl (cI, 81, .inl ko)), (a0, .inr (5, [.int ((nI N)), .int ((nI Z)), .ref a1, .ref a2, .ref a3])), (a1, .inl (cI, 81, .inl care)), (a2, .inl (cI, 81, .inl bits)), (a3, .inl (cI, 81, .inl had)), (v0, .inr (3, [.ref a0, .ref v1, .ref v2, .ref v3, .int ((nI S)), .long lo, .long hi, .int on, .int ze])), (v1, .inl (cJ, 81, .inr (.inl kl))), (v2, .inl (cJ, 81, .inr (.inl kh))), (v3, .inl (cI, 81, .inl row))])) (va_Qi (fun (r : Int32) (u : (Nat) × (Int64) × (Int64) × (Int32) × (Int32) × (Nat → Int64) × (Nat → Int64) × (Nat → Int32)) => match u with | (Sx, lox, hix, onx, zex, klx, khx, rowx) => r = nI (stK kp care bits N TK kl kh (lo, hi, on, ze) Z).1 ∧ Sx ≤ 81) (fun (u : (Nat) × (Int64) × (Int64) × (Int32) × (Int32) × (Nat → Int64) × (Nat → Int64) × (Nat → Int32)) => match u with | (Sx, lox, hix, onx, zex, klx, khx, rowx) => at_w dC dI cI cJ (va_A [(m0, .inr (7, [.int ((nI N)), .int ((nI OU)), .ref b0, .ref t0, .ref f0, .ref g0, .ref k0, .ref v0, .ref d0, .int hk, .int po])), (k0, .inr (6, [.ref a0, .ref k1, .ref k2, .int ((nI TK))])), (k1, .inl (cI, 81, .inl kp)), (k2, .inl (cI, 81, .inl ko)), (a0, .inr (5, [.int ((nI N)), .int ((nI Z)), .ref a1, .ref a2, .ref a3])), (a1, .inl (cI, 81, .inl care)), (a2, .inl (cI, 81, .inl bits)), (a3, .inl (cI, 81, .inl had)), (v0, .inr (3, [.ref a0, .ref v1, .ref v2, .ref v3, .int ((nI S)), .long lo, .long hi, .int on, .int ze])), (v1, .inl (cJ, 81, .inr (.inl kl))), (v2, .inl (cJ, 81, .inr (.inl kh))), (v3, .inl (cI, 81, .inl row))] sz0) [(m0, .inr (7, [.int ((nI N)), .int ((nI OU)), .ref b0, .ref t0, .ref f0, .ref g0, .ref k0, .ref v0, .ref d0, .int hk, .int po])), (k0, .inr (6, [.ref a0, .ref k1, .ref k2, .int ((nI TK))])), (k1, .inl (cI, 81, .inl kp)), (k2, .inl (cI, 81, .inl ko)), (a0, .inr (5, [.int ((nI N)), .int ((nI Z)), .ref a1, .ref a2, .ref a3])), (a1, .inl (cI, 81, .inl care)), (a2, .inl (cI, 81, .inl bits)), (a3, .inl (cI, 81, .inl had)), (v0, .inr (3, [.ref a0, .ref v1, .ref v2, .ref v3, .int ((nI Sx)), .long lox, .long hix, .int onx, .int zex])), (v1, .inl (cJ, 81, .inr (.inl klx))), (v2, .inl (cJ, 81, .inr (.inl khx))), (v3, .inl (cI, 81, .inl rowx))]) (va_A [(m0, .inr (7, [.int ((nI N)), .int ((nI OU)), .ref b0, .ref t0, .ref f0, .ref g0, .ref k0, .ref v0, .ref d0, .int hk, .int po])), (k0, .inr (6, [.ref a0, .ref k1, .ref k2, .int ((nI TK))])), (k1, .inl (cI, 81, .inl kp)), (k2, .inl (cI, 81, .inl ko)), (a0, .inr (5, [.int ((nI N)), .int ((nI Z)), .ref a1, .ref a2, .ref a3])), (a1, .inl (cI, 81, .inl care)), (a2, .inl (cI, 81, .inl bits)), (a3, .inl (cI, 81, .inl had)), (v0, .inr (3, [.ref a0, .ref v1, .ref v2, .ref v3, .int ((nI S)), .long lo, .long hi, .int on, .int ze])), (v1, .inl (cJ, 81, .inr (.inl kl))), (v2, .inl (cJ, 81, .inr (.inl kh))), (v3, .inl (cI, 81, .inl row))] sz0)) 0 0 (va_A [(m0, .inr (7, [.int ((nI N)), .int ((nI OU)), .ref b0, .ref t0, .ref f0, .ref g0, .ref k0, .ref v0, .ref d0, .int hk, .int po])), (k0, .inr (6, [.ref a0, .ref k1, .ref k2, .int ((nI TK))])), (k1, .inl (cI, 81, .inl kp)), (k2, .inl (cI, 81, .inl ko)), (a0, .inr (5, [.int ((nI N)), .int ((nI Z)), .ref a1, .ref a2, .ref a3])), (a1, .inl (cI, 81, .inl care)), (a2, .inl (cI, 81, .inl bits)), (a3, .inl (cI, 81, .inl had)), (v0, .inr (3, [.ref a0, .ref v1, .ref v2, .ref v3, .int ((nI S)), .long lo, .long hi, .int on, .int ze])), (v1, .inl (cJ, 81, .inr (.inl kl))), (v2, .inl (cJ, 81, .inr (.inl kh))), (v3, .inl (cI, 81, .inl row))] sz0) := by
  refine Met.ofW (cc := b_Main_kernels) (maxL := 1) (ret := some .int) (by decide) rfl ?_
  intro p e s m args below meth c s₁ B hml hv
  obtain ⟨rfl, hsz, hP, hK, hD0⟩ := hv
  have hx := B.exec
  have hb := B.bytes
  have hr := B.returns
  have hts : ∀ w ∈ lwg, w.before _ s = true := fun w h => atoms_spec (ws := ct y_Main_kernels b_Main_kernels 1 (some .int)) B.pre w (List.mem_cons_of_mem _ h)
  have hown : s.vm.findClass R_Main = some m.cls := findClass_of_methodNamed B.named
  have hlocks := B.notSynchronized
  subst hsz
  have hD := hD0.self (sz := s.heap.size)
  generalize hAe : va_A [(m0, .inr (7, [.int ((nI N)), .int ((nI OU)), .ref b0, .ref t0, .ref f0, .ref g0, .ref k0, .ref v0, .ref d0, .int hk, .int po])), (k0, .inr (6, [.ref a0, .ref k1, .ref k2, .int ((nI TK))])), (k1, .inl (cI, 81, .inl kp)), (k2, .inl (cI, 81, .inl ko)), (a0, .inr (5, [.int ((nI N)), .int ((nI Z)), .ref a1, .ref a2, .ref a3])), (a1, .inl (cI, 81, .inl care)), (a2, .inl (cI, 81, .inl bits)), (a3, .inl (cI, 81, .inl had)), (v0, .inr (3, [.ref a0, .ref v1, .ref v2, .ref v3, .int ((nI S)), .long lo, .long hi, .int on, .int ze])), (v1, .inl (cJ, 81, .inr (.inl kl))), (v2, .inl (cJ, 81, .inr (.inl kh))), (v3, .inl (cI, 81, .inl row))] s.heap.size = A at hD ⊢
  have hA : ∀ q : Nat, s.heap.size ≤ q → A q := fun q h => by rw [← hAe]; exact Or.inr h
  have hS : va_S A s.heap s.heap [] := va_S.rf
  have hl := lv_entry ([.ref m0]) (n := 1) (Nat.le_of_ble_eq_true rfl)
  rw [lg_entry_eq]
  generalize (lg_sl ([.ref m0]) ++ List.replicate (1 - (lg_sl ([.ref m0])).length) Slot.unset).toArray = ls at hl ⊢
  have hl : lv_has ls 1 [(0, .ref m0)] := hl
  have hP : va_P (dC, dI) classes [(m0, .inr (7, [.int ((nI N)), .int ((nI OU)), .ref b0, .ref t0, .ref f0, .ref g0, .ref k0, .ref v0, .ref d0, .int hk, .int po])), (k0, .inr (6, [.ref a0, .ref k1, .ref k2, .int ((nI TK))])), (k1, .inl (cI, 81, .inl kp)), (k2, .inl (cI, 81, .inl ko)), (a0, .inr (5, [.int ((nI N)), .int ((nI Z)), .ref a1, .ref a2, .ref a3])), (a1, .inl (cI, 81, .inl care)), (a2, .inl (cI, 81, .inl bits)), (a3, .inl (cI, 81, .inl had)), (v0, .inr (3, [.ref a0, .ref v1, .ref v2, .ref v3, .int ((nI S)), .long lo, .long hi, .int on, .int ze])), (v1, .inl (cJ, 81, .inr (.inl kl))), (v2, .inl (cJ, 81, .inr (.inl kh))), (v3, .inl (cI, 81, .inl row))] s.heap := hP
  refine lv_aload_n hx hb d_Main_kernels_0 rfl (lv_at hl 0 rfl) ?_
  have hPc := hP.sub (ws' := [(m0, .inr (7, [.int ((nI N)), .int ((nI OU)), .ref b0, .ref t0, .ref f0, .ref g0, .ref k0, .ref v0, .ref d0, .int hk, .int po]))]) [0] rfl
  have hDc := hD.sub (ws' := [(m0, .inr (7, [.int ((nI N)), .int ((nI OU)), .ref b0, .ref t0, .ref f0, .ref g0, .ref k0, .ref v0, .ref d0, .int hk, .int po]))]) [0] (by decide) rfl
  have hFc := va_free (wc := [(m0, .inr (7, [.int ((nI N)), .int ((nI OU)), .ref b0, .ref t0, .ref f0, .ref g0, .ref k0, .ref v0, .ref d0, .int hk, .int po]))]) hD hS hA [0] rfl
  refine va_callv (va_runV (As := []) (rest := []) ⟨hx, hb, hml, hown, hts⟩ (t1_Main_needKept l dC dI cI cJ _ m0 N OU b0 t0 f0 g0 k0 v0 d0 hk po hk1) (cwV 0 hts (ct_goodV mw_ml_Main_160 mw_im_Main_needKept mw_se_Main_needKept mw_ini_Main mw_code_Main_needKept) rfl rfl rfl (by decide +kernel) ⟨Nat.le_of_ble_eq_true rfl, Nat.le_of_ble_eq_true rfl⟩) ⟨fun a U g mk q => by obtain ⟨q0, q1, qP, qK, qD⟩ := q; exact ⟨q0, q1, qP, va_K.moved (u := U) (U := U.calling g mk a) (Vm.Alike.refl U.vm) qK, qD⟩, va_recv hK hPc (ci := 7) (q0 := 0) rfl rfl, fun U hU hW => ⟨rfl, by rw [hU], by rw [hU]; exact hPc, va_K.moved hW.alike hK, hDc.weaken (fun _ _ _ _ => trivial)⟩⟩ rfl rfl hl.1 rfl (lv_room (Nat.le_of_ble_eq_true rfl)) d_Main_kernels_1 ⟨Nat.le_of_ble_eq_true rfl, Nat.le_of_ble_eq_true rfl⟩) hS (fun q _ h => hFc q h) hFc (fun u t H1 locs ht hvm hw hB hz1 hk1 hS => ?_)
  obtain ⟨hP1, hK1, hD1⟩ := hB
  rw [ht] at hP1
  obtain ⟨hP, hD⟩ := va_join (wr := [(k0, .inr (6, [.ref a0, .ref k1, .ref k2, .int ((nI TK))])), (k1, .inl (cI, 81, .inl kp)), (k2, .inl (cI, 81, .inl ko)), (a0, .inr (5, [.int ((nI N)), .int ((nI Z)), .ref a1, .ref a2, .ref a3])), (a1, .inl (cI, 81, .inl care)), (a2, .inl (cI, 81, .inl bits)), (a3, .inl (cI, 81, .inl had)), (v0, .inr (3, [.ref a0, .ref v1, .ref v2, .ref v3, .int ((nI S)), .long lo, .long hi, .int on, .int ze])), (v1, .inl (cJ, 81, .inr (.inl kl))), (v2, .inl (cJ, 81, .inr (.inl kh))), (v3, .inl (cI, 81, .inl row))]) (w1 := [(m0, .inr (7, [.int ((nI N)), .int ((nI OU)), .ref b0, .ref t0, .ref f0, .ref g0, .ref k0, .ref v0, .ref d0, .int hk, .int po]))]) hP hD [0] [1, 2, 3, 4, 5, 6, 7, 8, 9, 10, 11] rfl rfl (by decide) (by decide) hk1 hFc hP1 hD1
  clear hPc hDc hFc hP1 hK1 hD1 hk1 hz1 hvm ht
  generalize H1 = H at hP hS ⊢
  have hP : va_P (dC, dI) classes [(k0, .inr (6, [.ref a0, .ref k1, .ref k2, .int ((nI TK))])), (k1, .inl (cI, 81, .inl kp)), (k2, .inl (cI, 81, .inl ko)), (a0, .inr (5, [.int ((nI N)), .int ((nI Z)), .ref a1, .ref a2, .ref a3])), (a1, .inl (cI, 81, .inl care)), (a2, .inl (cI, 81, .inl bits)), (a3, .inl (cI, 81, .inl had)), (v0, .inr (3, [.ref a0, .ref v1, .ref v2, .ref v3, .int ((nI S)), .long lo, .long hi, .int on, .int ze])), (v1, .inl (cJ, 81, .inr (.inl kl))), (v2, .inl (cJ, 81, .inr (.inl kh))), (v3, .inl (cI, 81, .inl row)), (m0, .inr (7, [.int ((nI N)), .int ((nI OU)), .ref b0, .ref t0, .ref f0, .ref g0, .ref k0, .ref v0, .ref d0, .int hk, .int po]))] H := hP
  have hD : va_D A [(k0, .inr (6, [.ref a0, .ref k1, .ref k2, .int ((nI TK))])), (k1, .inl (cI, 81, .inl kp)), (k2, .inl (cI, 81, .inl ko)), (a0, .inr (5, [.int ((nI N)), .int ((nI Z)), .ref a1, .ref a2, .ref a3])), (a1, .inl (cI, 81, .inl care)), (a2, .inl (cI, 81, .inl bits)), (a3, .inl (cI, 81, .inl had)), (v0, .inr (3, [.ref a0, .ref v1, .ref v2, .ref v3, .int ((nI S)), .long lo, .long hi, .int on, .int ze])), (v1, .inl (cJ, 81, .inr (.inl kl))), (v2, .inl (cJ, 81, .inr (.inl kh))), (v3, .inl (cI, 81, .inl row)), (m0, .inr (7, [.int ((nI N)), .int ((nI OU)), .ref b0, .ref t0, .ref f0, .ref g0, .ref k0, .ref v0, .ref d0, .int hk, .int po]))] := hD
  refine lv_aload_n hx hb d_Main_kernels_4 rfl (lv_at hl 0 rfl) ?_
  refine va_get (D := (dC, dI)) (ci := 7) (v := .ref v0) (C := R_Main) (T := F_Main) (N := 11) hx hb hts i_Main hown hK hP 11 rfl rfl 7 (by decide) (hts _ mw_fl_Main_68) (fun _ h9 => h9) rfl d_Main_kernels_5 ?_
  refine lv_aload_n hx hb d_Main_kernels_8 rfl (lv_at hl 0 rfl) ?_
  refine va_get (D := (dC, dI)) (ci := 7) (v := .ref k0) (C := R_Main) (T := F_Main) (N := 11) hx hb hts i_Main hown hK hP 11 rfl rfl 6 (by decide) (hts _ mw_fl_Main_62) (fun _ h9 => h9) rfl d_Main_kernels_9 ?_
  have hPc := hP.sub (ws' := [(v0, .inr (3, [.ref a0, .ref v1, .ref v2, .ref v3, .int ((nI S)), .long lo, .long hi, .int on, .int ze])), (v1, .inl (cJ, 81, .inr (.inl kl))), (v2, .inl (cJ, 81, .inr (.inl kh))), (v3, .inl (cI, 81, .inl row)), (k0, .inr (6, [.ref a0, .ref k1, .ref k2, .int ((nI TK))])), (k1, .inl (cI, 81, .inl kp)), (k2, .inl (cI, 81, .inl ko)), (a0, .inr (5, [.int ((nI N)), .int ((nI Z)), .ref a1, .ref a2, .ref a3])), (a1, .inl (cI, 81, .inl care)), (a2, .inl (cI, 81, .inl bits)), (a3, .inl (cI, 81, .inl had))]) [7, 8, 9, 10, 0, 1, 2, 3, 4, 5, 6] rfl
  have hDc := hD.sub (ws' := [(v0, .inr (3, [.ref a0, .ref v1, .ref v2, .ref v3, .int ((nI S)), .long lo, .long hi, .int on, .int ze])), (v1, .inl (cJ, 81, .inr (.inl kl))), (v2, .inl (cJ, 81, .inr (.inl kh))), (v3, .inl (cI, 81, .inl row)), (k0, .inr (6, [.ref a0, .ref k1, .ref k2, .int ((nI TK))])), (k1, .inl (cI, 81, .inl kp)), (k2, .inl (cI, 81, .inl ko)), (a0, .inr (5, [.int ((nI N)), .int ((nI Z)), .ref a1, .ref a2, .ref a3])), (a1, .inl (cI, 81, .inl care)), (a2, .inl (cI, 81, .inl bits)), (a3, .inl (cI, 81, .inl had))]) [7, 8, 9, 10, 0, 1, 2, 3, 4, 5, 6] (by decide) rfl
  have hFc := va_free (wc := [(v0, .inr (3, [.ref a0, .ref v1, .ref v2, .ref v3, .int ((nI S)), .long lo, .long hi, .int on, .int ze])), (v1, .inl (cJ, 81, .inr (.inl kl))), (v2, .inl (cJ, 81, .inr (.inl kh))), (v3, .inl (cI, 81, .inl row)), (k0, .inr (6, [.ref a0, .ref k1, .ref k2, .int ((nI TK))])), (k1, .inl (cI, 81, .inl kp)), (k2, .inl (cI, 81, .inl ko)), (a0, .inr (5, [.int ((nI N)), .int ((nI Z)), .ref a1, .ref a2, .ref a3])), (a1, .inl (cI, 81, .inl care)), (a2, .inl (cI, 81, .inl bits)), (a3, .inl (cI, 81, .inl had))]) hD hS hA [7, 8, 9, 10, 0, 1, 2, 3, 4, 5, 6] rfl
  refine va_calli (va_runV (As := [.ref k0]) (rest := []) ⟨hx, hb, hml, hown, hts⟩ (c_Division_countKernels l dC dI cI cJ _ v0 v1 v2 v3 (nI S) lo hi on ze kl kh row k0 k1 k2 TK kp ko a0 a1 a2 a3 N Z care bits had hN hTK hkp hZ8) (cwV 1 hts (ct_goodV mw_ml_Main_172 mw_im_Division_countKernels mw_se_Division_countKernels mw_ini_Division mw_code_Division_countKernels) rfl rfl rfl (by decide +kernel) ⟨Nat.le_of_ble_eq_true rfl, Nat.le_of_ble_eq_true rfl⟩) ⟨fun a U g mk q => by obtain ⟨q0, q1, qP, qK, qD⟩ := q; exact ⟨q0, q1, qP, va_K.moved (u := U) (U := U.calling g mk a) (Vm.Alike.refl U.vm) qK, qD⟩, va_recv hK hPc (ci := 3) (q0 := 0) rfl rfl, fun U hU hW => ⟨rfl, by rw [hU], by rw [hU]; exact hPc, va_K.moved hW.alike hK, hDc.weaken (fun _ _ _ _ => trivial)⟩⟩ rfl rfl hl.1 rfl (lv_room (Nat.le_of_ble_eq_true rfl)) d_Main_kernels_12 ⟨Nat.le_of_ble_eq_true rfl, Nat.le_of_ble_eq_true rfl⟩) hS (fun q _ h => hFc q h) hFc (fun r_2 u t H1 locs ht hvm hw hB hz1 hk1 hS => ?_)
  obtain ⟨hP1, hK1, hD1⟩ := hB
  rw [ht] at hP1
  obtain ⟨hP, hD⟩ := va_join (wr := [(m0, .inr (7, [.int ((nI N)), .int ((nI OU)), .ref b0, .ref t0, .ref f0, .ref g0, .ref k0, .ref v0, .ref d0, .int hk, .int po]))]) (w1 := [(v0, .inr (3, [.ref a0, .ref v1, .ref v2, .ref v3, .int ((nI S)), .long ((stK kp care bits N TK kl kh (lo, hi, on, ze) Z).2.2.2.1), .long ((stK kp care bits N TK kl kh (lo, hi, on, ze) Z).2.2.2.2.1), .int ((stK kp care bits N TK kl kh (lo, hi, on, ze) Z).2.2.2.2.2.1), .int ((stK kp care bits N TK kl kh (lo, hi, on, ze) Z).2.2.2.2.2.2)])), (v1, .inl (cJ, 81, .inr (.inl (((stK kp care bits N TK kl kh (lo, hi, on, ze) Z).2.1))))), (v2, .inl (cJ, 81, .inr (.inl (((stK kp care bits N TK kl kh (lo, hi, on, ze) Z).2.2.1))))), (v3, .inl (cI, 81, .inl row)), (k0, .inr (6, [.ref a0, .ref k1, .ref k2, .int ((nI TK))])), (k1, .inl (cI, 81, .inl kp)), (k2, .inl (cI, 81, .inl ko)), (a0, .inr (5, [.int ((nI N)), .int ((nI Z)), .ref a1, .ref a2, .ref a3])), (a1, .inl (cI, 81, .inl care)), (a2, .inl (cI, 81, .inl bits)), (a3, .inl (cI, 81, .inl had))]) hP hD [7, 8, 9, 10, 0, 1, 2, 3, 4, 5, 6] [11] rfl rfl (by decide) (by decide) hk1 hFc hP1 hD1
  clear hPc hDc hFc hP1 hK1 hD1 hk1 hz1 hvm ht
  generalize H1 = H at hP hS ⊢
  have hP : va_P (dC, dI) classes [(m0, .inr (7, [.int ((nI N)), .int ((nI OU)), .ref b0, .ref t0, .ref f0, .ref g0, .ref k0, .ref v0, .ref d0, .int hk, .int po])), (v0, .inr (3, [.ref a0, .ref v1, .ref v2, .ref v3, .int ((nI S)), .long ((stK kp care bits N TK kl kh (lo, hi, on, ze) Z).2.2.2.1), .long ((stK kp care bits N TK kl kh (lo, hi, on, ze) Z).2.2.2.2.1), .int ((stK kp care bits N TK kl kh (lo, hi, on, ze) Z).2.2.2.2.2.1), .int ((stK kp care bits N TK kl kh (lo, hi, on, ze) Z).2.2.2.2.2.2)])), (v1, .inl (cJ, 81, .inr (.inl (((stK kp care bits N TK kl kh (lo, hi, on, ze) Z).2.1))))), (v2, .inl (cJ, 81, .inr (.inl (((stK kp care bits N TK kl kh (lo, hi, on, ze) Z).2.2.1))))), (v3, .inl (cI, 81, .inl row)), (k0, .inr (6, [.ref a0, .ref k1, .ref k2, .int ((nI TK))])), (k1, .inl (cI, 81, .inl kp)), (k2, .inl (cI, 81, .inl ko)), (a0, .inr (5, [.int ((nI N)), .int ((nI Z)), .ref a1, .ref a2, .ref a3])), (a1, .inl (cI, 81, .inl care)), (a2, .inl (cI, 81, .inl bits)), (a3, .inl (cI, 81, .inl had))] H := hP
  have hD : va_D A [(m0, .inr (7, [.int ((nI N)), .int ((nI OU)), .ref b0, .ref t0, .ref f0, .ref g0, .ref k0, .ref v0, .ref d0, .int hk, .int po])), (v0, .inr (3, [.ref a0, .ref v1, .ref v2, .ref v3, .int ((nI S)), .long ((stK kp care bits N TK kl kh (lo, hi, on, ze) Z).2.2.2.1), .long ((stK kp care bits N TK kl kh (lo, hi, on, ze) Z).2.2.2.2.1), .int ((stK kp care bits N TK kl kh (lo, hi, on, ze) Z).2.2.2.2.2.1), .int ((stK kp care bits N TK kl kh (lo, hi, on, ze) Z).2.2.2.2.2.2)])), (v1, .inl (cJ, 81, .inr (.inl (((stK kp care bits N TK kl kh (lo, hi, on, ze) Z).2.1))))), (v2, .inl (cJ, 81, .inr (.inl (((stK kp care bits N TK kl kh (lo, hi, on, ze) Z).2.2.1))))), (v3, .inl (cI, 81, .inl row)), (k0, .inr (6, [.ref a0, .ref k1, .ref k2, .int ((nI TK))])), (k1, .inl (cI, 81, .inl kp)), (k2, .inl (cI, 81, .inl ko)), (a0, .inr (5, [.int ((nI N)), .int ((nI Z)), .ref a1, .ref a2, .ref a3])), (a1, .inl (cI, 81, .inl care)), (a2, .inl (cI, 81, .inl bits)), (a3, .inl (cI, 81, .inl had))] := hD
  rw [hw]
  clear hw
  have hP9 := hP.sub (ws' := [(m0, .inr (7, [.int ((nI N)), .int ((nI OU)), .ref b0, .ref t0, .ref f0, .ref g0, .ref k0, .ref v0, .ref d0, .int hk, .int po])), (k0, .inr (6, [.ref a0, .ref k1, .ref k2, .int ((nI TK))])), (k1, .inl (cI, 81, .inl kp)), (k2, .inl (cI, 81, .inl ko)), (a0, .inr (5, [.int ((nI N)), .int ((nI Z)), .ref a1, .ref a2, .ref a3])), (a1, .inl (cI, 81, .inl care)), (a2, .inl (cI, 81, .inl bits)), (a3, .inl (cI, 81, .inl had)), (v0, .inr (3, [.ref a0, .ref v1, .ref v2, .ref v3, .int ((nI S)), .long (((stK kp care bits N TK kl kh (lo, hi, on, ze) Z).2.2.2.1)), .long (((stK kp care bits N TK kl kh (lo, hi, on, ze) Z).2.2.2.2.1)), .int (((stK kp care bits N TK kl kh (lo, hi, on, ze) Z).2.2.2.2.2.1)), .int (((stK kp care bits N TK kl kh (lo, hi, on, ze) Z).2.2.2.2.2.2))])), (v1, .inl (cJ, 81, .inr (.inl ((((stK kp care bits N TK kl kh (lo, hi, on, ze) Z).2.1)))))), (v2, .inl (cJ, 81, .inr (.inl ((((stK kp care bits N TK kl kh (lo, hi, on, ze) Z).2.2.1)))))), (v3, .inl (cI, 81, .inl row))]) [0, 5, 6, 7, 8, 9, 10, 11, 1, 2, 3, 4] rfl
  have hD9 := hD.sub (ws' := [(m0, .inr (7, [.int ((nI N)), .int ((nI OU)), .ref b0, .ref t0, .ref f0, .ref g0, .ref k0, .ref v0, .ref d0, .int hk, .int po])), (k0, .inr (6, [.ref a0, .ref k1, .ref k2, .int ((nI TK))])), (k1, .inl (cI, 81, .inl kp)), (k2, .inl (cI, 81, .inl ko)), (a0, .inr (5, [.int ((nI N)), .int ((nI Z)), .ref a1, .ref a2, .ref a3])), (a1, .inl (cI, 81, .inl care)), (a2, .inl (cI, 81, .inl bits)), (a3, .inl (cI, 81, .inl had)), (v0, .inr (3, [.ref a0, .ref v1, .ref v2, .ref v3, .int ((nI S)), .long (((stK kp care bits N TK kl kh (lo, hi, on, ze) Z).2.2.2.1)), .long (((stK kp care bits N TK kl kh (lo, hi, on, ze) Z).2.2.2.2.1)), .int (((stK kp care bits N TK kl kh (lo, hi, on, ze) Z).2.2.2.2.2.1)), .int (((stK kp care bits N TK kl kh (lo, hi, on, ze) Z).2.2.2.2.2.2))])), (v1, .inl (cJ, 81, .inr (.inl ((((stK kp care bits N TK kl kh (lo, hi, on, ze) Z).2.1)))))), (v2, .inl (cJ, 81, .inr (.inl ((((stK kp care bits N TK kl kh (lo, hi, on, ze) Z).2.2.1)))))), (v3, .inl (cI, 81, .inl row))]) [0, 5, 6, 7, 8, 9, 10, 11, 1, 2, 3, 4] (by decide) rfl
  exact W.iret (v := (nI (stK kp care bits N TK kl kh (lo, hi, on, ze) Z).1)) hx hb hr (fun t ht hW => ⟨⟨(nI (stK kp care bits N TK kl kh (lo, hi, on, ze) Z).1), (S, (stK kp care bits N TK kl kh (lo, hi, on, ze) Z).2.2.2.1, (stK kp care bits N TK kl kh (lo, hi, on, ze) Z).2.2.2.2.1, (stK kp care bits N TK kl kh (lo, hi, on, ze) Z).2.2.2.2.2.1, (stK kp care bits N TK kl kh (lo, hi, on, ze) Z).2.2.2.2.2.2, ((stK kp care bits N TK kl kh (lo, hi, on, ze) Z).2.1), ((stK kp care bits N TK kl kh (lo, hi, on, ze) Z).2.2.1), row), rfl, ⟨rfl, hS8⟩, by rw [ht]; exact hP9, va_K.moved hW.alike hK, hD9⟩, hS.F ht⟩) hS.2.2 d_Main_kernels_15
