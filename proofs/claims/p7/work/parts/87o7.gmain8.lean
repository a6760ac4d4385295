/-! ===== a call that throws behind its writes ===== -/
def qbT (Es : List String) (Bw : State → Prop) (A : Nat → Prop) : Array Value → State → Outcome → State → Prop := fun _ st o t => xThr Es o t ∧ Bw t ∧ va_F A st t
/-! ===== the class: at, cost, equal, value by roads ===== -/
def coC (care kp ko : Nat → Int32) (k : Nat) : Int64 := itr (fun k acc => acc + (bcI (care (kp k).toNatClampNeg) + bcI (ko k)).toInt64) k 0
def eqC (on no hd : Nat → Int32) (o : Nat) : Bool := itr (fun o acc => acc && (decide (on o &&& (hd o ^^^ (-1)) = 0) && decide (hd o &&& (no o ^^^ (-1)) = 0))) o true
theorem eqC_f {on no hd : Nat → Int32} {i : Nat} (h : eqC on no hd i = false) : ∀ j, i ≤ j → eqC on no hd j = false := by
  intro j hj
  induction j with
  | zero => rw [Nat.le_zero.mp hj] at h; exact h
  | succ j ih =>
    by_cases hE : i = j + 1
    · subst hE; exact h
    · rw [show eqC on no hd (j + 1) = (eqC on no hd j && (decide (on j &&& (hd j ^^^ (-1)) = 0) && decide (hd j &&& (no j ^^^ (-1)) = 0))) from rfl, ih (by omega)]; rfl
theorem eqC_n1 {on no hd : Nat → Int32} {o : Nat} (h : ¬ on o &&& (hd o ^^^ (-1)) = 0) : eqC on no hd (o + 1) = false := by
  show (_ && (decide (on o &&& (hd o ^^^ (-1)) = 0) && _)) = false
  rw [decide_eq_false h, Bool.false_and, Bool.and_false]
theorem eqC_n2 {on no hd : Nat → Int32} {o : Nat} (h : ¬ hd o &&& (no o ^^^ (-1)) = 0) : eqC on no hd (o + 1) = false := by
  show (_ && (_ && decide (hd o &&& (no o ^^^ (-1)) = 0))) = false
  rw [decide_eq_false h, Bool.and_false, Bool.and_false]
theorem eqC_y {on no hd : Nat → Int32} {o : Nat} (h0 : eqC on no hd o = true) (h1 : on o &&& (hd o ^^^ (-1)) = 0) (h2 : hd o &&& (no o ^^^ (-1)) = 0) : eqC on no hd (o + 1) = true := by
  show (eqC on no hd o && (decide (on o &&& (hd o ^^^ (-1)) = 0) && decide (hd o &&& (no o ^^^ (-1)) = 0))) = true
  rw [h0, decide_eq_true h1, decide_eq_true h2]; rfl
theorem n2m {x y : Int64} (h : ¬ y ≤ x) : lg_cmp x y < 0 := by
  apply Int32.not_le.mp
  exact fun g => h ((lg_ge x y).mp g)
theorem colb {K : Nat} {x : Int32} (h : ¬ (if x < 0 ∨ nI K ≤ x then (0 : Int32) else 1) = 0) : ¬ (x < 0 ∨ nI K ≤ x) := fun g => h (if_pos g)
theorem isc {N OU : Nat} {y : Int32} (h : ¬ (if y < 0 then (0 : Int32) else if nI N + nI OU ≤ y then 0 else 1) = 0) : ¬ (y < 0 ∨ nI N + nI OU ≤ y) := by
  rintro (g | g)
  · exact h (if_pos g)
  · apply h
    by_cases h1 : y < 0
    · rw [if_pos h1]
    · rw [if_neg h1, if_pos g]
theorem isc_n {N OU J : Nat} (hJ : J < N + OU) (hN : N ≤ 4) (hOU : OU ≤ 2) : ¬ (if nI J < 0 then (0 : Int32) else if nI N + nI OU ≤ nI J then 0 else 1) = 0 := by
  rw [if_neg (nI_pos (by omega)), if_neg]
  · decide
  · rw [nI_add]
    exact fun g => absurd ((nI_leI (a := N + OU) (b := J) (by omega) (by omega)).mp g) (by omega)
theorem hold_n8 {C M : Nat} (h : C < M) (hM : M ≤ 81) : ¬ (nI C < 0 ∨ nI M ≤ nI C) := by
  rintro (g | g)
  · exact nI_pos (by omega) g
  · have := (nI_leI (a := M) (b := C) (by omega) (by omega)).mp g; omega
set_option maxHeartbeats 1000000 in
set_option maxRecDepth 100000 in
theorem t0_Main_needKept (l : Launch) (hfl : l.flags = flags0) (dC : Nat → ClassId) (dI : Nat → Nat → Nat) (cI cJ : ClassId) (sz0 : Nat) (m0 : Nat) (N : Nat) (OU : Nat) (b0 : Nat) (t0 : Nat) (f0 : Nat) (g0 : Nat) (k0 : Nat) (v0 : Nat) (d0 : Nat) (hk : Int32) (po : Int32) (hk0 : hk = 0) : xt_Met l y_Main_needKept (ct y_Main_needKept b_Main_needKept 1 (none)) ({ frames := 7, cells := 1, slots := 6, locals := 120 }) (va_Pc [.ref m0] (fun U => U.heap.size = sz0 ∧ va_P (dC, dI) classes [(m0, .inr (7, [.int ((nI N)), .int ((nI OU)), .ref b0, .ref t0, .ref f0, .ref g0, .ref k0, .ref v0, .ref d0, .int hk, .int po]))] U.heap ∧ va_K (dC, dI) classes [(cI, .int), (cJ, .long)] U ∧ va_D (fun _ => True) [(m0, .inr (7, [.int ((nI N)), .int ((nI OU)), .ref b0, .ref t0, .ref f0, .ref g0, .ref k0, .ref v0, .ref d0, .int hk, .int po]))] ∧ gl (va_A [(m0, .inr (7, [.int ((nI N)), .int ((nI OU)), .ref b0, .ref t0, .ref f0, .ref g0, .ref k0, .ref v0, .ref d0, .int hk, .int po]))] sz0) U U.heap)) (qbT ["java/lang/IllegalStateException"] (fun t => ∃ (uu : Unit), (True) ∧ at_w dC dI cI cJ (va_A [(m0, .inr (7, [.int ((nI N)), .int ((nI OU)), .ref b0, .ref t0, .ref f0, .ref g0, .ref k0, .ref v0, .ref d0, .int hk, .int po]))] sz0) [(m0, .inr (7, [.int ((nI N)), .int ((nI OU)), .ref b0, .ref t0, .ref f0, .ref g0, .ref k0, .ref v0, .ref d0, .int hk, .int po]))] t) (va_A [(m0, .inr (7, [.int ((nI N)), .int ((nI OU)), .ref b0, .ref t0, .ref f0, .ref g0, .ref k0, .ref v0, .ref d0, .int hk, .int po]))] sz0)) 1 6 (va_A [(m0, .inr (7, [.int ((nI N)), .int ((nI OU)), .ref b0, .ref t0, .ref f0, .ref g0, .ref k0, .ref v0, .ref d0, .int hk, .int po]))] sz0) := by
  refine xt_ofW (cc := b_Main_needKept) (maxL := 1) (ret := none) (by decide) rfl ?_
  intro p e s m args below meth c s₁ B hml hno hv
  obtain ⟨rfl, hsz, hP, hK, hD0, hG⟩ := hv
  have hx := B.exec
  have hb := B.bytes
  have hr := B.returns
  have hts : ∀ w ∈ lwg, w.before _ s = true := fun w h => atoms_spec (ws := ct y_Main_needKept b_Main_needKept 1 (none)) B.pre w (List.mem_cons_of_mem _ h)
  have hown : s.vm.findClass R_Main = some m.cls := findClass_of_methodNamed B.named
  have hlocks := B.notSynchronized
  subst hsz
  have hD := hD0.self (sz := s.heap.size)
  generalize hAe : va_A [(m0, .inr (7, [.int ((nI N)), .int ((nI OU)), .ref b0, .ref t0, .ref f0, .ref g0, .ref k0, .ref v0, .ref d0, .int hk, .int po]))] s.heap.size = A at hD hG ⊢
  have hA : ∀ q : Nat, s.heap.size ≤ q → A q := fun q h => by rw [← hAe]; exact Or.inr h
  have hS : va_S A s.heap s.heap [] := va_S.rf
  have hl := lv_entry ([.ref m0]) (n := 1) (Nat.le_of_ble_eq_true rfl)
  rw [lg_entry_eq]
  generalize (lg_sl ([.ref m0]) ++ List.replicate (1 - (lg_sl ([.ref m0])).length) Slot.unset).toArray = ls at hl ⊢
  have hl : lv_has ls 1 [(0, .ref m0)] := hl
  have hP : va_P (dC, dI) classes [(m0, .inr (7, [.int ((nI N)), .int ((nI OU)), .ref b0, .ref t0, .ref f0, .ref g0, .ref k0, .ref v0, .ref d0, .int hk, .int po]))] s.heap := hP
  obtain ⟨⟨tF, hZF, hTF⟩, hGr⟩ := id hG
  refine lv_aload_n hx hb d_Main_needKept_0 rfl (lv_at hl 0 rfl) ?_
  refine va_get (D := (dC, dI)) (ci := 7) (v := .int hk) (C := R_Main) (T := F_Main) (N := 11) hx hb hts i_Main hown hK hP 0 rfl rfl 9 (by decide) (hts _ mw_fl_Main_81) (fun _ h9 => h9) rfl d_Main_needKept_1 ?_
  refine lv_if_ne (tgt := 17) hx hb d_Main_needKept_4 (by decide) (fun c_4 => ?_) (fun c_4 => ?_)
  · exact absurd hk0 c_4
  · have hP9 := hP.sub (ws' := [(m0, .inr (7, [.int ((nI N)), .int ((nI OU)), .ref b0, .ref t0, .ref f0, .ref g0, .ref k0, .ref v0, .ref d0, .int hk, .int po]))]) [0] rfl
    have hD9 := hD.sub (ws' := [(m0, .inr (7, [.int ((nI N)), .int ((nI OU)), .ref b0, .ref t0, .ref f0, .ref g0, .ref k0, .ref v0, .ref d0, .int hk, .int po]))]) [0] (by decide) rfl
    have hG9 := (hG.kept hS.2.1).2
    obtain ⟨qS, hqS⟩ := hG9.2.2.2 (217, "no cover is kept") (by decide +kernel)
    exact xt_throwNew (A := A) (own := "CoverRows") (cls := "java/lang/IllegalStateException") (tx := "no cover is kept") (names := ["java/lang/RuntimeException", "java/lang/Exception"]) (ix := 215) (ik := 217) (ic := 219) hx hb hfl hts hG9.2.2.1 xc_215 hown (by decide +kernel) (by decide +kernel) hno hlocks hqS hG9.1 hG9.2.1 (hl.1.trans hml.symm) (Nat.le_of_ble_eq_true rfl) (Nat.le_of_ble_eq_true rfl) (Nat.le_of_ble_eq_true rfl) (Nat.le_of_ble_eq_true rfl) d_Main_needKept_7 d_Main_needKept_10 d_Main_needKept_11 d_Main_needKept_13 d_Main_needKept_16 (fun x t ce h1 h2 h3 h4 h5 h6 h7 => ⟨⟨x, ce, "java/lang/IllegalStateException", by decide +kernel, rfl, h5, h6, by rw [h2.alike.findClass]; exact h7⟩, ⟨(), trivial, hP9.kept (fun k q hk => h4 q.1 (hP9 k q hk).lt), va_K.moved h2.alike hK, hD9⟩, ⟨Nat.le_trans hS.1 h3, fun q g1 g2 => (h4 q (Nat.lt_of_lt_of_le g1 hS.1)).trans (hS.2.1 q g1 g2)⟩⟩) hS.2.2
set_option maxHeartbeats 1000000 in
set_option maxRecDepth 100000 in
theorem t1_Main_needKept (l : Launch) (dC : Nat → ClassId) (dI : Nat → Nat → Nat) (cI cJ : ClassId) (sz0 : Nat) (m0 : Nat) (N : Nat) (OU : Nat) (b0 : Nat) (t0 : Nat) (f0 : Nat) (g0 : Nat) (k0 : Nat) (v0 : Nat) (d0 : Nat) (hk : Int32) (po : Int32) (hk1 : ¬ hk = 0) : Met l y_Main_needKept (ct y_Main_needKept b_Main_needKept 1 (none)) ({ frames := 6, cells := 0, slots := 0, locals := 90 }) (va_Pc [.ref m0] (fun U => U.heap.size = sz0 ∧ va_P (dC, dI) classes [(m0, .inr (7, [.int ((nI N)), .int ((nI OU)), .ref b0, .ref t0, .ref f0, .ref g0, .ref k0, .ref v0, .ref d0, .int hk, .int po]))] U.heap ∧ va_K (dC, dI) classes [(cI, .int), (cJ, .long)] U ∧ va_D (fun _ => True) [(m0, .inr (7, [.int ((nI N)), .int ((nI OU)), .ref b0, .ref t0, .ref f0, .ref g0, .ref k0, .ref v0, .ref d0, .int hk, .int po]))])) (va_Qv (fun _ : Unit => True) (fun _ => at_w dC dI cI cJ (va_A [(m0, .inr (7, [.int ((nI N)), .int ((nI OU)), .ref b0, .ref t0, .ref f0, .ref g0, .ref k0, .ref v0, .ref d0, .int hk, .int po]))] sz0) [(m0, .inr (7, [.int ((nI N)), .int ((nI OU)), .ref b0, .ref t0, .ref f0, .ref g0, .ref k0, .ref v0, .ref d0, .int hk, .int po]))]) (va_A [(m0, .inr (7, [.int ((nI N)), .int ((nI OU)), .ref b0, .ref t0, .ref f0, .ref g0, .ref k0, .ref v0, .ref d0, .int hk, .int po]))] sz0)) 0 0 (va_A [(m0, .inr (7, [.int ((nI N)), .int ((nI OU)), .ref b0, .ref t0, .ref f0, .ref g0, .ref k0, .ref v0, .ref d0, .int hk, .int po]))] sz0) := by
  refine Met.ofW (cc := b_Main_needKept) (maxL := 1) (ret := none) (by decide) rfl ?_
  intro p e s m args below meth c s₁ B hml hv
  obtain ⟨rfl, hsz, hP, hK, hD0⟩ := hv
  have hx := B.exec
  have hb := B.bytes
  have hr := B.returns
  have hts : ∀ w ∈ lwg, w.before _ s = true := fun w h => atoms_spec (ws := ct y_Main_needKept b_Main_needKept 1 (none)) B.pre w (List.mem_cons_of_mem _ h)
  have hown : s.vm.findClass R_Main = some m.cls := findClass_of_methodNamed B.named
  have hlocks := B.notSynchronized
  subst hsz
  have hD := hD0.self (sz := s.heap.size)
  generalize hAe : va_A [(m0, .inr (7, [.int ((nI N)), .int ((nI OU)), .ref b0, .ref t0, .ref f0, .ref g0, .ref k0, .ref v0, .ref d0, .int hk, .int po]))] s.heap.size = A at hD ⊢
  have hA : ∀ q : Nat, s.heap.size ≤ q → A q := fun q h => by rw [← hAe]; exact Or.inr h
  have hS : va_S A s.heap s.heap [] := va_S.rf
  have hl := lv_entry ([.ref m0]) (n := 1) (Nat.le_of_ble_eq_true rfl)
  rw [lg_entry_eq]
  generalize (lg_sl ([.ref m0]) ++ List.replicate (1 - (lg_sl ([.ref m0])).length) Slot.unset).toArray = ls at hl ⊢
  have hl : lv_has ls 1 [(0, .ref m0)] := hl
  have hP : va_P (dC, dI) classes [(m0, .inr (7, [.int ((nI N)), .int ((nI OU)), .ref b0, .ref t0, .ref f0, .ref g0, .ref k0, .ref v0, .ref d0, .int hk, .int po]))] s.heap := hP
  refine lv_aload_n hx hb d_Main_needKept_0 rfl (lv_at hl 0 rfl) ?_
  refine va_get (D := (dC, dI)) (ci := 7) (v := .int hk) (C := R_Main) (T := F_Main) (N := 11) hx hb hts i_Main hown hK hP 0 rfl rfl 9 (by decide) (hts _ mw_fl_Main_81) (fun _ h9 => h9) rfl d_Main_needKept_1 ?_
  refine lv_if_ne (tgt := 17) hx hb d_Main_needKept_4 (by decide) (fun c_4 => ?_) (fun c_4 => ?_)
  · have hP9 := hP.sub (ws' := [(m0, .inr (7, [.int ((nI N)), .int ((nI OU)), .ref b0, .ref t0, .ref f0, .ref g0, .ref k0, .ref v0, .ref d0, .int hk, .int po]))]) [0] rfl
    have hD9 := hD.sub (ws' := [(m0, .inr (7, [.int ((nI N)), .int ((nI OU)), .ref b0, .ref t0, .ref f0, .ref g0, .ref k0, .ref v0, .ref d0, .int hk, .int po]))]) [0] (by decide) rfl
    exact W.vret hx hb hr (fun t ht hW => ⟨⟨(), rfl, trivial, by rw [ht]; exact hP9, va_K.moved hW.alike hK, hD9⟩, hS.F ht⟩) hS.2.2 d_Main_needKept_17
  · exact absurd c_4 hk1
