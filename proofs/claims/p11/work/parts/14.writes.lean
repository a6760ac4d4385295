/-! ===== Terms, Cubes: the methods that write, without a loop ===== -/
abbrev at_w (dC : Nat → ClassId) (dI : Nat → Nat → Nat) (cI cJ : ClassId) (A : Nat → Prop) (ws : va_W) (t : State) : Prop := va_P (dC, dI) classes ws t.heap ∧ va_K (dC, dI) classes [(cI, .int), (cJ, .long)] t ∧ va_D A ws
theorem upd_id {f : Nat → Int32} {k : Nat} {x : Int32} (h : f k = x) : upd f k x = f := by
  funext j
  simp only [upd]
  split
  · next h1 => subst h1; exact h.symm
  · rfl
set_option maxHeartbeats 4000000 in
set_option maxRecDepth 100000 in
theorem c_Terms_dropAll (l : Launch) (dC : Nat → ClassId) (dI : Nat → Nat → Nat) (cI cJ : ClassId) (sz0 : Nat) (t0 : Nat) (t1 : Nat) (t2 : Nat) (K : Nat) (tp : Nat → Int32) (to : Nat → Int32) (a0 : Nat) : Met l y_Terms_dropAll (ct y_Terms_dropAll b_Terms_dropAll 1 (none)) ({ frames := 0, cells := 0, slots := 0, locals := 0 }) (va_Pc [.ref t0] (fun U => U.heap.size = sz0 ∧ va_P (dC, dI) classes [(t0, .inr (6, [.ref a0, .ref t1, .ref t2, .int ((nI K))])), (t1, .inl (cI, 81, .inl tp)), (t2, .inl (cI, 81, .inl to))] U.heap ∧ va_K (dC, dI) classes [(cI, .int), (cJ, .long)] U ∧ va_D (fun _ => True) [(t0, .inr (6, [.ref a0, .ref t1, .ref t2, .int ((nI K))])), (t1, .inl (cI, 81, .inl tp)), (t2, .inl (cI, 81, .inl to))])) (va_Qv (fun _ : Unit => True) (fun _ => at_w dC dI cI cJ (va_A [(t0, .inr (6, [.ref a0, .ref t1, .ref t2, .int ((nI K))])), (t1, .inl (cI, 81, .inl tp)), (t2, .inl (cI, 81, .inl to))] sz0) [(t0, .inr (6, [.ref a0, .ref t1, .ref t2, .int 0])), (t1, .inl (cI, 81, .inl tp)), (t2, .inl (cI, 81, .inl to))]) (va_A [(t0, .inr (6, [.ref a0, .ref t1, .ref t2, .int ((nI K))])), (t1, .inl (cI, 81, .inl tp)), (t2, .inl (cI, 81, .inl to))] sz0)) 0 0 (va_A [(t0, .inr (6, [.ref a0, .ref t1, .ref t2, .int ((nI K))])), (t1, .inl (cI, 81, .inl tp)), (t2, .inl (cI, 81, .inl to))] sz0) := by
  refine Met.ofW (cc := b_Terms_dropAll) (maxL := 1) (ret := none) (by decide) rfl ?_
  intro p e s m args below meth c s₁ B hml hv
  obtain ⟨rfl, hsz, hP, hK, hD0⟩ := hv
  have hx := B.exec
  have hb := B.bytes
  have hr := B.returns
  have hts : ∀ w ∈ lwg, w.before _ s = true := fun w h => atoms_spec (ws := ct y_Terms_dropAll b_Terms_dropAll 1 (none)) B.pre w (List.mem_cons_of_mem _ h)
  have hown : s.vm.findClass R_Terms = some m.cls := findClass_of_methodNamed B.named
  have hlocks := B.notSynchronized
  subst hsz
  have hD := hD0.self (sz := s.heap.size)
  generalize hAe : va_A [(t0, .inr (6, [.ref a0, .ref t1, .ref t2, .int ((nI K))])), (t1, .inl (cI, 81, .inl tp)), (t2, .inl (cI, 81, .inl to))] s.heap.size = A at hD ⊢
  have hA : ∀ q : Nat, s.heap.size ≤ q → A q := fun q h => by rw [← hAe]; exact Or.inr h
  have hS : va_S A s.heap s.heap [] := va_S.rf
  have hl := lv_entry ([.ref t0]) (n := 1) (Nat.le_of_ble_eq_true rfl)
  rw [lg_entry_eq]
  generalize (lg_sl ([.ref t0]) ++ List.replicate (1 - (lg_sl ([.ref t0])).length) Slot.unset).toArray = ls at hl ⊢
  have hl : lv_has ls 1 [(0, .ref t0)] := hl
  have hP : va_P (dC, dI) classes [(t0, .inr (6, [.ref a0, .ref t1, .ref t2, .int ((nI K))])), (t1, .inl (cI, 81, .inl tp)), (t2, .inl (cI, 81, .inl to))] s.heap := hP
  refine lv_aload_n hx hb d_Terms_dropAll_0 rfl (lv_at hl 0 rfl) ?_
  refine lv_iconst (v := 0) hx hb d_Terms_dropAll_1 (by decide) ?_
  refine va_put (D := (dC, dI)) (ci := 6) (v := .int 0) (ty := .int) (C := R_Terms) (T := F_Terms) (N := 4) hx hb hts i_Terms t_Terms t_Terms_ok n_Terms hown hK hP hD hS 0 rfl rfl 3 (by decide) (hts _ mw_fl_Terms_22) (fun _ h9 => h9) rfl (by decide +kernel) rfl rfl (Nat.le_of_ble_eq_true rfl) d_Terms_dropAll_2 (fun H locs hP hD hS => ?_)
  have hP : va_P (dC, dI) classes [(t0, .inr (6, [.ref a0, .ref t1, .ref t2, .int 0])), (t1, .inl (cI, 81, .inl tp)), (t2, .inl (cI, 81, .inl to))] H := hP
  have hD : va_D A [(t0, .inr (6, [.ref a0, .ref t1, .ref t2, .int 0])), (t1, .inl (cI, 81, .inl tp)), (t2, .inl (cI, 81, .inl to))] := hD
  have hP9 := hP.sub (ws' := [(t0, .inr (6, [.ref a0, .ref t1, .ref t2, .int 0])), (t1, .inl (cI, 81, .inl tp)), (t2, .inl (cI, 81, .inl to))]) [0, 1, 2] rfl
  have hD9 := hD.sub (ws' := [(t0, .inr (6, [.ref a0, .ref t1, .ref t2, .int 0])), (t1, .inl (cI, 81, .inl tp)), (t2, .inl (cI, 81, .inl to))]) [0, 1, 2] (by decide) rfl
  exact W.vret hx hb hr (fun t ht hW => ⟨⟨(), rfl, trivial, by rw [ht]; exact hP9, va_K.moved hW.alike hK, hD9⟩, hS.F ht⟩) hS.2.2 d_Terms_dropAll_5
set_option maxHeartbeats 4000000 in
set_option maxRecDepth 100000 in
theorem c_Terms_add (l : Launch) (dC : Nat → ClassId) (dI : Nat → Nat → Nat) (cI cJ : ClassId) (sz0 : Nat) (t0 : Nat) (t1 : Nat) (t2 : Nat) (K : Nat) (tp : Nat → Int32) (to : Nat → Int32) (a0 : Nat) (x : Int32) (y : Int32) (hK1 : K < 81) : Met l y_Terms_add (ct y_Terms_add b_Terms_add 3 (none)) ({ frames := 0, cells := 0, slots := 0, locals := 0 }) (va_Pc [.ref t0, .int x, .int y] (fun U => U.heap.size = sz0 ∧ va_P (dC, dI) classes [(t0, .inr (6, [.ref a0, .ref t1, .ref t2, .int ((nI K))])), (t1, .inl (cI, 81, .inl tp)), (t2, .inl (cI, 81, .inl to))] U.heap ∧ va_K (dC, dI) classes [(cI, .int), (cJ, .long)] U ∧ va_D (fun _ => True) [(t0, .inr (6, [.ref a0, .ref t1, .ref t2, .int ((nI K))])), (t1, .inl (cI, 81, .inl tp)), (t2, .inl (cI, 81, .inl to))])) (va_Qv (fun _ : Unit => True) (fun _ => at_w dC dI cI cJ (va_A [(t0, .inr (6, [.ref a0, .ref t1, .ref t2, .int ((nI K))])), (t1, .inl (cI, 81, .inl tp)), (t2, .inl (cI, 81, .inl to))] sz0) [(t0, .inr (6, [.ref a0, .ref t1, .ref t2, .int ((nI (K + 1)))])), (t1, .inl (cI, 81, .inl ((upd tp K x)))), (t2, .inl (cI, 81, .inl ((upd to K y))))]) (va_A [(t0, .inr (6, [.ref a0, .ref t1, .ref t2, .int ((nI K))])), (t1, .inl (cI, 81, .inl tp)), (t2, .inl (cI, 81, .inl to))] sz0)) 0 0 (va_A [(t0, .inr (6, [.ref a0, .ref t1, .ref t2, .int ((nI K))])), (t1, .inl (cI, 81, .inl tp)), (t2, .inl (cI, 81, .inl to))] sz0) := by
  refine Met.ofW (cc := b_Terms_add) (maxL := 3) (ret := none) (by decide) rfl ?_
  intro p e s m args below meth c s₁ B hml hv
  obtain ⟨rfl, hsz, hP, hK, hD0⟩ := hv
  have hx := B.exec
  have hb := B.bytes
  have hr := B.returns
  have hts : ∀ w ∈ lwg, w.before _ s = true := fun w h => atoms_spec (ws := ct y_Terms_add b_Terms_add 3 (none)) B.pre w (List.mem_cons_of_mem _ h)
  have hown : s.vm.findClass R_Terms = some m.cls := findClass_of_methodNamed B.named
  have hlocks := B.notSynchronized
  subst hsz
  have hD := hD0.self (sz := s.heap.size)
  generalize hAe : va_A [(t0, .inr (6, [.ref a0, .ref t1, .ref t2, .int ((nI K))])), (t1, .inl (cI, 81, .inl tp)), (t2, .inl (cI, 81, .inl to))] s.heap.size = A at hD ⊢
  have hA : ∀ q : Nat, s.heap.size ≤ q → A q := fun q h => by rw [← hAe]; exact Or.inr h
  have hS : va_S A s.heap s.heap [] := va_S.rf
  have hl := lv_entry ([.ref t0, .int x, .int y]) (n := 3) (Nat.le_of_ble_eq_true rfl)
  rw [lg_entry_eq]
  generalize (lg_sl ([.ref t0, .int x, .int y]) ++ List.replicate (3 - (lg_sl ([.ref t0, .int x, .int y])).length) Slot.unset).toArray = ls at hl ⊢
  have hl : lv_has ls 3 [(0, .ref t0), (1, .int x), (2, .int y)] := hl
  have hP : va_P (dC, dI) classes [(t0, .inr (6, [.ref a0, .ref t1, .ref t2, .int ((nI K))])), (t1, .inl (cI, 81, .inl tp)), (t2, .inl (cI, 81, .inl to))] s.heap := hP
  refine lv_aload_n hx hb d_Terms_add_0 rfl (lv_at hl 0 rfl) ?_
  refine va_get (D := (dC, dI)) (ci := 6) (v := .int ((nI K))) (C := R_Terms) (T := F_Terms) (N := 4) hx hb hts i_Terms hown hK hP 0 rfl rfl 3 (by decide) (hts _ mw_fl_Terms_22) (fun _ h9 => h9) rfl d_Terms_add_1 ?_
  refine lv_bipush (v := 81) hx hb d_Terms_add_4 (by decide) ?_
  refine lv_icmp_ge (tgt := 39) hx hb d_Terms_add_6 (by decide) (fun c_6 => ?_) (fun c_6 => ?_)
  · exact absurd ((nI_leI (a := 81) (b := K) (by omega) (by omega)).mp c_6) (by omega)
  · refine lv_aload_n hx hb d_Terms_add_9 rfl (lv_at hl 0 rfl) ?_
    refine va_get (D := (dC, dI)) (ci := 6) (v := .ref t1) (C := R_Terms) (T := F_Terms) (N := 4) hx hb hts i_Terms hown hK hP 0 rfl rfl 1 (by decide) (hts _ mw_fl_Terms_9) (fun _ h9 => h9) rfl d_Terms_add_10 ?_
    refine lv_aload_n hx hb d_Terms_add_13 rfl (lv_at hl 0 rfl) ?_
    refine va_get (D := (dC, dI)) (ci := 6) (v := .int ((nI K))) (C := R_Terms) (T := F_Terms) (N := 4) hx hb hts i_Terms hown hK hP 0 rfl rfl 3 (by decide) (hts _ mw_fl_Terms_22) (fun _ h9 => h9) rfl d_Terms_add_14 ?_
    refine lv_iload_n hx hb d_Terms_add_17 rfl (lv_at hl 1 rfl) ?_
    refine va_iast hx hb hK hP hD hS 1 0 rfl rfl (vp_in_nI hK1 (by omega)) d_Terms_add_18 (fun H locs hP hD hS => ?_)
    have hP : va_P (dC, dI) classes [(t0, .inr (6, [.ref a0, .ref t1, .ref t2, .int ((nI K))])), (t1, .inl (cI, 81, .inl ((upd tp (nI K).toNatClampNeg x)))), (t2, .inl (cI, 81, .inl to))] H := hP
    have hD : va_D A [(t0, .inr (6, [.ref a0, .ref t1, .ref t2, .int ((nI K))])), (t1, .inl (cI, 81, .inl ((upd tp (nI K).toNatClampNeg x)))), (t2, .inl (cI, 81, .inl to))] := hD
    rw [show (nI K).toNatClampNeg = K from nI_clamp (by omega)] at hP hD
    refine lv_aload_n hx hb d_Terms_add_19 rfl (lv_at hl 0 rfl) ?_
    refine va_get (D := (dC, dI)) (ci := 6) (v := .ref t2) (C := R_Terms) (T := F_Terms) (N := 4) hx hb hts i_Terms hown hK hP 0 rfl rfl 2 (by decide) (hts _ mw_fl_Terms_15) (fun _ h9 => h9) rfl d_Terms_add_20 ?_
    refine lv_aload_n hx hb d_Terms_add_23 rfl (lv_at hl 0 rfl) ?_
    refine va_get (D := (dC, dI)) (ci := 6) (v := .int ((nI K))) (C := R_Terms) (T := F_Terms) (N := 4) hx hb hts i_Terms hown hK hP 0 rfl rfl 3 (by decide) (hts _ mw_fl_Terms_22) (fun _ h9 => h9) rfl d_Terms_add_24 ?_
    refine lv_iload_n hx hb d_Terms_add_27 rfl (lv_at hl 2 rfl) ?_
    refine va_iast hx hb hK hP hD hS 2 0 rfl rfl (vp_in_nI hK1 (by omega)) d_Terms_add_28 (fun H locs hP hD hS => ?_)
    have hP : va_P (dC, dI) classes [(t0, .inr (6, [.ref a0, .ref t1, .ref t2, .int ((nI K))])), (t1, .inl (cI, 81, .inl ((upd tp K x)))), (t2, .inl (cI, 81, .inl ((upd to (nI K).toNatClampNeg y))))] H := hP
    have hD : va_D A [(t0, .inr (6, [.ref a0, .ref t1, .ref t2, .int ((nI K))])), (t1, .inl (cI, 81, .inl ((upd tp K x)))), (t2, .inl (cI, 81, .inl ((upd to (nI K).toNatClampNeg y))))] := hD
    rw [show (nI K).toNatClampNeg = K from nI_clamp (by omega)] at hP hD
    refine lv_aload_n hx hb d_Terms_add_29 rfl (lv_at hl 0 rfl) ?_
    refine lv_dup hx hb d_Terms_add_30 rfl ?_
    refine va_get (D := (dC, dI)) (ci := 6) (v := .int ((nI K))) (C := R_Terms) (T := F_Terms) (N := 4) hx hb hts i_Terms hown hK hP 0 rfl rfl 3 (by decide) (hts _ mw_fl_Terms_22) (fun _ h9 => h9) rfl d_Terms_add_31 ?_
    refine lv_iconst (v := 1) hx hb d_Terms_add_34 (by decide) ?_
    refine lv_iadd hx hb d_Terms_add_35 ?_
    refine w_ti (show _ = nI (K + 1) from nI_1 K) ?_
    refine va_put (D := (dC, dI)) (ci := 6) (v := .int ((nI (K + 1)))) (ty := .int) (C := R_Terms) (T := F_Terms) (N := 4) hx hb hts i_Terms t_Terms t_Terms_ok n_Terms hown hK hP hD hS 0 rfl rfl 3 (by decide) (hts _ mw_fl_Terms_22) (fun _ h9 => h9) rfl (by decide +kernel) rfl rfl (Nat.le_of_ble_eq_true rfl) d_Terms_add_36 (fun H locs hP hD hS => ?_)
    have hP : va_P (dC, dI) classes [(t0, .inr (6, [.ref a0, .ref t1, .ref t2, .int ((nI (K + 1)))])), (t1, .inl (cI, 81, .inl ((upd tp K x)))), (t2, .inl (cI, 81, .inl ((upd to K y))))] H := hP
    have hD : va_D A [(t0, .inr (6, [.ref a0, .ref t1, .ref t2, .int ((nI (K + 1)))])), (t1, .inl (cI, 81, .inl ((upd tp K x)))), (t2, .inl (cI, 81, .inl ((upd to K y))))] := hD
    have hP9 := hP.sub (ws' := [(t0, .inr (6, [.ref a0, .ref t1, .ref t2, .int ((nI (K + 1)))])), (t1, .inl (cI, 81, .inl ((upd tp K x)))), (t2, .inl (cI, 81, .inl ((upd to K y))))]) [0, 1, 2] rfl
    have hD9 := hD.sub (ws' := [(t0, .inr (6, [.ref a0, .ref t1, .ref t2, .int ((nI (K + 1)))])), (t1, .inl (cI, 81, .inl ((upd tp K x)))), (t2, .inl (cI, 81, .inl ((upd to K y))))]) [0, 1, 2] (by decide) rfl
    exact W.vret hx hb hr (fun t ht hW => ⟨⟨(), rfl, trivial, by rw [ht]; exact hP9, va_K.moved hW.alike hK, hD9⟩, hS.F ht⟩) hS.2.2 d_Terms_add_39
set_option maxHeartbeats 4000000 in
set_option maxRecDepth 100000 in
theorem c_Cubes_dropAll (l : Launch) (dC : Nat → ClassId) (dI : Nat → Nat → Nat) (cI cJ : ClassId) (sz0 : Nat) (b0 : Nat) (b1 : Nat) (b2 : Nat) (M : Nat) (o : Int32) (prod : Nat → Int32) (kind : Nat → Int32) (a0 : Nat) : Met l y_Cubes_dropAll (ct y_Cubes_dropAll b_Cubes_dropAll 1 (none)) ({ frames := 0, cells := 0, slots := 0, locals := 0 }) (va_Pc [.ref b0] (fun U => U.heap.size = sz0 ∧ va_P (dC, dI) classes [(b0, .inr (1, [.ref a0, .int o, .ref b1, .ref b2, .int ((nI M))])), (b1, .inl (cI, 24, .inl prod)), (b2, .inl (cI, 48, .inl kind))] U.heap ∧ va_K (dC, dI) classes [(cI, .int), (cJ, .long)] U ∧ va_D (fun _ => True) [(b0, .inr (1, [.ref a0, .int o, .ref b1, .ref b2, .int ((nI M))])), (b1, .inl (cI, 24, .inl prod)), (b2, .inl (cI, 48, .inl kind))])) (va_Qv (fun _ : Unit => True) (fun _ => at_w dC dI cI cJ (va_A [(b0, .inr (1, [.ref a0, .int o, .ref b1, .ref b2, .int ((nI M))])), (b1, .inl (cI, 24, .inl prod)), (b2, .inl (cI, 48, .inl kind))] sz0) [(b0, .inr (1, [.ref a0, .int o, .ref b1, .ref b2, .int 0])), (b1, .inl (cI, 24, .inl prod)), (b2, .inl (cI, 48, .inl kind))]) (va_A [(b0, .inr (1, [.ref a0, .int o, .ref b1, .ref b2, .int ((nI M))])), (b1, .inl (cI, 24, .inl prod)), (b2, .inl (cI, 48, .inl kind))] sz0)) 0 0 (va_A [(b0, .inr (1, [.ref a0, .int o, .ref b1, .ref b2, .int ((nI M))])), (b1, .inl (cI, 24, .inl prod)), (b2, .inl (cI, 48, .inl kind))] sz0) := by
  refine Met.ofW (cc := b_Cubes_dropAll) (maxL := 1) (ret := none) (by decide) rfl ?_
  intro p e s m args below meth c s₁ B hml hv
  obtain ⟨rfl, hsz, hP, hK, hD0⟩ := hv
  have hx := B.exec
  have hb := B.bytes
  have hr := B.returns
  have hts : ∀ w ∈ lwg, w.before _ s = true := fun w h => atoms_spec (ws := ct y_Cubes_dropAll b_Cubes_dropAll 1 (none)) B.pre w (List.mem_cons_of_mem _ h)
  have hown : s.vm.findClass R_Cubes = some m.cls := findClass_of_methodNamed B.named
  have hlocks := B.notSynchronized
  subst hsz
  have hD := hD0.self (sz := s.heap.size)
  generalize hAe : va_A [(b0, .inr (1, [.ref a0, .int o, .ref b1, .ref b2, .int ((nI M))])), (b1, .inl (cI, 24, .inl prod)), (b2, .inl (cI, 48, .inl kind))] s.heap.size = A at hD ⊢
  have hA : ∀ q : Nat, s.heap.size ≤ q → A q := fun q h => by rw [← hAe]; exact Or.inr h
  have hS : va_S A s.heap s.heap [] := va_S.rf
  have hl := lv_entry ([.ref b0]) (n := 1) (Nat.le_of_ble_eq_true rfl)
  rw [lg_entry_eq]
  generalize (lg_sl ([.ref b0]) ++ List.replicate (1 - (lg_sl ([.ref b0])).length) Slot.unset).toArray = ls at hl ⊢
  have hl : lv_has ls 1 [(0, .ref b0)] := hl
  have hP : va_P (dC, dI) classes [(b0, .inr (1, [.ref a0, .int o, .ref b1, .ref b2, .int ((nI M))])), (b1, .inl (cI, 24, .inl prod)), (b2, .inl (cI, 48, .inl kind))] s.heap := hP
  refine lv_aload_n hx hb d_Cubes_dropAll_0 rfl (lv_at hl 0 rfl) ?_
  refine lv_iconst (v := 0) hx hb d_Cubes_dropAll_1 (by decide) ?_
  refine va_put (D := (dC, dI)) (ci := 1) (v := .int 0) (ty := .int) (C := R_Cubes) (T := F_Cubes) (N := 5) hx hb hts i_Cubes t_Cubes t_Cubes_ok n_Cubes hown hK hP hD hS 0 rfl rfl 4 (by decide) (hts _ mw_fl_Cubes_26) (fun _ h9 => h9) rfl (by decide +kernel) rfl rfl (Nat.le_of_ble_eq_true rfl) d_Cubes_dropAll_2 (fun H locs hP hD hS => ?_)
  have hP : va_P (dC, dI) classes [(b0, .inr (1, [.ref a0, .int o, .ref b1, .ref b2, .int 0])), (b1, .inl (cI, 24, .inl prod)), (b2, .inl (cI, 48, .inl kind))] H := hP
  have hD : va_D A [(b0, .inr (1, [.ref a0, .int o, .ref b1, .ref b2, .int 0])), (b1, .inl (cI, 24, .inl prod)), (b2, .inl (cI, 48, .inl kind))] := hD
  have hP9 := hP.sub (ws' := [(b0, .inr (1, [.ref a0, .int o, .ref b1, .ref b2, .int 0])), (b1, .inl (cI, 24, .inl prod)), (b2, .inl (cI, 48, .inl kind))]) [0, 1, 2] rfl
  have hD9 := hD.sub (ws' := [(b0, .inr (1, [.ref a0, .int o, .ref b1, .ref b2, .int 0])), (b1, .inl (cI, 24, .inl prod)), (b2, .inl (cI, 48, .inl kind))]) [0, 1, 2] (by decide) rfl
  exact W.vret hx hb hr (fun t ht hW => ⟨⟨(), rfl, trivial, by rw [ht]; exact hP9, va_K.moved hW.alike hK, hD9⟩, hS.F ht⟩) hS.2.2 d_Cubes_dropAll_5
set_option maxHeartbeats 4000000 in
set_option maxRecDepth 100000 in
theorem c_Cubes_setKind (l : Launch) (dC : Nat → ClassId) (dI : Nat → Nat → Nat) (cI cJ : ClassId) (sz0 : Nat) (b0 : Nat) (b1 : Nat) (b2 : Nat) (M : Nat) (o : Int32) (prod : Nat → Int32) (kind : Nat → Int32) (a0 : Nat) (C : Nat) (O : Nat) (kd : Int32) (hC : C < 24) (hO : O < 2) : Met l y_Cubes_setKind (ct y_Cubes_setKind b_Cubes_setKind 5 (some .boolean)) ({ frames := 0, cells := 0, slots := 0, locals := 0 }) (va_Pc [.ref b0, .int ((nI C)), .int ((nI O)), .int kd] (fun U => U.heap.size = sz0 ∧ va_P (dC, dI) classes [(b0, .inr (1, [.ref a0, .int o, .ref b1, .ref b2, .int ((nI M))])), (b1, .inl (cI, 24, .inl prod)), (b2, .inl (cI, 48, .inl kind))] U.heap ∧ va_K (dC, dI) classes [(cI, .int), (cJ, .long)] U ∧ va_D (fun _ => True) [(b0, .inr (1, [.ref a0, .int o, .ref b1, .ref b2, .int ((nI M))])), (b1, .inl (cI, 24, .inl prod)), (b2, .inl (cI, 48, .inl kind))])) (va_Qi (fun (r : Int32) (_ : Unit) => r = if kind (C * 2 + O) = kd then 0 else 1) (fun _ => at_w dC dI cI cJ (va_A [(b0, .inr (1, [.ref a0, .int o, .ref b1, .ref b2, .int ((nI M))])), (b1, .inl (cI, 24, .inl prod)), (b2, .inl (cI, 48, .inl kind))] sz0) [(b0, .inr (1, [.ref a0, .int o, .ref b1, .ref b2, .int ((nI M))])), (b1, .inl (cI, 24, .inl prod)), (b2, .inl (cI, 48, .inl ((upd kind (C * 2 + O) kd))))]) (va_A [(b0, .inr (1, [.ref a0, .int o, .ref b1, .ref b2, .int ((nI M))])), (b1, .inl (cI, 24, .inl prod)), (b2, .inl (cI, 48, .inl kind))] sz0)) 0 0 (va_A [(b0, .inr (1, [.ref a0, .int o, .ref b1, .ref b2, .int ((nI M))])), (b1, .inl (cI, 24, .inl prod)), (b2, .inl (cI, 48, .inl kind))] sz0) := by
  refine Met.ofW (cc := b_Cubes_setKind) (maxL := 5) (ret := some .boolean) (by decide) rfl ?_
  intro p e s m args below meth c s₁ B hml hv
  obtain ⟨rfl, hsz, hP, hK, hD0⟩ := hv
  have hx := B.exec
  have hb := B.bytes
  have hr := B.returns
  have hts : ∀ w ∈ lwg, w.before _ s = true := fun w h => atoms_spec (ws := ct y_Cubes_setKind b_Cubes_setKind 5 (some .boolean)) B.pre w (List.mem_cons_of_mem _ h)
  have hown : s.vm.findClass R_Cubes = some m.cls := findClass_of_methodNamed B.named
  have hlocks := B.notSynchronized
  subst hsz
  have hD := hD0.self (sz := s.heap.size)
  generalize hAe : va_A [(b0, .inr (1, [.ref a0, .int o, .ref b1, .ref b2, .int ((nI M))])), (b1, .inl (cI, 24, .inl prod)), (b2, .inl (cI, 48, .inl kind))] s.heap.size = A at hD ⊢
  have hA : ∀ q : Nat, s.heap.size ≤ q → A q := fun q h => by rw [← hAe]; exact Or.inr h
  have hS : va_S A s.heap s.heap [] := va_S.rf
  have hl := lv_entry ([.ref b0, .int ((nI C)), .int ((nI O)), .int kd]) (n := 5) (Nat.le_of_ble_eq_true rfl)
  rw [lg_entry_eq]
  generalize (lg_sl ([.ref b0, .int ((nI C)), .int ((nI O)), .int kd]) ++ List.replicate (5 - (lg_sl ([.ref b0, .int ((nI C)), .int ((nI O)), .int kd])).length) Slot.unset).toArray = ls at hl ⊢
  have hl : lv_has ls 5 [(0, .ref b0), (1, .int ((nI C))), (2, .int ((nI O))), (3, .int kd)] := hl
  have hP : va_P (dC, dI) classes [(b0, .inr (1, [.ref a0, .int o, .ref b1, .ref b2, .int ((nI M))])), (b1, .inl (cI, 24, .inl prod)), (b2, .inl (cI, 48, .inl kind))] s.heap := hP
  refine lv_iload_n hx hb d_Cubes_setKind_0 rfl (lv_at hl 1 rfl) ?_
  refine lv_iconst (v := 2) hx hb d_Cubes_setKind_1 (by decide) ?_
  refine lv_imul hx hb d_Cubes_setKind_2 ?_
  refine lv_iload_n hx hb d_Cubes_setKind_3 rfl (lv_at hl 2 rfl) ?_
  refine lv_iadd hx hb d_Cubes_setKind_4 ?_
  refine w_ti (show _ = nI (C * 2 + O) from nI_m2 C O) ?_
  refine lv_istore (lv' := [(4, .int ((nI (C * 2 + O)))), (0, .ref b0), (1, .int ((nI C))), (2, .int ((nI O))), (3, .int kd)]) hx hb d_Cubes_setKind_5 hl (by decide) rfl (fun ls hl => ?_)
  refine lv_aload_n hx hb d_Cubes_setKind_7 rfl (lv_at hl 1 rfl) ?_
  refine va_get (D := (dC, dI)) (ci := 1) (v := .ref b2) (C := R_Cubes) (T := F_Cubes) (N := 5) hx hb hts i_Cubes hown hK hP 0 rfl rfl 3 (by decide) (hts _ mw_fl_Cubes_15) (fun _ h9 => h9) rfl d_Cubes_setKind_8 ?_
  refine lv_iload hx hb d_Cubes_setKind_11 (lv_at hl 0 rfl) ?_
  refine va_iald hx hb hK hP 2 0 rfl rfl (vp_in_nI (show C * 2 + O < 48 by omega) (by omega)) d_Cubes_setKind_13 ?_
  refine w_ti (show _ = kind (C * 2 + O) from by rw [nI_clamp (by omega)]) ?_
  refine lv_iload_n hx hb d_Cubes_setKind_14 rfl (lv_at hl 4 rfl) ?_
  refine lv_icmp_ne (tgt := 20) hx hb d_Cubes_setKind_15 (by decide) (fun c_15 => ?_) (fun c_15 => ?_)
  · refine lv_aload_n hx hb d_Cubes_setKind_20 rfl (lv_at hl 1 rfl) ?_
    refine va_get (D := (dC, dI)) (ci := 1) (v := .ref b2) (C := R_Cubes) (T := F_Cubes) (N := 5) hx hb hts i_Cubes hown hK hP 0 rfl rfl 3 (by decide) (hts _ mw_fl_Cubes_15) (fun _ h9 => h9) rfl d_Cubes_setKind_21 ?_
    refine lv_iload hx hb d_Cubes_setKind_24 (lv_at hl 0 rfl) ?_
    refine lv_iload_n hx hb d_Cubes_setKind_26 rfl (lv_at hl 4 rfl) ?_
    refine va_iast hx hb hK hP hD hS 2 0 rfl rfl (vp_in_nI (show C * 2 + O < 48 by omega) (by omega)) d_Cubes_setKind_27 (fun H locs hP hD hS => ?_)
    have hP : va_P (dC, dI) classes [(b0, .inr (1, [.ref a0, .int o, .ref b1, .ref b2, .int ((nI M))])), (b1, .inl (cI, 24, .inl prod)), (b2, .inl (cI, 48, .inl ((upd kind (nI (C * 2 + O)).toNatClampNeg kd))))] H := hP
    have hD : va_D A [(b0, .inr (1, [.ref a0, .int o, .ref b1, .ref b2, .int ((nI M))])), (b1, .inl (cI, 24, .inl prod)), (b2, .inl (cI, 48, .inl ((upd kind (nI (C * 2 + O)).toNatClampNeg kd))))] := hD
    rw [show (nI (C * 2 + O)).toNatClampNeg = C * 2 + O from nI_clamp (by omega)] at hP hD
    refine lv_iconst (v := 1) hx hb d_Cubes_setKind_28 (by decide) ?_
    have hP9 := hP.sub (ws' := [(b0, .inr (1, [.ref a0, .int o, .ref b1, .ref b2, .int ((nI M))])), (b1, .inl (cI, 24, .inl prod)), (b2, .inl (cI, 48, .inl ((upd kind (C * 2 + O) kd))))]) [0, 1, 2] rfl
    have hD9 := hD.sub (ws' := [(b0, .inr (1, [.ref a0, .int o, .ref b1, .ref b2, .int ((nI M))])), (b1, .inl (cI, 24, .inl prod)), (b2, .inl (cI, 48, .inl ((upd kind (C * 2 + O) kd))))]) [0, 1, 2] (by decide) rfl
    exact W.zret (v := 1) hx hb hr (by decide) (fun t ht hW => ⟨⟨1, (), rfl, by simp [c_15], by rw [ht]; exact hP9, va_K.moved hW.alike hK, hD9⟩, hS.F ht⟩) hS.2.2 d_Cubes_setKind_29
  · refine lv_iconst (v := 0) hx hb d_Cubes_setKind_18 (by decide) ?_
    have hP9 := hP.sub (ws' := [(b0, .inr (1, [.ref a0, .int o, .ref b1, .ref b2, .int ((nI M))])), (b1, .inl (cI, 24, .inl prod)), (b2, .inl (cI, 48, .inl ((upd kind (C * 2 + O) kd))))]) [0, 1, 2] (by rw [upd_id c_15]; rfl)
    have hD9 := hD.sub (ws' := [(b0, .inr (1, [.ref a0, .int o, .ref b1, .ref b2, .int ((nI M))])), (b1, .inl (cI, 24, .inl prod)), (b2, .inl (cI, 48, .inl ((upd kind (C * 2 + O) kd))))]) [0, 1, 2] (by decide) (by rw [upd_id c_15]; rfl)
    exact W.zret (v := 0) hx hb hr (by decide) (fun t ht hW => ⟨⟨0, (), rfl, by simp [c_15], by rw [ht]; exact hP9, va_K.moved hW.alike hK, hD9⟩, hS.F ht⟩) hS.2.2 d_Cubes_setKind_19
set_option maxHeartbeats 4000000 in
set_option maxRecDepth 100000 in
theorem c_Cubes_setDigit (l : Launch) (dC : Nat → ClassId) (dI : Nat → Nat → Nat) (cI cJ : ClassId) (sz0 : Nat) (b0 : Nat) (b1 : Nat) (b2 : Nat) (M : Nat) (o : Int32) (prod : Nat → Int32) (kind : Nat → Int32) (a0 : Nat) (a1 : Nat) (a2 : Nat) (a3 : Nat) (N : Nat) (sz : Int32) (care : Nat → Int32) (bits : Nat → Int32) (had : Nat → Int32) (C : Nat) (i0 : Int32) (d0 : Int32) (hN : N ≤ 4) (hC : C < 24) (hp : vp_in (prod C) 81) : Met l y_Cubes_setDigit (ct y_Cubes_setDigit b_Cubes_setDigit 4 (some .boolean)) ({ frames := 2, cells := 0, slots := 0, locals := 51 }) (va_Pc [.ref b0, .int ((nI C)), .int i0, .int d0] (fun U => U.heap.size = sz0 ∧ va_P (dC, dI) classes [(b0, .inr (1, [.ref a0, .int o, .ref b1, .ref b2, .int ((nI M))])), (b1, .inl (cI, 24, .inl prod)), (b2, .inl (cI, 48, .inl kind)), (a0, .inr (5, [.int ((nI N)), .int sz, .ref a1, .ref a2, .ref a3])), (a1, .inl (cI, 81, .inl care)), (a2, .inl (cI, 81, .inl bits)), (a3, .inl (cI, 81, .inl had))] U.heap ∧ va_K (dC, dI) classes [(cI, .int), (cJ, .long)] U ∧ va_D (fun _ => True) [(b0, .inr (1, [.ref a0, .int o, .ref b1, .ref b2, .int ((nI M))])), (b1, .inl (cI, 24, .inl prod)), (b2, .inl (cI, 48, .inl kind)), (a0, .inr (5, [.int ((nI N)), .int sz, .ref a1, .ref a2, .ref a3])), (a1, .inl (cI, 81, .inl care)), (a2, .inl (cI, 81, .inl bits)), (a3, .inl (cI, 81, .inl had))])) (va_Qi (fun (r : Int32) (_ : Unit) => r = if fDig (care (prod C).toNatClampNeg) (bits (prod C).toNatClampNeg) i0 = d0 then 0 else 1) (fun _ => at_w dC dI cI cJ (va_A [(b0, .inr (1, [.ref a0, .int o, .ref b1, .ref b2, .int ((nI M))])), (b1, .inl (cI, 24, .inl prod)), (b2, .inl (cI, 48, .inl kind)), (a0, .inr (5, [.int ((nI N)), .int sz, .ref a1, .ref a2, .ref a3])), (a1, .inl (cI, 81, .inl care)), (a2, .inl (cI, 81, .inl bits)), (a3, .inl (cI, 81, .inl had))] sz0) [(b0, .inr (1, [.ref a0, .int o, .ref b1, .ref b2, .int ((nI M))])), (b1, .inl (cI, 24, .inl ((if fDig (care (prod C).toNatClampNeg) (bits (prod C).toNatClampNeg) i0 = d0 then prod else upd prod C (fWith N (care (prod C).toNatClampNeg) (bits (prod C).toNatClampNeg) i0 d0))))), (b2, .inl (cI, 48, .inl kind)), (a0, .inr (5, [.int ((nI N)), .int sz, .ref a1, .ref a2, .ref a3])), (a1, .inl (cI, 81, .inl care)), (a2, .inl (cI, 81, .inl bits)), (a3, .inl (cI, 81, .inl had))]) (va_A [(b0, .inr (1, [.ref a0, .int o, .ref b1, .ref b2, .int ((nI M))])), (b1, .inl (cI, 24, .inl prod)), (b2, .inl (cI, 48, .inl kind)), (a0, .inr (5, [.int ((nI N)), .int sz, .ref a1, .ref a2, .ref a3])), (a1, .inl (cI, 81, .inl care)), (a2, .inl (cI, 81, .inl bits)), (a3, .inl (cI, 81, .inl had))] sz0)) 0 0 (va_A [(b0, .inr (1, [.ref a0, .int o, .ref b1, .ref b2, .int ((nI M))])), (b1, .inl (cI, 24, .inl prod)), (b2, .inl (cI, 48, .inl kind)), (a0, .inr (5, [.int ((nI N)), .int sz, .ref a1, .ref a2, .ref a3])), (a1, .inl (cI, 81, .inl care)), (a2, .inl (cI, 81, .inl bits)), (a3, .inl (cI, 81, .inl had))] sz0) := by
  refine Met.ofW (cc := b_Cubes_setDigit) (maxL := 4) (ret := some .boolean) (by decide) rfl ?_
  intro p e s m args below meth c s₁ B hml hv
  obtain ⟨rfl, hsz, hP, hK, hD0⟩ := hv
  have hx := B.exec
  have hb := B.bytes
  have hr := B.returns
  have hts : ∀ w ∈ lwg, w.before _ s = true := fun w h => atoms_spec (ws := ct y_Cubes_setDigit b_Cubes_setDigit 4 (some .boolean)) B.pre w (List.mem_cons_of_mem _ h)
  have hown : s.vm.findClass R_Cubes = some m.cls := findClass_of_methodNamed B.named
  have hlocks := B.notSynchronized
  subst hsz
  have hD := hD0.self (sz := s.heap.size)
  generalize hAe : va_A [(b0, .inr (1, [.ref a0, .int o, .ref b1, .ref b2, .int ((nI M))])), (b1, .inl (cI, 24, .inl prod)), (b2, .inl (cI, 48, .inl kind)), (a0, .inr (5, [.int ((nI N)), .int sz, .ref a1, .ref a2, .ref a3])), (a1, .inl (cI, 81, .inl care)), (a2, .inl (cI, 81, .inl bits)), (a3, .inl (cI, 81, .inl had))] s.heap.size = A at hD ⊢
  have hA : ∀ q : Nat, s.heap.size ≤ q → A q := fun q h => by rw [← hAe]; exact Or.inr h
  have hS : va_S A s.heap s.heap [] := va_S.rf
  have hl := lv_entry ([.ref b0, .int ((nI C)), .int i0, .int d0]) (n := 4) (Nat.le_of_ble_eq_true rfl)
  rw [lg_entry_eq]
  generalize (lg_sl ([.ref b0, .int ((nI C)), .int i0, .int d0]) ++ List.replicate (4 - (lg_sl ([.ref b0, .int ((nI C)), .int i0, .int d0])).length) Slot.unset).toArray = ls at hl ⊢
  have hl : lv_has ls 4 [(0, .ref b0), (1, .int ((nI C))), (2, .int i0), (3, .int d0)] := hl
  have hP : va_P (dC, dI) classes [(b0, .inr (1, [.ref a0, .int o, .ref b1, .ref b2, .int ((nI M))])), (b1, .inl (cI, 24, .inl prod)), (b2, .inl (cI, 48, .inl kind)), (a0, .inr (5, [.int ((nI N)), .int sz, .ref a1, .ref a2, .ref a3])), (a1, .inl (cI, 81, .inl care)), (a2, .inl (cI, 81, .inl bits)), (a3, .inl (cI, 81, .inl had))] s.heap := hP
  refine lv_aload_n hx hb d_Cubes_setDigit_0 rfl (lv_at hl 0 rfl) ?_
  refine va_get (D := (dC, dI)) (ci := 1) (v := .ref a0) (C := R_Cubes) (T := F_Cubes) (N := 5) hx hb hts i_Cubes hown hK hP 0 rfl rfl 0 (by decide) (hts _ mw_fl_Cubes_18) (fun _ h9 => h9) rfl d_Cubes_setDigit_1 ?_
  refine lv_aload_n hx hb d_Cubes_setDigit_4 rfl (lv_at hl 0 rfl) ?_
  refine va_get (D := (dC, dI)) (ci := 1) (v := .ref b1) (C := R_Cubes) (T := F_Cubes) (N := 5) hx hb hts i_Cubes hown hK hP 0 rfl rfl 2 (by decide) (hts _ mw_fl_Cubes_9) (fun _ h9 => h9) rfl d_Cubes_setDigit_5 ?_
  refine lv_iload_n hx hb d_Cubes_setDigit_8 rfl (lv_at hl 1 rfl) ?_
  refine va_iald hx hb hK hP 1 0 rfl rfl (vp_in_nI hC (by omega)) d_Cubes_setDigit_9 ?_
  refine w_ti (show _ = prod C from by rw [nI_clamp (by omega)]) ?_
  refine lv_iload_n hx hb d_Cubes_setDigit_10 rfl (lv_at hl 2 rfl) ?_
  refine vp_callSi (W.runV (As := [.int ((prod C)), .int i0]) (rest := []) ⟨hx, hb, hml, hown, hts⟩ (c_Products_digit l dC dI cI cJ a0 a1 a2 a3 (nI N) sz care bits had (prod C) i0 hp) (cwV 2 hts (ct_goodV mw_ml_Cubes_39 mw_im_Products_digit mw_se_Products_digit mw_ini_Products mw_code_Products_digit) rfl rfl rfl (by decide +kernel) ⟨Nat.le_of_ble_eq_true rfl, Nat.le_of_ble_eq_true rfl⟩) ⟨fun a U g mk q => by obtain ⟨q0, qP, qK⟩ := q; exact ⟨q0, qP, va_K.moved (u := U) (U := U.calling g mk a) (Vm.Alike.refl U.vm) qK⟩, va_recv hK hP (ci := 5) (q0 := 3) rfl rfl, fun U hU hW => ⟨rfl, by rw [hU]; exact (hP.sub (ws' := (wP cI a0 a1 a2 a3 (nI N) sz care bits had)) [3, 4, 5, 6] rfl), va_K.moved hW.alike hK⟩⟩ rfl rfl hl.1 rfl (lv_room (Nat.le_of_ble_eq_true rfl)) d_Cubes_setDigit_11 ⟨Nat.le_of_ble_eq_true rfl, Nat.le_of_ble_eq_true rfl⟩) (fun r_1 hr_1 => ?_)
  rw [hr_1]
  clear hr_1
  refine lv_iload_n hx hb d_Cubes_setDigit_14 rfl (lv_at hl 3 rfl) ?_
  refine lv_icmp_ne (tgt := 20) hx hb d_Cubes_setDigit_15 (by decide) (fun c_15 => ?_) (fun c_15 => ?_)
  · refine lv_aload_n hx hb d_Cubes_setDigit_20 rfl (lv_at hl 0 rfl) ?_
    refine va_get (D := (dC, dI)) (ci := 1) (v := .ref b1) (C := R_Cubes) (T := F_Cubes) (N := 5) hx hb hts i_Cubes hown hK hP 0 rfl rfl 2 (by decide) (hts _ mw_fl_Cubes_9) (fun _ h9 => h9) rfl d_Cubes_setDigit_21 ?_
    refine lv_iload_n hx hb d_Cubes_setDigit_24 rfl (lv_at hl 1 rfl) ?_
    refine lv_aload_n hx hb d_Cubes_setDigit_25 rfl (lv_at hl 0 rfl) ?_
    refine va_get (D := (dC, dI)) (ci := 1) (v := .ref a0) (C := R_Cubes) (T := F_Cubes) (N := 5) hx hb hts i_Cubes hown hK hP 0 rfl rfl 0 (by decide) (hts _ mw_fl_Cubes_18) (fun _ h9 => h9) rfl d_Cubes_setDigit_26 ?_
    refine lv_aload_n hx hb d_Cubes_setDigit_29 rfl (lv_at hl 0 rfl) ?_
    refine va_get (D := (dC, dI)) (ci := 1) (v := .ref b1) (C := R_Cubes) (T := F_Cubes) (N := 5) hx hb hts i_Cubes hown hK hP 0 rfl rfl 2 (by decide) (hts _ mw_fl_Cubes_9) (fun _ h9 => h9) rfl d_Cubes_setDigit_30 ?_
    refine lv_iload_n hx hb d_Cubes_setDigit_33 rfl (lv_at hl 1 rfl) ?_
    refine va_iald hx hb hK hP 1 0 rfl rfl (vp_in_nI hC (by omega)) d_Cubes_setDigit_34 ?_
    refine w_ti (show _ = prod C from by rw [nI_clamp (by omega)]) ?_
    refine lv_iload_n hx hb d_Cubes_setDigit_35 rfl (lv_at hl 2 rfl) ?_
    refine lv_iload_n hx hb d_Cubes_setDigit_36 rfl (lv_at hl 3 rfl) ?_
    refine vp_callSi (W.runV (As := [.int ((prod C)), .int i0, .int d0]) (rest := [.int ((nI C)), .ref b1]) ⟨hx, hb, hml, hown, hts⟩ (c_Products_withDigit l dC dI cI cJ a0 a1 a2 a3 N sz care bits had (prod C) i0 d0 hN hp) (cwV 3 hts (ct_goodV mw_ml_Cubes_43 mw_im_Products_withDigit mw_se_Products_withDigit mw_ini_Products mw_code_Products_withDigit) rfl rfl rfl (by decide +kernel) ⟨Nat.le_of_ble_eq_true rfl, Nat.le_of_ble_eq_true rfl⟩) ⟨fun a U g mk q => by obtain ⟨q0, qP, qK⟩ := q; exact ⟨q0, qP, va_K.moved (u := U) (U := U.calling g mk a) (Vm.Alike.refl U.vm) qK⟩, va_recv hK hP (ci := 5) (q0 := 3) rfl rfl, fun U hU hW => ⟨rfl, by rw [hU]; exact (hP.sub (ws' := (wP cI a0 a1 a2 a3 (nI N) sz care bits had)) [3, 4, 5, 6] rfl), va_K.moved hW.alike hK⟩⟩ rfl rfl hl.1 rfl (lv_room (Nat.le_of_ble_eq_true rfl)) d_Cubes_setDigit_37 ⟨Nat.le_of_ble_eq_true rfl, Nat.le_of_ble_eq_true rfl⟩) (fun r_2 hr_2 => ?_)
    rw [hr_2]
    clear hr_2
    refine va_iast hx hb hK hP hD hS 1 0 rfl rfl (vp_in_nI hC (by omega)) d_Cubes_setDigit_40 (fun H locs hP hD hS => ?_)
    have hP : va_P (dC, dI) classes [(b0, .inr (1, [.ref a0, .int o, .ref b1, .ref b2, .int ((nI M))])), (b1, .inl (cI, 24, .inl ((upd prod (nI C).toNatClampNeg ((fWith N (care (prod C).toNatClampNeg) (bits (prod C).toNatClampNeg) i0 d0)))))), (b2, .inl (cI, 48, .inl kind)), (a0, .inr (5, [.int ((nI N)), .int sz, .ref a1, .ref a2, .ref a3])), (a1, .inl (cI, 81, .inl care)), (a2, .inl (cI, 81, .inl bits)), (a3, .inl (cI, 81, .inl had))] H := hP
    have hD : va_D A [(b0, .inr (1, [.ref a0, .int o, .ref b1, .ref b2, .int ((nI M))])), (b1, .inl (cI, 24, .inl ((upd prod (nI C).toNatClampNeg ((fWith N (care (prod C).toNatClampNeg) (bits (prod C).toNatClampNeg) i0 d0)))))), (b2, .inl (cI, 48, .inl kind)), (a0, .inr (5, [.int ((nI N)), .int sz, .ref a1, .ref a2, .ref a3])), (a1, .inl (cI, 81, .inl care)), (a2, .inl (cI, 81, .inl bits)), (a3, .inl (cI, 81, .inl had))] := hD
    rw [show (nI C).toNatClampNeg = C from nI_clamp (by omega)] at hP hD
    refine lv_iconst (v := 1) hx hb d_Cubes_setDigit_41 (by decide) ?_
    have hP9 := hP.sub (ws' := [(b0, .inr (1, [.ref a0, .int o, .ref b1, .ref b2, .int ((nI M))])), (b1, .inl (cI, 24, .inl ((if fDig (care (prod C).toNatClampNeg) (bits (prod C).toNatClampNeg) i0 = d0 then prod else upd prod C (fWith N (care (prod C).toNatClampNeg) (bits (prod C).toNatClampNeg) i0 d0))))), (b2, .inl (cI, 48, .inl kind)), (a0, .inr (5, [.int ((nI N)), .int sz, .ref a1, .ref a2, .ref a3])), (a1, .inl (cI, 81, .inl care)), (a2, .inl (cI, 81, .inl bits)), (a3, .inl (cI, 81, .inl had))]) [0, 1, 2, 3, 4, 5, 6] (by rw [if_neg c_15]; rfl)
    have hD9 := hD.sub (ws' := [(b0, .inr (1, [.ref a0, .int o, .ref b1, .ref b2, .int ((nI M))])), (b1, .inl (cI, 24, .inl ((if fDig (care (prod C).toNatClampNeg) (bits (prod C).toNatClampNeg) i0 = d0 then prod else upd prod C (fWith N (care (prod C).toNatClampNeg) (bits (prod C).toNatClampNeg) i0 d0))))), (b2, .inl (cI, 48, .inl kind)), (a0, .inr (5, [.int ((nI N)), .int sz, .ref a1, .ref a2, .ref a3])), (a1, .inl (cI, 81, .inl care)), (a2, .inl (cI, 81, .inl bits)), (a3, .inl (cI, 81, .inl had))]) [0, 1, 2, 3, 4, 5, 6] (by decide) (by rw [if_neg c_15]; rfl)
    exact W.zret (v := 1) hx hb hr (by decide) (fun t ht hW => ⟨⟨1, (), rfl, by simp [c_15], by rw [ht]; exact hP9, va_K.moved hW.alike hK, hD9⟩, hS.F ht⟩) hS.2.2 d_Cubes_setDigit_42
  · refine lv_iconst (v := 0) hx hb d_Cubes_setDigit_18 (by decide) ?_
    have hP9 := hP.sub (ws' := [(b0, .inr (1, [.ref a0, .int o, .ref b1, .ref b2, .int ((nI M))])), (b1, .inl (cI, 24, .inl ((if fDig (care (prod C).toNatClampNeg) (bits (prod C).toNatClampNeg) i0 = d0 then prod else upd prod C (fWith N (care (prod C).toNatClampNeg) (bits (prod C).toNatClampNeg) i0 d0))))), (b2, .inl (cI, 48, .inl kind)), (a0, .inr (5, [.int ((nI N)), .int sz, .ref a1, .ref a2, .ref a3])), (a1, .inl (cI, 81, .inl care)), (a2, .inl (cI, 81, .inl bits)), (a3, .inl (cI, 81, .inl had))]) [0, 1, 2, 3, 4, 5, 6] (by rw [if_pos c_15]; rfl)
    have hD9 := hD.sub (ws' := [(b0, .inr (1, [.ref a0, .int o, .ref b1, .ref b2, .int ((nI M))])), (b1, .inl (cI, 24, .inl ((if fDig (care (prod C).toNatClampNeg) (bits (prod C).toNatClampNeg) i0 = d0 then prod else upd prod C (fWith N (care (prod C).toNatClampNeg) (bits (prod C).toNatClampNeg) i0 d0))))), (b2, .inl (cI, 48, .inl kind)), (a0, .inr (5, [.int ((nI N)), .int sz, .ref a1, .ref a2, .ref a3])), (a1, .inl (cI, 81, .inl care)), (a2, .inl (cI, 81, .inl bits)), (a3, .inl (cI, 81, .inl had))]) [0, 1, 2, 3, 4, 5, 6] (by decide) (by rw [if_pos c_15]; rfl)
    exact W.zret (v := 0) hx hb hr (by decide) (fun t ht hW => ⟨⟨0, (), rfl, by simp [c_15], by rw [ht]; exact hP9, va_K.moved hW.alike hK, hD9⟩, hS.F ht⟩) hS.2.2 d_Cubes_setDigit_19
