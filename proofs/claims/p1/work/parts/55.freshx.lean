/-! ===== the class on a fresh object: throws ===== -/
theorem holds0 (x : Int32) : (if x < 0 ∨ nI 0 ≤ x then (0 : Int32) else 1) = 0 := if_pos (by
  by_cases h : x < 0
  · exact Or.inl h
  · exact Or.inr (Int32.not_lt.mp h))
set_option maxHeartbeats 1000000 in
set_option maxRecDepth 100000 in
theorem c_Main_needKept (l : Launch) (hfl : l.flags = flags0) (dC : Nat → ClassId) (dI : Nat → Nat → Nat) (cI cJ : ClassId) (m0 : Nat) (N : Nat) (OU : Nat) (b0 : Nat) (t0 : Nat) (f0 : Nat) (g0 : Nat) (k0 : Nat) (v0 : Nat) (d0 : Nat) : xt_Met l y_Main_needKept (ct y_Main_needKept b_Main_needKept 1 (none)) ({ frames := 6, cells := 1, slots := 6, locals := 90 }) (va_Pc [.ref m0] (fun U => va_P (dC, dI) classes [(m0, .inr (7, [.int ((nI N)), .int ((nI OU)), .ref b0, .ref t0, .ref f0, .ref g0, .ref k0, .ref v0, .ref d0, .int 0, .int 0]))] U.heap ∧ va_K (dC, dI) classes [(cI, .int), (cJ, .long)] U ∧ gl (fun _ => False) U U.heap)) (xQ "java/lang/IllegalStateException") 1 6 (fun _ => False) := by
  refine xt_ofW (cc := b_Main_needKept) (maxL := 1) (ret := none) (by decide) rfl ?_
  intro p e s m args below meth c s₁ B hml hno hv
  obtain ⟨rfl, hP, hK, hG⟩ := hv
  have hx := B.exec
  have hb := B.bytes
  have hr := B.returns
  have hts : ∀ w ∈ lwg, w.before _ s = true := fun w h => atoms_spec (ws := ct y_Main_needKept b_Main_needKept 1 (none)) B.pre w (List.mem_cons_of_mem _ h)
  have hown : s.vm.findClass R_Main = some m.cls := findClass_of_methodNamed B.named
  have hlocks := B.notSynchronized
  have hl := lv_entry ([.ref m0]) (n := 1) (Nat.le_of_ble_eq_true rfl)
  rw [lg_entry_eq]
  generalize (lg_sl ([.ref m0]) ++ List.replicate (1 - (lg_sl ([.ref m0])).length) Slot.unset).toArray = ls at hl ⊢
  have hl : lv_has ls 1 [(0, .ref m0)] := hl
  obtain ⟨⟨tF, hZF, hTF⟩, hGr⟩ := id hG
  refine lv_aload_n hx hb d_Main_needKept_0 rfl (lv_at hl 0 rfl) ?_
  refine va_get (D := (dC, dI)) (ci := 7) (v := .int 0) (C := R_Main) (T := F_Main) (N := 11) hx hb hts i_Main hown hK hP 0 rfl rfl 9 (by decide) (hts _ mw_fl_Main_81) (fun _ h9 => h9) rfl d_Main_needKept_1 ?_
  refine lv_if_ne (tgt := 17) hx hb d_Main_needKept_4 (by decide) (fun c_4 => ?_) (fun c_4 => ?_)
  · exact absurd c_4 (by decide +kernel)
  · obtain ⟨qS, hqS⟩ := hGr.2.2.2 (217, "no cover is kept") (by decide +kernel)
    exact xt_throwNew (A := fun _ => False) (own := "CoverRows") (cls := "java/lang/IllegalStateException") (tx := "no cover is kept") (names := ["java/lang/RuntimeException", "java/lang/Exception"]) (ix := 215) (ik := 217) (ic := 219) hx hb hfl hts hGr.2.2.1 xc_215 hown (by decide +kernel) (by decide +kernel) hno hlocks hqS hGr.1 hGr.2.1 (hl.1.trans hml.symm) (Nat.le_of_ble_eq_true rfl) (Nat.le_of_ble_eq_true rfl) (Nat.le_of_ble_eq_true rfl) (Nat.le_of_ble_eq_true rfl) d_Main_needKept_7 d_Main_needKept_10 d_Main_needKept_11 d_Main_needKept_13 d_Main_needKept_16 (fun x t ce h1 h2 h3 h4 h5 h6 h7 => ⟨x, ce, rfl, h1, h3, h4, h5, h6, by rw [h2.alike.findClass]; exact h7⟩) (fun q h => by cases h)
set_option maxHeartbeats 1000000 in
set_option maxRecDepth 100000 in
theorem c_Main_literal (l : Launch) (hfl : l.flags = flags0) (dC : Nat → ClassId) (dI : Nat → Nat → Nat) (cI cJ : ClassId) (m0 : Nat) (N : Nat) (OU : Nat) (b0 : Nat) (t0 : Nat) (f0 : Nat) (g0 : Nat) (k0 : Nat) (v0 : Nat) (d0 : Nat) (b1 : Nat) (b2 : Nat) (prod : Nat → Int32) (kind : Nat → Int32) (a0 : Nat) (x : Int32) (y : Int32) (z : Int32) : xt_Met l y_Main_literal (ct y_Main_literal b_Main_literal 5 (some .boolean)) ({ frames := 6, cells := 1, slots := 6, locals := 90 }) (va_Pc [.ref m0, .int x, .int y, .int z] (fun U => va_P (dC, dI) classes [(m0, .inr (7, [.int ((nI N)), .int ((nI OU)), .ref b0, .ref t0, .ref f0, .ref g0, .ref k0, .ref v0, .ref d0, .int 0, .int 0])), (b0, .inr (1, [.ref a0, .int ((nI OU)), .ref b1, .ref b2, .int 0])), (b1, .inl (cI, 24, .inl prod)), (b2, .inl (cI, 48, .inl kind))] U.heap ∧ va_K (dC, dI) classes [(cI, .int), (cJ, .long)] U ∧ gl (fun _ => False) U U.heap)) (xQ "java/lang/IndexOutOfBoundsException") 1 6 (fun _ => False) := by
  refine xt_ofW (cc := b_Main_literal) (maxL := 5) (ret := some .boolean) (by decide) rfl ?_
  intro p e s m args below meth c s₁ B hml hno hv
  obtain ⟨rfl, hP, hK, hG⟩ := hv
  have hx := B.exec
  have hb := B.bytes
  have hr := B.returns
  have hts : ∀ w ∈ lwg, w.before _ s = true := fun w h => atoms_spec (ws := ct y_Main_literal b_Main_literal 5 (some .boolean)) B.pre w (List.mem_cons_of_mem _ h)
  have hown : s.vm.findClass R_Main = some m.cls := findClass_of_methodNamed B.named
  have hlocks := B.notSynchronized
  have hl := lv_entry ([.ref m0, .int x, .int y, .int z]) (n := 5) (Nat.le_of_ble_eq_true rfl)
  rw [lg_entry_eq]
  generalize (lg_sl ([.ref m0, .int x, .int y, .int z]) ++ List.replicate (5 - (lg_sl ([.ref m0, .int x, .int y, .int z])).length) Slot.unset).toArray = ls at hl ⊢
  have hl : lv_has ls 5 [(0, .ref m0), (1, .int x), (2, .int y), (3, .int z)] := hl
  obtain ⟨⟨tF, hZF, hTF⟩, hGr⟩ := id hG
  refine lv_aload_n hx hb d_Main_literal_0 rfl (lv_at hl 0 rfl) ?_
  refine va_get (D := (dC, dI)) (ci := 7) (v := .ref b0) (C := R_Main) (T := F_Main) (N := 11) hx hb hts i_Main hown hK hP 0 rfl rfl 2 (by decide) (hts _ mw_fl_Main_35) (fun _ h9 => h9) rfl d_Main_literal_1 ?_
  refine lv_iload_n hx hb d_Main_literal_4 rfl (lv_at hl 1 rfl) ?_
  refine vp_callSi (W.runV (As := [.int x]) (rest := []) ⟨hx, hb, hml, hown, hts⟩ (c_Cubes_holds l dC dI cI cJ b0 b1 b2 0 (nI OU) prod kind a0 x (by omega)) (cwV 1 hts (ct_goodV mw_ml_Main_103 mw_im_Cubes_holds mw_se_Cubes_holds mw_ini_Cubes mw_code_Cubes_holds) rfl rfl rfl (by decide +kernel) ⟨Nat.le_of_ble_eq_true rfl, Nat.le_of_ble_eq_true rfl⟩) ⟨fun a U g mk q => by obtain ⟨q0, qP, qK⟩ := q; exact ⟨q0, qP, va_K.moved (u := U) (U := U.calling g mk a) (Vm.Alike.refl U.vm) qK⟩, va_recv hK hP (ci := 1) (q0 := 1) rfl rfl, fun U hU hW => ⟨rfl, by rw [hU]; exact (hP.sub (ws' := (wC cI b0 b1 b2 a0 0 (nI OU) prod kind)) [1, 2, 3] rfl), va_K.moved hW.alike hK⟩⟩ rfl rfl hl.1 rfl (lv_room (Nat.le_of_ble_eq_true rfl)) d_Main_literal_5 ⟨Nat.le_of_ble_eq_true rfl, Nat.le_of_ble_eq_true rfl⟩) (fun r_1 hr_1 => ?_)
  rw [hr_1]
  clear hr_1
  refine w_ti (show _ = 0 from holds0 x) ?_
  refine lv_if_eq (tgt := 23) hx hb d_Main_literal_8 (by decide) (fun c_8 => ?_) (fun c_8 => ?_)
  · obtain ⟨qS, hqS⟩ := hGr.2.2.2 (109, "no such cube or input") (by decide +kernel)
    exact xt_throwNew (A := fun _ => False) (own := "CoverRows") (cls := "java/lang/IndexOutOfBoundsException") (tx := "no such cube or input") (names := ["java/lang/RuntimeException", "java/lang/Exception"]) (ix := 107) (ik := 109) (ic := 111) hx hb hfl hts hGr.2.2.1 xc_107 hown (by decide +kernel) (by decide +kernel) hno hlocks hqS hGr.1 hGr.2.1 (hl.1.trans hml.symm) (Nat.le_of_ble_eq_true rfl) (Nat.le_of_ble_eq_true rfl) (Nat.le_of_ble_eq_true rfl) (Nat.le_of_ble_eq_true rfl) d_Main_literal_23 d_Main_literal_26 d_Main_literal_27 d_Main_literal_29 d_Main_literal_32 (fun x t ce h1 h2 h3 h4 h5 h6 h7 => ⟨x, ce, rfl, h1, h3, h4, h5, h6, by rw [h2.alike.findClass]; exact h7⟩) (fun q h => by cases h)
  · exact absurd c_8 (by decide +kernel)
set_option maxHeartbeats 1000000 in
set_option maxRecDepth 100000 in
theorem c_Main_to (l : Launch) (hfl : l.flags = flags0) (dC : Nat → ClassId) (dI : Nat → Nat → Nat) (cI cJ : ClassId) (m0 : Nat) (N : Nat) (OU : Nat) (b0 : Nat) (t0 : Nat) (f0 : Nat) (g0 : Nat) (k0 : Nat) (v0 : Nat) (d0 : Nat) (b1 : Nat) (b2 : Nat) (prod : Nat → Int32) (kind : Nat → Int32) (a0 : Nat) (x : Int32) (y : Int32) (z : Int32) : xt_Met l y_Main_to (ct y_Main_to b_Main_to 5 (some .boolean)) ({ frames := 6, cells := 1, slots := 6, locals := 90 }) (va_Pc [.ref m0, .int x, .int y, .int z] (fun U => va_P (dC, dI) classes [(m0, .inr (7, [.int ((nI N)), .int ((nI OU)), .ref b0, .ref t0, .ref f0, .ref g0, .ref k0, .ref v0, .ref d0, .int 0, .int 0])), (b0, .inr (1, [.ref a0, .int ((nI OU)), .ref b1, .ref b2, .int 0])), (b1, .inl (cI, 24, .inl prod)), (b2, .inl (cI, 48, .inl kind))] U.heap ∧ va_K (dC, dI) classes [(cI, .int), (cJ, .long)] U ∧ gl (fun _ => False) U U.heap)) (xQ "java/lang/IndexOutOfBoundsException") 1 6 (fun _ => False) := by
  refine xt_ofW (cc := b_Main_to) (maxL := 5) (ret := some .boolean) (by decide) rfl ?_
  intro p e s m args below meth c s₁ B hml hno hv
  obtain ⟨rfl, hP, hK, hG⟩ := hv
  have hx := B.exec
  have hb := B.bytes
  have hr := B.returns
  have hts : ∀ w ∈ lwg, w.before _ s = true := fun w h => atoms_spec (ws := ct y_Main_to b_Main_to 5 (some .boolean)) B.pre w (List.mem_cons_of_mem _ h)
  have hown : s.vm.findClass R_Main = some m.cls := findClass_of_methodNamed B.named
  have hlocks := B.notSynchronized
  have hl := lv_entry ([.ref m0, .int x, .int y, .int z]) (n := 5) (Nat.le_of_ble_eq_true rfl)
  rw [lg_entry_eq]
  generalize (lg_sl ([.ref m0, .int x, .int y, .int z]) ++ List.replicate (5 - (lg_sl ([.ref m0, .int x, .int y, .int z])).length) Slot.unset).toArray = ls at hl ⊢
  have hl : lv_has ls 5 [(0, .ref m0), (1, .int x), (2, .int y), (3, .int z)] := hl
  obtain ⟨⟨tF, hZF, hTF⟩, hGr⟩ := id hG
  refine lv_aload_n hx hb d_Main_to_0 rfl (lv_at hl 0 rfl) ?_
  refine va_get (D := (dC, dI)) (ci := 7) (v := .ref b0) (C := R_Main) (T := F_Main) (N := 11) hx hb hts i_Main hown hK hP 0 rfl rfl 2 (by decide) (hts _ mw_fl_Main_35) (fun _ h9 => h9) rfl d_Main_to_1 ?_
  refine lv_iload_n hx hb d_Main_to_4 rfl (lv_at hl 1 rfl) ?_
  refine vp_callSi (W.runV (As := [.int x]) (rest := []) ⟨hx, hb, hml, hown, hts⟩ (c_Cubes_holds l dC dI cI cJ b0 b1 b2 0 (nI OU) prod kind a0 x (by omega)) (cwV 1 hts (ct_goodV mw_ml_Main_103 mw_im_Cubes_holds mw_se_Cubes_holds mw_ini_Cubes mw_code_Cubes_holds) rfl rfl rfl (by decide +kernel) ⟨Nat.le_of_ble_eq_true rfl, Nat.le_of_ble_eq_true rfl⟩) ⟨fun a U g mk q => by obtain ⟨q0, qP, qK⟩ := q; exact ⟨q0, qP, va_K.moved (u := U) (U := U.calling g mk a) (Vm.Alike.refl U.vm) qK⟩, va_recv hK hP (ci := 1) (q0 := 1) rfl rfl, fun U hU hW => ⟨rfl, by rw [hU]; exact (hP.sub (ws' := (wC cI b0 b1 b2 a0 0 (nI OU) prod kind)) [1, 2, 3] rfl), va_K.moved hW.alike hK⟩⟩ rfl rfl hl.1 rfl (lv_room (Nat.le_of_ble_eq_true rfl)) d_Main_to_5 ⟨Nat.le_of_ble_eq_true rfl, Nat.le_of_ble_eq_true rfl⟩) (fun r_1 hr_1 => ?_)
  rw [hr_1]
  clear hr_1
  refine w_ti (show _ = 0 from holds0 x) ?_
  refine lv_if_eq (tgt := 23) hx hb d_Main_to_8 (by decide) (fun c_8 => ?_) (fun c_8 => ?_)
  · obtain ⟨qS, hqS⟩ := hGr.2.2.2 (121, "no such cube or output") (by decide +kernel)
    exact xt_throwNew (A := fun _ => False) (own := "CoverRows") (cls := "java/lang/IndexOutOfBoundsException") (tx := "no such cube or output") (names := ["java/lang/RuntimeException", "java/lang/Exception"]) (ix := 107) (ik := 121) (ic := 111) hx hb hfl hts hGr.2.2.1 xc_107 hown (by decide +kernel) (by decide +kernel) hno hlocks hqS hGr.1 hGr.2.1 (hl.1.trans hml.symm) (Nat.le_of_ble_eq_true rfl) (Nat.le_of_ble_eq_true rfl) (Nat.le_of_ble_eq_true rfl) (Nat.le_of_ble_eq_true rfl) d_Main_to_23 d_Main_to_26 d_Main_to_27 d_Main_to_29 d_Main_to_32 (fun x t ce h1 h2 h3 h4 h5 h6 h7 => ⟨x, ce, rfl, h1, h3, h4, h5, h6, by rw [h2.alike.findClass]; exact h7⟩) (fun q h => by cases h)
  · exact absurd c_8 (by decide +kernel)
set_option maxHeartbeats 1000000 in
set_option maxRecDepth 100000 in
theorem c_Main_prime (l : Launch) (hfl : l.flags = flags0) (dC : Nat → ClassId) (dI : Nat → Nat → Nat) (cI cJ : ClassId) (m0 : Nat) (N : Nat) (OU : Nat) (b0 : Nat) (t0 : Nat) (f0 : Nat) (g0 : Nat) (k0 : Nat) (v0 : Nat) (d0 : Nat) (t1 : Nat) (t2 : Nat) (tp : Nat → Int32) (to : Nat → Int32) (a0 : Nat) (x : Int32) (y : Int32) : xt_Met l y_Main_prime (ct y_Main_prime b_Main_prime 3 (some .int)) ({ frames := 6, cells := 1, slots := 6, locals := 133 }) (va_Pc [.ref m0, .int x, .int y] (fun U => va_P (dC, dI) classes [(m0, .inr (7, [.int ((nI N)), .int ((nI OU)), .ref b0, .ref t0, .ref f0, .ref g0, .ref k0, .ref v0, .ref d0, .int 0, .int 0])), (t0, .inr (6, [.ref a0, .ref t1, .ref t2, .int 0])), (t1, .inl (cI, 81, .inl tp)), (t2, .inl (cI, 81, .inl to))] U.heap ∧ va_K (dC, dI) classes [(cI, .int), (cJ, .long)] U ∧ gl (fun _ => False) U U.heap)) (xQ "java/lang/IndexOutOfBoundsException") 1 6 (fun _ => False) := by
  refine xt_ofW (cc := b_Main_prime) (maxL := 3) (ret := some .int) (by decide) rfl ?_
  intro p e s m args below meth c s₁ B hml hno hv
  obtain ⟨rfl, hP, hK, hG⟩ := hv
  have hx := B.exec
  have hb := B.bytes
  have hr := B.returns
  have hts : ∀ w ∈ lwg, w.before _ s = true := fun w h => atoms_spec (ws := ct y_Main_prime b_Main_prime 3 (some .int)) B.pre w (List.mem_cons_of_mem _ h)
  have hown : s.vm.findClass R_Main = some m.cls := findClass_of_methodNamed B.named
  have hlocks := B.notSynchronized
  have hl := lv_entry ([.ref m0, .int x, .int y]) (n := 3) (Nat.le_of_ble_eq_true rfl)
  rw [lg_entry_eq]
  generalize (lg_sl ([.ref m0, .int x, .int y]) ++ List.replicate (3 - (lg_sl ([.ref m0, .int x, .int y])).length) Slot.unset).toArray = ls at hl ⊢
  have hl : lv_has ls 3 [(0, .ref m0), (1, .int x), (2, .int y)] := hl
  obtain ⟨⟨tF, hZF, hTF⟩, hGr⟩ := id hG
  refine lv_aload_n hx hb d_Main_prime_0 rfl (lv_at hl 0 rfl) ?_
  refine vx_callSv (W.runV (As := []) (rest := []) ⟨hx, hb, hml, hown, hts⟩ (c_Main_renewPrimes l dC dI cI cJ m0 N OU b0 t0 f0 g0 k0 v0 d0 ) (cwV 0 hts (ct_goodV mw_ml_Main_128 mw_im_Main_renewPrimes mw_se_Main_renewPrimes mw_ini_Main mw_code_Main_renewPrimes) rfl rfl rfl (by decide +kernel) ⟨Nat.le_of_ble_eq_true rfl, Nat.le_of_ble_eq_true rfl⟩) ⟨fun a U g mk q => by obtain ⟨q0, qP, qK⟩ := q; exact ⟨q0, qP, va_K.moved (u := U) (U := U.calling g mk a) (Vm.Alike.refl U.vm) qK⟩, va_recv hK hP (ci := 7) (q0 := 0) rfl rfl, fun U hU hW => ⟨rfl, by rw [hU]; exact (hP.sub (ws' := [(m0, .inr (7, [.int ((nI N)), .int ((nI OU)), .ref b0, .ref t0, .ref f0, .ref g0, .ref k0, .ref v0, .ref d0, .int 0, .int 0]))]) [0] rfl), va_K.moved hW.alike hK⟩⟩ rfl rfl hl.1 rfl (lv_room (Nat.le_of_ble_eq_true rfl)) d_Main_prime_1 ⟨Nat.le_of_ble_eq_true rfl, Nat.le_of_ble_eq_true rfl⟩) ?_
  refine lv_aload_n hx hb d_Main_prime_4 rfl (lv_at hl 0 rfl) ?_
  refine va_get (D := (dC, dI)) (ci := 7) (v := .ref t0) (C := R_Main) (T := F_Main) (N := 11) hx hb hts i_Main hown hK hP 0 rfl rfl 3 (by decide) (hts _ mw_fl_Main_44) (fun _ h9 => h9) rfl d_Main_prime_5 ?_
  refine lv_iload_n hx hb d_Main_prime_8 rfl (lv_at hl 1 rfl) ?_
  refine vp_callSi (W.runV (As := [.int x]) (rest := []) ⟨hx, hb, hml, hown, hts⟩ (c_Terms_holds l dC dI cI cJ t0 t1 t2 0 tp to a0 x ) (cwV 1 hts (ct_goodV mw_ml_Main_134 mw_im_Terms_holds mw_se_Terms_holds mw_ini_Terms mw_code_Terms_holds) rfl rfl rfl (by decide +kernel) ⟨Nat.le_of_ble_eq_true rfl, Nat.le_of_ble_eq_true rfl⟩) ⟨fun a U g mk q => by obtain ⟨q0, qP, qK⟩ := q; exact ⟨q0, qP, va_K.moved (u := U) (U := U.calling g mk a) (Vm.Alike.refl U.vm) qK⟩, va_recv hK hP (ci := 6) (q0 := 1) rfl rfl, fun U hU hW => ⟨rfl, by rw [hU]; exact (hP.sub (ws' := (wT cI t0 t1 t2 a0 0 tp to)) [1, 2, 3] rfl), va_K.moved hW.alike hK⟩⟩ rfl rfl hl.1 rfl (lv_room (Nat.le_of_ble_eq_true rfl)) d_Main_prime_9 ⟨Nat.le_of_ble_eq_true rfl, Nat.le_of_ble_eq_true rfl⟩) (fun r_2 hr_2 => ?_)
  rw [hr_2]
  clear hr_2
  refine w_ti (show _ = 0 from holds0 x) ?_
  refine lv_if_eq (tgt := 23) hx hb d_Main_prime_12 (by decide) (fun c_12 => ?_) (fun c_12 => ?_)
  · obtain ⟨qS, hqS⟩ := hGr.2.2.2 (138, "no such prime, input or output") (by decide +kernel)
    exact xt_throwNew (A := fun _ => False) (own := "CoverRows") (cls := "java/lang/IndexOutOfBoundsException") (tx := "no such prime, input or output") (names := ["java/lang/RuntimeException", "java/lang/Exception"]) (ix := 107) (ik := 138) (ic := 111) hx hb hfl hts hGr.2.2.1 xc_107 hown (by decide +kernel) (by decide +kernel) hno hlocks hqS hGr.1 hGr.2.1 (hl.1.trans hml.symm) (Nat.le_of_ble_eq_true rfl) (Nat.le_of_ble_eq_true rfl) (Nat.le_of_ble_eq_true rfl) (Nat.le_of_ble_eq_true rfl) d_Main_prime_23 d_Main_prime_26 d_Main_prime_27 d_Main_prime_29 d_Main_prime_32 (fun x t ce h1 h2 h3 h4 h5 h6 h7 => ⟨x, ce, rfl, h1, h3, h4, h5, h6, by rw [h2.alike.findClass]; exact h7⟩) (fun q h => by cases h)
  · exact absurd c_12 (by decide +kernel)
set_option maxHeartbeats 1000000 in
set_option maxRecDepth 100000 in
theorem c0_Main_run (l : Launch) (hfl : l.flags = flags0) (dC : Nat → ClassId) (dI : Nat → Nat → Nat) (cI cJ : ClassId) (m0 : Nat) (N : Nat) (OU : Nat) (b0 : Nat) (t0 : Nat) (f0 : Nat) (g0 : Nat) (k0 : Nat) (v0 : Nat) (d0 : Nat) (x : Int32) (st : Int64) (hst : st < 0) : xt_Met l y_Main_run (ct y_Main_run b_Main_run 4 (some .int)) ({ frames := 6, cells := 1, slots := 6, locals := 133 }) (va_Pc [.ref m0, .int x, .long st] (fun U => va_P (dC, dI) classes [(m0, .inr (7, [.int ((nI N)), .int ((nI OU)), .ref b0, .ref t0, .ref f0, .ref g0, .ref k0, .ref v0, .ref d0, .int 0, .int 0]))] U.heap ∧ va_K (dC, dI) classes [(cI, .int), (cJ, .long)] U ∧ gl (fun _ => False) U U.heap)) (xQ "java/lang/IllegalArgumentException") 1 6 (fun _ => False) := by
  refine xt_ofW (cc := b_Main_run) (maxL := 4) (ret := some .int) (by decide) rfl ?_
  intro p e s m args below meth c s₁ B hml hno hv
  obtain ⟨rfl, hP, hK, hG⟩ := hv
  have hx := B.exec
  have hb := B.bytes
  have hr := B.returns
  have hts : ∀ w ∈ lwg, w.before _ s = true := fun w h => atoms_spec (ws := ct y_Main_run b_Main_run 4 (some .int)) B.pre w (List.mem_cons_of_mem _ h)
  have hown : s.vm.findClass R_Main = some m.cls := findClass_of_methodNamed B.named
  have hlocks := B.notSynchronized
  have hl := lv_entry ([.ref m0, .int x, .long st]) (n := 4) (Nat.le_of_ble_eq_true rfl)
  rw [lg_entry_eq]
  generalize (lg_sl ([.ref m0, .int x, .long st]) ++ List.replicate (4 - (lg_sl ([.ref m0, .int x, .long st])).length) Slot.unset).toArray = ls at hl ⊢
  have hl : lv_has ls 4 [(0, .ref m0), (1, .int x), (2, .long st)] := hl
  obtain ⟨⟨tF, hZF, hTF⟩, hGr⟩ := id hG
  refine lv_lload_n hx hb d_Main_run_0 rfl (lv_at hl 2 rfl) ?_
  refine lv_lconst (v := 0) hx hb d_Main_run_1 (by decide) ?_
  refine W.lcmp hx hb d_Main_run_2 ?_
  refine lv_if_ge (tgt := 16) hx hb d_Main_run_3 (by decide) (fun c_3 => ?_) (fun c_3 => ?_)
  · exact absurd hst (Int64.not_lt.mpr ((lg_cmp_ge _ _).mp c_3))
  · obtain ⟨qS, hqS⟩ := hGr.2.2.2 (143, "steps are below 0") (by decide +kernel)
    exact xt_throwNew (A := fun _ => False) (own := "CoverRows") (cls := "java/lang/IllegalArgumentException") (tx := "steps are below 0") (names := ["java/lang/RuntimeException", "java/lang/Exception"]) (ix := 112) (ik := 143) (ic := 116) hx hb hfl hts hGr.2.2.1 xc_112 hown (by decide +kernel) (by decide +kernel) hno hlocks hqS hGr.1 hGr.2.1 (hl.1.trans hml.symm) (Nat.le_of_ble_eq_true rfl) (Nat.le_of_ble_eq_true rfl) (Nat.le_of_ble_eq_true rfl) (Nat.le_of_ble_eq_true rfl) d_Main_run_6 d_Main_run_9 d_Main_run_10 d_Main_run_12 d_Main_run_15 (fun x t ce h1 h2 h3 h4 h5 h6 h7 => ⟨x, ce, rfl, h1, h3, h4, h5, h6, by rw [h2.alike.findClass]; exact h7⟩) (fun q h => by cases h)
set_option maxHeartbeats 1000000 in
set_option maxRecDepth 100000 in
theorem c_Main_at (l : Launch) (hfl : l.flags = flags0) (dC : Nat → ClassId) (dI : Nat → Nat → Nat) (cI cJ : ClassId) (m0 : Nat) (N : Nat) (OU : Nat) (b0 : Nat) (t0 : Nat) (f0 : Nat) (g0 : Nat) (k0 : Nat) (v0 : Nat) (d0 : Nat) (x : Int32) (y : Int32) : xt_Met l y_Main_at (ct y_Main_at b_Main_at 3 (some .int)) ({ frames := 7, cells := 1, slots := 6, locals := 110 }) (va_Pc [.ref m0, .int x, .int y] (fun U => va_P (dC, dI) classes [(m0, .inr (7, [.int ((nI N)), .int ((nI OU)), .ref b0, .ref t0, .ref f0, .ref g0, .ref k0, .ref v0, .ref d0, .int 0, .int 0]))] U.heap ∧ va_K (dC, dI) classes [(cI, .int), (cJ, .long)] U ∧ gl (fun _ => False) U U.heap)) (xQ "java/lang/IllegalStateException") 1 6 (fun _ => False) := by
  refine xt_ofW (cc := b_Main_at) (maxL := 3) (ret := some .int) (by decide) rfl ?_
  intro p e s m args below meth c s₁ B hml hno hv
  obtain ⟨rfl, hP, hK, hG⟩ := hv
  have hx := B.exec
  have hb := B.bytes
  have hr := B.returns
  have hts : ∀ w ∈ lwg, w.before _ s = true := fun w h => atoms_spec (ws := ct y_Main_at b_Main_at 3 (some .int)) B.pre w (List.mem_cons_of_mem _ h)
  have hown : s.vm.findClass R_Main = some m.cls := findClass_of_methodNamed B.named
  have hlocks := B.notSynchronized
  have hl := lv_entry ([.ref m0, .int x, .int y]) (n := 3) (Nat.le_of_ble_eq_true rfl)
  rw [lg_entry_eq]
  generalize (lg_sl ([.ref m0, .int x, .int y]) ++ List.replicate (3 - (lg_sl ([.ref m0, .int x, .int y])).length) Slot.unset).toArray = ls at hl ⊢
  have hl : lv_has ls 3 [(0, .ref m0), (1, .int x), (2, .int y)] := hl
  obtain ⟨⟨tF, hZF, hTF⟩, hGr⟩ := id hG
  refine lv_aload_n hx hb d_Main_at_0 rfl (lv_at hl 0 rfl) ?_
  refine xt_callV (As := []) (rest := []) ⟨hx, hb, hml, hown, hts⟩ (c_Main_needKept l hfl dC dI cI cJ m0 N OU b0 t0 f0 g0 k0 v0 d0 ) (cwV 0 hts (ct_goodV mw_ml_Main_160 mw_im_Main_needKept mw_se_Main_needKept mw_ini_Main mw_code_Main_needKept) rfl rfl rfl (by decide +kernel) ⟨Nat.le_of_ble_eq_true rfl, Nat.le_of_ble_eq_true rfl⟩) ⟨fun a U g mk q => by obtain ⟨q0, qP, qK, qG⟩ := q; exact ⟨q0, qP, va_K.moved (u := U) (U := U.calling g mk a) (Vm.Alike.refl U.vm) qK, gl.blind qG⟩, va_recv hK hP (ci := 7) (q0 := 0) rfl rfl, fun U hU hW => ⟨rfl, by rw [hU]; exact hP.sub (ws' := [(m0, .inr (7, [.int ((nI N)), .int ((nI OU)), .ref b0, .ref t0, .ref f0, .ref g0, .ref k0, .ref v0, .ref d0, .int 0, .int 0]))]) [0] rfl, va_K.moved hW.alike hK, by rw [hU]; exact hG.moved hW⟩⟩ rfl hl.1 rfl (lv_room (Nat.le_of_ble_eq_true rfl)) d_Main_at_1 ⟨Nat.le_of_ble_eq_true rfl, Nat.le_of_ble_eq_true rfl⟩ (fun v st₀ t H1 L h0 h1 h2 hq hL => ?_) (fun xA st₀ t H1 L h0 h1 h2 hq hL => ?_)
  · obtain ⟨_, _, h9, _⟩ := hq
    cases h9
  obtain ⟨_, ce, h9, a1, a2, a3, a4, a5, a6⟩ := hq
  cases h9
  rw [h0] at a1 a2 a3
  rw [h1] at a2 a3 a4
  exact xt_leave hno hlocks (fun t' ht' hW' => ⟨xA, ce, rfl, a1, by rw [ht']; exact a2, fun q hq => by rw [ht']; exact a3 q hq, by rw [ht']; exact a4, a5, by rw [hW'.alike.findClass, ← h2.findClass]; exact a6⟩) (fun q hq => (hL q (by simpa using hq)).elim)
set_option maxHeartbeats 1000000 in
set_option maxRecDepth 100000 in
theorem c_Main_cost (l : Launch) (hfl : l.flags = flags0) (dC : Nat → ClassId) (dI : Nat → Nat → Nat) (cI cJ : ClassId) (m0 : Nat) (N : Nat) (OU : Nat) (b0 : Nat) (t0 : Nat) (f0 : Nat) (g0 : Nat) (k0 : Nat) (v0 : Nat) (d0 : Nat) : xt_Met l y_Main_cost (ct y_Main_cost b_Main_cost 4 (some .long)) ({ frames := 7, cells := 1, slots := 6, locals := 110 }) (va_Pc [.ref m0] (fun U => va_P (dC, dI) classes [(m0, .inr (7, [.int ((nI N)), .int ((nI OU)), .ref b0, .ref t0, .ref f0, .ref g0, .ref k0, .ref v0, .ref d0, .int 0, .int 0]))] U.heap ∧ va_K (dC, dI) classes [(cI, .int), (cJ, .long)] U ∧ gl (fun _ => False) U U.heap)) (xQ "java/lang/IllegalStateException") 1 6 (fun _ => False) := by
  refine xt_ofW (cc := b_Main_cost) (maxL := 4) (ret := some .long) (by decide) rfl ?_
  intro p e s m args below meth c s₁ B hml hno hv
  obtain ⟨rfl, hP, hK, hG⟩ := hv
  have hx := B.exec
  have hb := B.bytes
  have hr := B.returns
  have hts : ∀ w ∈ lwg, w.before _ s = true := fun w h => atoms_spec (ws := ct y_Main_cost b_Main_cost 4 (some .long)) B.pre w (List.mem_cons_of_mem _ h)
  have hown : s.vm.findClass R_Main = some m.cls := findClass_of_methodNamed B.named
  have hlocks := B.notSynchronized
  have hl := lv_entry ([.ref m0]) (n := 4) (Nat.le_of_ble_eq_true rfl)
  rw [lg_entry_eq]
  generalize (lg_sl ([.ref m0]) ++ List.replicate (4 - (lg_sl ([.ref m0])).length) Slot.unset).toArray = ls at hl ⊢
  have hl : lv_has ls 4 [(0, .ref m0)] := hl
  obtain ⟨⟨tF, hZF, hTF⟩, hGr⟩ := id hG
  refine lv_aload_n hx hb d_Main_cost_0 rfl (lv_at hl 0 rfl) ?_
  refine xt_callV (As := []) (rest := []) ⟨hx, hb, hml, hown, hts⟩ (c_Main_needKept l hfl dC dI cI cJ m0 N OU b0 t0 f0 g0 k0 v0 d0 ) (cwV 0 hts (ct_goodV mw_ml_Main_160 mw_im_Main_needKept mw_se_Main_needKept mw_ini_Main mw_code_Main_needKept) rfl rfl rfl (by decide +kernel) ⟨Nat.le_of_ble_eq_true rfl, Nat.le_of_ble_eq_true rfl⟩) ⟨fun a U g mk q => by obtain ⟨q0, qP, qK, qG⟩ := q; exact ⟨q0, qP, va_K.moved (u := U) (U := U.calling g mk a) (Vm.Alike.refl U.vm) qK, gl.blind qG⟩, va_recv hK hP (ci := 7) (q0 := 0) rfl rfl, fun U hU hW => ⟨rfl, by rw [hU]; exact hP.sub (ws' := [(m0, .inr (7, [.int ((nI N)), .int ((nI OU)), .ref b0, .ref t0, .ref f0, .ref g0, .ref k0, .ref v0, .ref d0, .int 0, .int 0]))]) [0] rfl, va_K.moved hW.alike hK, by rw [hU]; exact hG.moved hW⟩⟩ rfl hl.1 rfl (lv_room (Nat.le_of_ble_eq_true rfl)) d_Main_cost_1 ⟨Nat.le_of_ble_eq_true rfl, Nat.le_of_ble_eq_true rfl⟩ (fun v st₀ t H1 L h0 h1 h2 hq hL => ?_) (fun xA st₀ t H1 L h0 h1 h2 hq hL => ?_)
  · obtain ⟨_, _, h9, _⟩ := hq
    cases h9
  obtain ⟨_, ce, h9, a1, a2, a3, a4, a5, a6⟩ := hq
  cases h9
  rw [h0] at a1 a2 a3
  rw [h1] at a2 a3 a4
  exact xt_leave hno hlocks (fun t' ht' hW' => ⟨xA, ce, rfl, a1, by rw [ht']; exact a2, fun q hq => by rw [ht']; exact a3 q hq, by rw [ht']; exact a4, a5, by rw [hW'.alike.findClass, ← h2.findClass]; exact a6⟩) (fun q hq => (hL q (by simpa using hq)).elim)
set_option maxHeartbeats 1000000 in
set_option maxRecDepth 100000 in
theorem c_Main_kernels (l : Launch) (hfl : l.flags = flags0) (dC : Nat → ClassId) (dI : Nat → Nat → Nat) (cI cJ : ClassId) (m0 : Nat) (N : Nat) (OU : Nat) (b0 : Nat) (t0 : Nat) (f0 : Nat) (g0 : Nat) (k0 : Nat) (v0 : Nat) (d0 : Nat) : xt_Met l y_Main_kernels (ct y_Main_kernels b_Main_kernels 1 (some .int)) ({ frames := 7, cells := 1, slots := 6, locals := 110 }) (va_Pc [.ref m0] (fun U => va_P (dC, dI) classes [(m0, .inr (7, [.int ((nI N)), .int ((nI OU)), .ref b0, .ref t0, .ref f0, .ref g0, .ref k0, .ref v0, .ref d0, .int 0, .int 0]))] U.heap ∧ va_K (dC, dI) classes [(cI, .int), (cJ, .long)] U ∧ gl (fun _ => False) U U.heap)) (xQ "java/lang/IllegalStateException") 1 6 (fun _ => False) := by
  refine xt_ofW (cc := b_Main_kernels) (maxL := 1) (ret := some .int) (by decide) rfl ?_
  intro p e s m args below meth c s₁ B hml hno hv
  obtain ⟨rfl, hP, hK, hG⟩ := hv
  have hx := B.exec
  have hb := B.bytes
  have hr := B.returns
  have hts : ∀ w ∈ lwg, w.before _ s = true := fun w h => atoms_spec (ws := ct y_Main_kernels b_Main_kernels 1 (some .int)) B.pre w (List.mem_cons_of_mem _ h)
  have hown : s.vm.findClass R_Main = some m.cls := findClass_of_methodNamed B.named
  have hlocks := B.notSynchronized
  have hl := lv_entry ([.ref m0]) (n := 1) (Nat.le_of_ble_eq_true rfl)
  rw [lg_entry_eq]
  generalize (lg_sl ([.ref m0]) ++ List.replicate (1 - (lg_sl ([.ref m0])).length) Slot.unset).toArray = ls at hl ⊢
  have hl : lv_has ls 1 [(0, .ref m0)] := hl
  obtain ⟨⟨tF, hZF, hTF⟩, hGr⟩ := id hG
  refine lv_aload_n hx hb d_Main_kernels_0 rfl (lv_at hl 0 rfl) ?_
  refine xt_callV (As := []) (rest := []) ⟨hx, hb, hml, hown, hts⟩ (c_Main_needKept l hfl dC dI cI cJ m0 N OU b0 t0 f0 g0 k0 v0 d0 ) (cwV 0 hts (ct_goodV mw_ml_Main_160 mw_im_Main_needKept mw_se_Main_needKept mw_ini_Main mw_code_Main_needKept) rfl rfl rfl (by decide +kernel) ⟨Nat.le_of_ble_eq_true rfl, Nat.le_of_ble_eq_true rfl⟩) ⟨fun a U g mk q => by obtain ⟨q0, qP, qK, qG⟩ := q; exact ⟨q0, qP, va_K.moved (u := U) (U := U.calling g mk a) (Vm.Alike.refl U.vm) qK, gl.blind qG⟩, va_recv hK hP (ci := 7) (q0 := 0) rfl rfl, fun U hU hW => ⟨rfl, by rw [hU]; exact hP.sub (ws' := [(m0, .inr (7, [.int ((nI N)), .int ((nI OU)), .ref b0, .ref t0, .ref f0, .ref g0, .ref k0, .ref v0, .ref d0, .int 0, .int 0]))]) [0] rfl, va_K.moved hW.alike hK, by rw [hU]; exact hG.moved hW⟩⟩ rfl hl.1 rfl (lv_room (Nat.le_of_ble_eq_true rfl)) d_Main_kernels_1 ⟨Nat.le_of_ble_eq_true rfl, Nat.le_of_ble_eq_true rfl⟩ (fun v st₀ t H1 L h0 h1 h2 hq hL => ?_) (fun xA st₀ t H1 L h0 h1 h2 hq hL => ?_)
  · obtain ⟨_, _, h9, _⟩ := hq
    cases h9
  obtain ⟨_, ce, h9, a1, a2, a3, a4, a5, a6⟩ := hq
  cases h9
  rw [h0] at a1 a2 a3
  rw [h1] at a2 a3 a4
  exact xt_leave hno hlocks (fun t' ht' hW' => ⟨xA, ce, rfl, a1, by rw [ht']; exact a2, fun q hq => by rw [ht']; exact a3 q hq, by rw [ht']; exact a4, a5, by rw [hW'.alike.findClass, ← h2.findClass]; exact a6⟩) (fun q hq => (hL q (by simpa using hq)).elim)
set_option maxHeartbeats 1000000 in
set_option maxRecDepth 100000 in
theorem c_Main_divide (l : Launch) (hfl : l.flags = flags0) (dC : Nat → ClassId) (dI : Nat → Nat → Nat) (cI cJ : ClassId) (m0 : Nat) (N : Nat) (OU : Nat) (b0 : Nat) (t0 : Nat) (f0 : Nat) (g0 : Nat) (k0 : Nat) (v0 : Nat) (d0 : Nat) (x : Int32) : xt_Met l y_Main_divide (ct y_Main_divide b_Main_divide 2 (some .int)) ({ frames := 7, cells := 1, slots := 6, locals := 110 }) (va_Pc [.ref m0, .int x] (fun U => va_P (dC, dI) classes [(m0, .inr (7, [.int ((nI N)), .int ((nI OU)), .ref b0, .ref t0, .ref f0, .ref g0, .ref k0, .ref v0, .ref d0, .int 0, .int 0]))] U.heap ∧ va_K (dC, dI) classes [(cI, .int), (cJ, .long)] U ∧ gl (fun _ => False) U U.heap)) (xQ "java/lang/IllegalStateException") 1 6 (fun _ => False) := by
  refine xt_ofW (cc := b_Main_divide) (maxL := 2) (ret := some .int) (by decide) rfl ?_
  intro p e s m args below meth c s₁ B hml hno hv
  obtain ⟨rfl, hP, hK, hG⟩ := hv
  have hx := B.exec
  have hb := B.bytes
  have hr := B.returns
  have hts : ∀ w ∈ lwg, w.before _ s = true := fun w h => atoms_spec (ws := ct y_Main_divide b_Main_divide 2 (some .int)) B.pre w (List.mem_cons_of_mem _ h)
  have hown : s.vm.findClass R_Main = some m.cls := findClass_of_methodNamed B.named
  have hlocks := B.notSynchronized
  have hl := lv_entry ([.ref m0, .int x]) (n := 2) (Nat.le_of_ble_eq_true rfl)
  rw [lg_entry_eq]
  generalize (lg_sl ([.ref m0, .int x]) ++ List.replicate (2 - (lg_sl ([.ref m0, .int x])).length) Slot.unset).toArray = ls at hl ⊢
  have hl : lv_has ls 2 [(0, .ref m0), (1, .int x)] := hl
  obtain ⟨⟨tF, hZF, hTF⟩, hGr⟩ := id hG
  refine lv_aload_n hx hb d_Main_divide_0 rfl (lv_at hl 0 rfl) ?_
  refine xt_callV (As := []) (rest := []) ⟨hx, hb, hml, hown, hts⟩ (c_Main_needKept l hfl dC dI cI cJ m0 N OU b0 t0 f0 g0 k0 v0 d0 ) (cwV 0 hts (ct_goodV mw_ml_Main_160 mw_im_Main_needKept mw_se_Main_needKept mw_ini_Main mw_code_Main_needKept) rfl rfl rfl (by decide +kernel) ⟨Nat.le_of_ble_eq_true rfl, Nat.le_of_ble_eq_true rfl⟩) ⟨fun a U g mk q => by obtain ⟨q0, qP, qK, qG⟩ := q; exact ⟨q0, qP, va_K.moved (u := U) (U := U.calling g mk a) (Vm.Alike.refl U.vm) qK, gl.blind qG⟩, va_recv hK hP (ci := 7) (q0 := 0) rfl rfl, fun U hU hW => ⟨rfl, by rw [hU]; exact hP.sub (ws' := [(m0, .inr (7, [.int ((nI N)), .int ((nI OU)), .ref b0, .ref t0, .ref f0, .ref g0, .ref k0, .ref v0, .ref d0, .int 0, .int 0]))]) [0] rfl, va_K.moved hW.alike hK, by rw [hU]; exact hG.moved hW⟩⟩ rfl hl.1 rfl (lv_room (Nat.le_of_ble_eq_true rfl)) d_Main_divide_1 ⟨Nat.le_of_ble_eq_true rfl, Nat.le_of_ble_eq_true rfl⟩ (fun v st₀ t H1 L h0 h1 h2 hq hL => ?_) (fun xA st₀ t H1 L h0 h1 h2 hq hL => ?_)
  · obtain ⟨_, _, h9, _⟩ := hq
    cases h9
  obtain ⟨_, ce, h9, a1, a2, a3, a4, a5, a6⟩ := hq
  cases h9
  rw [h0] at a1 a2 a3
  rw [h1] at a2 a3 a4
  exact xt_leave hno hlocks (fun t' ht' hW' => ⟨xA, ce, rfl, a1, by rw [ht']; exact a2, fun q hq => by rw [ht']; exact a3 q hq, by rw [ht']; exact a4, a5, by rw [hW'.alike.findClass, ← h2.findClass]; exact a6⟩) (fun q hq => (hL q (by simpa using hq)).elim)
set_option maxHeartbeats 1000000 in
set_option maxRecDepth 100000 in
theorem c_Main_equal (l : Launch) (hfl : l.flags = flags0) (dC : Nat → ClassId) (dI : Nat → Nat → Nat) (cI cJ : ClassId) (m0 : Nat) (N : Nat) (OU : Nat) (b0 : Nat) (t0 : Nat) (f0 : Nat) (g0 : Nat) (k0 : Nat) (v0 : Nat) (d0 : Nat) : xt_Met l y_Main_equal (ct y_Main_equal b_Main_equal 3 (some .boolean)) ({ frames := 7, cells := 1, slots := 6, locals := 110 }) (va_Pc [.ref m0] (fun U => va_P (dC, dI) classes [(m0, .inr (7, [.int ((nI N)), .int ((nI OU)), .ref b0, .ref t0, .ref f0, .ref g0, .ref k0, .ref v0, .ref d0, .int 0, .int 0]))] U.heap ∧ va_K (dC, dI) classes [(cI, .int), (cJ, .long)] U ∧ gl (fun _ => False) U U.heap)) (xQ "java/lang/IllegalStateException") 1 6 (fun _ => False) := by
  refine xt_ofW (cc := b_Main_equal) (maxL := 3) (ret := some .boolean) (by decide) rfl ?_
  intro p e s m args below meth c s₁ B hml hno hv
  obtain ⟨rfl, hP, hK, hG⟩ := hv
  have hx := B.exec
  have hb := B.bytes
  have hr := B.returns
  have hts : ∀ w ∈ lwg, w.before _ s = true := fun w h => atoms_spec (ws := ct y_Main_equal b_Main_equal 3 (some .boolean)) B.pre w (List.mem_cons_of_mem _ h)
  have hown : s.vm.findClass R_Main = some m.cls := findClass_of_methodNamed B.named
  have hlocks := B.notSynchronized
  have hl := lv_entry ([.ref m0]) (n := 3) (Nat.le_of_ble_eq_true rfl)
  rw [lg_entry_eq]
  generalize (lg_sl ([.ref m0]) ++ List.replicate (3 - (lg_sl ([.ref m0])).length) Slot.unset).toArray = ls at hl ⊢
  have hl : lv_has ls 3 [(0, .ref m0)] := hl
  obtain ⟨⟨tF, hZF, hTF⟩, hGr⟩ := id hG
  refine lv_aload_n hx hb d_Main_equal_0 rfl (lv_at hl 0 rfl) ?_
  refine xt_callV (As := []) (rest := []) ⟨hx, hb, hml, hown, hts⟩ (c_Main_needKept l hfl dC dI cI cJ m0 N OU b0 t0 f0 g0 k0 v0 d0 ) (cwV 0 hts (ct_goodV mw_ml_Main_160 mw_im_Main_needKept mw_se_Main_needKept mw_ini_Main mw_code_Main_needKept) rfl rfl rfl (by decide +kernel) ⟨Nat.le_of_ble_eq_true rfl, Nat.le_of_ble_eq_true rfl⟩) ⟨fun a U g mk q => by obtain ⟨q0, qP, qK, qG⟩ := q; exact ⟨q0, qP, va_K.moved (u := U) (U := U.calling g mk a) (Vm.Alike.refl U.vm) qK, gl.blind qG⟩, va_recv hK hP (ci := 7) (q0 := 0) rfl rfl, fun U hU hW => ⟨rfl, by rw [hU]; exact hP.sub (ws' := [(m0, .inr (7, [.int ((nI N)), .int ((nI OU)), .ref b0, .ref t0, .ref f0, .ref g0, .ref k0, .ref v0, .ref d0, .int 0, .int 0]))]) [0] rfl, va_K.moved hW.alike hK, by rw [hU]; exact hG.moved hW⟩⟩ rfl hl.1 rfl (lv_room (Nat.le_of_ble_eq_true rfl)) d_Main_equal_1 ⟨Nat.le_of_ble_eq_true rfl, Nat.le_of_ble_eq_true rfl⟩ (fun v st₀ t H1 L h0 h1 h2 hq hL => ?_) (fun xA st₀ t H1 L h0 h1 h2 hq hL => ?_)
  · obtain ⟨_, _, h9, _⟩ := hq
    cases h9
  obtain ⟨_, ce, h9, a1, a2, a3, a4, a5, a6⟩ := hq
  cases h9
  rw [h0] at a1 a2 a3
  rw [h1] at a2 a3 a4
  exact xt_leave hno hlocks (fun t' ht' hW' => ⟨xA, ce, rfl, a1, by rw [ht']; exact a2, fun q hq => by rw [ht']; exact a3 q hq, by rw [ht']; exact a4, a5, by rw [hW'.alike.findClass, ← h2.findClass]; exact a6⟩) (fun q hq => (hL q (by simpa using hq)).elim)
set_option maxHeartbeats 1000000 in
set_option maxRecDepth 100000 in
theorem c_Main_value (l : Launch) (hfl : l.flags = flags0) (dC : Nat → ClassId) (dI : Nat → Nat → Nat) (cI cJ : ClassId) (m0 : Nat) (N : Nat) (OU : Nat) (b0 : Nat) (t0 : Nat) (f0 : Nat) (g0 : Nat) (k0 : Nat) (v0 : Nat) (d0 : Nat) (x : Int64) (y : Int32) : xt_Met l y_Main_value (ct y_Main_value b_Main_value 4 (some .boolean)) ({ frames := 7, cells := 1, slots := 6, locals := 110 }) (va_Pc [.ref m0, .long x, .int y] (fun U => va_P (dC, dI) classes [(m0, .inr (7, [.int ((nI N)), .int ((nI OU)), .ref b0, .ref t0, .ref f0, .ref g0, .ref k0, .ref v0, .ref d0, .int 0, .int 0]))] U.heap ∧ va_K (dC, dI) classes [(cI, .int), (cJ, .long)] U ∧ gl (fun _ => False) U U.heap)) (xQ "java/lang/IllegalStateException") 1 6 (fun _ => False) := by
  refine xt_ofW (cc := b_Main_value) (maxL := 4) (ret := some .boolean) (by decide) rfl ?_
  intro p e s m args below meth c s₁ B hml hno hv
  obtain ⟨rfl, hP, hK, hG⟩ := hv
  have hx := B.exec
  have hb := B.bytes
  have hr := B.returns
  have hts : ∀ w ∈ lwg, w.before _ s = true := fun w h => atoms_spec (ws := ct y_Main_value b_Main_value 4 (some .boolean)) B.pre w (List.mem_cons_of_mem _ h)
  have hown : s.vm.findClass R_Main = some m.cls := findClass_of_methodNamed B.named
  have hlocks := B.notSynchronized
  have hl := lv_entry ([.ref m0, .long x, .int y]) (n := 4) (Nat.le_of_ble_eq_true rfl)
  rw [lg_entry_eq]
  generalize (lg_sl ([.ref m0, .long x, .int y]) ++ List.replicate (4 - (lg_sl ([.ref m0, .long x, .int y])).length) Slot.unset).toArray = ls at hl ⊢
  have hl : lv_has ls 4 [(0, .ref m0), (1, .long x), (3, .int y)] := hl
  obtain ⟨⟨tF, hZF, hTF⟩, hGr⟩ := id hG
  refine lv_aload_n hx hb d_Main_value_0 rfl (lv_at hl 0 rfl) ?_
  refine xt_callV (As := []) (rest := []) ⟨hx, hb, hml, hown, hts⟩ (c_Main_needKept l hfl dC dI cI cJ m0 N OU b0 t0 f0 g0 k0 v0 d0 ) (cwV 0 hts (ct_goodV mw_ml_Main_160 mw_im_Main_needKept mw_se_Main_needKept mw_ini_Main mw_code_Main_needKept) rfl rfl rfl (by decide +kernel) ⟨Nat.le_of_ble_eq_true rfl, Nat.le_of_ble_eq_true rfl⟩) ⟨fun a U g mk q => by obtain ⟨q0, qP, qK, qG⟩ := q; exact ⟨q0, qP, va_K.moved (u := U) (U := U.calling g mk a) (Vm.Alike.refl U.vm) qK, gl.blind qG⟩, va_recv hK hP (ci := 7) (q0 := 0) rfl rfl, fun U hU hW => ⟨rfl, by rw [hU]; exact hP.sub (ws' := [(m0, .inr (7, [.int ((nI N)), .int ((nI OU)), .ref b0, .ref t0, .ref f0, .ref g0, .ref k0, .ref v0, .ref d0, .int 0, .int 0]))]) [0] rfl, va_K.moved hW.alike hK, by rw [hU]; exact hG.moved hW⟩⟩ rfl hl.1 rfl (lv_room (Nat.le_of_ble_eq_true rfl)) d_Main_value_1 ⟨Nat.le_of_ble_eq_true rfl, Nat.le_of_ble_eq_true rfl⟩ (fun v st₀ t H1 L h0 h1 h2 hq hL => ?_) (fun xA st₀ t H1 L h0 h1 h2 hq hL => ?_)
  · obtain ⟨_, _, h9, _⟩ := hq
    cases h9
  obtain ⟨_, ce, h9, a1, a2, a3, a4, a5, a6⟩ := hq
  cases h9
  rw [h0] at a1 a2 a3
  rw [h1] at a2 a3 a4
  exact xt_leave hno hlocks (fun t' ht' hW' => ⟨xA, ce, rfl, a1, by rw [ht']; exact a2, fun q hq => by rw [ht']; exact a3 q hq, by rw [ht']; exact a4, a5, by rw [hW'.alike.findClass, ← h2.findClass]; exact a6⟩) (fun q hq => (hL q (by simpa using hq)).elim)
set_option maxHeartbeats 1000000 in
set_option maxRecDepth 100000 in
theorem c_Main_quotient (l : Launch) (hfl : l.flags = flags0) (dC : Nat → ClassId) (dI : Nat → Nat → Nat) (cI cJ : ClassId) (m0 : Nat) (N : Nat) (OU : Nat) (b0 : Nat) (t0 : Nat) (f0 : Nat) (g0 : Nat) (k0 : Nat) (v0 : Nat) (d0 : Nat) (v1 : Nat) (v2 : Nat) (v3 : Nat) (lo : Int64) (hi : Int64) (on : Int32) (ze : Int32) (kl : Nat → Int64) (kh : Nat → Int64) (row : Nat → Int32) (a0 : Nat) (x : Int32) : xt_Met l y_Main_quotient (ct y_Main_quotient b_Main_quotient 2 (some .int)) ({ frames := 6, cells := 1, slots := 6, locals := 90 }) (va_Pc [.ref m0, .int x] (fun U => va_P (dC, dI) classes [(m0, .inr (7, [.int ((nI N)), .int ((nI OU)), .ref b0, .ref t0, .ref f0, .ref g0, .ref k0, .ref v0, .ref d0, .int 0, .int 0])), (v0, .inr (3, [.ref a0, .ref v1, .ref v2, .ref v3, .int 0, .long lo, .long hi, .int on, .int ze])), (v1, .inl (cJ, 81, .inr (.inl kl))), (v2, .inl (cJ, 81, .inr (.inl kh))), (v3, .inl (cI, 81, .inl row))] U.heap ∧ va_K (dC, dI) classes [(cI, .int), (cJ, .long)] U ∧ gl (fun _ => False) U U.heap)) (xQ "java/lang/IndexOutOfBoundsException") 1 6 (fun _ => False) := by
  refine xt_ofW (cc := b_Main_quotient) (maxL := 2) (ret := some .int) (by decide) rfl ?_
  intro p e s m args below meth c s₁ B hml hno hv
  obtain ⟨rfl, hP, hK, hG⟩ := hv
  have hx := B.exec
  have hb := B.bytes
  have hr := B.returns
  have hts : ∀ w ∈ lwg, w.before _ s = true := fun w h => atoms_spec (ws := ct y_Main_quotient b_Main_quotient 2 (some .int)) B.pre w (List.mem_cons_of_mem _ h)
  have hown : s.vm.findClass R_Main = some m.cls := findClass_of_methodNamed B.named
  have hlocks := B.notSynchronized
  have hl := lv_entry ([.ref m0, .int x]) (n := 2) (Nat.le_of_ble_eq_true rfl)
  rw [lg_entry_eq]
  generalize (lg_sl ([.ref m0, .int x]) ++ List.replicate (2 - (lg_sl ([.ref m0, .int x])).length) Slot.unset).toArray = ls at hl ⊢
  have hl : lv_has ls 2 [(0, .ref m0), (1, .int x)] := hl
  obtain ⟨⟨tF, hZF, hTF⟩, hGr⟩ := id hG
  refine lv_aload_n hx hb d_Main_quotient_0 rfl (lv_at hl 0 rfl) ?_
  refine va_get (D := (dC, dI)) (ci := 7) (v := .ref v0) (C := R_Main) (T := F_Main) (N := 11) hx hb hts i_Main hown hK hP 0 rfl rfl 7 (by decide) (hts _ mw_fl_Main_68) (fun _ h9 => h9) rfl d_Main_quotient_1 ?_
  refine lv_iload_n hx hb d_Main_quotient_4 rfl (lv_at hl 1 rfl) ?_
  refine vp_callSi (W.runV (As := [.int x]) (rest := []) ⟨hx, hb, hml, hown, hts⟩ (c_Division_holds l dC dI cI cJ v0 v1 v2 v3 0 lo hi on ze kl kh row a0 x ) (cwV 1 hts (ct_goodV mw_ml_Main_186 mw_im_Division_holds mw_se_Division_holds mw_ini_Division mw_code_Division_holds) rfl rfl rfl (by decide +kernel) ⟨Nat.le_of_ble_eq_true rfl, Nat.le_of_ble_eq_true rfl⟩) ⟨fun a U g mk q => by obtain ⟨q0, qP, qK⟩ := q; exact ⟨q0, qP, va_K.moved (u := U) (U := U.calling g mk a) (Vm.Alike.refl U.vm) qK⟩, va_recv hK hP (ci := 3) (q0 := 1) rfl rfl, fun U hU hW => ⟨rfl, by rw [hU]; exact (hP.sub (ws' := [(v0, .inr (3, [.ref a0, .ref v1, .ref v2, .ref v3, .int 0, .long lo, .long hi, .int on, .int ze])), (v1, .inl (cJ, 81, .inr (.inl kl))), (v2, .inl (cJ, 81, .inr (.inl kh))), (v3, .inl (cI, 81, .inl row))]) [1, 2, 3, 4] rfl), va_K.moved hW.alike hK⟩⟩ rfl rfl hl.1 rfl (lv_room (Nat.le_of_ble_eq_true rfl)) d_Main_quotient_5 ⟨Nat.le_of_ble_eq_true rfl, Nat.le_of_ble_eq_true rfl⟩) (fun r_1 hr_1 => ?_)
  rw [hr_1]
  clear hr_1
  refine w_ti (show _ = 0 from holds0 x) ?_
  refine lv_if_ne (tgt := 21) hx hb d_Main_quotient_8 (by decide) (fun c_8 => ?_) (fun c_8 => ?_)
  · exact absurd c_8 (by decide +kernel)
  · obtain ⟨qS, hqS⟩ := hGr.2.2.2 (187, "no such product, or no quotient") (by decide +kernel)
    exact xt_throwNew (A := fun _ => False) (own := "CoverRows") (cls := "java/lang/IndexOutOfBoundsException") (tx := "no such product, or no quotient") (names := ["java/lang/RuntimeException", "java/lang/Exception"]) (ix := 107) (ik := 187) (ic := 111) hx hb hfl hts hGr.2.2.1 xc_107 hown (by decide +kernel) (by decide +kernel) hno hlocks hqS hGr.1 hGr.2.1 (hl.1.trans hml.symm) (Nat.le_of_ble_eq_true rfl) (Nat.le_of_ble_eq_true rfl) (Nat.le_of_ble_eq_true rfl) (Nat.le_of_ble_eq_true rfl) d_Main_quotient_11 d_Main_quotient_14 d_Main_quotient_15 d_Main_quotient_17 d_Main_quotient_20 (fun x t ce h1 h2 h3 h4 h5 h6 h7 => ⟨x, ce, rfl, h1, h3, h4, h5, h6, by rw [h2.alike.findClass]; exact h7⟩) (fun q h => by cases h)
