/-! ===== the class: literal and to by roads ===== -/
theorem hold_e (x : Int32) (M : Nat) (h : ¬ (x < 0 ∨ nI M ≤ x)) : ¬ (if x < 0 ∨ nI M ≤ x then (0 : Int32) else 1) = 0 := by rw [if_neg h]; decide
theorem hold_n {C M : Nat} (h : C < M) (hM : M ≤ 24) : ¬ (nI C < 0 ∨ nI M ≤ nI C) := by
  rintro (g | g)
  · exact nI_pos (by omega) g
  · have := (nI_leI (a := M) (b := C) (by omega) (by omega)).mp g; omega
theorem hold_x {x : Int32} {M : Nat} (h : ¬ (if x < 0 ∨ nI M ≤ x then (0 : Int32) else 1) = 0) : ¬ (x < 0 ∨ nI M ≤ x) := fun g => h (if_pos g)
theorem lt_n {J N : Nat} (h : J < N) (hN : N ≤ 4) : nI J < nI N := (nI_ltI (a := J) (b := N) (by omega) (by omega)).mpr h
theorem if01 {c : Prop} [Decidable c] (h : (if c then (0 : Int32) else 1) = 0) : c := by
  by_cases hc : c
  · exact hc
  · rw [if_neg hc] at h; exact absurd h (by decide)
theorem pos_n {J N : Nat} (h : J < N) (hN : N ≤ 4) : ¬ nI J < 0 := nI_pos (by omega)
set_option maxHeartbeats 1000000 in
set_option maxRecDepth 100000 in
theorem c0_Main_to (l : Launch) (hfl : l.flags = flags0) (dC : Nat → ClassId) (dI : Nat → Nat → Nat) (cI cJ : ClassId) (m0 : Nat) (N : Nat) (OU : Nat) (b0 : Nat) (t0 : Nat) (f0 : Nat) (g0 : Nat) (k0 : Nat) (v0 : Nat) (d0 : Nat) (hk : Int32) (po : Int32) (b1 : Nat) (b2 : Nat) (M : Nat) (prod : Nat → Int32) (kind : Nat → Int32) (a0 : Nat) (x : Int32) (y : Int32) (z : Int32) (hM : M ≤ 24) (hOU : OU ≤ 2) (hbad : x < 0 ∨ nI M ≤ x ∨ y < 0 ∨ nI OU ≤ y) : xt_Met l y_Main_to (ct y_Main_to b_Main_to 5 (some .boolean)) ({ frames := 7, cells := 1, slots := 6, locals := 120 }) (va_Pc [.ref m0, .int x, .int y, .int z] (fun U => va_P (dC, dI) classes [(m0, .inr (7, [.int ((nI N)), .int ((nI OU)), .ref b0, .ref t0, .ref f0, .ref g0, .ref k0, .ref v0, .ref d0, .int hk, .int po])), (b0, .inr (1, [.ref a0, .int ((nI OU)), .ref b1, .ref b2, .int ((nI M))])), (b1, .inl (cI, 24, .inl prod)), (b2, .inl (cI, 48, .inl kind))] U.heap ∧ va_K (dC, dI) classes [(cI, .int), (cJ, .long)] U ∧ gl (fun _ => False) U U.heap)) (xQ "java/lang/IndexOutOfBoundsException") 1 6 (fun _ => False) := by
  refine xt_ofW (cc := b_Main_to) (maxL := 5) (ret := some .boolean) (by decide) rfl ?_
  intro p e s m args below meth c s₁ B hml hno hv
  obtain ⟨rfl, hP, hK, hG⟩ := hv
  have hx := B.exec
  have hb := B.bytes
  have hr := B.returns
  have hts : ∀ w ∈ lwg, w.before _ s = true := fun w h => atoms_spec (ws := ct y_Main_to b_Main_to 5 (some .boolean)) B.pre w (List.mem_cons_of_mem _ h)
  have hown : s.vm.findClass R_Main = some m.cls := findClass_of_methodNamed B.named
  have hlocks := B.notSynchronized
  have hl := lv_entry ([.ref m0, .int x, .int y, .int z]) (n := 5) (Nat.le_of_ble_eq_true rfl)
  rw [lg_entry_eq]
  generalize (lg_sl ([.ref m0, .int x, .int y, .int z]) ++ List.replicate (5 - (lg_sl ([.ref m0, .int x, .int y, .int z])).length) Slot.unset).toArray = ls at hl ⊢
  have hl : lv_has ls 5 [(0, .ref m0), (1, .int x), (2, .int y), (3, .int z)] := hl
  obtain ⟨⟨tF, hZF, hTF⟩, hGr⟩ := id hG
  refine lv_aload_n hx hb d_Main_to_0 rfl (lv_at hl 0 rfl) ?_
  refine va_get (D := (dC, dI)) (ci := 7) (v := .ref b0) (C := R_Main) (T := F_Main) (N := 11) hx hb hts i_Main hown hK hP 0 rfl rfl 2 (by decide) (hts _ mw_fl_Main_35) (fun _ h9 => h9) rfl d_Main_to_1 ?_
  refine lv_iload_n hx hb d_Main_to_4 rfl (lv_at hl 1 rfl) ?_
  refine vp_callSi (W.runV (As := [.int x]) (rest := []) ⟨hx, hb, hml, hown, hts⟩ (c_Cubes_holds l dC dI cI cJ b0 b1 b2 M (nI OU) prod kind a0 x hM) (cwV 1 hts (ct_goodV mw_ml_Main_103 mw_im_Cubes_holds mw_se_Cubes_holds mw_ini_Cubes mw_code_Cubes_holds) rfl rfl rfl (by decide +kernel) ⟨Nat.le_of_ble_eq_true rfl, Nat.le_of_ble_eq_true rfl⟩) ⟨fun a U g mk q => by obtain ⟨q0, qP, qK⟩ := q; exact ⟨q0, qP, va_K.moved (u := U) (U := U.calling g mk a) (Vm.Alike.refl U.vm) qK⟩, va_recv hK hP (ci := 1) (q0 := 1) rfl rfl, fun U hU hW => ⟨rfl, by rw [hU]; exact (hP.sub (ws' := (wC cI b0 b1 b2 a0 M (nI OU) prod kind)) [1, 2, 3] rfl), va_K.moved hW.alike hK⟩⟩ rfl rfl hl.1 rfl (lv_room (Nat.le_of_ble_eq_true rfl)) d_Main_to_5 ⟨Nat.le_of_ble_eq_true rfl, Nat.le_of_ble_eq_true rfl⟩) (fun r_1 hr_1 => ?_)
  rw [hr_1]
  clear hr_1
  refine lv_if_eq (tgt := 23) hx hb d_Main_to_8 (by decide) (fun c_8 => ?_) (fun c_8 => ?_)
  · obtain ⟨qS, hqS⟩ := hGr.2.2.2 (121, "no such cube or output") (by decide +kernel)
    exact xt_throwNew (A := fun _ => False) (own := "CoverRows") (cls := "java/lang/IndexOutOfBoundsException") (tx := "no such cube or output") (names := ["java/lang/RuntimeException", "java/lang/Exception"]) (ix := 107) (ik := 121) (ic := 111) hx hb hfl hts hGr.2.2.1 xc_107 hown (by decide +kernel) (by decide +kernel) hno hlocks hqS hGr.1 hGr.2.1 (hl.1.trans hml.symm) (Nat.le_of_ble_eq_true rfl) (Nat.le_of_ble_eq_true rfl) (Nat.le_of_ble_eq_true rfl) (Nat.le_of_ble_eq_true rfl) d_Main_to_23 d_Main_to_26 d_Main_to_27 d_Main_to_29 d_Main_to_32 (fun x t ce h1 h2 h3 h4 h5 h6 h7 => ⟨x, ce, rfl, h1, h3, h4, h5, h6, by rw [h2.alike.findClass]; exact h7⟩) (fun q h => by cases h)
  · refine lv_iload_n hx hb d_Main_to_11 rfl (lv_at hl 2 rfl) ?_
    refine lv_if_lt (tgt := 23) hx hb d_Main_to_12 (by decide) (fun c_12 => ?_) (fun c_12 => ?_)
    · obtain ⟨qS, hqS⟩ := hGr.2.2.2 (121, "no such cube or output") (by decide +kernel)
      exact xt_throwNew (A := fun _ => False) (own := "CoverRows") (cls := "java/lang/IndexOutOfBoundsException") (tx := "no such cube or output") (names := ["java/lang/RuntimeException", "java/lang/Exception"]) (ix := 107) (ik := 121) (ic := 111) hx hb hfl hts hGr.2.2.1 xc_107 hown (by decide +kernel) (by decide +kernel) hno hlocks hqS hGr.1 hGr.2.1 (hl.1.trans hml.symm) (Nat.le_of_ble_eq_true rfl) (Nat.le_of_ble_eq_true rfl) (Nat.le_of_ble_eq_true rfl) (Nat.le_of_ble_eq_true rfl) d_Main_to_23 d_Main_to_26 d_Main_to_27 d_Main_to_29 d_Main_to_32 (fun x t ce h1 h2 h3 h4 h5 h6 h7 => ⟨x, ce, rfl, h1, h3, h4, h5, h6, by rw [h2.alike.findClass]; exact h7⟩) (fun q h => by cases h)
    · refine lv_iload_n hx hb d_Main_to_15 rfl (lv_at hl 2 rfl) ?_
      refine lv_aload_n hx hb d_Main_to_16 rfl (lv_at hl 0 rfl) ?_
      refine va_get (D := (dC, dI)) (ci := 7) (v := .int ((nI OU))) (C := R_Main) (T := F_Main) (N := 11) hx hb hts i_Main hown hK hP 0 rfl rfl 1 (by decide) (hts _ mw_fl_Main_22) (fun _ h9 => h9) rfl d_Main_to_17 ?_
      refine lv_icmp_lt (tgt := 33) hx hb d_Main_to_20 (by decide) (fun c_20 => ?_) (fun c_20 => ?_)
      · exact absurd hbad (by rintro (g | g | g | g); exact hold_x c_8 (Or.inl g); exact hold_x c_8 (Or.inr g); exact c_12 g; exact absurd c_20 (Int32.not_lt.mpr g))
      · obtain ⟨qS, hqS⟩ := hGr.2.2.2 (121, "no such cube or output") (by decide +kernel)
        exact xt_throwNew (A := fun _ => False) (own := "CoverRows") (cls := "java/lang/IndexOutOfBoundsException") (tx := "no such cube or output") (names := ["java/lang/RuntimeException", "java/lang/Exception"]) (ix := 107) (ik := 121) (ic := 111) hx hb hfl hts hGr.2.2.1 xc_107 hown (by decide +kernel) (by decide +kernel) hno hlocks hqS hGr.1 hGr.2.1 (hl.1.trans hml.symm) (Nat.le_of_ble_eq_true rfl) (Nat.le_of_ble_eq_true rfl) (Nat.le_of_ble_eq_true rfl) (Nat.le_of_ble_eq_true rfl) d_Main_to_23 d_Main_to_26 d_Main_to_27 d_Main_to_29 d_Main_to_32 (fun x t ce h1 h2 h3 h4 h5 h6 h7 => ⟨x, ce, rfl, h1, h3, h4, h5, h6, by rw [h2.alike.findClass]; exact h7⟩) (fun q h => by cases h)
set_option maxHeartbeats 1000000 in
set_option maxRecDepth 100000 in
theorem c1_Main_to (l : Launch) (hfl : l.flags = flags0) (dC : Nat → ClassId) (dI : Nat → Nat → Nat) (cI cJ : ClassId) (m0 : Nat) (N : Nat) (OU : Nat) (b0 : Nat) (t0 : Nat) (f0 : Nat) (g0 : Nat) (k0 : Nat) (v0 : Nat) (d0 : Nat) (hk : Int32) (po : Int32) (b1 : Nat) (b2 : Nat) (M : Nat) (prod : Nat → Int32) (kind : Nat → Int32) (a0 : Nat) (C : Nat) (J : Nat) (z : Int32) (hM : M ≤ 24) (hOU : OU ≤ 2) (hC : C < M) (hJ : J < OU) (hz : z < 0 ∨ 2 < z) : xt_Met l y_Main_to (ct y_Main_to b_Main_to 5 (some .boolean)) ({ frames := 7, cells := 1, slots := 6, locals := 120 }) (va_Pc [.ref m0, .int ((nI C)), .int ((nI J)), .int z] (fun U => va_P (dC, dI) classes [(m0, .inr (7, [.int ((nI N)), .int ((nI OU)), .ref b0, .ref t0, .ref f0, .ref g0, .ref k0, .ref v0, .ref d0, .int hk, .int po])), (b0, .inr (1, [.ref a0, .int ((nI OU)), .ref b1, .ref b2, .int ((nI M))])), (b1, .inl (cI, 24, .inl prod)), (b2, .inl (cI, 48, .inl kind))] U.heap ∧ va_K (dC, dI) classes [(cI, .int), (cJ, .long)] U ∧ gl (fun _ => False) U U.heap)) (xQ "java/lang/IllegalArgumentException") 1 6 (fun _ => False) := by
  refine xt_ofW (cc := b_Main_to) (maxL := 5) (ret := some .boolean) (by decide) rfl ?_
  intro p e s m args below meth c s₁ B hml hno hv
  obtain ⟨rfl, hP, hK, hG⟩ := hv
  have hx := B.exec
  have hb := B.bytes
  have hr := B.returns
  have hts : ∀ w ∈ lwg, w.before _ s = true := fun w h => atoms_spec (ws := ct y_Main_to b_Main_to 5 (some .boolean)) B.pre w (List.mem_cons_of_mem _ h)
  have hown : s.vm.findClass R_Main = some m.cls := findClass_of_methodNamed B.named
  have hlocks := B.notSynchronized
  have hl := lv_entry ([.ref m0, .int ((nI C)), .int ((nI J)), .int z]) (n := 5) (Nat.le_of_ble_eq_true rfl)
  rw [lg_entry_eq]
  generalize (lg_sl ([.ref m0, .int ((nI C)), .int ((nI J)), .int z]) ++ List.replicate (5 - (lg_sl ([.ref m0, .int ((nI C)), .int ((nI J)), .int z])).length) Slot.unset).toArray = ls at hl ⊢
  have hl : lv_has ls 5 [(0, .ref m0), (1, .int ((nI C))), (2, .int ((nI J))), (3, .int z)] := hl
  obtain ⟨⟨tF, hZF, hTF⟩, hGr⟩ := id hG
  refine lv_aload_n hx hb d_Main_to_0 rfl (lv_at hl 0 rfl) ?_
  refine va_get (D := (dC, dI)) (ci := 7) (v := .ref b0) (C := R_Main) (T := F_Main) (N := 11) hx hb hts i_Main hown hK hP 0 rfl rfl 2 (by decide) (hts _ mw_fl_Main_35) (fun _ h9 => h9) rfl d_Main_to_1 ?_
  refine lv_iload_n hx hb d_Main_to_4 rfl (lv_at hl 1 rfl) ?_
  refine vp_callSi (W.runV (As := [.int ((nI C))]) (rest := []) ⟨hx, hb, hml, hown, hts⟩ (c_Cubes_holds l dC dI cI cJ b0 b1 b2 M (nI OU) prod kind a0 (nI C) hM) (cwV 1 hts (ct_goodV mw_ml_Main_103 mw_im_Cubes_holds mw_se_Cubes_holds mw_ini_Cubes mw_code_Cubes_holds) rfl rfl rfl (by decide +kernel) ⟨Nat.le_of_ble_eq_true rfl, Nat.le_of_ble_eq_true rfl⟩) ⟨fun a U g mk q => by obtain ⟨q0, qP, qK⟩ := q; exact ⟨q0, qP, va_K.moved (u := U) (U := U.calling g mk a) (Vm.Alike.refl U.vm) qK⟩, va_recv hK hP (ci := 1) (q0 := 1) rfl rfl, fun U hU hW => ⟨rfl, by rw [hU]; exact (hP.sub (ws' := (wC cI b0 b1 b2 a0 M (nI OU) prod kind)) [1, 2, 3] rfl), va_K.moved hW.alike hK⟩⟩ rfl rfl hl.1 rfl (lv_room (Nat.le_of_ble_eq_true rfl)) d_Main_to_5 ⟨Nat.le_of_ble_eq_true rfl, Nat.le_of_ble_eq_true rfl⟩) (fun r_1 hr_1 => ?_)
  rw [hr_1]
  clear hr_1
  refine lv_if_eq (tgt := 23) hx hb d_Main_to_8 (by decide) (fun c_8 => ?_) (fun c_8 => ?_)
  · exact absurd c_8 (hold_e _ _ (hold_n hC hM))
  · refine lv_iload_n hx hb d_Main_to_11 rfl (lv_at hl 2 rfl) ?_
    refine lv_if_lt (tgt := 23) hx hb d_Main_to_12 (by decide) (fun c_12 => ?_) (fun c_12 => ?_)
    · exact absurd c_12 (pos_n hJ (Nat.le_trans hOU (by decide)))
    · refine lv_iload_n hx hb d_Main_to_15 rfl (lv_at hl 2 rfl) ?_
      refine lv_aload_n hx hb d_Main_to_16 rfl (lv_at hl 0 rfl) ?_
      refine va_get (D := (dC, dI)) (ci := 7) (v := .int ((nI OU))) (C := R_Main) (T := F_Main) (N := 11) hx hb hts i_Main hown hK hP 0 rfl rfl 1 (by decide) (hts _ mw_fl_Main_22) (fun _ h9 => h9) rfl d_Main_to_17 ?_
      refine lv_icmp_lt (tgt := 33) hx hb d_Main_to_20 (by decide) (fun c_20 => ?_) (fun c_20 => ?_)
      · refine lv_iload_n hx hb d_Main_to_33 rfl (lv_at hl 3 rfl) ?_
        refine lv_if_lt (tgt := 42) hx hb d_Main_to_34 (by decide) (fun c_34 => ?_) (fun c_34 => ?_)
        · obtain ⟨qS, hqS⟩ := hGr.2.2.2 (123, "no such kind") (by decide +kernel)
          exact xt_throwNew (A := fun _ => False) (own := "CoverRows") (cls := "java/lang/IllegalArgumentException") (tx := "no such kind") (names := ["java/lang/RuntimeException", "java/lang/Exception"]) (ix := 112) (ik := 123) (ic := 116) hx hb hfl hts hGr.2.2.1 xc_112 hown (by decide +kernel) (by decide +kernel) hno hlocks hqS hGr.1 hGr.2.1 (hl.1.trans hml.symm) (Nat.le_of_ble_eq_true rfl) (Nat.le_of_ble_eq_true rfl) (Nat.le_of_ble_eq_true rfl) (Nat.le_of_ble_eq_true rfl) d_Main_to_42 d_Main_to_45 d_Main_to_46 d_Main_to_48 d_Main_to_51 (fun x t ce h1 h2 h3 h4 h5 h6 h7 => ⟨x, ce, rfl, h1, h3, h4, h5, h6, by rw [h2.alike.findClass]; exact h7⟩) (fun q h => by cases h)
        · refine lv_iload_n hx hb d_Main_to_37 rfl (lv_at hl 3 rfl) ?_
          refine lv_iconst (v := 2) hx hb d_Main_to_38 (by decide) ?_
          refine lv_icmp_le (tgt := 52) hx hb d_Main_to_39 (by decide) (fun c_39 => ?_) (fun c_39 => ?_)
          · exact absurd hz (by rintro (g | g); exact c_34 g; exact absurd c_39 (Int32.not_le.mpr g))
          · obtain ⟨qS, hqS⟩ := hGr.2.2.2 (123, "no such kind") (by decide +kernel)
            exact xt_throwNew (A := fun _ => False) (own := "CoverRows") (cls := "java/lang/IllegalArgumentException") (tx := "no such kind") (names := ["java/lang/RuntimeException", "java/lang/Exception"]) (ix := 112) (ik := 123) (ic := 116) hx hb hfl hts hGr.2.2.1 xc_112 hown (by decide +kernel) (by decide +kernel) hno hlocks hqS hGr.1 hGr.2.1 (hl.1.trans hml.symm) (Nat.le_of_ble_eq_true rfl) (Nat.le_of_ble_eq_true rfl) (Nat.le_of_ble_eq_true rfl) (Nat.le_of_ble_eq_true rfl) d_Main_to_42 d_Main_to_45 d_Main_to_46 d_Main_to_48 d_Main_to_51 (fun x t ce h1 h2 h3 h4 h5 h6 h7 => ⟨x, ce, rfl, h1, h3, h4, h5, h6, by rw [h2.alike.findClass]; exact h7⟩) (fun q h => by cases h)
      · exact absurd (lt_n hJ (Nat.le_trans hOU (by decide))) c_20
set_option maxHeartbeats 1000000 in
set_option maxRecDepth 100000 in
theorem c2_Main_to (l : Launch) (dC : Nat → ClassId) (dI : Nat → Nat → Nat) (cI cJ : ClassId) (sz0 : Nat) (m0 : Nat) (N : Nat) (OU : Nat) (b0 : Nat) (t0 : Nat) (f0 : Nat) (g0 : Nat) (k0 : Nat) (v0 : Nat) (d0 : Nat) (hk : Int32) (po : Int32) (b1 : Nat) (b2 : Nat) (M : Nat) (prod : Nat → Int32) (kind : Nat → Int32) (a0 : Nat) (C : Nat) (J : Nat) (z : Int32) (hM : M ≤ 24) (hOU : OU ≤ 2) (hC : C < M) (hJ : J < OU) (hz0 : ¬ z < 0) (hz2 : ¬ 2 < z) (hpo : po = 0 ∨ po = 1) : Met l y_Main_to (ct y_Main_to b_Main_to 5 (some .boolean)) ({ frames := 6, cells := 0, slots := 0, locals := 90 }) (va_Pc [.ref m0, .int ((nI C)), .int ((nI J)), .int z] (fun U => U.heap.size = sz0 ∧ va_P (dC, dI) classes [(m0, .inr (7, [.int ((nI N)), .int ((nI OU)), .ref b0, .ref t0, .ref f0, .ref g0, .ref k0, .ref v0, .ref d0, .int hk, .int po])), (b0, .inr (1, [.ref a0, .int ((nI OU)), .ref b1, .ref b2, .int ((nI M))])), (b1, .inl (cI, 24, .inl prod)), (b2, .inl (cI, 48, .inl kind))] U.heap ∧ va_K (dC, dI) classes [(cI, .int), (cJ, .long)] U ∧ va_D (fun _ => True) [(m0, .inr (7, [.int ((nI N)), .int ((nI OU)), .ref b0, .ref t0, .ref f0, .ref g0, .ref k0, .ref v0, .ref d0, .int hk, .int po])), (b0, .inr (1, [.ref a0, .int ((nI OU)), .ref b1, .ref b2, .int ((nI M))])), (b1, .inl (cI, 24, .inl prod)), (b2, .inl (cI, 48, .inl kind))])) (va_Qi (fun (r : Int32) (pox : (Int32)) => r = (if kind (C * 2 + J) = z then 0 else 1) ∧ (pox = 0 ∨ pox = 1) ∧ (pox = 0 → po = 0 ∧ kind (C * 2 + J) = z)) (fun (pox : (Int32)) => at_w dC dI cI cJ (va_A [(m0, .inr (7, [.int ((nI N)), .int ((nI OU)), .ref b0, .ref t0, .ref f0, .ref g0, .ref k0, .ref v0, .ref d0, .int hk, .int po])), (b0, .inr (1, [.ref a0, .int ((nI OU)), .ref b1, .ref b2, .int ((nI M))])), (b1, .inl (cI, 24, .inl prod)), (b2, .inl (cI, 48, .inl kind))] sz0) [(m0, .inr (7, [.int ((nI N)), .int ((nI OU)), .ref b0, .ref t0, .ref f0, .ref g0, .ref k0, .ref v0, .ref d0, .int hk, .int pox])), (b0, .inr (1, [.ref a0, .int ((nI OU)), .ref b1, .ref b2, .int ((nI M))])), (b1, .inl (cI, 24, .inl prod)), (b2, .inl (cI, 48, .inl ((upd kind (C * 2 + J) z))))]) (va_A [(m0, .inr (7, [.int ((nI N)), .int ((nI OU)), .ref b0, .ref t0, .ref f0, .ref g0, .ref k0, .ref v0, .ref d0, .int hk, .int po])), (b0, .inr (1, [.ref a0, .int ((nI OU)), .ref b1, .ref b2, .int ((nI M))])), (b1, .inl (cI, 24, .inl prod)), (b2, .inl (cI, 48, .inl kind))] sz0)) 0 0 (va_A [(m0, .inr (7, [.int ((nI N)), .int ((nI OU)), .ref b0, .ref t0, .ref f0, .ref g0, .ref k0, .ref v0, .ref d0, .int hk, .int po])), (b0, .inr (1, [.ref a0, .int ((nI OU)), .ref b1, .ref b2, .int ((nI M))])), (b1, .inl (cI, 24, .inl prod)), (b2, .inl (cI, 48, .inl kind))] sz0) := by
  refine Met.ofW (cc := b_Main_to) (maxL := 5) (ret := some .boolean) (by decide) rfl ?_
  intro p e s m args below meth c s₁ B hml hv
  obtain ⟨rfl, hsz, hP, hK, hD0⟩ := hv
  have hx := B.exec
  have hb := B.bytes
  have hr := B.returns
  have hts : ∀ w ∈ lwg, w.before _ s = true := fun w h => atoms_spec (ws := ct y_Main_to b_Main_to 5 (some .boolean)) B.pre w (List.mem_cons_of_mem _ h)
  have hown : s.vm.findClass R_Main = some m.cls := findClass_of_methodNamed B.named
  have hlocks := B.notSynchronized
  subst hsz
  have hD := hD0.self (sz := s.heap.size)
  generalize hAe : va_A [(m0, .inr (7, [.int ((nI N)), .int ((nI OU)), .ref b0, .ref t0, .ref f0, .ref g0, .ref k0, .ref v0, .ref d0, .int hk, .int po])), (b0, .inr (1, [.ref a0, .int ((nI OU)), .ref b1, .ref b2, .int ((nI M))])), (b1, .inl (cI, 24, .inl prod)), (b2, .inl (cI, 48, .inl kind))] s.heap.size = A at hD ⊢
  have hA : ∀ q : Nat, s.heap.size ≤ q → A q := fun q h => by rw [← hAe]; exact Or.inr h
  have hS : va_S A s.heap s.heap [] := va_S.rf
  have hl := lv_entry ([.ref m0, .int ((nI C)), .int ((nI J)), .int z]) (n := 5) (Nat.le_of_ble_eq_true rfl)
  rw [lg_entry_eq]
  generalize (lg_sl ([.ref m0, .int ((nI C)), .int ((nI J)), .int z]) ++ List.replicate (5 - (lg_sl ([.ref m0, .int ((nI C)), .int ((nI J)), .int z])).length) Slot.unset).toArray = ls at hl ⊢
  have hl : lv_has ls 5 [(0, .ref m0), (1, .int ((nI C))), (2, .int ((nI J))), (3, .int z)] := hl
  have hP : va_P (dC, dI) classes [(m0, .inr (7, [.int ((nI N)), .int ((nI OU)), .ref b0, .ref t0, .ref f0, .ref g0, .ref k0, .ref v0, .ref d0, .int hk, .int po])), (b0, .inr (1, [.ref a0, .int ((nI OU)), .ref b1, .ref b2, .int ((nI M))])), (b1, .inl (cI, 24, .inl prod)), (b2, .inl (cI, 48, .inl kind))] s.heap := hP
  refine lv_aload_n hx hb d_Main_to_0 rfl (lv_at hl 0 rfl) ?_
  refine va_get (D := (dC, dI)) (ci := 7) (v := .ref b0) (C := R_Main) (T := F_Main) (N := 11) hx hb hts i_Main hown hK hP 0 rfl rfl 2 (by decide) (hts _ mw_fl_Main_35) (fun _ h9 => h9) rfl d_Main_to_1 ?_
  refine lv_iload_n hx hb d_Main_to_4 rfl (lv_at hl 1 rfl) ?_
  refine vp_callSi (W.runV (As := [.int ((nI C))]) (rest := []) ⟨hx, hb, hml, hown, hts⟩ (c_Cubes_holds l dC dI cI cJ b0 b1 b2 M (nI OU) prod kind a0 (nI C) hM) (cwV 1 hts (ct_goodV mw_ml_Main_103 mw_im_Cubes_holds mw_se_Cubes_holds mw_ini_Cubes mw_code_Cubes_holds) rfl rfl rfl (by decide +kernel) ⟨Nat.le_of_ble_eq_true rfl, Nat.le_of_ble_eq_true rfl⟩) ⟨fun a U g mk q => by obtain ⟨q0, qP, qK⟩ := q; exact ⟨q0, qP, va_K.moved (u := U) (U := U.calling g mk a) (Vm.Alike.refl U.vm) qK⟩, va_recv hK hP (ci := 1) (q0 := 1) rfl rfl, fun U hU hW => ⟨rfl, by rw [hU]; exact (hP.sub (ws' := (wC cI b0 b1 b2 a0 M (nI OU) prod kind)) [1, 2, 3] rfl), va_K.moved hW.alike hK⟩⟩ rfl rfl hl.1 rfl (lv_room (Nat.le_of_ble_eq_true rfl)) d_Main_to_5 ⟨Nat.le_of_ble_eq_true rfl, Nat.le_of_ble_eq_true rfl⟩) (fun r_1 hr_1 => ?_)
  rw [hr_1]
  clear hr_1
  refine lv_if_eq (tgt := 23) hx hb d_Main_to_8 (by decide) (fun c_8 => ?_) (fun c_8 => ?_)
  · exact absurd c_8 (hold_e _ _ (hold_n hC hM))
  · refine lv_iload_n hx hb d_Main_to_11 rfl (lv_at hl 2 rfl) ?_
    refine lv_if_lt (tgt := 23) hx hb d_Main_to_12 (by decide) (fun c_12 => ?_) (fun c_12 => ?_)
    · exact absurd c_12 (pos_n hJ (Nat.le_trans hOU (by decide)))
    · refine lv_iload_n hx hb d_Main_to_15 rfl (lv_at hl 2 rfl) ?_
      refine lv_aload_n hx hb d_Main_to_16 rfl (lv_at hl 0 rfl) ?_
      refine va_get (D := (dC, dI)) (ci := 7) (v := .int ((nI OU))) (C := R_Main) (T := F_Main) (N := 11) hx hb hts i_Main hown hK hP 0 rfl rfl 1 (by decide) (hts _ mw_fl_Main_22) (fun _ h9 => h9) rfl d_Main_to_17 ?_
      refine lv_icmp_lt (tgt := 33) hx hb d_Main_to_20 (by decide) (fun c_20 => ?_) (fun c_20 => ?_)
      · refine lv_iload_n hx hb d_Main_to_33 rfl (lv_at hl 3 rfl) ?_
        refine lv_if_lt (tgt := 42) hx hb d_Main_to_34 (by decide) (fun c_34 => ?_) (fun c_34 => ?_)
        · exact absurd c_34 hz0
        · refine lv_iload_n hx hb d_Main_to_37 rfl (lv_at hl 3 rfl) ?_
          refine lv_iconst (v := 2) hx hb d_Main_to_38 (by decide) ?_
          refine lv_icmp_le (tgt := 52) hx hb d_Main_to_39 (by decide) (fun c_39 => ?_) (fun c_39 => ?_)
          · refine lv_aload_n hx hb d_Main_to_52 rfl (lv_at hl 0 rfl) ?_
            refine va_get (D := (dC, dI)) (ci := 7) (v := .ref b0) (C := R_Main) (T := F_Main) (N := 11) hx hb hts i_Main hown hK hP 0 rfl rfl 2 (by decide) (hts _ mw_fl_Main_35) (fun _ h9 => h9) rfl d_Main_to_53 ?_
            refine lv_iload_n hx hb d_Main_to_56 rfl (lv_at hl 1 rfl) ?_
            refine lv_iload_n hx hb d_Main_to_57 rfl (lv_at hl 2 rfl) ?_
            refine lv_iload_n hx hb d_Main_to_58 rfl (lv_at hl 3 rfl) ?_
            have hPc := hP.sub (ws' := [(b0, .inr (1, [.ref a0, .int ((nI OU)), .ref b1, .ref b2, .int ((nI M))])), (b1, .inl (cI, 24, .inl prod)), (b2, .inl (cI, 48, .inl kind))]) [1, 2, 3] rfl
            have hDc := hD.sub (ws' := [(b0, .inr (1, [.ref a0, .int ((nI OU)), .ref b1, .ref b2, .int ((nI M))])), (b1, .inl (cI, 24, .inl prod)), (b2, .inl (cI, 48, .inl kind))]) [1, 2, 3] (by decide) rfl
            have hFc := va_free (wc := [(b0, .inr (1, [.ref a0, .int ((nI OU)), .ref b1, .ref b2, .int ((nI M))])), (b1, .inl (cI, 24, .inl prod)), (b2, .inl (cI, 48, .inl kind))]) hD hS hA [1, 2, 3] rfl
            refine va_calli (va_runV (As := [.int ((nI C)), .int ((nI J)), .int z]) (rest := []) ⟨hx, hb, hml, hown, hts⟩ (c_Cubes_setKind l dC dI cI cJ _ b0 b1 b2 M (nI OU) prod kind a0 C J z (Nat.lt_of_lt_of_le hC hM) (Nat.lt_of_lt_of_le hJ hOU)) (cwV 3 hts (ct_goodV mw_ml_Main_125 mw_im_Cubes_setKind mw_se_Cubes_setKind mw_ini_Cubes mw_code_Cubes_setKind) rfl rfl rfl (by decide +kernel) ⟨Nat.le_of_ble_eq_true rfl, Nat.le_of_ble_eq_true rfl⟩) ⟨fun a U g mk q => by obtain ⟨q0, q1, qP, qK, qD⟩ := q; exact ⟨q0, q1, qP, va_K.moved (u := U) (U := U.calling g mk a) (Vm.Alike.refl U.vm) qK, qD⟩, va_recv hK hPc (ci := 1) (q0 := 0) rfl rfl, fun U hU hW => ⟨rfl, by rw [hU], by rw [hU]; exact hPc, va_K.moved hW.alike hK, hDc.weaken (fun _ _ _ _ => trivial)⟩⟩ rfl rfl hl.1 rfl (lv_room (Nat.le_of_ble_eq_true rfl)) d_Main_to_59 ⟨Nat.le_of_ble_eq_true rfl, Nat.le_of_ble_eq_true rfl⟩) hS (fun q _ h => hFc q h) hFc (fun r_2 u t H1 locs ht hvm hw hB hz1 hk1 hS => ?_)
            obtain ⟨hP1, hK1, hD1⟩ := hB
            rw [ht] at hP1
            obtain ⟨hP, hD⟩ := va_join (wr := [(m0, .inr (7, [.int ((nI N)), .int ((nI OU)), .ref b0, .ref t0, .ref f0, .ref g0, .ref k0, .ref v0, .ref d0, .int hk, .int po]))]) (w1 := [(b0, .inr (1, [.ref a0, .int ((nI OU)), .ref b1, .ref b2, .int ((nI M))])), (b1, .inl (cI, 24, .inl prod)), (b2, .inl (cI, 48, .inl ((upd kind (C * 2 + J) z))))]) hP hD [1, 2, 3] [0] rfl rfl (by decide) (by decide) hk1 hFc hP1 hD1
            clear hPc hDc hFc hP1 hK1 hD1 hk1 hz1 hvm ht
            generalize H1 = H at hP hS ⊢
            have hP : va_P (dC, dI) classes [(m0, .inr (7, [.int ((nI N)), .int ((nI OU)), .ref b0, .ref t0, .ref f0, .ref g0, .ref k0, .ref v0, .ref d0, .int hk, .int po])), (b0, .inr (1, [.ref a0, .int ((nI OU)), .ref b1, .ref b2, .int ((nI M))])), (b1, .inl (cI, 24, .inl prod)), (b2, .inl (cI, 48, .inl ((upd kind (C * 2 + J) z))))] H := hP
            have hD : va_D A [(m0, .inr (7, [.int ((nI N)), .int ((nI OU)), .ref b0, .ref t0, .ref f0, .ref g0, .ref k0, .ref v0, .ref d0, .int hk, .int po])), (b0, .inr (1, [.ref a0, .int ((nI OU)), .ref b1, .ref b2, .int ((nI M))])), (b1, .inl (cI, 24, .inl prod)), (b2, .inl (cI, 48, .inl ((upd kind (C * 2 + J) z))))] := hD
            rw [hw]
            clear hw
            refine lv_istore (lv' := [(4, .int ((if kind (C * 2 + J) = z then 0 else 1))), (0, .ref m0), (1, .int ((nI C))), (2, .int ((nI J))), (3, .int z)]) hx hb d_Main_to_62 hl (by decide) rfl (fun ls hl => ?_)
            refine lv_aload_n hx hb d_Main_to_64 rfl (lv_at hl 1 rfl) ?_
            refine lv_aload_n hx hb d_Main_to_65 rfl (lv_at hl 1 rfl) ?_
            refine va_get (D := (dC, dI)) (ci := 7) (v := .int po) (C := R_Main) (T := F_Main) (N := 11) hx hb hts i_Main hown hK hP 0 rfl rfl 10 (by decide) (hts _ mw_fl_Main_85) (fun _ h9 => h9) rfl d_Main_to_66 ?_
            refine lv_if_ne (tgt := 77) hx hb d_Main_to_69 (by decide) (fun c_69 => ?_) (fun c_69 => ?_)
            · refine lv_iconst (v := 1) hx hb d_Main_to_77 (by decide) ?_
              refine lv_goto (tgt := 82) hx hb d_Main_to_78 (by decide) ?_
              refine va_put (D := (dC, dI)) (ci := 7) (v := .int 1) (ty := .boolean) (C := R_Main) (T := F_Main) (N := 11) hx hb hts i_Main t_Main t_Main_ok n_Main hown hK hP hD hS 0 rfl rfl 10 (by decide) (hts _ mw_fl_Main_85) (fun _ h9 => h9) rfl (by decide +kernel) rfl rfl (Nat.le_of_ble_eq_true rfl) d_Main_to_82 (fun H locs hP hD hS => ?_)
              have hP : va_P (dC, dI) classes [(m0, .inr (7, [.int ((nI N)), .int ((nI OU)), .ref b0, .ref t0, .ref f0, .ref g0, .ref k0, .ref v0, .ref d0, .int hk, .int 1])), (b0, .inr (1, [.ref a0, .int ((nI OU)), .ref b1, .ref b2, .int ((nI M))])), (b1, .inl (cI, 24, .inl prod)), (b2, .inl (cI, 48, .inl ((upd kind (C * 2 + J) z))))] H := hP
              have hD : va_D A [(m0, .inr (7, [.int ((nI N)), .int ((nI OU)), .ref b0, .ref t0, .ref f0, .ref g0, .ref k0, .ref v0, .ref d0, .int hk, .int 1])), (b0, .inr (1, [.ref a0, .int ((nI OU)), .ref b1, .ref b2, .int ((nI M))])), (b1, .inl (cI, 24, .inl prod)), (b2, .inl (cI, 48, .inl ((upd kind (C * 2 + J) z))))] := hD
              refine lv_iload hx hb d_Main_to_85 (lv_at hl 0 rfl) ?_
              have hP9 := hP.sub (ws' := [(m0, .inr (7, [.int ((nI N)), .int ((nI OU)), .ref b0, .ref t0, .ref f0, .ref g0, .ref k0, .ref v0, .ref d0, .int hk, .int 1])), (b0, .inr (1, [.ref a0, .int ((nI OU)), .ref b1, .ref b2, .int ((nI M))])), (b1, .inl (cI, 24, .inl prod)), (b2, .inl (cI, 48, .inl ((upd kind (C * 2 + J) z))))]) [0, 1, 2, 3] rfl
              have hD9 := hD.sub (ws' := [(m0, .inr (7, [.int ((nI N)), .int ((nI OU)), .ref b0, .ref t0, .ref f0, .ref g0, .ref k0, .ref v0, .ref d0, .int hk, .int 1])), (b0, .inr (1, [.ref a0, .int ((nI OU)), .ref b1, .ref b2, .int ((nI M))])), (b1, .inl (cI, 24, .inl prod)), (b2, .inl (cI, 48, .inl ((upd kind (C * 2 + J) z))))]) [0, 1, 2, 3] (by decide) rfl
              exact W.zret (v := (if kind (C * 2 + J) = z then 0 else 1)) hx hb hr (z01 _) (fun t ht hW => ⟨⟨(if kind (C * 2 + J) = z then 0 else 1), 1, rfl, ⟨rfl, Or.inr rfl, fun h => absurd h (by decide)⟩, by rw [ht]; exact hP9, va_K.moved hW.alike hK, hD9⟩, hS.F ht⟩) hS.2.2 d_Main_to_87
            · refine lv_iload hx hb d_Main_to_72 (lv_at hl 0 rfl) ?_
              refine lv_if_eq (tgt := 81) hx hb d_Main_to_74 (by decide) (fun c_74 => ?_) (fun c_74 => ?_)
              · refine lv_iconst (v := 0) hx hb d_Main_to_81 (by decide) ?_
                refine va_put (D := (dC, dI)) (ci := 7) (v := .int 0) (ty := .boolean) (C := R_Main) (T := F_Main) (N := 11) hx hb hts i_Main t_Main t_Main_ok n_Main hown hK hP hD hS 0 rfl rfl 10 (by decide) (hts _ mw_fl_Main_85) (fun _ h9 => h9) rfl (by decide +kernel) rfl rfl (Nat.le_of_ble_eq_true rfl) d_Main_to_82 (fun H locs hP hD hS => ?_)
                have hP : va_P (dC, dI) classes [(m0, .inr (7, [.int ((nI N)), .int ((nI OU)), .ref b0, .ref t0, .ref f0, .ref g0, .ref k0, .ref v0, .ref d0, .int hk, .int 0])), (b0, .inr (1, [.ref a0, .int ((nI OU)), .ref b1, .ref b2, .int ((nI M))])), (b1, .inl (cI, 24, .inl prod)), (b2, .inl (cI, 48, .inl ((upd kind (C * 2 + J) z))))] H := hP
                have hD : va_D A [(m0, .inr (7, [.int ((nI N)), .int ((nI OU)), .ref b0, .ref t0, .ref f0, .ref g0, .ref k0, .ref v0, .ref d0, .int hk, .int 0])), (b0, .inr (1, [.ref a0, .int ((nI OU)), .ref b1, .ref b2, .int ((nI M))])), (b1, .inl (cI, 24, .inl prod)), (b2, .inl (cI, 48, .inl ((upd kind (C * 2 + J) z))))] := hD
                refine lv_iload hx hb d_Main_to_85 (lv_at hl 0 rfl) ?_
                have hP9 := hP.sub (ws' := [(m0, .inr (7, [.int ((nI N)), .int ((nI OU)), .ref b0, .ref t0, .ref f0, .ref g0, .ref k0, .ref v0, .ref d0, .int hk, .int 0])), (b0, .inr (1, [.ref a0, .int ((nI OU)), .ref b1, .ref b2, .int ((nI M))])), (b1, .inl (cI, 24, .inl prod)), (b2, .inl (cI, 48, .inl ((upd kind (C * 2 + J) z))))]) [0, 1, 2, 3] rfl
                have hD9 := hD.sub (ws' := [(m0, .inr (7, [.int ((nI N)), .int ((nI OU)), .ref b0, .ref t0, .ref f0, .ref g0, .ref k0, .ref v0, .ref d0, .int hk, .int 0])), (b0, .inr (1, [.ref a0, .int ((nI OU)), .ref b1, .ref b2, .int ((nI M))])), (b1, .inl (cI, 24, .inl prod)), (b2, .inl (cI, 48, .inl ((upd kind (C * 2 + J) z))))]) [0, 1, 2, 3] (by decide) rfl
                exact W.zret (v := (if kind (C * 2 + J) = z then 0 else 1)) hx hb hr (z01 _) (fun t ht hW => ⟨⟨(if kind (C * 2 + J) = z then 0 else 1), 0, rfl, ⟨rfl, Or.inl rfl, fun _ => ⟨c_69, if01 c_74⟩⟩, by rw [ht]; exact hP9, va_K.moved hW.alike hK, hD9⟩, hS.F ht⟩) hS.2.2 d_Main_to_87
              · refine lv_iconst (v := 1) hx hb d_Main_to_77 (by decide) ?_
                refine lv_goto (tgt := 82) hx hb d_Main_to_78 (by decide) ?_
                refine va_put (D := (dC, dI)) (ci := 7) (v := .int 1) (ty := .boolean) (C := R_Main) (T := F_Main) (N := 11) hx hb hts i_Main t_Main t_Main_ok n_Main hown hK hP hD hS 0 rfl rfl 10 (by decide) (hts _ mw_fl_Main_85) (fun _ h9 => h9) rfl (by decide +kernel) rfl rfl (Nat.le_of_ble_eq_true rfl) d_Main_to_82 (fun H locs hP hD hS => ?_)
                have hP : va_P (dC, dI) classes [(m0, .inr (7, [.int ((nI N)), .int ((nI OU)), .ref b0, .ref t0, .ref f0, .ref g0, .ref k0, .ref v0, .ref d0, .int hk, .int 1])), (b0, .inr (1, [.ref a0, .int ((nI OU)), .ref b1, .ref b2, .int ((nI M))])), (b1, .inl (cI, 24, .inl prod)), (b2, .inl (cI, 48, .inl ((upd kind (C * 2 + J) z))))] H := hP
                have hD : va_D A [(m0, .inr (7, [.int ((nI N)), .int ((nI OU)), .ref b0, .ref t0, .ref f0, .ref g0, .ref k0, .ref v0, .ref d0, .int hk, .int 1])), (b0, .inr (1, [.ref a0, .int ((nI OU)), .ref b1, .ref b2, .int ((nI M))])), (b1, .inl (cI, 24, .inl prod)), (b2, .inl (cI, 48, .inl ((upd kind (C * 2 + J) z))))] := hD
                refine lv_iload hx hb d_Main_to_85 (lv_at hl 0 rfl) ?_
                have hP9 := hP.sub (ws' := [(m0, .inr (7, [.int ((nI N)), .int ((nI OU)), .ref b0, .ref t0, .ref f0, .ref g0, .ref k0, .ref v0, .ref d0, .int hk, .int 1])), (b0, .inr (1, [.ref a0, .int ((nI OU)), .ref b1, .ref b2, .int ((nI M))])), (b1, .inl (cI, 24, .inl prod)), (b2, .inl (cI, 48, .inl ((upd kind (C * 2 + J) z))))]) [0, 1, 2, 3] rfl
                have hD9 := hD.sub (ws' := [(m0, .inr (7, [.int ((nI N)), .int ((nI OU)), .ref b0, .ref t0, .ref f0, .ref g0, .ref k0, .ref v0, .ref d0, .int hk, .int 1])), (b0, .inr (1, [.ref a0, .int ((nI OU)), .ref b1, .ref b2, .int ((nI M))])), (b1, .inl (cI, 24, .inl prod)), (b2, .inl (cI, 48, .inl ((upd kind (C * 2 + J) z))))]) [0, 1, 2, 3] (by decide) rfl
                exact W.zret (v := (if kind (C * 2 + J) = z then 0 else 1)) hx hb hr (z01 _) (fun t ht hW => ⟨⟨(if kind (C * 2 + J) = z then 0 else 1), 1, rfl, ⟨rfl, Or.inr rfl, fun h => absurd h (by decide)⟩, by rw [ht]; exact hP9, va_K.moved hW.alike hK, hD9⟩, hS.F ht⟩) hS.2.2 d_Main_to_87
          · exact absurd (Int32.not_lt.mp hz2) c_39
      · exact absurd (lt_n hJ (Nat.le_trans hOU (by decide))) c_20
set_option maxHeartbeats 1000000 in
set_option maxRecDepth 100000 in
theorem c0_Main_literal (l : Launch) (hfl : l.flags = flags0) (dC : Nat → ClassId) (dI : Nat → Nat → Nat) (cI cJ : ClassId) (m0 : Nat) (N : Nat) (OU : Nat) (b0 : Nat) (t0 : Nat) (f0 : Nat) (g0 : Nat) (k0 : Nat) (v0 : Nat) (d0 : Nat) (hk : Int32) (po : Int32) (b1 : Nat) (b2 : Nat) (M : Nat) (prod : Nat → Int32) (kind : Nat → Int32) (a0 : Nat) (x : Int32) (y : Int32) (z : Int32) (hM : M ≤ 24) (hN : N ≤ 4) (hbad : x < 0 ∨ nI M ≤ x ∨ y < 0 ∨ nI N ≤ y) : xt_Met l y_Main_literal (ct y_Main_literal b_Main_literal 5 (some .boolean)) ({ frames := 7, cells := 1, slots := 6, locals := 120 }) (va_Pc [.ref m0, .int x, .int y, .int z] (fun U => va_P (dC, dI) classes [(m0, .inr (7, [.int ((nI N)), .int ((nI OU)), .ref b0, .ref t0, .ref f0, .ref g0, .ref k0, .ref v0, .ref d0, .int hk, .int po])), (b0, .inr (1, [.ref a0, .int ((nI OU)), .ref b1, .ref b2, .int ((nI M))])), (b1, .inl (cI, 24, .inl prod)), (b2, .inl (cI, 48, .inl kind))] U.heap ∧ va_K (dC, dI) classes [(cI, .int), (cJ, .long)] U ∧ gl (fun _ => False) U U.heap)) (xQ "java/lang/IndexOutOfBoundsException") 1 6 (fun _ => False) := by
  refine xt_ofW (cc := b_Main_literal) (maxL := 5) (ret := some .boolean) (by decide) rfl ?_
  intro p e s m args below meth c s₁ B hml hno hv
  obtain ⟨rfl, hP, hK, hG⟩ := hv
  have hx := B.exec
  have hb := B.bytes
  have hr := B.returns
  have hts : ∀ w ∈ lwg, w.before _ s = true := fun w h => atoms_spec (ws := ct y_Main_literal b_Main_literal 5 (some .boolean)) B.pre w (List.mem_cons_of_mem _ h)
  have hown : s.vm.findClass R_Main = some m.cls := findClass_of_methodNamed B.named
  have hlocks := B.notSynchronized
  have hl := lv_entry ([.ref m0, .int x, .int y, .int z]) (n := 5) (Nat.le_of_ble_eq_true rfl)
  rw [lg_entry_eq]
  generalize (lg_sl ([.ref m0, .int x, .int y, .int z]) ++ List.replicate (5 - (lg_sl ([.ref m0, .int x, .int y, .int z])).length) Slot.unset).toArray = ls at hl ⊢
  have hl : lv_has ls 5 [(0, .ref m0), (1, .int x), (2, .int y), (3, .int z)] := hl
  obtain ⟨⟨tF, hZF, hTF⟩, hGr⟩ := id hG
  refine lv_aload_n hx hb d_Main_literal_0 rfl (lv_at hl 0 rfl) ?_
  refine va_get (D := (dC, dI)) (ci := 7) (v := .ref b0) (C := R_Main) (T := F_Main) (N := 11) hx hb hts i_Main hown hK hP 0 rfl rfl 2 (by decide) (hts _ mw_fl_Main_35) (fun _ h9 => h9) rfl d_Main_literal_1 ?_
  refine lv_iload_n hx hb d_Main_literal_4 rfl (lv_at hl 1 rfl) ?_
  refine vp_callSi (W.runV (As := [.int x]) (rest := []) ⟨hx, hb, hml, hown, hts⟩ (c_Cubes_holds l dC dI cI cJ b0 b1 b2 M (nI OU) prod kind a0 x hM) (cwV 1 hts (ct_goodV mw_ml_Main_103 mw_im_Cubes_holds mw_se_Cubes_holds mw_ini_Cubes mw_code_Cubes_holds) rfl rfl rfl (by decide +kernel) ⟨Nat.le_of_ble_eq_true rfl, Nat.le_of_ble_eq_true rfl⟩) ⟨fun a U g mk q => by obtain ⟨q0, qP, qK⟩ := q; exact ⟨q0, qP, va_K.moved (u := U) (U := U.calling g mk a) (Vm.Alike.refl U.vm) qK⟩, va_recv hK hP (ci := 1) (q0 := 1) rfl rfl, fun U hU hW => ⟨rfl, by rw [hU]; exact (hP.sub (ws' := (wC cI b0 b1 b2 a0 M (nI OU) prod kind)) [1, 2, 3] rfl), va_K.moved hW.alike hK⟩⟩ rfl rfl hl.1 rfl (lv_room (Nat.le_of_ble_eq_true rfl)) d_Main_literal_5 ⟨Nat.le_of_ble_eq_true rfl, Nat.le_of_ble_eq_true rfl⟩) (fun r_1 hr_1 => ?_)
  rw [hr_1]
  clear hr_1
  refine lv_if_eq (tgt := 23) hx hb d_Main_literal_8 (by decide) (fun c_8 => ?_) (fun c_8 => ?_)
  · obtain ⟨qS, hqS⟩ := hGr.2.2.2 (109, "no such cube or input") (by decide +kernel)
    exact xt_throwNew (A := fun _ => False) (own := "CoverRows") (cls := "java/lang/IndexOutOfBoundsException") (tx := "no such cube or input") (names := ["java/lang/RuntimeException", "java/lang/Exception"]) (ix := 107) (ik := 109) (ic := 111) hx hb hfl hts hGr.2.2.1 xc_107 hown (by decide +kernel) (by decide +kernel) hno hlocks hqS hGr.1 hGr.2.1 (hl.1.trans hml.symm) (Nat.le_of_ble_eq_true rfl) (Nat.le_of_ble_eq_true rfl) (Nat.le_of_ble_eq_true rfl) (Nat.le_of_ble_eq_true rfl) d_Main_literal_23 d_Main_literal_26 d_Main_literal_27 d_Main_literal_29 d_Main_literal_32 (fun x t ce h1 h2 h3 h4 h5 h6 h7 => ⟨x, ce, rfl, h1, h3, h4, h5, h6, by rw [h2.alike.findClass]; exact h7⟩) (fun q h => by cases h)
  · refine lv_iload_n hx hb d_Main_literal_11 rfl (lv_at hl 2 rfl) ?_
    refine lv_if_lt (tgt := 23) hx hb d_Main_literal_12 (by decide) (fun c_12 => ?_) (fun c_12 => ?_)
    · obtain ⟨qS, hqS⟩ := hGr.2.2.2 (109, "no such cube or input") (by decide +kernel)
      exact xt_throwNew (A := fun _ => False) (own := "CoverRows") (cls := "java/lang/IndexOutOfBoundsException") (tx := "no such cube or input") (names := ["java/lang/RuntimeException", "java/lang/Exception"]) (ix := 107) (ik := 109) (ic := 111) hx hb hfl hts hGr.2.2.1 xc_107 hown (by decide +kernel) (by decide +kernel) hno hlocks hqS hGr.1 hGr.2.1 (hl.1.trans hml.symm) (Nat.le_of_ble_eq_true rfl) (Nat.le_of_ble_eq_true rfl) (Nat.le_of_ble_eq_true rfl) (Nat.le_of_ble_eq_true rfl) d_Main_literal_23 d_Main_literal_26 d_Main_literal_27 d_Main_literal_29 d_Main_literal_32 (fun x t ce h1 h2 h3 h4 h5 h6 h7 => ⟨x, ce, rfl, h1, h3, h4, h5, h6, by rw [h2.alike.findClass]; exact h7⟩) (fun q h => by cases h)
    · refine lv_iload_n hx hb d_Main_literal_15 rfl (lv_at hl 2 rfl) ?_
      refine lv_aload_n hx hb d_Main_literal_16 rfl (lv_at hl 0 rfl) ?_
      refine va_get (D := (dC, dI)) (ci := 7) (v := .int ((nI N))) (C := R_Main) (T := F_Main) (N := 11) hx hb hts i_Main hown hK hP 0 rfl rfl 0 (by decide) (hts _ mw_fl_Main_18) (fun _ h9 => h9) rfl d_Main_literal_17 ?_
      refine lv_icmp_lt (tgt := 33) hx hb d_Main_literal_20 (by decide) (fun c_20 => ?_) (fun c_20 => ?_)
      · exact absurd hbad (by rintro (g | g | g | g); exact hold_x c_8 (Or.inl g); exact hold_x c_8 (Or.inr g); exact c_12 g; exact absurd c_20 (Int32.not_lt.mpr g))
      · obtain ⟨qS, hqS⟩ := hGr.2.2.2 (109, "no such cube or input") (by decide +kernel)
        exact xt_throwNew (A := fun _ => False) (own := "CoverRows") (cls := "java/lang/IndexOutOfBoundsException") (tx := "no such cube or input") (names := ["java/lang/RuntimeException", "java/lang/Exception"]) (ix := 107) (ik := 109) (ic := 111) hx hb hfl hts hGr.2.2.1 xc_107 hown (by decide +kernel) (by decide +kernel) hno hlocks hqS hGr.1 hGr.2.1 (hl.1.trans hml.symm) (Nat.le_of_ble_eq_true rfl) (Nat.le_of_ble_eq_true rfl) (Nat.le_of_ble_eq_true rfl) (Nat.le_of_ble_eq_true rfl) d_Main_literal_23 d_Main_literal_26 d_Main_literal_27 d_Main_literal_29 d_Main_literal_32 (fun x t ce h1 h2 h3 h4 h5 h6 h7 => ⟨x, ce, rfl, h1, h3, h4, h5, h6, by rw [h2.alike.findClass]; exact h7⟩) (fun q h => by cases h)
set_option maxHeartbeats 1000000 in
set_option maxRecDepth 100000 in
theorem c1_Main_literal (l : Launch) (hfl : l.flags = flags0) (dC : Nat → ClassId) (dI : Nat → Nat → Nat) (cI cJ : ClassId) (m0 : Nat) (N : Nat) (OU : Nat) (b0 : Nat) (t0 : Nat) (f0 : Nat) (g0 : Nat) (k0 : Nat) (v0 : Nat) (d0 : Nat) (hk : Int32) (po : Int32) (b1 : Nat) (b2 : Nat) (M : Nat) (prod : Nat → Int32) (kind : Nat → Int32) (a0 : Nat) (C : Nat) (J : Nat) (z : Int32) (hM : M ≤ 24) (hN : N ≤ 4) (hC : C < M) (hJ : J < N) (hz : z < 0 ∨ 2 < z) : xt_Met l y_Main_literal (ct y_Main_literal b_Main_literal 5 (some .boolean)) ({ frames := 7, cells := 1, slots := 6, locals := 120 }) (va_Pc [.ref m0, .int ((nI C)), .int ((nI J)), .int z] (fun U => va_P (dC, dI) classes [(m0, .inr (7, [.int ((nI N)), .int ((nI OU)), .ref b0, .ref t0, .ref f0, .ref g0, .ref k0, .ref v0, .ref d0, .int hk, .int po])), (b0, .inr (1, [.ref a0, .int ((nI OU)), .ref b1, .ref b2, .int ((nI M))])), (b1, .inl (cI, 24, .inl prod)), (b2, .inl (cI, 48, .inl kind))] U.heap ∧ va_K (dC, dI) classes [(cI, .int), (cJ, .long)] U ∧ gl (fun _ => False) U U.heap)) (xQ "java/lang/IllegalArgumentException") 1 6 (fun _ => False) := by
  refine xt_ofW (cc := b_Main_literal) (maxL := 5) (ret := some .boolean) (by decide) rfl ?_
  intro p e s m args below meth c s₁ B hml hno hv
  obtain ⟨rfl, hP, hK, hG⟩ := hv
  have hx := B.exec
  have hb := B.bytes
  have hr := B.returns
  have hts : ∀ w ∈ lwg, w.before _ s = true := fun w h => atoms_spec (ws := ct y_Main_literal b_Main_literal 5 (some .boolean)) B.pre w (List.mem_cons_of_mem _ h)
  have hown : s.vm.findClass R_Main = some m.cls := findClass_of_methodNamed B.named
  have hlocks := B.notSynchronized
  have hl := lv_entry ([.ref m0, .int ((nI C)), .int ((nI J)), .int z]) (n := 5) (Nat.le_of_ble_eq_true rfl)
  rw [lg_entry_eq]
  generalize (lg_sl ([.ref m0, .int ((nI C)), .int ((nI J)), .int z]) ++ List.replicate (5 - (lg_sl ([.ref m0, .int ((nI C)), .int ((nI J)), .int z])).length) Slot.unset).toArray = ls at hl ⊢
  have hl : lv_has ls 5 [(0, .ref m0), (1, .int ((nI C))), (2, .int ((nI J))), (3, .int z)] := hl
  obtain ⟨⟨tF, hZF, hTF⟩, hGr⟩ := id hG
  refine lv_aload_n hx hb d_Main_literal_0 rfl (lv_at hl 0 rfl) ?_
  refine va_get (D := (dC, dI)) (ci := 7) (v := .ref b0) (C := R_Main) (T := F_Main) (N := 11) hx hb hts i_Main hown hK hP 0 rfl rfl 2 (by decide) (hts _ mw_fl_Main_35) (fun _ h9 => h9) rfl d_Main_literal_1 ?_
  refine lv_iload_n hx hb d_Main_literal_4 rfl (lv_at hl 1 rfl) ?_
  refine vp_callSi (W.runV (As := [.int ((nI C))]) (rest := []) ⟨hx, hb, hml, hown, hts⟩ (c_Cubes_holds l dC dI cI cJ b0 b1 b2 M (nI OU) prod kind a0 (nI C) hM) (cwV 1 hts (ct_goodV mw_ml_Main_103 mw_im_Cubes_holds mw_se_Cubes_holds mw_ini_Cubes mw_code_Cubes_holds) rfl rfl rfl (by decide +kernel) ⟨Nat.le_of_ble_eq_true rfl, Nat.le_of_ble_eq_true rfl⟩) ⟨fun a U g mk q => by obtain ⟨q0, qP, qK⟩ := q; exact ⟨q0, qP, va_K.moved (u := U) (U := U.calling g mk a) (Vm.Alike.refl U.vm) qK⟩, va_recv hK hP (ci := 1) (q0 := 1) rfl rfl, fun U hU hW => ⟨rfl, by rw [hU]; exact (hP.sub (ws' := (wC cI b0 b1 b2 a0 M (nI OU) prod kind)) [1, 2, 3] rfl), va_K.moved hW.alike hK⟩⟩ rfl rfl hl.1 rfl (lv_room (Nat.le_of_ble_eq_true rfl)) d_Main_literal_5 ⟨Nat.le_of_ble_eq_true rfl, Nat.le_of_ble_eq_true rfl⟩) (fun r_1 hr_1 => ?_)
  rw [hr_1]
  clear hr_1
  refine lv_if_eq (tgt := 23) hx hb d_Main_literal_8 (by decide) (fun c_8 => ?_) (fun c_8 => ?_)
  · exact absurd c_8 (hold_e _ _ (hold_n hC hM))
  · refine lv_iload_n hx hb d_Main_literal_11 rfl (lv_at hl 2 rfl) ?_
    refine lv_if_lt (tgt := 23) hx hb d_Main_literal_12 (by decide) (fun c_12 => ?_) (fun c_12 => ?_)
    · exact absurd c_12 (pos_n hJ (hN))
    · refine lv_iload_n hx hb d_Main_literal_15 rfl (lv_at hl 2 rfl) ?_
      refine lv_aload_n hx hb d_Main_literal_16 rfl (lv_at hl 0 rfl) ?_
      refine va_get (D := (dC, dI)) (ci := 7) (v := .int ((nI N))) (C := R_Main) (T := F_Main) (N := 11) hx hb hts i_Main hown hK hP 0 rfl rfl 0 (by decide) (hts _ mw_fl_Main_18) (fun _ h9 => h9) rfl d_Main_literal_17 ?_
      refine lv_icmp_lt (tgt := 33) hx hb d_Main_literal_20 (by decide) (fun c_20 => ?_) (fun c_20 => ?_)
      · refine lv_iload_n hx hb d_Main_literal_33 rfl (lv_at hl 3 rfl) ?_
        refine lv_if_lt (tgt := 42) hx hb d_Main_literal_34 (by decide) (fun c_34 => ?_) (fun c_34 => ?_)
        · obtain ⟨qS, hqS⟩ := hGr.2.2.2 (114, "no such digit") (by decide +kernel)
          exact xt_throwNew (A := fun _ => False) (own := "CoverRows") (cls := "java/lang/IllegalArgumentException") (tx := "no such digit") (names := ["java/lang/RuntimeException", "java/lang/Exception"]) (ix := 112) (ik := 114) (ic := 116) hx hb hfl hts hGr.2.2.1 xc_112 hown (by decide +kernel) (by decide +kernel) hno hlocks hqS hGr.1 hGr.2.1 (hl.1.trans hml.symm) (Nat.le_of_ble_eq_true rfl) (Nat.le_of_ble_eq_true rfl) (Nat.le_of_ble_eq_true rfl) (Nat.le_of_ble_eq_true rfl) d_Main_literal_42 d_Main_literal_45 d_Main_literal_46 d_Main_literal_48 d_Main_literal_51 (fun x t ce h1 h2 h3 h4 h5 h6 h7 => ⟨x, ce, rfl, h1, h3, h4, h5, h6, by rw [h2.alike.findClass]; exact h7⟩) (fun q h => by cases h)
        · refine lv_iload_n hx hb d_Main_literal_37 rfl (lv_at hl 3 rfl) ?_
          refine lv_iconst (v := 2) hx hb d_Main_literal_38 (by decide) ?_
          refine lv_icmp_le (tgt := 52) hx hb d_Main_literal_39 (by decide) (fun c_39 => ?_) (fun c_39 => ?_)
          · exact absurd hz (by rintro (g | g); exact c_34 g; exact absurd c_39 (Int32.not_le.mpr g))
          · obtain ⟨qS, hqS⟩ := hGr.2.2.2 (114, "no such digit") (by decide +kernel)
            exact xt_throwNew (A := fun _ => False) (own := "CoverRows") (cls := "java/lang/IllegalArgumentException") (tx := "no such digit") (names := ["java/lang/RuntimeException", "java/lang/Exception"]) (ix := 112) (ik := 114) (ic := 116) hx hb hfl hts hGr.2.2.1 xc_112 hown (by decide +kernel) (by decide +kernel) hno hlocks hqS hGr.1 hGr.2.1 (hl.1.trans hml.symm) (Nat.le_of_ble_eq_true rfl) (Nat.le_of_ble_eq_true rfl) (Nat.le_of_ble_eq_true rfl) (Nat.le_of_ble_eq_true rfl) d_Main_literal_42 d_Main_literal_45 d_Main_literal_46 d_Main_literal_48 d_Main_literal_51 (fun x t ce h1 h2 h3 h4 h5 h6 h7 => ⟨x, ce, rfl, h1, h3, h4, h5, h6, by rw [h2.alike.findClass]; exact h7⟩) (fun q h => by cases h)
      · exact absurd (lt_n hJ (hN)) c_20
set_option maxHeartbeats 1000000 in
set_option maxRecDepth 100000 in
theorem c2_Main_literal (l : Launch) (dC : Nat → ClassId) (dI : Nat → Nat → Nat) (cI cJ : ClassId) (sz0 : Nat) (m0 : Nat) (N : Nat) (OU : Nat) (b0 : Nat) (t0 : Nat) (f0 : Nat) (g0 : Nat) (k0 : Nat) (v0 : Nat) (d0 : Nat) (hk : Int32) (po : Int32) (b1 : Nat) (b2 : Nat) (M : Nat) (prod : Nat → Int32) (kind : Nat → Int32) (a0 : Nat) (a1 : Nat) (a2 : Nat) (a3 : Nat) (Z : Nat) (care : Nat → Int32) (bits : Nat → Int32) (had : Nat → Int32) (C : Nat) (J : Nat) (z : Int32) (hN : N ≤ 4) (hM : M ≤ 24) (hpr : ∀ c, c < M → vp_in (prod c) 81) (hC : C < M) (hJ : J < N) (hz0 : ¬ z < 0) (hz2 : ¬ 2 < z) (hpo : po = 0 ∨ po = 1) : Met l y_Main_literal (ct y_Main_literal b_Main_literal 5 (some .boolean)) ({ frames := 6, cells := 0, slots := 0, locals := 90 }) (va_Pc [.ref m0, .int ((nI C)), .int ((nI J)), .int z] (fun U => U.heap.size = sz0 ∧ va_P (dC, dI) classes [(m0, .inr (7, [.int ((nI N)), .int ((nI OU)), .ref b0, .ref t0, .ref f0, .ref g0, .ref k0, .ref v0, .ref d0, .int hk, .int po])), (b0, .inr (1, [.ref a0, .int ((nI OU)), .ref b1, .ref b2, .int ((nI M))])), (b1, .inl (cI, 24, .inl prod)), (b2, .inl (cI, 48, .inl kind)), (a0, .inr (5, [.int ((nI N)), .int ((nI Z)), .ref a1, .ref a2, .ref a3])), (a1, .inl (cI, 81, .inl care)), (a2, .inl (cI, 81, .inl bits)), (a3, .inl (cI, 81, .inl had))] U.heap ∧ va_K (dC, dI) classes [(cI, .int), (cJ, .long)] U ∧ va_D (fun _ => True) [(m0, .inr (7, [.int ((nI N)), .int ((nI OU)), .ref b0, .ref t0, .ref f0, .ref g0, .ref k0, .ref v0, .ref d0, .int hk, .int po])), (b0, .inr (1, [.ref a0, .int ((nI OU)), .ref b1, .ref b2, .int ((nI M))])), (b1, .inl (cI, 24, .inl prod)), (b2, .inl (cI, 48, .inl kind)), (a0, .inr (5, [.int ((nI N)), .int ((nI Z)), .ref a1, .ref a2, .ref a3])), (a1, .inl (cI, 81, .inl care)), (a2, .inl (cI, 81, .inl bits)), (a3, .inl (cI, 81, .inl had))])) (va_Qi (fun (r : Int32) (pox : (Int32)) => r = (if fDig (care (prod C).toNatClampNeg) (bits (prod C).toNatClampNeg) (nI J) = z then 0 else 1) ∧ (pox = 0 ∨ pox = 1) ∧ (pox = 0 → po = 0 ∧ fDig (care (prod C).toNatClampNeg) (bits (prod C).toNatClampNeg) (nI J) = z)) (fun (pox : (Int32)) => at_w dC dI cI cJ (va_A [(m0, .inr (7, [.int ((nI N)), .int ((nI OU)), .ref b0, .ref t0, .ref f0, .ref g0, .ref k0, .ref v0, .ref d0, .int hk, .int po])), (b0, .inr (1, [.ref a0, .int ((nI OU)), .ref b1, .ref b2, .int ((nI M))])), (b1, .inl (cI, 24, .inl prod)), (b2, .inl (cI, 48, .inl kind)), (a0, .inr (5, [.int ((nI N)), .int ((nI Z)), .ref a1, .ref a2, .ref a3])), (a1, .inl (cI, 81, .inl care)), (a2, .inl (cI, 81, .inl bits)), (a3, .inl (cI, 81, .inl had))] sz0) [(m0, .inr (7, [.int ((nI N)), .int ((nI OU)), .ref b0, .ref t0, .ref f0, .ref g0, .ref k0, .ref v0, .ref d0, .int hk, .int pox])), (b0, .inr (1, [.ref a0, .int ((nI OU)), .ref b1, .ref b2, .int ((nI M))])), (b1, .inl (cI, 24, .inl ((if fDig (care (prod C).toNatClampNeg) (bits (prod C).toNatClampNeg) (nI J) = z then prod else upd prod C (fWith N (care (prod C).toNatClampNeg) (bits (prod C).toNatClampNeg) (nI J) z))))), (b2, .inl (cI, 48, .inl kind)), (a0, .inr (5, [.int ((nI N)), .int ((nI Z)), .ref a1, .ref a2, .ref a3])), (a1, .inl (cI, 81, .inl care)), (a2, .inl (cI, 81, .inl bits)), (a3, .inl (cI, 81, .inl had))]) (va_A [(m0, .inr (7, [.int ((nI N)), .int ((nI OU)), .ref b0, .ref t0, .ref f0, .ref g0, .ref k0, .ref v0, .ref d0, .int hk, .int po])), (b0, .inr (1, [.ref a0, .int ((nI OU)), .ref b1, .ref b2, .int ((nI M))])), (b1, .inl (cI, 24, .inl prod)), (b2, .inl (cI, 48, .inl kind)), (a0, .inr (5, [.int ((nI N)), .int ((nI Z)), .ref a1, .ref a2, .ref a3])), (a1, .inl (cI, 81, .inl care)), (a2, .inl (cI, 81, .inl bits)), (a3, .inl (cI, 81, .inl had))] sz0)) 0 0 (va_A [(m0, .inr (7, [.int ((nI N)), .int ((nI OU)), .ref b0, .ref t0, .ref f0, .ref g0, .ref k0, .ref v0, .ref d0, .int hk, .int po])), (b0, .inr (1, [.ref a0, .int ((nI OU)), .ref b1, .ref b2, .int ((nI M))])), (b1, .inl (cI, 24, .inl prod)), (b2, .inl (cI, 48, .inl kind)), (a0, .inr (5, [.int ((nI N)), .int ((nI Z)), .ref a1, .ref a2, .ref a3])), (a1, .inl (cI, 81, .inl care)), (a2, .inl (cI, 81, .inl bits)), (a3, .inl (cI, 81, .inl had))] sz0) := by
  refine Met.ofW (cc := b_Main_literal) (maxL := 5) (ret := some .boolean) (by decide) rfl ?_
  intro p e s m args below meth c s₁ B hml hv
  obtain ⟨rfl, hsz, hP, hK, hD0⟩ := hv
  have hx := B.exec
  have hb := B.bytes
  have hr := B.returns
  have hts : ∀ w ∈ lwg, w.before _ s = true := fun w h => atoms_spec (ws := ct y_Main_literal b_Main_literal 5 (some .boolean)) B.pre w (List.mem_cons_of_mem _ h)
  have hown : s.vm.findClass R_Main = some m.cls := findClass_of_methodNamed B.named
  have hlocks := B.notSynchronized
  subst hsz
  have hD := hD0.self (sz := s.heap.size)
  generalize hAe : va_A [(m0, .inr (7, [.int ((nI N)), .int ((nI OU)), .ref b0, .ref t0, .ref f0, .ref g0, .ref k0, .ref v0, .ref d0, .int hk, .int po])), (b0, .inr (1, [.ref a0, .int ((nI OU)), .ref b1, .ref b2, .int ((nI M))])), (b1, .inl (cI, 24, .inl prod)), (b2, .inl (cI, 48, .inl kind)), (a0, .inr (5, [.int ((nI N)), .int ((nI Z)), .ref a1, .ref a2, .ref a3])), (a1, .inl (cI, 81, .inl care)), (a2, .inl (cI, 81, .inl bits)), (a3, .inl (cI, 81, .inl had))] s.heap.size = A at hD ⊢
  have hA : ∀ q : Nat, s.heap.size ≤ q → A q := fun q h => by rw [← hAe]; exact Or.inr h
  have hS : va_S A s.heap s.heap [] := va_S.rf
  have hl := lv_entry ([.ref m0, .int ((nI C)), .int ((nI J)), .int z]) (n := 5) (Nat.le_of_ble_eq_true rfl)
  rw [lg_entry_eq]
  generalize (lg_sl ([.ref m0, .int ((nI C)), .int ((nI J)), .int z]) ++ List.replicate (5 - (lg_sl ([.ref m0, .int ((nI C)), .int ((nI J)), .int z])).length) Slot.unset).toArray = ls at hl ⊢
  have hl : lv_has ls 5 [(0, .ref m0), (1, .int ((nI C))), (2, .int ((nI J))), (3, .int z)] := hl
  have hP : va_P (dC, dI) classes [(m0, .inr (7, [.int ((nI N)), .int ((nI OU)), .ref b0, .ref t0, .ref f0, .ref g0, .ref k0, .ref v0, .ref d0, .int hk, .int po])), (b0, .inr (1, [.ref a0, .int ((nI OU)), .ref b1, .ref b2, .int ((nI M))])), (b1, .inl (cI, 24, .inl prod)), (b2, .inl (cI, 48, .inl kind)), (a0, .inr (5, [.int ((nI N)), .int ((nI Z)), .ref a1, .ref a2, .ref a3])), (a1, .inl (cI, 81, .inl care)), (a2, .inl (cI, 81, .inl bits)), (a3, .inl (cI, 81, .inl had))] s.heap := hP
  refine lv_aload_n hx hb d_Main_literal_0 rfl (lv_at hl 0 rfl) ?_
  refine va_get (D := (dC, dI)) (ci := 7) (v := .ref b0) (C := R_Main) (T := F_Main) (N := 11) hx hb hts i_Main hown hK hP 0 rfl rfl 2 (by decide) (hts _ mw_fl_Main_35) (fun _ h9 => h9) rfl d_Main_literal_1 ?_
  refine lv_iload_n hx hb d_Main_literal_4 rfl (lv_at hl 1 rfl) ?_
  refine vp_callSi (W.runV (As := [.int ((nI C))]) (rest := []) ⟨hx, hb, hml, hown, hts⟩ (c_Cubes_holds l dC dI cI cJ b0 b1 b2 M (nI OU) prod kind a0 (nI C) hM) (cwV 1 hts (ct_goodV mw_ml_Main_103 mw_im_Cubes_holds mw_se_Cubes_holds mw_ini_Cubes mw_code_Cubes_holds) rfl rfl rfl (by decide +kernel) ⟨Nat.le_of_ble_eq_true rfl, Nat.le_of_ble_eq_true rfl⟩) ⟨fun a U g mk q => by obtain ⟨q0, qP, qK⟩ := q; exact ⟨q0, qP, va_K.moved (u := U) (U := U.calling g mk a) (Vm.Alike.refl U.vm) qK⟩, va_recv hK hP (ci := 1) (q0 := 1) rfl rfl, fun U hU hW => ⟨rfl, by rw [hU]; exact (hP.sub (ws' := (wC cI b0 b1 b2 a0 M (nI OU) prod kind)) [1, 2, 3] rfl), va_K.moved hW.alike hK⟩⟩ rfl rfl hl.1 rfl (lv_room (Nat.le_of_ble_eq_true rfl)) d_Main_literal_5 ⟨Nat.le_of_ble_eq_true rfl, Nat.le_of_ble_eq_true rfl⟩) (fun r_1 hr_1 => ?_)
  rw [hr_1]
  clear hr_1
  refine lv_if_eq (tgt := 23) hx hb d_Main_literal_8 (by decide) (fun c_8 => ?_) (fun c_8 => ?_)
  · exact absurd c_8 (hold_e _ _ (hold_n hC hM))
  · refine lv_iload_n hx hb d_Main_literal_11 rfl (lv_at hl 2 rfl) ?_
    refine lv_if_lt (tgt := 23) hx hb d_Main_literal_12 (by decide) (fun c_12 => ?_) (fun c_12 => ?_)
    · exact absurd c_12 (pos_n hJ (hN))
    · refine lv_iload_n hx hb d_Main_literal_15 rfl (lv_at hl 2 rfl) ?_
      refine lv_aload_n hx hb d_Main_literal_16 rfl (lv_at hl 0 rfl) ?_
      refine va_get (D := (dC, dI)) (ci := 7) (v := .int ((nI N))) (C := R_Main) (T := F_Main) (N := 11) hx hb hts i_Main hown hK hP 0 rfl rfl 0 (by decide) (hts _ mw_fl_Main_18) (fun _ h9 => h9) rfl d_Main_literal_17 ?_
      refine lv_icmp_lt (tgt := 33) hx hb d_Main_literal_20 (by decide) (fun c_20 => ?_) (fun c_20 => ?_)
      · refine lv_iload_n hx hb d_Main_literal_33 rfl (lv_at hl 3 rfl) ?_
        refine lv_if_lt (tgt := 42) hx hb d_Main_literal_34 (by decide) (fun c_34 => ?_) (fun c_34 => ?_)
        · exact absurd c_34 hz0
        · refine lv_iload_n hx hb d_Main_literal_37 rfl (lv_at hl 3 rfl) ?_
          refine lv_iconst (v := 2) hx hb d_Main_literal_38 (by decide) ?_
          refine lv_icmp_le (tgt := 52) hx hb d_Main_literal_39 (by decide) (fun c_39 => ?_) (fun c_39 => ?_)
          · refine lv_aload_n hx hb d_Main_literal_52 rfl (lv_at hl 0 rfl) ?_
            refine va_get (D := (dC, dI)) (ci := 7) (v := .ref b0) (C := R_Main) (T := F_Main) (N := 11) hx hb hts i_Main hown hK hP 0 rfl rfl 2 (by decide) (hts _ mw_fl_Main_35) (fun _ h9 => h9) rfl d_Main_literal_53 ?_
            refine lv_iload_n hx hb d_Main_literal_56 rfl (lv_at hl 1 rfl) ?_
            refine lv_iload_n hx hb d_Main_literal_57 rfl (lv_at hl 2 rfl) ?_
            refine lv_iload_n hx hb d_Main_literal_58 rfl (lv_at hl 3 rfl) ?_
            have hPc := hP.sub (ws' := [(b0, .inr (1, [.ref a0, .int ((nI OU)), .ref b1, .ref b2, .int ((nI M))])), (b1, .inl (cI, 24, .inl prod)), (b2, .inl (cI, 48, .inl kind)), (a0, .inr (5, [.int ((nI N)), .int ((nI Z)), .ref a1, .ref a2, .ref a3])), (a1, .inl (cI, 81, .inl care)), (a2, .inl (cI, 81, .inl bits)), (a3, .inl (cI, 81, .inl had))]) [1, 2, 3, 4, 5, 6, 7] rfl
            have hDc := hD.sub (ws' := [(b0, .inr (1, [.ref a0, .int ((nI OU)), .ref b1, .ref b2, .int ((nI M))])), (b1, .inl (cI, 24, .inl prod)), (b2, .inl (cI, 48, .inl kind)), (a0, .inr (5, [.int ((nI N)), .int ((nI Z)), .ref a1, .ref a2, .ref a3])), (a1, .inl (cI, 81, .inl care)), (a2, .inl (cI, 81, .inl bits)), (a3, .inl (cI, 81, .inl had))]) [1, 2, 3, 4, 5, 6, 7] (by decide) rfl
            have hFc := va_free (wc := [(b0, .inr (1, [.ref a0, .int ((nI OU)), .ref b1, .ref b2, .int ((nI M))])), (b1, .inl (cI, 24, .inl prod)), (b2, .inl (cI, 48, .inl kind)), (a0, .inr (5, [.int ((nI N)), .int ((nI Z)), .ref a1, .ref a2, .ref a3])), (a1, .inl (cI, 81, .inl care)), (a2, .inl (cI, 81, .inl bits)), (a3, .inl (cI, 81, .inl had))]) hD hS hA [1, 2, 3, 4, 5, 6, 7] rfl
            refine va_calli (va_runV (As := [.int ((nI C)), .int ((nI J)), .int z]) (rest := []) ⟨hx, hb, hml, hown, hts⟩ (c_Cubes_setDigit l dC dI cI cJ _ b0 b1 b2 M (nI OU) prod kind a0 a1 a2 a3 N (nI Z) care bits had C (nI J) z hN (Nat.lt_of_lt_of_le hC hM) (hpr C hC)) (cwV 3 hts (ct_goodV mw_ml_Main_117 mw_im_Cubes_setDigit mw_se_Cubes_setDigit mw_ini_Cubes mw_code_Cubes_setDigit) rfl rfl rfl (by decide +kernel) ⟨Nat.le_of_ble_eq_true rfl, Nat.le_of_ble_eq_true rfl⟩) ⟨fun a U g mk q => by obtain ⟨q0, q1, qP, qK, qD⟩ := q; exact ⟨q0, q1, qP, va_K.moved (u := U) (U := U.calling g mk a) (Vm.Alike.refl U.vm) qK, qD⟩, va_recv hK hPc (ci := 1) (q0 := 0) rfl rfl, fun U hU hW => ⟨rfl, by rw [hU], by rw [hU]; exact hPc, va_K.moved hW.alike hK, hDc.weaken (fun _ _ _ _ => trivial)⟩⟩ rfl rfl hl.1 rfl (lv_room (Nat.le_of_ble_eq_true rfl)) d_Main_literal_59 ⟨Nat.le_of_ble_eq_true rfl, Nat.le_of_ble_eq_true rfl⟩) hS (fun q _ h => hFc q h) hFc (fun r_2 u t H1 locs ht hvm hw hB hz1 hk1 hS => ?_)
            obtain ⟨hP1, hK1, hD1⟩ := hB
            rw [ht] at hP1
            obtain ⟨hP, hD⟩ := va_join (wr := [(m0, .inr (7, [.int ((nI N)), .int ((nI OU)), .ref b0, .ref t0, .ref f0, .ref g0, .ref k0, .ref v0, .ref d0, .int hk, .int po]))]) (w1 := [(b0, .inr (1, [.ref a0, .int ((nI OU)), .ref b1, .ref b2, .int ((nI M))])), (b1, .inl (cI, 24, .inl ((if fDig (care (prod C).toNatClampNeg) (bits (prod C).toNatClampNeg) (nI J) = z then prod else upd prod C (fWith N (care (prod C).toNatClampNeg) (bits (prod C).toNatClampNeg) (nI J) z))))), (b2, .inl (cI, 48, .inl kind)), (a0, .inr (5, [.int ((nI N)), .int ((nI Z)), .ref a1, .ref a2, .ref a3])), (a1, .inl (cI, 81, .inl care)), (a2, .inl (cI, 81, .inl bits)), (a3, .inl (cI, 81, .inl had))]) hP hD [1, 2, 3, 4, 5, 6, 7] [0] rfl rfl (by decide) (by decide) hk1 hFc hP1 hD1
            clear hPc hDc hFc hP1 hK1 hD1 hk1 hz1 hvm ht
            generalize H1 = H at hP hS ⊢
            have hP : va_P (dC, dI) classes [(m0, .inr (7, [.int ((nI N)), .int ((nI OU)), .ref b0, .ref t0, .ref f0, .ref g0, .ref k0, .ref v0, .ref d0, .int hk, .int po])), (b0, .inr (1, [.ref a0, .int ((nI OU)), .ref b1, .ref b2, .int ((nI M))])), (b1, .inl (cI, 24, .inl ((if fDig (care (prod C).toNatClampNeg) (bits (prod C).toNatClampNeg) (nI J) = z then prod else upd prod C (fWith N (care (prod C).toNatClampNeg) (bits (prod C).toNatClampNeg) (nI J) z))))), (b2, .inl (cI, 48, .inl kind)), (a0, .inr (5, [.int ((nI N)), .int ((nI Z)), .ref a1, .ref a2, .ref a3])), (a1, .inl (cI, 81, .inl care)), (a2, .inl (cI, 81, .inl bits)), (a3, .inl (cI, 81, .inl had))] H := hP
            have hD : va_D A [(m0, .inr (7, [.int ((nI N)), .int ((nI OU)), .ref b0, .ref t0, .ref f0, .ref g0, .ref k0, .ref v0, .ref d0, .int hk, .int po])), (b0, .inr (1, [.ref a0, .int ((nI OU)), .ref b1, .ref b2, .int ((nI M))])), (b1, .inl (cI, 24, .inl ((if fDig (care (prod C).toNatClampNeg) (bits (prod C).toNatClampNeg) (nI J) = z then prod else upd prod C (fWith N (care (prod C).toNatClampNeg) (bits (prod C).toNatClampNeg) (nI J) z))))), (b2, .inl (cI, 48, .inl kind)), (a0, .inr (5, [.int ((nI N)), .int ((nI Z)), .ref a1, .ref a2, .ref a3])), (a1, .inl (cI, 81, .inl care)), (a2, .inl (cI, 81, .inl bits)), (a3, .inl (cI, 81, .inl had))] := hD
            rw [hw]
            clear hw
            refine lv_istore (lv' := [(4, .int ((if fDig (care (prod C).toNatClampNeg) (bits (prod C).toNatClampNeg) (nI J) = z then 0 else 1))), (0, .ref m0), (1, .int ((nI C))), (2, .int ((nI J))), (3, .int z)]) hx hb d_Main_literal_62 hl (by decide) rfl (fun ls hl => ?_)
            refine lv_aload_n hx hb d_Main_literal_64 rfl (lv_at hl 1 rfl) ?_
            refine lv_aload_n hx hb d_Main_literal_65 rfl (lv_at hl 1 rfl) ?_
            refine va_get (D := (dC, dI)) (ci := 7) (v := .int po) (C := R_Main) (T := F_Main) (N := 11) hx hb hts i_Main hown hK hP 0 rfl rfl 10 (by decide) (hts _ mw_fl_Main_85) (fun _ h9 => h9) rfl d_Main_literal_66 ?_
            refine lv_if_ne (tgt := 77) hx hb d_Main_literal_69 (by decide) (fun c_69 => ?_) (fun c_69 => ?_)
            · refine lv_iconst (v := 1) hx hb d_Main_literal_77 (by decide) ?_
              refine lv_goto (tgt := 82) hx hb d_Main_literal_78 (by decide) ?_
              refine va_put (D := (dC, dI)) (ci := 7) (v := .int 1) (ty := .boolean) (C := R_Main) (T := F_Main) (N := 11) hx hb hts i_Main t_Main t_Main_ok n_Main hown hK hP hD hS 0 rfl rfl 10 (by decide) (hts _ mw_fl_Main_85) (fun _ h9 => h9) rfl (by decide +kernel) rfl rfl (Nat.le_of_ble_eq_true rfl) d_Main_literal_82 (fun H locs hP hD hS => ?_)
              have hP : va_P (dC, dI) classes [(m0, .inr (7, [.int ((nI N)), .int ((nI OU)), .ref b0, .ref t0, .ref f0, .ref g0, .ref k0, .ref v0, .ref d0, .int hk, .int 1])), (b0, .inr (1, [.ref a0, .int ((nI OU)), .ref b1, .ref b2, .int ((nI M))])), (b1, .inl (cI, 24, .inl ((if fDig (care (prod C).toNatClampNeg) (bits (prod C).toNatClampNeg) (nI J) = z then prod else upd prod C (fWith N (care (prod C).toNatClampNeg) (bits (prod C).toNatClampNeg) (nI J) z))))), (b2, .inl (cI, 48, .inl kind)), (a0, .inr (5, [.int ((nI N)), .int ((nI Z)), .ref a1, .ref a2, .ref a3])), (a1, .inl (cI, 81, .inl care)), (a2, .inl (cI, 81, .inl bits)), (a3, .inl (cI, 81, .inl had))] H := hP
              have hD : va_D A [(m0, .inr (7, [.int ((nI N)), .int ((nI OU)), .ref b0, .ref t0, .ref f0, .ref g0, .ref k0, .ref v0, .ref d0, .int hk, .int 1])), (b0, .inr (1, [.ref a0, .int ((nI OU)), .ref b1, .ref b2, .int ((nI M))])), (b1, .inl (cI, 24, .inl ((if fDig (care (prod C).toNatClampNeg) (bits (prod C).toNatClampNeg) (nI J) = z then prod else upd prod C (fWith N (care (prod C).toNatClampNeg) (bits (prod C).toNatClampNeg) (nI J) z))))), (b2, .inl (cI, 48, .inl kind)), (a0, .inr (5, [.int ((nI N)), .int ((nI Z)), .ref a1, .ref a2, .ref a3])), (a1, .inl (cI, 81, .inl care)), (a2, .inl (cI, 81, .inl bits)), (a3, .inl (cI, 81, .inl had))] := hD
              refine lv_iload hx hb d_Main_literal_85 (lv_at hl 0 rfl) ?_
              have hP9 := hP.sub (ws' := [(m0, .inr (7, [.int ((nI N)), .int ((nI OU)), .ref b0, .ref t0, .ref f0, .ref g0, .ref k0, .ref v0, .ref d0, .int hk, .int 1])), (b0, .inr (1, [.ref a0, .int ((nI OU)), .ref b1, .ref b2, .int ((nI M))])), (b1, .inl (cI, 24, .inl ((if fDig (care (prod C).toNatClampNeg) (bits (prod C).toNatClampNeg) (nI J) = z then prod else upd prod C (fWith N (care (prod C).toNatClampNeg) (bits (prod C).toNatClampNeg) (nI J) z))))), (b2, .inl (cI, 48, .inl kind)), (a0, .inr (5, [.int ((nI N)), .int ((nI Z)), .ref a1, .ref a2, .ref a3])), (a1, .inl (cI, 81, .inl care)), (a2, .inl (cI, 81, .inl bits)), (a3, .inl (cI, 81, .inl had))]) [0, 1, 2, 3, 4, 5, 6, 7] rfl
              have hD9 := hD.sub (ws' := [(m0, .inr (7, [.int ((nI N)), .int ((nI OU)), .ref b0, .ref t0, .ref f0, .ref g0, .ref k0, .ref v0, .ref d0, .int hk, .int 1])), (b0, .inr (1, [.ref a0, .int ((nI OU)), .ref b1, .ref b2, .int ((nI M))])), (b1, .inl (cI, 24, .inl ((if fDig (care (prod C).toNatClampNeg) (bits (prod C).toNatClampNeg) (nI J) = z then prod else upd prod C (fWith N (care (prod C).toNatClampNeg) (bits (prod C).toNatClampNeg) (nI J) z))))), (b2, .inl (cI, 48, .inl kind)), (a0, .inr (5, [.int ((nI N)), .int ((nI Z)), .ref a1, .ref a2, .ref a3])), (a1, .inl (cI, 81, .inl care)), (a2, .inl (cI, 81, .inl bits)), (a3, .inl (cI, 81, .inl had))]) [0, 1, 2, 3, 4, 5, 6, 7] (by decide) rfl
              exact W.zret (v := (if fDig (care (prod C).toNatClampNeg) (bits (prod C).toNatClampNeg) (nI J) = z then 0 else 1)) hx hb hr (z01 _) (fun t ht hW => ⟨⟨(if fDig (care (prod C).toNatClampNeg) (bits (prod C).toNatClampNeg) (nI J) = z then 0 else 1), 1, rfl, ⟨rfl, Or.inr rfl, fun h => absurd h (by decide)⟩, by rw [ht]; exact hP9, va_K.moved hW.alike hK, hD9⟩, hS.F ht⟩) hS.2.2 d_Main_literal_87
            · refine lv_iload hx hb d_Main_literal_72 (lv_at hl 0 rfl) ?_
              refine lv_if_eq (tgt := 81) hx hb d_Main_literal_74 (by decide) (fun c_74 => ?_) (fun c_74 => ?_)
              · refine lv_iconst (v := 0) hx hb d_Main_literal_81 (by decide) ?_
                refine va_put (D := (dC, dI)) (ci := 7) (v := .int 0) (ty := .boolean) (C := R_Main) (T := F_Main) (N := 11) hx hb hts i_Main t_Main t_Main_ok n_Main hown hK hP hD hS 0 rfl rfl 10 (by decide) (hts _ mw_fl_Main_85) (fun _ h9 => h9) rfl (by decide +kernel) rfl rfl (Nat.le_of_ble_eq_true rfl) d_Main_literal_82 (fun H locs hP hD hS => ?_)
                have hP : va_P (dC, dI) classes [(m0, .inr (7, [.int ((nI N)), .int ((nI OU)), .ref b0, .ref t0, .ref f0, .ref g0, .ref k0, .ref v0, .ref d0, .int hk, .int 0])), (b0, .inr (1, [.ref a0, .int ((nI OU)), .ref b1, .ref b2, .int ((nI M))])), (b1, .inl (cI, 24, .inl ((if fDig (care (prod C).toNatClampNeg) (bits (prod C).toNatClampNeg) (nI J) = z then prod else upd prod C (fWith N (care (prod C).toNatClampNeg) (bits (prod C).toNatClampNeg) (nI J) z))))), (b2, .inl (cI, 48, .inl kind)), (a0, .inr (5, [.int ((nI N)), .int ((nI Z)), .ref a1, .ref a2, .ref a3])), (a1, .inl (cI, 81, .inl care)), (a2, .inl (cI, 81, .inl bits)), (a3, .inl (cI, 81, .inl had))] H := hP
                have hD : va_D A [(m0, .inr (7, [.int ((nI N)), .int ((nI OU)), .ref b0, .ref t0, .ref f0, .ref g0, .ref k0, .ref v0, .ref d0, .int hk, .int 0])), (b0, .inr (1, [.ref a0, .int ((nI OU)), .ref b1, .ref b2, .int ((nI M))])), (b1, .inl (cI, 24, .inl ((if fDig (care (prod C).toNatClampNeg) (bits (prod C).toNatClampNeg) (nI J) = z then prod else upd prod C (fWith N (care (prod C).toNatClampNeg) (bits (prod C).toNatClampNeg) (nI J) z))))), (b2, .inl (cI, 48, .inl kind)), (a0, .inr (5, [.int ((nI N)), .int ((nI Z)), .ref a1, .ref a2, .ref a3])), (a1, .inl (cI, 81, .inl care)), (a2, .inl (cI, 81, .inl bits)), (a3, .inl (cI, 81, .inl had))] := hD
                refine lv_iload hx hb d_Main_literal_85 (lv_at hl 0 rfl) ?_
                have hP9 := hP.sub (ws' := [(m0, .inr (7, [.int ((nI N)), .int ((nI OU)), .ref b0, .ref t0, .ref f0, .ref g0, .ref k0, .ref v0, .ref d0, .int hk, .int 0])), (b0, .inr (1, [.ref a0, .int ((nI OU)), .ref b1, .ref b2, .int ((nI M))])), (b1, .inl (cI, 24, .inl ((if fDig (care (prod C).toNatClampNeg) (bits (prod C).toNatClampNeg) (nI J) = z then prod else upd prod C (fWith N (care (prod C).toNatClampNeg) (bits (prod C).toNatClampNeg) (nI J) z))))), (b2, .inl (cI, 48, .inl kind)), (a0, .inr (5, [.int ((nI N)), .int ((nI Z)), .ref a1, .ref a2, .ref a3])), (a1, .inl (cI, 81, .inl care)), (a2, .inl (cI, 81, .inl bits)), (a3, .inl (cI, 81, .inl had))]) [0, 1, 2, 3, 4, 5, 6, 7] rfl
                have hD9 := hD.sub (ws' := [(m0, .inr (7, [.int ((nI N)), .int ((nI OU)), .ref b0, .ref t0, .ref f0, .ref g0, .ref k0, .ref v0, .ref d0, .int hk, .int 0])), (b0, .inr (1, [.ref a0, .int ((nI OU)), .ref b1, .ref b2, .int ((nI M))])), (b1, .inl (cI, 24, .inl ((if fDig (care (prod C).toNatClampNeg) (bits (prod C).toNatClampNeg) (nI J) = z then prod else upd prod C (fWith N (care (prod C).toNatClampNeg) (bits (prod C).toNatClampNeg) (nI J) z))))), (b2, .inl (cI, 48, .inl kind)), (a0, .inr (5, [.int ((nI N)), .int ((nI Z)), .ref a1, .ref a2, .ref a3])), (a1, .inl (cI, 81, .inl care)), (a2, .inl (cI, 81, .inl bits)), (a3, .inl (cI, 81, .inl had))]) [0, 1, 2, 3, 4, 5, 6, 7] (by decide) rfl
                exact W.zret (v := (if fDig (care (prod C).toNatClampNeg) (bits (prod C).toNatClampNeg) (nI J) = z then 0 else 1)) hx hb hr (z01 _) (fun t ht hW => ⟨⟨(if fDig (care (prod C).toNatClampNeg) (bits (prod C).toNatClampNeg) (nI J) = z then 0 else 1), 0, rfl, ⟨rfl, Or.inl rfl, fun _ => ⟨c_69, if01 c_74⟩⟩, by rw [ht]; exact hP9, va_K.moved hW.alike hK, hD9⟩, hS.F ht⟩) hS.2.2 d_Main_literal_87
              · refine lv_iconst (v := 1) hx hb d_Main_literal_77 (by decide) ?_
                refine lv_goto (tgt := 82) hx hb d_Main_literal_78 (by decide) ?_
                refine va_put (D := (dC, dI)) (ci := 7) (v := .int 1) (ty := .boolean) (C := R_Main) (T := F_Main) (N := 11) hx hb hts i_Main t_Main t_Main_ok n_Main hown hK hP hD hS 0 rfl rfl 10 (by decide) (hts _ mw_fl_Main_85) (fun _ h9 => h9) rfl (by decide +kernel) rfl rfl (Nat.le_of_ble_eq_true rfl) d_Main_literal_82 (fun H locs hP hD hS => ?_)
                have hP : va_P (dC, dI) classes [(m0, .inr (7, [.int ((nI N)), .int ((nI OU)), .ref b0, .ref t0, .ref f0, .ref g0, .ref k0, .ref v0, .ref d0, .int hk, .int 1])), (b0, .inr (1, [.ref a0, .int ((nI OU)), .ref b1, .ref b2, .int ((nI M))])), (b1, .inl (cI, 24, .inl ((if fDig (care (prod C).toNatClampNeg) (bits (prod C).toNatClampNeg) (nI J) = z then prod else upd prod C (fWith N (care (prod C).toNatClampNeg) (bits (prod C).toNatClampNeg) (nI J) z))))), (b2, .inl (cI, 48, .inl kind)), (a0, .inr (5, [.int ((nI N)), .int ((nI Z)), .ref a1, .ref a2, .ref a3])), (a1, .inl (cI, 81, .inl care)), (a2, .inl (cI, 81, .inl bits)), (a3, .inl (cI, 81, .inl had))] H := hP
                have hD : va_D A [(m0, .inr (7, [.int ((nI N)), .int ((nI OU)), .ref b0, .ref t0, .ref f0, .ref g0, .ref k0, .ref v0, .ref d0, .int hk, .int 1])), (b0, .inr (1, [.ref a0, .int ((nI OU)), .ref b1, .ref b2, .int ((nI M))])), (b1, .inl (cI, 24, .inl ((if fDig (care (prod C).toNatClampNeg) (bits (prod C).toNatClampNeg) (nI J) = z then prod else upd prod C (fWith N (care (prod C).toNatClampNeg) (bits (prod C).toNatClampNeg) (nI J) z))))), (b2, .inl (cI, 48, .inl kind)), (a0, .inr (5, [.int ((nI N)), .int ((nI Z)), .ref a1, .ref a2, .ref a3])), (a1, .inl (cI, 81, .inl care)), (a2, .inl (cI, 81, .inl bits)), (a3, .inl (cI, 81, .inl had))] := hD
                refine lv_iload hx hb d_Main_literal_85 (lv_at hl 0 rfl) ?_
                have hP9 := hP.sub (ws' := [(m0, .inr (7, [.int ((nI N)), .int ((nI OU)), .ref b0, .ref t0, .ref f0, .ref g0, .ref k0, .ref v0, .ref d0, .int hk, .int 1])), (b0, .inr (1, [.ref a0, .int ((nI OU)), .ref b1, .ref b2, .int ((nI M))])), (b1, .inl (cI, 24, .inl ((if fDig (care (prod C).toNatClampNeg) (bits (prod C).toNatClampNeg) (nI J) = z then prod else upd prod C (fWith N (care (prod C).toNatClampNeg) (bits (prod C).toNatClampNeg) (nI J) z))))), (b2, .inl (cI, 48, .inl kind)), (a0, .inr (5, [.int ((nI N)), .int ((nI Z)), .ref a1, .ref a2, .ref a3])), (a1, .inl (cI, 81, .inl care)), (a2, .inl (cI, 81, .inl bits)), (a3, .inl (cI, 81, .inl had))]) [0, 1, 2, 3, 4, 5, 6, 7] rfl
                have hD9 := hD.sub (ws' := [(m0, .inr (7, [.int ((nI N)), .int ((nI OU)), .ref b0, .ref t0, .ref f0, .ref g0, .ref k0, .ref v0, .ref d0, .int hk, .int 1])), (b0, .inr (1, [.ref a0, .int ((nI OU)), .ref b1, .ref b2, .int ((nI M))])), (b1, .inl (cI, 24, .inl ((if fDig (care (prod C).toNatClampNeg) (bits (prod C).toNatClampNeg) (nI J) = z then prod else upd prod C (fWith N (care (prod C).toNatClampNeg) (bits (prod C).toNatClampNeg) (nI J) z))))), (b2, .inl (cI, 48, .inl kind)), (a0, .inr (5, [.int ((nI N)), .int ((nI Z)), .ref a1, .ref a2, .ref a3])), (a1, .inl (cI, 81, .inl care)), (a2, .inl (cI, 81, .inl bits)), (a3, .inl (cI, 81, .inl had))]) [0, 1, 2, 3, 4, 5, 6, 7] (by decide) rfl
                exact W.zret (v := (if fDig (care (prod C).toNatClampNeg) (bits (prod C).toNatClampNeg) (nI J) = z then 0 else 1)) hx hb hr (z01 _) (fun t ht hW => ⟨⟨(if fDig (care (prod C).toNatClampNeg) (bits (prod C).toNatClampNeg) (nI J) = z then 0 else 1), 1, rfl, ⟨rfl, Or.inr rfl, fun h => absurd h (by decide)⟩, by rw [ht]; exact hP9, va_K.moved hW.alike hK, hD9⟩, hS.F ht⟩) hS.2.2 d_Main_literal_87
          · exact absurd (Int32.not_lt.mp hz2) c_39
      · exact absurd (lt_n hJ (hN)) c_20
