/-! ===== Products.withDigit; Cubes: the methods that only read ===== -/
theorem nI_m2 (i O : Nat) : nI i * 2 + nI O = nI (i * 2 + O) := by rw [show (2 : Int32) = nI 2 from rfl, pk_mul, nI_add]
/-- the number of a product with one digit changed -/
def fCare (care i d : Int32) : Int32 := if d = 2 then care &&& ((1 <<< (i &&& 31)) ^^^ (-1)) else care ||| (1 <<< (i &&& 31))
def fBits (bits i d : Int32) : Int32 := if d = 1 then bits ||| (1 <<< (i &&& 31)) else bits &&& ((1 <<< (i &&& 31)) ^^^ (-1))
def fWith (N : Nat) (care bits i d : Int32) : Int32 := fNum N (fCare care i d) (fBits bits i d)
set_option maxHeartbeats 4000000 in
set_option maxRecDepth 100000 in
theorem c_Products_withDigit (l : Launch) (dC : Nat → ClassId) (dI : Nat → Nat → Nat) (cI cJ : ClassId) (a0 : Nat) (a1 : Nat) (a2 : Nat) (a3 : Nat) (N : Nat) (sz : Int32) (care : Nat → Int32) (bits : Nat → Int32) (had : Nat → Int32) (p0 : Int32) (i0 : Int32) (d0 : Int32) (hN : N ≤ 4) (hp : vp_in p0 81) : Met l y_Products_withDigit (ct y_Products_withDigit b_Products_withDigit 7 (some .int)) ({ frames := 1, cells := 0, slots := 0, locals := 25 }) (va_Pc [.ref a0, .int p0, .int i0, .int d0] (fun U => va_P (dC, dI) classes (wP cI a0 a1 a2 a3 (nI N) sz care bits had) U.heap ∧ va_K (dC, dI) classes [(cI, .int), (cJ, .long)] U)) (vp_Si (fun r => r = fWith N (care p0.toNatClampNeg) (bits p0.toNatClampNeg) i0 d0)) 0 0 (fun _ => False) := by
  refine Met.ofW (cc := b_Products_withDigit) (maxL := 7) (ret := some .int) (by decide) rfl ?_
  intro p e s m args below meth c s₁ B hml hv
  obtain ⟨rfl, hP, hK⟩ := hv
  have hx := B.exec
  have hb := B.bytes
  have hr := B.returns
  have hts : ∀ w ∈ lwg, w.before _ s = true := fun w h => atoms_spec (ws := ct y_Products_withDigit b_Products_withDigit 7 (some .int)) B.pre w (List.mem_cons_of_mem _ h)
  have hown : s.vm.findClass R_Products = some m.cls := findClass_of_methodNamed B.named
  have hlocks := B.notSynchronized
  have hl := lv_entry ([.ref a0, .int p0, .int i0, .int d0]) (n := 7) (Nat.le_of_ble_eq_true rfl)
  rw [lg_entry_eq]
  generalize (lg_sl ([.ref a0, .int p0, .int i0, .int d0]) ++ List.replicate (7 - (lg_sl ([.ref a0, .int p0, .int i0, .int d0])).length) Slot.unset).toArray = ls at hl ⊢
  have hl : lv_has ls 7 [(0, .ref a0), (1, .int p0), (2, .int i0), (3, .int d0)] := hl
  refine lv_iconst (v := 1) hx hb d_Products_withDigit_0 (by decide) ?_
  refine lv_iload_n hx hb d_Products_withDigit_1 rfl (lv_at hl 2 rfl) ?_
  refine lv_ishl hx hb d_Products_withDigit_2 ?_
  refine lv_istore (lv' := [(4, .int ((1 <<< (i0 &&& 31)))), (0, .ref a0), (1, .int p0), (2, .int i0), (3, .int d0)]) hx hb d_Products_withDigit_3 hl (by decide) rfl (fun ls hl => ?_)
  refine lv_iload_n hx hb d_Products_withDigit_5 rfl (lv_at hl 4 rfl) ?_
  refine lv_iconst (v := 2) hx hb d_Products_withDigit_6 (by decide) ?_
  refine lv_icmp_ne (tgt := 24) hx hb d_Products_withDigit_7 (by decide) (fun c_7 => ?_) (fun c_7 => ?_)
  · refine lv_aload_n hx hb d_Products_withDigit_24 rfl (lv_at hl 1 rfl) ?_
    refine va_get (D := (dC, dI)) (ci := 5) (v := .ref a1) (C := R_Products) (T := F_Products) (N := 5) hx hb hts i_Products hown hK hP 0 rfl rfl 2 (by decide) (hts _ mw_fl_Products_9) (fun _ h9 => h9) rfl d_Products_withDigit_25 ?_
    refine lv_iload_n hx hb d_Products_withDigit_28 rfl (lv_at hl 2 rfl) ?_
    refine va_iald hx hb hK hP 1 0 rfl rfl hp d_Products_withDigit_29 ?_
    refine lv_iload hx hb d_Products_withDigit_30 (lv_at hl 0 rfl) ?_
    refine lv_ior hx hb d_Products_withDigit_32 ?_
    refine w_ti (show _ = fCare (care p0.toNatClampNeg) i0 d0 from by simp [fCare, c_7]) ?_
    refine lv_istore (lv' := [(5, .int ((fCare (care p0.toNatClampNeg) i0 d0))), (4, .int ((1 <<< (i0 &&& 31)))), (0, .ref a0), (1, .int p0), (2, .int i0), (3, .int d0)]) hx hb d_Products_withDigit_33 hl (by decide) rfl (fun ls hl => ?_)
    refine lv_iload_n hx hb d_Products_withDigit_35 rfl (lv_at hl 5 rfl) ?_
    refine lv_iconst (v := 1) hx hb d_Products_withDigit_36 (by decide) ?_
    refine lv_icmp_ne (tgt := 52) hx hb d_Products_withDigit_37 (by decide) (fun c_37 => ?_) (fun c_37 => ?_)
    · refine lv_aload_n hx hb d_Products_withDigit_52 rfl (lv_at hl 2 rfl) ?_
      refine va_get (D := (dC, dI)) (ci := 5) (v := .ref a2) (C := R_Products) (T := F_Products) (N := 5) hx hb hts i_Products hown hK hP 0 rfl rfl 3 (by decide) (hts _ mw_fl_Products_15) (fun _ h9 => h9) rfl d_Products_withDigit_53 ?_
      refine lv_iload_n hx hb d_Products_withDigit_56 rfl (lv_at hl 3 rfl) ?_
      refine va_iald hx hb hK hP 2 0 rfl rfl hp d_Products_withDigit_57 ?_
      refine lv_iload hx hb d_Products_withDigit_58 (lv_at hl 1 rfl) ?_
      refine lv_iconst (v := (-1)) hx hb d_Products_withDigit_60 (by decide) ?_
      refine lv_ixor hx hb d_Products_withDigit_61 ?_
      refine lv_iand hx hb d_Products_withDigit_62 ?_
      refine w_ti (show _ = fBits (bits p0.toNatClampNeg) i0 d0 from by simp [fBits, c_37]) ?_
      refine lv_istore (lv' := [(6, .int ((fBits (bits p0.toNatClampNeg) i0 d0))), (5, .int ((fCare (care p0.toNatClampNeg) i0 d0))), (4, .int ((1 <<< (i0 &&& 31)))), (0, .ref a0), (1, .int p0), (2, .int i0), (3, .int d0)]) hx hb d_Products_withDigit_63 hl (by decide) rfl (fun ls hl => ?_)
      refine lv_aload_n hx hb d_Products_withDigit_65 rfl (lv_at hl 3 rfl) ?_
      refine lv_iload hx hb d_Products_withDigit_66 (lv_at hl 1 rfl) ?_
      refine lv_iload hx hb d_Products_withDigit_68 (lv_at hl 0 rfl) ?_
      refine vp_callSi (W.runV (As := [.int ((fCare (care p0.toNatClampNeg) i0 d0)), .int ((fBits (bits p0.toNatClampNeg) i0 d0))]) (rest := []) ⟨hx, hb, hml, hown, hts⟩ (c_Products_numberOf l dC dI cI cJ a0 a1 a2 a3 N sz care bits had (fCare (care p0.toNatClampNeg) i0 d0) (fBits (bits p0.toNatClampNeg) i0 d0) hN) (cwV 2 hts (ct_goodV mw_ml_Products_41 mw_im_Products_numberOf mw_se_Products_numberOf mw_ini_Products mw_code_Products_numberOf) rfl rfl rfl (by decide +kernel) ⟨Nat.le_of_ble_eq_true rfl, Nat.le_of_ble_eq_true rfl⟩) ⟨fun a U g mk q => by obtain ⟨q0, qP, qK⟩ := q; exact ⟨q0, qP, va_K.moved (u := U) (U := U.calling g mk a) (Vm.Alike.refl U.vm) qK⟩, va_recv hK hP (ci := 5) (q0 := 0) rfl rfl, fun U hU hW => ⟨rfl, by rw [hU]; exact hP, va_K.moved hW.alike hK⟩⟩ rfl rfl hl.1 rfl (lv_room (Nat.le_of_ble_eq_true rfl)) d_Products_withDigit_70 ⟨Nat.le_of_ble_eq_true rfl, Nat.le_of_ble_eq_true rfl⟩) (fun r_1 hr_1 => ?_)
      rw [hr_1]
      clear hr_1
      exact W.iret (v := (fNum N (fCare (care p0.toNatClampNeg) i0 d0) (fBits (bits p0.toNatClampNeg) i0 d0))) hx hb hr (fun t ht hW => ⟨_, rfl, rfl, ht⟩) (fun q h => by cases h) d_Products_withDigit_73
    · refine lv_aload_n hx hb d_Products_withDigit_40 rfl (lv_at hl 2 rfl) ?_
      refine va_get (D := (dC, dI)) (ci := 5) (v := .ref a2) (C := R_Products) (T := F_Products) (N := 5) hx hb hts i_Products hown hK hP 0 rfl rfl 3 (by decide) (hts _ mw_fl_Products_15) (fun _ h9 => h9) rfl d_Products_withDigit_41 ?_
      refine lv_iload_n hx hb d_Products_withDigit_44 rfl (lv_at hl 3 rfl) ?_
      refine va_iald hx hb hK hP 2 0 rfl rfl hp d_Products_withDigit_45 ?_
      refine lv_iload hx hb d_Products_withDigit_46 (lv_at hl 1 rfl) ?_
      refine lv_ior hx hb d_Products_withDigit_48 ?_
      refine lv_goto (tgt := 63) hx hb d_Products_withDigit_49 (by decide) ?_
      refine w_ti (show _ = fBits (bits p0.toNatClampNeg) i0 d0 from by simp [fBits, c_37]) ?_
      refine lv_istore (lv' := [(6, .int ((fBits (bits p0.toNatClampNeg) i0 d0))), (5, .int ((fCare (care p0.toNatClampNeg) i0 d0))), (4, .int ((1 <<< (i0 &&& 31)))), (0, .ref a0), (1, .int p0), (2, .int i0), (3, .int d0)]) hx hb d_Products_withDigit_63 hl (by decide) rfl (fun ls hl => ?_)
      refine lv_aload_n hx hb d_Products_withDigit_65 rfl (lv_at hl 3 rfl) ?_
      refine lv_iload hx hb d_Products_withDigit_66 (lv_at hl 1 rfl) ?_
      refine lv_iload hx hb d_Products_withDigit_68 (lv_at hl 0 rfl) ?_
      refine vp_callSi (W.runV (As := [.int ((fCare (care p0.toNatClampNeg) i0 d0)), .int ((fBits (bits p0.toNatClampNeg) i0 d0))]) (rest := []) ⟨hx, hb, hml, hown, hts⟩ (c_Products_numberOf l dC dI cI cJ a0 a1 a2 a3 N sz care bits had (fCare (care p0.toNatClampNeg) i0 d0) (fBits (bits p0.toNatClampNeg) i0 d0) hN) (cwV 2 hts (ct_goodV mw_ml_Products_41 mw_im_Products_numberOf mw_se_Products_numberOf mw_ini_Products mw_code_Products_numberOf) rfl rfl rfl (by decide +kernel) ⟨Nat.le_of_ble_eq_true rfl, Nat.le_of_ble_eq_true rfl⟩) ⟨fun a U g mk q => by obtain ⟨q0, qP, qK⟩ := q; exact ⟨q0, qP, va_K.moved (u := U) (U := U.calling g mk a) (Vm.Alike.refl U.vm) qK⟩, va_recv hK hP (ci := 5) (q0 := 0) rfl rfl, fun U hU hW => ⟨rfl, by rw [hU]; exact hP, va_K.moved hW.alike hK⟩⟩ rfl rfl hl.1 rfl (lv_room (Nat.le_of_ble_eq_true rfl)) d_Products_withDigit_70 ⟨Nat.le_of_ble_eq_true rfl, Nat.le_of_ble_eq_true rfl⟩) (fun r_2 hr_2 => ?_)
      rw [hr_2]
      clear hr_2
      exact W.iret (v := (fNum N (fCare (care p0.toNatClampNeg) i0 d0) (fBits (bits p0.toNatClampNeg) i0 d0))) hx hb hr (fun t ht hW => ⟨_, rfl, rfl, ht⟩) (fun q h => by cases h) d_Products_withDigit_73
  · refine lv_aload_n hx hb d_Products_withDigit_10 rfl (lv_at hl 1 rfl) ?_
    refine va_get (D := (dC, dI)) (ci := 5) (v := .ref a1) (C := R_Products) (T := F_Products) (N := 5) hx hb hts i_Products hown hK hP 0 rfl rfl 2 (by decide) (hts _ mw_fl_Products_9) (fun _ h9 => h9) rfl d_Products_withDigit_11 ?_
    refine lv_iload_n hx hb d_Products_withDigit_14 rfl (lv_at hl 2 rfl) ?_
    refine va_iald hx hb hK hP 1 0 rfl rfl hp d_Products_withDigit_15 ?_
    refine lv_iload hx hb d_Products_withDigit_16 (lv_at hl 0 rfl) ?_
    refine lv_iconst (v := (-1)) hx hb d_Products_withDigit_18 (by decide) ?_
    refine lv_ixor hx hb d_Products_withDigit_19 ?_
    refine lv_iand hx hb d_Products_withDigit_20 ?_
    refine lv_goto (tgt := 33) hx hb d_Products_withDigit_21 (by decide) ?_
    refine w_ti (show _ = fCare (care p0.toNatClampNeg) i0 d0 from by simp [fCare, c_7]) ?_
    refine lv_istore (lv' := [(5, .int ((fCare (care p0.toNatClampNeg) i0 d0))), (4, .int ((1 <<< (i0 &&& 31)))), (0, .ref a0), (1, .int p0), (2, .int i0), (3, .int d0)]) hx hb d_Products_withDigit_33 hl (by decide) rfl (fun ls hl => ?_)
    refine lv_iload_n hx hb d_Products_withDigit_35 rfl (lv_at hl 5 rfl) ?_
    refine lv_iconst (v := 1) hx hb d_Products_withDigit_36 (by decide) ?_
    refine lv_icmp_ne (tgt := 52) hx hb d_Products_withDigit_37 (by decide) (fun c_37 => ?_) (fun c_37 => ?_)
    · refine lv_aload_n hx hb d_Products_withDigit_52 rfl (lv_at hl 2 rfl) ?_
      refine va_get (D := (dC, dI)) (ci := 5) (v := .ref a2) (C := R_Products) (T := F_Products) (N := 5) hx hb hts i_Products hown hK hP 0 rfl rfl 3 (by decide) (hts _ mw_fl_Products_15) (fun _ h9 => h9) rfl d_Products_withDigit_53 ?_
      refine lv_iload_n hx hb d_Products_withDigit_56 rfl (lv_at hl 3 rfl) ?_
      refine va_iald hx hb hK hP 2 0 rfl rfl hp d_Products_withDigit_57 ?_
      refine lv_iload hx hb d_Products_withDigit_58 (lv_at hl 1 rfl) ?_
      refine lv_iconst (v := (-1)) hx hb d_Products_withDigit_60 (by decide) ?_
      refine lv_ixor hx hb d_Products_withDigit_61 ?_
      refine lv_iand hx hb d_Products_withDigit_62 ?_
      refine w_ti (show _ = fBits (bits p0.toNatClampNeg) i0 d0 from by simp [fBits, c_37]) ?_
      refine lv_istore (lv' := [(6, .int ((fBits (bits p0.toNatClampNeg) i0 d0))), (5, .int ((fCare (care p0.toNatClampNeg) i0 d0))), (4, .int ((1 <<< (i0 &&& 31)))), (0, .ref a0), (1, .int p0), (2, .int i0), (3, .int d0)]) hx hb d_Products_withDigit_63 hl (by decide) rfl (fun ls hl => ?_)
      refine lv_aload_n hx hb d_Products_withDigit_65 rfl (lv_at hl 3 rfl) ?_
      refine lv_iload hx hb d_Products_withDigit_66 (lv_at hl 1 rfl) ?_
      refine lv_iload hx hb d_Products_withDigit_68 (lv_at hl 0 rfl) ?_
      refine vp_callSi (W.runV (As := [.int ((fCare (care p0.toNatClampNeg) i0 d0)), .int ((fBits (bits p0.toNatClampNeg) i0 d0))]) (rest := []) ⟨hx, hb, hml, hown, hts⟩ (c_Products_numberOf l dC dI cI cJ a0 a1 a2 a3 N sz care bits had (fCare (care p0.toNatClampNeg) i0 d0) (fBits (bits p0.toNatClampNeg) i0 d0) hN) (cwV 2 hts (ct_goodV mw_ml_Products_41 mw_im_Products_numberOf mw_se_Products_numberOf mw_ini_Products mw_code_Products_numberOf) rfl rfl rfl (by decide +kernel) ⟨Nat.le_of_ble_eq_true rfl, Nat.le_of_ble_eq_true rfl⟩) ⟨fun a U g mk q => by obtain ⟨q0, qP, qK⟩ := q; exact ⟨q0, qP, va_K.moved (u := U) (U := U.calling g mk a) (Vm.Alike.refl U.vm) qK⟩, va_recv hK hP (ci := 5) (q0 := 0) rfl rfl, fun U hU hW => ⟨rfl, by rw [hU]; exact hP, va_K.moved hW.alike hK⟩⟩ rfl rfl hl.1 rfl (lv_room (Nat.le_of_ble_eq_true rfl)) d_Products_withDigit_70 ⟨Nat.le_of_ble_eq_true rfl, Nat.le_of_ble_eq_true rfl⟩) (fun r_3 hr_3 => ?_)
      rw [hr_3]
      clear hr_3
      exact W.iret (v := (fNum N (fCare (care p0.toNatClampNeg) i0 d0) (fBits (bits p0.toNatClampNeg) i0 d0))) hx hb hr (fun t ht hW => ⟨_, rfl, rfl, ht⟩) (fun q h => by cases h) d_Products_withDigit_73
    · refine lv_aload_n hx hb d_Products_withDigit_40 rfl (lv_at hl 2 rfl) ?_
      refine va_get (D := (dC, dI)) (ci := 5) (v := .ref a2) (C := R_Products) (T := F_Products) (N := 5) hx hb hts i_Products hown hK hP 0 rfl rfl 3 (by decide) (hts _ mw_fl_Products_15) (fun _ h9 => h9) rfl d_Products_withDigit_41 ?_
      refine lv_iload_n hx hb d_Products_withDigit_44 rfl (lv_at hl 3 rfl) ?_
      refine va_iald hx hb hK hP 2 0 rfl rfl hp d_Products_withDigit_45 ?_
      refine lv_iload hx hb d_Products_withDigit_46 (lv_at hl 1 rfl) ?_
      refine lv_ior hx hb d_Products_withDigit_48 ?_
      refine lv_goto (tgt := 63) hx hb d_Products_withDigit_49 (by decide) ?_
      refine w_ti (show _ = fBits (bits p0.toNatClampNeg) i0 d0 from by simp [fBits, c_37]) ?_
      refine lv_istore (lv' := [(6, .int ((fBits (bits p0.toNatClampNeg) i0 d0))), (5, .int ((fCare (care p0.toNatClampNeg) i0 d0))), (4, .int ((1 <<< (i0 &&& 31)))), (0, .ref a0), (1, .int p0), (2, .int i0), (3, .int d0)]) hx hb d_Products_withDigit_63 hl (by decide) rfl (fun ls hl => ?_)
      refine lv_aload_n hx hb d_Products_withDigit_65 rfl (lv_at hl 3 rfl) ?_
      refine lv_iload hx hb d_Products_withDigit_66 (lv_at hl 1 rfl) ?_
      refine lv_iload hx hb d_Products_withDigit_68 (lv_at hl 0 rfl) ?_
      refine vp_callSi (W.runV (As := [.int ((fCare (care p0.toNatClampNeg) i0 d0)), .int ((fBits (bits p0.toNatClampNeg) i0 d0))]) (rest := []) ⟨hx, hb, hml, hown, hts⟩ (c_Products_numberOf l dC dI cI cJ a0 a1 a2 a3 N sz care bits had (fCare (care p0.toNatClampNeg) i0 d0) (fBits (bits p0.toNatClampNeg) i0 d0) hN) (cwV 2 hts (ct_goodV mw_ml_Products_41 mw_im_Products_numberOf mw_se_Products_numberOf mw_ini_Products mw_code_Products_numberOf) rfl rfl rfl (by decide +kernel) ⟨Nat.le_of_ble_eq_true rfl, Nat.le_of_ble_eq_true rfl⟩) ⟨fun a U g mk q => by obtain ⟨q0, qP, qK⟩ := q; exact ⟨q0, qP, va_K.moved (u := U) (U := U.calling g mk a) (Vm.Alike.refl U.vm) qK⟩, va_recv hK hP (ci := 5) (q0 := 0) rfl rfl, fun U hU hW => ⟨rfl, by rw [hU]; exact hP, va_K.moved hW.alike hK⟩⟩ rfl rfl hl.1 rfl (lv_room (Nat.le_of_ble_eq_true rfl)) d_Products_withDigit_70 ⟨Nat.le_of_ble_eq_true rfl, Nat.le_of_ble_eq_true rfl⟩) (fun r_4 hr_4 => ?_)
      rw [hr_4]
      clear hr_4
      exact W.iret (v := (fNum N (fCare (care p0.toNatClampNeg) i0 d0) (fBits (bits p0.toNatClampNeg) i0 d0))) hx hb hr (fun t ht hW => ⟨_, rfl, rfl, ht⟩) (fun q h => by cases h) d_Products_withDigit_73
abbrev wC (cI : ClassId) (b0 b1 b2 a0 M : Nat) (o : Int32) (prod kind : Nat → Int32) : va_W := [(b0, .inr (1, [.ref a0, .int o, .ref b1, .ref b2, .int ((nI M))])), (b1, .inl (cI, 24, .inl prod)), (b2, .inl (cI, 48, .inl kind))]
/-- what the cubes of a kind for an output have -/
def fKind (prod kind had : Nat → Int32) (M O : Nat) (wt : Int32) : Int32 := itr (fun c acc => if kind (c * 2 + O) = wt then acc ||| had (prod c).toNatClampNeg else acc) M 0
set_option maxHeartbeats 4000000 in
set_option maxRecDepth 100000 in
theorem lp_Cubes_hadByKind {p : Program} {e : Env} {s : State} {m : MethodId} {args : Array Value} {below : List Frame} {meth : Method} {c : Code} (l : Launch) (dC : Nat → ClassId) (dI : Nat → Nat → Nat) (cI cJ : ClassId) (b0 : Nat) (b1 : Nat) (b2 : Nat) (M : Nat) (o : Int32) (prod : Nat → Int32) (kind : Nat → Int32) (a0 : Nat) (a1 : Nat) (a2 : Nat) (a3 : Nat) (n : Int32) (sz : Int32) (care : Nat → Int32) (bits : Nat → Int32) (had : Nat → Int32) (O : Nat) (wt : Int32) (hM : M ≤ 24) (hO : O < 2) (hpr : ∀ c, c < M → vp_in (prod c) 81) (hx : p.tables.exec = Jvm.exec) (hb : c.code = b_Cubes_hadByKind) (hr : meth.sig.returnType = some .int) (hts : ∀ w ∈ lwg, w.before args s = true) (hown : s.vm.findClass R_Cubes = some m.cls) (hlocks : meth.locks = false) (hml : c.maxLocals = 5) (hP : va_P (dC, dI) classes (wC cI b0 b1 b2 a0 M o prod kind ++ wP cI a0 a1 a2 a3 n sz care bits had) s.heap) (hK : va_K (dC, dI) classes [(cI, .int), (cJ, .long)] s) : ∀ (k i : Nat), M - i < k → i ≤ M → ∀ ls : Array Slot, lv_has ls 5 [(0, .ref b0), (1, .int ((nI O))), (2, .int wt), (3, .int ((itr (fun c acc => if kind (c * 2 + O) = wt then acc ||| had (prod c).toNatClampNeg else acc) i 0))), (4, .int ((nI i)))] → W p l e ({ frames := 1, cells := 0, slots := 0, locals := 21 } : Room) s m args below meth c s.heap [] 0 0 (MQ below (vp_Si (fun r => r = fKind prod kind had M O wt)) args s 0 0 (fun _ => False)) (F0 m 5 ls []) := by
  intro k
  induction k with
  | zero => intro i h; omega
  | succ k ih =>
    intro i hk hi ls hl
    refine lv_iload hx hb d_Cubes_hadByKind_5 (lv_at hl 4 rfl) ?_
    refine lv_aload_n hx hb d_Cubes_hadByKind_7 rfl (lv_at hl 0 rfl) ?_
    refine va_get (D := (dC, dI)) (ci := 1) (v := .int ((nI M))) (C := R_Cubes) (T := F_Cubes) (N := 5) hx hb hts i_Cubes hown hK hP 0 rfl rfl 4 (by decide) (hts _ mw_fl_Cubes_26) (fun _ h9 => h9) rfl d_Cubes_hadByKind_8 ?_
    refine lv_icmp_ge (tgt := 52) hx hb d_Cubes_hadByKind_11 (by decide) (fun c_11 => ?_) (fun c_11 => ?_)
    · have hE : i = M := Nat.le_antisymm hi ((nI_leI (by omega) (by omega)).mp c_11)
      subst hE
      refine lv_iload_n hx hb d_Cubes_hadByKind_52 rfl (lv_at hl 3 rfl) ?_
      exact W.iret (v := (itr (fun c acc => if kind (c * 2 + O) = wt then acc ||| had (prod c).toNatClampNeg else acc) i 0)) hx hb hr (fun t ht hW => ⟨_, rfl, rfl, ht⟩) (fun q h => by cases h) d_Cubes_hadByKind_53
    · have hlt : i < M := Nat.lt_of_not_le (fun h => c_11 ((nI_leI (by omega) (by omega)).mpr h))
      refine lv_aload_n hx hb d_Cubes_hadByKind_14 rfl (lv_at hl 0 rfl) ?_
      refine va_get (D := (dC, dI)) (ci := 1) (v := .ref b2) (C := R_Cubes) (T := F_Cubes) (N := 5) hx hb hts i_Cubes hown hK hP 0 rfl rfl 3 (by decide) (hts _ mw_fl_Cubes_15) (fun _ h9 => h9) rfl d_Cubes_hadByKind_15 ?_
      refine lv_iload hx hb d_Cubes_hadByKind_18 (lv_at hl 4 rfl) ?_
      refine lv_iconst (v := 2) hx hb d_Cubes_hadByKind_20 (by decide) ?_
      refine lv_imul hx hb d_Cubes_hadByKind_21 ?_
      refine lv_iload_n hx hb d_Cubes_hadByKind_22 rfl (lv_at hl 1 rfl) ?_
      refine lv_iadd hx hb d_Cubes_hadByKind_23 ?_
      refine w_ti (show _ = nI (i * 2 + O) from nI_m2 i O) ?_
      refine va_iald hx hb hK hP 2 0 rfl rfl (vp_in_nI (show i * 2 + O < 48 by omega) (by omega)) d_Cubes_hadByKind_24 ?_
      refine w_ti (show _ = kind (i * 2 + O) from by rw [nI_clamp (by omega)]) ?_
      refine lv_iload_n hx hb d_Cubes_hadByKind_25 rfl (lv_at hl 2 rfl) ?_
      refine lv_icmp_ne (tgt := 46) hx hb d_Cubes_hadByKind_26 (by decide) (fun c_26 => ?_) (fun c_26 => ?_)
      · have hacc : itr (fun c acc => if kind (c * 2 + O) = wt then acc ||| had (prod c).toNatClampNeg else acc) i 0 = (itr (fun c acc => if kind (c * 2 + O) = wt then acc ||| had (prod c).toNatClampNeg else acc) (i + 1) 0) := by simp [itr_s, c_26]
        rw [hacc] at hl
        refine lv_iinc (v := (nI (i + 1))) (lv' := [(4, .int ((nI (i + 1)))), (0, .ref b0), (1, .int ((nI O))), (2, .int wt), (3, .int ((itr (fun c acc => if kind (c * 2 + O) = wt then acc ||| had (prod c).toNatClampNeg else acc) (i + 1) 0)))]) hx hb d_Cubes_hadByKind_46 hl (k := 4) rfl (show nI i + 1 = nI (i + 1) from nI_1 i) (by decide) rfl (fun ls hl => ?_)
        refine lv_goto (tgt := 5) hx hb d_Cubes_hadByKind_49 (by decide) ?_
        exact ih (i + 1) (by omega) (by omega) ls (lv_sub hl [1, 2, 3, 4, 0] rfl)
      · refine lv_iload_n hx hb d_Cubes_hadByKind_29 rfl (lv_at hl 3 rfl) ?_
        refine lv_aload_n hx hb d_Cubes_hadByKind_30 rfl (lv_at hl 0 rfl) ?_
        refine va_get (D := (dC, dI)) (ci := 1) (v := .ref a0) (C := R_Cubes) (T := F_Cubes) (N := 5) hx hb hts i_Cubes hown hK hP 0 rfl rfl 0 (by decide) (hts _ mw_fl_Cubes_18) (fun _ h9 => h9) rfl d_Cubes_hadByKind_31 ?_
        refine lv_aload_n hx hb d_Cubes_hadByKind_34 rfl (lv_at hl 0 rfl) ?_
        refine va_get (D := (dC, dI)) (ci := 1) (v := .ref b1) (C := R_Cubes) (T := F_Cubes) (N := 5) hx hb hts i_Cubes hown hK hP 0 rfl rfl 2 (by decide) (hts _ mw_fl_Cubes_9) (fun _ h9 => h9) rfl d_Cubes_hadByKind_35 ?_
        refine lv_iload hx hb d_Cubes_hadByKind_38 (lv_at hl 4 rfl) ?_
        refine va_iald hx hb hK hP 1 0 rfl rfl (vp_in_nI (show i < 24 by omega) (by omega)) d_Cubes_hadByKind_40 ?_
        refine w_ti (show _ = prod i from by rw [nI_clamp (by omega)]) ?_
        refine vp_callSi (W.runV (As := [.int ((prod i))]) (rest := [.int ((itr (fun c acc => if kind (c * 2 + O) = wt then acc ||| had (prod c).toNatClampNeg else acc) i 0))]) ⟨hx, hb, hml, hown, hts⟩ (c_Products_had l dC dI cI cJ a0 a1 a2 a3 n sz care bits had (prod i) (hpr i hlt)) (cwV 1 hts (ct_goodV mw_ml_Cubes_50 mw_im_Products_had mw_se_Products_had mw_ini_Products mw_code_Products_had) rfl rfl rfl (by decide +kernel) ⟨Nat.le_of_ble_eq_true rfl, Nat.le_of_ble_eq_true rfl⟩) ⟨fun a U g mk q => by obtain ⟨q0, qP, qK⟩ := q; exact ⟨q0, qP, va_K.moved (u := U) (U := U.calling g mk a) (Vm.Alike.refl U.vm) qK⟩, va_recv hK hP (ci := 5) (q0 := 3) rfl rfl, fun U hU hW => ⟨rfl, by rw [hU]; exact (hP.sub (ws' := (wP cI a0 a1 a2 a3 n sz care bits had)) [3, 4, 5, 6] rfl), va_K.moved hW.alike hK⟩⟩ rfl rfl hl.1 rfl (lv_room (Nat.le_of_ble_eq_true rfl)) d_Cubes_hadByKind_41 ⟨Nat.le_of_ble_eq_true rfl, Nat.le_of_ble_eq_true rfl⟩) (fun r_1 hr_1 => ?_)
        rw [hr_1]
        clear hr_1
        refine lv_ior hx hb d_Cubes_hadByKind_44 ?_
        refine lv_istore_n (lv' := [(3, .int (((itr (fun c acc => if kind (c * 2 + O) = wt then acc ||| had (prod c).toNatClampNeg else acc) i 0) ||| (had (prod i).toNatClampNeg)))), (0, .ref b0), (1, .int ((nI O))), (2, .int wt), (4, .int ((nI i)))]) hx hb d_Cubes_hadByKind_45 rfl hl (by decide) rfl (fun ls hl => ?_)
        have hacc : (itr (fun c acc => if kind (c * 2 + O) = wt then acc ||| had (prod c).toNatClampNeg else acc) i 0) ||| (had (prod i).toNatClampNeg) = (itr (fun c acc => if kind (c * 2 + O) = wt then acc ||| had (prod c).toNatClampNeg else acc) (i + 1) 0) := by simp [itr_s, c_26]
        rw [hacc] at hl
        refine lv_iinc (v := (nI (i + 1))) (lv' := [(4, .int ((nI (i + 1)))), (3, .int ((itr (fun c acc => if kind (c * 2 + O) = wt then acc ||| had (prod c).toNatClampNeg else acc) (i + 1) 0))), (0, .ref b0), (1, .int ((nI O))), (2, .int wt)]) hx hb d_Cubes_hadByKind_46 hl (k := 4) rfl (show nI i + 1 = nI (i + 1) from nI_1 i) (by decide) rfl (fun ls hl => ?_)
        refine lv_goto (tgt := 5) hx hb d_Cubes_hadByKind_49 (by decide) ?_
        exact ih (i + 1) (by omega) (by omega) ls (lv_sub hl [2, 3, 4, 1, 0] rfl)
set_option maxHeartbeats 4000000 in
set_option maxRecDepth 100000 in
theorem c_Cubes_hadByKind (l : Launch) (dC : Nat → ClassId) (dI : Nat → Nat → Nat) (cI cJ : ClassId) (b0 : Nat) (b1 : Nat) (b2 : Nat) (M : Nat) (o : Int32) (prod : Nat → Int32) (kind : Nat → Int32) (a0 : Nat) (a1 : Nat) (a2 : Nat) (a3 : Nat) (n : Int32) (sz : Int32) (care : Nat → Int32) (bits : Nat → Int32) (had : Nat → Int32) (O : Nat) (wt : Int32) (hM : M ≤ 24) (hO : O < 2) (hpr : ∀ c, c < M → vp_in (prod c) 81) : Met l y_Cubes_hadByKind (ct y_Cubes_hadByKind b_Cubes_hadByKind 5 (some .int)) ({ frames := 1, cells := 0, slots := 0, locals := 21 }) (va_Pc [.ref b0, .int ((nI O)), .int wt] (fun U => va_P (dC, dI) classes (wC cI b0 b1 b2 a0 M o prod kind ++ wP cI a0 a1 a2 a3 n sz care bits had) U.heap ∧ va_K (dC, dI) classes [(cI, .int), (cJ, .long)] U)) (vp_Si (fun r => r = fKind prod kind had M O wt)) 0 0 (fun _ => False) := by
  refine Met.ofW (cc := b_Cubes_hadByKind) (maxL := 5) (ret := some .int) (by decide) rfl ?_
  intro p e s m args below meth c s₁ B hml hv
  obtain ⟨rfl, hP, hK⟩ := hv
  have hx := B.exec
  have hb := B.bytes
  have hr := B.returns
  have hts : ∀ w ∈ lwg, w.before _ s = true := fun w h => atoms_spec (ws := ct y_Cubes_hadByKind b_Cubes_hadByKind 5 (some .int)) B.pre w (List.mem_cons_of_mem _ h)
  have hown : s.vm.findClass R_Cubes = some m.cls := findClass_of_methodNamed B.named
  have hlocks := B.notSynchronized
  have hl := lv_entry ([.ref b0, .int ((nI O)), .int wt]) (n := 5) (Nat.le_of_ble_eq_true rfl)
  rw [lg_entry_eq]
  generalize (lg_sl ([.ref b0, .int ((nI O)), .int wt]) ++ List.replicate (5 - (lg_sl ([.ref b0, .int ((nI O)), .int wt])).length) Slot.unset).toArray = ls at hl ⊢
  have hl : lv_has ls 5 [(0, .ref b0), (1, .int ((nI O))), (2, .int wt)] := hl
  refine lv_iconst (v := 0) hx hb d_Cubes_hadByKind_0 (by decide) ?_
  refine lv_istore_n (lv' := [(3, .int 0), (0, .ref b0), (1, .int ((nI O))), (2, .int wt)]) hx hb d_Cubes_hadByKind_1 rfl hl (by decide) rfl (fun ls hl => ?_)
  refine lv_iconst (v := 0) hx hb d_Cubes_hadByKind_2 (by decide) ?_
  refine lv_istore (lv' := [(4, .int 0), (3, .int 0), (0, .ref b0), (1, .int ((nI O))), (2, .int wt)]) hx hb d_Cubes_hadByKind_3 hl (by decide) rfl (fun ls hl => ?_)
  exact lp_Cubes_hadByKind l dC dI cI cJ b0 b1 b2 M o prod kind a0 a1 a2 a3 n sz care bits had O wt hM hO hpr hx hb hr hts hown hlocks hml hP hK (M + 1) 0 (by omega) (Nat.zero_le _) ls (lv_sub hl [2, 3, 4, 1, 0] rfl)
set_option maxHeartbeats 4000000 in
set_option maxRecDepth 100000 in
theorem c_Cubes_on (l : Launch) (dC : Nat → ClassId) (dI : Nat → Nat → Nat) (cI cJ : ClassId) (b0 : Nat) (b1 : Nat) (b2 : Nat) (M : Nat) (o : Int32) (prod : Nat → Int32) (kind : Nat → Int32) (a0 : Nat) (a1 : Nat) (a2 : Nat) (a3 : Nat) (n : Int32) (sz : Int32) (care : Nat → Int32) (bits : Nat → Int32) (had : Nat → Int32) (O : Nat) (hM : M ≤ 24) (hO : O < 2) (hpr : ∀ c, c < M → vp_in (prod c) 81) : Met l y_Cubes_on (ct y_Cubes_on b_Cubes_on 2 (some .int)) ({ frames := 2, cells := 0, slots := 0, locals := 45 }) (va_Pc [.ref b0, .int ((nI O))] (fun U => va_P (dC, dI) classes (wC cI b0 b1 b2 a0 M o prod kind ++ wP cI a0 a1 a2 a3 n sz care bits had) U.heap ∧ va_K (dC, dI) classes [(cI, .int), (cJ, .long)] U)) (vp_Si (fun r => r = fKind prod kind had M O 1)) 0 0 (fun _ => False) := by
  refine Met.ofW (cc := b_Cubes_on) (maxL := 2) (ret := some .int) (by decide) rfl ?_
  intro p e s m args below meth c s₁ B hml hv
  obtain ⟨rfl, hP, hK⟩ := hv
  have hx := B.exec
  have hb := B.bytes
  have hr := B.returns
  have hts : ∀ w ∈ lwg, w.before _ s = true := fun w h => atoms_spec (ws := ct y_Cubes_on b_Cubes_on 2 (some .int)) B.pre w (List.mem_cons_of_mem _ h)
  have hown : s.vm.findClass R_Cubes = some m.cls := findClass_of_methodNamed B.named
  have hlocks := B.notSynchronized
  have hl := lv_entry ([.ref b0, .int ((nI O))]) (n := 2) (Nat.le_of_ble_eq_true rfl)
  rw [lg_entry_eq]
  generalize (lg_sl ([.ref b0, .int ((nI O))]) ++ List.replicate (2 - (lg_sl ([.ref b0, .int ((nI O))])).length) Slot.unset).toArray = ls at hl ⊢
  have hl : lv_has ls 2 [(0, .ref b0), (1, .int ((nI O)))] := hl
  refine lv_aload_n hx hb d_Cubes_on_0 rfl (lv_at hl 0 rfl) ?_
  refine lv_iload_n hx hb d_Cubes_on_1 rfl (lv_at hl 1 rfl) ?_
  refine lv_iconst (v := 1) hx hb d_Cubes_on_2 (by decide) ?_
  refine vp_callSi (W.runV (As := [.int ((nI O)), .int 1]) (rest := []) ⟨hx, hb, hml, hown, hts⟩ (c_Cubes_hadByKind l dC dI cI cJ b0 b1 b2 M o prod kind a0 a1 a2 a3 n sz care bits had O 1 hM hO hpr) (cwV 2 hts (ct_goodV mw_ml_Cubes_47 mw_im_Cubes_hadByKind mw_se_Cubes_hadByKind mw_ini_Cubes mw_code_Cubes_hadByKind) rfl rfl rfl (by decide +kernel) ⟨Nat.le_of_ble_eq_true rfl, Nat.le_of_ble_eq_true rfl⟩) ⟨fun a U g mk q => by obtain ⟨q0, qP, qK⟩ := q; exact ⟨q0, qP, va_K.moved (u := U) (U := U.calling g mk a) (Vm.Alike.refl U.vm) qK⟩, va_recv hK hP (ci := 1) (q0 := 0) rfl rfl, fun U hU hW => ⟨rfl, by rw [hU]; exact hP, va_K.moved hW.alike hK⟩⟩ rfl rfl hl.1 rfl (lv_room (Nat.le_of_ble_eq_true rfl)) d_Cubes_on_3 ⟨Nat.le_of_ble_eq_true rfl, Nat.le_of_ble_eq_true rfl⟩) (fun r_1 hr_1 => ?_)
  rw [hr_1]
  clear hr_1
  exact W.iret (v := (fKind prod kind had M O 1)) hx hb hr (fun t ht hW => ⟨_, rfl, rfl, ht⟩) (fun q h => by cases h) d_Cubes_on_6
set_option maxHeartbeats 4000000 in
set_option maxRecDepth 100000 in
theorem c_Cubes_notOff (l : Launch) (dC : Nat → ClassId) (dI : Nat → Nat → Nat) (cI cJ : ClassId) (b0 : Nat) (b1 : Nat) (b2 : Nat) (M : Nat) (o : Int32) (prod : Nat → Int32) (kind : Nat → Int32) (a0 : Nat) (a1 : Nat) (a2 : Nat) (a3 : Nat) (n : Int32) (sz : Int32) (care : Nat → Int32) (bits : Nat → Int32) (had : Nat → Int32) (O : Nat) (hM : M ≤ 24) (hO : O < 2) (hpr : ∀ c, c < M → vp_in (prod c) 81) : Met l y_Cubes_notOff (ct y_Cubes_notOff b_Cubes_notOff 2 (some .int)) ({ frames := 2, cells := 0, slots := 0, locals := 45 }) (va_Pc [.ref b0, .int ((nI O))] (fun U => va_P (dC, dI) classes (wC cI b0 b1 b2 a0 M o prod kind ++ wP cI a0 a1 a2 a3 n sz care bits had) U.heap ∧ va_K (dC, dI) classes [(cI, .int), (cJ, .long)] U)) (vp_Si (fun r => r = fKind prod kind had M O 1 ||| fKind prod kind had M O 2)) 0 0 (fun _ => False) := by
  refine Met.ofW (cc := b_Cubes_notOff) (maxL := 2) (ret := some .int) (by decide) rfl ?_
  intro p e s m args below meth c s₁ B hml hv
  obtain ⟨rfl, hP, hK⟩ := hv
  have hx := B.exec
  have hb := B.bytes
  have hr := B.returns
  have hts : ∀ w ∈ lwg, w.before _ s = true := fun w h => atoms_spec (ws := ct y_Cubes_notOff b_Cubes_notOff 2 (some .int)) B.pre w (List.mem_cons_of_mem _ h)
  have hown : s.vm.findClass R_Cubes = some m.cls := findClass_of_methodNamed B.named
  have hlocks := B.notSynchronized
  have hl := lv_entry ([.ref b0, .int ((nI O))]) (n := 2) (Nat.le_of_ble_eq_true rfl)
  rw [lg_entry_eq]
  generalize (lg_sl ([.ref b0, .int ((nI O))]) ++ List.replicate (2 - (lg_sl ([.ref b0, .int ((nI O))])).length) Slot.unset).toArray = ls at hl ⊢
  have hl : lv_has ls 2 [(0, .ref b0), (1, .int ((nI O)))] := hl
  refine lv_aload_n hx hb d_Cubes_notOff_0 rfl (lv_at hl 0 rfl) ?_
  refine lv_iload_n hx hb d_Cubes_notOff_1 rfl (lv_at hl 1 rfl) ?_
  refine lv_iconst (v := 1) hx hb d_Cubes_notOff_2 (by decide) ?_
  refine vp_callSi (W.runV (As := [.int ((nI O)), .int 1]) (rest := []) ⟨hx, hb, hml, hown, hts⟩ (c_Cubes_hadByKind l dC dI cI cJ b0 b1 b2 M o prod kind a0 a1 a2 a3 n sz care bits had O 1 hM hO hpr) (cwV 2 hts (ct_goodV mw_ml_Cubes_47 mw_im_Cubes_hadByKind mw_se_Cubes_hadByKind mw_ini_Cubes mw_code_Cubes_hadByKind) rfl rfl rfl (by decide +kernel) ⟨Nat.le_of_ble_eq_true rfl, Nat.le_of_ble_eq_true rfl⟩) ⟨fun a U g mk q => by obtain ⟨q0, qP, qK⟩ := q; exact ⟨q0, qP, va_K.moved (u := U) (U := U.calling g mk a) (Vm.Alike.refl U.vm) qK⟩, va_recv hK hP (ci := 1) (q0 := 0) rfl rfl, fun U hU hW => ⟨rfl, by rw [hU]; exact hP, va_K.moved hW.alike hK⟩⟩ rfl rfl hl.1 rfl (lv_room (Nat.le_of_ble_eq_true rfl)) d_Cubes_notOff_3 ⟨Nat.le_of_ble_eq_true rfl, Nat.le_of_ble_eq_true rfl⟩) (fun r_1 hr_1 => ?_)
  rw [hr_1]
  clear hr_1
  refine lv_aload_n hx hb d_Cubes_notOff_6 rfl (lv_at hl 0 rfl) ?_
  refine lv_iload_n hx hb d_Cubes_notOff_7 rfl (lv_at hl 1 rfl) ?_
  refine lv_iconst (v := 2) hx hb d_Cubes_notOff_8 (by decide) ?_
  refine vp_callSi (W.runV (As := [.int ((nI O)), .int 2]) (rest := [.int ((fKind prod kind had M O 1))]) ⟨hx, hb, hml, hown, hts⟩ (c_Cubes_hadByKind l dC dI cI cJ b0 b1 b2 M o prod kind a0 a1 a2 a3 n sz care bits had O 2 hM hO hpr) (cwV 2 hts (ct_goodV mw_ml_Cubes_47 mw_im_Cubes_hadByKind mw_se_Cubes_hadByKind mw_ini_Cubes mw_code_Cubes_hadByKind) rfl rfl rfl (by decide +kernel) ⟨Nat.le_of_ble_eq_true rfl, Nat.le_of_ble_eq_true rfl⟩) ⟨fun a U g mk q => by obtain ⟨q0, qP, qK⟩ := q; exact ⟨q0, qP, va_K.moved (u := U) (U := U.calling g mk a) (Vm.Alike.refl U.vm) qK⟩, va_recv hK hP (ci := 1) (q0 := 0) rfl rfl, fun U hU hW => ⟨rfl, by rw [hU]; exact hP, va_K.moved hW.alike hK⟩⟩ rfl rfl hl.1 rfl (lv_room (Nat.le_of_ble_eq_true rfl)) d_Cubes_notOff_9 ⟨Nat.le_of_ble_eq_true rfl, Nat.le_of_ble_eq_true rfl⟩) (fun r_2 hr_2 => ?_)
  rw [hr_2]
  clear hr_2
  refine lv_ior hx hb d_Cubes_notOff_12 ?_
  exact W.iret (v := ((fKind prod kind had M O 1) ||| (fKind prod kind had M O 2))) hx hb hr (fun t ht hW => ⟨_, rfl, rfl, ht⟩) (fun q h => by cases h) d_Cubes_notOff_13
set_option maxHeartbeats 4000000 in
set_option maxRecDepth 100000 in
theorem c_Cubes_isFull (l : Launch) (dC : Nat → ClassId) (dI : Nat → Nat → Nat) (cI cJ : ClassId) (b0 : Nat) (b1 : Nat) (b2 : Nat) (M : Nat) (o : Int32) (prod : Nat → Int32) (kind : Nat → Int32) (a0 : Nat) (hM : M ≤ 24) : Met l y_Cubes_isFull (ct y_Cubes_isFull b_Cubes_isFull 1 (some .boolean)) ({ frames := 0, cells := 0, slots := 0, locals := 0 }) (va_Pc [.ref b0] (fun U => va_P (dC, dI) classes (wC cI b0 b1 b2 a0 M o prod kind) U.heap ∧ va_K (dC, dI) classes [(cI, .int), (cJ, .long)] U)) (vp_Si (fun r => r = if M = 24 then 1 else 0)) 0 0 (fun _ => False) := by
  refine Met.ofW (cc := b_Cubes_isFull) (maxL := 1) (ret := some .boolean) (by decide) rfl ?_
  intro p e s m args below meth c s₁ B hml hv
  obtain ⟨rfl, hP, hK⟩ := hv
  have hx := B.exec
  have hb := B.bytes
  have hr := B.returns
  have hts : ∀ w ∈ lwg, w.before _ s = true := fun w h => atoms_spec (ws := ct y_Cubes_isFull b_Cubes_isFull 1 (some .boolean)) B.pre w (List.mem_cons_of_mem _ h)
  have hown : s.vm.findClass R_Cubes = some m.cls := findClass_of_methodNamed B.named
  have hlocks := B.notSynchronized
  have hl := lv_entry ([.ref b0]) (n := 1) (Nat.le_of_ble_eq_true rfl)
  rw [lg_entry_eq]
  generalize (lg_sl ([.ref b0]) ++ List.replicate (1 - (lg_sl ([.ref b0])).length) Slot.unset).toArray = ls at hl ⊢
  have hl : lv_has ls 1 [(0, .ref b0)] := hl
  refine lv_aload_n hx hb d_Cubes_isFull_0 rfl (lv_at hl 0 rfl) ?_
  refine va_get (D := (dC, dI)) (ci := 1) (v := .int ((nI M))) (C := R_Cubes) (T := F_Cubes) (N := 5) hx hb hts i_Cubes hown hK hP 0 rfl rfl 4 (by decide) (hts _ mw_fl_Cubes_26) (fun _ h9 => h9) rfl d_Cubes_isFull_1 ?_
  refine lv_bipush (v := 24) hx hb d_Cubes_isFull_4 (by decide) ?_
  refine lv_icmp_lt (tgt := 13) hx hb d_Cubes_isFull_6 (by decide) (fun c_6 => ?_) (fun c_6 => ?_)
  · refine lv_iconst (v := 0) hx hb d_Cubes_isFull_13 (by decide) ?_
    exact W.zret (v := 0) hx hb hr (by decide) (fun t ht hW => ⟨_, rfl, (by have h9 := (nI_ltI (a := M) (b := 24) (by omega) (by omega)); have h8 : nI 24 = 24 := rfl; rw [h8] at h9; by_cases hE : M = 24 <;> simp_all; try omega), ht⟩) (fun q h => by cases h) d_Cubes_isFull_14
  · refine lv_iconst (v := 1) hx hb d_Cubes_isFull_9 (by decide) ?_
    refine lv_goto (tgt := 14) hx hb d_Cubes_isFull_10 (by decide) ?_
    exact W.zret (v := 1) hx hb hr (by decide) (fun t ht hW => ⟨_, rfl, (by have h9 := (nI_ltI (a := M) (b := 24) (by omega) (by omega)); have h8 : nI 24 = 24 := rfl; rw [h8] at h9; by_cases hE : M = 24 <;> simp_all; try omega), ht⟩) (fun q h => by cases h) d_Cubes_isFull_14
set_option maxHeartbeats 4000000 in
set_option maxRecDepth 100000 in
theorem c_Cubes_holds (l : Launch) (dC : Nat → ClassId) (dI : Nat → Nat → Nat) (cI cJ : ClassId) (b0 : Nat) (b1 : Nat) (b2 : Nat) (M : Nat) (o : Int32) (prod : Nat → Int32) (kind : Nat → Int32) (a0 : Nat) (x : Int32) (hM : M ≤ 24) : Met l y_Cubes_holds (ct y_Cubes_holds b_Cubes_holds 2 (some .boolean)) ({ frames := 0, cells := 0, slots := 0, locals := 0 }) (va_Pc [.ref b0, .int x] (fun U => va_P (dC, dI) classes (wC cI b0 b1 b2 a0 M o prod kind) U.heap ∧ va_K (dC, dI) classes [(cI, .int), (cJ, .long)] U)) (vp_Si (fun r => r = if x < 0 ∨ nI M ≤ x then 0 else 1)) 0 0 (fun _ => False) := by
  refine Met.ofW (cc := b_Cubes_holds) (maxL := 2) (ret := some .boolean) (by decide) rfl ?_
  intro p e s m args below meth c s₁ B hml hv
  obtain ⟨rfl, hP, hK⟩ := hv
  have hx := B.exec
  have hb := B.bytes
  have hr := B.returns
  have hts : ∀ w ∈ lwg, w.before _ s = true := fun w h => atoms_spec (ws := ct y_Cubes_holds b_Cubes_holds 2 (some .boolean)) B.pre w (List.mem_cons_of_mem _ h)
  have hown : s.vm.findClass R_Cubes = some m.cls := findClass_of_methodNamed B.named
  have hlocks := B.notSynchronized
  have hl := lv_entry ([.ref b0, .int x]) (n := 2) (Nat.le_of_ble_eq_true rfl)
  rw [lg_entry_eq]
  generalize (lg_sl ([.ref b0, .int x]) ++ List.replicate (2 - (lg_sl ([.ref b0, .int x])).length) Slot.unset).toArray = ls at hl ⊢
  have hl : lv_has ls 2 [(0, .ref b0), (1, .int x)] := hl
  refine lv_iload_n hx hb d_Cubes_holds_0 rfl (lv_at hl 1 rfl) ?_
  refine lv_if_lt (tgt := 16) hx hb d_Cubes_holds_1 (by decide) (fun c_1 => ?_) (fun c_1 => ?_)
  · refine lv_iconst (v := 0) hx hb d_Cubes_holds_16 (by decide) ?_
    exact W.zret (v := 0) hx hb hr (by decide) (fun t ht hW => ⟨_, rfl, by simp_all, ht⟩) (fun q h => by cases h) d_Cubes_holds_17
  · refine lv_iload_n hx hb d_Cubes_holds_4 rfl (lv_at hl 1 rfl) ?_
    refine lv_aload_n hx hb d_Cubes_holds_5 rfl (lv_at hl 0 rfl) ?_
    refine va_get (D := (dC, dI)) (ci := 1) (v := .int ((nI M))) (C := R_Cubes) (T := F_Cubes) (N := 5) hx hb hts i_Cubes hown hK hP 0 rfl rfl 4 (by decide) (hts _ mw_fl_Cubes_26) (fun _ h9 => h9) rfl d_Cubes_holds_6 ?_
    refine lv_icmp_ge (tgt := 16) hx hb d_Cubes_holds_9 (by decide) (fun c_9 => ?_) (fun c_9 => ?_)
    · refine lv_iconst (v := 0) hx hb d_Cubes_holds_16 (by decide) ?_
      exact W.zret (v := 0) hx hb hr (by decide) (fun t ht hW => ⟨_, rfl, by simp_all, ht⟩) (fun q h => by cases h) d_Cubes_holds_17
    · refine lv_iconst (v := 1) hx hb d_Cubes_holds_12 (by decide) ?_
      refine lv_goto (tgt := 17) hx hb d_Cubes_holds_13 (by decide) ?_
      exact W.zret (v := 1) hx hb hr (by decide) (fun t ht hW => ⟨_, rfl, by simp_all, ht⟩) (fun q h => by cases h) d_Cubes_holds_17
