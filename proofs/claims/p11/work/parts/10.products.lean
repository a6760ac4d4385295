/-! ===== Products: the methods that only read ===== -/
abbrev wP (cI : ClassId) (a0 a1 a2 a3 : Nat) (n sz : Int32) (care bits had : Nat → Int32) : va_W := [(a0, .inr (5, [.int n, .int sz, .ref a1, .ref a2, .ref a3])), (a1, .inl (cI, 81, .inl care)), (a2, .inl (cI, 81, .inl bits)), (a3, .inl (cI, 81, .inl had))]
set_option maxHeartbeats 4000000 in
set_option maxRecDepth 100000 in
theorem c_Products_inputs (l : Launch) (dC : Nat → ClassId) (dI : Nat → Nat → Nat) (cI cJ : ClassId) (a0 a1 a2 a3 : Nat) (n sz : Int32) (care bits had : Nat → Int32) : Met l y_Products_inputs (ct y_Products_inputs b_Products_inputs 1 (some .int)) ({ frames := 0, cells := 0, slots := 0, locals := 0 }) (va_Pc [.ref a0] (fun U => va_P (dC, dI) classes (wP cI a0 a1 a2 a3 n sz care bits had) U.heap ∧ va_K (dC, dI) classes [(cI, .int), (cJ, .long)] U)) (vp_Si (fun r => r = n)) 0 0 (fun _ => False) := by
  refine Met.ofW (cc := b_Products_inputs) (maxL := 1) (ret := some .int) (by decide) rfl ?_
  intro p e s m args below meth c s₁ B hml hv
  obtain ⟨rfl, hP, hK⟩ := hv
  have hx := B.exec
  have hb := B.bytes
  have hr := B.returns
  have hts : ∀ w ∈ lwg, w.before _ s = true := fun w h => atoms_spec (ws := ct y_Products_inputs b_Products_inputs 1 (some .int)) B.pre w (List.mem_cons_of_mem _ h)
  have hown : s.vm.findClass R_Products = some m.cls := findClass_of_methodNamed B.named
  have hlocks := B.notSynchronized
  have hl := lv_entry ([.ref a0]) (n := 1) (Nat.le_of_ble_eq_true rfl)
  rw [lg_entry_eq]
  generalize (lg_sl ([.ref a0]) ++ List.replicate (1 - (lg_sl ([.ref a0])).length) Slot.unset).toArray = ls at hl ⊢
  have hl : lv_has ls 1 [(0, .ref a0)] := hl
  refine lv_aload_n hx hb d_Products_inputs_0 rfl (lv_at hl 0 rfl) ?_
  refine va_get (D := (dC, dI)) (ci := 5) (v := .int n) (C := R_Products) (T := F_Products) (N := 5) hx hb hts i_Products hown hK hP 0 rfl rfl 0 (by decide) (hts _ mw_fl_Products_21) (fun _ h9 => h9) rfl d_Products_inputs_1 ?_
  exact W.iret (v := n) hx hb hr (fun t ht hW => ⟨_, rfl, rfl, ht⟩) (fun q h => by cases h) d_Products_inputs_4
set_option maxHeartbeats 4000000 in
set_option maxRecDepth 100000 in
theorem c_Products_size (l : Launch) (dC : Nat → ClassId) (dI : Nat → Nat → Nat) (cI cJ : ClassId) (a0 a1 a2 a3 : Nat) (n sz : Int32) (care bits had : Nat → Int32) : Met l y_Products_size (ct y_Products_size b_Products_size 1 (some .int)) ({ frames := 0, cells := 0, slots := 0, locals := 0 }) (va_Pc [.ref a0] (fun U => va_P (dC, dI) classes (wP cI a0 a1 a2 a3 n sz care bits had) U.heap ∧ va_K (dC, dI) classes [(cI, .int), (cJ, .long)] U)) (vp_Si (fun r => r = sz)) 0 0 (fun _ => False) := by
  refine Met.ofW (cc := b_Products_size) (maxL := 1) (ret := some .int) (by decide) rfl ?_
  intro p e s m args below meth c s₁ B hml hv
  obtain ⟨rfl, hP, hK⟩ := hv
  have hx := B.exec
  have hb := B.bytes
  have hr := B.returns
  have hts : ∀ w ∈ lwg, w.before _ s = true := fun w h => atoms_spec (ws := ct y_Products_size b_Products_size 1 (some .int)) B.pre w (List.mem_cons_of_mem _ h)
  have hown : s.vm.findClass R_Products = some m.cls := findClass_of_methodNamed B.named
  have hlocks := B.notSynchronized
  have hl := lv_entry ([.ref a0]) (n := 1) (Nat.le_of_ble_eq_true rfl)
  rw [lg_entry_eq]
  generalize (lg_sl ([.ref a0]) ++ List.replicate (1 - (lg_sl ([.ref a0])).length) Slot.unset).toArray = ls at hl ⊢
  have hl : lv_has ls 1 [(0, .ref a0)] := hl
  refine lv_aload_n hx hb d_Products_size_0 rfl (lv_at hl 0 rfl) ?_
  refine va_get (D := (dC, dI)) (ci := 5) (v := .int sz) (C := R_Products) (T := F_Products) (N := 5) hx hb hts i_Products hown hK hP 0 rfl rfl 1 (by decide) (hts _ mw_fl_Products_31) (fun _ h9 => h9) rfl d_Products_size_1 ?_
  exact W.iret (v := sz) hx hb hr (fun t ht hW => ⟨_, rfl, rfl, ht⟩) (fun q h => by cases h) d_Products_size_4
set_option maxHeartbeats 4000000 in
set_option maxRecDepth 100000 in
theorem c_Products_allFree (l : Launch) (dC : Nat → ClassId) (dI : Nat → Nat → Nat) (cI cJ : ClassId) (a0 a1 a2 a3 : Nat) (n sz : Int32) (care bits had : Nat → Int32) : Met l y_Products_allFree (ct y_Products_allFree b_Products_allFree 1 (some .int)) ({ frames := 0, cells := 0, slots := 0, locals := 0 }) (va_Pc [.ref a0] (fun U => va_P (dC, dI) classes (wP cI a0 a1 a2 a3 n sz care bits had) U.heap ∧ va_K (dC, dI) classes [(cI, .int), (cJ, .long)] U)) (vp_Si (fun r => r = sz - 1)) 0 0 (fun _ => False) := by
  refine Met.ofW (cc := b_Products_allFree) (maxL := 1) (ret := some .int) (by decide) rfl ?_
  intro p e s m args below meth c s₁ B hml hv
  obtain ⟨rfl, hP, hK⟩ := hv
  have hx := B.exec
  have hb := B.bytes
  have hr := B.returns
  have hts : ∀ w ∈ lwg, w.before _ s = true := fun w h => atoms_spec (ws := ct y_Products_allFree b_Products_allFree 1 (some .int)) B.pre w (List.mem_cons_of_mem _ h)
  have hown : s.vm.findClass R_Products = some m.cls := findClass_of_methodNamed B.named
  have hlocks := B.notSynchronized
  have hl := lv_entry ([.ref a0]) (n := 1) (Nat.le_of_ble_eq_true rfl)
  rw [lg_entry_eq]
  generalize (lg_sl ([.ref a0]) ++ List.replicate (1 - (lg_sl ([.ref a0])).length) Slot.unset).toArray = ls at hl ⊢
  have hl : lv_has ls 1 [(0, .ref a0)] := hl
  refine lv_aload_n hx hb d_Products_allFree_0 rfl (lv_at hl 0 rfl) ?_
  refine va_get (D := (dC, dI)) (ci := 5) (v := .int sz) (C := R_Products) (T := F_Products) (N := 5) hx hb hts i_Products hown hK hP 0 rfl rfl 1 (by decide) (hts _ mw_fl_Products_31) (fun _ h9 => h9) rfl d_Products_allFree_1 ?_
  refine lv_iconst (v := 1) hx hb d_Products_allFree_4 (by decide) ?_
  refine lv_isub hx hb d_Products_allFree_5 ?_
  exact W.iret (v := (sz - 1)) hx hb hr (fun t ht hW => ⟨_, rfl, rfl, ht⟩) (fun q h => by cases h) d_Products_allFree_6
set_option maxHeartbeats 4000000 in
set_option maxRecDepth 100000 in
theorem c_Products_care (l : Launch) (dC : Nat → ClassId) (dI : Nat → Nat → Nat) (cI cJ : ClassId) (a0 a1 a2 a3 : Nat) (n sz : Int32) (care bits had : Nat → Int32) (p0 : Int32) (hp : vp_in p0 81) : Met l y_Products_care (ct y_Products_care b_Products_care 2 (some .int)) ({ frames := 0, cells := 0, slots := 0, locals := 0 }) (va_Pc [.ref a0, .int p0] (fun U => va_P (dC, dI) classes (wP cI a0 a1 a2 a3 n sz care bits had) U.heap ∧ va_K (dC, dI) classes [(cI, .int), (cJ, .long)] U)) (vp_Si (fun r => r = care p0.toNatClampNeg)) 0 0 (fun _ => False) := by
  refine Met.ofW (cc := b_Products_care) (maxL := 2) (ret := some .int) (by decide) rfl ?_
  intro p e s m args below meth c s₁ B hml hv
  obtain ⟨rfl, hP, hK⟩ := hv
  have hx := B.exec
  have hb := B.bytes
  have hr := B.returns
  have hts : ∀ w ∈ lwg, w.before _ s = true := fun w h => atoms_spec (ws := ct y_Products_care b_Products_care 2 (some .int)) B.pre w (List.mem_cons_of_mem _ h)
  have hown : s.vm.findClass R_Products = some m.cls := findClass_of_methodNamed B.named
  have hlocks := B.notSynchronized
  have hl := lv_entry ([.ref a0, .int p0]) (n := 2) (Nat.le_of_ble_eq_true rfl)
  rw [lg_entry_eq]
  generalize (lg_sl ([.ref a0, .int p0]) ++ List.replicate (2 - (lg_sl ([.ref a0, .int p0])).length) Slot.unset).toArray = ls at hl ⊢
  have hl : lv_has ls 2 [(0, .ref a0), (1, .int p0)] := hl
  refine lv_aload_n hx hb d_Products_care_0 rfl (lv_at hl 0 rfl) ?_
  refine va_get (D := (dC, dI)) (ci := 5) (v := .ref a1) (C := R_Products) (T := F_Products) (N := 5) hx hb hts i_Products hown hK hP 0 rfl rfl 2 (by decide) (hts _ mw_fl_Products_9) (fun _ h9 => h9) rfl d_Products_care_1 ?_
  refine lv_iload_n hx hb d_Products_care_4 rfl (lv_at hl 1 rfl) ?_
  refine va_iald hx hb hK hP 1 0 rfl rfl hp d_Products_care_5 ?_
  exact W.iret (v := (care p0.toNatClampNeg)) hx hb hr (fun t ht hW => ⟨_, rfl, rfl, ht⟩) (fun q h => by cases h) d_Products_care_6
set_option maxHeartbeats 4000000 in
set_option maxRecDepth 100000 in
theorem c_Products_bits (l : Launch) (dC : Nat → ClassId) (dI : Nat → Nat → Nat) (cI cJ : ClassId) (a0 a1 a2 a3 : Nat) (n sz : Int32) (care bits had : Nat → Int32) (p0 : Int32) (hp : vp_in p0 81) : Met l y_Products_bits (ct y_Products_bits b_Products_bits 2 (some .int)) ({ frames := 0, cells := 0, slots := 0, locals := 0 }) (va_Pc [.ref a0, .int p0] (fun U => va_P (dC, dI) classes (wP cI a0 a1 a2 a3 n sz care bits had) U.heap ∧ va_K (dC, dI) classes [(cI, .int), (cJ, .long)] U)) (vp_Si (fun r => r = bits p0.toNatClampNeg)) 0 0 (fun _ => False) := by
  refine Met.ofW (cc := b_Products_bits) (maxL := 2) (ret := some .int) (by decide) rfl ?_
  intro p e s m args below meth c s₁ B hml hv
  obtain ⟨rfl, hP, hK⟩ := hv
  have hx := B.exec
  have hb := B.bytes
  have hr := B.returns
  have hts : ∀ w ∈ lwg, w.before _ s = true := fun w h => atoms_spec (ws := ct y_Products_bits b_Products_bits 2 (some .int)) B.pre w (List.mem_cons_of_mem _ h)
  have hown : s.vm.findClass R_Products = some m.cls := findClass_of_methodNamed B.named
  have hlocks := B.notSynchronized
  have hl := lv_entry ([.ref a0, .int p0]) (n := 2) (Nat.le_of_ble_eq_true rfl)
  rw [lg_entry_eq]
  generalize (lg_sl ([.ref a0, .int p0]) ++ List.replicate (2 - (lg_sl ([.ref a0, .int p0])).length) Slot.unset).toArray = ls at hl ⊢
  have hl : lv_has ls 2 [(0, .ref a0), (1, .int p0)] := hl
  refine lv_aload_n hx hb d_Products_bits_0 rfl (lv_at hl 0 rfl) ?_
  refine va_get (D := (dC, dI)) (ci := 5) (v := .ref a2) (C := R_Products) (T := F_Products) (N := 5) hx hb hts i_Products hown hK hP 0 rfl rfl 3 (by decide) (hts _ mw_fl_Products_15) (fun _ h9 => h9) rfl d_Products_bits_1 ?_
  refine lv_iload_n hx hb d_Products_bits_4 rfl (lv_at hl 1 rfl) ?_
  refine va_iald hx hb hK hP 2 0 rfl rfl hp d_Products_bits_5 ?_
  exact W.iret (v := (bits p0.toNatClampNeg)) hx hb hr (fun t ht hW => ⟨_, rfl, rfl, ht⟩) (fun q h => by cases h) d_Products_bits_6
set_option maxHeartbeats 4000000 in
set_option maxRecDepth 100000 in
theorem c_Products_had (l : Launch) (dC : Nat → ClassId) (dI : Nat → Nat → Nat) (cI cJ : ClassId) (a0 a1 a2 a3 : Nat) (n sz : Int32) (care bits had : Nat → Int32) (p0 : Int32) (hp : vp_in p0 81) : Met l y_Products_had (ct y_Products_had b_Products_had 2 (some .int)) ({ frames := 0, cells := 0, slots := 0, locals := 0 }) (va_Pc [.ref a0, .int p0] (fun U => va_P (dC, dI) classes (wP cI a0 a1 a2 a3 n sz care bits had) U.heap ∧ va_K (dC, dI) classes [(cI, .int), (cJ, .long)] U)) (vp_Si (fun r => r = had p0.toNatClampNeg)) 0 0 (fun _ => False) := by
  refine Met.ofW (cc := b_Products_had) (maxL := 2) (ret := some .int) (by decide) rfl ?_
  intro p e s m args below meth c s₁ B hml hv
  obtain ⟨rfl, hP, hK⟩ := hv
  have hx := B.exec
  have hb := B.bytes
  have hr := B.returns
  have hts : ∀ w ∈ lwg, w.before _ s = true := fun w h => atoms_spec (ws := ct y_Products_had b_Products_had 2 (some .int)) B.pre w (List.mem_cons_of_mem _ h)
  have hown : s.vm.findClass R_Products = some m.cls := findClass_of_methodNamed B.named
  have hlocks := B.notSynchronized
  have hl := lv_entry ([.ref a0, .int p0]) (n := 2) (Nat.le_of_ble_eq_true rfl)
  rw [lg_entry_eq]
  generalize (lg_sl ([.ref a0, .int p0]) ++ List.replicate (2 - (lg_sl ([.ref a0, .int p0])).length) Slot.unset).toArray = ls at hl ⊢
  have hl : lv_has ls 2 [(0, .ref a0), (1, .int p0)] := hl
  refine lv_aload_n hx hb d_Products_had_0 rfl (lv_at hl 0 rfl) ?_
  refine va_get (D := (dC, dI)) (ci := 5) (v := .ref a3) (C := R_Products) (T := F_Products) (N := 5) hx hb hts i_Products hown hK hP 0 rfl rfl 4 (by decide) (hts _ mw_fl_Products_18) (fun _ h9 => h9) rfl d_Products_had_1 ?_
  refine lv_iload_n hx hb d_Products_had_4 rfl (lv_at hl 1 rfl) ?_
  refine va_iald hx hb hK hP 3 0 rfl rfl hp d_Products_had_5 ?_
  exact W.iret (v := (had p0.toNatClampNeg)) hx hb hr (fun t ht hW => ⟨_, rfl, rfl, ht⟩) (fun q h => by cases h) d_Products_had_6
/-- digit i of a product that has these inputs and these ones -/
def fDig (care bits i : Int32) : Int32 := if (care >>> (i &&& 31)) &&& 1 = 0 then 2 else (bits >>> (i &&& 31)) &&& 1
set_option maxHeartbeats 4000000 in
set_option maxRecDepth 100000 in
theorem c_Products_digit (l : Launch) (dC : Nat → ClassId) (dI : Nat → Nat → Nat) (cI cJ : ClassId) (a0 a1 a2 a3 : Nat) (n sz : Int32) (care bits had : Nat → Int32) (p0 i0 : Int32) (hp : vp_in p0 81) : Met l y_Products_digit (ct y_Products_digit b_Products_digit 3 (some .int)) ({ frames := 0, cells := 0, slots := 0, locals := 0 }) (va_Pc [.ref a0, .int p0, .int i0] (fun U => va_P (dC, dI) classes (wP cI a0 a1 a2 a3 n sz care bits had) U.heap ∧ va_K (dC, dI) classes [(cI, .int), (cJ, .long)] U)) (vp_Si (fun r => r = fDig (care p0.toNatClampNeg) (bits p0.toNatClampNeg) i0)) 0 0 (fun _ => False) := by
  refine Met.ofW (cc := b_Products_digit) (maxL := 3) (ret := some .int) (by decide) rfl ?_
  intro p e s m args below meth c s₁ B hml hv
  obtain ⟨rfl, hP, hK⟩ := hv
  have hx := B.exec
  have hb := B.bytes
  have hr := B.returns
  have hts : ∀ w ∈ lwg, w.before _ s = true := fun w h => atoms_spec (ws := ct y_Products_digit b_Products_digit 3 (some .int)) B.pre w (List.mem_cons_of_mem _ h)
  have hown : s.vm.findClass R_Products = some m.cls := findClass_of_methodNamed B.named
  have hlocks := B.notSynchronized
  have hl := lv_entry ([.ref a0, .int p0, .int i0]) (n := 3) (Nat.le_of_ble_eq_true rfl)
  rw [lg_entry_eq]
  generalize (lg_sl ([.ref a0, .int p0, .int i0]) ++ List.replicate (3 - (lg_sl ([.ref a0, .int p0, .int i0])).length) Slot.unset).toArray = ls at hl ⊢
  have hl : lv_has ls 3 [(0, .ref a0), (1, .int p0), (2, .int i0)] := hl
  refine lv_aload_n hx hb d_Products_digit_0 rfl (lv_at hl 0 rfl) ?_
  refine va_get (D := (dC, dI)) (ci := 5) (v := .ref a1) (C := R_Products) (T := F_Products) (N := 5) hx hb hts i_Products hown hK hP 0 rfl rfl 2 (by decide) (hts _ mw_fl_Products_9) (fun _ h9 => h9) rfl d_Products_digit_1 ?_
  refine lv_iload_n hx hb d_Products_digit_4 rfl (lv_at hl 1 rfl) ?_
  refine va_iald hx hb hK hP 1 0 rfl rfl hp d_Products_digit_5 ?_
  refine lv_iload_n hx hb d_Products_digit_6 rfl (lv_at hl 2 rfl) ?_
  refine lv_ishr hx hb d_Products_digit_7 ?_
  refine lv_iconst (v := 1) hx hb d_Products_digit_8 (by decide) ?_
  refine lv_iand hx hb d_Products_digit_9 ?_
  refine lv_if_ne (tgt := 17) hx hb d_Products_digit_10 (by decide) (fun c_10 => ?_) (fun c_10 => ?_)
  · refine lv_aload_n hx hb d_Products_digit_17 rfl (lv_at hl 0 rfl) ?_
    refine va_get (D := (dC, dI)) (ci := 5) (v := .ref a2) (C := R_Products) (T := F_Products) (N := 5) hx hb hts i_Products hown hK hP 0 rfl rfl 3 (by decide) (hts _ mw_fl_Products_15) (fun _ h9 => h9) rfl d_Products_digit_18 ?_
    refine lv_iload_n hx hb d_Products_digit_21 rfl (lv_at hl 1 rfl) ?_
    refine va_iald hx hb hK hP 2 0 rfl rfl hp d_Products_digit_22 ?_
    refine lv_iload_n hx hb d_Products_digit_23 rfl (lv_at hl 2 rfl) ?_
    refine lv_ishr hx hb d_Products_digit_24 ?_
    refine lv_iconst (v := 1) hx hb d_Products_digit_25 (by decide) ?_
    refine lv_iand hx hb d_Products_digit_26 ?_
    exact W.iret (v := (((bits p0.toNatClampNeg) >>> (i0 &&& 31)) &&& 1)) hx hb hr (fun t ht hW => ⟨_, rfl, by simp [fDig, c_10], ht⟩) (fun q h => by cases h) d_Products_digit_27
  · refine lv_iconst (v := 2) hx hb d_Products_digit_13 (by decide) ?_
    refine lv_goto (tgt := 27) hx hb d_Products_digit_14 (by decide) ?_
    exact W.iret (v := 2) hx hb hr (fun t ht hW => ⟨_, rfl, by simp [fDig, c_10], ht⟩) (fun q h => by cases h) d_Products_digit_27
