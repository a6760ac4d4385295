/-! ===== Cubes.add, Terms.takeFrom ===== -/
/-- the first j kinds of a new cube are NOTHING -/
def fNone (kind : Nat → Int32) (M j : Nat) : Nat → Int32 := itr (fun o f => upd f (M * 2 + o) 0) j kind
set_option maxHeartbeats 4000000 in
set_option maxRecDepth 100000 in
theorem lp_Cubes_add {p : Program} {e : Env} {s : State} {m : MethodId} {args : Array Value} {below : List Frame} {meth : Method} {c : Code} (l : Launch) (dC : Nat → ClassId) (dI : Nat → Nat → Nat) (cI cJ : ClassId) (b0 : Nat) (b1 : Nat) (b2 : Nat) (M : Nat) (OU : Nat) (prod : Nat → Int32) (kind : Nat → Int32) (a0 : Nat) (a1 : Nat) (a2 : Nat) (a3 : Nat) (n : Int32) (sz : Int32) (care : Nat → Int32) (bits : Nat → Int32) (had : Nat → Int32) (hM : M < 24) (hOU : OU ≤ 2) (hx : p.tables.exec = Jvm.exec) (hb : c.code = b_Cubes_add) (hr : meth.sig.returnType = some .int) (hts : ∀ w ∈ lwg, w.before args s = true) (hown : s.vm.findClass R_Cubes = some m.cls) (hlocks : meth.locks = false) (hml : c.maxLocals = 2) (hK : va_K (dC, dI) classes [(cI, .int), (cJ, .long)] s) {A : Nat → Prop} (hA : ∀ q : Nat, s.heap.size ≤ q → A q) : ∀ (k i : Nat), OU - i < k → i ≤ OU → ∀ (H : Heap) (locs : List Loc) (ls : Array Slot), va_P (dC, dI) classes [(b0, .inr (1, [.ref a0, .int ((nI OU)), .ref b1, .ref b2, .int ((nI M))])), (b1, .inl (cI, 24, .inl ((upd prod M (sz - 1))))), (b2, .inl (cI, 48, .inl ((fNone kind M i)))), (a0, .inr (5, [.int n, .int sz, .ref a1, .ref a2, .ref a3])), (a1, .inl (cI, 81, .inl care)), (a2, .inl (cI, 81, .inl bits)), (a3, .inl (cI, 81, .inl had))] H → va_D A [(b0, .inr (1, [.ref a0, .int ((nI OU)), .ref b1, .ref b2, .int ((nI M))])), (b1, .inl (cI, 24, .inl ((upd prod M (sz - 1))))), (b2, .inl (cI, 48, .inl ((fNone kind M i)))), (a0, .inr (5, [.int n, .int sz, .ref a1, .ref a2, .ref a3])), (a1, .inl (cI, 81, .inl care)), (a2, .inl (cI, 81, .inl bits)), (a3, .inl (cI, 81, .inl had))] → va_S A s.heap H locs → lv_has ls 2 [(0, .ref b0), (1, .int ((nI i)))] → W p l e ({ frames := 1, cells := 0, slots := 0, locals := 20 } : Room) s m args below meth c H locs 0 0 (MQ below (va_Qi (fun (r : Int32) (_ : Unit) => r = nI M) (fun _ => at_w dC dI cI cJ A [(b0, .inr (1, [.ref a0, .int ((nI OU)), .ref b1, .ref b2, .int ((nI (M + 1)))])), (b1, .inl (cI, 24, .inl ((upd prod M (sz - 1))))), (b2, .inl (cI, 48, .inl ((fNone kind M OU)))), (a0, .inr (5, [.int n, .int sz, .ref a1, .ref a2, .ref a3])), (a1, .inl (cI, 81, .inl care)), (a2, .inl (cI, 81, .inl bits)), (a3, .inl (cI, 81, .inl had))]) A) args s 0 0 A) (F0 m 27 ls []) := by
  intro k
  induction k with
  | zero => intro i h; omega
  | succ k ih =>
    intro i hk hi H locs ls hP hD hS hl
    refine lv_iload_n hx hb d_Cubes_add_27 rfl (lv_at hl 1 rfl) ?_
    refine lv_aload_n hx hb d_Cubes_add_28 rfl (lv_at hl 0 rfl) ?_
    refine va_get (D := (dC, dI)) (ci := 1) (v := .int ((nI OU))) (C := R_Cubes) (T := F_Cubes) (N := 5) hx hb hts i_Cubes hown hK hP 0 rfl rfl 1 (by decide) (hts _ mw_fl_Cubes_22) (fun _ h9 => h9) rfl d_Cubes_add_29 ?_
    refine lv_icmp_ge (tgt := 55) hx hb d_Cubes_add_32 (by decide) (fun c_32 => ?_) (fun c_32 => ?_)
    · have hE : i = OU := Nat.le_antisymm hi ((nI_leI (by omega) (by omega)).mp c_32)
      refine lv_aload_n hx hb d_Cubes_add_55 rfl (lv_at hl 0 rfl) ?_
      refine lv_dup hx hb d_Cubes_add_56 rfl ?_
      refine va_get (D := (dC, dI)) (ci := 1) (v := .int ((nI M))) (C := R_Cubes) (T := F_Cubes) (N := 5) hx hb hts i_Cubes hown hK hP 0 rfl rfl 4 (by decide) (hts _ mw_fl_Cubes_26) (fun _ h9 => h9) rfl d_Cubes_add_57 ?_
      refine lv_iconst (v := 1) hx hb d_Cubes_add_60 (by decide) ?_
      refine lv_iadd hx hb d_Cubes_add_61 ?_
      refine w_ti (show _ = nI (M + 1) from nI_1 M) ?_
      refine va_put (D := (dC, dI)) (ci := 1) (v := .int ((nI (M + 1)))) (ty := .int) (C := R_Cubes) (T := F_Cubes) (N := 5) hx hb hts i_Cubes t_Cubes t_Cubes_ok n_Cubes hown hK hP hD hS 0 rfl rfl 4 (by decide) (hts _ mw_fl_Cubes_26) (fun _ h9 => h9) rfl (by decide +kernel) rfl rfl (Nat.le_of_ble_eq_true rfl) d_Cubes_add_62 (fun H locs hP hD hS => ?_)
      have hP : va_P (dC, dI) classes [(b0, .inr (1, [.ref a0, .int ((nI OU)), .ref b1, .ref b2, .int ((nI (M + 1)))])), (b1, .inl (cI, 24, .inl ((upd prod M (sz - 1))))), (b2, .inl (cI, 48, .inl ((fNone kind M i)))), (a0, .inr (5, [.int n, .int sz, .ref a1, .ref a2, .ref a3])), (a1, .inl (cI, 81, .inl care)), (a2, .inl (cI, 81, .inl bits)), (a3, .inl (cI, 81, .inl had))] H := hP
      have hD : va_D A [(b0, .inr (1, [.ref a0, .int ((nI OU)), .ref b1, .ref b2, .int ((nI (M + 1)))])), (b1, .inl (cI, 24, .inl ((upd prod M (sz - 1))))), (b2, .inl (cI, 48, .inl ((fNone kind M i)))), (a0, .inr (5, [.int n, .int sz, .ref a1, .ref a2, .ref a3])), (a1, .inl (cI, 81, .inl care)), (a2, .inl (cI, 81, .inl bits)), (a3, .inl (cI, 81, .inl had))] := hD
      refine lv_aload_n hx hb d_Cubes_add_65 rfl (lv_at hl 0 rfl) ?_
      refine va_get (D := (dC, dI)) (ci := 1) (v := .int ((nI (M + 1)))) (C := R_Cubes) (T := F_Cubes) (N := 5) hx hb hts i_Cubes hown hK hP 0 rfl rfl 4 (by decide) (hts _ mw_fl_Cubes_26) (fun _ h9 => h9) rfl d_Cubes_add_66 ?_
      refine lv_iconst (v := 1) hx hb d_Cubes_add_69 (by decide) ?_
      refine lv_isub hx hb d_Cubes_add_70 ?_
      refine w_ti (show _ = nI M from nI_pred M) ?_
      have hP9 := hP.sub (ws' := [(b0, .inr (1, [.ref a0, .int ((nI OU)), .ref b1, .ref b2, .int ((nI (M + 1)))])), (b1, .inl (cI, 24, .inl ((upd prod M (sz - 1))))), (b2, .inl (cI, 48, .inl ((fNone kind M OU)))), (a0, .inr (5, [.int n, .int sz, .ref a1, .ref a2, .ref a3])), (a1, .inl (cI, 81, .inl care)), (a2, .inl (cI, 81, .inl bits)), (a3, .inl (cI, 81, .inl had))]) [0, 1, 2, 3, 4, 5, 6] (by subst hE; rfl)
      have hD9 := hD.sub (ws' := [(b0, .inr (1, [.ref a0, .int ((nI OU)), .ref b1, .ref b2, .int ((nI (M + 1)))])), (b1, .inl (cI, 24, .inl ((upd prod M (sz - 1))))), (b2, .inl (cI, 48, .inl ((fNone kind M OU)))), (a0, .inr (5, [.int n, .int sz, .ref a1, .ref a2, .ref a3])), (a1, .inl (cI, 81, .inl care)), (a2, .inl (cI, 81, .inl bits)), (a3, .inl (cI, 81, .inl had))]) [0, 1, 2, 3, 4, 5, 6] (by decide) (by subst hE; rfl)
      exact W.iret (v := (nI M)) hx hb hr (fun t ht hW => ⟨⟨(nI M), (), rfl, by subst hE; rfl, by rw [ht]; exact hP9, va_K.moved hW.alike hK, hD9⟩, hS.F ht⟩) hS.2.2 d_Cubes_add_71
    · have hlt : i < OU := Nat.lt_of_not_le (fun h => c_32 ((nI_leI (by omega) (by omega)).mpr h))
      refine lv_aload_n hx hb d_Cubes_add_35 rfl (lv_at hl 0 rfl) ?_
      refine va_get (D := (dC, dI)) (ci := 1) (v := .ref b2) (C := R_Cubes) (T := F_Cubes) (N := 5) hx hb hts i_Cubes hown hK hP 0 rfl rfl 3 (by decide) (hts _ mw_fl_Cubes_15) (fun _ h9 => h9) rfl d_Cubes_add_36 ?_
      refine lv_aload_n hx hb d_Cubes_add_39 rfl (lv_at hl 0 rfl) ?_
      refine va_get (D := (dC, dI)) (ci := 1) (v := .int ((nI M))) (C := R_Cubes) (T := F_Cubes) (N := 5) hx hb hts i_Cubes hown hK hP 0 rfl rfl 4 (by decide) (hts _ mw_fl_Cubes_26) (fun _ h9 => h9) rfl d_Cubes_add_40 ?_
      refine lv_iconst (v := 2) hx hb d_Cubes_add_43 (by decide) ?_
      refine lv_imul hx hb d_Cubes_add_44 ?_
      refine lv_iload_n hx hb d_Cubes_add_45 rfl (lv_at hl 1 rfl) ?_
      refine lv_iadd hx hb d_Cubes_add_46 ?_
      refine w_ti (show _ = nI (M * 2 + i) from nI_m2 M i) ?_
      refine lv_iconst (v := 0) hx hb d_Cubes_add_47 (by decide) ?_
      refine va_iast hx hb hK hP hD hS 2 0 rfl rfl (vp_in_nI (show M * 2 + i < 48 by omega) (by omega)) d_Cubes_add_48 (fun H locs hP hD hS => ?_)
      have hP : va_P (dC, dI) classes [(b0, .inr (1, [.ref a0, .int ((nI OU)), .ref b1, .ref b2, .int ((nI M))])), (b1, .inl (cI, 24, .inl ((upd prod M (sz - 1))))), (b2, .inl (cI, 48, .inl ((upd ((fNone kind M i)) (nI (M * 2 + i)).toNatClampNeg 0)))), (a0, .inr (5, [.int n, .int sz, .ref a1, .ref a2, .ref a3])), (a1, .inl (cI, 81, .inl care)), (a2, .inl (cI, 81, .inl bits)), (a3, .inl (cI, 81, .inl had))] H := hP
      have hD : va_D A [(b0, .inr (1, [.ref a0, .int ((nI OU)), .ref b1, .ref b2, .int ((nI M))])), (b1, .inl (cI, 24, .inl ((upd prod M (sz - 1))))), (b2, .inl (cI, 48, .inl ((upd ((fNone kind M i)) (nI (M * 2 + i)).toNatClampNeg 0)))), (a0, .inr (5, [.int n, .int sz, .ref a1, .ref a2, .ref a3])), (a1, .inl (cI, 81, .inl care)), (a2, .inl (cI, 81, .inl bits)), (a3, .inl (cI, 81, .inl had))] := hD
      rw [show (nI (M * 2 + i)).toNatClampNeg = M * 2 + i from nI_clamp (by omega)] at hP hD
      refine lv_iinc (v := (nI (i + 1))) (lv' := [(1, .int ((nI (i + 1)))), (0, .ref b0)]) hx hb d_Cubes_add_49 hl (k := 1) rfl (show nI i + 1 = nI (i + 1) from nI_1 i) (by decide) rfl (fun ls hl => ?_)
      refine lv_goto (tgt := 27) hx hb d_Cubes_add_52 (by decide) ?_
      exact ih (i + 1) (by omega) (by omega) _ _ ls (hP.sub [0, 1, 2, 3, 4, 5, 6] rfl) (hD.sub [0, 1, 2, 3, 4, 5, 6] (by decide) rfl) hS (lv_sub hl [1, 0] rfl)
set_option maxHeartbeats 4000000 in
set_option maxRecDepth 100000 in
theorem c_Cubes_add (l : Launch) (dC : Nat → ClassId) (dI : Nat → Nat → Nat) (cI cJ : ClassId) (sz0 : Nat) (b0 : Nat) (b1 : Nat) (b2 : Nat) (M : Nat) (OU : Nat) (prod : Nat → Int32) (kind : Nat → Int32) (a0 : Nat) (a1 : Nat) (a2 : Nat) (a3 : Nat) (n : Int32) (sz : Int32) (care : Nat → Int32) (bits : Nat → Int32) (had : Nat → Int32) (hM : M < 24) (hOU : OU ≤ 2) : Met l y_Cubes_add (ct y_Cubes_add b_Cubes_add 2 (some .int)) ({ frames := 1, cells := 0, slots := 0, locals := 20 }) (va_Pc [.ref b0] (fun U => U.heap.size = sz0 ∧ va_P (dC, dI) classes [(b0, .inr (1, [.ref a0, .int ((nI OU)), .ref b1, .ref b2, .int ((nI M))])), (b1, .inl (cI, 24, .inl prod)), (b2, .inl (cI, 48, .inl kind)), (a0, .inr (5, [.int n, .int sz, .ref a1, .ref a2, .ref a3])), (a1, .inl (cI, 81, .inl care)), (a2, .inl (cI, 81, .inl bits)), (a3, .inl (cI, 81, .inl had))] U.heap ∧ va_K (dC, dI) classes [(cI, .int), (cJ, .long)] U ∧ va_D (fun _ => True) [(b0, .inr (1, [.ref a0, .int ((nI OU)), .ref b1, .ref b2, .int ((nI M))])), (b1, .inl (cI, 24, .inl prod)), (b2, .inl (cI, 48, .inl kind)), (a0, .inr (5, [.int n, .int sz, .ref a1, .ref a2, .ref a3])), (a1, .inl (cI, 81, .inl care)), (a2, .inl (cI, 81, .inl bits)), (a3, .inl (cI, 81, .inl had))])) (va_Qi (fun (r : Int32) (_ : Unit) => r = nI M) (fun _ => at_w dC dI cI cJ (va_A [(b0, .inr (1, [.ref a0, .int ((nI OU)), .ref b1, .ref b2, .int ((nI M))])), (b1, .inl (cI, 24, .inl prod)), (b2, .inl (cI, 48, .inl kind)), (a0, .inr (5, [.int n, .int sz, .ref a1, .ref a2, .ref a3])), (a1, .inl (cI, 81, .inl care)), (a2, .inl (cI, 81, .inl bits)), (a3, .inl (cI, 81, .inl had))] sz0) [(b0, .inr (1, [.ref a0, .int ((nI OU)), .ref b1, .ref b2, .int ((nI (M + 1)))])), (b1, .inl (cI, 24, .inl ((upd prod M (sz - 1))))), (b2, .inl (cI, 48, .inl ((fNone kind M OU)))), (a0, .inr (5, [.int n, .int sz, .ref a1, .ref a2, .ref a3])), (a1, .inl (cI, 81, .inl care)), (a2, .inl (cI, 81, .inl bits)), (a3, .inl (cI, 81, .inl had))]) (va_A [(b0, .inr (1, [.ref a0, .int ((nI OU)), .ref b1, .ref b2, .int ((nI M))])), (b1, .inl (cI, 24, .inl prod)), (b2, .inl (cI, 48, .inl kind)), (a0, .inr (5, [.int n, .int sz, .ref a1, .ref a2, .ref a3])), (a1, .inl (cI, 81, .inl care)), (a2, .inl (cI, 81, .inl bits)), (a3, .inl (cI, 81, .inl had))] sz0)) 0 0 (va_A [(b0, .inr (1, [.ref a0, .int ((nI OU)), .ref b1, .ref b2, .int ((nI M))])), (b1, .inl (cI, 24, .inl prod)), (b2, .inl (cI, 48, .inl kind)), (a0, .inr (5, [.int n, .int sz, .ref a1, .ref a2, .ref a3])), (a1, .inl (cI, 81, .inl care)), (a2, .inl (cI, 81, .inl bits)), (a3, .inl (cI, 81, .inl had))] sz0) := by
  refine Met.ofW (cc := b_Cubes_add) (maxL := 2) (ret := some .int) (by decide) rfl ?_
  intro p e s m args below meth c s₁ B hml hv
  obtain ⟨rfl, hsz, hP, hK, hD0⟩ := hv
  have hx := B.exec
  have hb := B.bytes
  have hr := B.returns
  have hts : ∀ w ∈ lwg, w.before _ s = true := fun w h => atoms_spec (ws := ct y_Cubes_add b_Cubes_add 2 (some .int)) B.pre w (List.mem_cons_of_mem _ h)
  have hown : s.vm.findClass R_Cubes = some m.cls := findClass_of_methodNamed B.named
  have hlocks := B.notSynchronized
  subst hsz
  have hD := hD0.self (sz := s.heap.size)
  generalize hAe : va_A [(b0, .inr (1, [.ref a0, .int ((nI OU)), .ref b1, .ref b2, .int ((nI M))])), (b1, .inl (cI, 24, .inl prod)), (b2, .inl (cI, 48, .inl kind)), (a0, .inr (5, [.int n, .int sz, .ref a1, .ref a2, .ref a3])), (a1, .inl (cI, 81, .inl care)), (a2, .inl (cI, 81, .inl bits)), (a3, .inl (cI, 81, .inl had))] s.heap.size = A at hD ⊢
  have hA : ∀ q : Nat, s.heap.size ≤ q → A q := fun q h => by rw [← hAe]; exact Or.inr h
  have hS : va_S A s.heap s.heap [] := va_S.rf
  have hl := lv_entry ([.ref b0]) (n := 2) (Nat.le_of_ble_eq_true rfl)
  rw [lg_entry_eq]
  generalize (lg_sl ([.ref b0]) ++ List.replicate (2 - (lg_sl ([.ref b0])).length) Slot.unset).toArray = ls at hl ⊢
  have hl : lv_has ls 2 [(0, .ref b0)] := hl
  have hP : va_P (dC, dI) classes [(b0, .inr (1, [.ref a0, .int ((nI OU)), .ref b1, .ref b2, .int ((nI M))])), (b1, .inl (cI, 24, .inl prod)), (b2, .inl (cI, 48, .inl kind)), (a0, .inr (5, [.int n, .int sz, .ref a1, .ref a2, .ref a3])), (a1, .inl (cI, 81, .inl care)), (a2, .inl (cI, 81, .inl bits)), (a3, .inl (cI, 81, .inl had))] s.heap := hP
  refine lv_aload_n hx hb d_Cubes_add_0 rfl (lv_at hl 0 rfl) ?_
  refine vp_callSi (W.runV (As := []) (rest := []) ⟨hx, hb, hml, hown, hts⟩ (c_Cubes_isFull l dC dI cI cJ b0 b1 b2 M (nI OU) prod kind a0 (by omega)) (cwV 0 hts (ct_goodV mw_ml_Cubes_29 mw_im_Cubes_isFull mw_se_Cubes_isFull mw_ini_Cubes mw_code_Cubes_isFull) rfl rfl rfl (by decide +kernel) ⟨Nat.le_of_ble_eq_true rfl, Nat.le_of_ble_eq_true rfl⟩) ⟨fun a U g mk q => by obtain ⟨q0, qP, qK⟩ := q; exact ⟨q0, qP, va_K.moved (u := U) (U := U.calling g mk a) (Vm.Alike.refl U.vm) qK⟩, va_recv hK hP (ci := 1) (q0 := 0) rfl rfl, fun U hU hW => ⟨rfl, by rw [hU]; exact (hP.sub (ws' := (wC cI b0 b1 b2 a0 M (nI OU) prod kind)) [0, 1, 2] rfl), va_K.moved hW.alike hK⟩⟩ rfl rfl hl.1 rfl (lv_room (Nat.le_of_ble_eq_true rfl)) d_Cubes_add_1 ⟨Nat.le_of_ble_eq_true rfl, Nat.le_of_ble_eq_true rfl⟩) (fun r_1 hr_1 => ?_)
  rw [hr_1]
  clear hr_1
  refine lv_if_eq (tgt := 9) hx hb d_Cubes_add_4 (by decide) (fun c_4 => ?_) (fun c_4 => ?_)
  · refine lv_aload_n hx hb d_Cubes_add_9 rfl (lv_at hl 0 rfl) ?_
    refine va_get (D := (dC, dI)) (ci := 1) (v := .ref b1) (C := R_Cubes) (T := F_Cubes) (N := 5) hx hb hts i_Cubes hown hK hP 0 rfl rfl 2 (by decide) (hts _ mw_fl_Cubes_9) (fun _ h9 => h9) rfl d_Cubes_add_10 ?_
    refine lv_aload_n hx hb d_Cubes_add_13 rfl (lv_at hl 0 rfl) ?_
    refine va_get (D := (dC, dI)) (ci := 1) (v := .int ((nI M))) (C := R_Cubes) (T := F_Cubes) (N := 5) hx hb hts i_Cubes hown hK hP 0 rfl rfl 4 (by decide) (hts _ mw_fl_Cubes_26) (fun _ h9 => h9) rfl d_Cubes_add_14 ?_
    refine lv_aload_n hx hb d_Cubes_add_17 rfl (lv_at hl 0 rfl) ?_
    refine va_get (D := (dC, dI)) (ci := 1) (v := .ref a0) (C := R_Cubes) (T := F_Cubes) (N := 5) hx hb hts i_Cubes hown hK hP 0 rfl rfl 0 (by decide) (hts _ mw_fl_Cubes_18) (fun _ h9 => h9) rfl d_Cubes_add_18 ?_
    refine vp_callSi (W.runV (As := []) (rest := [.int ((nI M)), .ref b1]) ⟨hx, hb, hml, hown, hts⟩ (c_Products_allFree l dC dI cI cJ a0 a1 a2 a3 n sz care bits had ) (cwV 0 hts (ct_goodV mw_ml_Cubes_33 mw_im_Products_allFree mw_se_Products_allFree mw_ini_Products mw_code_Products_allFree) rfl rfl rfl (by decide +kernel) ⟨Nat.le_of_ble_eq_true rfl, Nat.le_of_ble_eq_true rfl⟩) ⟨fun a U g mk q => by obtain ⟨q0, qP, qK⟩ := q; exact ⟨q0, qP, va_K.moved (u := U) (U := U.calling g mk a) (Vm.Alike.refl U.vm) qK⟩, va_recv hK hP (ci := 5) (q0 := 3) rfl rfl, fun U hU hW => ⟨rfl, by rw [hU]; exact (hP.sub (ws' := (wP cI a0 a1 a2 a3 n sz care bits had)) [3, 4, 5, 6] rfl), va_K.moved hW.alike hK⟩⟩ rfl rfl hl.1 rfl (lv_room (Nat.le_of_ble_eq_true rfl)) d_Cubes_add_21 ⟨Nat.le_of_ble_eq_true rfl, Nat.le_of_ble_eq_true rfl⟩) (fun r_2 hr_2 => ?_)
    rw [hr_2]
    clear hr_2
    refine va_iast hx hb hK hP hD hS 1 0 rfl rfl (vp_in_nI hM (by omega)) d_Cubes_add_24 (fun H locs hP hD hS => ?_)
    have hP : va_P (dC, dI) classes [(b0, .inr (1, [.ref a0, .int ((nI OU)), .ref b1, .ref b2, .int ((nI M))])), (b1, .inl (cI, 24, .inl ((upd prod (nI M).toNatClampNeg ((sz - 1)))))), (b2, .inl (cI, 48, .inl kind)), (a0, .inr (5, [.int n, .int sz, .ref a1, .ref a2, .ref a3])), (a1, .inl (cI, 81, .inl care)), (a2, .inl (cI, 81, .inl bits)), (a3, .inl (cI, 81, .inl had))] H := hP
    have hD : va_D A [(b0, .inr (1, [.ref a0, .int ((nI OU)), .ref b1, .ref b2, .int ((nI M))])), (b1, .inl (cI, 24, .inl ((upd prod (nI M).toNatClampNeg ((sz - 1)))))), (b2, .inl (cI, 48, .inl kind)), (a0, .inr (5, [.int n, .int sz, .ref a1, .ref a2, .ref a3])), (a1, .inl (cI, 81, .inl care)), (a2, .inl (cI, 81, .inl bits)), (a3, .inl (cI, 81, .inl had))] := hD
    rw [show (nI M).toNatClampNeg = M from nI_clamp (by omega)] at hP hD
    refine lv_iconst (v := 0) hx hb d_Cubes_add_25 (by decide) ?_
    refine lv_istore_n (lv' := [(1, .int 0), (0, .ref b0)]) hx hb d_Cubes_add_26 rfl hl (by decide) rfl (fun ls hl => ?_)
    exact lp_Cubes_add l dC dI cI cJ b0 b1 b2 M OU prod kind a0 a1 a2 a3 n sz care bits had hM hOU hx hb hr hts hown hlocks hml hK hA (OU + 1) 0 (by omega) (Nat.zero_le _) _ _ ls (hP.sub [0, 1, 2, 3, 4, 5, 6] rfl) (hD.sub [0, 1, 2, 3, 4, 5, 6] (by decide) rfl) hS (lv_sub hl [1, 0] rfl)
  · exact absurd (if_neg (show ¬ M = 24 by omega)) c_4
/-- takeFrom: how many, their products, their outputs, behind k of the other row -/
def stT (op oo tp to : Nat → Int32) (set : Int64) (k : Nat) : Nat × (Nat → Int32) × (Nat → Int32) := itr (fun k x => if lg_cmp ((set >>> ((nI k).toInt64 &&& 63)) &&& 1) 1 = 0 then (x.1 + 1, upd x.2.1 x.1 (op k), upd x.2.2 x.1 (oo k)) else x) k (0, tp, to)
theorem stT_le (op oo tp to : Nat → Int32) (set : Int64) (k : Nat) : (stT op oo tp to set k).1 ≤ k := by
  induction k with
  | zero => exact Nat.le_refl 0
  | succ k ih =>
    show (if _ then _ else _ : Nat × (Nat → Int32) × (Nat → Int32)).1 ≤ k + 1
    split
    · exact Nat.succ_le_succ ih
    · exact Nat.le_succ_of_le ih
set_option maxHeartbeats 4000000 in
set_option maxRecDepth 100000 in
theorem lp_Terms_takeFrom {p : Program} {e : Env} {s : State} {m : MethodId} {args : Array Value} {below : List Frame} {meth : Method} {c : Code} (l : Launch) (dC : Nat → ClassId) (dI : Nat → Nat → Nat) (cI cJ : ClassId) (t0 : Nat) (t1 : Nat) (t2 : Nat) (K : Nat) (tp : Nat → Int32) (to : Nat → Int32) (a0 : Nat) (u0 : Nat) (u1 : Nat) (u2 : Nat) (K2 : Nat) (op : Nat → Int32) (oo : Nat → Int32) (set : Int64) (hK2 : K2 ≤ 81) (hx : p.tables.exec = Jvm.exec) (hb : c.code = b_Terms_takeFrom) (hr : meth.sig.returnType = none) (hts : ∀ w ∈ lwg, w.before args s = true) (hown : s.vm.findClass R_Terms = some m.cls) (hlocks : meth.locks = false) (hml : c.maxLocals = 5) (hK : va_K (dC, dI) classes [(cI, .int), (cJ, .long)] s) {A : Nat → Prop} (hA : ∀ q : Nat, s.heap.size ≤ q → A q) : ∀ (k i : Nat), K2 - i < k → i ≤ K2 → ∀ (H : Heap) (locs : List Loc) (ls : Array Slot), va_P (dC, dI) classes [(t0, .inr (6, [.ref a0, .ref t1, .ref t2, .int ((nI (stT op oo tp to set i).1))])), (t1, .inl (cI, 81, .inl (((stT op oo tp to set i).2.1)))), (t2, .inl (cI, 81, .inl (((stT op oo tp to set i).2.2)))), (u0, .inr (6, [.ref a0, .ref u1, .ref u2, .int ((nI K2))])), (u1, .inl (cI, 81, .inl op)), (u2, .inl (cI, 81, .inl oo))] H → va_D A [(t0, .inr (6, [.ref a0, .ref t1, .ref t2, .int ((nI (stT op oo tp to set i).1))])), (t1, .inl (cI, 81, .inl (((stT op oo tp to set i).2.1)))), (t2, .inl (cI, 81, .inl (((stT op oo tp to set i).2.2)))), (u0, .inr (6, [.ref a0, .ref u1, .ref u2, .int ((nI K2))])), (u1, .inl (cI, 81, .inl op)), (u2, .inl (cI, 81, .inl oo))] → va_S A s.heap H locs → lv_has ls 5 [(0, .ref t0), (1, .ref u0), (2, .long set), (4, .int ((nI i)))] → W p l e ({ frames := 1, cells := 0, slots := 0, locals := 22 } : Room) s m args below meth c H locs 0 0 (MQ below (va_Qv (fun _ : Unit => True) (fun _ => at_w dC dI cI cJ A [(t0, .inr (6, [.ref a0, .ref t1, .ref t2, .int ((nI (stT op oo tp to set K2).1))])), (t1, .inl (cI, 81, .inl ((stT op oo tp to set K2).2.1))), (t2, .inl (cI, 81, .inl ((stT op oo tp to set K2).2.2))), (u0, .inr (6, [.ref a0, .ref u1, .ref u2, .int ((nI K2))])), (u1, .inl (cI, 81, .inl op)), (u2, .inl (cI, 81, .inl oo))]) A) args s 0 0 A) (F0 m 7 ls []) := by
  intro k
  induction k with
  | zero => intro i h; omega
  | succ k ih =>
    intro i hk hi H locs ls hP hD hS hl
    refine lv_iload hx hb d_Terms_takeFrom_7 (lv_at hl 3 rfl) ?_
    refine lv_aload_n hx hb d_Terms_takeFrom_9 rfl (lv_at hl 1 rfl) ?_
    refine va_get (D := (dC, dI)) (ci := 6) (v := .int ((nI K2))) (C := R_Terms) (T := F_Terms) (N := 4) hx hb hts i_Terms hown hK hP 3 rfl rfl 3 (by decide) (hts _ mw_fl_Terms_22) (fun _ h9 => h9) rfl d_Terms_takeFrom_10 ?_
    refine lv_icmp_ge (tgt := 51) hx hb d_Terms_takeFrom_13 (by decide) (fun c_13 => ?_) (fun c_13 => ?_)
    · have hE : i = K2 := Nat.le_antisymm hi ((nI_leI (by omega) (by omega)).mp c_13)
      have hP9 := hP.sub (ws' := [(t0, .inr (6, [.ref a0, .ref t1, .ref t2, .int ((nI (stT op oo tp to set K2).1))])), (t1, .inl (cI, 81, .inl ((stT op oo tp to set K2).2.1))), (t2, .inl (cI, 81, .inl ((stT op oo tp to set K2).2.2))), (u0, .inr (6, [.ref a0, .ref u1, .ref u2, .int ((nI K2))])), (u1, .inl (cI, 81, .inl op)), (u2, .inl (cI, 81, .inl oo))]) [0, 1, 2, 3, 4, 5] (by subst hE; rfl)
      have hD9 := hD.sub (ws' := [(t0, .inr (6, [.ref a0, .ref t1, .ref t2, .int ((nI (stT op oo tp to set K2).1))])), (t1, .inl (cI, 81, .inl ((stT op oo tp to set K2).2.1))), (t2, .inl (cI, 81, .inl ((stT op oo tp to set K2).2.2))), (u0, .inr (6, [.ref a0, .ref u1, .ref u2, .int ((nI K2))])), (u1, .inl (cI, 81, .inl op)), (u2, .inl (cI, 81, .inl oo))]) [0, 1, 2, 3, 4, 5] (by decide) (by subst hE; rfl)
      exact W.vret hx hb hr (fun t ht hW => ⟨⟨(), rfl, trivial, by rw [ht]; exact hP9, va_K.moved hW.alike hK, hD9⟩, hS.F ht⟩) hS.2.2 d_Terms_takeFrom_51
    · have hlt : i < K2 := Nat.lt_of_not_le (fun h => c_13 ((nI_leI (by omega) (by omega)).mpr h))
      refine lv_lload_n hx hb d_Terms_takeFrom_16 rfl (lv_at hl 2 rfl) ?_
      refine lv_iload hx hb d_Terms_takeFrom_17 (lv_at hl 3 rfl) ?_
      refine lv_lshr hx hb d_Terms_takeFrom_19 rfl ?_
      refine lv_lconst (v := 1) hx hb d_Terms_takeFrom_20 (by decide) ?_
      refine lv_land hx hb d_Terms_takeFrom_21 ?_
      refine lv_lconst (v := 1) hx hb d_Terms_takeFrom_22 (by decide) ?_
      refine W.lcmp hx hb d_Terms_takeFrom_23 ?_
      refine lv_if_ne (tgt := 45) hx hb d_Terms_takeFrom_24 (by decide) (fun c_24 => ?_) (fun c_24 => ?_)
      · refine lv_iinc (v := (nI (i + 1))) (lv' := [(4, .int ((nI (i + 1)))), (0, .ref t0), (1, .ref u0), (2, .long set)]) hx hb d_Terms_takeFrom_45 hl (k := 3) rfl (show nI i + 1 = nI (i + 1) from nI_1 i) (by decide) rfl (fun ls hl => ?_)
        refine lv_goto (tgt := 7) hx hb d_Terms_takeFrom_48 (by decide) ?_
        have hs : stT op oo tp to set (i + 1) = (stT op oo tp to set i) := if_neg c_24
        exact ih (i + 1) (by omega) (by omega) _ _ ls (by rw [hs]; exact hP.sub [0, 1, 2, 3, 4, 5] rfl) (by rw [hs]; exact hD.sub [0, 1, 2, 3, 4, 5] (by decide) rfl) hS (lv_sub hl [1, 2, 3, 0] rfl)
      · refine lv_aload_n hx hb d_Terms_takeFrom_27 rfl (lv_at hl 0 rfl) ?_
        refine lv_aload_n hx hb d_Terms_takeFrom_28 rfl (lv_at hl 1 rfl) ?_
        refine va_get (D := (dC, dI)) (ci := 6) (v := .ref u1) (C := R_Terms) (T := F_Terms) (N := 4) hx hb hts i_Terms hown hK hP 3 rfl rfl 1 (by decide) (hts _ mw_fl_Terms_9) (fun _ h9 => h9) rfl d_Terms_takeFrom_29 ?_
        refine lv_iload hx hb d_Terms_takeFrom_32 (lv_at hl 3 rfl) ?_
        refine va_iald hx hb hK hP 4 0 rfl rfl (vp_in_nI (show i < 81 by omega) (by omega)) d_Terms_takeFrom_34 ?_
        refine w_ti (show _ = op i from by rw [nI_clamp (by omega)]) ?_
        refine lv_aload_n hx hb d_Terms_takeFrom_35 rfl (lv_at hl 1 rfl) ?_
        refine va_get (D := (dC, dI)) (ci := 6) (v := .ref u2) (C := R_Terms) (T := F_Terms) (N := 4) hx hb hts i_Terms hown hK hP 3 rfl rfl 2 (by decide) (hts _ mw_fl_Terms_15) (fun _ h9 => h9) rfl d_Terms_takeFrom_36 ?_
        refine lv_iload hx hb d_Terms_takeFrom_39 (lv_at hl 3 rfl) ?_
        refine va_iald hx hb hK hP 5 0 rfl rfl (vp_in_nI (show i < 81 by omega) (by omega)) d_Terms_takeFrom_41 ?_
        refine w_ti (show _ = oo i from by rw [nI_clamp (by omega)]) ?_
        have hPc := hP.sub (ws' := [(t0, .inr (6, [.ref a0, .ref t1, .ref t2, .int ((nI (stT op oo tp to set i).1))])), (t1, .inl (cI, 81, .inl (((stT op oo tp to set i).2.1)))), (t2, .inl (cI, 81, .inl (((stT op oo tp to set i).2.2))))]) [0, 1, 2] rfl
        have hDc := hD.sub (ws' := [(t0, .inr (6, [.ref a0, .ref t1, .ref t2, .int ((nI (stT op oo tp to set i).1))])), (t1, .inl (cI, 81, .inl (((stT op oo tp to set i).2.1)))), (t2, .inl (cI, 81, .inl (((stT op oo tp to set i).2.2))))]) [0, 1, 2] (by decide) rfl
        have hFc := va_free (wc := [(t0, .inr (6, [.ref a0, .ref t1, .ref t2, .int ((nI (stT op oo tp to set i).1))])), (t1, .inl (cI, 81, .inl (((stT op oo tp to set i).2.1)))), (t2, .inl (cI, 81, .inl (((stT op oo tp to set i).2.2))))]) hD hS hA [0, 1, 2] rfl
        refine va_callv (va_runV (As := [.int ((op i)), .int ((oo i))]) (rest := []) ⟨hx, hb, hml, hown, hts⟩ (c_Terms_add l dC dI cI cJ _ t0 t1 t2 ((stT op oo tp to set i).1) ((stT op oo tp to set i).2.1) ((stT op oo tp to set i).2.2) a0 (op i) (oo i) (by have := stT_le op oo tp to set i; omega)) (cwV 2 hts (ct_goodV mw_ml_Terms_29 mw_im_Terms_add mw_se_Terms_add mw_ini_Terms mw_code_Terms_add) rfl rfl rfl (by decide +kernel) ⟨Nat.le_of_ble_eq_true rfl, Nat.le_of_ble_eq_true rfl⟩) ⟨fun a U g mk q => by obtain ⟨q0, q1, qP, qK, qD⟩ := q; exact ⟨q0, q1, qP, va_K.moved (u := U) (U := U.calling g mk a) (Vm.Alike.refl U.vm) qK, qD⟩, va_recv hK hPc (ci := 6) (q0 := 0) rfl rfl, fun U hU hW => ⟨rfl, by rw [hU], by rw [hU]; exact hPc, va_K.moved hW.alike hK, hDc.weaken (fun _ _ _ _ => trivial)⟩⟩ rfl rfl hl.1 rfl (lv_room (Nat.le_of_ble_eq_true rfl)) d_Terms_takeFrom_42 ⟨Nat.le_of_ble_eq_true rfl, Nat.le_of_ble_eq_true rfl⟩) hS (fun q _ h => hFc q h) hFc (fun u t H1 locs ht hvm hw hB hz1 hk1 hS => ?_)
        obtain ⟨hP1, hK1, hD1⟩ := hB
        rw [ht] at hP1
        obtain ⟨hP, hD⟩ := va_join (wr := [(u0, .inr (6, [.ref a0, .ref u1, .ref u2, .int ((nI K2))])), (u1, .inl (cI, 81, .inl op)), (u2, .inl (cI, 81, .inl oo))]) (w1 := [(t0, .inr (6, [.ref a0, .ref t1, .ref t2, .int ((nI (((stT op oo tp to set i).1) + 1)))])), (t1, .inl (cI, 81, .inl ((upd ((stT op oo tp to set i).2.1) ((stT op oo tp to set i).1) (op i))))), (t2, .inl (cI, 81, .inl ((upd ((stT op oo tp to set i).2.2) ((stT op oo tp to set i).1) (oo i)))))]) hP hD [0, 1, 2] [3, 4, 5] rfl rfl (by decide) (by decide) hk1 hFc hP1 hD1
        clear hPc hDc hFc hP1 hK1 hD1 hk1 hz1 hvm ht
        generalize H1 = H at hP hS ⊢
        have hP : va_P (dC, dI) classes [(u0, .inr (6, [.ref a0, .ref u1, .ref u2, .int ((nI K2))])), (u1, .inl (cI, 81, .inl op)), (u2, .inl (cI, 81, .inl oo)), (t0, .inr (6, [.ref a0, .ref t1, .ref t2, .int ((nI (((stT op oo tp to set i).1) + 1)))])), (t1, .inl (cI, 81, .inl ((upd ((stT op oo tp to set i).2.1) ((stT op oo tp to set i).1) (op i))))), (t2, .inl (cI, 81, .inl ((upd ((stT op oo tp to set i).2.2) ((stT op oo tp to set i).1) (oo i)))))] H := hP
        have hD : va_D A [(u0, .inr (6, [.ref a0, .ref u1, .ref u2, .int ((nI K2))])), (u1, .inl (cI, 81, .inl op)), (u2, .inl (cI, 81, .inl oo)), (t0, .inr (6, [.ref a0, .ref t1, .ref t2, .int ((nI (((stT op oo tp to set i).1) + 1)))])), (t1, .inl (cI, 81, .inl ((upd ((stT op oo tp to set i).2.1) ((stT op oo tp to set i).1) (op i))))), (t2, .inl (cI, 81, .inl ((upd ((stT op oo tp to set i).2.2) ((stT op oo tp to set i).1) (oo i)))))] := hD
        refine lv_iinc (v := (nI (i + 1))) (lv' := [(4, .int ((nI (i + 1)))), (0, .ref t0), (1, .ref u0), (2, .long set)]) hx hb d_Terms_takeFrom_45 hl (k := 3) rfl (show nI i + 1 = nI (i + 1) from nI_1 i) (by decide) rfl (fun ls hl => ?_)
        refine lv_goto (tgt := 7) hx hb d_Terms_takeFrom_48 (by decide) ?_
        have hs : stT op oo tp to set (i + 1) = ((stT op oo tp to set i).1 + 1, upd (stT op oo tp to set i).2.1 (stT op oo tp to set i).1 (op i), upd (stT op oo tp to set i).2.2 (stT op oo tp to set i).1 (oo i)) := if_pos c_24
        exact ih (i + 1) (by omega) (by omega) _ _ ls (by rw [hs]; exact hP.sub [3, 4, 5, 0, 1, 2] rfl) (by rw [hs]; exact hD.sub [3, 4, 5, 0, 1, 2] (by decide) rfl) hS (lv_sub hl [1, 2, 3, 0] rfl)
set_option maxHeartbeats 4000000 in
set_option maxRecDepth 100000 in
theorem c_Terms_takeFrom (l : Launch) (dC : Nat → ClassId) (dI : Nat → Nat → Nat) (cI cJ : ClassId) (sz0 : Nat) (t0 : Nat) (t1 : Nat) (t2 : Nat) (K : Nat) (tp : Nat → Int32) (to : Nat → Int32) (a0 : Nat) (u0 : Nat) (u1 : Nat) (u2 : Nat) (K2 : Nat) (op : Nat → Int32) (oo : Nat → Int32) (set : Int64) (hK2 : K2 ≤ 81) : Met l y_Terms_takeFrom (ct y_Terms_takeFrom b_Terms_takeFrom 5 (none)) ({ frames := 1, cells := 0, slots := 0, locals := 22 }) (va_Pc [.ref t0, .ref u0, .long set] (fun U => U.heap.size = sz0 ∧ va_P (dC, dI) classes [(t0, .inr (6, [.ref a0, .ref t1, .ref t2, .int ((nI K))])), (t1, .inl (cI, 81, .inl tp)), (t2, .inl (cI, 81, .inl to)), (u0, .inr (6, [.ref a0, .ref u1, .ref u2, .int ((nI K2))])), (u1, .inl (cI, 81, .inl op)), (u2, .inl (cI, 81, .inl oo))] U.heap ∧ va_K (dC, dI) classes [(cI, .int), (cJ, .long)] U ∧ va_D (fun _ => True) [(t0, .inr (6, [.ref a0, .ref t1, .ref t2, .int ((nI K))])), (t1, .inl (cI, 81, .inl tp)), (t2, .inl (cI, 81, .inl to)), (u0, .inr (6, [.ref a0, .ref u1, .ref u2, .int ((nI K2))])), (u1, .inl (cI, 81, .inl op)), (u2, .inl (cI, 81, .inl oo))])) (va_Qv (fun _ : Unit => True) (fun _ => at_w dC dI cI cJ (va_A [(t0, .inr (6, [.ref a0, .ref t1, .ref t2, .int ((nI K))])), (t1, .inl (cI, 81, .inl tp)), (t2, .inl (cI, 81, .inl to)), (u0, .inr (6, [.ref a0, .ref u1, .ref u2, .int ((nI K2))])), (u1, .inl (cI, 81, .inl op)), (u2, .inl (cI, 81, .inl oo))] sz0) [(t0, .inr (6, [.ref a0, .ref t1, .ref t2, .int ((nI (stT op oo tp to set K2).1))])), (t1, .inl (cI, 81, .inl ((stT op oo tp to set K2).2.1))), (t2, .inl (cI, 81, .inl ((stT op oo tp to set K2).2.2))), (u0, .inr (6, [.ref a0, .ref u1, .ref u2, .int ((nI K2))])), (u1, .inl (cI, 81, .inl op)), (u2, .inl (cI, 81, .inl oo))]) (va_A [(t0, .inr (6, [.ref a0, .ref t1, .ref t2, .int ((nI K))])), (t1, .inl (cI, 81, .inl tp)), (t2, .inl (cI, 81, .inl to)), (u0, .inr (6, [.ref a0, .ref u1, .ref u2, .int ((nI K2))])), (u1, .inl (cI, 81, .inl op)), (u2, .inl (cI, 81, .inl oo))] sz0)) 0 0 (va_A [(t0, .inr (6, [.ref a0, .ref t1, .ref t2, .int ((nI K))])), (t1, .inl (cI, 81, .inl tp)), (t2, .inl (cI, 81, .inl to)), (u0, .inr (6, [.ref a0, .ref u1, .ref u2, .int ((nI K2))])), (u1, .inl (cI, 81, .inl op)), (u2, .inl (cI, 81, .inl oo))] sz0) := by
  refine Met.ofW (cc := b_Terms_takeFrom) (maxL := 5) (ret := none) (by decide) rfl ?_
  intro p e s m args below meth c s₁ B hml hv
  obtain ⟨rfl, hsz, hP, hK, hD0⟩ := hv
  have hx := B.exec
  have hb := B.bytes
  have hr := B.returns
  have hts : ∀ w ∈ lwg, w.before _ s = true := fun w h => atoms_spec (ws := ct y_Terms_takeFrom b_Terms_takeFrom 5 (none)) B.pre w (List.mem_cons_of_mem _ h)
  have hown : s.vm.findClass R_Terms = some m.cls := findClass_of_methodNamed B.named
  have hlocks := B.notSynchronized
  subst hsz
  have hD := hD0.self (sz := s.heap.size)
  generalize hAe : va_A [(t0, .inr (6, [.ref a0, .ref t1, .ref t2, .int ((nI K))])), (t1, .inl (cI, 81, .inl tp)), (t2, .inl (cI, 81, .inl to)), (u0, .inr (6, [.ref a0, .ref u1, .ref u2, .int ((nI K2))])), (u1, .inl (cI, 81, .inl op)), (u2, .inl (cI, 81, .inl oo))] s.heap.size = A at hD ⊢
  have hA : ∀ q : Nat, s.heap.size ≤ q → A q := fun q h => by rw [← hAe]; exact Or.inr h
  have hS : va_S A s.heap s.heap [] := va_S.rf
  have hl := lv_entry ([.ref t0, .ref u0, .long set]) (n := 5) (Nat.le_of_ble_eq_true rfl)
  rw [lg_entry_eq]
  generalize (lg_sl ([.ref t0, .ref u0, .long set]) ++ List.replicate (5 - (lg_sl ([.ref t0, .ref u0, .long set])).length) Slot.unset).toArray = ls at hl ⊢
  have hl : lv_has ls 5 [(0, .ref t0), (1, .ref u0), (2, .long set)] := hl
  have hP : va_P (dC, dI) classes [(t0, .inr (6, [.ref a0, .ref t1, .ref t2, .int ((nI K))])), (t1, .inl (cI, 81, .inl tp)), (t2, .inl (cI, 81, .inl to)), (u0, .inr (6, [.ref a0, .ref u1, .ref u2, .int ((nI K2))])), (u1, .inl (cI, 81, .inl op)), (u2, .inl (cI, 81, .inl oo))] s.heap := hP
  refine lv_aload_n hx hb d_Terms_takeFrom_0 rfl (lv_at hl 0 rfl) ?_
  have hPc := hP.sub (ws' := [(t0, .inr (6, [.ref a0, .ref t1, .ref t2, .int ((nI K))])), (t1, .inl (cI, 81, .inl tp)), (t2, .inl (cI, 81, .inl to))]) [0, 1, 2] rfl
  have hDc := hD.sub (ws' := [(t0, .inr (6, [.ref a0, .ref t1, .ref t2, .int ((nI K))])), (t1, .inl (cI, 81, .inl tp)), (t2, .inl (cI, 81, .inl to))]) [0, 1, 2] (by decide) rfl
  have hFc := va_free (wc := [(t0, .inr (6, [.ref a0, .ref t1, .ref t2, .int ((nI K))])), (t1, .inl (cI, 81, .inl tp)), (t2, .inl (cI, 81, .inl to))]) hD hS hA [0, 1, 2] rfl
  refine va_callv (va_runV (As := []) (rest := []) ⟨hx, hb, hml, hown, hts⟩ (c_Terms_dropAll l dC dI cI cJ _ t0 t1 t2 K tp to a0 ) (cwV 0 hts (ct_goodV mw_ml_Terms_26 mw_im_Terms_dropAll mw_se_Terms_dropAll mw_ini_Terms mw_code_Terms_dropAll) rfl rfl rfl (by decide +kernel) ⟨Nat.le_of_ble_eq_true rfl, Nat.le_of_ble_eq_true rfl⟩) ⟨fun a U g mk q => by obtain ⟨q0, q1, qP, qK, qD⟩ := q; exact ⟨q0, q1, qP, va_K.moved (u := U) (U := U.calling g mk a) (Vm.Alike.refl U.vm) qK, qD⟩, va_recv hK hPc (ci := 6) (q0 := 0) rfl rfl, fun U hU hW => ⟨rfl, by rw [hU], by rw [hU]; exact hPc, va_K.moved hW.alike hK, hDc.weaken (fun _ _ _ _ => trivial)⟩⟩ rfl rfl hl.1 rfl (lv_room (Nat.le_of_ble_eq_true rfl)) d_Terms_takeFrom_1 ⟨Nat.le_of_ble_eq_true rfl, Nat.le_of_ble_eq_true rfl⟩) hS (fun q _ h => hFc q h) hFc (fun u t H1 locs ht hvm hw hB hz1 hk1 hS => ?_)
  obtain ⟨hP1, hK1, hD1⟩ := hB
  rw [ht] at hP1
  obtain ⟨hP, hD⟩ := va_join (wr := [(u0, .inr (6, [.ref a0, .ref u1, .ref u2, .int ((nI K2))])), (u1, .inl (cI, 81, .inl op)), (u2, .inl (cI, 81, .inl oo))]) (w1 := [(t0, .inr (6, [.ref a0, .ref t1, .ref t2, .int 0])), (t1, .inl (cI, 81, .inl tp)), (t2, .inl (cI, 81, .inl to))]) hP hD [0, 1, 2] [3, 4, 5] rfl rfl (by decide) (by decide) hk1 hFc hP1 hD1
  clear hPc hDc hFc hP1 hK1 hD1 hk1 hz1 hvm ht
  generalize H1 = H at hP hS ⊢
  have hP : va_P (dC, dI) classes [(u0, .inr (6, [.ref a0, .ref u1, .ref u2, .int ((nI K2))])), (u1, .inl (cI, 81, .inl op)), (u2, .inl (cI, 81, .inl oo)), (t0, .inr (6, [.ref a0, .ref t1, .ref t2, .int 0])), (t1, .inl (cI, 81, .inl tp)), (t2, .inl (cI, 81, .inl to))] H := hP
  have hD : va_D A [(u0, .inr (6, [.ref a0, .ref u1, .ref u2, .int ((nI K2))])), (u1, .inl (cI, 81, .inl op)), (u2, .inl (cI, 81, .inl oo)), (t0, .inr (6, [.ref a0, .ref t1, .ref t2, .int 0])), (t1, .inl (cI, 81, .inl tp)), (t2, .inl (cI, 81, .inl to))] := hD
  refine lv_iconst (v := 0) hx hb d_Terms_takeFrom_4 (by decide) ?_
  refine lv_istore (lv' := [(4, .int 0), (0, .ref t0), (1, .ref u0), (2, .long set)]) hx hb d_Terms_takeFrom_5 hl (by decide) rfl (fun ls hl => ?_)
  exact lp_Terms_takeFrom l dC dI cI cJ t0 t1 t2 K tp to a0 u0 u1 u2 K2 op oo set hK2 hx hb hr hts hown hlocks hml hK hA (K2 + 1) 0 (by omega) (Nat.zero_le _) _ _ ls (hP.sub [3, 4, 5, 0, 1, 2] rfl) (hD.sub [3, 4, 5, 0, 1, 2] (by decide) rfl) hS (lv_sub hl [1, 2, 3, 0] rfl)
