/-! ===== PrimeFinder ===== -/
/-- whether one of the first n says yes -/
def anyB (c : Nat → Bool) (n : Nat) : Bool := itr (fun i b => b || c i) n false
theorem anyB_s (c : Nat → Bool) (n : Nat) : anyB c (n + 1) = (anyB c n || c n) := rfl
theorem anyB_t {c : Nat → Bool} {n i : Nat} (h : i < n) (hc : c i = true) : anyB c n = true := by
  induction n with
  | zero => omega
  | succ n ih =>
    rw [anyB_s]
    by_cases hE : i = n
    · subst hE; rw [hc]; simp
    · rw [ih (by omega)]; rfl
/-- freeing digit i of product q makes a wider term with its outputs -/
def fWide (outs care bits : Nat → Int32) (N q i : Nat) : Bool := !decide (fDig (care q) (bits q) (nI i) = 2) && decide (outs q &&& (outs (fWith N (care q) (bits q) (nI i) 2).toNatClampNeg ^^^ (-1)) = 0)
theorem fWide_t {outs care bits : Nat → Int32} {N q i : Nat} (h1 : ¬ fDig (care q) (bits q) (nI i) = 2) (h2 : outs q &&& (outs (fWith N (care q) (bits q) (nI i) 2).toNatClampNeg ^^^ (-1)) = 0) : fWide outs care bits N q i = true := by
  unfold fWide; rw [decide_eq_false h1, decide_eq_true h2]; rfl
theorem fWide_f1 {outs care bits : Nat → Int32} {N q i : Nat} (h1 : fDig (care q) (bits q) (nI i) = 2) : fWide outs care bits N q i = false := by
  unfold fWide; rw [decide_eq_true h1]; rfl
theorem fWide_f2 {outs care bits : Nat → Int32} {N q i : Nat} (h2 : ¬ outs q &&& (outs (fWith N (care q) (bits q) (nI i) 2).toNatClampNeg ^^^ (-1)) = 0) : fWide outs care bits N q i = false := by
  unfold fWide; rw [decide_eq_false h2]; exact Bool.and_false _
def fOuts0 (outs : Nat → Int32) (j : Nat) : Nat → Int32 := itr (fun p f => upd f p 0) j outs
def fOutsI (had : Nat → Int32) (off : Int32) (o : Nat) (f : Nat → Int32) (j : Nat) : Nat → Int32 := itr (fun p f => if had p &&& off = 0 then upd f p (f p ||| (1 <<< (nI o &&& 31))) else f) j f
def fNot (prod kind had : Nat → Int32) (M o : Nat) : Int32 := fKind prod kind had M o 1 ||| fKind prod kind had M o 2
def fOuts (prod kind had : Nat → Int32) (M Z : Nat) (outs : Nat → Int32) (o : Nat) : Nat → Int32 := itr (fun o f => fOutsI had (fNot prod kind had M o ^^^ (-1)) o f Z) o (fOuts0 outs Z)
set_option maxHeartbeats 4000000 in
set_option maxRecDepth 100000 in
theorem lp_PrimeFinder_isWithinWider {p : Program} {e : Env} {s : State} {m : MethodId} {args : Array Value} {below : List Frame} {meth : Method} {c : Code} (l : Launch) (dC : Nat → ClassId) (dI : Nat → Nat → Nat) (cI cJ : ClassId) (f0 : Nat) (f1 : Nat) (outs : Nat → Int32) (ou : Int32) (a0 : Nat) (a1 : Nat) (a2 : Nat) (a3 : Nat) (N : Nat) (Z : Nat) (care : Nat → Int32) (bits : Nat → Int32) (had : Nat → Int32) (q : Nat) (hN : N ≤ 4) (hq : q < 81) (hW : ∀ i, i < N → vp_in (fWith N (care q) (bits q) (nI i) 2) 81) (hx : p.tables.exec = Jvm.exec) (hb : c.code = b_PrimeFinder_isWithinWider) (hr : meth.sig.returnType = some .boolean) (hts : ∀ w ∈ lwg, w.before args s = true) (hown : s.vm.findClass R_PrimeFinder = some m.cls) (hlocks : meth.locks = false) (hml : c.maxLocals = 4) (hP : va_P (dC, dI) classes [(f0, .inr (4, [.ref a0, .int ou, .ref f1])), (f1, .inl (cI, 81, .inl outs)), (a0, .inr (5, [.int ((nI N)), .int ((nI Z)), .ref a1, .ref a2, .ref a3])), (a1, .inl (cI, 81, .inl care)), (a2, .inl (cI, 81, .inl bits)), (a3, .inl (cI, 81, .inl had))] s.heap) (hK : va_K (dC, dI) classes [(cI, .int), (cJ, .long)] s) : ∀ (k i : Nat), N - i < k → i ≤ N → anyB (fWide outs care bits N q) i = false → ∀ ls : Array Slot, lv_has ls 4 [(0, .ref f0), (1, .int ((nI q))), (2, .int ((nI i)))] → W p l e ({ frames := 2, cells := 0, slots := 0, locals := 51 } : Room) s m args below meth c s.heap [] 0 0 (MQ below (vp_Si (fun r => r = if anyB (fWide outs care bits N q) N then 1 else 0)) args s 0 0 (fun _ => False)) (F0 m 2 ls []) := by
  intro k
  induction k with
  | zero => intro i h; omega
  | succ k ih =>
    intro i hk hi hI ls hl
    refine lv_iload_n hx hb d_PrimeFinder_isWithinWider_2 rfl (lv_at hl 2 rfl) ?_
    refine lv_aload_n hx hb d_PrimeFinder_isWithinWider_3 rfl (lv_at hl 0 rfl) ?_
    refine va_get (D := (dC, dI)) (ci := 4) (v := .ref a0) (C := R_PrimeFinder) (T := F_PrimeFinder) (N := 3) hx hb hts i_PrimeFinder hown hK hP 0 rfl rfl 0 (by decide) (hts _ mw_fl_PrimeFinder_15) (fun _ h9 => h9) rfl d_PrimeFinder_isWithinWider_4 ?_
    refine vp_callSi (W.runV (As := []) (rest := [.int ((nI i))]) ⟨hx, hb, hml, hown, hts⟩ (c_Products_inputs l dC dI cI cJ a0 a1 a2 a3 (nI N) (nI Z) care bits had ) (cwV 0 hts (ct_goodV mw_ml_PrimeFinder_55 mw_im_Products_inputs mw_se_Products_inputs mw_ini_Products mw_code_Products_inputs) rfl rfl rfl (by decide +kernel) ⟨Nat.le_of_ble_eq_true rfl, Nat.le_of_ble_eq_true rfl⟩) ⟨fun a U g mk q => by obtain ⟨q0, qP, qK⟩ := q; exact ⟨q0, qP, va_K.moved (u := U) (U := U.calling g mk a) (Vm.Alike.refl U.vm) qK⟩, va_recv hK hP (ci := 5) (q0 := 2) rfl rfl, fun U hU hW => ⟨rfl, by rw [hU]; exact (hP.sub (ws' := (wP cI a0 a1 a2 a3 (nI N) (nI Z) care bits had)) [2, 3, 4, 5] rfl), va_K.moved hW.alike hK⟩⟩ rfl rfl hl.1 rfl (lv_room (Nat.le_of_ble_eq_true rfl)) d_PrimeFinder_isWithinWider_7 ⟨Nat.le_of_ble_eq_true rfl, Nat.le_of_ble_eq_true rfl⟩) (fun r_1 hr_1 => ?_)
    rw [hr_1]
    clear hr_1
    refine lv_icmp_ge (tgt := 63) hx hb d_PrimeFinder_isWithinWider_10 (by decide) (fun c_10 => ?_) (fun c_10 => ?_)
    · have hE : i = N := Nat.le_antisymm hi ((nI_leI (by omega) (by omega)).mp c_10)
      subst hE
      refine lv_iconst (v := 0) hx hb d_PrimeFinder_isWithinWider_63 (by decide) ?_
      exact W.zret (v := 0) hx hb hr (by decide) (fun t ht hW => ⟨_, rfl, (by simp [hI]), ht⟩) (fun q h => by cases h) d_PrimeFinder_isWithinWider_64
    · have hlt : i < N := Nat.lt_of_not_le (fun h => c_10 ((nI_leI (by omega) (by omega)).mpr h))
      refine lv_aload_n hx hb d_PrimeFinder_isWithinWider_13 rfl (lv_at hl 0 rfl) ?_
      refine va_get (D := (dC, dI)) (ci := 4) (v := .ref a0) (C := R_PrimeFinder) (T := F_PrimeFinder) (N := 3) hx hb hts i_PrimeFinder hown hK hP 0 rfl rfl 0 (by decide) (hts _ mw_fl_PrimeFinder_15) (fun _ h9 => h9) rfl d_PrimeFinder_isWithinWider_14 ?_
      refine lv_iload_n hx hb d_PrimeFinder_isWithinWider_17 rfl (lv_at hl 1 rfl) ?_
      refine lv_iload_n hx hb d_PrimeFinder_isWithinWider_18 rfl (lv_at hl 2 rfl) ?_
      refine vp_callSi (W.runV (As := [.int ((nI q)), .int ((nI i))]) (rest := []) ⟨hx, hb, hml, hown, hts⟩ (c_Products_digit l dC dI cI cJ a0 a1 a2 a3 (nI N) (nI Z) care bits had (nI q) (nI i) (vp_in_nI hq (by omega))) (cwV 2 hts (ct_goodV mw_ml_PrimeFinder_58 mw_im_Products_digit mw_se_Products_digit mw_ini_Products mw_code_Products_digit) rfl rfl rfl (by decide +kernel) ⟨Nat.le_of_ble_eq_true rfl, Nat.le_of_ble_eq_true rfl⟩) ⟨fun a U g mk q => by obtain ⟨q0, qP, qK⟩ := q; exact ⟨q0, qP, va_K.moved (u := U) (U := U.calling g mk a) (Vm.Alike.refl U.vm) qK⟩, va_recv hK hP (ci := 5) (q0 := 2) rfl rfl, fun U hU hW => ⟨rfl, by rw [hU]; exact (hP.sub (ws' := (wP cI a0 a1 a2 a3 (nI N) (nI Z) care bits had)) [2, 3, 4, 5] rfl), va_K.moved hW.alike hK⟩⟩ rfl rfl hl.1 rfl (lv_room (Nat.le_of_ble_eq_true rfl)) d_PrimeFinder_isWithinWider_19 ⟨Nat.le_of_ble_eq_true rfl, Nat.le_of_ble_eq_true rfl⟩) (fun r_2 hr_2 => ?_)
      rw [hr_2]
      clear hr_2
      refine w_ti (show _ = fDig (care q) (bits q) (nI i) from by rw [nI_clamp (by omega)]) ?_
      refine lv_iconst (v := 2) hx hb d_PrimeFinder_isWithinWider_22 (by decide) ?_
      refine lv_icmp_eq (tgt := 57) hx hb d_PrimeFinder_isWithinWider_23 (by decide) (fun c_23 => ?_) (fun c_23 => ?_)
      · refine lv_iinc (v := (nI (i + 1))) (lv' := [(2, .int ((nI (i + 1)))), (0, .ref f0), (1, .int ((nI q)))]) hx hb d_PrimeFinder_isWithinWider_57 hl (k := 2) rfl (show nI i + 1 = nI (i + 1) from nI_1 i) (by decide) rfl (fun ls hl => ?_)
        refine lv_goto (tgt := 2) hx hb d_PrimeFinder_isWithinWider_60 (by decide) ?_
        exact ih (i + 1) (by omega) (by omega) (by rw [anyB_s, hI, fWide_f1 c_23]; rfl) ls (lv_sub hl [1, 2, 0] rfl)
      · refine lv_aload_n hx hb d_PrimeFinder_isWithinWider_26 rfl (lv_at hl 0 rfl) ?_
        refine va_get (D := (dC, dI)) (ci := 4) (v := .ref a0) (C := R_PrimeFinder) (T := F_PrimeFinder) (N := 3) hx hb hts i_PrimeFinder hown hK hP 0 rfl rfl 0 (by decide) (hts _ mw_fl_PrimeFinder_15) (fun _ h9 => h9) rfl d_PrimeFinder_isWithinWider_27 ?_
        refine lv_iload_n hx hb d_PrimeFinder_isWithinWider_30 rfl (lv_at hl 1 rfl) ?_
        refine lv_iload_n hx hb d_PrimeFinder_isWithinWider_31 rfl (lv_at hl 2 rfl) ?_
        refine lv_iconst (v := 2) hx hb d_PrimeFinder_isWithinWider_32 (by decide) ?_
        refine vp_callSi (W.runV (As := [.int ((nI q)), .int ((nI i)), .int 2]) (rest := []) ⟨hx, hb, hml, hown, hts⟩ (c_Products_withDigit l dC dI cI cJ a0 a1 a2 a3 N (nI Z) care bits had (nI q) (nI i) 2 hN (vp_in_nI hq (by omega))) (cwV 3 hts (ct_goodV mw_ml_PrimeFinder_62 mw_im_Products_withDigit mw_se_Products_withDigit mw_ini_Products mw_code_Products_withDigit) rfl rfl rfl (by decide +kernel) ⟨Nat.le_of_ble_eq_true rfl, Nat.le_of_ble_eq_true rfl⟩) ⟨fun a U g mk q => by obtain ⟨q0, qP, qK⟩ := q; exact ⟨q0, qP, va_K.moved (u := U) (U := U.calling g mk a) (Vm.Alike.refl U.vm) qK⟩, va_recv hK hP (ci := 5) (q0 := 2) rfl rfl, fun U hU hW => ⟨rfl, by rw [hU]; exact (hP.sub (ws' := (wP cI a0 a1 a2 a3 (nI N) (nI Z) care bits had)) [2, 3, 4, 5] rfl), va_K.moved hW.alike hK⟩⟩ rfl rfl hl.1 rfl (lv_room (Nat.le_of_ble_eq_true rfl)) d_PrimeFinder_isWithinWider_33 ⟨Nat.le_of_ble_eq_true rfl, Nat.le_of_ble_eq_true rfl⟩) (fun r_3 hr_3 => ?_)
        rw [hr_3]
        clear hr_3
        refine w_ti (show _ = fWith N (care q) (bits q) (nI i) 2 from by rw [nI_clamp (by omega)]) ?_
        refine lv_istore_n (lv' := [(3, .int ((fWith N (care q) (bits q) (nI i) 2))), (0, .ref f0), (1, .int ((nI q))), (2, .int ((nI i)))]) hx hb d_PrimeFinder_isWithinWider_36 rfl hl (by decide) rfl (fun ls hl => ?_)
        refine lv_aload_n hx hb d_PrimeFinder_isWithinWider_37 rfl (lv_at hl 1 rfl) ?_
        refine va_get (D := (dC, dI)) (ci := 4) (v := .ref f1) (C := R_PrimeFinder) (T := F_PrimeFinder) (N := 3) hx hb hts i_PrimeFinder hown hK hP 0 rfl rfl 2 (by decide) (hts _ mw_fl_PrimeFinder_9) (fun _ h9 => h9) rfl d_PrimeFinder_isWithinWider_38 ?_
        refine lv_iload_n hx hb d_PrimeFinder_isWithinWider_41 rfl (lv_at hl 2 rfl) ?_
        refine va_iald hx hb hK hP 1 0 rfl rfl (vp_in_nI hq (by omega)) d_PrimeFinder_isWithinWider_42 ?_
        refine w_ti (show _ = outs q from by rw [nI_clamp (by omega)]) ?_
        refine lv_aload_n hx hb d_PrimeFinder_isWithinWider_43 rfl (lv_at hl 1 rfl) ?_
        refine va_get (D := (dC, dI)) (ci := 4) (v := .ref f1) (C := R_PrimeFinder) (T := F_PrimeFinder) (N := 3) hx hb hts i_PrimeFinder hown hK hP 0 rfl rfl 2 (by decide) (hts _ mw_fl_PrimeFinder_9) (fun _ h9 => h9) rfl d_PrimeFinder_isWithinWider_44 ?_
        refine lv_iload_n hx hb d_PrimeFinder_isWithinWider_47 rfl (lv_at hl 0 rfl) ?_
        refine va_iald hx hb hK hP 1 0 rfl rfl (hW i hlt) d_PrimeFinder_isWithinWider_48 ?_
        refine lv_iconst (v := (-1)) hx hb d_PrimeFinder_isWithinWider_49 (by decide) ?_
        refine lv_ixor hx hb d_PrimeFinder_isWithinWider_50 ?_
        refine lv_iand hx hb d_PrimeFinder_isWithinWider_51 ?_
        refine lv_if_ne (tgt := 57) hx hb d_PrimeFinder_isWithinWider_52 (by decide) (fun c_52 => ?_) (fun c_52 => ?_)
        · refine lv_iinc (v := (nI (i + 1))) (lv' := [(2, .int ((nI (i + 1)))), (3, .int ((fWith N (care q) (bits q) (nI i) 2))), (0, .ref f0), (1, .int ((nI q)))]) hx hb d_PrimeFinder_isWithinWider_57 hl (k := 3) rfl (show nI i + 1 = nI (i + 1) from nI_1 i) (by decide) rfl (fun ls hl => ?_)
          refine lv_goto (tgt := 2) hx hb d_PrimeFinder_isWithinWider_60 (by decide) ?_
          exact ih (i + 1) (by omega) (by omega) (by rw [anyB_s, hI, fWide_f2 c_52]; rfl) ls (lv_sub hl [2, 3, 0] rfl)
        · refine lv_iconst (v := 1) hx hb d_PrimeFinder_isWithinWider_55 (by decide) ?_
          exact W.zret (v := 1) hx hb hr (by decide) (fun t ht hW => ⟨_, rfl, (if_pos (anyB_t (c := fWide outs care bits N q) hlt (fWide_t c_23 c_52))).symm, ht⟩) (fun q h => by cases h) d_PrimeFinder_isWithinWider_56
set_option maxHeartbeats 4000000 in
set_option maxRecDepth 100000 in
theorem c_PrimeFinder_isWithinWider (l : Launch) (dC : Nat → ClassId) (dI : Nat → Nat → Nat) (cI cJ : ClassId) (f0 : Nat) (f1 : Nat) (outs : Nat → Int32) (ou : Int32) (a0 : Nat) (a1 : Nat) (a2 : Nat) (a3 : Nat) (N : Nat) (Z : Nat) (care : Nat → Int32) (bits : Nat → Int32) (had : Nat → Int32) (q : Nat) (hN : N ≤ 4) (hq : q < 81) (hW : ∀ i, i < N → vp_in (fWith N (care q) (bits q) (nI i) 2) 81) : Met l y_PrimeFinder_isWithinWider (ct y_PrimeFinder_isWithinWider b_PrimeFinder_isWithinWider 4 (some .boolean)) ({ frames := 2, cells := 0, slots := 0, locals := 51 }) (va_Pc [.ref f0, .int ((nI q))] (fun U => va_P (dC, dI) classes [(f0, .inr (4, [.ref a0, .int ou, .ref f1])), (f1, .inl (cI, 81, .inl outs)), (a0, .inr (5, [.int ((nI N)), .int ((nI Z)), .ref a1, .ref a2, .ref a3])), (a1, .inl (cI, 81, .inl care)), (a2, .inl (cI, 81, .inl bits)), (a3, .inl (cI, 81, .inl had))] U.heap ∧ va_K (dC, dI) classes [(cI, .int), (cJ, .long)] U)) (vp_Si (fun r => r = if anyB (fWide outs care bits N q) N then 1 else 0)) 0 0 (fun _ => False) := by
  refine Met.ofW (cc := b_PrimeFinder_isWithinWider) (maxL := 4) (ret := some .boolean) (by decide) rfl ?_
  intro p e s m args below meth c s₁ B hml hv
  obtain ⟨rfl, hP, hK⟩ := hv
  have hx := B.exec
  have hb := B.bytes
  have hr := B.returns
  have hts : ∀ w ∈ lwg, w.before _ s = true := fun w h => atoms_spec (ws := ct y_PrimeFinder_isWithinWider b_PrimeFinder_isWithinWider 4 (some .boolean)) B.pre w (List.mem_cons_of_mem _ h)
  have hown : s.vm.findClass R_PrimeFinder = some m.cls := findClass_of_methodNamed B.named
  have hlocks := B.notSynchronized
  have hl := lv_entry ([.ref f0, .int ((nI q))]) (n := 4) (Nat.le_of_ble_eq_true rfl)
  rw [lg_entry_eq]
  generalize (lg_sl ([.ref f0, .int ((nI q))]) ++ List.replicate (4 - (lg_sl ([.ref f0, .int ((nI q))])).length) Slot.unset).toArray = ls at hl ⊢
  have hl : lv_has ls 4 [(0, .ref f0), (1, .int ((nI q)))] := hl
  refine lv_iconst (v := 0) hx hb d_PrimeFinder_isWithinWider_0 (by decide) ?_
  refine lv_istore_n (lv' := [(2, .int 0), (0, .ref f0), (1, .int ((nI q)))]) hx hb d_PrimeFinder_isWithinWider_1 rfl hl (by decide) rfl (fun ls hl => ?_)
  exact lp_PrimeFinder_isWithinWider l dC dI cI cJ f0 f1 outs ou a0 a1 a2 a3 N Z care bits had q hN hq hW hx hb hr hts hown hlocks hml hP hK (N + 1) 0 (by omega) (Nat.zero_le _) rfl ls (lv_sub hl [1, 2, 0] rfl)
set_option maxHeartbeats 4000000 in
set_option maxRecDepth 100000 in
theorem lp_PrimeFinder_fillOuts1 {p : Program} {e : Env} {s : State} {m : MethodId} {args : Array Value} {below : List Frame} {meth : Method} {c : Code} {Q : State → Prop} (l : Launch) (dC : Nat → ClassId) (dI : Nat → Nat → Nat) (cI cJ : ClassId) (f0 : Nat) (f1 : Nat) (outs : Nat → Int32) (b0 : Nat) (b1 : Nat) (b2 : Nat) (M : Nat) (OU : Nat) (prod : Nat → Int32) (kind : Nat → Int32) (a0 : Nat) (a1 : Nat) (a2 : Nat) (a3 : Nat) (N : Nat) (Z : Nat) (care : Nat → Int32) (bits : Nat → Int32) (had : Nat → Int32) (hM : M ≤ 24) (hOU : OU ≤ 2) (hpr : ∀ c, c < M → vp_in (prod c) 81) (hZ : Z ≤ 81)   (hx : p.tables.exec = Jvm.exec) (hb : c.code = b_PrimeFinder_fillOuts) (hts : ∀ w ∈ lwg, w.before args s = true) (hown : s.vm.findClass R_PrimeFinder = some m.cls) (hml : c.maxLocals = 5) (hK : va_K (dC, dI) classes [(cI, .int), (cJ, .long)] s) {A : Nat → Prop} (hA : ∀ q : Nat, s.heap.size ≤ q → A q) (kk : ∀ (H : Heap) (locs : List Loc) (ls : Array Slot), va_P (dC, dI) classes [(f0, .inr (4, [.ref a0, .int ((nI OU)), .ref f1])), (f1, .inl (cI, 81, .inl ((fOuts0 outs Z)))), (b0, .inr (1, [.ref a0, .int ((nI OU)), .ref b1, .ref b2, .int ((nI M))])), (b1, .inl (cI, 24, .inl prod)), (b2, .inl (cI, 48, .inl kind)), (a0, .inr (5, [.int ((nI N)), .int ((nI Z)), .ref a1, .ref a2, .ref a3])), (a1, .inl (cI, 81, .inl care)), (a2, .inl (cI, 81, .inl bits)), (a3, .inl (cI, 81, .inl had))] H → va_D A [(f0, .inr (4, [.ref a0, .int ((nI OU)), .ref f1])), (f1, .inl (cI, 81, .inl ((fOuts0 outs Z)))), (b0, .inr (1, [.ref a0, .int ((nI OU)), .ref b1, .ref b2, .int ((nI M))])), (b1, .inl (cI, 24, .inl prod)), (b2, .inl (cI, 48, .inl kind)), (a0, .inr (5, [.int ((nI N)), .int ((nI Z)), .ref a1, .ref a2, .ref a3])), (a1, .inl (cI, 81, .inl care)), (a2, .inl (cI, 81, .inl bits)), (a3, .inl (cI, 81, .inl had))] → va_S A s.heap H locs → lv_has ls 5 [(0, .ref f0), (1, .ref b0)] → W p l e ({ frames := 3, cells := 0, slots := 0, locals := 66 } : Room) s m args below meth c H locs 0 0 Q (F0 m 26 ls [])) : ∀ (k i : Nat), Z - i < k → i ≤ Z → ∀ (H : Heap) (locs : List Loc) (ls : Array Slot), va_P (dC, dI) classes [(f0, .inr (4, [.ref a0, .int ((nI OU)), .ref f1])), (f1, .inl (cI, 81, .inl ((fOuts0 outs i)))), (b0, .inr (1, [.ref a0, .int ((nI OU)), .ref b1, .ref b2, .int ((nI M))])), (b1, .inl (cI, 24, .inl prod)), (b2, .inl (cI, 48, .inl kind)), (a0, .inr (5, [.int ((nI N)), .int ((nI Z)), .ref a1, .ref a2, .ref a3])), (a1, .inl (cI, 81, .inl care)), (a2, .inl (cI, 81, .inl bits)), (a3, .inl (cI, 81, .inl had))] H → va_D A [(f0, .inr (4, [.ref a0, .int ((nI OU)), .ref f1])), (f1, .inl (cI, 81, .inl ((fOuts0 outs i)))), (b0, .inr (1, [.ref a0, .int ((nI OU)), .ref b1, .ref b2, .int ((nI M))])), (b1, .inl (cI, 24, .inl prod)), (b2, .inl (cI, 48, .inl kind)), (a0, .inr (5, [.int ((nI N)), .int ((nI Z)), .ref a1, .ref a2, .ref a3])), (a1, .inl (cI, 81, .inl care)), (a2, .inl (cI, 81, .inl bits)), (a3, .inl (cI, 81, .inl had))] → va_S A s.heap H locs → lv_has ls 5 [(0, .ref f0), (1, .ref b0), (2, .int ((nI i)))] → W p l e ({ frames := 3, cells := 0, slots := 0, locals := 66 } : Room) s m args below meth c H locs 0 0 Q (F0 m 2 ls []) := by
  intro k
  induction k with
  | zero => intro i h; omega
  | succ k ih =>
    intro i hk hi H locs ls hP hD hS hl
    refine lv_iload_n hx hb d_PrimeFinder_fillOuts_2 rfl (lv_at hl 2 rfl) ?_
    refine lv_aload_n hx hb d_PrimeFinder_fillOuts_3 rfl (lv_at hl 0 rfl) ?_
    refine va_get (D := (dC, dI)) (ci := 4) (v := .ref a0) (C := R_PrimeFinder) (T := F_PrimeFinder) (N := 3) hx hb hts i_PrimeFinder hown hK hP 0 rfl rfl 0 (by decide) (hts _ mw_fl_PrimeFinder_15) (fun _ h9 => h9) rfl d_PrimeFinder_fillOuts_4 ?_
    refine vp_callSi (W.runV (As := []) (rest := [.int ((nI i))]) ⟨hx, hb, hml, hown, hts⟩ (c_Products_size l dC dI cI cJ a0 a1 a2 a3 (nI N) (nI Z) care bits had ) (cwV 0 hts (ct_goodV mw_ml_PrimeFinder_32 mw_im_Products_size mw_se_Products_size mw_ini_Products mw_code_Products_size) rfl rfl rfl (by decide +kernel) ⟨Nat.le_of_ble_eq_true rfl, Nat.le_of_ble_eq_true rfl⟩) ⟨fun a U g mk q => by obtain ⟨q0, qP, qK⟩ := q; exact ⟨q0, qP, va_K.moved (u := U) (U := U.calling g mk a) (Vm.Alike.refl U.vm) qK⟩, va_recv hK hP (ci := 5) (q0 := 5) rfl rfl, fun U hU hW => ⟨rfl, by rw [hU]; exact (hP.sub (ws' := (wP cI a0 a1 a2 a3 (nI N) (nI Z) care bits had)) [5, 6, 7, 8] rfl), va_K.moved hW.alike hK⟩⟩ rfl rfl hl.1 rfl (lv_room (Nat.le_of_ble_eq_true rfl)) d_PrimeFinder_fillOuts_7 ⟨Nat.le_of_ble_eq_true rfl, Nat.le_of_ble_eq_true rfl⟩) (fun r_1 hr_1 => ?_)
    rw [hr_1]
    clear hr_1
    refine lv_icmp_ge (tgt := 26) hx hb d_PrimeFinder_fillOuts_10 (by decide) (fun c_10 => ?_) (fun c_10 => ?_)
    · have hE : i = Z := Nat.le_antisymm hi ((nI_leI (by omega) (by omega)).mp c_10)
      exact kk _ _ ls (by subst hE; exact hP.sub [0, 1, 2, 3, 4, 5, 6, 7, 8] rfl) (by subst hE; exact hD.sub [0, 1, 2, 3, 4, 5, 6, 7, 8] (by decide) rfl) hS (by subst hE; exact lv_sub hl [0, 1] rfl)
    · have hlt : i < Z := Nat.lt_of_not_le (fun h => c_10 ((nI_leI (by omega) (by omega)).mpr h))
      refine lv_aload_n hx hb d_PrimeFinder_fillOuts_13 rfl (lv_at hl 0 rfl) ?_
      refine va_get (D := (dC, dI)) (ci := 4) (v := .ref f1) (C := R_PrimeFinder) (T := F_PrimeFinder) (N := 3) hx hb hts i_PrimeFinder hown hK hP 0 rfl rfl 2 (by decide) (hts _ mw_fl_PrimeFinder_9) (fun _ h9 => h9) rfl d_PrimeFinder_fillOuts_14 ?_
      refine lv_iload_n hx hb d_PrimeFinder_fillOuts_17 rfl (lv_at hl 2 rfl) ?_
      refine lv_iconst (v := 0) hx hb d_PrimeFinder_fillOuts_18 (by decide) ?_
      refine va_iast hx hb hK hP hD hS 1 0 rfl rfl (vp_in_nI (show i < 81 by omega) (by omega)) d_PrimeFinder_fillOuts_19 (fun H locs hP hD hS => ?_)
      have hP : va_P (dC, dI) classes [(f0, .inr (4, [.ref a0, .int ((nI OU)), .ref f1])), (f1, .inl (cI, 81, .inl ((upd ((fOuts0 outs i)) (nI i).toNatClampNeg 0)))), (b0, .inr (1, [.ref a0, .int ((nI OU)), .ref b1, .ref b2, .int ((nI M))])), (b1, .inl (cI, 24, .inl prod)), (b2, .inl (cI, 48, .inl kind)), (a0, .inr (5, [.int ((nI N)), .int ((nI Z)), .ref a1, .ref a2, .ref a3])), (a1, .inl (cI, 81, .inl care)), (a2, .inl (cI, 81, .inl bits)), (a3, .inl (cI, 81, .inl had))] H := hP
      have hD : va_D A [(f0, .inr (4, [.ref a0, .int ((nI OU)), .ref f1])), (f1, .inl (cI, 81, .inl ((upd ((fOuts0 outs i)) (nI i).toNatClampNeg 0)))), (b0, .inr (1, [.ref a0, .int ((nI OU)), .ref b1, .ref b2, .int ((nI M))])), (b1, .inl (cI, 24, .inl prod)), (b2, .inl (cI, 48, .inl kind)), (a0, .inr (5, [.int ((nI N)), .int ((nI Z)), .ref a1, .ref a2, .ref a3])), (a1, .inl (cI, 81, .inl care)), (a2, .inl (cI, 81, .inl bits)), (a3, .inl (cI, 81, .inl had))] := hD
      rw [show (nI i).toNatClampNeg = i from nI_clamp (by omega)] at hP hD
      refine lv_iinc (v := (nI (i + 1))) (lv' := [(2, .int ((nI (i + 1)))), (0, .ref f0), (1, .ref b0)]) hx hb d_PrimeFinder_fillOuts_20 hl (k := 2) rfl (show nI i + 1 = nI (i + 1) from nI_1 i) (by decide) rfl (fun ls hl => ?_)
      refine lv_goto (tgt := 2) hx hb d_PrimeFinder_fillOuts_23 (by decide) ?_
      exact ih (i + 1) (by omega) (by omega) _ _ ls (hP.sub [0, 1, 2, 3, 4, 5, 6, 7, 8] rfl) (hD.sub [0, 1, 2, 3, 4, 5, 6, 7, 8] (by decide) rfl) hS (lv_sub hl [1, 2, 0] rfl)
set_option maxHeartbeats 4000000 in
set_option maxRecDepth 100000 in
theorem lp_PrimeFinder_fillOuts2 {p : Program} {e : Env} {s : State} {m : MethodId} {args : Array Value} {below : List Frame} {meth : Method} {c : Code} {Q : State → Prop} (l : Launch) (dC : Nat → ClassId) (dI : Nat → Nat → Nat) (cI cJ : ClassId) (f0 : Nat) (f1 : Nat) (outs : Nat → Int32) (b0 : Nat) (b1 : Nat) (b2 : Nat) (M : Nat) (OU : Nat) (prod : Nat → Int32) (kind : Nat → Int32) (a0 : Nat) (a1 : Nat) (a2 : Nat) (a3 : Nat) (N : Nat) (Z : Nat) (care : Nat → Int32) (bits : Nat → Int32) (had : Nat → Int32) (hM : M ≤ 24) (hOU : OU ≤ 2) (hpr : ∀ c, c < M → vp_in (prod c) 81) (hZ : Z ≤ 81) (j : Nat) (hj : j < OU) (hx : p.tables.exec = Jvm.exec) (hb : c.code = b_PrimeFinder_fillOuts) (hts : ∀ w ∈ lwg, w.before args s = true) (hown : s.vm.findClass R_PrimeFinder = some m.cls) (hml : c.maxLocals = 5) (hK : va_K (dC, dI) classes [(cI, .int), (cJ, .long)] s) {A : Nat → Prop} (hA : ∀ q : Nat, s.heap.size ≤ q → A q) (kk : ∀ (H : Heap) (locs : List Loc) (ls : Array Slot), va_P (dC, dI) classes [(f0, .inr (4, [.ref a0, .int ((nI OU)), .ref f1])), (f1, .inl (cI, 81, .inl ((fOutsI had (fNot prod kind had M j ^^^ (-1)) j (fOuts prod kind had M Z outs j) Z)))), (b0, .inr (1, [.ref a0, .int ((nI OU)), .ref b1, .ref b2, .int ((nI M))])), (b1, .inl (cI, 24, .inl prod)), (b2, .inl (cI, 48, .inl kind)), (a0, .inr (5, [.int ((nI N)), .int ((nI Z)), .ref a1, .ref a2, .ref a3])), (a1, .inl (cI, 81, .inl care)), (a2, .inl (cI, 81, .inl bits)), (a3, .inl (cI, 81, .inl had))] H → va_D A [(f0, .inr (4, [.ref a0, .int ((nI OU)), .ref f1])), (f1, .inl (cI, 81, .inl ((fOutsI had (fNot prod kind had M j ^^^ (-1)) j (fOuts prod kind had M Z outs j) Z)))), (b0, .inr (1, [.ref a0, .int ((nI OU)), .ref b1, .ref b2, .int ((nI M))])), (b1, .inl (cI, 24, .inl prod)), (b2, .inl (cI, 48, .inl kind)), (a0, .inr (5, [.int ((nI N)), .int ((nI Z)), .ref a1, .ref a2, .ref a3])), (a1, .inl (cI, 81, .inl care)), (a2, .inl (cI, 81, .inl bits)), (a3, .inl (cI, 81, .inl had))] → va_S A s.heap H locs → lv_has ls 5 [(0, .ref f0), (1, .ref b0), (2, .int ((nI j)))] → W p l e ({ frames := 3, cells := 0, slots := 0, locals := 66 } : Room) s m args below meth c H locs 0 0 Q (F0 m 92 ls [])) : ∀ (k i : Nat), Z - i < k → i ≤ Z → ∀ (H : Heap) (locs : List Loc) (ls : Array Slot), va_P (dC, dI) classes [(f0, .inr (4, [.ref a0, .int ((nI OU)), .ref f1])), (f1, .inl (cI, 81, .inl ((fOutsI had (fNot prod kind had M j ^^^ (-1)) j (fOuts prod kind had M Z outs j) i)))), (b0, .inr (1, [.ref a0, .int ((nI OU)), .ref b1, .ref b2, .int ((nI M))])), (b1, .inl (cI, 24, .inl prod)), (b2, .inl (cI, 48, .inl kind)), (a0, .inr (5, [.int ((nI N)), .int ((nI Z)), .ref a1, .ref a2, .ref a3])), (a1, .inl (cI, 81, .inl care)), (a2, .inl (cI, 81, .inl bits)), (a3, .inl (cI, 81, .inl had))] H → va_D A [(f0, .inr (4, [.ref a0, .int ((nI OU)), .ref f1])), (f1, .inl (cI, 81, .inl ((fOutsI had (fNot prod kind had M j ^^^ (-1)) j (fOuts prod kind had M Z outs j) i)))), (b0, .inr (1, [.ref a0, .int ((nI OU)), .ref b1, .ref b2, .int ((nI M))])), (b1, .inl (cI, 24, .inl prod)), (b2, .inl (cI, 48, .inl kind)), (a0, .inr (5, [.int ((nI N)), .int ((nI Z)), .ref a1, .ref a2, .ref a3])), (a1, .inl (cI, 81, .inl care)), (a2, .inl (cI, 81, .inl bits)), (a3, .inl (cI, 81, .inl had))] → va_S A s.heap H locs → lv_has ls 5 [(0, .ref f0), (1, .ref b0), (2, .int ((nI j))), (3, .int ((fNot prod kind had M j ^^^ (-1)))), (4, .int ((nI i)))] → W p l e ({ frames := 3, cells := 0, slots := 0, locals := 66 } : Room) s m args below meth c H locs 0 0 Q (F0 m 47 ls []) := by
  intro k
  induction k with
  | zero => intro i h; omega
  | succ k ih =>
    intro i hk hi H locs ls hP hD hS hl
    refine lv_iload hx hb d_PrimeFinder_fillOuts_47 (lv_at hl 4 rfl) ?_
    refine lv_aload_n hx hb d_PrimeFinder_fillOuts_49 rfl (lv_at hl 0 rfl) ?_
    refine va_get (D := (dC, dI)) (ci := 4) (v := .ref a0) (C := R_PrimeFinder) (T := F_PrimeFinder) (N := 3) hx hb hts i_PrimeFinder hown hK hP 0 rfl rfl 0 (by decide) (hts _ mw_fl_PrimeFinder_15) (fun _ h9 => h9) rfl d_PrimeFinder_fillOuts_50 ?_
    refine vp_callSi (W.runV (As := []) (rest := [.int ((nI i))]) ⟨hx, hb, hml, hown, hts⟩ (c_Products_size l dC dI cI cJ a0 a1 a2 a3 (nI N) (nI Z) care bits had ) (cwV 0 hts (ct_goodV mw_ml_PrimeFinder_32 mw_im_Products_size mw_se_Products_size mw_ini_Products mw_code_Products_size) rfl rfl rfl (by decide +kernel) ⟨Nat.le_of_ble_eq_true rfl, Nat.le_of_ble_eq_true rfl⟩) ⟨fun a U g mk q => by obtain ⟨q0, qP, qK⟩ := q; exact ⟨q0, qP, va_K.moved (u := U) (U := U.calling g mk a) (Vm.Alike.refl U.vm) qK⟩, va_recv hK hP (ci := 5) (q0 := 5) rfl rfl, fun U hU hW => ⟨rfl, by rw [hU]; exact (hP.sub (ws' := (wP cI a0 a1 a2 a3 (nI N) (nI Z) care bits had)) [5, 6, 7, 8] rfl), va_K.moved hW.alike hK⟩⟩ rfl rfl hl.1 rfl (lv_room (Nat.le_of_ble_eq_true rfl)) d_PrimeFinder_fillOuts_53 ⟨Nat.le_of_ble_eq_true rfl, Nat.le_of_ble_eq_true rfl⟩) (fun r_1 hr_1 => ?_)
    rw [hr_1]
    clear hr_1
    refine lv_icmp_ge (tgt := 92) hx hb d_PrimeFinder_fillOuts_56 (by decide) (fun c_56 => ?_) (fun c_56 => ?_)
    · have hE : i = Z := Nat.le_antisymm hi ((nI_leI (by omega) (by omega)).mp c_56)
      exact kk _ _ ls (by subst hE; exact hP.sub [0, 1, 2, 3, 4, 5, 6, 7, 8] rfl) (by subst hE; exact hD.sub [0, 1, 2, 3, 4, 5, 6, 7, 8] (by decide) rfl) hS (by subst hE; exact lv_sub hl [0, 1, 2] rfl)
    · have hlt : i < Z := Nat.lt_of_not_le (fun h => c_56 ((nI_leI (by omega) (by omega)).mpr h))
      refine lv_aload_n hx hb d_PrimeFinder_fillOuts_59 rfl (lv_at hl 0 rfl) ?_
      refine va_get (D := (dC, dI)) (ci := 4) (v := .ref a0) (C := R_PrimeFinder) (T := F_PrimeFinder) (N := 3) hx hb hts i_PrimeFinder hown hK hP 0 rfl rfl 0 (by decide) (hts _ mw_fl_PrimeFinder_15) (fun _ h9 => h9) rfl d_PrimeFinder_fillOuts_60 ?_
      refine lv_iload hx hb d_PrimeFinder_fillOuts_63 (lv_at hl 4 rfl) ?_
      refine vp_callSi (W.runV (As := [.int ((nI i))]) (rest := []) ⟨hx, hb, hml, hown, hts⟩ (c_Products_had l dC dI cI cJ a0 a1 a2 a3 (nI N) (nI Z) care bits had (nI i) (vp_in_nI (show i < 81 by omega) (by omega))) (cwV 1 hts (ct_goodV mw_ml_PrimeFinder_52 mw_im_Products_had mw_se_Products_had mw_ini_Products mw_code_Products_had) rfl rfl rfl (by decide +kernel) ⟨Nat.le_of_ble_eq_true rfl, Nat.le_of_ble_eq_true rfl⟩) ⟨fun a U g mk q => by obtain ⟨q0, qP, qK⟩ := q; exact ⟨q0, qP, va_K.moved (u := U) (U := U.calling g mk a) (Vm.Alike.refl U.vm) qK⟩, va_recv hK hP (ci := 5) (q0 := 5) rfl rfl, fun U hU hW => ⟨rfl, by rw [hU]; exact (hP.sub (ws' := (wP cI a0 a1 a2 a3 (nI N) (nI Z) care bits had)) [5, 6, 7, 8] rfl), va_K.moved hW.alike hK⟩⟩ rfl rfl hl.1 rfl (lv_room (Nat.le_of_ble_eq_true rfl)) d_PrimeFinder_fillOuts_65 ⟨Nat.le_of_ble_eq_true rfl, Nat.le_of_ble_eq_true rfl⟩) (fun r_2 hr_2 => ?_)
      rw [hr_2]
      clear hr_2
      refine w_ti (show _ = had i from by rw [nI_clamp (by omega)]) ?_
      refine lv_iload_n hx hb d_PrimeFinder_fillOuts_68 rfl (lv_at hl 3 rfl) ?_
      refine lv_iand hx hb d_PrimeFinder_fillOuts_69 ?_
      refine lv_if_ne (tgt := 86) hx hb d_PrimeFinder_fillOuts_70 (by decide) (fun c_70 => ?_) (fun c_70 => ?_)
      · refine lv_iinc (v := (nI (i + 1))) (lv' := [(4, .int ((nI (i + 1)))), (0, .ref f0), (1, .ref b0), (2, .int ((nI j))), (3, .int ((fNot prod kind had M j ^^^ (-1))))]) hx hb d_PrimeFinder_fillOuts_86 hl (k := 4) rfl (show nI i + 1 = nI (i + 1) from nI_1 i) (by decide) rfl (fun ls hl => ?_)
        refine lv_goto (tgt := 47) hx hb d_PrimeFinder_fillOuts_89 (by decide) ?_
        have hs : fOutsI had (fNot prod kind had M j ^^^ (-1)) j (fOuts prod kind had M Z outs j) (i + 1) = fOutsI had (fNot prod kind had M j ^^^ (-1)) j (fOuts prod kind had M Z outs j) i := if_neg c_70
        exact ih (i + 1) (by omega) (by omega) _ _ ls (by rw [hs]; exact hP.sub [0, 1, 2, 3, 4, 5, 6, 7, 8] rfl) (by rw [hs]; exact hD.sub [0, 1, 2, 3, 4, 5, 6, 7, 8] (by decide) rfl) hS (lv_sub hl [1, 2, 3, 4, 0] rfl)
      · refine lv_aload_n hx hb d_PrimeFinder_fillOuts_73 rfl (lv_at hl 0 rfl) ?_
        refine va_get (D := (dC, dI)) (ci := 4) (v := .ref f1) (C := R_PrimeFinder) (T := F_PrimeFinder) (N := 3) hx hb hts i_PrimeFinder hown hK hP 0 rfl rfl 2 (by decide) (hts _ mw_fl_PrimeFinder_9) (fun _ h9 => h9) rfl d_PrimeFinder_fillOuts_74 ?_
        refine lv_iload hx hb d_PrimeFinder_fillOuts_77 (lv_at hl 4 rfl) ?_
        refine lv_dup2_11 hx hb d_PrimeFinder_fillOuts_79 rfl rfl ?_
        refine va_iald hx hb hK hP 1 0 rfl rfl (vp_in_nI (show i < 81 by omega) (by omega)) d_PrimeFinder_fillOuts_80 ?_
        refine w_ti (show _ = (fOutsI had (fNot prod kind had M j ^^^ (-1)) j (fOuts prod kind had M Z outs j) i) i from by rw [nI_clamp (by omega)]) ?_
        refine lv_iconst (v := 1) hx hb d_PrimeFinder_fillOuts_81 (by decide) ?_
        refine lv_iload_n hx hb d_PrimeFinder_fillOuts_82 rfl (lv_at hl 2 rfl) ?_
        refine lv_ishl hx hb d_PrimeFinder_fillOuts_83 ?_
        refine lv_ior hx hb d_PrimeFinder_fillOuts_84 ?_
        refine va_iast hx hb hK hP hD hS 1 0 rfl rfl (vp_in_nI (show i < 81 by omega) (by omega)) d_PrimeFinder_fillOuts_85 (fun H locs hP hD hS => ?_)
        have hP : va_P (dC, dI) classes [(f0, .inr (4, [.ref a0, .int ((nI OU)), .ref f1])), (f1, .inl (cI, 81, .inl ((upd ((fOutsI had (fNot prod kind had M j ^^^ (-1)) j (fOuts prod kind had M Z outs j) i)) (nI i).toNatClampNeg ((((fOutsI had (fNot prod kind had M j ^^^ (-1)) j (fOuts prod kind had M Z outs j) i) i) ||| (1 <<< ((nI j) &&& 31)))))))), (b0, .inr (1, [.ref a0, .int ((nI OU)), .ref b1, .ref b2, .int ((nI M))])), (b1, .inl (cI, 24, .inl prod)), (b2, .inl (cI, 48, .inl kind)), (a0, .inr (5, [.int ((nI N)), .int ((nI Z)), .ref a1, .ref a2, .ref a3])), (a1, .inl (cI, 81, .inl care)), (a2, .inl (cI, 81, .inl bits)), (a3, .inl (cI, 81, .inl had))] H := hP
        have hD : va_D A [(f0, .inr (4, [.ref a0, .int ((nI OU)), .ref f1])), (f1, .inl (cI, 81, .inl ((upd ((fOutsI had (fNot prod kind had M j ^^^ (-1)) j (fOuts prod kind had M Z outs j) i)) (nI i).toNatClampNeg ((((fOutsI had (fNot prod kind had M j ^^^ (-1)) j (fOuts prod kind had M Z outs j) i) i) ||| (1 <<< ((nI j) &&& 31)))))))), (b0, .inr (1, [.ref a0, .int ((nI OU)), .ref b1, .ref b2, .int ((nI M))])), (b1, .inl (cI, 24, .inl prod)), (b2, .inl (cI, 48, .inl kind)), (a0, .inr (5, [.int ((nI N)), .int ((nI Z)), .ref a1, .ref a2, .ref a3])), (a1, .inl (cI, 81, .inl care)), (a2, .inl (cI, 81, .inl bits)), (a3, .inl (cI, 81, .inl had))] := hD
        rw [show (nI i).toNatClampNeg = i from nI_clamp (by omega)] at hP hD
        refine lv_iinc (v := (nI (i + 1))) (lv' := [(4, .int ((nI (i + 1)))), (0, .ref f0), (1, .ref b0), (2, .int ((nI j))), (3, .int ((fNot prod kind had M j ^^^ (-1))))]) hx hb d_PrimeFinder_fillOuts_86 hl (k := 4) rfl (show nI i + 1 = nI (i + 1) from nI_1 i) (by decide) rfl (fun ls hl => ?_)
        refine lv_goto (tgt := 47) hx hb d_PrimeFinder_fillOuts_89 (by decide) ?_
        have hs : fOutsI had (fNot prod kind had M j ^^^ (-1)) j (fOuts prod kind had M Z outs j) (i + 1) = upd (fOutsI had (fNot prod kind had M j ^^^ (-1)) j (fOuts prod kind had M Z outs j) i) i ((fOutsI had (fNot prod kind had M j ^^^ (-1)) j (fOuts prod kind had M Z outs j) i) i ||| (1 <<< (nI j &&& 31))) := if_pos c_70
        exact ih (i + 1) (by omega) (by omega) _ _ ls (by rw [hs]; exact hP.sub [0, 1, 2, 3, 4, 5, 6, 7, 8] rfl) (by rw [hs]; exact hD.sub [0, 1, 2, 3, 4, 5, 6, 7, 8] (by decide) rfl) hS (lv_sub hl [1, 2, 3, 4, 0] rfl)
set_option maxHeartbeats 4000000 in
set_option maxRecDepth 100000 in
theorem lp_PrimeFinder_fillOuts3 {p : Program} {e : Env} {s : State} {m : MethodId} {args : Array Value} {below : List Frame} {meth : Method} {c : Code} (l : Launch) (dC : Nat → ClassId) (dI : Nat → Nat → Nat) (cI cJ : ClassId) (f0 : Nat) (f1 : Nat) (outs : Nat → Int32) (b0 : Nat) (b1 : Nat) (b2 : Nat) (M : Nat) (OU : Nat) (prod : Nat → Int32) (kind : Nat → Int32) (a0 : Nat) (a1 : Nat) (a2 : Nat) (a3 : Nat) (N : Nat) (Z : Nat) (care : Nat → Int32) (bits : Nat → Int32) (had : Nat → Int32) (hM : M ≤ 24) (hOU : OU ≤ 2) (hpr : ∀ c, c < M → vp_in (prod c) 81) (hZ : Z ≤ 81) (hx : p.tables.exec = Jvm.exec) (hb : c.code = b_PrimeFinder_fillOuts) (hr : meth.sig.returnType = none) (hts : ∀ w ∈ lwg, w.before args s = true) (hown : s.vm.findClass R_PrimeFinder = some m.cls) (hlocks : meth.locks = false) (hml : c.maxLocals = 5) (hK : va_K (dC, dI) classes [(cI, .int), (cJ, .long)] s) {A : Nat → Prop} (hA : ∀ q : Nat, s.heap.size ≤ q → A q) : ∀ (k i : Nat), OU - i < k → i ≤ OU → ∀ (H : Heap) (locs : List Loc) (ls : Array Slot), va_P (dC, dI) classes [(f0, .inr (4, [.ref a0, .int ((nI OU)), .ref f1])), (f1, .inl (cI, 81, .inl ((fOuts prod kind had M Z outs i)))), (b0, .inr (1, [.ref a0, .int ((nI OU)), .ref b1, .ref b2, .int ((nI M))])), (b1, .inl (cI, 24, .inl prod)), (b2, .inl (cI, 48, .inl kind)), (a0, .inr (5, [.int ((nI N)), .int ((nI Z)), .ref a1, .ref a2, .ref a3])), (a1, .inl (cI, 81, .inl care)), (a2, .inl (cI, 81, .inl bits)), (a3, .inl (cI, 81, .inl had))] H → va_D A [(f0, .inr (4, [.ref a0, .int ((nI OU)), .ref f1])), (f1, .inl (cI, 81, .inl ((fOuts prod kind had M Z outs i)))), (b0, .inr (1, [.ref a0, .int ((nI OU)), .ref b1, .ref b2, .int ((nI M))])), (b1, .inl (cI, 24, .inl prod)), (b2, .inl (cI, 48, .inl kind)), (a0, .inr (5, [.int ((nI N)), .int ((nI Z)), .ref a1, .ref a2, .ref a3])), (a1, .inl (cI, 81, .inl care)), (a2, .inl (cI, 81, .inl bits)), (a3, .inl (cI, 81, .inl had))] → va_S A s.heap H locs → lv_has ls 5 [(0, .ref f0), (1, .ref b0), (2, .int ((nI i)))] → W p l e ({ frames := 3, cells := 0, slots := 0, locals := 66 } : Room) s m args below meth c H locs 0 0 (MQ below (va_Qv (fun _ : Unit => True) (fun _ => at_w dC dI cI cJ A [(f0, .inr (4, [.ref a0, .int ((nI OU)), .ref f1])), (f1, .inl (cI, 81, .inl ((fOuts prod kind had M Z outs OU)))), (b0, .inr (1, [.ref a0, .int ((nI OU)), .ref b1, .ref b2, .int ((nI M))])), (b1, .inl (cI, 24, .inl prod)), (b2, .inl (cI, 48, .inl kind)), (a0, .inr (5, [.int ((nI N)), .int ((nI Z)), .ref a1, .ref a2, .ref a3])), (a1, .inl (cI, 81, .inl care)), (a2, .inl (cI, 81, .inl bits)), (a3, .inl (cI, 81, .inl had))]) A) args s 0 0 A) (F0 m 28 ls []) := by
  intro k
  induction k with
  | zero => intro i h; omega
  | succ k ih =>
    intro i hk hi H locs ls hP hD hS hl
    refine lv_iload_n hx hb d_PrimeFinder_fillOuts_28 rfl (lv_at hl 2 rfl) ?_
    refine lv_aload_n hx hb d_PrimeFinder_fillOuts_29 rfl (lv_at hl 0 rfl) ?_
    refine va_get (D := (dC, dI)) (ci := 4) (v := .int ((nI OU))) (C := R_PrimeFinder) (T := F_PrimeFinder) (N := 3) hx hb hts i_PrimeFinder hown hK hP 0 rfl rfl 1 (by decide) (hts _ mw_fl_PrimeFinder_19) (fun _ h9 => h9) rfl d_PrimeFinder_fillOuts_30 ?_
    refine lv_icmp_ge (tgt := 98) hx hb d_PrimeFinder_fillOuts_33 (by decide) (fun c_33 => ?_) (fun c_33 => ?_)
    · have hE : i = OU := Nat.le_antisymm hi ((nI_leI (by omega) (by omega)).mp c_33)
      have hP9 := hP.sub (ws' := [(f0, .inr (4, [.ref a0, .int ((nI OU)), .ref f1])), (f1, .inl (cI, 81, .inl ((fOuts prod kind had M Z outs OU)))), (b0, .inr (1, [.ref a0, .int ((nI OU)), .ref b1, .ref b2, .int ((nI M))])), (b1, .inl (cI, 24, .inl prod)), (b2, .inl (cI, 48, .inl kind)), (a0, .inr (5, [.int ((nI N)), .int ((nI Z)), .ref a1, .ref a2, .ref a3])), (a1, .inl (cI, 81, .inl care)), (a2, .inl (cI, 81, .inl bits)), (a3, .inl (cI, 81, .inl had))]) [0, 1, 2, 3, 4, 5, 6, 7, 8] (by subst hE; rfl)
      have hD9 := hD.sub (ws' := [(f0, .inr (4, [.ref a0, .int ((nI OU)), .ref f1])), (f1, .inl (cI, 81, .inl ((fOuts prod kind had M Z outs OU)))), (b0, .inr (1, [.ref a0, .int ((nI OU)), .ref b1, .ref b2, .int ((nI M))])), (b1, .inl (cI, 24, .inl prod)), (b2, .inl (cI, 48, .inl kind)), (a0, .inr (5, [.int ((nI N)), .int ((nI Z)), .ref a1, .ref a2, .ref a3])), (a1, .inl (cI, 81, .inl care)), (a2, .inl (cI, 81, .inl bits)), (a3, .inl (cI, 81, .inl had))]) [0, 1, 2, 3, 4, 5, 6, 7, 8] (by decide) (by subst hE; rfl)
      exact W.vret hx hb hr (fun t ht hW => ⟨⟨(), rfl, trivial, by rw [ht]; exact hP9, va_K.moved hW.alike hK, hD9⟩, hS.F ht⟩) hS.2.2 d_PrimeFinder_fillOuts_98
    · have hlt : i < OU := Nat.lt_of_not_le (fun h => c_33 ((nI_leI (by omega) (by omega)).mpr h))
      refine lv_aload_n hx hb d_PrimeFinder_fillOuts_36 rfl (lv_at hl 1 rfl) ?_
      refine lv_iload_n hx hb d_PrimeFinder_fillOuts_37 rfl (lv_at hl 2 rfl) ?_
      refine vp_callSi (W.runV (As := [.int ((nI i))]) (rest := []) ⟨hx, hb, hml, hown, hts⟩ (c_Cubes_notOff l dC dI cI cJ b0 b1 b2 M (nI OU) prod kind a0 a1 a2 a3 (nI N) (nI Z) care bits had i hM (by omega) hpr) (cwV 1 hts (ct_goodV mw_ml_PrimeFinder_46 mw_im_Cubes_notOff mw_se_Cubes_notOff mw_ini_Cubes mw_code_Cubes_notOff) rfl rfl rfl (by decide +kernel) ⟨Nat.le_of_ble_eq_true rfl, Nat.le_of_ble_eq_true rfl⟩) ⟨fun a U g mk q => by obtain ⟨q0, qP, qK⟩ := q; exact ⟨q0, qP, va_K.moved (u := U) (U := U.calling g mk a) (Vm.Alike.refl U.vm) qK⟩, va_recv hK hP (ci := 1) (q0 := 2) rfl rfl, fun U hU hW => ⟨rfl, by rw [hU]; exact (hP.sub (ws' := (wC cI b0 b1 b2 a0 M (nI OU) prod kind ++ wP cI a0 a1 a2 a3 (nI N) (nI Z) care bits had)) [2, 3, 4, 5, 6, 7, 8] rfl), va_K.moved hW.alike hK⟩⟩ rfl rfl hl.1 rfl (lv_room (Nat.le_of_ble_eq_true rfl)) d_PrimeFinder_fillOuts_38 ⟨Nat.le_of_ble_eq_true rfl, Nat.le_of_ble_eq_true rfl⟩) (fun r_1 hr_1 => ?_)
      rw [hr_1]
      clear hr_1
      refine w_ti (show _ = fNot prod kind had M i from rfl) ?_
      refine lv_iconst (v := (-1)) hx hb d_PrimeFinder_fillOuts_41 (by decide) ?_
      refine lv_ixor hx hb d_PrimeFinder_fillOuts_42 ?_
      refine lv_istore_n (lv' := [(3, .int (((fNot prod kind had M i) ^^^ (-1)))), (0, .ref f0), (1, .ref b0), (2, .int ((nI i)))]) hx hb d_PrimeFinder_fillOuts_43 rfl hl (by decide) rfl (fun ls hl => ?_)
      refine lv_iconst (v := 0) hx hb d_PrimeFinder_fillOuts_44 (by decide) ?_
      refine lv_istore (lv' := [(4, .int 0), (3, .int (((fNot prod kind had M i) ^^^ (-1)))), (0, .ref f0), (1, .ref b0), (2, .int ((nI i)))]) hx hb d_PrimeFinder_fillOuts_45 hl (by decide) rfl (fun ls hl => ?_)
      refine lp_PrimeFinder_fillOuts2 l dC dI cI cJ f0 f1 outs b0 b1 b2 M OU prod kind a0 a1 a2 a3 N Z care bits had hM hOU hpr hZ i hlt hx hb hts hown hml hK hA (fun H locs ls hP hD hS hl => ?_) (Z + 1) 0 (by omega) (Nat.zero_le _) _ _ ls (hP.sub [0, 1, 2, 3, 4, 5, 6, 7, 8] rfl) (hD.sub [0, 1, 2, 3, 4, 5, 6, 7, 8] (by decide) rfl) hS (lv_sub hl [2, 3, 4, 1, 0] rfl)
      have hP : va_P (dC, dI) classes [(f0, .inr (4, [.ref a0, .int ((nI OU)), .ref f1])), (f1, .inl (cI, 81, .inl ((fOutsI had (fNot prod kind had M i ^^^ (-1)) i (fOuts prod kind had M Z outs i) Z)))), (b0, .inr (1, [.ref a0, .int ((nI OU)), .ref b1, .ref b2, .int ((nI M))])), (b1, .inl (cI, 24, .inl prod)), (b2, .inl (cI, 48, .inl kind)), (a0, .inr (5, [.int ((nI N)), .int ((nI Z)), .ref a1, .ref a2, .ref a3])), (a1, .inl (cI, 81, .inl care)), (a2, .inl (cI, 81, .inl bits)), (a3, .inl (cI, 81, .inl had))] H := hP
      have hD : va_D A [(f0, .inr (4, [.ref a0, .int ((nI OU)), .ref f1])), (f1, .inl (cI, 81, .inl ((fOutsI had (fNot prod kind had M i ^^^ (-1)) i (fOuts prod kind had M Z outs i) Z)))), (b0, .inr (1, [.ref a0, .int ((nI OU)), .ref b1, .ref b2, .int ((nI M))])), (b1, .inl (cI, 24, .inl prod)), (b2, .inl (cI, 48, .inl kind)), (a0, .inr (5, [.int ((nI N)), .int ((nI Z)), .ref a1, .ref a2, .ref a3])), (a1, .inl (cI, 81, .inl care)), (a2, .inl (cI, 81, .inl bits)), (a3, .inl (cI, 81, .inl had))] := hD
      have hl : lv_has ls 5 [(0, .ref f0), (1, .ref b0), (2, .int ((nI i)))] := hl
      refine lv_iinc (v := (nI (i + 1))) (lv' := [(2, .int ((nI (i + 1)))), (0, .ref f0), (1, .ref b0)]) hx hb d_PrimeFinder_fillOuts_92 hl (k := 2) rfl (show nI i + 1 = nI (i + 1) from nI_1 i) (by decide) rfl (fun ls hl => ?_)
      refine lv_goto (tgt := 28) hx hb d_PrimeFinder_fillOuts_95 (by decide) ?_
      exact ih (i + 1) (by omega) (by omega) _ _ ls (hP.sub [0, 1, 2, 3, 4, 5, 6, 7, 8] rfl) (hD.sub [0, 1, 2, 3, 4, 5, 6, 7, 8] (by decide) rfl) hS (lv_sub hl [1, 2, 0] rfl)
set_option maxHeartbeats 4000000 in
set_option maxRecDepth 100000 in
theorem c_PrimeFinder_fillOuts (l : Launch) (dC : Nat → ClassId) (dI : Nat → Nat → Nat) (cI cJ : ClassId) (sz0 : Nat) (f0 : Nat) (f1 : Nat) (outs : Nat → Int32) (b0 : Nat) (b1 : Nat) (b2 : Nat) (M : Nat) (OU : Nat) (prod : Nat → Int32) (kind : Nat → Int32) (a0 : Nat) (a1 : Nat) (a2 : Nat) (a3 : Nat) (N : Nat) (Z : Nat) (care : Nat → Int32) (bits : Nat → Int32) (had : Nat → Int32) (hM : M ≤ 24) (hOU : OU ≤ 2) (hpr : ∀ c, c < M → vp_in (prod c) 81) (hZ : Z ≤ 81) : Met l y_PrimeFinder_fillOuts (ct y_PrimeFinder_fillOuts b_PrimeFinder_fillOuts 5 (none)) ({ frames := 3, cells := 0, slots := 0, locals := 66 }) (va_Pc [.ref f0, .ref b0] (fun U => U.heap.size = sz0 ∧ va_P (dC, dI) classes [(f0, .inr (4, [.ref a0, .int ((nI OU)), .ref f1])), (f1, .inl (cI, 81, .inl outs)), (b0, .inr (1, [.ref a0, .int ((nI OU)), .ref b1, .ref b2, .int ((nI M))])), (b1, .inl (cI, 24, .inl prod)), (b2, .inl (cI, 48, .inl kind)), (a0, .inr (5, [.int ((nI N)), .int ((nI Z)), .ref a1, .ref a2, .ref a3])), (a1, .inl (cI, 81, .inl care)), (a2, .inl (cI, 81, .inl bits)), (a3, .inl (cI, 81, .inl had))] U.heap ∧ va_K (dC, dI) classes [(cI, .int), (cJ, .long)] U ∧ va_D (fun _ => True) [(f0, .inr (4, [.ref a0, .int ((nI OU)), .ref f1])), (f1, .inl (cI, 81, .inl outs)), (b0, .inr (1, [.ref a0, .int ((nI OU)), .ref b1, .ref b2, .int ((nI M))])), (b1, .inl (cI, 24, .inl prod)), (b2, .inl (cI, 48, .inl kind)), (a0, .inr (5, [.int ((nI N)), .int ((nI Z)), .ref a1, .ref a2, .ref a3])), (a1, .inl (cI, 81, .inl care)), (a2, .inl (cI, 81, .inl bits)), (a3, .inl (cI, 81, .inl had))])) (va_Qv (fun _ : Unit => True) (fun _ => at_w dC dI cI cJ (va_A [(f0, .inr (4, [.ref a0, .int ((nI OU)), .ref f1])), (f1, .inl (cI, 81, .inl outs)), (b0, .inr (1, [.ref a0, .int ((nI OU)), .ref b1, .ref b2, .int ((nI M))])), (b1, .inl (cI, 24, .inl prod)), (b2, .inl (cI, 48, .inl kind)), (a0, .inr (5, [.int ((nI N)), .int ((nI Z)), .ref a1, .ref a2, .ref a3])), (a1, .inl (cI, 81, .inl care)), (a2, .inl (cI, 81, .inl bits)), (a3, .inl (cI, 81, .inl had))] sz0) [(f0, .inr (4, [.ref a0, .int ((nI OU)), .ref f1])), (f1, .inl (cI, 81, .inl ((fOuts prod kind had M Z outs OU)))), (b0, .inr (1, [.ref a0, .int ((nI OU)), .ref b1, .ref b2, .int ((nI M))])), (b1, .inl (cI, 24, .inl prod)), (b2, .inl (cI, 48, .inl kind)), (a0, .inr (5, [.int ((nI N)), .int ((nI Z)), .ref a1, .ref a2, .ref a3])), (a1, .inl (cI, 81, .inl care)), (a2, .inl (cI, 81, .inl bits)), (a3, .inl (cI, 81, .inl had))]) (va_A [(f0, .inr (4, [.ref a0, .int ((nI OU)), .ref f1])), (f1, .inl (cI, 81, .inl outs)), (b0, .inr (1, [.ref a0, .int ((nI OU)), .ref b1, .ref b2, .int ((nI M))])), (b1, .inl (cI, 24, .inl prod)), (b2, .inl (cI, 48, .inl kind)), (a0, .inr (5, [.int ((nI N)), .int ((nI Z)), .ref a1, .ref a2, .ref a3])), (a1, .inl (cI, 81, .inl care)), (a2, .inl (cI, 81, .inl bits)), (a3, .inl (cI, 81, .inl had))] sz0)) 0 0 (va_A [(f0, .inr (4, [.ref a0, .int ((nI OU)), .ref f1])), (f1, .inl (cI, 81, .inl outs)), (b0, .inr (1, [.ref a0, .int ((nI OU)), .ref b1, .ref b2, .int ((nI M))])), (b1, .inl (cI, 24, .inl prod)), (b2, .inl (cI, 48, .inl kind)), (a0, .inr (5, [.int ((nI N)), .int ((nI Z)), .ref a1, .ref a2, .ref a3])), (a1, .inl (cI, 81, .inl care)), (a2, .inl (cI, 81, .inl bits)), (a3, .inl (cI, 81, .inl had))] sz0) := by
  refine Met.ofW (cc := b_PrimeFinder_fillOuts) (maxL := 5) (ret := none) (by decide) rfl ?_
  intro p e s m args below meth c s₁ B hml hv
  obtain ⟨rfl, hsz, hP, hK, hD0⟩ := hv
  have hx := B.exec
  have hb := B.bytes
  have hr := B.returns
  have hts : ∀ w ∈ lwg, w.before _ s = true := fun w h => atoms_spec (ws := ct y_PrimeFinder_fillOuts b_PrimeFinder_fillOuts 5 (none)) B.pre w (List.mem_cons_of_mem _ h)
  have hown : s.vm.findClass R_PrimeFinder = some m.cls := findClass_of_methodNamed B.named
  have hlocks := B.notSynchronized
  subst hsz
  have hD := hD0.self (sz := s.heap.size)
  generalize hAe : va_A [(f0, .inr (4, [.ref a0, .int ((nI OU)), .ref f1])), (f1, .inl (cI, 81, .inl outs)), (b0, .inr (1, [.ref a0, .int ((nI OU)), .ref b1, .ref b2, .int ((nI M))])), (b1, .inl (cI, 24, .inl prod)), (b2, .inl (cI, 48, .inl kind)), (a0, .inr (5, [.int ((nI N)), .int ((nI Z)), .ref a1, .ref a2, .ref a3])), (a1, .inl (cI, 81, .inl care)), (a2, .inl (cI, 81, .inl bits)), (a3, .inl (cI, 81, .inl had))] s.heap.size = A at hD ⊢
  have hA : ∀ q : Nat, s.heap.size ≤ q → A q := fun q h => by rw [← hAe]; exact Or.inr h
  have hS : va_S A s.heap s.heap [] := va_S.rf
  have hl := lv_entry ([.ref f0, .ref b0]) (n := 5) (Nat.le_of_ble_eq_true rfl)
  rw [lg_entry_eq]
  generalize (lg_sl ([.ref f0, .ref b0]) ++ List.replicate (5 - (lg_sl ([.ref f0, .ref b0])).length) Slot.unset).toArray = ls at hl ⊢
  have hl : lv_has ls 5 [(0, .ref f0), (1, .ref b0)] := hl
  have hP : va_P (dC, dI) classes [(f0, .inr (4, [.ref a0, .int ((nI OU)), .ref f1])), (f1, .inl (cI, 81, .inl outs)), (b0, .inr (1, [.ref a0, .int ((nI OU)), .ref b1, .ref b2, .int ((nI M))])), (b1, .inl (cI, 24, .inl prod)), (b2, .inl (cI, 48, .inl kind)), (a0, .inr (5, [.int ((nI N)), .int ((nI Z)), .ref a1, .ref a2, .ref a3])), (a1, .inl (cI, 81, .inl care)), (a2, .inl (cI, 81, .inl bits)), (a3, .inl (cI, 81, .inl had))] s.heap := hP
  refine lv_iconst (v := 0) hx hb d_PrimeFinder_fillOuts_0 (by decide) ?_
  refine lv_istore_n (lv' := [(2, .int 0), (0, .ref f0), (1, .ref b0)]) hx hb d_PrimeFinder_fillOuts_1 rfl hl (by decide) rfl (fun ls hl => ?_)
  refine lp_PrimeFinder_fillOuts1 l dC dI cI cJ f0 f1 outs b0 b1 b2 M OU prod kind a0 a1 a2 a3 N Z care bits had hM hOU hpr hZ   hx hb hts hown hml hK hA (fun H locs ls hP hD hS hl => ?_) (Z + 1) 0 (by omega) (Nat.zero_le _) _ _ ls (hP.sub [0, 1, 2, 3, 4, 5, 6, 7, 8] rfl) (hD.sub [0, 1, 2, 3, 4, 5, 6, 7, 8] (by decide) rfl) hS (lv_sub hl [1, 2, 0] rfl)
  have hP : va_P (dC, dI) classes [(f0, .inr (4, [.ref a0, .int ((nI OU)), .ref f1])), (f1, .inl (cI, 81, .inl ((fOuts0 outs Z)))), (b0, .inr (1, [.ref a0, .int ((nI OU)), .ref b1, .ref b2, .int ((nI M))])), (b1, .inl (cI, 24, .inl prod)), (b2, .inl (cI, 48, .inl kind)), (a0, .inr (5, [.int ((nI N)), .int ((nI Z)), .ref a1, .ref a2, .ref a3])), (a1, .inl (cI, 81, .inl care)), (a2, .inl (cI, 81, .inl bits)), (a3, .inl (cI, 81, .inl had))] H := hP
  have hD : va_D A [(f0, .inr (4, [.ref a0, .int ((nI OU)), .ref f1])), (f1, .inl (cI, 81, .inl ((fOuts0 outs Z)))), (b0, .inr (1, [.ref a0, .int ((nI OU)), .ref b1, .ref b2, .int ((nI M))])), (b1, .inl (cI, 24, .inl prod)), (b2, .inl (cI, 48, .inl kind)), (a0, .inr (5, [.int ((nI N)), .int ((nI Z)), .ref a1, .ref a2, .ref a3])), (a1, .inl (cI, 81, .inl care)), (a2, .inl (cI, 81, .inl bits)), (a3, .inl (cI, 81, .inl had))] := hD
  have hl : lv_has ls 5 [(0, .ref f0), (1, .ref b0)] := hl
  refine lv_iconst (v := 0) hx hb d_PrimeFinder_fillOuts_26 (by decide) ?_
  refine lv_istore_n (lv' := [(2, .int 0), (0, .ref f0), (1, .ref b0)]) hx hb d_PrimeFinder_fillOuts_27 rfl hl (by decide) rfl (fun ls hl => ?_)
  exact lp_PrimeFinder_fillOuts3 l dC dI cI cJ f0 f1 outs b0 b1 b2 M OU prod kind a0 a1 a2 a3 N Z care bits had hM hOU hpr hZ hx hb hr hts hown hlocks hml hK hA (OU + 1) 0 (by omega) (Nat.zero_le _) _ _ ls (hP.sub [0, 1, 2, 3, 4, 5, 6, 7, 8] rfl) (hD.sub [0, 1, 2, 3, 4, 5, 6, 7, 8] (by decide) rfl) hS (lv_sub hl [1, 2, 0] rfl)
