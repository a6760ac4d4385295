/-! ===== the reference: divided, isIn ===== -/
def rDvd (N q b : Nat) : Nat → Nat → Int32 → Int32
  | 0, _, acc => acc
  | n + 1, i, acc => if nI (rDig N b i) = 2 then rDvd N q b n (i + 1) (3 * acc + nI (rDig N q i)) else if nI (rDig N q i) = nI (rDig N b i) then rDvd N q b n (i + 1) (3 * acc + 2) else -1
def rIn (kpr : Nat → Int32) (N : Nat) (pr : Int32) (b k : Nat) : Int32 := itr (fun k acc => if acc = 0 then (if rDvd N (kpr k).toNatClampNeg b N 0 0 = pr then 1 else 0) else 1) k 0
theorem rIn_z (kpr : Nat → Int32) (N : Nat) (pr : Int32) (b k : Nat) : narrow .boolean (.int (rIn kpr N pr b k)) = .int (rIn kpr N pr b k) := by
  have h : rIn kpr N pr b k = 0 ∨ rIn kpr N pr b k = 1 := by
    cases k with
    | zero => exact Or.inl rfl
    | succ k =>
      rw [show rIn kpr N pr b (k + 1) = (if rIn kpr N pr b k = 0 then (if rDvd N (kpr k).toNatClampNeg b N 0 0 = pr then 1 else 0) else 1) from rfl]
      split
      · split
        · exact Or.inr rfl
        · exact Or.inl rfl
      · exact Or.inr rfl
  rcases h with h | h <;> rw [h] <;> rfl
set_option maxHeartbeats 1000000 in
set_option maxRecDepth 100000 in
theorem lp_Ref_divided {p : Program} {e : Env} {s : State} {m : MethodId} {args : Array Value} {below : List Frame} {meth : Method} {c : Code} (l : Launch) (dC : Nat → ClassId) (dI : Nat → Nat → Nat) (cI cJ : ClassId) (r0 : Nat) (th : Int32) (N : Nat) (OU : Nat) (Z : Nat) (r1 : Nat) (r2 : Nat) (M : Nat) (r3 : Nat) (r4 : Nat) (r5 : Nat) (r6 : Nat) (r7 : Nat) (r8 : Nat) (PK : Nat) (r9 : Nat) (kp : Int32) (r10 : Nat) (r11 : Nat) (TK : Nat) (r12 : Nat) (qc : Int32) (r13 : Nat) (r14 : Nat) (bst : Int32) (r15 : Nat) (p0 : Int32) (p1 : Int32) (hN : N ≤ 4) (hp : vp_in p0 81) (hp1 : vp_in p1 81) (hx : p.tables.exec = Jvm.exec) (hb : c.code = b_Ref_divided) (hr : meth.sig.returnType = some .int) (hts : ∀ w ∈ lwg, w.before args s = true) (hown : s.vm.findClass R_Ref = some m.cls) (hlocks : meth.locks = false) (hml : c.maxLocals = 7) (hP : va_P (dC, dI) classes [(r0, .inr (8, [.int th, .int ((nI N)), .int ((nI OU)), .int ((nI Z)), .ref r1, .ref r2, .int ((nI M)), .ref r3, .ref r4, .ref r5, .ref r6, .ref r7, .ref r8, .int ((nI PK)), .ref r9, .int kp, .ref r10, .ref r11, .int ((nI TK)), .ref r12, .int qc, .ref r13, .ref r14, .int bst, .ref r15]))] s.heap) (hK : va_K (dC, dI) classes [(cI, .int), (cJ, .long)] s) : ∀ (fu i : Nat), N - i < fu → i ≤ N → ∀ acc : Int32, rDvd N p0.toNatClampNeg p1.toNatClampNeg (N - i) i acc = rDvd N p0.toNatClampNeg p1.toNatClampNeg N 0 0 → ∀ ls : Array Slot, lv_has ls 7 [(0, .ref r0), (1, .int p0), (2, .int p1), (3, .int acc), (4, .int ((nI i)))] → W p l e ({ frames := 1, cells := 0, slots := 0, locals := 24 } : Room) s m args below meth c s.heap [] 0 0 (MQ below (vp_Si (fun r => r = rDvd N p0.toNatClampNeg p1.toNatClampNeg N 0 0)) args s 0 0 (fun _ => False)) (F0 m 5 ls []) := by
  intro fu
  induction fu with
  | zero => intro i h; omega
  | succ fu ih =>
    intro i hfu hle acc hI ls hl
    refine lv_iload hx hb d_Ref_divided_5 (lv_at hl 4 rfl) ?_
    refine lv_aload_n hx hb d_Ref_divided_7 rfl (lv_at hl 0 rfl) ?_
    refine va_get (D := (dC, dI)) (ci := 8) (v := .int ((nI N))) (C := R_Ref) (T := F_Ref) (N := 25) hx hb hts i_Ref hown hK hP 0 rfl rfl 1 (by decide) (hts _ mw_fl_Ref_55) (fun _ h9 => h9) rfl d_Ref_divided_8 ?_
    refine lv_icmp_ge (tgt := 70) hx hb d_Ref_divided_11 (by decide) (fun c_11 => ?_) (fun c_11 => ?_)
    · have hE : i = N := Nat.le_antisymm hle ((nI_leI (a := N) (b := i) (by omega) (by omega)).mp c_11)
      refine lv_iload_n hx hb d_Ref_divided_70 rfl (lv_at hl 3 rfl) ?_
      exact W.iret (v := acc) hx hb hr (fun t ht hW => ⟨_, rfl, (by subst hE; rw [Nat.sub_self] at hI; exact hI), ht⟩) (fun q h => by cases h) d_Ref_divided_71
    · have hlt : i < N := Nat.lt_of_not_le (fun h => c_11 ((nI_leI (a := N) (b := i) (by omega) (by omega)).mpr h))
      have h32 : N - i = (N - (i + 1)) + 1 := by omega
      rw [h32] at hI
      refine lv_aload_n hx hb d_Ref_divided_14 rfl (lv_at hl 0 rfl) ?_
      refine lv_iload_n hx hb d_Ref_divided_15 rfl (lv_at hl 1 rfl) ?_
      refine lv_iload hx hb d_Ref_divided_16 (lv_at hl 4 rfl) ?_
      refine vp_callSi (W.runV (As := [.int p0, .int ((nI i))]) (rest := []) ⟨hx, hb, hml, hown, hts⟩ (c2_Ref_digit l dC dI cI cJ r0 th N OU Z r1 r2 M r3 r4 r5 r6 r7 r8 PK r9 kp r10 r11 TK r12 qc r13 r14 bst r15 p0 i hN hp hlt) (cwV 2 hts (ct_goodV mw_ml_Ref_68 mw_im_Ref_digit mw_se_Ref_digit mw_ini_Ref mw_code_Ref_digit) rfl rfl rfl (by decide +kernel) ⟨Nat.le_of_ble_eq_true rfl, Nat.le_of_ble_eq_true rfl⟩) ⟨fun a U g mk q => by obtain ⟨q0, qP, qK⟩ := q; exact ⟨q0, qP, va_K.moved (u := U) (U := U.calling g mk a) (Vm.Alike.refl U.vm) qK⟩, va_recv hK hP (ci := 8) (q0 := 0) rfl rfl, fun U hU hW => ⟨rfl, by rw [hU]; exact hP, va_K.moved hW.alike hK⟩⟩ rfl rfl hl.1 rfl (lv_room (Nat.le_of_ble_eq_true rfl)) d_Ref_divided_18 ⟨Nat.le_of_ble_eq_true rfl, Nat.le_of_ble_eq_true rfl⟩) (fun r_1 hr_1 => ?_)
      rw [hr_1]
      clear hr_1
      refine lv_istore (lv' := [(5, .int ((nI (rDig N p0.toNatClampNeg i)))), (0, .ref r0), (1, .int p0), (2, .int p1), (3, .int acc), (4, .int ((nI i)))]) hx hb d_Ref_divided_21 hl (by decide) rfl (fun ls hl => ?_)
      refine lv_aload_n hx hb d_Ref_divided_23 rfl (lv_at hl 1 rfl) ?_
      refine lv_iload_n hx hb d_Ref_divided_24 rfl (lv_at hl 3 rfl) ?_
      refine lv_iload hx hb d_Ref_divided_25 (lv_at hl 5 rfl) ?_
      refine vp_callSi (W.runV (As := [.int p1, .int ((nI i))]) (rest := []) ⟨hx, hb, hml, hown, hts⟩ (c2_Ref_digit l dC dI cI cJ r0 th N OU Z r1 r2 M r3 r4 r5 r6 r7 r8 PK r9 kp r10 r11 TK r12 qc r13 r14 bst r15 p1 i hN hp1 hlt) (cwV 2 hts (ct_goodV mw_ml_Ref_68 mw_im_Ref_digit mw_se_Ref_digit mw_ini_Ref mw_code_Ref_digit) rfl rfl rfl (by decide +kernel) ⟨Nat.le_of_ble_eq_true rfl, Nat.le_of_ble_eq_true rfl⟩) ⟨fun a U g mk q => by obtain ⟨q0, qP, qK⟩ := q; exact ⟨q0, qP, va_K.moved (u := U) (U := U.calling g mk a) (Vm.Alike.refl U.vm) qK⟩, va_recv hK hP (ci := 8) (q0 := 0) rfl rfl, fun U hU hW => ⟨rfl, by rw [hU]; exact hP, va_K.moved hW.alike hK⟩⟩ rfl rfl hl.1 rfl (lv_room (Nat.le_of_ble_eq_true rfl)) d_Ref_divided_27 ⟨Nat.le_of_ble_eq_true rfl, Nat.le_of_ble_eq_true rfl⟩) (fun r_2 hr_2 => ?_)
      rw [hr_2]
      clear hr_2
      refine lv_istore (lv' := [(6, .int ((nI (rDig N p1.toNatClampNeg i)))), (5, .int ((nI (rDig N p0.toNatClampNeg i)))), (0, .ref r0), (1, .int p0), (2, .int p1), (3, .int acc), (4, .int ((nI i)))]) hx hb d_Ref_divided_30 hl (by decide) rfl (fun ls hl => ?_)
      refine lv_iload hx hb d_Ref_divided_32 (lv_at hl 0 rfl) ?_
      refine lv_iconst (v := 2) hx hb d_Ref_divided_34 (by decide) ?_
      refine lv_icmp_eq (tgt := 47) hx hb d_Ref_divided_35 (by decide) (fun c_35 => ?_) (fun c_35 => ?_)
      · refine lv_iconst (v := 3) hx hb d_Ref_divided_47 (by decide) ?_
        refine lv_iload_n hx hb d_Ref_divided_48 rfl (lv_at hl 5 rfl) ?_
        refine lv_imul hx hb d_Ref_divided_49 ?_
        refine lv_iload hx hb d_Ref_divided_50 (lv_at hl 0 rfl) ?_
        refine lv_iconst (v := 2) hx hb d_Ref_divided_52 (by decide) ?_
        refine lv_icmp_eq (tgt := 60) hx hb d_Ref_divided_53 (by decide) (fun c_53 => ?_) (fun c_53 => ?_)
        · refine lv_iload hx hb d_Ref_divided_60 (lv_at hl 1 rfl) ?_
          refine lv_iadd hx hb d_Ref_divided_62 ?_
          refine lv_istore_n (lv' := [(3, .int (((3 * acc) + (nI (rDig N p0.toNatClampNeg i))))), (6, .int ((nI (rDig N p1.toNatClampNeg i)))), (5, .int ((nI (rDig N p0.toNatClampNeg i)))), (0, .ref r0), (1, .int p0), (2, .int p1), (4, .int ((nI i)))]) hx hb d_Ref_divided_63 rfl hl (by decide) rfl (fun ls hl => ?_)
          refine lv_iinc (v := (nI (i + 1))) (lv' := [(4, .int ((nI (i + 1)))), (3, .int (((3 * acc) + (nI (rDig N p0.toNatClampNeg i))))), (6, .int ((nI (rDig N p1.toNatClampNeg i)))), (5, .int ((nI (rDig N p0.toNatClampNeg i)))), (0, .ref r0), (1, .int p0), (2, .int p1)]) hx hb d_Ref_divided_64 hl (k := 6) rfl (show nI i + 1 = nI (i + 1) from nI_1 i) (by decide) rfl (fun ls hl => ?_)
          refine lv_goto (tgt := 5) hx hb d_Ref_divided_67 (by decide) ?_
          exact ih (i + 1) (by omega) (by omega) _ ((if_pos c_35).symm.trans hI) ls (lv_sub hl [4, 5, 6, 1, 0] rfl)
        · exact absurd c_35 c_53
      · refine lv_iload hx hb d_Ref_divided_38 (lv_at hl 1 rfl) ?_
        refine lv_iload hx hb d_Ref_divided_40 (lv_at hl 0 rfl) ?_
        refine lv_icmp_eq (tgt := 47) hx hb d_Ref_divided_42 (by decide) (fun c_42 => ?_) (fun c_42 => ?_)
        · refine lv_iconst (v := 3) hx hb d_Ref_divided_47 (by decide) ?_
          refine lv_iload_n hx hb d_Ref_divided_48 rfl (lv_at hl 5 rfl) ?_
          refine lv_imul hx hb d_Ref_divided_49 ?_
          refine lv_iload hx hb d_Ref_divided_50 (lv_at hl 0 rfl) ?_
          refine lv_iconst (v := 2) hx hb d_Ref_divided_52 (by decide) ?_
          refine lv_icmp_eq (tgt := 60) hx hb d_Ref_divided_53 (by decide) (fun c_53 => ?_) (fun c_53 => ?_)
          · exact absurd c_53 c_35
          · refine lv_iconst (v := 2) hx hb d_Ref_divided_56 (by decide) ?_
            refine lv_goto (tgt := 62) hx hb d_Ref_divided_57 (by decide) ?_
            refine lv_iadd hx hb d_Ref_divided_62 ?_
            refine lv_istore_n (lv' := [(3, .int (((3 * acc) + 2))), (6, .int ((nI (rDig N p1.toNatClampNeg i)))), (5, .int ((nI (rDig N p0.toNatClampNeg i)))), (0, .ref r0), (1, .int p0), (2, .int p1), (4, .int ((nI i)))]) hx hb d_Ref_divided_63 rfl hl (by decide) rfl (fun ls hl => ?_)
            refine lv_iinc (v := (nI (i + 1))) (lv' := [(4, .int ((nI (i + 1)))), (3, .int (((3 * acc) + 2))), (6, .int ((nI (rDig N p1.toNatClampNeg i)))), (5, .int ((nI (rDig N p0.toNatClampNeg i)))), (0, .ref r0), (1, .int p0), (2, .int p1)]) hx hb d_Ref_divided_64 hl (k := 6) rfl (show nI i + 1 = nI (i + 1) from nI_1 i) (by decide) rfl (fun ls hl => ?_)
            refine lv_goto (tgt := 5) hx hb d_Ref_divided_67 (by decide) ?_
            exact ih (i + 1) (by omega) (by omega) _ (((if_neg c_35).trans (if_pos c_42)).symm.trans hI) ls (lv_sub hl [4, 5, 6, 1, 0] rfl)
        · refine lv_iconst (v := (-1)) hx hb d_Ref_divided_45 (by decide) ?_
          exact W.iret (v := (-1)) hx hb hr (fun t ht hW => ⟨_, rfl, (((if_neg c_35).trans (if_neg c_42)).symm.trans hI), ht⟩) (fun q h => by cases h) d_Ref_divided_46
set_option maxHeartbeats 1000000 in
set_option maxRecDepth 100000 in
theorem c_Ref_divided (l : Launch) (dC : Nat → ClassId) (dI : Nat → Nat → Nat) (cI cJ : ClassId) (r0 : Nat) (th : Int32) (N : Nat) (OU : Nat) (Z : Nat) (r1 : Nat) (r2 : Nat) (M : Nat) (r3 : Nat) (r4 : Nat) (r5 : Nat) (r6 : Nat) (r7 : Nat) (r8 : Nat) (PK : Nat) (r9 : Nat) (kp : Int32) (r10 : Nat) (r11 : Nat) (TK : Nat) (r12 : Nat) (qc : Int32) (r13 : Nat) (r14 : Nat) (bst : Int32) (r15 : Nat) (p0 : Int32) (p1 : Int32) (hN : N ≤ 4) (hp : vp_in p0 81) (hp1 : vp_in p1 81) : Met l y_Ref_divided (ct y_Ref_divided b_Ref_divided 7 (some .int)) ({ frames := 1, cells := 0, slots := 0, locals := 24 }) (va_Pc [.ref r0, .int p0, .int p1] (fun U => va_P (dC, dI) classes [(r0, .inr (8, [.int th, .int ((nI N)), .int ((nI OU)), .int ((nI Z)), .ref r1, .ref r2, .int ((nI M)), .ref r3, .ref r4, .ref r5, .ref r6, .ref r7, .ref r8, .int ((nI PK)), .ref r9, .int kp, .ref r10, .ref r11, .int ((nI TK)), .ref r12, .int qc, .ref r13, .ref r14, .int bst, .ref r15]))] U.heap ∧ va_K (dC, dI) classes [(cI, .int), (cJ, .long)] U)) (vp_Si (fun r => r = rDvd N p0.toNatClampNeg p1.toNatClampNeg N 0 0)) 0 0 (fun _ => False) := by
  refine Met.ofW (cc := b_Ref_divided) (maxL := 7) (ret := some .int) (by decide) rfl ?_
  intro p e s m args below meth c s₁ B hml hv
  obtain ⟨rfl, hP, hK⟩ := hv
  have hx := B.exec
  have hb := B.bytes
  have hr := B.returns
  have hts : ∀ w ∈ lwg, w.before _ s = true := fun w h => atoms_spec (ws := ct y_Ref_divided b_Ref_divided 7 (some .int)) B.pre w (List.mem_cons_of_mem _ h)
  have hown : s.vm.findClass R_Ref = some m.cls := findClass_of_methodNamed B.named
  have hlocks := B.notSynchronized
  have hl := lv_entry ([.ref r0, .int p0, .int p1]) (n := 7) (Nat.le_of_ble_eq_true rfl)
  rw [lg_entry_eq]
  generalize (lg_sl ([.ref r0, .int p0, .int p1]) ++ List.replicate (7 - (lg_sl ([.ref r0, .int p0, .int p1])).length) Slot.unset).toArray = ls at hl ⊢
  have hl : lv_has ls 7 [(0, .ref r0), (1, .int p0), (2, .int p1)] := hl
  refine lv_iconst (v := 0) hx hb d_Ref_divided_0 (by decide) ?_
  refine lv_istore_n (lv' := [(3, .int 0), (0, .ref r0), (1, .int p0), (2, .int p1)]) hx hb d_Ref_divided_1 rfl hl (by decide) rfl (fun ls hl => ?_)
  refine lv_iconst (v := 0) hx hb d_Ref_divided_2 (by decide) ?_
  refine lv_istore (lv' := [(4, .int 0), (3, .int 0), (0, .ref r0), (1, .int p0), (2, .int p1)]) hx hb d_Ref_divided_3 hl (by decide) rfl (fun ls hl => ?_)
  exact lp_Ref_divided l dC dI cI cJ r0 th N OU Z r1 r2 M r3 r4 r5 r6 r7 r8 PK r9 kp r10 r11 TK r12 qc r13 r14 bst r15 p0 p1 hN hp hp1 hx hb hr hts hown hlocks hml hP hK (N + 1) 0 (by omega) (Nat.zero_le _) _ rfl ls (lv_sub hl [2, 3, 4, 1, 0] rfl)
set_option maxHeartbeats 1000000 in
set_option maxRecDepth 100000 in
theorem lp_Ref_isIn {p : Program} {e : Env} {s : State} {m : MethodId} {args : Array Value} {below : List Frame} {meth : Method} {c : Code} (l : Launch) (dC : Nat → ClassId) (dI : Nat → Nat → Nat) (cI cJ : ClassId) (r0 : Nat) (th : Int32) (N : Nat) (OU : Nat) (Z : Nat) (r1 : Nat) (r2 : Nat) (M : Nat) (r3 : Nat) (r4 : Nat) (r5 : Nat) (r6 : Nat) (r7 : Nat) (r8 : Nat) (PK : Nat) (r9 : Nat) (kp : Int32) (r10 : Nat) (r11 : Nat) (TK : Nat) (r12 : Nat) (qc : Int32) (r13 : Nat) (r14 : Nat) (bst : Int32) (r15 : Nat) (kpr : Nat → Int32) (pr : Int32) (p1 : Int32) (hN : N ≤ 4) (hTK : TK ≤ 81) (hkp : ∀ k, k < TK → vp_in (kpr k) 81) (hp1 : vp_in p1 81) (hx : p.tables.exec = Jvm.exec) (hb : c.code = b_Ref_isIn) (hr : meth.sig.returnType = some .boolean) (hts : ∀ w ∈ lwg, w.before args s = true) (hown : s.vm.findClass R_Ref = some m.cls) (hlocks : meth.locks = false) (hml : c.maxLocals = 5) (hP : va_P (dC, dI) classes [(r0, .inr (8, [.int th, .int ((nI N)), .int ((nI OU)), .int ((nI Z)), .ref r1, .ref r2, .int ((nI M)), .ref r3, .ref r4, .ref r5, .ref r6, .ref r7, .ref r8, .int ((nI PK)), .ref r9, .int kp, .ref r10, .ref r11, .int ((nI TK)), .ref r12, .int qc, .ref r13, .ref r14, .int bst, .ref r15])), (r10, .inl (cI, 81, .inl kpr))] s.heap) (hK : va_K (dC, dI) classes [(cI, .int), (cJ, .long)] s) : ∀ (fu i : Nat), TK - i < fu → i ≤ TK → ∀ ls : Array Slot, lv_has ls 5 [(0, .ref r0), (1, .int pr), (2, .int p1), (3, .int ((rIn kpr N pr p1.toNatClampNeg i))), (4, .int ((nI i)))] → W p l e ({ frames := 2, cells := 0, slots := 0, locals := 50 } : Room) s m args below meth c s.heap [] 0 0 (MQ below (vp_Si (fun r => r = rIn kpr N pr p1.toNatClampNeg TK)) args s 0 0 (fun _ => False)) (F0 m 5 ls []) := by
  intro fu
  induction fu with
  | zero => intro i h; omega
  | succ fu ih =>
    intro i hfu hle ls hl
    refine lv_iload hx hb d_Ref_isIn_5 (lv_at hl 4 rfl) ?_
    refine lv_aload_n hx hb d_Ref_isIn_7 rfl (lv_at hl 0 rfl) ?_
    refine va_get (D := (dC, dI)) (ci := 8) (v := .int ((nI TK))) (C := R_Ref) (T := F_Ref) (N := 25) hx hb hts i_Ref hown hK hP 0 rfl rfl 18 (by decide) (hts _ mw_fl_Ref_110) (fun _ h9 => h9) rfl d_Ref_isIn_8 ?_
    refine lv_icmp_ge (tgt := 46) hx hb d_Ref_isIn_11 (by decide) (fun c_11 => ?_) (fun c_11 => ?_)
    · have hE : i = TK := Nat.le_antisymm hle ((nI_leI (a := TK) (b := i) (by omega) (by omega)).mp c_11)
      refine lv_iload_n hx hb d_Ref_isIn_46 rfl (lv_at hl 3 rfl) ?_
      exact W.zret (v := (rIn kpr N pr p1.toNatClampNeg i)) hx hb hr (rIn_z _ _ _ _ _) (fun t ht hW => ⟨_, rfl, by subst hE; rfl, ht⟩) (fun q h => by cases h) d_Ref_isIn_47
    · have hlt : i < TK := Nat.lt_of_not_le (fun h => c_11 ((nI_leI (a := TK) (b := i) (by omega) (by omega)).mpr h))
      refine lv_iload_n hx hb d_Ref_isIn_14 rfl (lv_at hl 3 rfl) ?_
      refine lv_if_ne (tgt := 34) hx hb d_Ref_isIn_15 (by decide) (fun c_15 => ?_) (fun c_15 => ?_)
      · refine lv_iconst (v := 1) hx hb d_Ref_isIn_34 (by decide) ?_
        refine lv_goto (tgt := 39) hx hb d_Ref_isIn_35 (by decide) ?_
        refine w_ti (show _ = rIn kpr N pr p1.toNatClampNeg (i + 1) from (if_neg c_15).symm) ?_
        refine lv_istore_n (lv' := [(3, .int ((rIn kpr N pr p1.toNatClampNeg (i + 1)))), (0, .ref r0), (1, .int pr), (2, .int p1), (4, .int ((nI i)))]) hx hb d_Ref_isIn_39 rfl hl (by decide) rfl (fun ls hl => ?_)
        refine lv_iinc (v := (nI (i + 1))) (lv' := [(4, .int ((nI (i + 1)))), (3, .int ((rIn kpr N pr p1.toNatClampNeg (i + 1)))), (0, .ref r0), (1, .int pr), (2, .int p1)]) hx hb d_Ref_isIn_40 hl (k := 4) rfl (show nI i + 1 = nI (i + 1) from nI_1 i) (by decide) rfl (fun ls hl => ?_)
        refine lv_goto (tgt := 5) hx hb d_Ref_isIn_43 (by decide) ?_
        exact ih (i + 1) (by omega) (by omega) ls (lv_sub hl [2, 3, 4, 1, 0] rfl)
      · refine lv_aload_n hx hb d_Ref_isIn_18 rfl (lv_at hl 0 rfl) ?_
        refine lv_aload_n hx hb d_Ref_isIn_19 rfl (lv_at hl 0 rfl) ?_
        refine va_get (D := (dC, dI)) (ci := 8) (v := .ref r10) (C := R_Ref) (T := F_Ref) (N := 25) hx hb hts i_Ref hown hK hP 0 rfl rfl 16 (by decide) (hts _ mw_fl_Ref_37) (fun _ h9 => h9) rfl d_Ref_isIn_20 ?_
        refine lv_iload hx hb d_Ref_isIn_23 (lv_at hl 4 rfl) ?_
        refine va_iald hx hb hK hP 1 0 rfl rfl (vp_in_nI (show i < 81 by omega) (by omega)) d_Ref_isIn_25 ?_
        refine w_ti (show _ = kpr i from by rw [nI_clamp (by omega)]) ?_
        refine lv_iload_n hx hb d_Ref_isIn_26 rfl (lv_at hl 2 rfl) ?_
        refine vp_callSi (W.runV (As := [.int ((kpr i)), .int p1]) (rest := []) ⟨hx, hb, hml, hown, hts⟩ (c_Ref_divided l dC dI cI cJ r0 th N OU Z r1 r2 M r3 r4 r5 r6 r7 r8 PK r9 kp r10 r11 TK r12 qc r13 r14 bst r15 (kpr i) p1 hN (hkp i hlt) hp1) (cwV 2 hts (ct_goodV mw_ml_Ref_123 mw_im_Ref_divided mw_se_Ref_divided mw_ini_Ref mw_code_Ref_divided) rfl rfl rfl (by decide +kernel) ⟨Nat.le_of_ble_eq_true rfl, Nat.le_of_ble_eq_true rfl⟩) ⟨fun a U g mk q => by obtain ⟨q0, qP, qK⟩ := q; exact ⟨q0, qP, va_K.moved (u := U) (U := U.calling g mk a) (Vm.Alike.refl U.vm) qK⟩, va_recv hK hP (ci := 8) (q0 := 0) rfl rfl, fun U hU hW => ⟨rfl, by rw [hU]; exact (hP.sub (ws' := [(r0, .inr (8, [.int th, .int ((nI N)), .int ((nI OU)), .int ((nI Z)), .ref r1, .ref r2, .int ((nI M)), .ref r3, .ref r4, .ref r5, .ref r6, .ref r7, .ref r8, .int ((nI PK)), .ref r9, .int kp, .ref r10, .ref r11, .int ((nI TK)), .ref r12, .int qc, .ref r13, .ref r14, .int bst, .ref r15]))]) [0] rfl), va_K.moved hW.alike hK⟩⟩ rfl rfl hl.1 rfl (lv_room (Nat.le_of_ble_eq_true rfl)) d_Ref_isIn_27 ⟨Nat.le_of_ble_eq_true rfl, Nat.le_of_ble_eq_true rfl⟩) (fun r_1 hr_1 => ?_)
        rw [hr_1]
        clear hr_1
        refine lv_iload_n hx hb d_Ref_isIn_30 rfl (lv_at hl 1 rfl) ?_
        refine lv_icmp_ne (tgt := 38) hx hb d_Ref_isIn_31 (by decide) (fun c_31 => ?_) (fun c_31 => ?_)
        · refine lv_iconst (v := 0) hx hb d_Ref_isIn_38 (by decide) ?_
          refine w_ti (show _ = rIn kpr N pr p1.toNatClampNeg (i + 1) from ((if_pos c_15).trans (if_neg c_31)).symm) ?_
          refine lv_istore_n (lv' := [(3, .int ((rIn kpr N pr p1.toNatClampNeg (i + 1)))), (0, .ref r0), (1, .int pr), (2, .int p1), (4, .int ((nI i)))]) hx hb d_Ref_isIn_39 rfl hl (by decide) rfl (fun ls hl => ?_)
          refine lv_iinc (v := (nI (i + 1))) (lv' := [(4, .int ((nI (i + 1)))), (3, .int ((rIn kpr N pr p1.toNatClampNeg (i + 1)))), (0, .ref r0), (1, .int pr), (2, .int p1)]) hx hb d_Ref_isIn_40 hl (k := 4) rfl (show nI i + 1 = nI (i + 1) from nI_1 i) (by decide) rfl (fun ls hl => ?_)
          refine lv_goto (tgt := 5) hx hb d_Ref_isIn_43 (by decide) ?_
          exact ih (i + 1) (by omega) (by omega) ls (lv_sub hl [2, 3, 4, 1, 0] rfl)
        · refine lv_iconst (v := 1) hx hb d_Ref_isIn_34 (by decide) ?_
          refine lv_goto (tgt := 39) hx hb d_Ref_isIn_35 (by decide) ?_
          refine w_ti (show _ = rIn kpr N pr p1.toNatClampNeg (i + 1) from ((if_pos c_15).trans (if_pos c_31)).symm) ?_
          refine lv_istore_n (lv' := [(3, .int ((rIn kpr N pr p1.toNatClampNeg (i + 1)))), (0, .ref r0), (1, .int pr), (2, .int p1), (4, .int ((nI i)))]) hx hb d_Ref_isIn_39 rfl hl (by decide) rfl (fun ls hl => ?_)
          refine lv_iinc (v := (nI (i + 1))) (lv' := [(4, .int ((nI (i + 1)))), (3, .int ((rIn kpr N pr p1.toNatClampNeg (i + 1)))), (0, .ref r0), (1, .int pr), (2, .int p1)]) hx hb d_Ref_isIn_40 hl (k := 4) rfl (show nI i + 1 = nI (i + 1) from nI_1 i) (by decide) rfl (fun ls hl => ?_)
          refine lv_goto (tgt := 5) hx hb d_Ref_isIn_43 (by decide) ?_
          exact ih (i + 1) (by omega) (by omega) ls (lv_sub hl [2, 3, 4, 1, 0] rfl)
set_option maxHeartbeats 1000000 in
set_option maxRecDepth 100000 in
theorem c_Ref_isIn (l : Launch) (dC : Nat → ClassId) (dI : Nat → Nat → Nat) (cI cJ : ClassId) (r0 : Nat) (th : Int32) (N : Nat) (OU : Nat) (Z : Nat) (r1 : Nat) (r2 : Nat) (M : Nat) (r3 : Nat) (r4 : Nat) (r5 : Nat) (r6 : Nat) (r7 : Nat) (r8 : Nat) (PK : Nat) (r9 : Nat) (kp : Int32) (r10 : Nat) (r11 : Nat) (TK : Nat) (r12 : Nat) (qc : Int32) (r13 : Nat) (r14 : Nat) (bst : Int32) (r15 : Nat) (kpr : Nat → Int32) (pr : Int32) (p1 : Int32) (hN : N ≤ 4) (hTK : TK ≤ 81) (hkp : ∀ k, k < TK → vp_in (kpr k) 81) (hp1 : vp_in p1 81) : Met l y_Ref_isIn (ct y_Ref_isIn b_Ref_isIn 5 (some .boolean)) ({ frames := 2, cells := 0, slots := 0, locals := 50 }) (va_Pc [.ref r0, .int pr, .int p1] (fun U => va_P (dC, dI) classes [(r0, .inr (8, [.int th, .int ((nI N)), .int ((nI OU)), .int ((nI Z)), .ref r1, .ref r2, .int ((nI M)), .ref r3, .ref r4, .ref r5, .ref r6, .ref r7, .ref r8, .int ((nI PK)), .ref r9, .int kp, .ref r10, .ref r11, .int ((nI TK)), .ref r12, .int qc, .ref r13, .ref r14, .int bst, .ref r15])), (r10, .inl (cI, 81, .inl kpr))] U.heap ∧ va_K (dC, dI) classes [(cI, .int), (cJ, .long)] U)) (vp_Si (fun r => r = rIn kpr N pr p1.toNatClampNeg TK)) 0 0 (fun _ => False) := by
  refine Met.ofW (cc := b_Ref_isIn) (maxL := 5) (ret := some .boolean) (by decide) rfl ?_
  intro p e s m args below meth c s₁ B hml hv
  obtain ⟨rfl, hP, hK⟩ := hv
  have hx := B.exec
  have hb := B.bytes
  have hr := B.returns
  have hts : ∀ w ∈ lwg, w.before _ s = true := fun w h => atoms_spec (ws := ct y_Ref_isIn b_Ref_isIn 5 (some .boolean)) B.pre w (List.mem_cons_of_mem _ h)
  have hown : s.vm.findClass R_Ref = some m.cls := findClass_of_methodNamed B.named
  have hlocks := B.notSynchronized
  have hl := lv_entry ([.ref r0, .int pr, .int p1]) (n := 5) (Nat.le_of_ble_eq_true rfl)
  rw [lg_entry_eq]
  generalize (lg_sl ([.ref r0, .int pr, .int p1]) ++ List.replicate (5 - (lg_sl ([.ref r0, .int pr, .int p1])).length) Slot.unset).toArray = ls at hl ⊢
  have hl : lv_has ls 5 [(0, .ref r0), (1, .int pr), (2, .int p1)] := hl
  refine lv_iconst (v := 0) hx hb d_Ref_isIn_0 (by decide) ?_
  refine lv_istore_n (lv' := [(3, .int 0), (0, .ref r0), (1, .int pr), (2, .int p1)]) hx hb d_Ref_isIn_1 rfl hl (by decide) rfl (fun ls hl => ?_)
  refine lv_iconst (v := 0) hx hb d_Ref_isIn_2 (by decide) ?_
  refine lv_istore (lv' := [(4, .int 0), (3, .int 0), (0, .ref r0), (1, .int pr), (2, .int p1)]) hx hb d_Ref_isIn_3 hl (by decide) rfl (fun ls hl => ?_)
  exact lp_Ref_isIn l dC dI cI cJ r0 th N OU Z r1 r2 M r3 r4 r5 r6 r7 r8 PK r9 kp r10 r11 TK r12 qc r13 r14 bst r15 kpr pr p1 hN hTK hkp hp1 hx hb hr hts hown hlocks hml hP hK (TK + 1) 0 (by omega) (Nat.zero_le _) ls (lv_sub hl [2, 3, 4, 1, 0] rfl)
