/-! ===== the reference: costOf, outputsOf, keptPoints, asks ===== -/
def rCost (N q : Nat) (ots : Int32) (i : Nat) : Int32 := itr (fun i acc => if 2 ≤ nI (rDig N q i) then acc else acc + 1) i ((ots &&& 1) + (ots >>> ((1 : Int32) &&& 31)))
def rOut (can : Nat → Int32) (has : Int32) (o : Nat) : Int32 := itr (fun o acc => if has &&& (can o ^^^ (-1)) = 0 then acc ||| ((1 : Int32) <<< (nI o &&& 31)) else acc) o 0
def rKept (kpr kot : Nat → Int32) (N PW : Nat) (ot : Int32) (k : Nat) : Int32 := itr (fun k acc => if (kot k >>> (ot &&& 31)) &&& 1 = 1 then acc ||| rPts N (kpr k).toNatClampNeg PW else acc) k 0
def rAsk (fn inp : Int32) (a : Nat) : Int32 := itr (fun a acc => if acc = 0 then (if (fn >>> (nI a &&& 31)) &&& 1 = (fn >>> ((nI a ^^^ ((1 : Int32) <<< (inp &&& 31))) &&& 31)) &&& 1 then 0 else 1) else 1) a 0
theorem rAsk_z (fn inp : Int32) (a : Nat) : narrow .boolean (.int (rAsk fn inp a)) = .int (rAsk fn inp a) := by
  have h : rAsk fn inp a = 0 ∨ rAsk fn inp a = 1 := by
    cases a with
    | zero => exact Or.inl rfl
    | succ a =>
      rw [show rAsk fn inp (a + 1) = (if rAsk fn inp a = 0 then (if (fn >>> (nI a &&& 31)) &&& 1 = (fn >>> ((nI a ^^^ ((1 : Int32) <<< (inp &&& 31))) &&& 31)) &&& 1 then 0 else 1) else 1) from rfl]
      split
      · split
        · exact Or.inl rfl
        · exact Or.inr rfl
      · exact Or.inr rfl
  rcases h with h | h <;> rw [h] <;> rfl
set_option maxHeartbeats 1000000 in
theorem c2_Ref_digit (l : Launch) (dC : Nat → ClassId) (dI : Nat → Nat → Nat) (cI cJ : ClassId) (r0 : Nat) (th : Int32) (N : Nat) (OU : Nat) (Z : Nat) (r1 : Nat) (r2 : Nat) (M : Nat) (r3 : Nat) (r4 : Nat) (r5 : Nat) (r6 : Nat) (r7 : Nat) (r8 : Nat) (PK : Nat) (r9 : Nat) (kp : Int32) (r10 : Nat) (r11 : Nat) (TK : Nat) (r12 : Nat) (qc : Int32) (r13 : Nat) (r14 : Nat) (bst : Int32) (r15 : Nat) (p0 : Int32) (i0 : Nat) (hN : N ≤ 4) (hp : vp_in p0 81) (hi0 : i0 < N) : Met l y_Ref_digit (ct y_Ref_digit b_Ref_digit 5 (some .int)) ({ frames := 0, cells := 0, slots := 0, locals := 0 }) (va_Pc [.ref r0, .int p0, .int ((nI i0))] (fun U => va_P (dC, dI) classes [(r0, .inr (8, [.int th, .int ((nI N)), .int ((nI OU)), .int ((nI Z)), .ref r1, .ref r2, .int ((nI M)), .ref r3, .ref r4, .ref r5, .ref r6, .ref r7, .ref r8, .int ((nI PK)), .ref r9, .int kp, .ref r10, .ref r11, .int ((nI TK)), .ref r12, .int qc, .ref r13, .ref r14, .int bst, .ref r15]))] U.heap ∧ va_K (dC, dI) classes [(cI, .int), (cJ, .long)] U)) (vp_Si (fun r => r = nI (rDig N p0.toNatClampNeg i0))) 0 0 (fun _ => False) := by
  obtain ⟨q, hq, rfl⟩ := vp_in_of hp (by omega)
  rw [nI_clamp (n := q) (by omega)]
  exact c_Ref_digit l dC dI cI cJ r0 th N OU Z r1 r2 M r3 r4 r5 r6 r7 r8 PK r9 kp r10 r11 TK r12 qc r13 r14 bst r15 q i0 hN hq hi0
set_option maxHeartbeats 1000000 in
theorem c2_Ref_points (l : Launch) (dC : Nat → ClassId) (dI : Nat → Nat → Nat) (cI cJ : ClassId) (r0 : Nat) (th : Int32) (N : Nat) (OU : Nat) (Z : Nat) (r1 : Nat) (r2 : Nat) (M : Nat) (r3 : Nat) (r4 : Nat) (r5 : Nat) (r6 : Nat) (r7 : Nat) (r8 : Nat) (PK : Nat) (r9 : Nat) (kp : Int32) (r10 : Nat) (r11 : Nat) (TK : Nat) (r12 : Nat) (qc : Int32) (r13 : Nat) (r14 : Nat) (bst : Int32) (r15 : Nat) (PW : Nat) (p0 : Int32) (hN : N ≤ 4) (hp : vp_in p0 81) (hPW : (1 : Int32) <<< (nI N &&& 31) = nI PW ∧ PW ≤ 16) : Met l y_Ref_points (ct y_Ref_points b_Ref_points 7 (some .int)) ({ frames := 1, cells := 0, slots := 0, locals := 24 }) (va_Pc [.ref r0, .int p0] (fun U => va_P (dC, dI) classes [(r0, .inr (8, [.int th, .int ((nI N)), .int ((nI OU)), .int ((nI Z)), .ref r1, .ref r2, .int ((nI M)), .ref r3, .ref r4, .ref r5, .ref r6, .ref r7, .ref r8, .int ((nI PK)), .ref r9, .int kp, .ref r10, .ref r11, .int ((nI TK)), .ref r12, .int qc, .ref r13, .ref r14, .int bst, .ref r15]))] U.heap ∧ va_K (dC, dI) classes [(cI, .int), (cJ, .long)] U)) (vp_Si (fun r => r = rPts N p0.toNatClampNeg PW)) 0 0 (fun _ => False) := by
  obtain ⟨q, hq, rfl⟩ := vp_in_of hp (by omega)
  rw [nI_clamp (n := q) (by omega)]
  exact c_Ref_points l dC dI cI cJ r0 th N OU Z r1 r2 M r3 r4 r5 r6 r7 r8 PK r9 kp r10 r11 TK r12 qc r13 r14 bst r15 PW q hN hq hPW
set_option maxHeartbeats 1000000 in
set_option maxRecDepth 100000 in
theorem lp_Ref_costOf {p : Program} {e : Env} {s : State} {m : MethodId} {args : Array Value} {below : List Frame} {meth : Method} {c : Code} (l : Launch) (dC : Nat → ClassId) (dI : Nat → Nat → Nat) (cI cJ : ClassId) (r0 : Nat) (th : Int32) (N : Nat) (OU : Nat) (Z : Nat) (r1 : Nat) (r2 : Nat) (M : Nat) (r3 : Nat) (r4 : Nat) (r5 : Nat) (r6 : Nat) (r7 : Nat) (r8 : Nat) (PK : Nat) (r9 : Nat) (kp : Int32) (r10 : Nat) (r11 : Nat) (TK : Nat) (r12 : Nat) (qc : Int32) (r13 : Nat) (r14 : Nat) (bst : Int32) (r15 : Nat) (p0 : Int32) (ots : Int32) (hN : N ≤ 4) (hp : vp_in p0 81) (hx : p.tables.exec = Jvm.exec) (hb : c.code = b_Ref_costOf) (hr : meth.sig.returnType = some .int) (hts : ∀ w ∈ lwg, w.before args s = true) (hown : s.vm.findClass R_Ref = some m.cls) (hlocks : meth.locks = false) (hml : c.maxLocals = 5) (hP : va_P (dC, dI) classes [(r0, .inr (8, [.int th, .int ((nI N)), .int ((nI OU)), .int ((nI Z)), .ref r1, .ref r2, .int ((nI M)), .ref r3, .ref r4, .ref r5, .ref r6, .ref r7, .ref r8, .int ((nI PK)), .ref r9, .int kp, .ref r10, .ref r11, .int ((nI TK)), .ref r12, .int qc, .ref r13, .ref r14, .int bst, .ref r15]))] s.heap) (hK : va_K (dC, dI) classes [(cI, .int), (cJ, .long)] s) : ∀ (fu i : Nat), N - i < fu → i ≤ N → ∀ ls : Array Slot, lv_has ls 5 [(0, .ref r0), (1, .int p0), (2, .int ots), (3, .int ((rCost N p0.toNatClampNeg ots i))), (4, .int ((nI i)))] → W p l e ({ frames := 1, cells := 0, slots := 0, locals := 24 } : Room) s m args below meth c s.heap [] 0 0 (MQ below (vp_Si (fun r => r = rCost N p0.toNatClampNeg ots N)) args s 0 0 (fun _ => False)) (F0 m 11 ls []) := by
  intro fu
  induction fu with
  | zero => intro i h; omega
  | succ fu ih =>
    intro i hfu hle ls hl
    refine lv_iload hx hb d_Ref_costOf_11 (lv_at hl 4 rfl) ?_
    refine lv_aload_n hx hb d_Ref_costOf_13 rfl (lv_at hl 0 rfl) ?_
    refine va_get (D := (dC, dI)) (ci := 8) (v := .int ((nI N))) (C := R_Ref) (T := F_Ref) (N := 25) hx hb hts i_Ref hown hK hP 0 rfl rfl 1 (by decide) (hts _ mw_fl_Ref_55) (fun _ h9 => h9) rfl d_Ref_costOf_14 ?_
    refine lv_icmp_ge (tgt := 45) hx hb d_Ref_costOf_17 (by decide) (fun c_17 => ?_) (fun c_17 => ?_)
    · have hE : i = N := Nat.le_antisymm hle ((nI_leI (a := N) (b := i) (by omega) (by omega)).mp c_17)
      refine lv_iload_n hx hb d_Ref_costOf_45 rfl (lv_at hl 3 rfl) ?_
      exact W.iret (v := (rCost N p0.toNatClampNeg ots i)) hx hb hr (fun t ht hW => ⟨_, rfl, by subst hE; rfl, ht⟩) (fun q h => by cases h) d_Ref_costOf_46
    · have hlt : i < N := Nat.lt_of_not_le (fun h => c_17 ((nI_leI (a := N) (b := i) (by omega) (by omega)).mpr h))
      refine lv_aload_n hx hb d_Ref_costOf_20 rfl (lv_at hl 0 rfl) ?_
      refine lv_iload_n hx hb d_Ref_costOf_21 rfl (lv_at hl 1 rfl) ?_
      refine lv_iload hx hb d_Ref_costOf_22 (lv_at hl 4 rfl) ?_
      refine vp_callSi (W.runV (As := [.int p0, .int ((nI i))]) (rest := []) ⟨hx, hb, hml, hown, hts⟩ (c2_Ref_digit l dC dI cI cJ r0 th N OU Z r1 r2 M r3 r4 r5 r6 r7 r8 PK r9 kp r10 r11 TK r12 qc r13 r14 bst r15 p0 i hN hp hlt) (cwV 2 hts (ct_goodV mw_ml_Ref_68 mw_im_Ref_digit mw_se_Ref_digit mw_ini_Ref mw_code_Ref_digit) rfl rfl rfl (by decide +kernel) ⟨Nat.le_of_ble_eq_true rfl, Nat.le_of_ble_eq_true rfl⟩) ⟨fun a U g mk q => by obtain ⟨q0, qP, qK⟩ := q; exact ⟨q0, qP, va_K.moved (u := U) (U := U.calling g mk a) (Vm.Alike.refl U.vm) qK⟩, va_recv hK hP (ci := 8) (q0 := 0) rfl rfl, fun U hU hW => ⟨rfl, by rw [hU]; exact hP, va_K.moved hW.alike hK⟩⟩ rfl rfl hl.1 rfl (lv_room (Nat.le_of_ble_eq_true rfl)) d_Ref_costOf_24 ⟨Nat.le_of_ble_eq_true rfl, Nat.le_of_ble_eq_true rfl⟩) (fun r_1 hr_1 => ?_)
      rw [hr_1]
      clear hr_1
      refine lv_iconst (v := 2) hx hb d_Ref_costOf_27 (by decide) ?_
      refine lv_icmp_ge (tgt := 37) hx hb d_Ref_costOf_28 (by decide) (fun c_28 => ?_) (fun c_28 => ?_)
      · refine lv_iload_n hx hb d_Ref_costOf_37 rfl (lv_at hl 3 rfl) ?_
        refine w_ti (show _ = rCost N p0.toNatClampNeg ots (i + 1) from (if_pos c_28).symm) ?_
        refine lv_istore_n (lv' := [(3, .int ((rCost N p0.toNatClampNeg ots (i + 1)))), (0, .ref r0), (1, .int p0), (2, .int ots), (4, .int ((nI i)))]) hx hb d_Ref_costOf_38 rfl hl (by decide) rfl (fun ls hl => ?_)
        refine lv_iinc (v := (nI (i + 1))) (lv' := [(4, .int ((nI (i + 1)))), (3, .int ((rCost N p0.toNatClampNeg ots (i + 1)))), (0, .ref r0), (1, .int p0), (2, .int ots)]) hx hb d_Ref_costOf_39 hl (k := 4) rfl (show nI i + 1 = nI (i + 1) from nI_1 i) (by decide) rfl (fun ls hl => ?_)
        refine lv_goto (tgt := 11) hx hb d_Ref_costOf_42 (by decide) ?_
        exact ih (i + 1) (by omega) (by omega) ls (lv_sub hl [2, 3, 4, 1, 0] rfl)
      · refine lv_iload_n hx hb d_Ref_costOf_31 rfl (lv_at hl 3 rfl) ?_
        refine lv_iconst (v := 1) hx hb d_Ref_costOf_32 (by decide) ?_
        refine lv_iadd hx hb d_Ref_costOf_33 ?_
        refine lv_goto (tgt := 38) hx hb d_Ref_costOf_34 (by decide) ?_
        refine w_ti (show _ = rCost N p0.toNatClampNeg ots (i + 1) from (if_neg c_28).symm) ?_
        refine lv_istore_n (lv' := [(3, .int ((rCost N p0.toNatClampNeg ots (i + 1)))), (0, .ref r0), (1, .int p0), (2, .int ots), (4, .int ((nI i)))]) hx hb d_Ref_costOf_38 rfl hl (by decide) rfl (fun ls hl => ?_)
        refine lv_iinc (v := (nI (i + 1))) (lv' := [(4, .int ((nI (i + 1)))), (3, .int ((rCost N p0.toNatClampNeg ots (i + 1)))), (0, .ref r0), (1, .int p0), (2, .int ots)]) hx hb d_Ref_costOf_39 hl (k := 4) rfl (show nI i + 1 = nI (i + 1) from nI_1 i) (by decide) rfl (fun ls hl => ?_)
        refine lv_goto (tgt := 11) hx hb d_Ref_costOf_42 (by decide) ?_
        exact ih (i + 1) (by omega) (by omega) ls (lv_sub hl [2, 3, 4, 1, 0] rfl)
set_option maxHeartbeats 1000000 in
set_option maxRecDepth 100000 in
theorem c_Ref_costOf (l : Launch) (dC : Nat → ClassId) (dI : Nat → Nat → Nat) (cI cJ : ClassId) (r0 : Nat) (th : Int32) (N : Nat) (OU : Nat) (Z : Nat) (r1 : Nat) (r2 : Nat) (M : Nat) (r3 : Nat) (r4 : Nat) (r5 : Nat) (r6 : Nat) (r7 : Nat) (r8 : Nat) (PK : Nat) (r9 : Nat) (kp : Int32) (r10 : Nat) (r11 : Nat) (TK : Nat) (r12 : Nat) (qc : Int32) (r13 : Nat) (r14 : Nat) (bst : Int32) (r15 : Nat) (p0 : Int32) (ots : Int32) (hN : N ≤ 4) (hp : vp_in p0 81) : Met l y_Ref_costOf (ct y_Ref_costOf b_Ref_costOf 5 (some .int)) ({ frames := 1, cells := 0, slots := 0, locals := 24 }) (va_Pc [.ref r0, .int p0, .int ots] (fun U => va_P (dC, dI) classes [(r0, .inr (8, [.int th, .int ((nI N)), .int ((nI OU)), .int ((nI Z)), .ref r1, .ref r2, .int ((nI M)), .ref r3, .ref r4, .ref r5, .ref r6, .ref r7, .ref r8, .int ((nI PK)), .ref r9, .int kp, .ref r10, .ref r11, .int ((nI TK)), .ref r12, .int qc, .ref r13, .ref r14, .int bst, .ref r15]))] U.heap ∧ va_K (dC, dI) classes [(cI, .int), (cJ, .long)] U)) (vp_Si (fun r => r = rCost N p0.toNatClampNeg ots N)) 0 0 (fun _ => False) := by
  refine Met.ofW (cc := b_Ref_costOf) (maxL := 5) (ret := some .int) (by decide) rfl ?_
  intro p e s m args below meth c s₁ B hml hv
  obtain ⟨rfl, hP, hK⟩ := hv
  have hx := B.exec
  have hb := B.bytes
  have hr := B.returns
  have hts : ∀ w ∈ lwg, w.before _ s = true := fun w h => atoms_spec (ws := ct y_Ref_costOf b_Ref_costOf 5 (some .int)) B.pre w (List.mem_cons_of_mem _ h)
  have hown : s.vm.findClass R_Ref = some m.cls := findClass_of_methodNamed B.named
  have hlocks := B.notSynchronized
  have hl := lv_entry ([.ref r0, .int p0, .int ots]) (n := 5) (Nat.le_of_ble_eq_true rfl)
  rw [lg_entry_eq]
  generalize (lg_sl ([.ref r0, .int p0, .int ots]) ++ List.replicate (5 - (lg_sl ([.ref r0, .int p0, .int ots])).length) Slot.unset).toArray = ls at hl ⊢
  have hl : lv_has ls 5 [(0, .ref r0), (1, .int p0), (2, .int ots)] := hl
  refine lv_iload_n hx hb d_Ref_costOf_0 rfl (lv_at hl 2 rfl) ?_
  refine lv_iconst (v := 1) hx hb d_Ref_costOf_1 (by decide) ?_
  refine lv_iand hx hb d_Ref_costOf_2 ?_
  refine lv_iload_n hx hb d_Ref_costOf_3 rfl (lv_at hl 2 rfl) ?_
  refine lv_iconst (v := 1) hx hb d_Ref_costOf_4 (by decide) ?_
  refine lv_ishr hx hb d_Ref_costOf_5 ?_
  refine lv_iadd hx hb d_Ref_costOf_6 ?_
  refine lv_istore_n (lv' := [(3, .int (((ots &&& 1) + (ots >>> ((1 : Int32) &&& 31))))), (0, .ref r0), (1, .int p0), (2, .int ots)]) hx hb d_Ref_costOf_7 rfl hl (by decide) rfl (fun ls hl => ?_)
  refine lv_iconst (v := 0) hx hb d_Ref_costOf_8 (by decide) ?_
  refine lv_istore (lv' := [(4, .int 0), (3, .int (((ots &&& 1) + (ots >>> ((1 : Int32) &&& 31))))), (0, .ref r0), (1, .int p0), (2, .int ots)]) hx hb d_Ref_costOf_9 hl (by decide) rfl (fun ls hl => ?_)
  exact lp_Ref_costOf l dC dI cI cJ r0 th N OU Z r1 r2 M r3 r4 r5 r6 r7 r8 PK r9 kp r10 r11 TK r12 qc r13 r14 bst r15 p0 ots hN hp hx hb hr hts hown hlocks hml hP hK (N + 1) 0 (by omega) (Nat.zero_le _) ls (lv_sub hl [2, 3, 4, 1, 0] rfl)
set_option maxHeartbeats 1000000 in
set_option maxRecDepth 100000 in
theorem lp_Ref_outputsOf {p : Program} {e : Env} {s : State} {m : MethodId} {args : Array Value} {below : List Frame} {meth : Method} {c : Code} (l : Launch) (dC : Nat → ClassId) (dI : Nat → Nat → Nat) (cI cJ : ClassId) (r0 : Nat) (th : Int32) (N : Nat) (OU : Nat) (Z : Nat) (r1 : Nat) (r2 : Nat) (M : Nat) (r3 : Nat) (r4 : Nat) (r5 : Nat) (r6 : Nat) (r7 : Nat) (r8 : Nat) (PK : Nat) (r9 : Nat) (kp : Int32) (r10 : Nat) (r11 : Nat) (TK : Nat) (r12 : Nat) (qc : Int32) (r13 : Nat) (r14 : Nat) (bst : Int32) (r15 : Nat) (can : Nat → Int32) (PW : Nat) (p0 : Int32) (hN : N ≤ 4) (hOU : OU ≤ 2) (hp : vp_in p0 81) (hPW : (1 : Int32) <<< (nI N &&& 31) = nI PW ∧ PW ≤ 16) (hx : p.tables.exec = Jvm.exec) (hb : c.code = b_Ref_outputsOf) (hr : meth.sig.returnType = some .int) (hts : ∀ w ∈ lwg, w.before args s = true) (hown : s.vm.findClass R_Ref = some m.cls) (hlocks : meth.locks = false) (hml : c.maxLocals = 5) (hP : va_P (dC, dI) classes [(r0, .inr (8, [.int th, .int ((nI N)), .int ((nI OU)), .int ((nI Z)), .ref r1, .ref r2, .int ((nI M)), .ref r3, .ref r4, .ref r5, .ref r6, .ref r7, .ref r8, .int ((nI PK)), .ref r9, .int kp, .ref r10, .ref r11, .int ((nI TK)), .ref r12, .int qc, .ref r13, .ref r14, .int bst, .ref r15])), (r4, .inl (cI, 2, .inl can))] s.heap) (hK : va_K (dC, dI) classes [(cI, .int), (cJ, .long)] s) : ∀ (fu i : Nat), OU - i < fu → i ≤ OU → ∀ ls : Array Slot, lv_has ls 5 [(0, .ref r0), (1, .int p0), (2, .int ((rPts N p0.toNatClampNeg PW))), (3, .int ((rOut can (rPts N p0.toNatClampNeg PW) i))), (4, .int ((nI i)))] → W p l e ({ frames := 2, cells := 0, slots := 0, locals := 50 } : Room) s m args below meth c s.heap [] 0 0 (MQ below (vp_Si (fun r => r = rOut can (rPts N p0.toNatClampNeg PW) OU)) args s 0 0 (fun _ => False)) (F0 m 11 ls []) := by
  intro fu
  induction fu with
  | zero => intro i h; omega
  | succ fu ih =>
    intro i hfu hle ls hl
    refine lv_iload hx hb d_Ref_outputsOf_11 (lv_at hl 4 rfl) ?_
    refine lv_aload_n hx hb d_Ref_outputsOf_13 rfl (lv_at hl 0 rfl) ?_
    refine va_get (D := (dC, dI)) (ci := 8) (v := .int ((nI OU))) (C := R_Ref) (T := F_Ref) (N := 25) hx hb hts i_Ref hown hK hP 0 rfl rfl 2 (by decide) (hts _ mw_fl_Ref_59) (fun _ h9 => h9) rfl d_Ref_outputsOf_14 ?_
    refine lv_icmp_ge (tgt := 51) hx hb d_Ref_outputsOf_17 (by decide) (fun c_17 => ?_) (fun c_17 => ?_)
    · have hE : i = OU := Nat.le_antisymm hle ((nI_leI (a := OU) (b := i) (by omega) (by omega)).mp c_17)
      refine lv_iload_n hx hb d_Ref_outputsOf_51 rfl (lv_at hl 3 rfl) ?_
      exact W.iret (v := (rOut can (rPts N p0.toNatClampNeg PW) i)) hx hb hr (fun t ht hW => ⟨_, rfl, by subst hE; rfl, ht⟩) (fun q h => by cases h) d_Ref_outputsOf_52
    · have hlt : i < OU := Nat.lt_of_not_le (fun h => c_17 ((nI_leI (a := OU) (b := i) (by omega) (by omega)).mpr h))
      refine lv_iload_n hx hb d_Ref_outputsOf_20 rfl (lv_at hl 2 rfl) ?_
      refine lv_aload_n hx hb d_Ref_outputsOf_21 rfl (lv_at hl 0 rfl) ?_
      refine va_get (D := (dC, dI)) (ci := 8) (v := .ref r4) (C := R_Ref) (T := F_Ref) (N := 25) hx hb hts i_Ref hown hK hP 0 rfl rfl 8 (by decide) (hts _ mw_fl_Ref_19) (fun _ h9 => h9) rfl d_Ref_outputsOf_22 ?_
      refine lv_iload hx hb d_Ref_outputsOf_25 (lv_at hl 4 rfl) ?_
      refine va_iald hx hb hK hP 1 0 rfl rfl (vp_in_nI (show i < 2 by omega) (by omega)) d_Ref_outputsOf_27 ?_
      refine w_ti (show _ = can i from by rw [nI_clamp (by omega)]) ?_
      refine lv_iconst (v := (-1)) hx hb d_Ref_outputsOf_28 (by decide) ?_
      refine lv_ixor hx hb d_Ref_outputsOf_29 ?_
      refine lv_iand hx hb d_Ref_outputsOf_30 ?_
      refine lv_if_ne (tgt := 43) hx hb d_Ref_outputsOf_31 (by decide) (fun c_31 => ?_) (fun c_31 => ?_)
      · refine lv_iload_n hx hb d_Ref_outputsOf_43 rfl (lv_at hl 3 rfl) ?_
        refine w_ti (show _ = rOut can (rPts N p0.toNatClampNeg PW) (i + 1) from (if_neg c_31).symm) ?_
        refine lv_istore_n (lv' := [(3, .int ((rOut can (rPts N p0.toNatClampNeg PW) (i + 1)))), (0, .ref r0), (1, .int p0), (2, .int ((rPts N p0.toNatClampNeg PW))), (4, .int ((nI i)))]) hx hb d_Ref_outputsOf_44 rfl hl (by decide) rfl (fun ls hl => ?_)
        refine lv_iinc (v := (nI (i + 1))) (lv' := [(4, .int ((nI (i + 1)))), (3, .int ((rOut can (rPts N p0.toNatClampNeg PW) (i + 1)))), (0, .ref r0), (1, .int p0), (2, .int ((rPts N p0.toNatClampNeg PW)))]) hx hb d_Ref_outputsOf_45 hl (k := 4) rfl (show nI i + 1 = nI (i + 1) from nI_1 i) (by decide) rfl (fun ls hl => ?_)
        refine lv_goto (tgt := 11) hx hb d_Ref_outputsOf_48 (by decide) ?_
        exact ih (i + 1) (by omega) (by omega) ls (lv_sub hl [2, 3, 4, 1, 0] rfl)
      · refine lv_iload_n hx hb d_Ref_outputsOf_34 rfl (lv_at hl 3 rfl) ?_
        refine lv_iconst (v := 1) hx hb d_Ref_outputsOf_35 (by decide) ?_
        refine lv_iload hx hb d_Ref_outputsOf_36 (lv_at hl 4 rfl) ?_
        refine lv_ishl hx hb d_Ref_outputsOf_38 ?_
        refine lv_ior hx hb d_Ref_outputsOf_39 ?_
        refine lv_goto (tgt := 44) hx hb d_Ref_outputsOf_40 (by decide) ?_
        refine w_ti (show _ = rOut can (rPts N p0.toNatClampNeg PW) (i + 1) from (if_pos c_31).symm) ?_
        refine lv_istore_n (lv' := [(3, .int ((rOut can (rPts N p0.toNatClampNeg PW) (i + 1)))), (0, .ref r0), (1, .int p0), (2, .int ((rPts N p0.toNatClampNeg PW))), (4, .int ((nI i)))]) hx hb d_Ref_outputsOf_44 rfl hl (by decide) rfl (fun ls hl => ?_)
        refine lv_iinc (v := (nI (i + 1))) (lv' := [(4, .int ((nI (i + 1)))), (3, .int ((rOut can (rPts N p0.toNatClampNeg PW) (i + 1)))), (0, .ref r0), (1, .int p0), (2, .int ((rPts N p0.toNatClampNeg PW)))]) hx hb d_Ref_outputsOf_45 hl (k := 4) rfl (show nI i + 1 = nI (i + 1) from nI_1 i) (by decide) rfl (fun ls hl => ?_)
        refine lv_goto (tgt := 11) hx hb d_Ref_outputsOf_48 (by decide) ?_
        exact ih (i + 1) (by omega) (by omega) ls (lv_sub hl [2, 3, 4, 1, 0] rfl)
set_option maxHeartbeats 1000000 in
set_option maxRecDepth 100000 in
theorem c_Ref_outputsOf (l : Launch) (dC : Nat → ClassId) (dI : Nat → Nat → Nat) (cI cJ : ClassId) (r0 : Nat) (th : Int32) (N : Nat) (OU : Nat) (Z : Nat) (r1 : Nat) (r2 : Nat) (M : Nat) (r3 : Nat) (r4 : Nat) (r5 : Nat) (r6 : Nat) (r7 : Nat) (r8 : Nat) (PK : Nat) (r9 : Nat) (kp : Int32) (r10 : Nat) (r11 : Nat) (TK : Nat) (r12 : Nat) (qc : Int32) (r13 : Nat) (r14 : Nat) (bst : Int32) (r15 : Nat) (can : Nat → Int32) (PW : Nat) (p0 : Int32) (hN : N ≤ 4) (hOU : OU ≤ 2) (hp : vp_in p0 81) (hPW : (1 : Int32) <<< (nI N &&& 31) = nI PW ∧ PW ≤ 16) : Met l y_Ref_outputsOf (ct y_Ref_outputsOf b_Ref_outputsOf 5 (some .int)) ({ frames := 2, cells := 0, slots := 0, locals := 50 }) (va_Pc [.ref r0, .int p0] (fun U => va_P (dC, dI) classes [(r0, .inr (8, [.int th, .int ((nI N)), .int ((nI OU)), .int ((nI Z)), .ref r1, .ref r2, .int ((nI M)), .ref r3, .ref r4, .ref r5, .ref r6, .ref r7, .ref r8, .int ((nI PK)), .ref r9, .int kp, .ref r10, .ref r11, .int ((nI TK)), .ref r12, .int qc, .ref r13, .ref r14, .int bst, .ref r15])), (r4, .inl (cI, 2, .inl can))] U.heap ∧ va_K (dC, dI) classes [(cI, .int), (cJ, .long)] U)) (vp_Si (fun r => r = rOut can (rPts N p0.toNatClampNeg PW) OU)) 0 0 (fun _ => False) := by
  refine Met.ofW (cc := b_Ref_outputsOf) (maxL := 5) (ret := some .int) (by decide) rfl ?_
  intro p e s m args below meth c s₁ B hml hv
  obtain ⟨rfl, hP, hK⟩ := hv
  have hx := B.exec
  have hb := B.bytes
  have hr := B.returns
  have hts : ∀ w ∈ lwg, w.before _ s = true := fun w h => atoms_spec (ws := ct y_Ref_outputsOf b_Ref_outputsOf 5 (some .int)) B.pre w (List.mem_cons_of_mem _ h)
  have hown : s.vm.findClass R_Ref = some m.cls := findClass_of_methodNamed B.named
  have hlocks := B.notSynchronized
  have hl := lv_entry ([.ref r0, .int p0]) (n := 5) (Nat.le_of_ble_eq_true rfl)
  rw [lg_entry_eq]
  generalize (lg_sl ([.ref r0, .int p0]) ++ List.replicate (5 - (lg_sl ([.ref r0, .int p0])).length) Slot.unset).toArray = ls at hl ⊢
  have hl : lv_has ls 5 [(0, .ref r0), (1, .int p0)] := hl
  refine lv_aload_n hx hb d_Ref_outputsOf_0 rfl (lv_at hl 0 rfl) ?_
  refine lv_iload_n hx hb d_Ref_outputsOf_1 rfl (lv_at hl 1 rfl) ?_
  refine vp_callSi (W.runV (As := [.int p0]) (rest := []) ⟨hx, hb, hml, hown, hts⟩ (c2_Ref_points l dC dI cI cJ r0 th N OU Z r1 r2 M r3 r4 r5 r6 r7 r8 PK r9 kp r10 r11 TK r12 qc r13 r14 bst r15 PW p0 hN hp hPW) (cwV 1 hts (ct_goodV mw_ml_Ref_75 mw_im_Ref_points mw_se_Ref_points mw_ini_Ref mw_code_Ref_points) rfl rfl rfl (by decide +kernel) ⟨Nat.le_of_ble_eq_true rfl, Nat.le_of_ble_eq_true rfl⟩) ⟨fun a U g mk q => by obtain ⟨q0, qP, qK⟩ := q; exact ⟨q0, qP, va_K.moved (u := U) (U := U.calling g mk a) (Vm.Alike.refl U.vm) qK⟩, va_recv hK hP (ci := 8) (q0 := 0) rfl rfl, fun U hU hW => ⟨rfl, by rw [hU]; exact (hP.sub (ws' := [(r0, .inr (8, [.int th, .int ((nI N)), .int ((nI OU)), .int ((nI Z)), .ref r1, .ref r2, .int ((nI M)), .ref r3, .ref r4, .ref r5, .ref r6, .ref r7, .ref r8, .int ((nI PK)), .ref r9, .int kp, .ref r10, .ref r11, .int ((nI TK)), .ref r12, .int qc, .ref r13, .ref r14, .int bst, .ref r15]))]) [0] rfl), va_K.moved hW.alike hK⟩⟩ rfl rfl hl.1 rfl (lv_room (Nat.le_of_ble_eq_true rfl)) d_Ref_outputsOf_2 ⟨Nat.le_of_ble_eq_true rfl, Nat.le_of_ble_eq_true rfl⟩) (fun r_1 hr_1 => ?_)
  rw [hr_1]
  clear hr_1
  refine lv_istore_n (lv' := [(2, .int ((rPts N p0.toNatClampNeg PW))), (0, .ref r0), (1, .int p0)]) hx hb d_Ref_outputsOf_5 rfl hl (by decide) rfl (fun ls hl => ?_)
  refine lv_iconst (v := 0) hx hb d_Ref_outputsOf_6 (by decide) ?_
  refine lv_istore_n (lv' := [(3, .int 0), (2, .int ((rPts N p0.toNatClampNeg PW))), (0, .ref r0), (1, .int p0)]) hx hb d_Ref_outputsOf_7 rfl hl (by decide) rfl (fun ls hl => ?_)
  refine lv_iconst (v := 0) hx hb d_Ref_outputsOf_8 (by decide) ?_
  refine lv_istore (lv' := [(4, .int 0), (3, .int 0), (2, .int ((rPts N p0.toNatClampNeg PW))), (0, .ref r0), (1, .int p0)]) hx hb d_Ref_outputsOf_9 hl (by decide) rfl (fun ls hl => ?_)
  exact lp_Ref_outputsOf l dC dI cI cJ r0 th N OU Z r1 r2 M r3 r4 r5 r6 r7 r8 PK r9 kp r10 r11 TK r12 qc r13 r14 bst r15 can PW p0 hN hOU hp hPW hx hb hr hts hown hlocks hml hP hK (OU + 1) 0 (by omega) (Nat.zero_le _) ls (lv_sub hl [3, 4, 2, 1, 0] rfl)
set_option maxHeartbeats 1000000 in
set_option maxRecDepth 100000 in
theorem lp_Ref_keptPoints {p : Program} {e : Env} {s : State} {m : MethodId} {args : Array Value} {below : List Frame} {meth : Method} {c : Code} (l : Launch) (dC : Nat → ClassId) (dI : Nat → Nat → Nat) (cI cJ : ClassId) (r0 : Nat) (th : Int32) (N : Nat) (OU : Nat) (Z : Nat) (r1 : Nat) (r2 : Nat) (M : Nat) (r3 : Nat) (r4 : Nat) (r5 : Nat) (r6 : Nat) (r7 : Nat) (r8 : Nat) (PK : Nat) (r9 : Nat) (kp : Int32) (r10 : Nat) (r11 : Nat) (TK : Nat) (r12 : Nat) (qc : Int32) (r13 : Nat) (r14 : Nat) (bst : Int32) (r15 : Nat) (kpr : Nat → Int32) (kot : Nat → Int32) (PW : Nat) (ot : Int32) (hN : N ≤ 4) (hTK : TK ≤ 81) (hkp : ∀ k, k < TK → vp_in (kpr k) 81) (hPW : (1 : Int32) <<< (nI N &&& 31) = nI PW ∧ PW ≤ 16) (hx : p.tables.exec = Jvm.exec) (hb : c.code = b_Ref_keptPoints) (hr : meth.sig.returnType = some .int) (hts : ∀ w ∈ lwg, w.before args s = true) (hown : s.vm.findClass R_Ref = some m.cls) (hlocks : meth.locks = false) (hml : c.maxLocals = 4) (hP : va_P (dC, dI) classes [(r0, .inr (8, [.int th, .int ((nI N)), .int ((nI OU)), .int ((nI Z)), .ref r1, .ref r2, .int ((nI M)), .ref r3, .ref r4, .ref r5, .ref r6, .ref r7, .ref r8, .int ((nI PK)), .ref r9, .int kp, .ref r10, .ref r11, .int ((nI TK)), .ref r12, .int qc, .ref r13, .ref r14, .int bst, .ref r15])), (r10, .inl (cI, 81, .inl kpr)), (r11, .inl (cI, 81, .inl kot))] s.heap) (hK : va_K (dC, dI) classes [(cI, .int), (cJ, .long)] s) : ∀ (fu i : Nat), TK - i < fu → i ≤ TK → ∀ ls : Array Slot, lv_has ls 4 [(0, .ref r0), (1, .int ot), (2, .int ((rKept kpr kot N PW ot i))), (3, .int ((nI i)))] → W p l e ({ frames := 2, cells := 0, slots := 0, locals := 50 } : Room) s m args below meth c s.heap [] 0 0 (MQ below (vp_Si (fun r => r = rKept kpr kot N PW ot TK)) args s 0 0 (fun _ => False)) (F0 m 4 ls []) := by
  intro fu
  induction fu with
  | zero => intro i h; omega
  | succ fu ih =>
    intro i hfu hle ls hl
    refine lv_iload_n hx hb d_Ref_keptPoints_4 rfl (lv_at hl 3 rfl) ?_
    refine lv_aload_n hx hb d_Ref_keptPoints_5 rfl (lv_at hl 0 rfl) ?_
    refine va_get (D := (dC, dI)) (ci := 8) (v := .int ((nI TK))) (C := R_Ref) (T := F_Ref) (N := 25) hx hb hts i_Ref hown hK hP 0 rfl rfl 18 (by decide) (hts _ mw_fl_Ref_110) (fun _ h9 => h9) rfl d_Ref_keptPoints_6 ?_
    refine lv_icmp_ge (tgt := 49) hx hb d_Ref_keptPoints_9 (by decide) (fun c_9 => ?_) (fun c_9 => ?_)
    · have hE : i = TK := Nat.le_antisymm hle ((nI_leI (a := TK) (b := i) (by omega) (by omega)).mp c_9)
      refine lv_iload_n hx hb d_Ref_keptPoints_49 rfl (lv_at hl 2 rfl) ?_
      exact W.iret (v := (rKept kpr kot N PW ot i)) hx hb hr (fun t ht hW => ⟨_, rfl, by subst hE; rfl, ht⟩) (fun q h => by cases h) d_Ref_keptPoints_50
    · have hlt : i < TK := Nat.lt_of_not_le (fun h => c_9 ((nI_leI (a := TK) (b := i) (by omega) (by omega)).mpr h))
      refine lv_aload_n hx hb d_Ref_keptPoints_12 rfl (lv_at hl 0 rfl) ?_
      refine va_get (D := (dC, dI)) (ci := 8) (v := .ref r11) (C := R_Ref) (T := F_Ref) (N := 25) hx hb hts i_Ref hown hK hP 0 rfl rfl 17 (by decide) (hts _ mw_fl_Ref_40) (fun _ h9 => h9) rfl d_Ref_keptPoints_13 ?_
      refine lv_iload_n hx hb d_Ref_keptPoints_16 rfl (lv_at hl 3 rfl) ?_
      refine va_iald hx hb hK hP 2 0 rfl rfl (vp_in_nI (show i < 81 by omega) (by omega)) d_Ref_keptPoints_17 ?_
      refine w_ti (show _ = kot i from by rw [nI_clamp (by omega)]) ?_
      refine lv_iload_n hx hb d_Ref_keptPoints_18 rfl (lv_at hl 1 rfl) ?_
      refine lv_ishr hx hb d_Ref_keptPoints_19 ?_
      refine lv_iconst (v := 1) hx hb d_Ref_keptPoints_20 (by decide) ?_
      refine lv_iand hx hb d_Ref_keptPoints_21 ?_
      refine lv_iconst (v := 1) hx hb d_Ref_keptPoints_22 (by decide) ?_
      refine lv_icmp_ne (tgt := 41) hx hb d_Ref_keptPoints_23 (by decide) (fun c_23 => ?_) (fun c_23 => ?_)
      · refine lv_iload_n hx hb d_Ref_keptPoints_41 rfl (lv_at hl 2 rfl) ?_
        refine w_ti (show _ = rKept kpr kot N PW ot (i + 1) from (if_neg c_23).symm) ?_
        refine lv_istore_n (lv' := [(2, .int ((rKept kpr kot N PW ot (i + 1)))), (0, .ref r0), (1, .int ot), (3, .int ((nI i)))]) hx hb d_Ref_keptPoints_42 rfl hl (by decide) rfl (fun ls hl => ?_)
        refine lv_iinc (v := (nI (i + 1))) (lv' := [(3, .int ((nI (i + 1)))), (2, .int ((rKept kpr kot N PW ot (i + 1)))), (0, .ref r0), (1, .int ot)]) hx hb d_Ref_keptPoints_43 hl (k := 3) rfl (show nI i + 1 = nI (i + 1) from nI_1 i) (by decide) rfl (fun ls hl => ?_)
        refine lv_goto (tgt := 4) hx hb d_Ref_keptPoints_46 (by decide) ?_
        exact ih (i + 1) (by omega) (by omega) ls (lv_sub hl [2, 3, 1, 0] rfl)
      · refine lv_iload_n hx hb d_Ref_keptPoints_26 rfl (lv_at hl 2 rfl) ?_
        refine lv_aload_n hx hb d_Ref_keptPoints_27 rfl (lv_at hl 0 rfl) ?_
        refine lv_aload_n hx hb d_Ref_keptPoints_28 rfl (lv_at hl 0 rfl) ?_
        refine va_get (D := (dC, dI)) (ci := 8) (v := .ref r10) (C := R_Ref) (T := F_Ref) (N := 25) hx hb hts i_Ref hown hK hP 0 rfl rfl 16 (by decide) (hts _ mw_fl_Ref_37) (fun _ h9 => h9) rfl d_Ref_keptPoints_29 ?_
        refine lv_iload_n hx hb d_Ref_keptPoints_32 rfl (lv_at hl 3 rfl) ?_
        refine va_iald hx hb hK hP 1 0 rfl rfl (vp_in_nI (show i < 81 by omega) (by omega)) d_Ref_keptPoints_33 ?_
        refine w_ti (show _ = kpr i from by rw [nI_clamp (by omega)]) ?_
        refine vp_callSi (W.runV (As := [.int ((kpr i))]) (rest := [.int ((rKept kpr kot N PW ot i))]) ⟨hx, hb, hml, hown, hts⟩ (c2_Ref_points l dC dI cI cJ r0 th N OU Z r1 r2 M r3 r4 r5 r6 r7 r8 PK r9 kp r10 r11 TK r12 qc r13 r14 bst r15 PW (kpr i) hN (hkp i hlt) hPW) (cwV 1 hts (ct_goodV mw_ml_Ref_75 mw_im_Ref_points mw_se_Ref_points mw_ini_Ref mw_code_Ref_points) rfl rfl rfl (by decide +kernel) ⟨Nat.le_of_ble_eq_true rfl, Nat.le_of_ble_eq_true rfl⟩) ⟨fun a U g mk q => by obtain ⟨q0, qP, qK⟩ := q; exact ⟨q0, qP, va_K.moved (u := U) (U := U.calling g mk a) (Vm.Alike.refl U.vm) qK⟩, va_recv hK hP (ci := 8) (q0 := 0) rfl rfl, fun U hU hW => ⟨rfl, by rw [hU]; exact (hP.sub (ws' := [(r0, .inr (8, [.int th, .int ((nI N)), .int ((nI OU)), .int ((nI Z)), .ref r1, .ref r2, .int ((nI M)), .ref r3, .ref r4, .ref r5, .ref r6, .ref r7, .ref r8, .int ((nI PK)), .ref r9, .int kp, .ref r10, .ref r11, .int ((nI TK)), .ref r12, .int qc, .ref r13, .ref r14, .int bst, .ref r15]))]) [0] rfl), va_K.moved hW.alike hK⟩⟩ rfl rfl hl.1 rfl (lv_room (Nat.le_of_ble_eq_true rfl)) d_Ref_keptPoints_34 ⟨Nat.le_of_ble_eq_true rfl, Nat.le_of_ble_eq_true rfl⟩) (fun r_1 hr_1 => ?_)
        rw [hr_1]
        clear hr_1
        refine lv_ior hx hb d_Ref_keptPoints_37 ?_
        refine lv_goto (tgt := 42) hx hb d_Ref_keptPoints_38 (by decide) ?_
        refine w_ti (show _ = rKept kpr kot N PW ot (i + 1) from (if_pos c_23).symm) ?_
        refine lv_istore_n (lv' := [(2, .int ((rKept kpr kot N PW ot (i + 1)))), (0, .ref r0), (1, .int ot), (3, .int ((nI i)))]) hx hb d_Ref_keptPoints_42 rfl hl (by decide) rfl (fun ls hl => ?_)
        refine lv_iinc (v := (nI (i + 1))) (lv' := [(3, .int ((nI (i + 1)))), (2, .int ((rKept kpr kot N PW ot (i + 1)))), (0, .ref r0), (1, .int ot)]) hx hb d_Ref_keptPoints_43 hl (k := 3) rfl (show nI i + 1 = nI (i + 1) from nI_1 i) (by decide) rfl (fun ls hl => ?_)
        refine lv_goto (tgt := 4) hx hb d_Ref_keptPoints_46 (by decide) ?_
        exact ih (i + 1) (by omega) (by omega) ls (lv_sub hl [2, 3, 1, 0] rfl)
set_option maxHeartbeats 1000000 in
set_option maxRecDepth 100000 in
theorem c_Ref_keptPoints (l : Launch) (dC : Nat → ClassId) (dI : Nat → Nat → Nat) (cI cJ : ClassId) (r0 : Nat) (th : Int32) (N : Nat) (OU : Nat) (Z : Nat) (r1 : Nat) (r2 : Nat) (M : Nat) (r3 : Nat) (r4 : Nat) (r5 : Nat) (r6 : Nat) (r7 : Nat) (r8 : Nat) (PK : Nat) (r9 : Nat) (kp : Int32) (r10 : Nat) (r11 : Nat) (TK : Nat) (r12 : Nat) (qc : Int32) (r13 : Nat) (r14 : Nat) (bst : Int32) (r15 : Nat) (kpr : Nat → Int32) (kot : Nat → Int32) (PW : Nat) (ot : Int32) (hN : N ≤ 4) (hTK : TK ≤ 81) (hkp : ∀ k, k < TK → vp_in (kpr k) 81) (hPW : (1 : Int32) <<< (nI N &&& 31) = nI PW ∧ PW ≤ 16) : Met l y_Ref_keptPoints (ct y_Ref_keptPoints b_Ref_keptPoints 4 (some .int)) ({ frames := 2, cells := 0, slots := 0, locals := 50 }) (va_Pc [.ref r0, .int ot] (fun U => va_P (dC, dI) classes [(r0, .inr (8, [.int th, .int ((nI N)), .int ((nI OU)), .int ((nI Z)), .ref r1, .ref r2, .int ((nI M)), .ref r3, .ref r4, .ref r5, .ref r6, .ref r7, .ref r8, .int ((nI PK)), .ref r9, .int kp, .ref r10, .ref r11, .int ((nI TK)), .ref r12, .int qc, .ref r13, .ref r14, .int bst, .ref r15])), (r10, .inl (cI, 81, .inl kpr)), (r11, .inl (cI, 81, .inl kot))] U.heap ∧ va_K (dC, dI) classes [(cI, .int), (cJ, .long)] U)) (vp_Si (fun r => r = rKept kpr kot N PW ot TK)) 0 0 (fun _ => False) := by
  refine Met.ofW (cc := b_Ref_keptPoints) (maxL := 4) (ret := some .int) (by decide) rfl ?_
  intro p e s m args below meth c s₁ B hml hv
  obtain ⟨rfl, hP, hK⟩ := hv
  have hx := B.exec
  have hb := B.bytes
  have hr := B.returns
  have hts : ∀ w ∈ lwg, w.before _ s = true := fun w h => atoms_spec (ws := ct y_Ref_keptPoints b_Ref_keptPoints 4 (some .int)) B.pre w (List.mem_cons_of_mem _ h)
  have hown : s.vm.findClass R_Ref = some m.cls := findClass_of_methodNamed B.named
  have hlocks := B.notSynchronized
  have hl := lv_entry ([.ref r0, .int ot]) (n := 4) (Nat.le_of_ble_eq_true rfl)
  rw [lg_entry_eq]
  generalize (lg_sl ([.ref r0, .int ot]) ++ List.replicate (4 - (lg_sl ([.ref r0, .int ot])).length) Slot.unset).toArray = ls at hl ⊢
  have hl : lv_has ls 4 [(0, .ref r0), (1, .int ot)] := hl
  refine lv_iconst (v := 0) hx hb d_Ref_keptPoints_0 (by decide) ?_
  refine lv_istore_n (lv' := [(2, .int 0), (0, .ref r0), (1, .int ot)]) hx hb d_Ref_keptPoints_1 rfl hl (by decide) rfl (fun ls hl => ?_)
  refine lv_iconst (v := 0) hx hb d_Ref_keptPoints_2 (by decide) ?_
  refine lv_istore_n (lv' := [(3, .int 0), (2, .int 0), (0, .ref r0), (1, .int ot)]) hx hb d_Ref_keptPoints_3 rfl hl (by decide) rfl (fun ls hl => ?_)
  exact lp_Ref_keptPoints l dC dI cI cJ r0 th N OU Z r1 r2 M r3 r4 r5 r6 r7 r8 PK r9 kp r10 r11 TK r12 qc r13 r14 bst r15 kpr kot PW ot hN hTK hkp hPW hx hb hr hts hown hlocks hml hP hK (TK + 1) 0 (by omega) (Nat.zero_le _) ls (lv_sub hl [2, 3, 1, 0] rfl)
set_option maxHeartbeats 1000000 in
set_option maxRecDepth 100000 in
theorem lp_Ref_asks {p : Program} {e : Env} {s : State} {m : MethodId} {args : Array Value} {below : List Frame} {meth : Method} {c : Code} (l : Launch) (dC : Nat → ClassId) (dI : Nat → Nat → Nat) (cI cJ : ClassId) (r0 : Nat) (th : Int32) (N : Nat) (OU : Nat) (Z : Nat) (r1 : Nat) (r2 : Nat) (M : Nat) (r3 : Nat) (r4 : Nat) (r5 : Nat) (r6 : Nat) (r7 : Nat) (r8 : Nat) (PK : Nat) (r9 : Nat) (kp : Int32) (r10 : Nat) (r11 : Nat) (TK : Nat) (r12 : Nat) (qc : Int32) (r13 : Nat) (r14 : Nat) (bst : Int32) (r15 : Nat) (PW : Nat) (fn : Int32) (inp : Int32) (hN : N ≤ 4) (hPW : (1 : Int32) <<< (nI N &&& 31) = nI PW ∧ PW ≤ 16) (hx : p.tables.exec = Jvm.exec) (hb : c.code = b_Ref_asks) (hr : meth.sig.returnType = some .boolean) (hts : ∀ w ∈ lwg, w.before args s = true) (hown : s.vm.findClass R_Ref = some m.cls) (hlocks : meth.locks = false) (hml : c.maxLocals = 5) (hP : va_P (dC, dI) classes [(r0, .inr (8, [.int th, .int ((nI N)), .int ((nI OU)), .int ((nI Z)), .ref r1, .ref r2, .int ((nI M)), .ref r3, .ref r4, .ref r5, .ref r6, .ref r7, .ref r8, .int ((nI PK)), .ref r9, .int kp, .ref r10, .ref r11, .int ((nI TK)), .ref r12, .int qc, .ref r13, .ref r14, .int bst, .ref r15]))] s.heap) (hK : va_K (dC, dI) classes [(cI, .int), (cJ, .long)] s) : ∀ (fu i : Nat), PW - i < fu → i ≤ PW → ∀ ls : Array Slot, lv_has ls 5 [(0, .ref r0), (1, .int fn), (2, .int inp), (3, .int ((rAsk fn inp i))), (4, .int ((nI i)))] → W p l e ({ frames := 0, cells := 0, slots := 0, locals := 0 } : Room) s m args below meth c s.heap [] 0 0 (MQ below (vp_Si (fun r => r = rAsk fn inp PW)) args s 0 0 (fun _ => False)) (F0 m 5 ls []) := by
  intro fu
  induction fu with
  | zero => intro i h; omega
  | succ fu ih =>
    intro i hfu hle ls hl
    refine lv_iload hx hb d_Ref_asks_5 (lv_at hl 4 rfl) ?_
    refine lv_iconst (v := 1) hx hb d_Ref_asks_7 (by decide) ?_
    refine lv_aload_n hx hb d_Ref_asks_8 rfl (lv_at hl 0 rfl) ?_
    refine va_get (D := (dC, dI)) (ci := 8) (v := .int ((nI N))) (C := R_Ref) (T := F_Ref) (N := 25) hx hb hts i_Ref hown hK hP 0 rfl rfl 1 (by decide) (hts _ mw_fl_Ref_55) (fun _ h9 => h9) rfl d_Ref_asks_9 ?_
    refine lv_ishl hx hb d_Ref_asks_12 ?_
    refine w_ti (show _ = nI PW from hPW.1) ?_
    refine lv_icmp_ge (tgt := 51) hx hb d_Ref_asks_13 (by decide) (fun c_13 => ?_) (fun c_13 => ?_)
    · have hE : i = PW := Nat.le_antisymm hle ((nI_leI (a := PW) (b := i) (by omega) (by omega)).mp c_13)
      refine lv_iload_n hx hb d_Ref_asks_51 rfl (lv_at hl 3 rfl) ?_
      exact W.zret (v := (rAsk fn inp i)) hx hb hr (rAsk_z fn inp i) (fun t ht hW => ⟨_, rfl, by subst hE; rfl, ht⟩) (fun q h => by cases h) d_Ref_asks_52
    · have hlt : i < PW := Nat.lt_of_not_le (fun h => c_13 ((nI_leI (a := PW) (b := i) (by omega) (by omega)).mpr h))
      refine lv_iload_n hx hb d_Ref_asks_16 rfl (lv_at hl 3 rfl) ?_
      refine lv_if_ne (tgt := 39) hx hb d_Ref_asks_17 (by decide) (fun c_17 => ?_) (fun c_17 => ?_)
      · refine lv_iconst (v := 1) hx hb d_Ref_asks_39 (by decide) ?_
        refine lv_goto (tgt := 44) hx hb d_Ref_asks_40 (by decide) ?_
        refine w_ti (show _ = rAsk fn inp (i + 1) from (if_neg c_17).symm) ?_
        refine lv_istore_n (lv' := [(3, .int ((rAsk fn inp (i + 1)))), (0, .ref r0), (1, .int fn), (2, .int inp), (4, .int ((nI i)))]) hx hb d_Ref_asks_44 rfl hl (by decide) rfl (fun ls hl => ?_)
        refine lv_iinc (v := (nI (i + 1))) (lv' := [(4, .int ((nI (i + 1)))), (3, .int ((rAsk fn inp (i + 1)))), (0, .ref r0), (1, .int fn), (2, .int inp)]) hx hb d_Ref_asks_45 hl (k := 4) rfl (show nI i + 1 = nI (i + 1) from nI_1 i) (by decide) rfl (fun ls hl => ?_)
        refine lv_goto (tgt := 5) hx hb d_Ref_asks_48 (by decide) ?_
        exact ih (i + 1) (by omega) (by omega) ls (lv_sub hl [2, 3, 4, 1, 0] rfl)
      · refine lv_iload_n hx hb d_Ref_asks_20 rfl (lv_at hl 1 rfl) ?_
        refine lv_iload hx hb d_Ref_asks_21 (lv_at hl 4 rfl) ?_
        refine lv_ishr hx hb d_Ref_asks_23 ?_
        refine lv_iconst (v := 1) hx hb d_Ref_asks_24 (by decide) ?_
        refine lv_iand hx hb d_Ref_asks_25 ?_
        refine lv_iload_n hx hb d_Ref_asks_26 rfl (lv_at hl 1 rfl) ?_
        refine lv_iload hx hb d_Ref_asks_27 (lv_at hl 4 rfl) ?_
        refine lv_iconst (v := 1) hx hb d_Ref_asks_29 (by decide) ?_
        refine lv_iload_n hx hb d_Ref_asks_30 rfl (lv_at hl 2 rfl) ?_
        refine lv_ishl hx hb d_Ref_asks_31 ?_
        refine lv_ixor hx hb d_Ref_asks_32 ?_
        refine lv_ishr hx hb d_Ref_asks_33 ?_
        refine lv_iconst (v := 1) hx hb d_Ref_asks_34 (by decide) ?_
        refine lv_iand hx hb d_Ref_asks_35 ?_
        refine lv_icmp_eq (tgt := 43) hx hb d_Ref_asks_36 (by decide) (fun c_36 => ?_) (fun c_36 => ?_)
        · refine lv_iconst (v := 0) hx hb d_Ref_asks_43 (by decide) ?_
          refine w_ti (show _ = rAsk fn inp (i + 1) from ((if_pos c_17).trans (if_pos c_36)).symm) ?_
          refine lv_istore_n (lv' := [(3, .int ((rAsk fn inp (i + 1)))), (0, .ref r0), (1, .int fn), (2, .int inp), (4, .int ((nI i)))]) hx hb d_Ref_asks_44 rfl hl (by decide) rfl (fun ls hl => ?_)
          refine lv_iinc (v := (nI (i + 1))) (lv' := [(4, .int ((nI (i + 1)))), (3, .int ((rAsk fn inp (i + 1)))), (0, .ref r0), (1, .int fn), (2, .int inp)]) hx hb d_Ref_asks_45 hl (k := 4) rfl (show nI i + 1 = nI (i + 1) from nI_1 i) (by decide) rfl (fun ls hl => ?_)
          refine lv_goto (tgt := 5) hx hb d_Ref_asks_48 (by decide) ?_
          exact ih (i + 1) (by omega) (by omega) ls (lv_sub hl [2, 3, 4, 1, 0] rfl)
        · refine lv_iconst (v := 1) hx hb d_Ref_asks_39 (by decide) ?_
          refine lv_goto (tgt := 44) hx hb d_Ref_asks_40 (by decide) ?_
          refine w_ti (show _ = rAsk fn inp (i + 1) from ((if_pos c_17).trans (if_neg c_36)).symm) ?_
          refine lv_istore_n (lv' := [(3, .int ((rAsk fn inp (i + 1)))), (0, .ref r0), (1, .int fn), (2, .int inp), (4, .int ((nI i)))]) hx hb d_Ref_asks_44 rfl hl (by decide) rfl (fun ls hl => ?_)
          refine lv_iinc (v := (nI (i + 1))) (lv' := [(4, .int ((nI (i + 1)))), (3, .int ((rAsk fn inp (i + 1)))), (0, .ref r0), (1, .int fn), (2, .int inp)]) hx hb d_Ref_asks_45 hl (k := 4) rfl (show nI i + 1 = nI (i + 1) from nI_1 i) (by decide) rfl (fun ls hl => ?_)
          refine lv_goto (tgt := 5) hx hb d_Ref_asks_48 (by decide) ?_
          exact ih (i + 1) (by omega) (by omega) ls (lv_sub hl [2, 3, 4, 1, 0] rfl)
set_option maxHeartbeats 1000000 in
set_option maxRecDepth 100000 in
theorem c_Ref_asks (l : Launch) (dC : Nat → ClassId) (dI : Nat → Nat → Nat) (cI cJ : ClassId) (r0 : Nat) (th : Int32) (N : Nat) (OU : Nat) (Z : Nat) (r1 : Nat) (r2 : Nat) (M : Nat) (r3 : Nat) (r4 : Nat) (r5 : Nat) (r6 : Nat) (r7 : Nat) (r8 : Nat) (PK : Nat) (r9 : Nat) (kp : Int32) (r10 : Nat) (r11 : Nat) (TK : Nat) (r12 : Nat) (qc : Int32) (r13 : Nat) (r14 : Nat) (bst : Int32) (r15 : Nat) (PW : Nat) (fn : Int32) (inp : Int32) (hN : N ≤ 4) (hPW : (1 : Int32) <<< (nI N &&& 31) = nI PW ∧ PW ≤ 16) : Met l y_Ref_asks (ct y_Ref_asks b_Ref_asks 5 (some .boolean)) ({ frames := 0, cells := 0, slots := 0, locals := 0 }) (va_Pc [.ref r0, .int fn, .int inp] (fun U => va_P (dC, dI) classes [(r0, .inr (8, [.int th, .int ((nI N)), .int ((nI OU)), .int ((nI Z)), .ref r1, .ref r2, .int ((nI M)), .ref r3, .ref r4, .ref r5, .ref r6, .ref r7, .ref r8, .int ((nI PK)), .ref r9, .int kp, .ref r10, .ref r11, .int ((nI TK)), .ref r12, .int qc, .ref r13, .ref r14, .int bst, .ref r15]))] U.heap ∧ va_K (dC, dI) classes [(cI, .int), (cJ, .long)] U)) (vp_Si (fun r => r = rAsk fn inp PW)) 0 0 (fun _ => False) := by
  refine Met.ofW (cc := b_Ref_asks) (maxL := 5) (ret := some .boolean) (by decide) rfl ?_
  intro p e s m args below meth c s₁ B hml hv
  obtain ⟨rfl, hP, hK⟩ := hv
  have hx := B.exec
  have hb := B.bytes
  have hr := B.returns
  have hts : ∀ w ∈ lwg, w.before _ s = true := fun w h => atoms_spec (ws := ct y_Ref_asks b_Ref_asks 5 (some .boolean)) B.pre w (List.mem_cons_of_mem _ h)
  have hown : s.vm.findClass R_Ref = some m.cls := findClass_of_methodNamed B.named
  have hlocks := B.notSynchronized
  have hl := lv_entry ([.ref r0, .int fn, .int inp]) (n := 5) (Nat.le_of_ble_eq_true rfl)
  rw [lg_entry_eq]
  generalize (lg_sl ([.ref r0, .int fn, .int inp]) ++ List.replicate (5 - (lg_sl ([.ref r0, .int fn, .int inp])).length) Slot.unset).toArray = ls at hl ⊢
  have hl : lv_has ls 5 [(0, .ref r0), (1, .int fn), (2, .int inp)] := hl
  refine lv_iconst (v := 0) hx hb d_Ref_asks_0 (by decide) ?_
  refine lv_istore_n (lv' := [(3, .int 0), (0, .ref r0), (1, .int fn), (2, .int inp)]) hx hb d_Ref_asks_1 rfl hl (by decide) rfl (fun ls hl => ?_)
  refine lv_iconst (v := 0) hx hb d_Ref_asks_2 (by decide) ?_
  refine lv_istore (lv' := [(4, .int 0), (3, .int 0), (0, .ref r0), (1, .int fn), (2, .int inp)]) hx hb d_Ref_asks_3 hl (by decide) rfl (fun ls hl => ?_)
  exact lp_Ref_asks l dC dI cI cJ r0 th N OU Z r1 r2 M r3 r4 r5 r6 r7 r8 PK r9 kp r10 r11 TK r12 qc r13 r14 bst r15 PW fn inp hN hPW hx hb hr hts hown hlocks hml hP hK (PW + 1) 0 (by omega) (Nat.zero_le _) ls (lv_sub hl [2, 3, 4, 1, 0] rfl)
