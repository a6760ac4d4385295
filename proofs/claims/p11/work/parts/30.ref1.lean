/-! ===== the reference: digit, ones, points ===== -/
/-- digit i of product q of N inputs -/
def rDig (N q i : Nat) : Nat := q / 3 ^ (N - 1 - i) % 3
def rOnes (set : Int32) (k : Nat) : Int32 := itr (fun k acc => acc + (uI set (nI k) &&& 1)) k 0
/-- whether product q has assignment a, by the first i inputs -/
def rHs (N q a i : Nat) : Int32 := itr (fun i acc => if acc = 0 then 0 else if nI (rDig N q i) = 2 then 1 else if nI (rDig N q i) = (nI a >>> (nI i &&& 31)) &&& 1 then 1 else 0) i 1
def rPts (N q a : Nat) : Int32 := itr (fun a acc => if rHs N q a N = 0 then acc else acc ||| (1 <<< (nI a &&& 31))) a 0
set_option maxHeartbeats 1000000 in
set_option maxRecDepth 100000 in
theorem c_Ref_thrown (l : Launch) (dC : Nat → ClassId) (dI : Nat → Nat → Nat) (cI cJ : ClassId) (r0 : Nat) (th : Int32) (N : Nat) (OU : Nat) (Z : Nat) (r1 : Nat) (r2 : Nat) (M : Nat) (r3 : Nat) (r4 : Nat) (r5 : Nat) (r6 : Nat) (r7 : Nat) (r8 : Nat) (PK : Nat) (r9 : Nat) (kp : Int32) (r10 : Nat) (r11 : Nat) (TK : Nat) (r12 : Nat) (qc : Int32) (r13 : Nat) (r14 : Nat) (bst : Int32) (r15 : Nat) : Met l y_Ref_thrown (ct y_Ref_thrown b_Ref_thrown 1 (some .int)) ({ frames := 0, cells := 0, slots := 0, locals := 0 }) (va_Pc [.ref r0] (fun U => va_P (dC, dI) classes [(r0, .inr (8, [.int th, .int ((nI N)), .int ((nI OU)), .int ((nI Z)), .ref r1, .ref r2, .int ((nI M)), .ref r3, .ref r4, .ref r5, .ref r6, .ref r7, .ref r8, .int ((nI PK)), .ref r9, .int kp, .ref r10, .ref r11, .int ((nI TK)), .ref r12, .int qc, .ref r13, .ref r14, .int bst, .ref r15]))] U.heap ∧ va_K (dC, dI) classes [(cI, .int), (cJ, .long)] U)) (vp_Si (fun r => r = th)) 0 0 (fun _ => False) := by
  refine Met.ofW (cc := b_Ref_thrown) (maxL := 1) (ret := some .int) (by decide) rfl ?_
  intro p e s m args below meth c s₁ B hml hv
  obtain ⟨rfl, hP, hK⟩ := hv
  have hx := B.exec
  have hb := B.bytes
  have hr := B.returns
  have hts : ∀ w ∈ lwg, w.before _ s = true := fun w h => atoms_spec (ws := ct y_Ref_thrown b_Ref_thrown 1 (some .int)) B.pre w (List.mem_cons_of_mem _ h)
  have hown : s.vm.findClass R_Ref = some m.cls := findClass_of_methodNamed B.named
  have hlocks := B.notSynchronized
  have hl := lv_entry ([.ref r0]) (n := 1) (Nat.le_of_ble_eq_true rfl)
  rw [lg_entry_eq]
  generalize (lg_sl ([.ref r0]) ++ List.replicate (1 - (lg_sl ([.ref r0])).length) Slot.unset).toArray = ls at hl ⊢
  have hl : lv_has ls 1 [(0, .ref r0)] := hl
  refine lv_aload_n hx hb d_Ref_thrown_0 rfl (lv_at hl 0 rfl) ?_
  refine va_get (D := (dC, dI)) (ci := 8) (v := .int th) (C := R_Ref) (T := F_Ref) (N := 25) hx hb hts i_Ref hown hK hP 0 rfl rfl 0 (by decide) (hts _ mw_fl_Ref_65) (fun _ h9 => h9) rfl d_Ref_thrown_1 ?_
  exact W.iret (v := th) hx hb hr (fun t ht hW => ⟨_, rfl, rfl, ht⟩) (fun q h => by cases h) d_Ref_thrown_4
set_option maxHeartbeats 1000000 in
set_option maxRecDepth 100000 in
theorem lp_Ref_digit {p : Program} {e : Env} {s : State} {m : MethodId} {args : Array Value} {below : List Frame} {meth : Method} {c : Code} (l : Launch) (dC : Nat → ClassId) (dI : Nat → Nat → Nat) (cI cJ : ClassId) (r0 : Nat) (th : Int32) (N : Nat) (OU : Nat) (Z : Nat) (r1 : Nat) (r2 : Nat) (M : Nat) (r3 : Nat) (r4 : Nat) (r5 : Nat) (r6 : Nat) (r7 : Nat) (r8 : Nat) (PK : Nat) (r9 : Nat) (kp : Int32) (r10 : Nat) (r11 : Nat) (TK : Nat) (r12 : Nat) (qc : Int32) (r13 : Nat) (r14 : Nat) (bst : Int32) (r15 : Nat) (q : Nat) (i0 : Nat) (hN : N ≤ 4) (hq : q < 81) (hi0 : i0 < N) (hx : p.tables.exec = Jvm.exec) (hb : c.code = b_Ref_digit) (hr : meth.sig.returnType = some .int) (hts : ∀ w ∈ lwg, w.before args s = true) (hown : s.vm.findClass R_Ref = some m.cls) (hlocks : meth.locks = false) (hml : c.maxLocals = 5) (hP : va_P (dC, dI) classes [(r0, .inr (8, [.int th, .int ((nI N)), .int ((nI OU)), .int ((nI Z)), .ref r1, .ref r2, .int ((nI M)), .ref r3, .ref r4, .ref r5, .ref r6, .ref r7, .ref r8, .int ((nI PK)), .ref r9, .int kp, .ref r10, .ref r11, .int ((nI TK)), .ref r12, .int qc, .ref r13, .ref r14, .int bst, .ref r15]))] s.heap) (hK : va_K (dC, dI) classes [(cI, .int), (cJ, .long)] s) : ∀ (fu i : Nat), (N - 1 - i0) - i < fu → i ≤ (N - 1 - i0) → ∀ ls : Array Slot, lv_has ls 5 [(0, .ref r0), (1, .int ((nI q))), (2, .int ((nI i0))), (3, .int ((nI (q / 3 ^ i)))), (4, .int ((nI (N - 1 - i))))] → W p l e ({ frames := 0, cells := 0, slots := 0, locals := 0 } : Room) s m args below meth c s.heap [] 0 0 (MQ below (vp_Si (fun r => r = nI (rDig N q i0))) args s 0 0 (fun _ => False)) (F0 m 10 ls []) := by
  intro fu
  induction fu with
  | zero => intro i h; omega
  | succ fu ih =>
    intro i hfu hle ls hl
    refine lv_iload hx hb d_Ref_digit_10 (lv_at hl 4 rfl) ?_
    refine lv_iload_n hx hb d_Ref_digit_12 rfl (lv_at hl 2 rfl) ?_
    refine lv_icmp_le (tgt := 26) hx hb d_Ref_digit_13 (by decide) (fun c_13 => ?_) (fun c_13 => ?_)
    · have hE : i = N - 1 - i0 := by have := (nI_leI (by omega) (by omega)).mp c_13; omega
      refine lv_iload_n hx hb d_Ref_digit_26 rfl (lv_at hl 3 rfl) ?_
      refine lv_iconst (v := 3) hx hb d_Ref_digit_27 (by decide) ?_
      refine lv_irem hx hb d_Ref_digit_28 (by decide) ?_
      refine w_ti (show _ = nI (q / 3 ^ i % 3) from by have h1 : q / 3 ^ i ≤ q := Nat.div_le_self _ _; rw [show (3 : Int32) = nI 3 from rfl, pk_rem (by omega) (by omega) (by omega)]) ?_
      exact W.iret (v := (nI (q / 3 ^ i % 3))) hx hb hr (fun t ht hW => ⟨_, rfl, by rw [hE]; rfl, ht⟩) (fun q h => by cases h) d_Ref_digit_29
    · have hlt : i < N - 1 - i0 := by have h9 : ¬ N - 1 - i ≤ i0 := fun h => c_13 ((nI_leI (a := N - 1 - i) (b := i0) (by omega) (by omega)).mpr h); omega
      refine lv_iload_n hx hb d_Ref_digit_16 rfl (lv_at hl 3 rfl) ?_
      refine lv_iconst (v := 3) hx hb d_Ref_digit_17 (by decide) ?_
      refine lv_idiv hx hb d_Ref_digit_18 (by decide) ?_
      refine w_ti (show _ = nI (q / 3 ^ (i + 1)) from by have h1 : q / 3 ^ i ≤ q := Nat.div_le_self _ _; rw [show (3 : Int32) = nI 3 from rfl, pk_div (by omega) (by omega) (by omega), Nat.div_div_eq_div_mul, ← Nat.pow_succ]) ?_
      refine lv_istore_n (lv' := [(3, .int ((nI (q / 3 ^ (i + 1))))), (0, .ref r0), (1, .int ((nI q))), (2, .int ((nI i0))), (4, .int ((nI (N - 1 - i))))]) hx hb d_Ref_digit_19 rfl hl (by decide) rfl (fun ls hl => ?_)
      refine lv_iinc (v := (nI (N - 1 - (i + 1)))) (lv' := [(4, .int ((nI (N - 1 - (i + 1))))), (3, .int ((nI (q / 3 ^ (i + 1))))), (0, .ref r0), (1, .int ((nI q))), (2, .int ((nI i0)))]) hx hb d_Ref_digit_20 hl (k := 4) rfl (show nI (N - 1 - i) + (-1) = nI (N - 1 - (i + 1)) from by rw [sb_m1 (by omega)]; congr 1) (by decide) rfl (fun ls hl => ?_)
      refine lv_goto (tgt := 10) hx hb d_Ref_digit_23 (by decide) ?_
      exact ih (i + 1) (by omega) (by omega) ls (lv_sub hl [2, 3, 4, 1, 0] rfl)
set_option maxHeartbeats 1000000 in
set_option maxRecDepth 100000 in
theorem c_Ref_digit (l : Launch) (dC : Nat → ClassId) (dI : Nat → Nat → Nat) (cI cJ : ClassId) (r0 : Nat) (th : Int32) (N : Nat) (OU : Nat) (Z : Nat) (r1 : Nat) (r2 : Nat) (M : Nat) (r3 : Nat) (r4 : Nat) (r5 : Nat) (r6 : Nat) (r7 : Nat) (r8 : Nat) (PK : Nat) (r9 : Nat) (kp : Int32) (r10 : Nat) (r11 : Nat) (TK : Nat) (r12 : Nat) (qc : Int32) (r13 : Nat) (r14 : Nat) (bst : Int32) (r15 : Nat) (q : Nat) (i0 : Nat) (hN : N ≤ 4) (hq : q < 81) (hi0 : i0 < N) : Met l y_Ref_digit (ct y_Ref_digit b_Ref_digit 5 (some .int)) ({ frames := 0, cells := 0, slots := 0, locals := 0 }) (va_Pc [.ref r0, .int ((nI q)), .int ((nI i0))] (fun U => va_P (dC, dI) classes [(r0, .inr (8, [.int th, .int ((nI N)), .int ((nI OU)), .int ((nI Z)), .ref r1, .ref r2, .int ((nI M)), .ref r3, .ref r4, .ref r5, .ref r6, .ref r7, .ref r8, .int ((nI PK)), .ref r9, .int kp, .ref r10, .ref r11, .int ((nI TK)), .ref r12, .int qc, .ref r13, .ref r14, .int bst, .ref r15]))] U.heap ∧ va_K (dC, dI) classes [(cI, .int), (cJ, .long)] U)) (vp_Si (fun r => r = nI (rDig N q i0))) 0 0 (fun _ => False) := by
  refine Met.ofW (cc := b_Ref_digit) (maxL := 5) (ret := some .int) (by decide) rfl ?_
  intro p e s m args below meth c s₁ B hml hv
  obtain ⟨rfl, hP, hK⟩ := hv
  have hx := B.exec
  have hb := B.bytes
  have hr := B.returns
  have hts : ∀ w ∈ lwg, w.before _ s = true := fun w h => atoms_spec (ws := ct y_Ref_digit b_Ref_digit 5 (some .int)) B.pre w (List.mem_cons_of_mem _ h)
  have hown : s.vm.findClass R_Ref = some m.cls := findClass_of_methodNamed B.named
  have hlocks := B.notSynchronized
  have hl := lv_entry ([.ref r0, .int ((nI q)), .int ((nI i0))]) (n := 5) (Nat.le_of_ble_eq_true rfl)
  rw [lg_entry_eq]
  generalize (lg_sl ([.ref r0, .int ((nI q)), .int ((nI i0))]) ++ List.replicate (5 - (lg_sl ([.ref r0, .int ((nI q)), .int ((nI i0))])).length) Slot.unset).toArray = ls at hl ⊢
  have hl : lv_has ls 5 [(0, .ref r0), (1, .int ((nI q))), (2, .int ((nI i0)))] := hl
  refine lv_iload_n hx hb d_Ref_digit_0 rfl (lv_at hl 1 rfl) ?_
  refine lv_istore_n (lv' := [(3, .int ((nI q))), (0, .ref r0), (1, .int ((nI q))), (2, .int ((nI i0)))]) hx hb d_Ref_digit_1 rfl hl (by decide) rfl (fun ls hl => ?_)
  refine lv_aload_n hx hb d_Ref_digit_2 rfl (lv_at hl 1 rfl) ?_
  refine va_get (D := (dC, dI)) (ci := 8) (v := .int ((nI N))) (C := R_Ref) (T := F_Ref) (N := 25) hx hb hts i_Ref hown hK hP 0 rfl rfl 1 (by decide) (hts _ mw_fl_Ref_55) (fun _ h9 => h9) rfl d_Ref_digit_3 ?_
  refine lv_iconst (v := 1) hx hb d_Ref_digit_6 (by decide) ?_
  refine lv_isub hx hb d_Ref_digit_7 ?_
  refine w_ti (show _ = nI (N - 1) from by rw [show (1 : Int32) = nI 1 from rfl, pk_sub (by omega)]) ?_
  refine lv_istore (lv' := [(4, .int ((nI (N - 1)))), (3, .int ((nI q))), (0, .ref r0), (1, .int ((nI q))), (2, .int ((nI i0)))]) hx hb d_Ref_digit_8 hl (by decide) rfl (fun ls hl => ?_)
  exact lp_Ref_digit l dC dI cI cJ r0 th N OU Z r1 r2 M r3 r4 r5 r6 r7 r8 PK r9 kp r10 r11 TK r12 qc r13 r14 bst r15 q i0 hN hq hi0 hx hb hr hts hown hlocks hml hP hK (N - 1 - i0 + 1) 0 (by omega) (Nat.zero_le _) ls (by rw [show q / 3 ^ 0 = q from Nat.div_one q]; exact lv_sub hl [2, 3, 4, 1, 0] rfl)
set_option maxHeartbeats 1000000 in
set_option maxRecDepth 100000 in
theorem lp_Ref_ones {p : Program} {e : Env} {s : State} {m : MethodId} {args : Array Value} {below : List Frame} {meth : Method} {c : Code} (l : Launch) (dC : Nat → ClassId) (dI : Nat → Nat → Nat) (cI cJ : ClassId) (set : Int32)  (hx : p.tables.exec = Jvm.exec) (hb : c.code = b_Ref_ones) (hr : meth.sig.returnType = some .int) (hts : ∀ w ∈ lwg, w.before args s = true) (hown : s.vm.findClass R_Ref = some m.cls) (hlocks : meth.locks = false) (hml : c.maxLocals = 3) (hP : va_P (dC, dI) classes [] s.heap) (hK : va_K (dC, dI) classes [(cI, .int), (cJ, .long)] s) : ∀ (fu i : Nat), 32 - i < fu → i ≤ 32 → ∀ ls : Array Slot, lv_has ls 3 [(0, .int set), (1, .int ((rOnes set i))), (2, .int ((nI i)))] → W p l e ({ frames := 0, cells := 0, slots := 0, locals := 0 } : Room) s m args below meth c s.heap [] 0 0 (MQ below (vp_Si (fun r => r = rOnes set 32)) args s 0 0 (fun _ => False)) (F0 m 4 ls []) := by
  intro fu
  induction fu with
  | zero => intro i h; omega
  | succ fu ih =>
    intro i hfu hle ls hl
    refine lv_iload_n hx hb d_Ref_ones_4 rfl (lv_at hl 2 rfl) ?_
    refine lv_bipush (v := 32) hx hb d_Ref_ones_5 (by decide) ?_
    refine lv_icmp_ge (tgt := 24) hx hb d_Ref_ones_7 (by decide) (fun c_7 => ?_) (fun c_7 => ?_)
    · have hE : i = 32 := Nat.le_antisymm hle ((nI_leI (a := 32) (b := i) (by omega) (by omega)).mp c_7)
      refine lv_iload_n hx hb d_Ref_ones_24 rfl (lv_at hl 1 rfl) ?_
      exact W.iret (v := (rOnes set i)) hx hb hr (fun t ht hW => ⟨_, rfl, by subst hE; rfl, ht⟩) (fun q h => by cases h) d_Ref_ones_25
    · have hlt : i < 32 := Nat.lt_of_not_le (fun h => c_7 ((nI_leI (a := 32) (b := i) (by omega) (by omega)).mpr h))
      refine lv_iload_n hx hb d_Ref_ones_10 rfl (lv_at hl 1 rfl) ?_
      refine lv_iload_n hx hb d_Ref_ones_11 rfl (lv_at hl 0 rfl) ?_
      refine lv_iload_n hx hb d_Ref_ones_12 rfl (lv_at hl 2 rfl) ?_
      refine lv_iushr hx hb d_Ref_ones_13 rfl ?_
      refine lv_iconst (v := 1) hx hb d_Ref_ones_14 (by decide) ?_
      refine lv_iand hx hb d_Ref_ones_15 ?_
      refine lv_iadd hx hb d_Ref_ones_16 ?_
      refine lv_istore_n (lv' := [(1, .int (((rOnes set i) + ((set.toUInt32 >>> ((nI i).toUInt32 &&& Int32.toUInt32 31)).toInt32 &&& 1)))), (0, .int set), (2, .int ((nI i)))]) hx hb d_Ref_ones_17 rfl hl (by decide) rfl (fun ls hl => ?_)
      refine lv_iinc (v := (nI (i + 1))) (lv' := [(2, .int ((nI (i + 1)))), (1, .int (((rOnes set i) + ((set.toUInt32 >>> ((nI i).toUInt32 &&& Int32.toUInt32 31)).toInt32 &&& 1)))), (0, .int set)]) hx hb d_Ref_ones_18 hl (k := 2) rfl (show nI i + 1 = nI (i + 1) from nI_1 i) (by decide) rfl (fun ls hl => ?_)
      refine lv_goto (tgt := 4) hx hb d_Ref_ones_21 (by decide) ?_
      exact ih (i + 1) (by omega) (by omega) ls (lv_sub hl [2, 1, 0] rfl)
set_option maxHeartbeats 1000000 in
set_option maxRecDepth 100000 in
theorem c_Ref_ones (l : Launch) (dC : Nat → ClassId) (dI : Nat → Nat → Nat) (cI cJ : ClassId) (set : Int32) : Met l y_Ref_ones (ct y_Ref_ones b_Ref_ones 3 (some .int)) ({ frames := 0, cells := 0, slots := 0, locals := 0 }) (va_Pc [.int set] (fun U => va_P (dC, dI) classes [] U.heap ∧ va_K (dC, dI) classes [(cI, .int), (cJ, .long)] U)) (vp_Si (fun r => r = rOnes set 32)) 0 0 (fun _ => False) := by
  refine Met.ofW (cc := b_Ref_ones) (maxL := 3) (ret := some .int) (by decide) rfl ?_
  intro p e s m args below meth c s₁ B hml hv
  obtain ⟨rfl, hP, hK⟩ := hv
  have hx := B.exec
  have hb := B.bytes
  have hr := B.returns
  have hts : ∀ w ∈ lwg, w.before _ s = true := fun w h => atoms_spec (ws := ct y_Ref_ones b_Ref_ones 3 (some .int)) B.pre w (List.mem_cons_of_mem _ h)
  have hown : s.vm.findClass R_Ref = some m.cls := findClass_of_methodNamed B.named
  have hlocks := B.notSynchronized
  have hl := lv_entry ([.int set]) (n := 3) (Nat.le_of_ble_eq_true rfl)
  rw [lg_entry_eq]
  generalize (lg_sl ([.int set]) ++ List.replicate (3 - (lg_sl ([.int set])).length) Slot.unset).toArray = ls at hl ⊢
  have hl : lv_has ls 3 [(0, .int set)] := hl
  refine lv_iconst (v := 0) hx hb d_Ref_ones_0 (by decide) ?_
  refine lv_istore_n (lv' := [(1, .int 0), (0, .int set)]) hx hb d_Ref_ones_1 rfl hl (by decide) rfl (fun ls hl => ?_)
  refine lv_iconst (v := 0) hx hb d_Ref_ones_2 (by decide) ?_
  refine lv_istore_n (lv' := [(2, .int 0), (1, .int 0), (0, .int set)]) hx hb d_Ref_ones_3 rfl hl (by decide) rfl (fun ls hl => ?_)
  exact lp_Ref_ones l dC dI cI cJ set  hx hb hr hts hown hlocks hml hP hK (32 + 1) 0 (by omega) (Nat.zero_le _) ls (lv_sub hl [2, 1, 0] rfl)
set_option maxHeartbeats 1000000 in
set_option maxRecDepth 100000 in
theorem lp_Ref_points1 {p : Program} {e : Env} {s : State} {m : MethodId} {args : Array Value} {below : List Frame} {meth : Method} {c : Code} {Q : State → Prop} (l : Launch) (dC : Nat → ClassId) (dI : Nat → Nat → Nat) (cI cJ : ClassId) (r0 : Nat) (th : Int32) (N : Nat) (OU : Nat) (Z : Nat) (r1 : Nat) (r2 : Nat) (M : Nat) (r3 : Nat) (r4 : Nat) (r5 : Nat) (r6 : Nat) (r7 : Nat) (r8 : Nat) (PK : Nat) (r9 : Nat) (kp : Int32) (r10 : Nat) (r11 : Nat) (TK : Nat) (r12 : Nat) (qc : Int32) (r13 : Nat) (r14 : Nat) (bst : Int32) (r15 : Nat) (PW : Nat) (q : Nat) (hN : N ≤ 4) (hq : q < 81) (hPW : (1 : Int32) <<< (nI N &&& 31) = nI PW ∧ PW ≤ 16) (al : Int32) (av : Nat)  (hx : p.tables.exec = Jvm.exec) (hb : c.code = b_Ref_points) (hts : ∀ w ∈ lwg, w.before args s = true) (hown : s.vm.findClass R_Ref = some m.cls) (hml : c.maxLocals = 7) (hP : va_P (dC, dI) classes [(r0, .inr (8, [.int th, .int ((nI N)), .int ((nI OU)), .int ((nI Z)), .ref r1, .ref r2, .int ((nI M)), .ref r3, .ref r4, .ref r5, .ref r6, .ref r7, .ref r8, .int ((nI PK)), .ref r9, .int kp, .ref r10, .ref r11, .int ((nI TK)), .ref r12, .int qc, .ref r13, .ref r14, .int bst, .ref r15]))] s.heap) (hK : va_K (dC, dI) classes [(cI, .int), (cJ, .long)] s) (kk : ∀ (ls : Array Slot), lv_has ls 7 [(0, .ref r0), (1, .int ((nI q))), (2, .int al), (3, .int ((nI av))), (4, .int ((rHs N q av N)))] → W p l e ({ frames := 1, cells := 0, slots := 0, locals := 24 } : Room) s m args below meth c s.heap [] 0 0 Q (F0 m 73 ls [])) : ∀ (fu i : Nat), N - i < fu → i ≤ N → ∀ (ls : Array Slot), lv_has ls 7 [(0, .ref r0), (1, .int ((nI q))), (2, .int al), (3, .int ((nI av))), (4, .int ((rHs N q av i))), (5, .int ((nI i)))] → W p l e ({ frames := 1, cells := 0, slots := 0, locals := 24 } : Room) s m args below meth c s.heap [] 0 0 Q (F0 m 20 ls []) := by
  intro fu
  induction fu with
  | zero => intro i h; omega
  | succ fu ih =>
    intro i hfu hle ls hl
    refine lv_iload hx hb d_Ref_points_20 (lv_at hl 5 rfl) ?_
    refine lv_aload_n hx hb d_Ref_points_22 rfl (lv_at hl 0 rfl) ?_
    refine va_get (D := (dC, dI)) (ci := 8) (v := .int ((nI N))) (C := R_Ref) (T := F_Ref) (N := 25) hx hb hts i_Ref hown hK hP 0 rfl rfl 1 (by decide) (hts _ mw_fl_Ref_55) (fun _ h9 => h9) rfl d_Ref_points_23 ?_
    refine lv_icmp_ge (tgt := 73) hx hb d_Ref_points_26 (by decide) (fun c_26 => ?_) (fun c_26 => ?_)
    · have hE : i = N := Nat.le_antisymm hle ((nI_leI (a := N) (b := i) (by omega) (by omega)).mp c_26)
      exact kk ls (by subst hE; exact lv_sub hl [0, 1, 2, 3, 4] rfl)
    · have hlt : i < N := Nat.lt_of_not_le (fun h => c_26 ((nI_leI (a := N) (b := i) (by omega) (by omega)).mpr h))
      refine lv_aload_n hx hb d_Ref_points_29 rfl (lv_at hl 0 rfl) ?_
      refine lv_iload_n hx hb d_Ref_points_30 rfl (lv_at hl 1 rfl) ?_
      refine lv_iload hx hb d_Ref_points_31 (lv_at hl 5 rfl) ?_
      refine vp_callSi (W.runV (As := [.int ((nI q)), .int ((nI i))]) (rest := []) ⟨hx, hb, hml, hown, hts⟩ (c_Ref_digit l dC dI cI cJ r0 th N OU Z r1 r2 M r3 r4 r5 r6 r7 r8 PK r9 kp r10 r11 TK r12 qc r13 r14 bst r15 q i hN hq hlt) (cwV 2 hts (ct_goodV mw_ml_Ref_68 mw_im_Ref_digit mw_se_Ref_digit mw_ini_Ref mw_code_Ref_digit) rfl rfl rfl (by decide +kernel) ⟨Nat.le_of_ble_eq_true rfl, Nat.le_of_ble_eq_true rfl⟩) ⟨fun a U g mk q => by obtain ⟨q0, qP, qK⟩ := q; exact ⟨q0, qP, va_K.moved (u := U) (U := U.calling g mk a) (Vm.Alike.refl U.vm) qK⟩, va_recv hK hP (ci := 8) (q0 := 0) rfl rfl, fun U hU hW => ⟨rfl, by rw [hU]; exact hP, va_K.moved hW.alike hK⟩⟩ rfl rfl hl.1 rfl (lv_room (Nat.le_of_ble_eq_true rfl)) d_Ref_points_33 ⟨Nat.le_of_ble_eq_true rfl, Nat.le_of_ble_eq_true rfl⟩) (fun r_1 hr_1 => ?_)
      rw [hr_1]
      clear hr_1
      refine lv_istore (lv' := [(6, .int ((nI (rDig N q i)))), (0, .ref r0), (1, .int ((nI q))), (2, .int al), (3, .int ((nI av))), (4, .int ((rHs N q av i))), (5, .int ((nI i)))]) hx hb d_Ref_points_36 hl (by decide) rfl (fun ls hl => ?_)
      refine lv_iload hx hb d_Ref_points_38 (lv_at hl 5 rfl) ?_
      refine lv_if_eq (tgt := 64) hx hb d_Ref_points_40 (by decide) (fun c_40 => ?_) (fun c_40 => ?_)
      · refine lv_iconst (v := 0) hx hb d_Ref_points_64 (by decide) ?_
        refine w_ti (show _ = rHs N q av (i + 1) from (if_pos c_40).symm) ?_
        refine lv_istore (lv' := [(4, .int ((rHs N q av (i + 1)))), (6, .int ((nI (rDig N q i)))), (0, .ref r0), (1, .int ((nI q))), (2, .int al), (3, .int ((nI av))), (5, .int ((nI i)))]) hx hb d_Ref_points_65 hl (by decide) rfl (fun ls hl => ?_)
        refine lv_iinc (v := (nI (i + 1))) (lv' := [(5, .int ((nI (i + 1)))), (4, .int ((rHs N q av (i + 1)))), (6, .int ((nI (rDig N q i)))), (0, .ref r0), (1, .int ((nI q))), (2, .int al), (3, .int ((nI av)))]) hx hb d_Ref_points_67 hl (k := 6) rfl (show nI i + 1 = nI (i + 1) from nI_1 i) (by decide) rfl (fun ls hl => ?_)
        refine lv_goto (tgt := 20) hx hb d_Ref_points_70 (by decide) ?_
        exact ih (i + 1) (by omega) (by omega) ls (lv_sub hl [3, 4, 5, 6, 1, 0] rfl)
      · refine lv_iload hx hb d_Ref_points_43 (lv_at hl 0 rfl) ?_
        refine lv_iconst (v := 2) hx hb d_Ref_points_45 (by decide) ?_
        refine lv_icmp_eq (tgt := 60) hx hb d_Ref_points_46 (by decide) (fun c_46 => ?_) (fun c_46 => ?_)
        · refine lv_iconst (v := 1) hx hb d_Ref_points_60 (by decide) ?_
          refine lv_goto (tgt := 65) hx hb d_Ref_points_61 (by decide) ?_
          refine w_ti (show _ = rHs N q av (i + 1) from ((if_neg c_40).trans (if_pos c_46)).symm) ?_
          refine lv_istore (lv' := [(4, .int ((rHs N q av (i + 1)))), (6, .int ((nI (rDig N q i)))), (0, .ref r0), (1, .int ((nI q))), (2, .int al), (3, .int ((nI av))), (5, .int ((nI i)))]) hx hb d_Ref_points_65 hl (by decide) rfl (fun ls hl => ?_)
          refine lv_iinc (v := (nI (i + 1))) (lv' := [(5, .int ((nI (i + 1)))), (4, .int ((rHs N q av (i + 1)))), (6, .int ((nI (rDig N q i)))), (0, .ref r0), (1, .int ((nI q))), (2, .int al), (3, .int ((nI av)))]) hx hb d_Ref_points_67 hl (k := 6) rfl (show nI i + 1 = nI (i + 1) from nI_1 i) (by decide) rfl (fun ls hl => ?_)
          refine lv_goto (tgt := 20) hx hb d_Ref_points_70 (by decide) ?_
          exact ih (i + 1) (by omega) (by omega) ls (lv_sub hl [3, 4, 5, 6, 1, 0] rfl)
        · refine lv_iload hx hb d_Ref_points_49 (lv_at hl 0 rfl) ?_
          refine lv_iload_n hx hb d_Ref_points_51 rfl (lv_at hl 4 rfl) ?_
          refine lv_iload hx hb d_Ref_points_52 (lv_at hl 6 rfl) ?_
          refine lv_ishr hx hb d_Ref_points_54 ?_
          refine lv_iconst (v := 1) hx hb d_Ref_points_55 (by decide) ?_
          refine lv_iand hx hb d_Ref_points_56 ?_
          refine lv_icmp_ne (tgt := 64) hx hb d_Ref_points_57 (by decide) (fun c_57 => ?_) (fun c_57 => ?_)
          · refine lv_iconst (v := 0) hx hb d_Ref_points_64 (by decide) ?_
            refine w_ti (show _ = rHs N q av (i + 1) from ((if_neg c_40).trans ((if_neg c_46).trans (if_neg c_57))).symm) ?_
            refine lv_istore (lv' := [(4, .int ((rHs N q av (i + 1)))), (6, .int ((nI (rDig N q i)))), (0, .ref r0), (1, .int ((nI q))), (2, .int al), (3, .int ((nI av))), (5, .int ((nI i)))]) hx hb d_Ref_points_65 hl (by decide) rfl (fun ls hl => ?_)
            refine lv_iinc (v := (nI (i + 1))) (lv' := [(5, .int ((nI (i + 1)))), (4, .int ((rHs N q av (i + 1)))), (6, .int ((nI (rDig N q i)))), (0, .ref r0), (1, .int ((nI q))), (2, .int al), (3, .int ((nI av)))]) hx hb d_Ref_points_67 hl (k := 6) rfl (show nI i + 1 = nI (i + 1) from nI_1 i) (by decide) rfl (fun ls hl => ?_)
            refine lv_goto (tgt := 20) hx hb d_Ref_points_70 (by decide) ?_
            exact ih (i + 1) (by omega) (by omega) ls (lv_sub hl [3, 4, 5, 6, 1, 0] rfl)
          · refine lv_iconst (v := 1) hx hb d_Ref_points_60 (by decide) ?_
            refine lv_goto (tgt := 65) hx hb d_Ref_points_61 (by decide) ?_
            refine w_ti (show _ = rHs N q av (i + 1) from ((if_neg c_40).trans ((if_neg c_46).trans (if_pos c_57))).symm) ?_
            refine lv_istore (lv' := [(4, .int ((rHs N q av (i + 1)))), (6, .int ((nI (rDig N q i)))), (0, .ref r0), (1, .int ((nI q))), (2, .int al), (3, .int ((nI av))), (5, .int ((nI i)))]) hx hb d_Ref_points_65 hl (by decide) rfl (fun ls hl => ?_)
            refine lv_iinc (v := (nI (i + 1))) (lv' := [(5, .int ((nI (i + 1)))), (4, .int ((rHs N q av (i + 1)))), (6, .int ((nI (rDig N q i)))), (0, .ref r0), (1, .int ((nI q))), (2, .int al), (3, .int ((nI av)))]) hx hb d_Ref_points_67 hl (k := 6) rfl (show nI i + 1 = nI (i + 1) from nI_1 i) (by decide) rfl (fun ls hl => ?_)
            refine lv_goto (tgt := 20) hx hb d_Ref_points_70 (by decide) ?_
            exact ih (i + 1) (by omega) (by omega) ls (lv_sub hl [3, 4, 5, 6, 1, 0] rfl)
set_option maxHeartbeats 1000000 in
set_option maxRecDepth 100000 in
theorem lp_Ref_points2 {p : Program} {e : Env} {s : State} {m : MethodId} {args : Array Value} {below : List Frame} {meth : Method} {c : Code} (l : Launch) (dC : Nat → ClassId) (dI : Nat → Nat → Nat) (cI cJ : ClassId) (r0 : Nat) (th : Int32) (N : Nat) (OU : Nat) (Z : Nat) (r1 : Nat) (r2 : Nat) (M : Nat) (r3 : Nat) (r4 : Nat) (r5 : Nat) (r6 : Nat) (r7 : Nat) (r8 : Nat) (PK : Nat) (r9 : Nat) (kp : Int32) (r10 : Nat) (r11 : Nat) (TK : Nat) (r12 : Nat) (qc : Int32) (r13 : Nat) (r14 : Nat) (bst : Int32) (r15 : Nat) (PW : Nat) (q : Nat) (hN : N ≤ 4) (hq : q < 81) (hPW : (1 : Int32) <<< (nI N &&& 31) = nI PW ∧ PW ≤ 16) (hx : p.tables.exec = Jvm.exec) (hb : c.code = b_Ref_points) (hr : meth.sig.returnType = some .int) (hts : ∀ w ∈ lwg, w.before args s = true) (hown : s.vm.findClass R_Ref = some m.cls) (hlocks : meth.locks = false) (hml : c.maxLocals = 7) (hP : va_P (dC, dI) classes [(r0, .inr (8, [.int th, .int ((nI N)), .int ((nI OU)), .int ((nI Z)), .ref r1, .ref r2, .int ((nI M)), .ref r3, .ref r4, .ref r5, .ref r6, .ref r7, .ref r8, .int ((nI PK)), .ref r9, .int kp, .ref r10, .ref r11, .int ((nI TK)), .ref r12, .int qc, .ref r13, .ref r14, .int bst, .ref r15]))] s.heap) (hK : va_K (dC, dI) classes [(cI, .int), (cJ, .long)] s) : ∀ (fu i : Nat), PW - i < fu → i ≤ PW → ∀ ls : Array Slot, lv_has ls 7 [(0, .ref r0), (1, .int ((nI q))), (2, .int ((rPts N q i))), (3, .int ((nI i)))] → W p l e ({ frames := 1, cells := 0, slots := 0, locals := 24 } : Room) s m args below meth c s.heap [] 0 0 (MQ below (vp_Si (fun r => r = rPts N q PW)) args s 0 0 (fun _ => False)) (F0 m 4 ls []) := by
  intro fu
  induction fu with
  | zero => intro i h; omega
  | succ fu ih =>
    intro i hfu hle ls hl
    refine lv_iload_n hx hb d_Ref_points_4 rfl (lv_at hl 3 rfl) ?_
    refine lv_iconst (v := 1) hx hb d_Ref_points_5 (by decide) ?_
    refine lv_aload_n hx hb d_Ref_points_6 rfl (lv_at hl 0 rfl) ?_
    refine va_get (D := (dC, dI)) (ci := 8) (v := .int ((nI N))) (C := R_Ref) (T := F_Ref) (N := 25) hx hb hts i_Ref hown hK hP 0 rfl rfl 1 (by decide) (hts _ mw_fl_Ref_55) (fun _ h9 => h9) rfl d_Ref_points_7 ?_
    refine lv_ishl hx hb d_Ref_points_10 ?_
    refine w_ti (show _ = nI PW from hPW.1) ?_
    refine lv_icmp_ge (tgt := 94) hx hb d_Ref_points_11 (by decide) (fun c_11 => ?_) (fun c_11 => ?_)
    · have hE : i = PW := Nat.le_antisymm hle ((nI_leI (a := PW) (b := i) (by omega) (by omega)).mp c_11)
      refine lv_iload_n hx hb d_Ref_points_94 rfl (lv_at hl 2 rfl) ?_
      exact W.iret (v := (rPts N q i)) hx hb hr (fun t ht hW => ⟨_, rfl, by subst hE; rfl, ht⟩) (fun q h => by cases h) d_Ref_points_95
    · have hlt : i < PW := Nat.lt_of_not_le (fun h => c_11 ((nI_leI (a := PW) (b := i) (by omega) (by omega)).mpr h))
      refine lv_iconst (v := 1) hx hb d_Ref_points_14 (by decide) ?_
      refine lv_istore (lv' := [(4, .int 1), (0, .ref r0), (1, .int ((nI q))), (2, .int ((rPts N q i))), (3, .int ((nI i)))]) hx hb d_Ref_points_15 hl (by decide) rfl (fun ls hl => ?_)
      refine lv_iconst (v := 0) hx hb d_Ref_points_17 (by decide) ?_
      refine lv_istore (lv' := [(5, .int 0), (4, .int 1), (0, .ref r0), (1, .int ((nI q))), (2, .int ((rPts N q i))), (3, .int ((nI i)))]) hx hb d_Ref_points_18 hl (by decide) rfl (fun ls hl => ?_)
      refine lp_Ref_points1 l dC dI cI cJ r0 th N OU Z r1 r2 M r3 r4 r5 r6 r7 r8 PK r9 kp r10 r11 TK r12 qc r13 r14 bst r15 PW q hN hq hPW ((rPts N q i)) i  hx hb hts hown hml hP hK (fun ls hl => ?_) (N + 1) 0 (by omega) (Nat.zero_le _) ls (lv_sub hl [2, 3, 4, 5, 1, 0] rfl)
      have hl : lv_has ls 7 [(0, .ref r0), (1, .int ((nI q))), (2, .int (((rPts N q i)))), (3, .int ((nI i))), (4, .int ((rHs N q i N)))] := hl
      refine lv_iload hx hb d_Ref_points_73 (lv_at hl 4 rfl) ?_
      refine lv_if_eq (tgt := 86) hx hb d_Ref_points_75 (by decide) (fun c_75 => ?_) (fun c_75 => ?_)
      · refine lv_iload_n hx hb d_Ref_points_86 rfl (lv_at hl 2 rfl) ?_
        refine w_ti (show _ = rPts N q (i + 1) from (if_pos c_75).symm) ?_
        refine lv_istore_n (lv' := [(2, .int ((rPts N q (i + 1)))), (0, .ref r0), (1, .int ((nI q))), (3, .int ((nI i))), (4, .int ((rHs N q i N)))]) hx hb d_Ref_points_87 rfl hl (by decide) rfl (fun ls hl => ?_)
        refine lv_iinc (v := (nI (i + 1))) (lv' := [(3, .int ((nI (i + 1)))), (2, .int ((rPts N q (i + 1)))), (0, .ref r0), (1, .int ((nI q))), (4, .int ((rHs N q i N)))]) hx hb d_Ref_points_88 hl (k := 3) rfl (show nI i + 1 = nI (i + 1) from nI_1 i) (by decide) rfl (fun ls hl => ?_)
        refine lv_goto (tgt := 4) hx hb d_Ref_points_91 (by decide) ?_
        exact ih (i + 1) (by omega) (by omega) ls (lv_sub hl [2, 3, 1, 0] rfl)
      · refine lv_iload_n hx hb d_Ref_points_78 rfl (lv_at hl 2 rfl) ?_
        refine lv_iconst (v := 1) hx hb d_Ref_points_79 (by decide) ?_
        refine lv_iload_n hx hb d_Ref_points_80 rfl (lv_at hl 3 rfl) ?_
        refine lv_ishl hx hb d_Ref_points_81 ?_
        refine lv_ior hx hb d_Ref_points_82 ?_
        refine lv_goto (tgt := 87) hx hb d_Ref_points_83 (by decide) ?_
        refine w_ti (show _ = rPts N q (i + 1) from (if_neg c_75).symm) ?_
        refine lv_istore_n (lv' := [(2, .int ((rPts N q (i + 1)))), (0, .ref r0), (1, .int ((nI q))), (3, .int ((nI i))), (4, .int ((rHs N q i N)))]) hx hb d_Ref_points_87 rfl hl (by decide) rfl (fun ls hl => ?_)
        refine lv_iinc (v := (nI (i + 1))) (lv' := [(3, .int ((nI (i + 1)))), (2, .int ((rPts N q (i + 1)))), (0, .ref r0), (1, .int ((nI q))), (4, .int ((rHs N q i N)))]) hx hb d_Ref_points_88 hl (k := 3) rfl (show nI i + 1 = nI (i + 1) from nI_1 i) (by decide) rfl (fun ls hl => ?_)
        refine lv_goto (tgt := 4) hx hb d_Ref_points_91 (by decide) ?_
        exact ih (i + 1) (by omega) (by omega) ls (lv_sub hl [2, 3, 1, 0] rfl)
set_option maxHeartbeats 1000000 in
set_option maxRecDepth 100000 in
theorem c_Ref_points (l : Launch) (dC : Nat → ClassId) (dI : Nat → Nat → Nat) (cI cJ : ClassId) (r0 : Nat) (th : Int32) (N : Nat) (OU : Nat) (Z : Nat) (r1 : Nat) (r2 : Nat) (M : Nat) (r3 : Nat) (r4 : Nat) (r5 : Nat) (r6 : Nat) (r7 : Nat) (r8 : Nat) (PK : Nat) (r9 : Nat) (kp : Int32) (r10 : Nat) (r11 : Nat) (TK : Nat) (r12 : Nat) (qc : Int32) (r13 : Nat) (r14 : Nat) (bst : Int32) (r15 : Nat) (PW : Nat) (q : Nat) (hN : N ≤ 4) (hq : q < 81) (hPW : (1 : Int32) <<< (nI N &&& 31) = nI PW ∧ PW ≤ 16) : Met l y_Ref_points (ct y_Ref_points b_Ref_points 7 (some .int)) ({ frames := 1, cells := 0, slots := 0, locals := 24 }) (va_Pc [.ref r0, .int ((nI q))] (fun U => va_P (dC, dI) classes [(r0, .inr (8, [.int th, .int ((nI N)), .int ((nI OU)), .int ((nI Z)), .ref r1, .ref r2, .int ((nI M)), .ref r3, .ref r4, .ref r5, .ref r6, .ref r7, .ref r8, .int ((nI PK)), .ref r9, .int kp, .ref r10, .ref r11, .int ((nI TK)), .ref r12, .int qc, .ref r13, .ref r14, .int bst, .ref r15]))] U.heap ∧ va_K (dC, dI) classes [(cI, .int), (cJ, .long)] U)) (vp_Si (fun r => r = rPts N q PW)) 0 0 (fun _ => False) := by
  refine Met.ofW (cc := b_Ref_points) (maxL := 7) (ret := some .int) (by decide) rfl ?_
  intro p e s m args below meth c s₁ B hml hv
  obtain ⟨rfl, hP, hK⟩ := hv
  have hx := B.exec
  have hb := B.bytes
  have hr := B.returns
  have hts : ∀ w ∈ lwg, w.before _ s = true := fun w h => atoms_spec (ws := ct y_Ref_points b_Ref_points 7 (some .int)) B.pre w (List.mem_cons_of_mem _ h)
  have hown : s.vm.findClass R_Ref = some m.cls := findClass_of_methodNamed B.named
  have hlocks := B.notSynchronized
  have hl := lv_entry ([.ref r0, .int ((nI q))]) (n := 7) (Nat.le_of_ble_eq_true rfl)
  rw [lg_entry_eq]
  generalize (lg_sl ([.ref r0, .int ((nI q))]) ++ List.replicate (7 - (lg_sl ([.ref r0, .int ((nI q))])).length) Slot.unset).toArray = ls at hl ⊢
  have hl : lv_has ls 7 [(0, .ref r0), (1, .int ((nI q)))] := hl
  refine lv_iconst (v := 0) hx hb d_Ref_points_0 (by decide) ?_
  refine lv_istore_n (lv' := [(2, .int 0), (0, .ref r0), (1, .int ((nI q)))]) hx hb d_Ref_points_1 rfl hl (by decide) rfl (fun ls hl => ?_)
  refine lv_iconst (v := 0) hx hb d_Ref_points_2 (by decide) ?_
  refine lv_istore_n (lv' := [(3, .int 0), (2, .int 0), (0, .ref r0), (1, .int ((nI q)))]) hx hb d_Ref_points_3 rfl hl (by decide) rfl (fun ls hl => ?_)
  exact lp_Ref_points2 l dC dI cI cJ r0 th N OU Z r1 r2 M r3 r4 r5 r6 r7 r8 PK r9 kp r10 r11 TK r12 qc r13 r14 bst r15 PW q hN hq hPW hx hb hr hts hown hlocks hml hP hK (PW + 1) 0 (by omega) (Nat.zero_le _) ls (lv_sub hl [2, 3, 1, 0] rfl)
