/-! ===== the reference on a fresh object ===== -/
theorem i_ge0 {x : Int32} (h : ¬ x < 0) : (0 : Int32) ≤ x := Int32.not_lt.mp h
theorem and_m1 (x : Int32) : x &&& ((0 : Int32) ^^^ (-1)) = x := by
  rw [show (0 : Int32) ^^^ (-1) = -1 from by decide]
  exact Int32.and_neg_one
theorem pw_ok {N : Nat} (h : N ≤ 4) : (1 : Int32) <<< (nI N &&& 31) = nI (2 ^ N) ∧ 2 ^ N ≤ 16 := by
  rcases (show N = 0 ∨ N = 1 ∨ N = 2 ∨ N = 3 ∨ N = 4 by omega) with rfl | rfl | rfl | rfl | rfl <;> decide +kernel
theorem rPts_chk : ((List.range 5).all fun N => (List.range (3 ^ N)).all fun q => decide (¬ rPts N q (2 ^ N) = 0)) = true := by decide +kernel
theorem rPts_ne {N q : Nat} (hN : N ≤ 4) (hq : q < 3 ^ N) : ¬ rPts N q (2 ^ N) = 0 :=
  of_decide_eq_true (List.all_eq_true.mp (List.all_eq_true.mp rPts_chk N (List.mem_range.mpr (by omega))) q (List.mem_range.mpr hq))
theorem rOut_0 {N q : Nat} (hN : N ≤ 4) (hq : q < 3 ^ N) (o : Nat) : rOut (fun _ => 0) (rPts N q (2 ^ N)) o = 0 := by
  induction o with
  | zero => rfl
  | succ o ih =>
    rw [show rOut (fun _ => 0) (rPts N q (2 ^ N)) (o + 1) = (if rPts N q (2 ^ N) &&& ((0 : Int32) ^^^ (-1)) = 0 then rOut (fun _ => 0) (rPts N q (2 ^ N)) o ||| ((1 : Int32) <<< (nI o &&& 31)) else rOut (fun _ => 0) (rPts N q (2 ^ N)) o) from rfl, and_m1, if_neg (rPts_ne hN hq)]
    exact ih
def tt : Nat → Int32 | 0 => 1 | _ + 1 => 0
theorem tt_0 {n : Nat} (h : 1 ≤ n) : tt n = 0 := by
  match n, h with
  | n + 1, _ => rfl
theorem all_ne {N : Nat} (h : N ≤ 4) : ¬ (0 : Int32) = ((1 : Int32) <<< (((1 : Int32) <<< (nI N &&& 31)) &&& 31)) - 1 := by
  rcases (show N = 0 ∨ N = 1 ∨ N = 2 ∨ N = 3 ∨ N = 4 by omega) with rfl | rfl | rfl | rfl | rfl <;> decide +kernel
def stD (i : Nat) : Nat → Int32 := itr (fun k f => upd f k 2) i (fun _ => 0)
theorem z4 (i : Nat) : ((4 : Int32) * 0 + nI i) = nI i := by rw [show (4 : Int32) * 0 = nI 0 from by decide, nI_add, Nat.zero_add]
set_option maxHeartbeats 1000000 in
set_option maxRecDepth 100000 in
theorem lpf_Ref_work {p : Program} {e : Env} {s : State} {m : MethodId} {args : Array Value} {below : List Frame} {meth : Method} {c : Code} (l : Launch) (dC : Nat → ClassId) (dI : Nat → Nat → Nat) (cI cJ : ClassId) (r0 : Nat) (th : Int32) (N : Nat) (OU : Nat) (Z : Nat) (r1 : Nat) (r2 : Nat) (r3 : Nat) (r4 : Nat) (r5 : Nat) (r6 : Nat) (r7 : Nat) (r8 : Nat) (r9 : Nat) (r10 : Nat) (r11 : Nat) (r12 : Nat) (r13 : Nat) (r14 : Nat) (bst : Int32) (r15 : Nat)  (hx : p.tables.exec = Jvm.exec) (hb : c.code = b_Ref_work) (hr : meth.sig.returnType = none) (hts : ∀ w ∈ lwg, w.before args s = true) (hown : s.vm.findClass R_Ref = some m.cls) (hlocks : meth.locks = false) (hml : c.maxLocals = 5) (hK : va_K (dC, dI) classes [(cI, .int), (cJ, .long)] s) {A : Nat → Prop} (hA : ∀ q : Nat, s.heap.size ≤ q → A q) : ∀ (fu i : Nat), 2 - i < fu → i ≤ 2 → ∀ (H : Heap) (locs : List Loc) (ls : Array Slot), va_P (dC, dI) classes [(r0, .inr (8, [.int th, .int ((nI N)), .int ((nI OU)), .int ((nI Z)), .ref r1, .ref r2, .int 0, .ref r3, .ref r4, .ref r5, .ref r6, .ref r7, .ref r8, .int 0, .ref r9, .int 0, .ref r10, .ref r11, .int 0, .ref r12, .int 0, .ref r13, .ref r14, .int bst, .ref r15])), (r3, .inl (cI, 2, .inl ((fun _ => 0)))), (r4, .inl (cI, 2, .inl ((fun _ => 0))))] H → va_D A [(r0, .inr (8, [.int th, .int ((nI N)), .int ((nI OU)), .int ((nI Z)), .ref r1, .ref r2, .int 0, .ref r3, .ref r4, .ref r5, .ref r6, .ref r7, .ref r8, .int 0, .ref r9, .int 0, .ref r10, .ref r11, .int 0, .ref r12, .int 0, .ref r13, .ref r14, .int bst, .ref r15])), (r3, .inl (cI, 2, .inl ((fun _ => 0)))), (r4, .inl (cI, 2, .inl ((fun _ => 0))))] → va_S A s.heap H locs → lv_has ls 5 [(0, .ref r0), (1, .int ((nI i)))] → W p l e ({ frames := 2, cells := 0, slots := 0, locals := 50 } : Room) s m args below meth c H locs 0 0 (MQ below (va_Qv (fun _ : Unit => True) (fun _ => at_w dC dI cI cJ A [(r0, .inr (8, [.int th, .int ((nI N)), .int ((nI OU)), .int ((nI Z)), .ref r1, .ref r2, .int 0, .ref r3, .ref r4, .ref r5, .ref r6, .ref r7, .ref r8, .int 0, .ref r9, .int 0, .ref r10, .ref r11, .int 0, .ref r12, .int 0, .ref r13, .ref r14, .int bst, .ref r15])), (r3, .inl (cI, 2, .inl ((fun _ => 0)))), (r4, .inl (cI, 2, .inl ((fun _ => 0))))]) A) args s 0 0 A) (F0 m 2 ls []) := by
  intro fu
  induction fu with
  | zero => intro i h; omega
  | succ fu ih =>
    intro i hfu hle H locs ls hP hD hS hl
    refine lv_iload_n hx hb d_Ref_work_2 rfl (lv_at hl 1 rfl) ?_
    refine lv_iconst (v := 2) hx hb d_Ref_work_3 (by decide) ?_
    refine lv_icmp_ge (tgt := 161) hx hb d_Ref_work_4 (by decide) (fun c_4 => ?_) (fun c_4 => ?_)
    · have hE : i = 2 := Nat.le_antisymm hle ((nI_leI (a := 2) (b := i) (by omega) (by omega)).mp c_4)
      have hP9 := hP.sub (ws' := [(r0, .inr (8, [.int th, .int ((nI N)), .int ((nI OU)), .int ((nI Z)), .ref r1, .ref r2, .int 0, .ref r3, .ref r4, .ref r5, .ref r6, .ref r7, .ref r8, .int 0, .ref r9, .int 0, .ref r10, .ref r11, .int 0, .ref r12, .int 0, .ref r13, .ref r14, .int bst, .ref r15])), (r3, .inl (cI, 2, .inl ((fun _ => 0)))), (r4, .inl (cI, 2, .inl ((fun _ => 0))))]) [0, 1, 2] (by subst hE; rfl)
      have hD9 := hD.sub (ws' := [(r0, .inr (8, [.int th, .int ((nI N)), .int ((nI OU)), .int ((nI Z)), .ref r1, .ref r2, .int 0, .ref r3, .ref r4, .ref r5, .ref r6, .ref r7, .ref r8, .int 0, .ref r9, .int 0, .ref r10, .ref r11, .int 0, .ref r12, .int 0, .ref r13, .ref r14, .int bst, .ref r15])), (r3, .inl (cI, 2, .inl ((fun _ => 0)))), (r4, .inl (cI, 2, .inl ((fun _ => 0))))]) [0, 1, 2] (by decide) (by subst hE; rfl)
      exact W.vret hx hb hr (fun t ht hW => ⟨⟨(), rfl, trivial, by rw [ht]; exact hP9, va_K.moved hW.alike hK, hD9⟩, hS.F ht⟩) hS.2.2 d_Ref_work_161
    · have hlt : i < 2 := Nat.lt_of_not_le (fun h => c_4 ((nI_leI (a := 2) (b := i) (by omega) (by omega)).mpr h))
      refine lv_aload_n hx hb d_Ref_work_7 rfl (lv_at hl 0 rfl) ?_
      refine va_get (D := (dC, dI)) (ci := 8) (v := .ref r3) (C := R_Ref) (T := F_Ref) (N := 25) hx hb hts i_Ref hown hK hP 0 rfl rfl 7 (by decide) (hts _ mw_fl_Ref_16) (fun _ h9 => h9) rfl d_Ref_work_8 ?_
      refine lv_iload_n hx hb d_Ref_work_11 rfl (lv_at hl 1 rfl) ?_
      refine lv_iconst (v := 0) hx hb d_Ref_work_12 (by decide) ?_
      refine va_iast hx hb hK hP hD hS 1 0 rfl rfl (vp_in_nI (show i < 2 by omega) (by omega)) d_Ref_work_13 (fun H locs hP hD hS => ?_)
      have hP : va_P (dC, dI) classes [(r0, .inr (8, [.int th, .int ((nI N)), .int ((nI OU)), .int ((nI Z)), .ref r1, .ref r2, .int 0, .ref r3, .ref r4, .ref r5, .ref r6, .ref r7, .ref r8, .int 0, .ref r9, .int 0, .ref r10, .ref r11, .int 0, .ref r12, .int 0, .ref r13, .ref r14, .int bst, .ref r15])), (r3, .inl (cI, 2, .inl ((upd ((fun _ => 0)) (nI i).toNatClampNeg 0)))), (r4, .inl (cI, 2, .inl ((fun _ => 0))))] H := hP
      have hD : va_D A [(r0, .inr (8, [.int th, .int ((nI N)), .int ((nI OU)), .int ((nI Z)), .ref r1, .ref r2, .int 0, .ref r3, .ref r4, .ref r5, .ref r6, .ref r7, .ref r8, .int 0, .ref r9, .int 0, .ref r10, .ref r11, .int 0, .ref r12, .int 0, .ref r13, .ref r14, .int bst, .ref r15])), (r3, .inl (cI, 2, .inl ((upd ((fun _ => 0)) (nI i).toNatClampNeg 0)))), (r4, .inl (cI, 2, .inl ((fun _ => 0))))] := hD
      rw [show (nI i).toNatClampNeg = i from nI_clamp (by omega)] at hP hD
      rw [show upd ((fun _ => 0)) i 0 = (fun _ => 0) from upd_id rfl] at hP hD
      have hP : va_P (dC, dI) classes [(r0, .inr (8, [.int th, .int ((nI N)), .int ((nI OU)), .int ((nI Z)), .ref r1, .ref r2, .int 0, .ref r3, .ref r4, .ref r5, .ref r6, .ref r7, .ref r8, .int 0, .ref r9, .int 0, .ref r10, .ref r11, .int 0, .ref r12, .int 0, .ref r13, .ref r14, .int bst, .ref r15])), (r3, .inl (cI, 2, .inl ((fun _ => 0)))), (r4, .inl (cI, 2, .inl ((fun _ => 0))))] H := hP
      have hD : va_D A [(r0, .inr (8, [.int th, .int ((nI N)), .int ((nI OU)), .int ((nI Z)), .ref r1, .ref r2, .int 0, .ref r3, .ref r4, .ref r5, .ref r6, .ref r7, .ref r8, .int 0, .ref r9, .int 0, .ref r10, .ref r11, .int 0, .ref r12, .int 0, .ref r13, .ref r14, .int bst, .ref r15])), (r3, .inl (cI, 2, .inl ((fun _ => 0)))), (r4, .inl (cI, 2, .inl ((fun _ => 0))))] := hD
      refine lv_aload_n hx hb d_Ref_work_14 rfl (lv_at hl 0 rfl) ?_
      refine va_get (D := (dC, dI)) (ci := 8) (v := .ref r4) (C := R_Ref) (T := F_Ref) (N := 25) hx hb hts i_Ref hown hK hP 0 rfl rfl 8 (by decide) (hts _ mw_fl_Ref_19) (fun _ h9 => h9) rfl d_Ref_work_15 ?_
      refine lv_iload_n hx hb d_Ref_work_18 rfl (lv_at hl 1 rfl) ?_
      refine lv_iconst (v := 0) hx hb d_Ref_work_19 (by decide) ?_
      refine va_iast hx hb hK hP hD hS 2 0 rfl rfl (vp_in_nI (show i < 2 by omega) (by omega)) d_Ref_work_20 (fun H locs hP hD hS => ?_)
      have hP : va_P (dC, dI) classes [(r0, .inr (8, [.int th, .int ((nI N)), .int ((nI OU)), .int ((nI Z)), .ref r1, .ref r2, .int 0, .ref r3, .ref r4, .ref r5, .ref r6, .ref r7, .ref r8, .int 0, .ref r9, .int 0, .ref r10, .ref r11, .int 0, .ref r12, .int 0, .ref r13, .ref r14, .int bst, .ref r15])), (r3, .inl (cI, 2, .inl ((fun _ => 0)))), (r4, .inl (cI, 2, .inl ((upd ((fun _ => 0)) (nI i).toNatClampNeg 0))))] H := hP
      have hD : va_D A [(r0, .inr (8, [.int th, .int ((nI N)), .int ((nI OU)), .int ((nI Z)), .ref r1, .ref r2, .int 0, .ref r3, .ref r4, .ref r5, .ref r6, .ref r7, .ref r8, .int 0, .ref r9, .int 0, .ref r10, .ref r11, .int 0, .ref r12, .int 0, .ref r13, .ref r14, .int bst, .ref r15])), (r3, .inl (cI, 2, .inl ((fun _ => 0)))), (r4, .inl (cI, 2, .inl ((upd ((fun _ => 0)) (nI i).toNatClampNeg 0))))] := hD
      rw [show (nI i).toNatClampNeg = i from nI_clamp (by omega)] at hP hD
      rw [show upd ((fun _ => 0)) i 0 = (fun _ => 0) from upd_id rfl] at hP hD
      have hP : va_P (dC, dI) classes [(r0, .inr (8, [.int th, .int ((nI N)), .int ((nI OU)), .int ((nI Z)), .ref r1, .ref r2, .int 0, .ref r3, .ref r4, .ref r5, .ref r6, .ref r7, .ref r8, .int 0, .ref r9, .int 0, .ref r10, .ref r11, .int 0, .ref r12, .int 0, .ref r13, .ref r14, .int bst, .ref r15])), (r3, .inl (cI, 2, .inl ((fun _ => 0)))), (r4, .inl (cI, 2, .inl ((fun _ => 0))))] H := hP
      have hD : va_D A [(r0, .inr (8, [.int th, .int ((nI N)), .int ((nI OU)), .int ((nI Z)), .ref r1, .ref r2, .int 0, .ref r3, .ref r4, .ref r5, .ref r6, .ref r7, .ref r8, .int 0, .ref r9, .int 0, .ref r10, .ref r11, .int 0, .ref r12, .int 0, .ref r13, .ref r14, .int bst, .ref r15])), (r3, .inl (cI, 2, .inl ((fun _ => 0)))), (r4, .inl (cI, 2, .inl ((fun _ => 0))))] := hD
      refine lv_iconst (v := 0) hx hb d_Ref_work_21 (by decide) ?_
      refine lv_istore_n (lv' := [(2, .int 0), (0, .ref r0), (1, .int ((nI i)))]) hx hb d_Ref_work_22 rfl hl (by decide) rfl (fun ls hl => ?_)
      refine lv_iload_n hx hb d_Ref_work_23 rfl (lv_at hl 0 rfl) ?_
      refine lv_aload_n hx hb d_Ref_work_24 rfl (lv_at hl 1 rfl) ?_
      refine va_get (D := (dC, dI)) (ci := 8) (v := .int 0) (C := R_Ref) (T := F_Ref) (N := 25) hx hb hts i_Ref hown hK hP 0 rfl rfl 6 (by decide) (hts _ mw_fl_Ref_72) (fun _ h9 => h9) rfl d_Ref_work_25 ?_
      refine lv_icmp_ge (tgt := 155) hx hb d_Ref_work_28 (by decide) (fun c_28 => ?_) (fun c_28 => ?_)
      · refine lv_iinc (v := (nI (i + 1))) (lv' := [(1, .int ((nI (i + 1)))), (2, .int 0), (0, .ref r0)]) hx hb d_Ref_work_155 hl (k := 2) rfl (show nI i + 1 = nI (i + 1) from nI_1 i) (by decide) rfl (fun ls hl => ?_)
        refine lv_goto (tgt := 2) hx hb d_Ref_work_158 (by decide) ?_
        exact ih (i + 1) (by omega) (by omega) _ _ ls (hP.sub [0, 1, 2] rfl) (hD.sub [0, 1, 2] (by decide) rfl) hS (lv_sub hl [2, 0] rfl)
      · exact absurd c_28 (by decide +kernel)
set_option maxHeartbeats 1000000 in
set_option maxRecDepth 100000 in
theorem c_Ref_work (l : Launch) (dC : Nat → ClassId) (dI : Nat → Nat → Nat) (cI cJ : ClassId) (sz0 : Nat) (r0 : Nat) (th : Int32) (N : Nat) (OU : Nat) (Z : Nat) (r1 : Nat) (r2 : Nat) (r3 : Nat) (r4 : Nat) (r5 : Nat) (r6 : Nat) (r7 : Nat) (r8 : Nat) (r9 : Nat) (r10 : Nat) (r11 : Nat) (r12 : Nat) (r13 : Nat) (r14 : Nat) (bst : Int32) (r15 : Nat) : Met l y_Ref_work (ct y_Ref_work b_Ref_work 5 (none)) ({ frames := 2, cells := 0, slots := 0, locals := 50 }) (va_Pc [.ref r0] (fun U => U.heap.size = sz0 ∧ va_P (dC, dI) classes [(r0, .inr (8, [.int th, .int ((nI N)), .int ((nI OU)), .int ((nI Z)), .ref r1, .ref r2, .int 0, .ref r3, .ref r4, .ref r5, .ref r6, .ref r7, .ref r8, .int 0, .ref r9, .int 0, .ref r10, .ref r11, .int 0, .ref r12, .int 0, .ref r13, .ref r14, .int bst, .ref r15])), (r3, .inl (cI, 2, .inl ((fun _ => 0)))), (r4, .inl (cI, 2, .inl ((fun _ => 0))))] U.heap ∧ va_K (dC, dI) classes [(cI, .int), (cJ, .long)] U ∧ va_D (fun _ => True) [(r0, .inr (8, [.int th, .int ((nI N)), .int ((nI OU)), .int ((nI Z)), .ref r1, .ref r2, .int 0, .ref r3, .ref r4, .ref r5, .ref r6, .ref r7, .ref r8, .int 0, .ref r9, .int 0, .ref r10, .ref r11, .int 0, .ref r12, .int 0, .ref r13, .ref r14, .int bst, .ref r15])), (r3, .inl (cI, 2, .inl ((fun _ => 0)))), (r4, .inl (cI, 2, .inl ((fun _ => 0))))])) (va_Qv (fun _ : Unit => True) (fun _ => at_w dC dI cI cJ (va_A [(r0, .inr (8, [.int th, .int ((nI N)), .int ((nI OU)), .int ((nI Z)), .ref r1, .ref r2, .int 0, .ref r3, .ref r4, .ref r5, .ref r6, .ref r7, .ref r8, .int 0, .ref r9, .int 0, .ref r10, .ref r11, .int 0, .ref r12, .int 0, .ref r13, .ref r14, .int bst, .ref r15])), (r3, .inl (cI, 2, .inl ((fun _ => 0)))), (r4, .inl (cI, 2, .inl ((fun _ => 0))))] sz0) [(r0, .inr (8, [.int th, .int ((nI N)), .int ((nI OU)), .int ((nI Z)), .ref r1, .ref r2, .int 0, .ref r3, .ref r4, .ref r5, .ref r6, .ref r7, .ref r8, .int 0, .ref r9, .int 0, .ref r10, .ref r11, .int 0, .ref r12, .int 0, .ref r13, .ref r14, .int bst, .ref r15])), (r3, .inl (cI, 2, .inl ((fun _ => 0)))), (r4, .inl (cI, 2, .inl ((fun _ => 0))))]) (va_A [(r0, .inr (8, [.int th, .int ((nI N)), .int ((nI OU)), .int ((nI Z)), .ref r1, .ref r2, .int 0, .ref r3, .ref r4, .ref r5, .ref r6, .ref r7, .ref r8, .int 0, .ref r9, .int 0, .ref r10, .ref r11, .int 0, .ref r12, .int 0, .ref r13, .ref r14, .int bst, .ref r15])), (r3, .inl (cI, 2, .inl ((fun _ => 0)))), (r4, .inl (cI, 2, .inl ((fun _ => 0))))] sz0)) 0 0 (va_A [(r0, .inr (8, [.int th, .int ((nI N)), .int ((nI OU)), .int ((nI Z)), .ref r1, .ref r2, .int 0, .ref r3, .ref r4, .ref r5, .ref r6, .ref r7, .ref r8, .int 0, .ref r9, .int 0, .ref r10, .ref r11, .int 0, .ref r12, .int 0, .ref r13, .ref r14, .int bst, .ref r15])), (r3, .inl (cI, 2, .inl ((fun _ => 0)))), (r4, .inl (cI, 2, .inl ((fun _ => 0))))] sz0) := by
  refine Met.ofW (cc := b_Ref_work) (maxL := 5) (ret := none) (by decide) rfl ?_
  intro p e s m args below meth c s₁ B hml hv
  obtain ⟨rfl, hsz, hP, hK, hD0⟩ := hv
  have hx := B.exec
  have hb := B.bytes
  have hr := B.returns
  have hts : ∀ w ∈ lwg, w.before _ s = true := fun w h => atoms_spec (ws := ct y_Ref_work b_Ref_work 5 (none)) B.pre w (List.mem_cons_of_mem _ h)
  have hown : s.vm.findClass R_Ref = some m.cls := findClass_of_methodNamed B.named
  have hlocks := B.notSynchronized
  subst hsz
  have hD := hD0.self (sz := s.heap.size)
  generalize hAe : va_A [(r0, .inr (8, [.int th, .int ((nI N)), .int ((nI OU)), .int ((nI Z)), .ref r1, .ref r2, .int 0, .ref r3, .ref r4, .ref r5, .ref r6, .ref r7, .ref r8, .int 0, .ref r9, .int 0, .ref r10, .ref r11, .int 0, .ref r12, .int 0, .ref r13, .ref r14, .int bst, .ref r15])), (r3, .inl (cI, 2, .inl ((fun _ => 0)))), (r4, .inl (cI, 2, .inl ((fun _ => 0))))] s.heap.size = A at hD ⊢
  have hA : ∀ q : Nat, s.heap.size ≤ q → A q := fun q h => by rw [← hAe]; exact Or.inr h
  have hS : va_S A s.heap s.heap [] := va_S.rf
  have hl := lv_entry ([.ref r0]) (n := 5) (Nat.le_of_ble_eq_true rfl)
  rw [lg_entry_eq]
  generalize (lg_sl ([.ref r0]) ++ List.replicate (5 - (lg_sl ([.ref r0])).length) Slot.unset).toArray = ls at hl ⊢
  have hl : lv_has ls 5 [(0, .ref r0)] := hl
  have hP : va_P (dC, dI) classes [(r0, .inr (8, [.int th, .int ((nI N)), .int ((nI OU)), .int ((nI Z)), .ref r1, .ref r2, .int 0, .ref r3, .ref r4, .ref r5, .ref r6, .ref r7, .ref r8, .int 0, .ref r9, .int 0, .ref r10, .ref r11, .int 0, .ref r12, .int 0, .ref r13, .ref r14, .int bst, .ref r15])), (r3, .inl (cI, 2, .inl ((fun _ => 0)))), (r4, .inl (cI, 2, .inl ((fun _ => 0))))] s.heap := hP
  refine lv_iconst (v := 0) hx hb d_Ref_work_0 (by decide) ?_
  refine lv_istore_n (lv' := [(1, .int 0), (0, .ref r0)]) hx hb d_Ref_work_1 rfl hl (by decide) rfl (fun ls hl => ?_)
  exact lpf_Ref_work l dC dI cI cJ r0 th N OU Z r1 r2 r3 r4 r5 r6 r7 r8 r9 r10 r11 r12 r13 r14 bst r15  hx hb hr hts hown hlocks hml hK hA (2 + 1) 0 (by omega) (Nat.zero_le _) _ _ ls (hP.sub [0, 1, 2] rfl) (hD.sub [0, 1, 2] (by decide) rfl) hS (lv_sub hl [1, 0] rfl)
set_option maxHeartbeats 1000000 in
set_option maxRecDepth 100000 in
theorem lpf_Ref_findPrimes {p : Program} {e : Env} {s : State} {m : MethodId} {args : Array Value} {below : List Frame} {meth : Method} {c : Code} (l : Launch) (dC : Nat → ClassId) (dI : Nat → Nat → Nat) (cI cJ : ClassId) (r0 : Nat) (th : Int32) (N : Nat) (OU : Nat) (Z : Nat) (r1 : Nat) (r2 : Nat) (r3 : Nat) (r4 : Nat) (r5 : Nat) (r6 : Nat) (r7 : Nat) (r8 : Nat) (r9 : Nat) (r10 : Nat) (r11 : Nat) (r12 : Nat) (r13 : Nat) (r14 : Nat) (bst : Int32) (r15 : Nat) (hN : N ≤ 4) (hOU : OU ≤ 2) (hZ : 3 ^ N = Z) (hx : p.tables.exec = Jvm.exec) (hb : c.code = b_Ref_findPrimes) (hr : meth.sig.returnType = none) (hts : ∀ w ∈ lwg, w.before args s = true) (hown : s.vm.findClass R_Ref = some m.cls) (hlocks : meth.locks = false) (hml : c.maxLocals = 6) (hK : va_K (dC, dI) classes [(cI, .int), (cJ, .long)] s) {A : Nat → Prop} (hA : ∀ q : Nat, s.heap.size ≤ q → A q) : ∀ (fu i : Nat), Z - i < fu → i ≤ Z → ∀ (H : Heap) (locs : List Loc) (ls : Array Slot), va_P (dC, dI) classes [(r0, .inr (8, [.int th, .int ((nI N)), .int ((nI OU)), .int ((nI Z)), .ref r1, .ref r2, .int 0, .ref r3, .ref r4, .ref r5, .ref r6, .ref r7, .ref r8, .int 0, .ref r9, .int 0, .ref r10, .ref r11, .int 0, .ref r12, .int 0, .ref r13, .ref r14, .int bst, .ref r15])), (r3, .inl (cI, 2, .inl ((fun _ => 0)))), (r4, .inl (cI, 2, .inl ((fun _ => 0))))] H → va_D A [(r0, .inr (8, [.int th, .int ((nI N)), .int ((nI OU)), .int ((nI Z)), .ref r1, .ref r2, .int 0, .ref r3, .ref r4, .ref r5, .ref r6, .ref r7, .ref r8, .int 0, .ref r9, .int 0, .ref r10, .ref r11, .int 0, .ref r12, .int 0, .ref r13, .ref r14, .int bst, .ref r15])), (r3, .inl (cI, 2, .inl ((fun _ => 0)))), (r4, .inl (cI, 2, .inl ((fun _ => 0))))] → va_S A s.heap H locs → lv_has ls 6 [(0, .ref r0), (1, .int ((nI i)))] → W p l e ({ frames := 3, cells := 0, slots := 0, locals := 74 } : Room) s m args below meth c H locs 0 0 (MQ below (va_Qv (fun _ : Unit => True) (fun _ => at_w dC dI cI cJ A [(r0, .inr (8, [.int th, .int ((nI N)), .int ((nI OU)), .int ((nI Z)), .ref r1, .ref r2, .int 0, .ref r3, .ref r4, .ref r5, .ref r6, .ref r7, .ref r8, .int 0, .ref r9, .int 0, .ref r10, .ref r11, .int 0, .ref r12, .int 0, .ref r13, .ref r14, .int bst, .ref r15])), (r3, .inl (cI, 2, .inl ((fun _ => 0)))), (r4, .inl (cI, 2, .inl ((fun _ => 0))))]) A) args s 0 0 A) (F0 m 11 ls []) := by
  intro fu
  induction fu with
  | zero => intro i h; omega
  | succ fu ih =>
    intro i hfu hle H locs ls hP hD hS hl
    have hZ8 : Z ≤ 81 := by rw [← hZ]; exact Nat.pow_le_pow_right (n := 3) (by omega) hN
    refine lv_iload_n hx hb d_Ref_findPrimes_11 rfl (lv_at hl 1 rfl) ?_
    refine lv_aload_n hx hb d_Ref_findPrimes_12 rfl (lv_at hl 0 rfl) ?_
    refine va_get (D := (dC, dI)) (ci := 8) (v := .int ((nI Z))) (C := R_Ref) (T := F_Ref) (N := 25) hx hb hts i_Ref hown hK hP 0 rfl rfl 3 (by decide) (hts _ mw_fl_Ref_62) (fun _ h9 => h9) rfl d_Ref_findPrimes_13 ?_
    refine lv_icmp_ge (tgt := 209) hx hb d_Ref_findPrimes_16 (by decide) (fun c_16 => ?_) (fun c_16 => ?_)
    · have hE : i = Z := Nat.le_antisymm hle ((nI_leI (a := Z) (b := i) (by omega) (by omega)).mp c_16)
      have hP9 := hP.sub (ws' := [(r0, .inr (8, [.int th, .int ((nI N)), .int ((nI OU)), .int ((nI Z)), .ref r1, .ref r2, .int 0, .ref r3, .ref r4, .ref r5, .ref r6, .ref r7, .ref r8, .int 0, .ref r9, .int 0, .ref r10, .ref r11, .int 0, .ref r12, .int 0, .ref r13, .ref r14, .int bst, .ref r15])), (r3, .inl (cI, 2, .inl ((fun _ => 0)))), (r4, .inl (cI, 2, .inl ((fun _ => 0))))]) [0, 1, 2] (by subst hE; rfl)
      have hD9 := hD.sub (ws' := [(r0, .inr (8, [.int th, .int ((nI N)), .int ((nI OU)), .int ((nI Z)), .ref r1, .ref r2, .int 0, .ref r3, .ref r4, .ref r5, .ref r6, .ref r7, .ref r8, .int 0, .ref r9, .int 0, .ref r10, .ref r11, .int 0, .ref r12, .int 0, .ref r13, .ref r14, .int bst, .ref r15])), (r3, .inl (cI, 2, .inl ((fun _ => 0)))), (r4, .inl (cI, 2, .inl ((fun _ => 0))))]) [0, 1, 2] (by decide) (by subst hE; rfl)
      exact W.vret hx hb hr (fun t ht hW => ⟨⟨(), rfl, trivial, by rw [ht]; exact hP9, va_K.moved hW.alike hK, hD9⟩, hS.F ht⟩) hS.2.2 d_Ref_findPrimes_209
    · have hlt : i < Z := Nat.lt_of_not_le (fun h => c_16 ((nI_leI (a := Z) (b := i) (by omega) (by omega)).mpr h))
      refine lv_aload_n hx hb d_Ref_findPrimes_19 rfl (lv_at hl 0 rfl) ?_
      refine lv_iload_n hx hb d_Ref_findPrimes_20 rfl (lv_at hl 1 rfl) ?_
      refine vp_callSi (W.runV (As := [.int ((nI i))]) (rest := []) ⟨hx, hb, hml, hown, hts⟩ (c_Ref_outputsOf l dC dI cI cJ r0 th N OU Z r1 r2 0 r3 r4 r5 r6 r7 r8 0 r9 0 r10 r11 0 r12 0 r13 r14 bst r15 (fun _ => 0) ((2 ^ N)) (nI i) hN hOU (vp_in_nI (show i < 81 by omega) (by omega)) (pw_ok hN)) (cwV 1 hts (ct_goodV mw_ml_Ref_85 mw_im_Ref_outputsOf mw_se_Ref_outputsOf mw_ini_Ref mw_code_Ref_outputsOf) rfl rfl rfl (by decide +kernel) ⟨Nat.le_of_ble_eq_true rfl, Nat.le_of_ble_eq_true rfl⟩) ⟨fun a U g mk q => by obtain ⟨q0, qP, qK⟩ := q; exact ⟨q0, qP, va_K.moved (u := U) (U := U.calling g mk a) (Vm.Alike.refl U.vm) qK⟩, va_recv hK hP (ci := 8) (q0 := 0) rfl rfl, fun U hU hW => ⟨rfl, by rw [hU]; exact (hP.sub (ws' := [(r0, .inr (8, [.int th, .int ((nI N)), .int ((nI OU)), .int ((nI Z)), .ref r1, .ref r2, .int ((nI 0)), .ref r3, .ref r4, .ref r5, .ref r6, .ref r7, .ref r8, .int ((nI 0)), .ref r9, .int 0, .ref r10, .ref r11, .int ((nI 0)), .ref r12, .int 0, .ref r13, .ref r14, .int bst, .ref r15])), (r4, .inl (cI, 2, .inl (fun _ => 0)))]) [0, 2] rfl), va_K.moved hW.alike hK⟩⟩ rfl rfl hl.1 rfl (lv_room (Nat.le_of_ble_eq_true rfl)) d_Ref_findPrimes_21 ⟨Nat.le_of_ble_eq_true rfl, Nat.le_of_ble_eq_true rfl⟩) (fun r_1 hr_1 => ?_)
      rw [hr_1]
      clear hr_1
      refine w_ti (show _ = 0 from by rw [nI_clamp (by omega)]; exact rOut_0 hN (by omega) OU) ?_
      refine lv_istore_n (lv' := [(2, .int ((0))), (0, .ref r0), (1, .int ((nI i)))]) hx hb d_Ref_findPrimes_24 rfl hl (by decide) rfl (fun ls hl => ?_)
      refine lv_aload_n hx hb d_Ref_findPrimes_25 rfl (lv_at hl 1 rfl) ?_
      refine lv_iload_n hx hb d_Ref_findPrimes_26 rfl (lv_at hl 2 rfl) ?_
      refine vp_callSi (W.runV (As := [.int ((nI i))]) (rest := []) ⟨hx, hb, hml, hown, hts⟩ (c2_Ref_points l dC dI cI cJ r0 th N OU Z r1 r2 0 r3 r4 r5 r6 r7 r8 0 r9 0 r10 r11 0 r12 0 r13 r14 bst r15 ((2 ^ N)) (nI i) hN (vp_in_nI (show i < 81 by omega) (by omega)) (pw_ok hN)) (cwV 1 hts (ct_goodV mw_ml_Ref_75 mw_im_Ref_points mw_se_Ref_points mw_ini_Ref mw_code_Ref_points) rfl rfl rfl (by decide +kernel) ⟨Nat.le_of_ble_eq_true rfl, Nat.le_of_ble_eq_true rfl⟩) ⟨fun a U g mk q => by obtain ⟨q0, qP, qK⟩ := q; exact ⟨q0, qP, va_K.moved (u := U) (U := U.calling g mk a) (Vm.Alike.refl U.vm) qK⟩, va_recv hK hP (ci := 8) (q0 := 0) rfl rfl, fun U hU hW => ⟨rfl, by rw [hU]; exact (hP.sub (ws' := [(r0, .inr (8, [.int th, .int ((nI N)), .int ((nI OU)), .int ((nI Z)), .ref r1, .ref r2, .int ((nI 0)), .ref r3, .ref r4, .ref r5, .ref r6, .ref r7, .ref r8, .int ((nI 0)), .ref r9, .int 0, .ref r10, .ref r11, .int ((nI 0)), .ref r12, .int 0, .ref r13, .ref r14, .int bst, .ref r15]))]) [0] rfl), va_K.moved hW.alike hK⟩⟩ rfl rfl hl.1 rfl (lv_room (Nat.le_of_ble_eq_true rfl)) d_Ref_findPrimes_27 ⟨Nat.le_of_ble_eq_true rfl, Nat.le_of_ble_eq_true rfl⟩) (fun r_2 hr_2 => ?_)
      rw [hr_2]
      clear hr_2
      refine w_ti (show _ = rPts N i (2 ^ N) from by rw [nI_clamp (by omega)]) ?_
      refine lv_istore_n (lv' := [(3, .int ((rPts N i (2 ^ N)))), (2, .int ((0))), (0, .ref r0), (1, .int ((nI i)))]) hx hb d_Ref_findPrimes_30 rfl hl (by decide) rfl (fun ls hl => ?_)
      refine lv_iload_n hx hb d_Ref_findPrimes_31 rfl (lv_at hl 1 rfl) ?_
      refine lv_if_le (tgt := 39) hx hb d_Ref_findPrimes_32 (by decide) (fun c_32 => ?_) (fun c_32 => ?_)
      · refine lv_iconst (v := 0) hx hb d_Ref_findPrimes_39 (by decide) ?_
        refine lv_istore (lv' := [(4, .int 0), (3, .int ((rPts N i (2 ^ N)))), (2, .int ((0))), (0, .ref r0), (1, .int ((nI i)))]) hx hb d_Ref_findPrimes_40 hl (by decide) rfl (fun ls hl => ?_)
        refine lv_iconst (v := 0) hx hb d_Ref_findPrimes_42 (by decide) ?_
        refine lv_istore (lv' := [(5, .int 0), (4, .int 0), (3, .int ((rPts N i (2 ^ N)))), (2, .int ((0))), (0, .ref r0), (1, .int ((nI i)))]) hx hb d_Ref_findPrimes_43 hl (by decide) rfl (fun ls hl => ?_)
        refine lv_iload hx hb d_Ref_findPrimes_45 (lv_at hl 0 rfl) ?_
        refine lv_aload_n hx hb d_Ref_findPrimes_47 rfl (lv_at hl 4 rfl) ?_
        refine va_get (D := (dC, dI)) (ci := 8) (v := .int ((nI Z))) (C := R_Ref) (T := F_Ref) (N := 25) hx hb hts i_Ref hown hK hP 0 rfl rfl 3 (by decide) (hts _ mw_fl_Ref_62) (fun _ h9 => h9) rfl d_Ref_findPrimes_48 ?_
        refine lv_icmp_ge (tgt := 104) hx hb d_Ref_findPrimes_51 (by decide) (fun c_51 => ?_) (fun c_51 => ?_)
        · refine lv_iload hx hb d_Ref_findPrimes_104 (lv_at hl 1 rfl) ?_
          refine lv_if_eq (tgt := 203) hx hb d_Ref_findPrimes_106 (by decide) (fun c_106 => ?_) (fun c_106 => ?_)
          · refine lv_iinc (v := (nI (i + 1))) (lv' := [(1, .int ((nI (i + 1)))), (5, .int 0), (4, .int 0), (3, .int ((rPts N i (2 ^ N)))), (2, .int ((0))), (0, .ref r0)]) hx hb d_Ref_findPrimes_203 hl (k := 5) rfl (show nI i + 1 = nI (i + 1) from nI_1 i) (by decide) rfl (fun ls hl => ?_)
            refine lv_goto (tgt := 11) hx hb d_Ref_findPrimes_206 (by decide) ?_
            exact ih (i + 1) (by omega) (by omega) _ _ ls (hP.sub [0, 1, 2] rfl) (hD.sub [0, 1, 2] (by decide) rfl) hS (lv_sub hl [5, 0] rfl)
          · exact absurd c_106 (by decide +kernel)
        · refine lv_iload hx hb d_Ref_findPrimes_54 (lv_at hl 1 rfl) ?_
          refine lv_if_eq (tgt := 104) hx hb d_Ref_findPrimes_56 (by decide) (fun c_56 => ?_) (fun c_56 => ?_)
          · refine lv_iload hx hb d_Ref_findPrimes_104 (lv_at hl 1 rfl) ?_
            refine lv_if_eq (tgt := 203) hx hb d_Ref_findPrimes_106 (by decide) (fun c_106 => ?_) (fun c_106 => ?_)
            · refine lv_iinc (v := (nI (i + 1))) (lv' := [(1, .int ((nI (i + 1)))), (5, .int 0), (4, .int 0), (3, .int ((rPts N i (2 ^ N)))), (2, .int ((0))), (0, .ref r0)]) hx hb d_Ref_findPrimes_203 hl (k := 5) rfl (show nI i + 1 = nI (i + 1) from nI_1 i) (by decide) rfl (fun ls hl => ?_)
              refine lv_goto (tgt := 11) hx hb d_Ref_findPrimes_206 (by decide) ?_
              exact ih (i + 1) (by omega) (by omega) _ _ ls (hP.sub [0, 1, 2] rfl) (hD.sub [0, 1, 2] (by decide) rfl) hS (lv_sub hl [5, 0] rfl)
            · exact absurd c_106 (by decide +kernel)
          · exact absurd c_56 (by decide +kernel)
      · exact absurd c_32 (by decide +kernel)
set_option maxHeartbeats 1000000 in
set_option maxRecDepth 100000 in
theorem c_Ref_findPrimes (l : Launch) (dC : Nat → ClassId) (dI : Nat → Nat → Nat) (cI cJ : ClassId) (sz0 : Nat) (r0 : Nat) (th : Int32) (N : Nat) (OU : Nat) (Z : Nat) (r1 : Nat) (r2 : Nat) (r3 : Nat) (r4 : Nat) (r5 : Nat) (r6 : Nat) (r7 : Nat) (r8 : Nat) (r9 : Nat) (r10 : Nat) (r11 : Nat) (r12 : Nat) (r13 : Nat) (r14 : Nat) (bst : Int32) (r15 : Nat) (hN : N ≤ 4) (hOU : OU ≤ 2) (hZ : 3 ^ N = Z) : Met l y_Ref_findPrimes (ct y_Ref_findPrimes b_Ref_findPrimes 6 (none)) ({ frames := 3, cells := 0, slots := 0, locals := 74 }) (va_Pc [.ref r0] (fun U => U.heap.size = sz0 ∧ va_P (dC, dI) classes [(r0, .inr (8, [.int th, .int ((nI N)), .int ((nI OU)), .int ((nI Z)), .ref r1, .ref r2, .int 0, .ref r3, .ref r4, .ref r5, .ref r6, .ref r7, .ref r8, .int 0, .ref r9, .int 0, .ref r10, .ref r11, .int 0, .ref r12, .int 0, .ref r13, .ref r14, .int bst, .ref r15])), (r3, .inl (cI, 2, .inl ((fun _ => 0)))), (r4, .inl (cI, 2, .inl ((fun _ => 0))))] U.heap ∧ va_K (dC, dI) classes [(cI, .int), (cJ, .long)] U ∧ va_D (fun _ => True) [(r0, .inr (8, [.int th, .int ((nI N)), .int ((nI OU)), .int ((nI Z)), .ref r1, .ref r2, .int 0, .ref r3, .ref r4, .ref r5, .ref r6, .ref r7, .ref r8, .int 0, .ref r9, .int 0, .ref r10, .ref r11, .int 0, .ref r12, .int 0, .ref r13, .ref r14, .int bst, .ref r15])), (r3, .inl (cI, 2, .inl ((fun _ => 0)))), (r4, .inl (cI, 2, .inl ((fun _ => 0))))])) (va_Qv (fun _ : Unit => True) (fun _ => at_w dC dI cI cJ (va_A [(r0, .inr (8, [.int th, .int ((nI N)), .int ((nI OU)), .int ((nI Z)), .ref r1, .ref r2, .int 0, .ref r3, .ref r4, .ref r5, .ref r6, .ref r7, .ref r8, .int 0, .ref r9, .int 0, .ref r10, .ref r11, .int 0, .ref r12, .int 0, .ref r13, .ref r14, .int bst, .ref r15])), (r3, .inl (cI, 2, .inl ((fun _ => 0)))), (r4, .inl (cI, 2, .inl ((fun _ => 0))))] sz0) [(r0, .inr (8, [.int th, .int ((nI N)), .int ((nI OU)), .int ((nI Z)), .ref r1, .ref r2, .int 0, .ref r3, .ref r4, .ref r5, .ref r6, .ref r7, .ref r8, .int 0, .ref r9, .int 0, .ref r10, .ref r11, .int 0, .ref r12, .int 0, .ref r13, .ref r14, .int bst, .ref r15])), (r3, .inl (cI, 2, .inl ((fun _ => 0)))), (r4, .inl (cI, 2, .inl ((fun _ => 0))))]) (va_A [(r0, .inr (8, [.int th, .int ((nI N)), .int ((nI OU)), .int ((nI Z)), .ref r1, .ref r2, .int 0, .ref r3, .ref r4, .ref r5, .ref r6, .ref r7, .ref r8, .int 0, .ref r9, .int 0, .ref r10, .ref r11, .int 0, .ref r12, .int 0, .ref r13, .ref r14, .int bst, .ref r15])), (r3, .inl (cI, 2, .inl ((fun _ => 0)))), (r4, .inl (cI, 2, .inl ((fun _ => 0))))] sz0)) 0 0 (va_A [(r0, .inr (8, [.int th, .int ((nI N)), .int ((nI OU)), .int ((nI Z)), .ref r1, .ref r2, .int 0, .ref r3, .ref r4, .ref r5, .ref r6, .ref r7, .ref r8, .int 0, .ref r9, .int 0, .ref r10, .ref r11, .int 0, .ref r12, .int 0, .ref r13, .ref r14, .int bst, .ref r15])), (r3, .inl (cI, 2, .inl ((fun _ => 0)))), (r4, .inl (cI, 2, .inl ((fun _ => 0))))] sz0) := by
  refine Met.ofW (cc := b_Ref_findPrimes) (maxL := 6) (ret := none) (by decide) rfl ?_
  intro p e s m args below meth c s₁ B hml hv
  obtain ⟨rfl, hsz, hP, hK, hD0⟩ := hv
  have hx := B.exec
  have hb := B.bytes
  have hr := B.returns
  have hts : ∀ w ∈ lwg, w.before _ s = true := fun w h => atoms_spec (ws := ct y_Ref_findPrimes b_Ref_findPrimes 6 (none)) B.pre w (List.mem_cons_of_mem _ h)
  have hown : s.vm.findClass R_Ref = some m.cls := findClass_of_methodNamed B.named
  have hlocks := B.notSynchronized
  subst hsz
  have hD := hD0.self (sz := s.heap.size)
  generalize hAe : va_A [(r0, .inr (8, [.int th, .int ((nI N)), .int ((nI OU)), .int ((nI Z)), .ref r1, .ref r2, .int 0, .ref r3, .ref r4, .ref r5, .ref r6, .ref r7, .ref r8, .int 0, .ref r9, .int 0, .ref r10, .ref r11, .int 0, .ref r12, .int 0, .ref r13, .ref r14, .int bst, .ref r15])), (r3, .inl (cI, 2, .inl ((fun _ => 0)))), (r4, .inl (cI, 2, .inl ((fun _ => 0))))] s.heap.size = A at hD ⊢
  have hA : ∀ q : Nat, s.heap.size ≤ q → A q := fun q h => by rw [← hAe]; exact Or.inr h
  have hS : va_S A s.heap s.heap [] := va_S.rf
  have hl := lv_entry ([.ref r0]) (n := 6) (Nat.le_of_ble_eq_true rfl)
  rw [lg_entry_eq]
  generalize (lg_sl ([.ref r0]) ++ List.replicate (6 - (lg_sl ([.ref r0])).length) Slot.unset).toArray = ls at hl ⊢
  have hl : lv_has ls 6 [(0, .ref r0)] := hl
  have hP : va_P (dC, dI) classes [(r0, .inr (8, [.int th, .int ((nI N)), .int ((nI OU)), .int ((nI Z)), .ref r1, .ref r2, .int 0, .ref r3, .ref r4, .ref r5, .ref r6, .ref r7, .ref r8, .int 0, .ref r9, .int 0, .ref r10, .ref r11, .int 0, .ref r12, .int 0, .ref r13, .ref r14, .int bst, .ref r15])), (r3, .inl (cI, 2, .inl ((fun _ => 0)))), (r4, .inl (cI, 2, .inl ((fun _ => 0))))] s.heap := hP
  refine lv_aload_n hx hb d_Ref_findPrimes_0 rfl (lv_at hl 0 rfl) ?_
  have hPc := hP.sub (ws' := [(r0, .inr (8, [.int th, .int ((nI N)), .int ((nI OU)), .int ((nI Z)), .ref r1, .ref r2, .int 0, .ref r3, .ref r4, .ref r5, .ref r6, .ref r7, .ref r8, .int 0, .ref r9, .int 0, .ref r10, .ref r11, .int 0, .ref r12, .int 0, .ref r13, .ref r14, .int bst, .ref r15])), (r3, .inl (cI, 2, .inl ((fun _ => 0)))), (r4, .inl (cI, 2, .inl ((fun _ => 0))))]) [0, 1, 2] rfl
  have hDc := hD.sub (ws' := [(r0, .inr (8, [.int th, .int ((nI N)), .int ((nI OU)), .int ((nI Z)), .ref r1, .ref r2, .int 0, .ref r3, .ref r4, .ref r5, .ref r6, .ref r7, .ref r8, .int 0, .ref r9, .int 0, .ref r10, .ref r11, .int 0, .ref r12, .int 0, .ref r13, .ref r14, .int bst, .ref r15])), (r3, .inl (cI, 2, .inl ((fun _ => 0)))), (r4, .inl (cI, 2, .inl ((fun _ => 0))))]) [0, 1, 2] (by decide) rfl
  have hFc := va_free (wc := [(r0, .inr (8, [.int th, .int ((nI N)), .int ((nI OU)), .int ((nI Z)), .ref r1, .ref r2, .int 0, .ref r3, .ref r4, .ref r5, .ref r6, .ref r7, .ref r8, .int 0, .ref r9, .int 0, .ref r10, .ref r11, .int 0, .ref r12, .int 0, .ref r13, .ref r14, .int bst, .ref r15])), (r3, .inl (cI, 2, .inl ((fun _ => 0)))), (r4, .inl (cI, 2, .inl ((fun _ => 0))))]) hD hS hA [0, 1, 2] rfl
  refine va_callv (va_runV (As := []) (rest := []) ⟨hx, hb, hml, hown, hts⟩ (c_Ref_work l dC dI cI cJ _ r0 th N OU Z r1 r2 r3 r4 r5 r6 r7 r8 r9 r10 r11 r12 r13 r14 bst r15 ) (cwV 0 hts (ct_goodV mw_ml_Ref_79 mw_im_Ref_work mw_se_Ref_work mw_ini_Ref mw_code_Ref_work) rfl rfl rfl (by decide +kernel) ⟨Nat.le_of_ble_eq_true rfl, Nat.le_of_ble_eq_true rfl⟩) ⟨fun a U g mk q => by obtain ⟨q0, q1, qP, qK, qD⟩ := q; exact ⟨q0, q1, qP, va_K.moved (u := U) (U := U.calling g mk a) (Vm.Alike.refl U.vm) qK, qD⟩, va_recv hK hPc (ci := 8) (q0 := 0) rfl rfl, fun U hU hW => ⟨rfl, by rw [hU], by rw [hU]; exact hPc, va_K.moved hW.alike hK, hDc.weaken (fun _ _ _ _ => trivial)⟩⟩ rfl rfl hl.1 rfl (lv_room (Nat.le_of_ble_eq_true rfl)) d_Ref_findPrimes_1 ⟨Nat.le_of_ble_eq_true rfl, Nat.le_of_ble_eq_true rfl⟩) hS (fun q _ h => hFc q h) hFc (fun u t H1 locs ht hvm hw hB hz1 hk1 hS => ?_)
  obtain ⟨hP1, hK1, hD1⟩ := hB
  rw [ht] at hP1
  obtain ⟨hP, hD⟩ := va_join (wr := []) (w1 := [(r0, .inr (8, [.int th, .int ((nI N)), .int ((nI OU)), .int ((nI Z)), .ref r1, .ref r2, .int 0, .ref r3, .ref r4, .ref r5, .ref r6, .ref r7, .ref r8, .int 0, .ref r9, .int 0, .ref r10, .ref r11, .int 0, .ref r12, .int 0, .ref r13, .ref r14, .int bst, .ref r15])), (r3, .inl (cI, 2, .inl ((fun _ => 0)))), (r4, .inl (cI, 2, .inl ((fun _ => 0))))]) hP hD [0, 1, 2] [] rfl rfl (by decide) (by decide) hk1 hFc hP1 hD1
  clear hPc hDc hFc hP1 hK1 hD1 hk1 hz1 hvm ht
  generalize H1 = H at hP hS ⊢
  have hP : va_P (dC, dI) classes [(r0, .inr (8, [.int th, .int ((nI N)), .int ((nI OU)), .int ((nI Z)), .ref r1, .ref r2, .int 0, .ref r3, .ref r4, .ref r5, .ref r6, .ref r7, .ref r8, .int 0, .ref r9, .int 0, .ref r10, .ref r11, .int 0, .ref r12, .int 0, .ref r13, .ref r14, .int bst, .ref r15])), (r3, .inl (cI, 2, .inl ((fun _ => 0)))), (r4, .inl (cI, 2, .inl ((fun _ => 0))))] H := hP
  have hD : va_D A [(r0, .inr (8, [.int th, .int ((nI N)), .int ((nI OU)), .int ((nI Z)), .ref r1, .ref r2, .int 0, .ref r3, .ref r4, .ref r5, .ref r6, .ref r7, .ref r8, .int 0, .ref r9, .int 0, .ref r10, .ref r11, .int 0, .ref r12, .int 0, .ref r13, .ref r14, .int bst, .ref r15])), (r3, .inl (cI, 2, .inl ((fun _ => 0)))), (r4, .inl (cI, 2, .inl ((fun _ => 0))))] := hD
  refine lv_aload_n hx hb d_Ref_findPrimes_4 rfl (lv_at hl 0 rfl) ?_
  refine lv_iconst (v := 0) hx hb d_Ref_findPrimes_5 (by decide) ?_
  refine va_put (D := (dC, dI)) (ci := 8) (v := .int 0) (ty := .int) (C := R_Ref) (T := F_Ref) (N := 25) hx hb hts i_Ref t_Ref t_Ref_ok n_Ref hown hK hP hD hS 0 rfl rfl 13 (by decide) (hts _ mw_fl_Ref_82) (fun _ h9 => h9) rfl (by decide +kernel) rfl rfl (Nat.le_of_ble_eq_true rfl) d_Ref_findPrimes_6 (fun H locs hP hD hS => ?_)
  have hP : va_P (dC, dI) classes [(r0, .inr (8, [.int th, .int ((nI N)), .int ((nI OU)), .int ((nI Z)), .ref r1, .ref r2, .int 0, .ref r3, .ref r4, .ref r5, .ref r6, .ref r7, .ref r8, .int 0, .ref r9, .int 0, .ref r10, .ref r11, .int 0, .ref r12, .int 0, .ref r13, .ref r14, .int bst, .ref r15])), (r3, .inl (cI, 2, .inl ((fun _ => 0)))), (r4, .inl (cI, 2, .inl ((fun _ => 0))))] H := hP
  have hD : va_D A [(r0, .inr (8, [.int th, .int ((nI N)), .int ((nI OU)), .int ((nI Z)), .ref r1, .ref r2, .int 0, .ref r3, .ref r4, .ref r5, .ref r6, .ref r7, .ref r8, .int 0, .ref r9, .int 0, .ref r10, .ref r11, .int 0, .ref r12, .int 0, .ref r13, .ref r14, .int bst, .ref r15])), (r3, .inl (cI, 2, .inl ((fun _ => 0)))), (r4, .inl (cI, 2, .inl ((fun _ => 0))))] := hD
  refine lv_iconst (v := 0) hx hb d_Ref_findPrimes_9 (by decide) ?_
  refine lv_istore_n (lv' := [(1, .int 0), (0, .ref r0)]) hx hb d_Ref_findPrimes_10 rfl hl (by decide) rfl (fun ls hl => ?_)
  exact lpf_Ref_findPrimes l dC dI cI cJ r0 th N OU Z r1 r2 r3 r4 r5 r6 r7 r8 r9 r10 r11 r12 r13 r14 bst r15 hN hOU hZ hx hb hr hts hown hlocks hml hK hA (Z + 1) 0 (by omega) (Nat.zero_le _) _ _ ls (hP.sub [0, 1, 2] rfl) (hD.sub [0, 1, 2] (by decide) rfl) hS (lv_sub hl [1, 0] rfl)
set_option maxHeartbeats 1000000 in
set_option maxRecDepth 100000 in
theorem c_Ref_primes (l : Launch) (dC : Nat → ClassId) (dI : Nat → Nat → Nat) (cI cJ : ClassId) (sz0 : Nat) (r0 : Nat) (th : Int32) (N : Nat) (OU : Nat) (Z : Nat) (r1 : Nat) (r2 : Nat) (r3 : Nat) (r4 : Nat) (r5 : Nat) (r6 : Nat) (r7 : Nat) (r8 : Nat) (r9 : Nat) (r10 : Nat) (r11 : Nat) (r12 : Nat) (r13 : Nat) (r14 : Nat) (bst : Int32) (r15 : Nat) (hN : N ≤ 4) (hOU : OU ≤ 2) (hZ : 3 ^ N = Z) : Met l y_Ref_primes (ct y_Ref_primes b_Ref_primes 1 (some .int)) ({ frames := 4, cells := 0, slots := 0, locals := 99 }) (va_Pc [.ref r0] (fun U => U.heap.size = sz0 ∧ va_P (dC, dI) classes [(r0, .inr (8, [.int th, .int ((nI N)), .int ((nI OU)), .int ((nI Z)), .ref r1, .ref r2, .int 0, .ref r3, .ref r4, .ref r5, .ref r6, .ref r7, .ref r8, .int 0, .ref r9, .int 0, .ref r10, .ref r11, .int 0, .ref r12, .int 0, .ref r13, .ref r14, .int bst, .ref r15])), (r3, .inl (cI, 2, .inl ((fun _ => 0)))), (r4, .inl (cI, 2, .inl ((fun _ => 0))))] U.heap ∧ va_K (dC, dI) classes [(cI, .int), (cJ, .long)] U ∧ va_D (fun _ => True) [(r0, .inr (8, [.int th, .int ((nI N)), .int ((nI OU)), .int ((nI Z)), .ref r1, .ref r2, .int 0, .ref r3, .ref r4, .ref r5, .ref r6, .ref r7, .ref r8, .int 0, .ref r9, .int 0, .ref r10, .ref r11, .int 0, .ref r12, .int 0, .ref r13, .ref r14, .int bst, .ref r15])), (r3, .inl (cI, 2, .inl ((fun _ => 0)))), (r4, .inl (cI, 2, .inl ((fun _ => 0))))])) (va_Qi (fun (r : Int32) (_ : Unit) => r = 0) (fun _ => at_w dC dI cI cJ (va_A [(r0, .inr (8, [.int th, .int ((nI N)), .int ((nI OU)), .int ((nI Z)), .ref r1, .ref r2, .int 0, .ref r3, .ref r4, .ref r5, .ref r6, .ref r7, .ref r8, .int 0, .ref r9, .int 0, .ref r10, .ref r11, .int 0, .ref r12, .int 0, .ref r13, .ref r14, .int bst, .ref r15])), (r3, .inl (cI, 2, .inl ((fun _ => 0)))), (r4, .inl (cI, 2, .inl ((fun _ => 0))))] sz0) [(r0, .inr (8, [.int 0, .int ((nI N)), .int ((nI OU)), .int ((nI Z)), .ref r1, .ref r2, .int 0, .ref r3, .ref r4, .ref r5, .ref r6, .ref r7, .ref r8, .int 0, .ref r9, .int 0, .ref r10, .ref r11, .int 0, .ref r12, .int 0, .ref r13, .ref r14, .int bst, .ref r15]))]) (va_A [(r0, .inr (8, [.int th, .int ((nI N)), .int ((nI OU)), .int ((nI Z)), .ref r1, .ref r2, .int 0, .ref r3, .ref r4, .ref r5, .ref r6, .ref r7, .ref r8, .int 0, .ref r9, .int 0, .ref r10, .ref r11, .int 0, .ref r12, .int 0, .ref r13, .ref r14, .int bst, .ref r15])), (r3, .inl (cI, 2, .inl ((fun _ => 0)))), (r4, .inl (cI, 2, .inl ((fun _ => 0))))] sz0)) 0 0 (va_A [(r0, .inr (8, [.int th, .int ((nI N)), .int ((nI OU)), .int ((nI Z)), .ref r1, .ref r2, .int 0, .ref r3, .ref r4, .ref r5, .ref r6, .ref r7, .ref r8, .int 0, .ref r9, .int 0, .ref r10, .ref r11, .int 0, .ref r12, .int 0, .ref r13, .ref r14, .int bst, .ref r15])), (r3, .inl (cI, 2, .inl ((fun _ => 0)))), (r4, .inl (cI, 2, .inl ((fun _ => 0))))] sz0) := by
  refine Met.ofW (cc := b_Ref_primes) (maxL := 1) (ret := some .int) (by decide) rfl ?_
  intro p e s m args below meth c s₁ B hml hv
  obtain ⟨rfl, hsz, hP, hK, hD0⟩ := hv
  have hx := B.exec
  have hb := B.bytes
  have hr := B.returns
  have hts : ∀ w ∈ lwg, w.before _ s = true := fun w h => atoms_spec (ws := ct y_Ref_primes b_Ref_primes 1 (some .int)) B.pre w (List.mem_cons_of_mem _ h)
  have hown : s.vm.findClass R_Ref = some m.cls := findClass_of_methodNamed B.named
  have hlocks := B.notSynchronized
  subst hsz
  have hD := hD0.self (sz := s.heap.size)
  generalize hAe : va_A [(r0, .inr (8, [.int th, .int ((nI N)), .int ((nI OU)), .int ((nI Z)), .ref r1, .ref r2, .int 0, .ref r3, .ref r4, .ref r5, .ref r6, .ref r7, .ref r8, .int 0, .ref r9, .int 0, .ref r10, .ref r11, .int 0, .ref r12, .int 0, .ref r13, .ref r14, .int bst, .ref r15])), (r3, .inl (cI, 2, .inl ((fun _ => 0)))), (r4, .inl (cI, 2, .inl ((fun _ => 0))))] s.heap.size = A at hD ⊢
  have hA : ∀ q : Nat, s.heap.size ≤ q → A q := fun q h => by rw [← hAe]; exact Or.inr h
  have hS : va_S A s.heap s.heap [] := va_S.rf
  have hl := lv_entry ([.ref r0]) (n := 1) (Nat.le_of_ble_eq_true rfl)
  rw [lg_entry_eq]
  generalize (lg_sl ([.ref r0]) ++ List.replicate (1 - (lg_sl ([.ref r0])).length) Slot.unset).toArray = ls at hl ⊢
  have hl : lv_has ls 1 [(0, .ref r0)] := hl
  have hP : va_P (dC, dI) classes [(r0, .inr (8, [.int th, .int ((nI N)), .int ((nI OU)), .int ((nI Z)), .ref r1, .ref r2, .int 0, .ref r3, .ref r4, .ref r5, .ref r6, .ref r7, .ref r8, .int 0, .ref r9, .int 0, .ref r10, .ref r11, .int 0, .ref r12, .int 0, .ref r13, .ref r14, .int bst, .ref r15])), (r3, .inl (cI, 2, .inl ((fun _ => 0)))), (r4, .inl (cI, 2, .inl ((fun _ => 0))))] s.heap := hP
  refine lv_aload_n hx hb d_Ref_primes_0 rfl (lv_at hl 0 rfl) ?_
  refine lv_iconst (v := 0) hx hb d_Ref_primes_1 (by decide) ?_
  refine va_put (D := (dC, dI)) (ci := 8) (v := .int 0) (ty := .int) (C := R_Ref) (T := F_Ref) (N := 25) hx hb hts i_Ref t_Ref t_Ref_ok n_Ref hown hK hP hD hS 0 rfl rfl 0 (by decide) (hts _ mw_fl_Ref_65) (fun _ h9 => h9) rfl (by decide +kernel) rfl rfl (Nat.le_of_ble_eq_true rfl) d_Ref_primes_2 (fun H locs hP hD hS => ?_)
  have hP : va_P (dC, dI) classes [(r0, .inr (8, [.int 0, .int ((nI N)), .int ((nI OU)), .int ((nI Z)), .ref r1, .ref r2, .int 0, .ref r3, .ref r4, .ref r5, .ref r6, .ref r7, .ref r8, .int 0, .ref r9, .int 0, .ref r10, .ref r11, .int 0, .ref r12, .int 0, .ref r13, .ref r14, .int bst, .ref r15])), (r3, .inl (cI, 2, .inl ((fun _ => 0)))), (r4, .inl (cI, 2, .inl ((fun _ => 0))))] H := hP
  have hD : va_D A [(r0, .inr (8, [.int 0, .int ((nI N)), .int ((nI OU)), .int ((nI Z)), .ref r1, .ref r2, .int 0, .ref r3, .ref r4, .ref r5, .ref r6, .ref r7, .ref r8, .int 0, .ref r9, .int 0, .ref r10, .ref r11, .int 0, .ref r12, .int 0, .ref r13, .ref r14, .int bst, .ref r15])), (r3, .inl (cI, 2, .inl ((fun _ => 0)))), (r4, .inl (cI, 2, .inl ((fun _ => 0))))] := hD
  refine lv_aload_n hx hb d_Ref_primes_5 rfl (lv_at hl 0 rfl) ?_
  have hPc := hP.sub (ws' := [(r0, .inr (8, [.int 0, .int ((nI N)), .int ((nI OU)), .int ((nI Z)), .ref r1, .ref r2, .int 0, .ref r3, .ref r4, .ref r5, .ref r6, .ref r7, .ref r8, .int 0, .ref r9, .int 0, .ref r10, .ref r11, .int 0, .ref r12, .int 0, .ref r13, .ref r14, .int bst, .ref r15])), (r3, .inl (cI, 2, .inl ((fun _ => 0)))), (r4, .inl (cI, 2, .inl ((fun _ => 0))))]) [0, 1, 2] rfl
  have hDc := hD.sub (ws' := [(r0, .inr (8, [.int 0, .int ((nI N)), .int ((nI OU)), .int ((nI Z)), .ref r1, .ref r2, .int 0, .ref r3, .ref r4, .ref r5, .ref r6, .ref r7, .ref r8, .int 0, .ref r9, .int 0, .ref r10, .ref r11, .int 0, .ref r12, .int 0, .ref r13, .ref r14, .int bst, .ref r15])), (r3, .inl (cI, 2, .inl ((fun _ => 0)))), (r4, .inl (cI, 2, .inl ((fun _ => 0))))]) [0, 1, 2] (by decide) rfl
  have hFc := va_free (wc := [(r0, .inr (8, [.int 0, .int ((nI N)), .int ((nI OU)), .int ((nI Z)), .ref r1, .ref r2, .int 0, .ref r3, .ref r4, .ref r5, .ref r6, .ref r7, .ref r8, .int 0, .ref r9, .int 0, .ref r10, .ref r11, .int 0, .ref r12, .int 0, .ref r13, .ref r14, .int bst, .ref r15])), (r3, .inl (cI, 2, .inl ((fun _ => 0)))), (r4, .inl (cI, 2, .inl ((fun _ => 0))))]) hD hS hA [0, 1, 2] rfl
  refine va_callv (va_runV (As := []) (rest := []) ⟨hx, hb, hml, hown, hts⟩ (c_Ref_findPrimes l dC dI cI cJ _ r0 0 N OU Z r1 r2 r3 r4 r5 r6 r7 r8 r9 r10 r11 r12 r13 r14 bst r15 hN hOU hZ) (cwV 0 hts (ct_goodV mw_ml_Ref_91 mw_im_Ref_findPrimes mw_se_Ref_findPrimes mw_ini_Ref mw_code_Ref_findPrimes) rfl rfl rfl (by decide +kernel) ⟨Nat.le_of_ble_eq_true rfl, Nat.le_of_ble_eq_true rfl⟩) ⟨fun a U g mk q => by obtain ⟨q0, q1, qP, qK, qD⟩ := q; exact ⟨q0, q1, qP, va_K.moved (u := U) (U := U.calling g mk a) (Vm.Alike.refl U.vm) qK, qD⟩, va_recv hK hPc (ci := 8) (q0 := 0) rfl rfl, fun U hU hW => ⟨rfl, by rw [hU], by rw [hU]; exact hPc, va_K.moved hW.alike hK, hDc.weaken (fun _ _ _ _ => trivial)⟩⟩ rfl rfl hl.1 rfl (lv_room (Nat.le_of_ble_eq_true rfl)) d_Ref_primes_6 ⟨Nat.le_of_ble_eq_true rfl, Nat.le_of_ble_eq_true rfl⟩) hS (fun q _ h => hFc q h) hFc (fun u t H1 locs ht hvm hw hB hz1 hk1 hS => ?_)
  obtain ⟨hP1, hK1, hD1⟩ := hB
  rw [ht] at hP1
  obtain ⟨hP, hD⟩ := va_join (wr := []) (w1 := [(r0, .inr (8, [.int 0, .int ((nI N)), .int ((nI OU)), .int ((nI Z)), .ref r1, .ref r2, .int 0, .ref r3, .ref r4, .ref r5, .ref r6, .ref r7, .ref r8, .int 0, .ref r9, .int 0, .ref r10, .ref r11, .int 0, .ref r12, .int 0, .ref r13, .ref r14, .int bst, .ref r15])), (r3, .inl (cI, 2, .inl ((fun _ => 0)))), (r4, .inl (cI, 2, .inl ((fun _ => 0))))]) hP hD [0, 1, 2] [] rfl rfl (by decide) (by decide) hk1 hFc hP1 hD1
  clear hPc hDc hFc hP1 hK1 hD1 hk1 hz1 hvm ht
  generalize H1 = H at hP hS ⊢
  have hP : va_P (dC, dI) classes [(r0, .inr (8, [.int 0, .int ((nI N)), .int ((nI OU)), .int ((nI Z)), .ref r1, .ref r2, .int 0, .ref r3, .ref r4, .ref r5, .ref r6, .ref r7, .ref r8, .int 0, .ref r9, .int 0, .ref r10, .ref r11, .int 0, .ref r12, .int 0, .ref r13, .ref r14, .int bst, .ref r15])), (r3, .inl (cI, 2, .inl ((fun _ => 0)))), (r4, .inl (cI, 2, .inl ((fun _ => 0))))] H := hP
  have hD : va_D A [(r0, .inr (8, [.int 0, .int ((nI N)), .int ((nI OU)), .int ((nI Z)), .ref r1, .ref r2, .int 0, .ref r3, .ref r4, .ref r5, .ref r6, .ref r7, .ref r8, .int 0, .ref r9, .int 0, .ref r10, .ref r11, .int 0, .ref r12, .int 0, .ref r13, .ref r14, .int bst, .ref r15])), (r3, .inl (cI, 2, .inl ((fun _ => 0)))), (r4, .inl (cI, 2, .inl ((fun _ => 0))))] := hD
  refine lv_aload_n hx hb d_Ref_primes_9 rfl (lv_at hl 0 rfl) ?_
  refine va_get (D := (dC, dI)) (ci := 8) (v := .int 0) (C := R_Ref) (T := F_Ref) (N := 25) hx hb hts i_Ref hown hK hP 0 rfl rfl 13 (by decide) (hts _ mw_fl_Ref_82) (fun _ h9 => h9) rfl d_Ref_primes_10 ?_
  have hP9 := hP.sub (ws' := [(r0, .inr (8, [.int 0, .int ((nI N)), .int ((nI OU)), .int ((nI Z)), .ref r1, .ref r2, .int 0, .ref r3, .ref r4, .ref r5, .ref r6, .ref r7, .ref r8, .int 0, .ref r9, .int 0, .ref r10, .ref r11, .int 0, .ref r12, .int 0, .ref r13, .ref r14, .int bst, .ref r15]))]) [0] rfl
  have hD9 := hD.sub (ws' := [(r0, .inr (8, [.int 0, .int ((nI N)), .int ((nI OU)), .int ((nI Z)), .ref r1, .ref r2, .int 0, .ref r3, .ref r4, .ref r5, .ref r6, .ref r7, .ref r8, .int 0, .ref r9, .int 0, .ref r10, .ref r11, .int 0, .ref r12, .int 0, .ref r13, .ref r14, .int bst, .ref r15]))]) [0] (by decide) rfl
  exact W.iret (v := 0) hx hb hr (fun t ht hW => ⟨⟨0, (), rfl, rfl, by rw [ht]; exact hP9, va_K.moved hW.alike hK, hD9⟩, hS.F ht⟩) hS.2.2 d_Ref_primes_13
set_option maxHeartbeats 1000000 in
set_option maxRecDepth 100000 in
theorem c_Ref_prime (l : Launch) (dC : Nat → ClassId) (dI : Nat → Nat → Nat) (cI cJ : ClassId) (sz0 : Nat) (r0 : Nat) (th : Int32) (N : Nat) (OU : Nat) (Z : Nat) (r1 : Nat) (r2 : Nat) (r3 : Nat) (r4 : Nat) (r5 : Nat) (r6 : Nat) (r7 : Nat) (r8 : Nat) (r9 : Nat) (r10 : Nat) (r11 : Nat) (r12 : Nat) (r13 : Nat) (r14 : Nat) (bst : Int32) (r15 : Nat) (x : Int32) (y : Int32) (hN : N ≤ 4) (hOU : OU ≤ 2) (hZ : 3 ^ N = Z) : Met l y_Ref_prime (ct y_Ref_prime b_Ref_prime 3 (some .int)) ({ frames := 4, cells := 0, slots := 0, locals := 99 }) (va_Pc [.ref r0, .int x, .int y] (fun U => U.heap.size = sz0 ∧ va_P (dC, dI) classes [(r0, .inr (8, [.int th, .int ((nI N)), .int ((nI OU)), .int ((nI Z)), .ref r1, .ref r2, .int 0, .ref r3, .ref r4, .ref r5, .ref r6, .ref r7, .ref r8, .int 0, .ref r9, .int 0, .ref r10, .ref r11, .int 0, .ref r12, .int 0, .ref r13, .ref r14, .int bst, .ref r15])), (r3, .inl (cI, 2, .inl ((fun _ => 0)))), (r4, .inl (cI, 2, .inl ((fun _ => 0))))] U.heap ∧ va_K (dC, dI) classes [(cI, .int), (cJ, .long)] U ∧ va_D (fun _ => True) [(r0, .inr (8, [.int th, .int ((nI N)), .int ((nI OU)), .int ((nI Z)), .ref r1, .ref r2, .int 0, .ref r3, .ref r4, .ref r5, .ref r6, .ref r7, .ref r8, .int 0, .ref r9, .int 0, .ref r10, .ref r11, .int 0, .ref r12, .int 0, .ref r13, .ref r14, .int bst, .ref r15])), (r3, .inl (cI, 2, .inl ((fun _ => 0)))), (r4, .inl (cI, 2, .inl ((fun _ => 0))))])) (va_Qi (fun (r : Int32) (_ : Unit) => r = 0) (fun _ => at_w dC dI cI cJ (va_A [(r0, .inr (8, [.int th, .int ((nI N)), .int ((nI OU)), .int ((nI Z)), .ref r1, .ref r2, .int 0, .ref r3, .ref r4, .ref r5, .ref r6, .ref r7, .ref r8, .int 0, .ref r9, .int 0, .ref r10, .ref r11, .int 0, .ref r12, .int 0, .ref r13, .ref r14, .int bst, .ref r15])), (r3, .inl (cI, 2, .inl ((fun _ => 0)))), (r4, .inl (cI, 2, .inl ((fun _ => 0))))] sz0) [(r0, .inr (8, [.int 1, .int ((nI N)), .int ((nI OU)), .int ((nI Z)), .ref r1, .ref r2, .int 0, .ref r3, .ref r4, .ref r5, .ref r6, .ref r7, .ref r8, .int 0, .ref r9, .int 0, .ref r10, .ref r11, .int 0, .ref r12, .int 0, .ref r13, .ref r14, .int bst, .ref r15]))]) (va_A [(r0, .inr (8, [.int th, .int ((nI N)), .int ((nI OU)), .int ((nI Z)), .ref r1, .ref r2, .int 0, .ref r3, .ref r4, .ref r5, .ref r6, .ref r7, .ref r8, .int 0, .ref r9, .int 0, .ref r10, .ref r11, .int 0, .ref r12, .int 0, .ref r13, .ref r14, .int bst, .ref r15])), (r3, .inl (cI, 2, .inl ((fun _ => 0)))), (r4, .inl (cI, 2, .inl ((fun _ => 0))))] sz0)) 0 0 (va_A [(r0, .inr (8, [.int th, .int ((nI N)), .int ((nI OU)), .int ((nI Z)), .ref r1, .ref r2, .int 0, .ref r3, .ref r4, .ref r5, .ref r6, .ref r7, .ref r8, .int 0, .ref r9, .int 0, .ref r10, .ref r11, .int 0, .ref r12, .int 0, .ref r13, .ref r14, .int bst, .ref r15])), (r3, .inl (cI, 2, .inl ((fun _ => 0)))), (r4, .inl (cI, 2, .inl ((fun _ => 0))))] sz0) := by
  refine Met.ofW (cc := b_Ref_prime) (maxL := 3) (ret := some .int) (by decide) rfl ?_
  intro p e s m args below meth c s₁ B hml hv
  obtain ⟨rfl, hsz, hP, hK, hD0⟩ := hv
  have hx := B.exec
  have hb := B.bytes
  have hr := B.returns
  have hts : ∀ w ∈ lwg, w.before _ s = true := fun w h => atoms_spec (ws := ct y_Ref_prime b_Ref_prime 3 (some .int)) B.pre w (List.mem_cons_of_mem _ h)
  have hown : s.vm.findClass R_Ref = some m.cls := findClass_of_methodNamed B.named
  have hlocks := B.notSynchronized
  subst hsz
  have hD := hD0.self (sz := s.heap.size)
  generalize hAe : va_A [(r0, .inr (8, [.int th, .int ((nI N)), .int ((nI OU)), .int ((nI Z)), .ref r1, .ref r2, .int 0, .ref r3, .ref r4, .ref r5, .ref r6, .ref r7, .ref r8, .int 0, .ref r9, .int 0, .ref r10, .ref r11, .int 0, .ref r12, .int 0, .ref r13, .ref r14, .int bst, .ref r15])), (r3, .inl (cI, 2, .inl ((fun _ => 0)))), (r4, .inl (cI, 2, .inl ((fun _ => 0))))] s.heap.size = A at hD ⊢
  have hA : ∀ q : Nat, s.heap.size ≤ q → A q := fun q h => by rw [← hAe]; exact Or.inr h
  have hS : va_S A s.heap s.heap [] := va_S.rf
  have hl := lv_entry ([.ref r0, .int x, .int y]) (n := 3) (Nat.le_of_ble_eq_true rfl)
  rw [lg_entry_eq]
  generalize (lg_sl ([.ref r0, .int x, .int y]) ++ List.replicate (3 - (lg_sl ([.ref r0, .int x, .int y])).length) Slot.unset).toArray = ls at hl ⊢
  have hl : lv_has ls 3 [(0, .ref r0), (1, .int x), (2, .int y)] := hl
  have hP : va_P (dC, dI) classes [(r0, .inr (8, [.int th, .int ((nI N)), .int ((nI OU)), .int ((nI Z)), .ref r1, .ref r2, .int 0, .ref r3, .ref r4, .ref r5, .ref r6, .ref r7, .ref r8, .int 0, .ref r9, .int 0, .ref r10, .ref r11, .int 0, .ref r12, .int 0, .ref r13, .ref r14, .int bst, .ref r15])), (r3, .inl (cI, 2, .inl ((fun _ => 0)))), (r4, .inl (cI, 2, .inl ((fun _ => 0))))] s.heap := hP
  refine lv_aload_n hx hb d_Ref_prime_0 rfl (lv_at hl 0 rfl) ?_
  have hPc := hP.sub (ws' := [(r0, .inr (8, [.int th, .int ((nI N)), .int ((nI OU)), .int ((nI Z)), .ref r1, .ref r2, .int 0, .ref r3, .ref r4, .ref r5, .ref r6, .ref r7, .ref r8, .int 0, .ref r9, .int 0, .ref r10, .ref r11, .int 0, .ref r12, .int 0, .ref r13, .ref r14, .int bst, .ref r15])), (r3, .inl (cI, 2, .inl ((fun _ => 0)))), (r4, .inl (cI, 2, .inl ((fun _ => 0))))]) [0, 1, 2] rfl
  have hDc := hD.sub (ws' := [(r0, .inr (8, [.int th, .int ((nI N)), .int ((nI OU)), .int ((nI Z)), .ref r1, .ref r2, .int 0, .ref r3, .ref r4, .ref r5, .ref r6, .ref r7, .ref r8, .int 0, .ref r9, .int 0, .ref r10, .ref r11, .int 0, .ref r12, .int 0, .ref r13, .ref r14, .int bst, .ref r15])), (r3, .inl (cI, 2, .inl ((fun _ => 0)))), (r4, .inl (cI, 2, .inl ((fun _ => 0))))]) [0, 1, 2] (by decide) rfl
  have hFc := va_free (wc := [(r0, .inr (8, [.int th, .int ((nI N)), .int ((nI OU)), .int ((nI Z)), .ref r1, .ref r2, .int 0, .ref r3, .ref r4, .ref r5, .ref r6, .ref r7, .ref r8, .int 0, .ref r9, .int 0, .ref r10, .ref r11, .int 0, .ref r12, .int 0, .ref r13, .ref r14, .int bst, .ref r15])), (r3, .inl (cI, 2, .inl ((fun _ => 0)))), (r4, .inl (cI, 2, .inl ((fun _ => 0))))]) hD hS hA [0, 1, 2] rfl
  refine va_callv (va_runV (As := []) (rest := []) ⟨hx, hb, hml, hown, hts⟩ (c_Ref_findPrimes l dC dI cI cJ _ r0 th N OU Z r1 r2 r3 r4 r5 r6 r7 r8 r9 r10 r11 r12 r13 r14 bst r15 hN hOU hZ) (cwV 0 hts (ct_goodV mw_ml_Ref_91 mw_im_Ref_findPrimes mw_se_Ref_findPrimes mw_ini_Ref mw_code_Ref_findPrimes) rfl rfl rfl (by decide +kernel) ⟨Nat.le_of_ble_eq_true rfl, Nat.le_of_ble_eq_true rfl⟩) ⟨fun a U g mk q => by obtain ⟨q0, q1, qP, qK, qD⟩ := q; exact ⟨q0, q1, qP, va_K.moved (u := U) (U := U.calling g mk a) (Vm.Alike.refl U.vm) qK, qD⟩, va_recv hK hPc (ci := 8) (q0 := 0) rfl rfl, fun U hU hW => ⟨rfl, by rw [hU], by rw [hU]; exact hPc, va_K.moved hW.alike hK, hDc.weaken (fun _ _ _ _ => trivial)⟩⟩ rfl rfl hl.1 rfl (lv_room (Nat.le_of_ble_eq_true rfl)) d_Ref_prime_1 ⟨Nat.le_of_ble_eq_true rfl, Nat.le_of_ble_eq_true rfl⟩) hS (fun q _ h => hFc q h) hFc (fun u t H1 locs ht hvm hw hB hz1 hk1 hS => ?_)
  obtain ⟨hP1, hK1, hD1⟩ := hB
  rw [ht] at hP1
  obtain ⟨hP, hD⟩ := va_join (wr := []) (w1 := [(r0, .inr (8, [.int th, .int ((nI N)), .int ((nI OU)), .int ((nI Z)), .ref r1, .ref r2, .int 0, .ref r3, .ref r4, .ref r5, .ref r6, .ref r7, .ref r8, .int 0, .ref r9, .int 0, .ref r10, .ref r11, .int 0, .ref r12, .int 0, .ref r13, .ref r14, .int bst, .ref r15])), (r3, .inl (cI, 2, .inl ((fun _ => 0)))), (r4, .inl (cI, 2, .inl ((fun _ => 0))))]) hP hD [0, 1, 2] [] rfl rfl (by decide) (by decide) hk1 hFc hP1 hD1
  clear hPc hDc hFc hP1 hK1 hD1 hk1 hz1 hvm ht
  generalize H1 = H at hP hS ⊢
  have hP : va_P (dC, dI) classes [(r0, .inr (8, [.int th, .int ((nI N)), .int ((nI OU)), .int ((nI Z)), .ref r1, .ref r2, .int 0, .ref r3, .ref r4, .ref r5, .ref r6, .ref r7, .ref r8, .int 0, .ref r9, .int 0, .ref r10, .ref r11, .int 0, .ref r12, .int 0, .ref r13, .ref r14, .int bst, .ref r15])), (r3, .inl (cI, 2, .inl ((fun _ => 0)))), (r4, .inl (cI, 2, .inl ((fun _ => 0))))] H := hP
  have hD : va_D A [(r0, .inr (8, [.int th, .int ((nI N)), .int ((nI OU)), .int ((nI Z)), .ref r1, .ref r2, .int 0, .ref r3, .ref r4, .ref r5, .ref r6, .ref r7, .ref r8, .int 0, .ref r9, .int 0, .ref r10, .ref r11, .int 0, .ref r12, .int 0, .ref r13, .ref r14, .int bst, .ref r15])), (r3, .inl (cI, 2, .inl ((fun _ => 0)))), (r4, .inl (cI, 2, .inl ((fun _ => 0))))] := hD
  refine lv_aload_n hx hb d_Ref_prime_4 rfl (lv_at hl 0 rfl) ?_
  refine lv_iload_n hx hb d_Ref_prime_5 rfl (lv_at hl 1 rfl) ?_
  refine lv_if_lt (tgt := 38) hx hb d_Ref_prime_6 (by decide) (fun c_6 => ?_) (fun c_6 => ?_)
  · refine lv_iconst (v := 1) hx hb d_Ref_prime_38 (by decide) ?_
    refine va_put (D := (dC, dI)) (ci := 8) (v := .int 1) (ty := .int) (C := R_Ref) (T := F_Ref) (N := 25) hx hb hts i_Ref t_Ref t_Ref_ok n_Ref hown hK hP hD hS 0 rfl rfl 0 (by decide) (hts _ mw_fl_Ref_65) (fun _ h9 => h9) rfl (by decide +kernel) rfl rfl (Nat.le_of_ble_eq_true rfl) d_Ref_prime_39 (fun H locs hP hD hS => ?_)
    have hP : va_P (dC, dI) classes [(r0, .inr (8, [.int 1, .int ((nI N)), .int ((nI OU)), .int ((nI Z)), .ref r1, .ref r2, .int 0, .ref r3, .ref r4, .ref r5, .ref r6, .ref r7, .ref r8, .int 0, .ref r9, .int 0, .ref r10, .ref r11, .int 0, .ref r12, .int 0, .ref r13, .ref r14, .int bst, .ref r15])), (r3, .inl (cI, 2, .inl ((fun _ => 0)))), (r4, .inl (cI, 2, .inl ((fun _ => 0))))] H := hP
    have hD : va_D A [(r0, .inr (8, [.int 1, .int ((nI N)), .int ((nI OU)), .int ((nI Z)), .ref r1, .ref r2, .int 0, .ref r3, .ref r4, .ref r5, .ref r6, .ref r7, .ref r8, .int 0, .ref r9, .int 0, .ref r10, .ref r11, .int 0, .ref r12, .int 0, .ref r13, .ref r14, .int bst, .ref r15])), (r3, .inl (cI, 2, .inl ((fun _ => 0)))), (r4, .inl (cI, 2, .inl ((fun _ => 0))))] := hD
    refine lv_aload_n hx hb d_Ref_prime_42 rfl (lv_at hl 0 rfl) ?_
    refine va_get (D := (dC, dI)) (ci := 8) (v := .int 1) (C := R_Ref) (T := F_Ref) (N := 25) hx hb hts i_Ref hown hK hP 0 rfl rfl 0 (by decide) (hts _ mw_fl_Ref_65) (fun _ h9 => h9) rfl d_Ref_prime_43 ?_
    refine lv_if_le (tgt := 51) hx hb d_Ref_prime_46 (by decide) (fun c_46 => ?_) (fun c_46 => ?_)
    · exact absurd c_46 (by decide +kernel)
    · refine lv_iconst (v := 0) hx hb d_Ref_prime_49 (by decide) ?_
      have hP9 := hP.sub (ws' := [(r0, .inr (8, [.int 1, .int ((nI N)), .int ((nI OU)), .int ((nI Z)), .ref r1, .ref r2, .int 0, .ref r3, .ref r4, .ref r5, .ref r6, .ref r7, .ref r8, .int 0, .ref r9, .int 0, .ref r10, .ref r11, .int 0, .ref r12, .int 0, .ref r13, .ref r14, .int bst, .ref r15]))]) [0] rfl
      have hD9 := hD.sub (ws' := [(r0, .inr (8, [.int 1, .int ((nI N)), .int ((nI OU)), .int ((nI Z)), .ref r1, .ref r2, .int 0, .ref r3, .ref r4, .ref r5, .ref r6, .ref r7, .ref r8, .int 0, .ref r9, .int 0, .ref r10, .ref r11, .int 0, .ref r12, .int 0, .ref r13, .ref r14, .int bst, .ref r15]))]) [0] (by decide) rfl
      exact W.iret (v := 0) hx hb hr (fun t ht hW => ⟨⟨0, (), rfl, rfl, by rw [ht]; exact hP9, va_K.moved hW.alike hK, hD9⟩, hS.F ht⟩) hS.2.2 d_Ref_prime_50
  · refine lv_iload_n hx hb d_Ref_prime_9 rfl (lv_at hl 1 rfl) ?_
    refine lv_aload_n hx hb d_Ref_prime_10 rfl (lv_at hl 0 rfl) ?_
    refine va_get (D := (dC, dI)) (ci := 8) (v := .int 0) (C := R_Ref) (T := F_Ref) (N := 25) hx hb hts i_Ref hown hK hP 0 rfl rfl 13 (by decide) (hts _ mw_fl_Ref_82) (fun _ h9 => h9) rfl d_Ref_prime_11 ?_
    refine lv_icmp_ge (tgt := 38) hx hb d_Ref_prime_14 (by decide) (fun c_14 => ?_) (fun c_14 => ?_)
    · refine lv_iconst (v := 1) hx hb d_Ref_prime_38 (by decide) ?_
      refine va_put (D := (dC, dI)) (ci := 8) (v := .int 1) (ty := .int) (C := R_Ref) (T := F_Ref) (N := 25) hx hb hts i_Ref t_Ref t_Ref_ok n_Ref hown hK hP hD hS 0 rfl rfl 0 (by decide) (hts _ mw_fl_Ref_65) (fun _ h9 => h9) rfl (by decide +kernel) rfl rfl (Nat.le_of_ble_eq_true rfl) d_Ref_prime_39 (fun H locs hP hD hS => ?_)
      have hP : va_P (dC, dI) classes [(r0, .inr (8, [.int 1, .int ((nI N)), .int ((nI OU)), .int ((nI Z)), .ref r1, .ref r2, .int 0, .ref r3, .ref r4, .ref r5, .ref r6, .ref r7, .ref r8, .int 0, .ref r9, .int 0, .ref r10, .ref r11, .int 0, .ref r12, .int 0, .ref r13, .ref r14, .int bst, .ref r15])), (r3, .inl (cI, 2, .inl ((fun _ => 0)))), (r4, .inl (cI, 2, .inl ((fun _ => 0))))] H := hP
      have hD : va_D A [(r0, .inr (8, [.int 1, .int ((nI N)), .int ((nI OU)), .int ((nI Z)), .ref r1, .ref r2, .int 0, .ref r3, .ref r4, .ref r5, .ref r6, .ref r7, .ref r8, .int 0, .ref r9, .int 0, .ref r10, .ref r11, .int 0, .ref r12, .int 0, .ref r13, .ref r14, .int bst, .ref r15])), (r3, .inl (cI, 2, .inl ((fun _ => 0)))), (r4, .inl (cI, 2, .inl ((fun _ => 0))))] := hD
      refine lv_aload_n hx hb d_Ref_prime_42 rfl (lv_at hl 0 rfl) ?_
      refine va_get (D := (dC, dI)) (ci := 8) (v := .int 1) (C := R_Ref) (T := F_Ref) (N := 25) hx hb hts i_Ref hown hK hP 0 rfl rfl 0 (by decide) (hts _ mw_fl_Ref_65) (fun _ h9 => h9) rfl d_Ref_prime_43 ?_
      refine lv_if_le (tgt := 51) hx hb d_Ref_prime_46 (by decide) (fun c_46 => ?_) (fun c_46 => ?_)
      · exact absurd c_46 (by decide +kernel)
      · refine lv_iconst (v := 0) hx hb d_Ref_prime_49 (by decide) ?_
        have hP9 := hP.sub (ws' := [(r0, .inr (8, [.int 1, .int ((nI N)), .int ((nI OU)), .int ((nI Z)), .ref r1, .ref r2, .int 0, .ref r3, .ref r4, .ref r5, .ref r6, .ref r7, .ref r8, .int 0, .ref r9, .int 0, .ref r10, .ref r11, .int 0, .ref r12, .int 0, .ref r13, .ref r14, .int bst, .ref r15]))]) [0] rfl
        have hD9 := hD.sub (ws' := [(r0, .inr (8, [.int 1, .int ((nI N)), .int ((nI OU)), .int ((nI Z)), .ref r1, .ref r2, .int 0, .ref r3, .ref r4, .ref r5, .ref r6, .ref r7, .ref r8, .int 0, .ref r9, .int 0, .ref r10, .ref r11, .int 0, .ref r12, .int 0, .ref r13, .ref r14, .int bst, .ref r15]))]) [0] (by decide) rfl
        exact W.iret (v := 0) hx hb hr (fun t ht hW => ⟨⟨0, (), rfl, rfl, by rw [ht]; exact hP9, va_K.moved hW.alike hK, hD9⟩, hS.F ht⟩) hS.2.2 d_Ref_prime_50
    · exact absurd (i_ge0 c_6) c_14
set_option maxHeartbeats 1000000 in
set_option maxRecDepth 100000 in
theorem c_Ref_literal (l : Launch) (dC : Nat → ClassId) (dI : Nat → Nat → Nat) (cI cJ : ClassId) (sz0 : Nat) (r0 : Nat) (th : Int32) (N : Nat) (OU : Nat) (Z : Nat) (r1 : Nat) (r2 : Nat) (r3 : Nat) (r4 : Nat) (r5 : Nat) (r6 : Nat) (r7 : Nat) (r8 : Nat) (r9 : Nat) (r10 : Nat) (r11 : Nat) (r12 : Nat) (r13 : Nat) (r14 : Nat) (bst : Int32) (r15 : Nat) (x : Int32) (y : Int32) (z : Int32) : Met l y_Ref_literal (ct y_Ref_literal b_Ref_literal 5 (some .boolean)) ({ frames := 0, cells := 0, slots := 0, locals := 0 }) (va_Pc [.ref r0, .int x, .int y, .int z] (fun U => U.heap.size = sz0 ∧ va_P (dC, dI) classes [(r0, .inr (8, [.int th, .int ((nI N)), .int ((nI OU)), .int ((nI Z)), .ref r1, .ref r2, .int 0, .ref r3, .ref r4, .ref r5, .ref r6, .ref r7, .ref r8, .int 0, .ref r9, .int 0, .ref r10, .ref r11, .int 0, .ref r12, .int 0, .ref r13, .ref r14, .int bst, .ref r15]))] U.heap ∧ va_K (dC, dI) classes [(cI, .int), (cJ, .long)] U ∧ va_D (fun _ => True) [(r0, .inr (8, [.int th, .int ((nI N)), .int ((nI OU)), .int ((nI Z)), .ref r1, .ref r2, .int 0, .ref r3, .ref r4, .ref r5, .ref r6, .ref r7, .ref r8, .int 0, .ref r9, .int 0, .ref r10, .ref r11, .int 0, .ref r12, .int 0, .ref r13, .ref r14, .int bst, .ref r15]))])) (va_Qi (fun (r : Int32) (_ : Unit) => r = 0) (fun _ => at_w dC dI cI cJ (va_A [(r0, .inr (8, [.int th, .int ((nI N)), .int ((nI OU)), .int ((nI Z)), .ref r1, .ref r2, .int 0, .ref r3, .ref r4, .ref r5, .ref r6, .ref r7, .ref r8, .int 0, .ref r9, .int 0, .ref r10, .ref r11, .int 0, .ref r12, .int 0, .ref r13, .ref r14, .int bst, .ref r15]))] sz0) [(r0, .inr (8, [.int 1, .int ((nI N)), .int ((nI OU)), .int ((nI Z)), .ref r1, .ref r2, .int 0, .ref r3, .ref r4, .ref r5, .ref r6, .ref r7, .ref r8, .int 0, .ref r9, .int 0, .ref r10, .ref r11, .int 0, .ref r12, .int 0, .ref r13, .ref r14, .int bst, .ref r15]))]) (va_A [(r0, .inr (8, [.int th, .int ((nI N)), .int ((nI OU)), .int ((nI Z)), .ref r1, .ref r2, .int 0, .ref r3, .ref r4, .ref r5, .ref r6, .ref r7, .ref r8, .int 0, .ref r9, .int 0, .ref r10, .ref r11, .int 0, .ref r12, .int 0, .ref r13, .ref r14, .int bst, .ref r15]))] sz0)) 0 0 (va_A [(r0, .inr (8, [.int th, .int ((nI N)), .int ((nI OU)), .int ((nI Z)), .ref r1, .ref r2, .int 0, .ref r3, .ref r4, .ref r5, .ref r6, .ref r7, .ref r8, .int 0, .ref r9, .int 0, .ref r10, .ref r11, .int 0, .ref r12, .int 0, .ref r13, .ref r14, .int bst, .ref r15]))] sz0) := by
  refine Met.ofW (cc := b_Ref_literal) (maxL := 5) (ret := some .boolean) (by decide) rfl ?_
  intro p e s m args below meth c s₁ B hml hv
  obtain ⟨rfl, hsz, hP, hK, hD0⟩ := hv
  have hx := B.exec
  have hb := B.bytes
  have hr := B.returns
  have hts : ∀ w ∈ lwg, w.before _ s = true := fun w h => atoms_spec (ws := ct y_Ref_literal b_Ref_literal 5 (some .boolean)) B.pre w (List.mem_cons_of_mem _ h)
  have hown : s.vm.findClass R_Ref = some m.cls := findClass_of_methodNamed B.named
  have hlocks := B.notSynchronized
  subst hsz
  have hD := hD0.self (sz := s.heap.size)
  generalize hAe : va_A [(r0, .inr (8, [.int th, .int ((nI N)), .int ((nI OU)), .int ((nI Z)), .ref r1, .ref r2, .int 0, .ref r3, .ref r4, .ref r5, .ref r6, .ref r7, .ref r8, .int 0, .ref r9, .int 0, .ref r10, .ref r11, .int 0, .ref r12, .int 0, .ref r13, .ref r14, .int bst, .ref r15]))] s.heap.size = A at hD ⊢
  have hA : ∀ q : Nat, s.heap.size ≤ q → A q := fun q h => by rw [← hAe]; exact Or.inr h
  have hS : va_S A s.heap s.heap [] := va_S.rf
  have hl := lv_entry ([.ref r0, .int x, .int y, .int z]) (n := 5) (Nat.le_of_ble_eq_true rfl)
  rw [lg_entry_eq]
  generalize (lg_sl ([.ref r0, .int x, .int y, .int z]) ++ List.replicate (5 - (lg_sl ([.ref r0, .int x, .int y, .int z])).length) Slot.unset).toArray = ls at hl ⊢
  have hl : lv_has ls 5 [(0, .ref r0), (1, .int x), (2, .int y), (3, .int z)] := hl
  have hP : va_P (dC, dI) classes [(r0, .inr (8, [.int th, .int ((nI N)), .int ((nI OU)), .int ((nI Z)), .ref r1, .ref r2, .int 0, .ref r3, .ref r4, .ref r5, .ref r6, .ref r7, .ref r8, .int 0, .ref r9, .int 0, .ref r10, .ref r11, .int 0, .ref r12, .int 0, .ref r13, .ref r14, .int bst, .ref r15]))] s.heap := hP
  refine lv_aload_n hx hb d_Ref_literal_0 rfl (lv_at hl 0 rfl) ?_
  refine lv_iload_n hx hb d_Ref_literal_1 rfl (lv_at hl 1 rfl) ?_
  refine lv_if_lt (tgt := 25) hx hb d_Ref_literal_2 (by decide) (fun c_2 => ?_) (fun c_2 => ?_)
  · refine lv_iconst (v := 1) hx hb d_Ref_literal_25 (by decide) ?_
    refine lv_goto (tgt := 43) hx hb d_Ref_literal_26 (by decide) ?_
    refine va_put (D := (dC, dI)) (ci := 8) (v := .int 1) (ty := .int) (C := R_Ref) (T := F_Ref) (N := 25) hx hb hts i_Ref t_Ref t_Ref_ok n_Ref hown hK hP hD hS 0 rfl rfl 0 (by decide) (hts _ mw_fl_Ref_65) (fun _ h9 => h9) rfl (by decide +kernel) rfl rfl (Nat.le_of_ble_eq_true rfl) d_Ref_literal_43 (fun H locs hP hD hS => ?_)
    have hP : va_P (dC, dI) classes [(r0, .inr (8, [.int 1, .int ((nI N)), .int ((nI OU)), .int ((nI Z)), .ref r1, .ref r2, .int 0, .ref r3, .ref r4, .ref r5, .ref r6, .ref r7, .ref r8, .int 0, .ref r9, .int 0, .ref r10, .ref r11, .int 0, .ref r12, .int 0, .ref r13, .ref r14, .int bst, .ref r15]))] H := hP
    have hD : va_D A [(r0, .inr (8, [.int 1, .int ((nI N)), .int ((nI OU)), .int ((nI Z)), .ref r1, .ref r2, .int 0, .ref r3, .ref r4, .ref r5, .ref r6, .ref r7, .ref r8, .int 0, .ref r9, .int 0, .ref r10, .ref r11, .int 0, .ref r12, .int 0, .ref r13, .ref r14, .int bst, .ref r15]))] := hD
    refine lv_aload_n hx hb d_Ref_literal_46 rfl (lv_at hl 0 rfl) ?_
    refine va_get (D := (dC, dI)) (ci := 8) (v := .int 1) (C := R_Ref) (T := F_Ref) (N := 25) hx hb hts i_Ref hown hK hP 0 rfl rfl 0 (by decide) (hts _ mw_fl_Ref_65) (fun _ h9 => h9) rfl d_Ref_literal_47 ?_
    refine lv_if_le (tgt := 55) hx hb d_Ref_literal_50 (by decide) (fun c_50 => ?_) (fun c_50 => ?_)
    · exact absurd c_50 (by decide +kernel)
    · refine lv_iconst (v := 0) hx hb d_Ref_literal_53 (by decide) ?_
      have hP9 := hP.sub (ws' := [(r0, .inr (8, [.int 1, .int ((nI N)), .int ((nI OU)), .int ((nI Z)), .ref r1, .ref r2, .int 0, .ref r3, .ref r4, .ref r5, .ref r6, .ref r7, .ref r8, .int 0, .ref r9, .int 0, .ref r10, .ref r11, .int 0, .ref r12, .int 0, .ref r13, .ref r14, .int bst, .ref r15]))]) [0] rfl
      have hD9 := hD.sub (ws' := [(r0, .inr (8, [.int 1, .int ((nI N)), .int ((nI OU)), .int ((nI Z)), .ref r1, .ref r2, .int 0, .ref r3, .ref r4, .ref r5, .ref r6, .ref r7, .ref r8, .int 0, .ref r9, .int 0, .ref r10, .ref r11, .int 0, .ref r12, .int 0, .ref r13, .ref r14, .int bst, .ref r15]))]) [0] (by decide) rfl
      exact W.zret (v := 0) hx hb hr (by decide) (fun t ht hW => ⟨⟨0, (), rfl, rfl, by rw [ht]; exact hP9, va_K.moved hW.alike hK, hD9⟩, hS.F ht⟩) hS.2.2 d_Ref_literal_54
  · refine lv_iload_n hx hb d_Ref_literal_5 rfl (lv_at hl 1 rfl) ?_
    refine lv_aload_n hx hb d_Ref_literal_6 rfl (lv_at hl 0 rfl) ?_
    refine va_get (D := (dC, dI)) (ci := 8) (v := .int 0) (C := R_Ref) (T := F_Ref) (N := 25) hx hb hts i_Ref hown hK hP 0 rfl rfl 6 (by decide) (hts _ mw_fl_Ref_72) (fun _ h9 => h9) rfl d_Ref_literal_7 ?_
    refine lv_icmp_ge (tgt := 25) hx hb d_Ref_literal_10 (by decide) (fun c_10 => ?_) (fun c_10 => ?_)
    · refine lv_iconst (v := 1) hx hb d_Ref_literal_25 (by decide) ?_
      refine lv_goto (tgt := 43) hx hb d_Ref_literal_26 (by decide) ?_
      refine va_put (D := (dC, dI)) (ci := 8) (v := .int 1) (ty := .int) (C := R_Ref) (T := F_Ref) (N := 25) hx hb hts i_Ref t_Ref t_Ref_ok n_Ref hown hK hP hD hS 0 rfl rfl 0 (by decide) (hts _ mw_fl_Ref_65) (fun _ h9 => h9) rfl (by decide +kernel) rfl rfl (Nat.le_of_ble_eq_true rfl) d_Ref_literal_43 (fun H locs hP hD hS => ?_)
      have hP : va_P (dC, dI) classes [(r0, .inr (8, [.int 1, .int ((nI N)), .int ((nI OU)), .int ((nI Z)), .ref r1, .ref r2, .int 0, .ref r3, .ref r4, .ref r5, .ref r6, .ref r7, .ref r8, .int 0, .ref r9, .int 0, .ref r10, .ref r11, .int 0, .ref r12, .int 0, .ref r13, .ref r14, .int bst, .ref r15]))] H := hP
      have hD : va_D A [(r0, .inr (8, [.int 1, .int ((nI N)), .int ((nI OU)), .int ((nI Z)), .ref r1, .ref r2, .int 0, .ref r3, .ref r4, .ref r5, .ref r6, .ref r7, .ref r8, .int 0, .ref r9, .int 0, .ref r10, .ref r11, .int 0, .ref r12, .int 0, .ref r13, .ref r14, .int bst, .ref r15]))] := hD
      refine lv_aload_n hx hb d_Ref_literal_46 rfl (lv_at hl 0 rfl) ?_
      refine va_get (D := (dC, dI)) (ci := 8) (v := .int 1) (C := R_Ref) (T := F_Ref) (N := 25) hx hb hts i_Ref hown hK hP 0 rfl rfl 0 (by decide) (hts _ mw_fl_Ref_65) (fun _ h9 => h9) rfl d_Ref_literal_47 ?_
      refine lv_if_le (tgt := 55) hx hb d_Ref_literal_50 (by decide) (fun c_50 => ?_) (fun c_50 => ?_)
      · exact absurd c_50 (by decide +kernel)
      · refine lv_iconst (v := 0) hx hb d_Ref_literal_53 (by decide) ?_
        have hP9 := hP.sub (ws' := [(r0, .inr (8, [.int 1, .int ((nI N)), .int ((nI OU)), .int ((nI Z)), .ref r1, .ref r2, .int 0, .ref r3, .ref r4, .ref r5, .ref r6, .ref r7, .ref r8, .int 0, .ref r9, .int 0, .ref r10, .ref r11, .int 0, .ref r12, .int 0, .ref r13, .ref r14, .int bst, .ref r15]))]) [0] rfl
        have hD9 := hD.sub (ws' := [(r0, .inr (8, [.int 1, .int ((nI N)), .int ((nI OU)), .int ((nI Z)), .ref r1, .ref r2, .int 0, .ref r3, .ref r4, .ref r5, .ref r6, .ref r7, .ref r8, .int 0, .ref r9, .int 0, .ref r10, .ref r11, .int 0, .ref r12, .int 0, .ref r13, .ref r14, .int bst, .ref r15]))]) [0] (by decide) rfl
        exact W.zret (v := 0) hx hb hr (by decide) (fun t ht hW => ⟨⟨0, (), rfl, rfl, by rw [ht]; exact hP9, va_K.moved hW.alike hK, hD9⟩, hS.F ht⟩) hS.2.2 d_Ref_literal_54
    · exact absurd (i_ge0 c_2) c_10
set_option maxHeartbeats 1000000 in
set_option maxRecDepth 100000 in
theorem c_Ref_to (l : Launch) (dC : Nat → ClassId) (dI : Nat → Nat → Nat) (cI cJ : ClassId) (sz0 : Nat) (r0 : Nat) (th : Int32) (N : Nat) (OU : Nat) (Z : Nat) (r1 : Nat) (r2 : Nat) (r3 : Nat) (r4 : Nat) (r5 : Nat) (r6 : Nat) (r7 : Nat) (r8 : Nat) (r9 : Nat) (r10 : Nat) (r11 : Nat) (r12 : Nat) (r13 : Nat) (r14 : Nat) (bst : Int32) (r15 : Nat) (x : Int32) (y : Int32) (z : Int32) : Met l y_Ref_to (ct y_Ref_to b_Ref_to 5 (some .boolean)) ({ frames := 0, cells := 0, slots := 0, locals := 0 }) (va_Pc [.ref r0, .int x, .int y, .int z] (fun U => U.heap.size = sz0 ∧ va_P (dC, dI) classes [(r0, .inr (8, [.int th, .int ((nI N)), .int ((nI OU)), .int ((nI Z)), .ref r1, .ref r2, .int 0, .ref r3, .ref r4, .ref r5, .ref r6, .ref r7, .ref r8, .int 0, .ref r9, .int 0, .ref r10, .ref r11, .int 0, .ref r12, .int 0, .ref r13, .ref r14, .int bst, .ref r15]))] U.heap ∧ va_K (dC, dI) classes [(cI, .int), (cJ, .long)] U ∧ va_D (fun _ => True) [(r0, .inr (8, [.int th, .int ((nI N)), .int ((nI OU)), .int ((nI Z)), .ref r1, .ref r2, .int 0, .ref r3, .ref r4, .ref r5, .ref r6, .ref r7, .ref r8, .int 0, .ref r9, .int 0, .ref r10, .ref r11, .int 0, .ref r12, .int 0, .ref r13, .ref r14, .int bst, .ref r15]))])) (va_Qi (fun (r : Int32) (_ : Unit) => r = 0) (fun _ => at_w dC dI cI cJ (va_A [(r0, .inr (8, [.int th, .int ((nI N)), .int ((nI OU)), .int ((nI Z)), .ref r1, .ref r2, .int 0, .ref r3, .ref r4, .ref r5, .ref r6, .ref r7, .ref r8, .int 0, .ref r9, .int 0, .ref r10, .ref r11, .int 0, .ref r12, .int 0, .ref r13, .ref r14, .int bst, .ref r15]))] sz0) [(r0, .inr (8, [.int 1, .int ((nI N)), .int ((nI OU)), .int ((nI Z)), .ref r1, .ref r2, .int 0, .ref r3, .ref r4, .ref r5, .ref r6, .ref r7, .ref r8, .int 0, .ref r9, .int 0, .ref r10, .ref r11, .int 0, .ref r12, .int 0, .ref r13, .ref r14, .int bst, .ref r15]))]) (va_A [(r0, .inr (8, [.int th, .int ((nI N)), .int ((nI OU)), .int ((nI Z)), .ref r1, .ref r2, .int 0, .ref r3, .ref r4, .ref r5, .ref r6, .ref r7, .ref r8, .int 0, .ref r9, .int 0, .ref r10, .ref r11, .int 0, .ref r12, .int 0, .ref r13, .ref r14, .int bst, .ref r15]))] sz0)) 0 0 (va_A [(r0, .inr (8, [.int th, .int ((nI N)), .int ((nI OU)), .int ((nI Z)), .ref r1, .ref r2, .int 0, .ref r3, .ref r4, .ref r5, .ref r6, .ref r7, .ref r8, .int 0, .ref r9, .int 0, .ref r10, .ref r11, .int 0, .ref r12, .int 0, .ref r13, .ref r14, .int bst, .ref r15]))] sz0) := by
  refine Met.ofW (cc := b_Ref_to) (maxL := 5) (ret := some .boolean) (by decide) rfl ?_
  intro p e s m args below meth c s₁ B hml hv
  obtain ⟨rfl, hsz, hP, hK, hD0⟩ := hv
  have hx := B.exec
  have hb := B.bytes
  have hr := B.returns
  have hts : ∀ w ∈ lwg, w.before _ s = true := fun w h => atoms_spec (ws := ct y_Ref_to b_Ref_to 5 (some .boolean)) B.pre w (List.mem_cons_of_mem _ h)
  have hown : s.vm.findClass R_Ref = some m.cls := findClass_of_methodNamed B.named
  have hlocks := B.notSynchronized
  subst hsz
  have hD := hD0.self (sz := s.heap.size)
  generalize hAe : va_A [(r0, .inr (8, [.int th, .int ((nI N)), .int ((nI OU)), .int ((nI Z)), .ref r1, .ref r2, .int 0, .ref r3, .ref r4, .ref r5, .ref r6, .ref r7, .ref r8, .int 0, .ref r9, .int 0, .ref r10, .ref r11, .int 0, .ref r12, .int 0, .ref r13, .ref r14, .int bst, .ref r15]))] s.heap.size = A at hD ⊢
  have hA : ∀ q : Nat, s.heap.size ≤ q → A q := fun q h => by rw [← hAe]; exact Or.inr h
  have hS : va_S A s.heap s.heap [] := va_S.rf
  have hl := lv_entry ([.ref r0, .int x, .int y, .int z]) (n := 5) (Nat.le_of_ble_eq_true rfl)
  rw [lg_entry_eq]
  generalize (lg_sl ([.ref r0, .int x, .int y, .int z]) ++ List.replicate (5 - (lg_sl ([.ref r0, .int x, .int y, .int z])).length) Slot.unset).toArray = ls at hl ⊢
  have hl : lv_has ls 5 [(0, .ref r0), (1, .int x), (2, .int y), (3, .int z)] := hl
  have hP : va_P (dC, dI) classes [(r0, .inr (8, [.int th, .int ((nI N)), .int ((nI OU)), .int ((nI Z)), .ref r1, .ref r2, .int 0, .ref r3, .ref r4, .ref r5, .ref r6, .ref r7, .ref r8, .int 0, .ref r9, .int 0, .ref r10, .ref r11, .int 0, .ref r12, .int 0, .ref r13, .ref r14, .int bst, .ref r15]))] s.heap := hP
  refine lv_aload_n hx hb d_Ref_to_0 rfl (lv_at hl 0 rfl) ?_
  refine lv_iload_n hx hb d_Ref_to_1 rfl (lv_at hl 1 rfl) ?_
  refine lv_if_lt (tgt := 25) hx hb d_Ref_to_2 (by decide) (fun c_2 => ?_) (fun c_2 => ?_)
  · refine lv_iconst (v := 1) hx hb d_Ref_to_25 (by decide) ?_
    refine lv_goto (tgt := 43) hx hb d_Ref_to_26 (by decide) ?_
    refine va_put (D := (dC, dI)) (ci := 8) (v := .int 1) (ty := .int) (C := R_Ref) (T := F_Ref) (N := 25) hx hb hts i_Ref t_Ref t_Ref_ok n_Ref hown hK hP hD hS 0 rfl rfl 0 (by decide) (hts _ mw_fl_Ref_65) (fun _ h9 => h9) rfl (by decide +kernel) rfl rfl (Nat.le_of_ble_eq_true rfl) d_Ref_to_43 (fun H locs hP hD hS => ?_)
    have hP : va_P (dC, dI) classes [(r0, .inr (8, [.int 1, .int ((nI N)), .int ((nI OU)), .int ((nI Z)), .ref r1, .ref r2, .int 0, .ref r3, .ref r4, .ref r5, .ref r6, .ref r7, .ref r8, .int 0, .ref r9, .int 0, .ref r10, .ref r11, .int 0, .ref r12, .int 0, .ref r13, .ref r14, .int bst, .ref r15]))] H := hP
    have hD : va_D A [(r0, .inr (8, [.int 1, .int ((nI N)), .int ((nI OU)), .int ((nI Z)), .ref r1, .ref r2, .int 0, .ref r3, .ref r4, .ref r5, .ref r6, .ref r7, .ref r8, .int 0, .ref r9, .int 0, .ref r10, .ref r11, .int 0, .ref r12, .int 0, .ref r13, .ref r14, .int bst, .ref r15]))] := hD
    refine lv_aload_n hx hb d_Ref_to_46 rfl (lv_at hl 0 rfl) ?_
    refine va_get (D := (dC, dI)) (ci := 8) (v := .int 1) (C := R_Ref) (T := F_Ref) (N := 25) hx hb hts i_Ref hown hK hP 0 rfl rfl 0 (by decide) (hts _ mw_fl_Ref_65) (fun _ h9 => h9) rfl d_Ref_to_47 ?_
    refine lv_if_le (tgt := 55) hx hb d_Ref_to_50 (by decide) (fun c_50 => ?_) (fun c_50 => ?_)
    · exact absurd c_50 (by decide +kernel)
    · refine lv_iconst (v := 0) hx hb d_Ref_to_53 (by decide) ?_
      have hP9 := hP.sub (ws' := [(r0, .inr (8, [.int 1, .int ((nI N)), .int ((nI OU)), .int ((nI Z)), .ref r1, .ref r2, .int 0, .ref r3, .ref r4, .ref r5, .ref r6, .ref r7, .ref r8, .int 0, .ref r9, .int 0, .ref r10, .ref r11, .int 0, .ref r12, .int 0, .ref r13, .ref r14, .int bst, .ref r15]))]) [0] rfl
      have hD9 := hD.sub (ws' := [(r0, .inr (8, [.int 1, .int ((nI N)), .int ((nI OU)), .int ((nI Z)), .ref r1, .ref r2, .int 0, .ref r3, .ref r4, .ref r5, .ref r6, .ref r7, .ref r8, .int 0, .ref r9, .int 0, .ref r10, .ref r11, .int 0, .ref r12, .int 0, .ref r13, .ref r14, .int bst, .ref r15]))]) [0] (by decide) rfl
      exact W.zret (v := 0) hx hb hr (by decide) (fun t ht hW => ⟨⟨0, (), rfl, rfl, by rw [ht]; exact hP9, va_K.moved hW.alike hK, hD9⟩, hS.F ht⟩) hS.2.2 d_Ref_to_54
  · refine lv_iload_n hx hb d_Ref_to_5 rfl (lv_at hl 1 rfl) ?_
    refine lv_aload_n hx hb d_Ref_to_6 rfl (lv_at hl 0 rfl) ?_
    refine va_get (D := (dC, dI)) (ci := 8) (v := .int 0) (C := R_Ref) (T := F_Ref) (N := 25) hx hb hts i_Ref hown hK hP 0 rfl rfl 6 (by decide) (hts _ mw_fl_Ref_72) (fun _ h9 => h9) rfl d_Ref_to_7 ?_
    refine lv_icmp_ge (tgt := 25) hx hb d_Ref_to_10 (by decide) (fun c_10 => ?_) (fun c_10 => ?_)
    · refine lv_iconst (v := 1) hx hb d_Ref_to_25 (by decide) ?_
      refine lv_goto (tgt := 43) hx hb d_Ref_to_26 (by decide) ?_
      refine va_put (D := (dC, dI)) (ci := 8) (v := .int 1) (ty := .int) (C := R_Ref) (T := F_Ref) (N := 25) hx hb hts i_Ref t_Ref t_Ref_ok n_Ref hown hK hP hD hS 0 rfl rfl 0 (by decide) (hts _ mw_fl_Ref_65) (fun _ h9 => h9) rfl (by decide +kernel) rfl rfl (Nat.le_of_ble_eq_true rfl) d_Ref_to_43 (fun H locs hP hD hS => ?_)
      have hP : va_P (dC, dI) classes [(r0, .inr (8, [.int 1, .int ((nI N)), .int ((nI OU)), .int ((nI Z)), .ref r1, .ref r2, .int 0, .ref r3, .ref r4, .ref r5, .ref r6, .ref r7, .ref r8, .int 0, .ref r9, .int 0, .ref r10, .ref r11, .int 0, .ref r12, .int 0, .ref r13, .ref r14, .int bst, .ref r15]))] H := hP
      have hD : va_D A [(r0, .inr (8, [.int 1, .int ((nI N)), .int ((nI OU)), .int ((nI Z)), .ref r1, .ref r2, .int 0, .ref r3, .ref r4, .ref r5, .ref r6, .ref r7, .ref r8, .int 0, .ref r9, .int 0, .ref r10, .ref r11, .int 0, .ref r12, .int 0, .ref r13, .ref r14, .int bst, .ref r15]))] := hD
      refine lv_aload_n hx hb d_Ref_to_46 rfl (lv_at hl 0 rfl) ?_
      refine va_get (D := (dC, dI)) (ci := 8) (v := .int 1) (C := R_Ref) (T := F_Ref) (N := 25) hx hb hts i_Ref hown hK hP 0 rfl rfl 0 (by decide) (hts _ mw_fl_Ref_65) (fun _ h9 => h9) rfl d_Ref_to_47 ?_
      refine lv_if_le (tgt := 55) hx hb d_Ref_to_50 (by decide) (fun c_50 => ?_) (fun c_50 => ?_)
      · exact absurd c_50 (by decide +kernel)
      · refine lv_iconst (v := 0) hx hb d_Ref_to_53 (by decide) ?_
        have hP9 := hP.sub (ws' := [(r0, .inr (8, [.int 1, .int ((nI N)), .int ((nI OU)), .int ((nI Z)), .ref r1, .ref r2, .int 0, .ref r3, .ref r4, .ref r5, .ref r6, .ref r7, .ref r8, .int 0, .ref r9, .int 0, .ref r10, .ref r11, .int 0, .ref r12, .int 0, .ref r13, .ref r14, .int bst, .ref r15]))]) [0] rfl
        have hD9 := hD.sub (ws' := [(r0, .inr (8, [.int 1, .int ((nI N)), .int ((nI OU)), .int ((nI Z)), .ref r1, .ref r2, .int 0, .ref r3, .ref r4, .ref r5, .ref r6, .ref r7, .ref r8, .int 0, .ref r9, .int 0, .ref r10, .ref r11, .int 0, .ref r12, .int 0, .ref r13, .ref r14, .int bst, .ref r15]))]) [0] (by decide) rfl
        exact W.zret (v := 0) hx hb hr (by decide) (fun t ht hW => ⟨⟨0, (), rfl, rfl, by rw [ht]; exact hP9, va_K.moved hW.alike hK, hD9⟩, hS.F ht⟩) hS.2.2 d_Ref_to_54
    · exact absurd (i_ge0 c_2) c_10
set_option maxHeartbeats 1000000 in
set_option maxRecDepth 100000 in
theorem c_Ref_quotient (l : Launch) (dC : Nat → ClassId) (dI : Nat → Nat → Nat) (cI cJ : ClassId) (sz0 : Nat) (r0 : Nat) (th : Int32) (N : Nat) (OU : Nat) (Z : Nat) (r1 : Nat) (r2 : Nat) (r3 : Nat) (r4 : Nat) (r5 : Nat) (r6 : Nat) (r7 : Nat) (r8 : Nat) (r9 : Nat) (r10 : Nat) (r11 : Nat) (r12 : Nat) (r13 : Nat) (r14 : Nat) (bst : Int32) (r15 : Nat) (x : Int32) : Met l y_Ref_quotient (ct y_Ref_quotient b_Ref_quotient 2 (some .int)) ({ frames := 0, cells := 0, slots := 0, locals := 0 }) (va_Pc [.ref r0, .int x] (fun U => U.heap.size = sz0 ∧ va_P (dC, dI) classes [(r0, .inr (8, [.int th, .int ((nI N)), .int ((nI OU)), .int ((nI Z)), .ref r1, .ref r2, .int 0, .ref r3, .ref r4, .ref r5, .ref r6, .ref r7, .ref r8, .int 0, .ref r9, .int 0, .ref r10, .ref r11, .int 0, .ref r12, .int 0, .ref r13, .ref r14, .int bst, .ref r15]))] U.heap ∧ va_K (dC, dI) classes [(cI, .int), (cJ, .long)] U ∧ va_D (fun _ => True) [(r0, .inr (8, [.int th, .int ((nI N)), .int ((nI OU)), .int ((nI Z)), .ref r1, .ref r2, .int 0, .ref r3, .ref r4, .ref r5, .ref r6, .ref r7, .ref r8, .int 0, .ref r9, .int 0, .ref r10, .ref r11, .int 0, .ref r12, .int 0, .ref r13, .ref r14, .int bst, .ref r15]))])) (va_Qi (fun (r : Int32) (_ : Unit) => r = 0) (fun _ => at_w dC dI cI cJ (va_A [(r0, .inr (8, [.int th, .int ((nI N)), .int ((nI OU)), .int ((nI Z)), .ref r1, .ref r2, .int 0, .ref r3, .ref r4, .ref r5, .ref r6, .ref r7, .ref r8, .int 0, .ref r9, .int 0, .ref r10, .ref r11, .int 0, .ref r12, .int 0, .ref r13, .ref r14, .int bst, .ref r15]))] sz0) [(r0, .inr (8, [.int 1, .int ((nI N)), .int ((nI OU)), .int ((nI Z)), .ref r1, .ref r2, .int 0, .ref r3, .ref r4, .ref r5, .ref r6, .ref r7, .ref r8, .int 0, .ref r9, .int 0, .ref r10, .ref r11, .int 0, .ref r12, .int 0, .ref r13, .ref r14, .int bst, .ref r15]))]) (va_A [(r0, .inr (8, [.int th, .int ((nI N)), .int ((nI OU)), .int ((nI Z)), .ref r1, .ref r2, .int 0, .ref r3, .ref r4, .ref r5, .ref r6, .ref r7, .ref r8, .int 0, .ref r9, .int 0, .ref r10, .ref r11, .int 0, .ref r12, .int 0, .ref r13, .ref r14, .int bst, .ref r15]))] sz0)) 0 0 (va_A [(r0, .inr (8, [.int th, .int ((nI N)), .int ((nI OU)), .int ((nI Z)), .ref r1, .ref r2, .int 0, .ref r3, .ref r4, .ref r5, .ref r6, .ref r7, .ref r8, .int 0, .ref r9, .int 0, .ref r10, .ref r11, .int 0, .ref r12, .int 0, .ref r13, .ref r14, .int bst, .ref r15]))] sz0) := by
  refine Met.ofW (cc := b_Ref_quotient) (maxL := 2) (ret := some .int) (by decide) rfl ?_
  intro p e s m args below meth c s₁ B hml hv
  obtain ⟨rfl, hsz, hP, hK, hD0⟩ := hv
  have hx := B.exec
  have hb := B.bytes
  have hr := B.returns
  have hts : ∀ w ∈ lwg, w.before _ s = true := fun w h => atoms_spec (ws := ct y_Ref_quotient b_Ref_quotient 2 (some .int)) B.pre w (List.mem_cons_of_mem _ h)
  have hown : s.vm.findClass R_Ref = some m.cls := findClass_of_methodNamed B.named
  have hlocks := B.notSynchronized
  subst hsz
  have hD := hD0.self (sz := s.heap.size)
  generalize hAe : va_A [(r0, .inr (8, [.int th, .int ((nI N)), .int ((nI OU)), .int ((nI Z)), .ref r1, .ref r2, .int 0, .ref r3, .ref r4, .ref r5, .ref r6, .ref r7, .ref r8, .int 0, .ref r9, .int 0, .ref r10, .ref r11, .int 0, .ref r12, .int 0, .ref r13, .ref r14, .int bst, .ref r15]))] s.heap.size = A at hD ⊢
  have hA : ∀ q : Nat, s.heap.size ≤ q → A q := fun q h => by rw [← hAe]; exact Or.inr h
  have hS : va_S A s.heap s.heap [] := va_S.rf
  have hl := lv_entry ([.ref r0, .int x]) (n := 2) (Nat.le_of_ble_eq_true rfl)
  rw [lg_entry_eq]
  generalize (lg_sl ([.ref r0, .int x]) ++ List.replicate (2 - (lg_sl ([.ref r0, .int x])).length) Slot.unset).toArray = ls at hl ⊢
  have hl : lv_has ls 2 [(0, .ref r0), (1, .int x)] := hl
  have hP : va_P (dC, dI) classes [(r0, .inr (8, [.int th, .int ((nI N)), .int ((nI OU)), .int ((nI Z)), .ref r1, .ref r2, .int 0, .ref r3, .ref r4, .ref r5, .ref r6, .ref r7, .ref r8, .int 0, .ref r9, .int 0, .ref r10, .ref r11, .int 0, .ref r12, .int 0, .ref r13, .ref r14, .int bst, .ref r15]))] s.heap := hP
  refine lv_aload_n hx hb d_Ref_quotient_0 rfl (lv_at hl 0 rfl) ?_
  refine lv_iload_n hx hb d_Ref_quotient_1 rfl (lv_at hl 1 rfl) ?_
  refine lv_if_lt (tgt := 17) hx hb d_Ref_quotient_2 (by decide) (fun c_2 => ?_) (fun c_2 => ?_)
  · refine lv_iconst (v := 1) hx hb d_Ref_quotient_17 (by decide) ?_
    refine va_put (D := (dC, dI)) (ci := 8) (v := .int 1) (ty := .int) (C := R_Ref) (T := F_Ref) (N := 25) hx hb hts i_Ref t_Ref t_Ref_ok n_Ref hown hK hP hD hS 0 rfl rfl 0 (by decide) (hts _ mw_fl_Ref_65) (fun _ h9 => h9) rfl (by decide +kernel) rfl rfl (Nat.le_of_ble_eq_true rfl) d_Ref_quotient_18 (fun H locs hP hD hS => ?_)
    have hP : va_P (dC, dI) classes [(r0, .inr (8, [.int 1, .int ((nI N)), .int ((nI OU)), .int ((nI Z)), .ref r1, .ref r2, .int 0, .ref r3, .ref r4, .ref r5, .ref r6, .ref r7, .ref r8, .int 0, .ref r9, .int 0, .ref r10, .ref r11, .int 0, .ref r12, .int 0, .ref r13, .ref r14, .int bst, .ref r15]))] H := hP
    have hD : va_D A [(r0, .inr (8, [.int 1, .int ((nI N)), .int ((nI OU)), .int ((nI Z)), .ref r1, .ref r2, .int 0, .ref r3, .ref r4, .ref r5, .ref r6, .ref r7, .ref r8, .int 0, .ref r9, .int 0, .ref r10, .ref r11, .int 0, .ref r12, .int 0, .ref r13, .ref r14, .int bst, .ref r15]))] := hD
    refine lv_aload_n hx hb d_Ref_quotient_21 rfl (lv_at hl 0 rfl) ?_
    refine va_get (D := (dC, dI)) (ci := 8) (v := .int 1) (C := R_Ref) (T := F_Ref) (N := 25) hx hb hts i_Ref hown hK hP 0 rfl rfl 0 (by decide) (hts _ mw_fl_Ref_65) (fun _ h9 => h9) rfl d_Ref_quotient_22 ?_
    refine lv_if_le (tgt := 32) hx hb d_Ref_quotient_25 (by decide) (fun c_25 => ?_) (fun c_25 => ?_)
    · exact absurd c_25 (by decide +kernel)
    · refine lv_iconst (v := 0) hx hb d_Ref_quotient_28 (by decide) ?_
      refine lv_goto (tgt := 38) hx hb d_Ref_quotient_29 (by decide) ?_
      have hP9 := hP.sub (ws' := [(r0, .inr (8, [.int 1, .int ((nI N)), .int ((nI OU)), .int ((nI Z)), .ref r1, .ref r2, .int 0, .ref r3, .ref r4, .ref r5, .ref r6, .ref r7, .ref r8, .int 0, .ref r9, .int 0, .ref r10, .ref r11, .int 0, .ref r12, .int 0, .ref r13, .ref r14, .int bst, .ref r15]))]) [0] rfl
      have hD9 := hD.sub (ws' := [(r0, .inr (8, [.int 1, .int ((nI N)), .int ((nI OU)), .int ((nI Z)), .ref r1, .ref r2, .int 0, .ref r3, .ref r4, .ref r5, .ref r6, .ref r7, .ref r8, .int 0, .ref r9, .int 0, .ref r10, .ref r11, .int 0, .ref r12, .int 0, .ref r13, .ref r14, .int bst, .ref r15]))]) [0] (by decide) rfl
      exact W.iret (v := 0) hx hb hr (fun t ht hW => ⟨⟨0, (), rfl, rfl, by rw [ht]; exact hP9, va_K.moved hW.alike hK, hD9⟩, hS.F ht⟩) hS.2.2 d_Ref_quotient_38
  · refine lv_iload_n hx hb d_Ref_quotient_5 rfl (lv_at hl 1 rfl) ?_
    refine lv_aload_n hx hb d_Ref_quotient_6 rfl (lv_at hl 0 rfl) ?_
    refine va_get (D := (dC, dI)) (ci := 8) (v := .int 0) (C := R_Ref) (T := F_Ref) (N := 25) hx hb hts i_Ref hown hK hP 0 rfl rfl 20 (by decide) (hts _ mw_fl_Ref_117) (fun _ h9 => h9) rfl d_Ref_quotient_7 ?_
    refine lv_icmp_ge (tgt := 17) hx hb d_Ref_quotient_10 (by decide) (fun c_10 => ?_) (fun c_10 => ?_)
    · refine lv_iconst (v := 1) hx hb d_Ref_quotient_17 (by decide) ?_
      refine va_put (D := (dC, dI)) (ci := 8) (v := .int 1) (ty := .int) (C := R_Ref) (T := F_Ref) (N := 25) hx hb hts i_Ref t_Ref t_Ref_ok n_Ref hown hK hP hD hS 0 rfl rfl 0 (by decide) (hts _ mw_fl_Ref_65) (fun _ h9 => h9) rfl (by decide +kernel) rfl rfl (Nat.le_of_ble_eq_true rfl) d_Ref_quotient_18 (fun H locs hP hD hS => ?_)
      have hP : va_P (dC, dI) classes [(r0, .inr (8, [.int 1, .int ((nI N)), .int ((nI OU)), .int ((nI Z)), .ref r1, .ref r2, .int 0, .ref r3, .ref r4, .ref r5, .ref r6, .ref r7, .ref r8, .int 0, .ref r9, .int 0, .ref r10, .ref r11, .int 0, .ref r12, .int 0, .ref r13, .ref r14, .int bst, .ref r15]))] H := hP
      have hD : va_D A [(r0, .inr (8, [.int 1, .int ((nI N)), .int ((nI OU)), .int ((nI Z)), .ref r1, .ref r2, .int 0, .ref r3, .ref r4, .ref r5, .ref r6, .ref r7, .ref r8, .int 0, .ref r9, .int 0, .ref r10, .ref r11, .int 0, .ref r12, .int 0, .ref r13, .ref r14, .int bst, .ref r15]))] := hD
      refine lv_aload_n hx hb d_Ref_quotient_21 rfl (lv_at hl 0 rfl) ?_
      refine va_get (D := (dC, dI)) (ci := 8) (v := .int 1) (C := R_Ref) (T := F_Ref) (N := 25) hx hb hts i_Ref hown hK hP 0 rfl rfl 0 (by decide) (hts _ mw_fl_Ref_65) (fun _ h9 => h9) rfl d_Ref_quotient_22 ?_
      refine lv_if_le (tgt := 32) hx hb d_Ref_quotient_25 (by decide) (fun c_25 => ?_) (fun c_25 => ?_)
      · exact absurd c_25 (by decide +kernel)
      · refine lv_iconst (v := 0) hx hb d_Ref_quotient_28 (by decide) ?_
        refine lv_goto (tgt := 38) hx hb d_Ref_quotient_29 (by decide) ?_
        have hP9 := hP.sub (ws' := [(r0, .inr (8, [.int 1, .int ((nI N)), .int ((nI OU)), .int ((nI Z)), .ref r1, .ref r2, .int 0, .ref r3, .ref r4, .ref r5, .ref r6, .ref r7, .ref r8, .int 0, .ref r9, .int 0, .ref r10, .ref r11, .int 0, .ref r12, .int 0, .ref r13, .ref r14, .int bst, .ref r15]))]) [0] rfl
        have hD9 := hD.sub (ws' := [(r0, .inr (8, [.int 1, .int ((nI N)), .int ((nI OU)), .int ((nI Z)), .ref r1, .ref r2, .int 0, .ref r3, .ref r4, .ref r5, .ref r6, .ref r7, .ref r8, .int 0, .ref r9, .int 0, .ref r10, .ref r11, .int 0, .ref r12, .int 0, .ref r13, .ref r14, .int bst, .ref r15]))]) [0] (by decide) rfl
        exact W.iret (v := 0) hx hb hr (fun t ht hW => ⟨⟨0, (), rfl, rfl, by rw [ht]; exact hP9, va_K.moved hW.alike hK, hD9⟩, hS.F ht⟩) hS.2.2 d_Ref_quotient_38
    · exact absurd (i_ge0 c_2) c_10
set_option maxHeartbeats 1000000 in
set_option maxRecDepth 100000 in
theorem lpf_Ref_cube {p : Program} {e : Env} {s : State} {m : MethodId} {args : Array Value} {below : List Frame} {meth : Method} {c : Code} {Q : State → Prop} (l : Launch) (dC : Nat → ClassId) (dI : Nat → Nat → Nat) (cI cJ : ClassId) (r0 : Nat) (th : Int32) (N : Nat) (OU : Nat) (Z : Nat) (r1 : Nat) (r2 : Nat) (r3 : Nat) (r4 : Nat) (r5 : Nat) (r6 : Nat) (r7 : Nat) (r8 : Nat) (r9 : Nat) (r10 : Nat) (r11 : Nat) (r12 : Nat) (r13 : Nat) (r14 : Nat) (bst : Int32) (r15 : Nat)    (hx : p.tables.exec = Jvm.exec) (hb : c.code = b_Ref_cube) (hts : ∀ w ∈ lwg, w.before args s = true) (hown : s.vm.findClass R_Ref = some m.cls) (hml : c.maxLocals = 2) (hK : va_K (dC, dI) classes [(cI, .int), (cJ, .long)] s) {A : Nat → Prop} (hA : ∀ q : Nat, s.heap.size ≤ q → A q) (kk : ∀ (H : Heap) (locs : List Loc) (ls : Array Slot), va_P (dC, dI) classes [(r0, .inr (8, [.int 0, .int ((nI N)), .int ((nI OU)), .int ((nI Z)), .ref r1, .ref r2, .int 0, .ref r3, .ref r4, .ref r5, .ref r6, .ref r7, .ref r8, .int 0, .ref r9, .int 0, .ref r10, .ref r11, .int 0, .ref r12, .int 0, .ref r13, .ref r14, .int bst, .ref r15])), (r2, .inl (cI, 48, .inl ((fun _ => 0))))] H → va_D A [(r0, .inr (8, [.int 0, .int ((nI N)), .int ((nI OU)), .int ((nI Z)), .ref r1, .ref r2, .int 0, .ref r3, .ref r4, .ref r5, .ref r6, .ref r7, .ref r8, .int 0, .ref r9, .int 0, .ref r10, .ref r11, .int 0, .ref r12, .int 0, .ref r13, .ref r14, .int bst, .ref r15])), (r2, .inl (cI, 48, .inl ((fun _ => 0))))] → va_S A s.heap H locs → lv_has ls 2 [(0, .ref r0)] → W p l e ({ frames := 0, cells := 0, slots := 0, locals := 0 } : Room) s m args below meth c H locs 0 0 Q (F0 m 54 ls [])) : ∀ (fu i : Nat), 4 - i < fu → i ≤ 4 → ∀ (H : Heap) (locs : List Loc) (ls : Array Slot), va_P (dC, dI) classes [(r0, .inr (8, [.int 0, .int ((nI N)), .int ((nI OU)), .int ((nI Z)), .ref r1, .ref r2, .int 0, .ref r3, .ref r4, .ref r5, .ref r6, .ref r7, .ref r8, .int 0, .ref r9, .int 0, .ref r10, .ref r11, .int 0, .ref r12, .int 0, .ref r13, .ref r14, .int bst, .ref r15])), (r1, .inl (cI, 96, .inl ((stD i)))), (r2, .inl (cI, 48, .inl ((fun _ => 0))))] H → va_D A [(r0, .inr (8, [.int 0, .int ((nI N)), .int ((nI OU)), .int ((nI Z)), .ref r1, .ref r2, .int 0, .ref r3, .ref r4, .ref r5, .ref r6, .ref r7, .ref r8, .int 0, .ref r9, .int 0, .ref r10, .ref r11, .int 0, .ref r12, .int 0, .ref r13, .ref r14, .int bst, .ref r15])), (r1, .inl (cI, 96, .inl ((stD i)))), (r2, .inl (cI, 48, .inl ((fun _ => 0))))] → va_S A s.heap H locs → lv_has ls 2 [(0, .ref r0), (1, .int ((nI i)))] → W p l e ({ frames := 0, cells := 0, slots := 0, locals := 0 } : Room) s m args below meth c H locs 0 0 Q (F0 m 29 ls []) := by
  intro fu
  induction fu with
  | zero => intro i h; omega
  | succ fu ih =>
    intro i hfu hle H locs ls hP hD hS hl
    refine lv_iload_n hx hb d_Ref_cube_29 rfl (lv_at hl 1 rfl) ?_
    refine lv_iconst (v := 4) hx hb d_Ref_cube_30 (by decide) ?_
    refine lv_icmp_ge (tgt := 54) hx hb d_Ref_cube_31 (by decide) (fun c_31 => ?_) (fun c_31 => ?_)
    · have hE : i = 4 := Nat.le_antisymm hle ((nI_leI (a := 4) (b := i) (by omega) (by omega)).mp c_31)
      exact kk _ _ ls (by subst hE; exact hP.sub [0, 2] rfl) (by subst hE; exact hD.sub [0, 2] (by decide) rfl) hS (by subst hE; exact lv_sub hl [0] rfl)
    · have hlt : i < 4 := Nat.lt_of_not_le (fun h => c_31 ((nI_leI (a := 4) (b := i) (by omega) (by omega)).mpr h))
      refine lv_aload_n hx hb d_Ref_cube_34 rfl (lv_at hl 0 rfl) ?_
      refine va_get (D := (dC, dI)) (ci := 8) (v := .ref r1) (C := R_Ref) (T := F_Ref) (N := 25) hx hb hts i_Ref hown hK hP 0 rfl rfl 4 (by decide) (hts _ mw_fl_Ref_7) (fun _ h9 => h9) rfl d_Ref_cube_35 ?_
      refine lv_iconst (v := 4) hx hb d_Ref_cube_38 (by decide) ?_
      refine lv_aload_n hx hb d_Ref_cube_39 rfl (lv_at hl 0 rfl) ?_
      refine va_get (D := (dC, dI)) (ci := 8) (v := .int 0) (C := R_Ref) (T := F_Ref) (N := 25) hx hb hts i_Ref hown hK hP 0 rfl rfl 6 (by decide) (hts _ mw_fl_Ref_72) (fun _ h9 => h9) rfl d_Ref_cube_40 ?_
      refine lv_imul hx hb d_Ref_cube_43 ?_
      refine lv_iload_n hx hb d_Ref_cube_44 rfl (lv_at hl 1 rfl) ?_
      refine lv_iadd hx hb d_Ref_cube_45 ?_
      refine w_ti (show _ = nI i from z4 i) ?_
      refine lv_iconst (v := 2) hx hb d_Ref_cube_46 (by decide) ?_
      refine va_iast hx hb hK hP hD hS 1 0 rfl rfl (vp_in_nI (show i < 96 by omega) (by omega)) d_Ref_cube_47 (fun H locs hP hD hS => ?_)
      have hP : va_P (dC, dI) classes [(r0, .inr (8, [.int 0, .int ((nI N)), .int ((nI OU)), .int ((nI Z)), .ref r1, .ref r2, .int 0, .ref r3, .ref r4, .ref r5, .ref r6, .ref r7, .ref r8, .int 0, .ref r9, .int 0, .ref r10, .ref r11, .int 0, .ref r12, .int 0, .ref r13, .ref r14, .int bst, .ref r15])), (r1, .inl (cI, 96, .inl ((upd ((stD i)) (nI i).toNatClampNeg 2)))), (r2, .inl (cI, 48, .inl ((fun _ => 0))))] H := hP
      have hD : va_D A [(r0, .inr (8, [.int 0, .int ((nI N)), .int ((nI OU)), .int ((nI Z)), .ref r1, .ref r2, .int 0, .ref r3, .ref r4, .ref r5, .ref r6, .ref r7, .ref r8, .int 0, .ref r9, .int 0, .ref r10, .ref r11, .int 0, .ref r12, .int 0, .ref r13, .ref r14, .int bst, .ref r15])), (r1, .inl (cI, 96, .inl ((upd ((stD i)) (nI i).toNatClampNeg 2)))), (r2, .inl (cI, 48, .inl ((fun _ => 0))))] := hD
      rw [show (nI i).toNatClampNeg = i from nI_clamp (by omega)] at hP hD
      refine lv_iinc (v := (nI (i + 1))) (lv' := [(1, .int ((nI (i + 1)))), (0, .ref r0)]) hx hb d_Ref_cube_48 hl (k := 1) rfl (show nI i + 1 = nI (i + 1) from nI_1 i) (by decide) rfl (fun ls hl => ?_)
      refine lv_goto (tgt := 29) hx hb d_Ref_cube_51 (by decide) ?_
      exact ih (i + 1) (by omega) (by omega) _ _ ls (hP.sub [0, 1, 2] rfl) (hD.sub [0, 1, 2] (by decide) rfl) hS (lv_sub hl [1, 0] rfl)
set_option maxHeartbeats 1000000 in
set_option maxRecDepth 100000 in
theorem c_Ref_cube (l : Launch) (dC : Nat → ClassId) (dI : Nat → Nat → Nat) (cI cJ : ClassId) (sz0 : Nat) (r0 : Nat) (th : Int32) (N : Nat) (OU : Nat) (Z : Nat) (r1 : Nat) (r2 : Nat) (r3 : Nat) (r4 : Nat) (r5 : Nat) (r6 : Nat) (r7 : Nat) (r8 : Nat) (r9 : Nat) (r10 : Nat) (r11 : Nat) (r12 : Nat) (r13 : Nat) (r14 : Nat) (bst : Int32) (r15 : Nat) : Met l y_Ref_cube (ct y_Ref_cube b_Ref_cube 2 (some .int)) ({ frames := 0, cells := 0, slots := 0, locals := 0 }) (va_Pc [.ref r0] (fun U => U.heap.size = sz0 ∧ va_P (dC, dI) classes [(r0, .inr (8, [.int th, .int ((nI N)), .int ((nI OU)), .int ((nI Z)), .ref r1, .ref r2, .int 0, .ref r3, .ref r4, .ref r5, .ref r6, .ref r7, .ref r8, .int 0, .ref r9, .int 0, .ref r10, .ref r11, .int 0, .ref r12, .int 0, .ref r13, .ref r14, .int bst, .ref r15])), (r1, .inl (cI, 96, .inl ((fun _ => 0)))), (r2, .inl (cI, 48, .inl ((fun _ => 0))))] U.heap ∧ va_K (dC, dI) classes [(cI, .int), (cJ, .long)] U ∧ va_D (fun _ => True) [(r0, .inr (8, [.int th, .int ((nI N)), .int ((nI OU)), .int ((nI Z)), .ref r1, .ref r2, .int 0, .ref r3, .ref r4, .ref r5, .ref r6, .ref r7, .ref r8, .int 0, .ref r9, .int 0, .ref r10, .ref r11, .int 0, .ref r12, .int 0, .ref r13, .ref r14, .int bst, .ref r15])), (r1, .inl (cI, 96, .inl ((fun _ => 0)))), (r2, .inl (cI, 48, .inl ((fun _ => 0))))])) (va_Qi (fun (r : Int32) (_ : Unit) => r = 0) (fun _ => at_w dC dI cI cJ (va_A [(r0, .inr (8, [.int th, .int ((nI N)), .int ((nI OU)), .int ((nI Z)), .ref r1, .ref r2, .int 0, .ref r3, .ref r4, .ref r5, .ref r6, .ref r7, .ref r8, .int 0, .ref r9, .int 0, .ref r10, .ref r11, .int 0, .ref r12, .int 0, .ref r13, .ref r14, .int bst, .ref r15])), (r1, .inl (cI, 96, .inl ((fun _ => 0)))), (r2, .inl (cI, 48, .inl ((fun _ => 0))))] sz0) [(r0, .inr (8, [.int 0, .int ((nI N)), .int ((nI OU)), .int ((nI Z)), .ref r1, .ref r2, .int 1, .ref r3, .ref r4, .ref r5, .ref r6, .ref r7, .ref r8, .int 0, .ref r9, .int 0, .ref r10, .ref r11, .int 0, .ref r12, .int 0, .ref r13, .ref r14, .int bst, .ref r15]))]) (va_A [(r0, .inr (8, [.int th, .int ((nI N)), .int ((nI OU)), .int ((nI Z)), .ref r1, .ref r2, .int 0, .ref r3, .ref r4, .ref r5, .ref r6, .ref r7, .ref r8, .int 0, .ref r9, .int 0, .ref r10, .ref r11, .int 0, .ref r12, .int 0, .ref r13, .ref r14, .int bst, .ref r15])), (r1, .inl (cI, 96, .inl ((fun _ => 0)))), (r2, .inl (cI, 48, .inl ((fun _ => 0))))] sz0)) 0 0 (va_A [(r0, .inr (8, [.int th, .int ((nI N)), .int ((nI OU)), .int ((nI Z)), .ref r1, .ref r2, .int 0, .ref r3, .ref r4, .ref r5, .ref r6, .ref r7, .ref r8, .int 0, .ref r9, .int 0, .ref r10, .ref r11, .int 0, .ref r12, .int 0, .ref r13, .ref r14, .int bst, .ref r15])), (r1, .inl (cI, 96, .inl ((fun _ => 0)))), (r2, .inl (cI, 48, .inl ((fun _ => 0))))] sz0) := by
  refine Met.ofW (cc := b_Ref_cube) (maxL := 2) (ret := some .int) (by decide) rfl ?_
  intro p e s m args below meth c s₁ B hml hv
  obtain ⟨rfl, hsz, hP, hK, hD0⟩ := hv
  have hx := B.exec
  have hb := B.bytes
  have hr := B.returns
  have hts : ∀ w ∈ lwg, w.before _ s = true := fun w h => atoms_spec (ws := ct y_Ref_cube b_Ref_cube 2 (some .int)) B.pre w (List.mem_cons_of_mem _ h)
  have hown : s.vm.findClass R_Ref = some m.cls := findClass_of_methodNamed B.named
  have hlocks := B.notSynchronized
  subst hsz
  have hD := hD0.self (sz := s.heap.size)
  generalize hAe : va_A [(r0, .inr (8, [.int th, .int ((nI N)), .int ((nI OU)), .int ((nI Z)), .ref r1, .ref r2, .int 0, .ref r3, .ref r4, .ref r5, .ref r6, .ref r7, .ref r8, .int 0, .ref r9, .int 0, .ref r10, .ref r11, .int 0, .ref r12, .int 0, .ref r13, .ref r14, .int bst, .ref r15])), (r1, .inl (cI, 96, .inl ((fun _ => 0)))), (r2, .inl (cI, 48, .inl ((fun _ => 0))))] s.heap.size = A at hD ⊢
  have hA : ∀ q : Nat, s.heap.size ≤ q → A q := fun q h => by rw [← hAe]; exact Or.inr h
  have hS : va_S A s.heap s.heap [] := va_S.rf
  have hl := lv_entry ([.ref r0]) (n := 2) (Nat.le_of_ble_eq_true rfl)
  rw [lg_entry_eq]
  generalize (lg_sl ([.ref r0]) ++ List.replicate (2 - (lg_sl ([.ref r0])).length) Slot.unset).toArray = ls at hl ⊢
  have hl : lv_has ls 2 [(0, .ref r0)] := hl
  have hP : va_P (dC, dI) classes [(r0, .inr (8, [.int th, .int ((nI N)), .int ((nI OU)), .int ((nI Z)), .ref r1, .ref r2, .int 0, .ref r3, .ref r4, .ref r5, .ref r6, .ref r7, .ref r8, .int 0, .ref r9, .int 0, .ref r10, .ref r11, .int 0, .ref r12, .int 0, .ref r13, .ref r14, .int bst, .ref r15])), (r1, .inl (cI, 96, .inl ((fun _ => 0)))), (r2, .inl (cI, 48, .inl ((fun _ => 0))))] s.heap := hP
  refine lv_aload_n hx hb d_Ref_cube_0 rfl (lv_at hl 0 rfl) ?_
  refine lv_aload_n hx hb d_Ref_cube_1 rfl (lv_at hl 0 rfl) ?_
  refine va_get (D := (dC, dI)) (ci := 8) (v := .int 0) (C := R_Ref) (T := F_Ref) (N := 25) hx hb hts i_Ref hown hK hP 0 rfl rfl 6 (by decide) (hts _ mw_fl_Ref_72) (fun _ h9 => h9) rfl d_Ref_cube_2 ?_
  refine lv_bipush (v := 24) hx hb d_Ref_cube_5 (by decide) ?_
  refine lv_icmp_ne (tgt := 14) hx hb d_Ref_cube_7 (by decide) (fun c_7 => ?_) (fun c_7 => ?_)
  · refine lv_iconst (v := 0) hx hb d_Ref_cube_14 (by decide) ?_
    refine va_put (D := (dC, dI)) (ci := 8) (v := .int 0) (ty := .int) (C := R_Ref) (T := F_Ref) (N := 25) hx hb hts i_Ref t_Ref t_Ref_ok n_Ref hown hK hP hD hS 0 rfl rfl 0 (by decide) (hts _ mw_fl_Ref_65) (fun _ h9 => h9) rfl (by decide +kernel) rfl rfl (Nat.le_of_ble_eq_true rfl) d_Ref_cube_15 (fun H locs hP hD hS => ?_)
    have hP : va_P (dC, dI) classes [(r0, .inr (8, [.int 0, .int ((nI N)), .int ((nI OU)), .int ((nI Z)), .ref r1, .ref r2, .int 0, .ref r3, .ref r4, .ref r5, .ref r6, .ref r7, .ref r8, .int 0, .ref r9, .int 0, .ref r10, .ref r11, .int 0, .ref r12, .int 0, .ref r13, .ref r14, .int bst, .ref r15])), (r1, .inl (cI, 96, .inl ((fun _ => 0)))), (r2, .inl (cI, 48, .inl ((fun _ => 0))))] H := hP
    have hD : va_D A [(r0, .inr (8, [.int 0, .int ((nI N)), .int ((nI OU)), .int ((nI Z)), .ref r1, .ref r2, .int 0, .ref r3, .ref r4, .ref r5, .ref r6, .ref r7, .ref r8, .int 0, .ref r9, .int 0, .ref r10, .ref r11, .int 0, .ref r12, .int 0, .ref r13, .ref r14, .int bst, .ref r15])), (r1, .inl (cI, 96, .inl ((fun _ => 0)))), (r2, .inl (cI, 48, .inl ((fun _ => 0))))] := hD
    refine lv_aload_n hx hb d_Ref_cube_18 rfl (lv_at hl 0 rfl) ?_
    refine va_get (D := (dC, dI)) (ci := 8) (v := .int 0) (C := R_Ref) (T := F_Ref) (N := 25) hx hb hts i_Ref hown hK hP 0 rfl rfl 0 (by decide) (hts _ mw_fl_Ref_65) (fun _ h9 => h9) rfl d_Ref_cube_19 ?_
    refine lv_if_le (tgt := 27) hx hb d_Ref_cube_22 (by decide) (fun c_22 => ?_) (fun c_22 => ?_)
    · refine lv_iconst (v := 0) hx hb d_Ref_cube_27 (by decide) ?_
      refine lv_istore_n (lv' := [(1, .int 0), (0, .ref r0)]) hx hb d_Ref_cube_28 rfl hl (by decide) rfl (fun ls hl => ?_)
      refine lpf_Ref_cube l dC dI cI cJ r0 th N OU Z r1 r2 r3 r4 r5 r6 r7 r8 r9 r10 r11 r12 r13 r14 bst r15    hx hb hts hown hml hK hA (fun H locs ls hP hD hS hl => ?_) (4 + 1) 0 (by omega) (Nat.zero_le _) _ _ ls (hP.sub [0, 1, 2] rfl) (hD.sub [0, 1, 2] (by decide) rfl) hS (lv_sub hl [1, 0] rfl)
      have hP : va_P (dC, dI) classes [(r0, .inr (8, [.int 0, .int ((nI N)), .int ((nI OU)), .int ((nI Z)), .ref r1, .ref r2, .int 0, .ref r3, .ref r4, .ref r5, .ref r6, .ref r7, .ref r8, .int 0, .ref r9, .int 0, .ref r10, .ref r11, .int 0, .ref r12, .int 0, .ref r13, .ref r14, .int bst, .ref r15])), (r2, .inl (cI, 48, .inl ((fun _ => 0))))] H := hP
      have hD : va_D A [(r0, .inr (8, [.int 0, .int ((nI N)), .int ((nI OU)), .int ((nI Z)), .ref r1, .ref r2, .int 0, .ref r3, .ref r4, .ref r5, .ref r6, .ref r7, .ref r8, .int 0, .ref r9, .int 0, .ref r10, .ref r11, .int 0, .ref r12, .int 0, .ref r13, .ref r14, .int bst, .ref r15])), (r2, .inl (cI, 48, .inl ((fun _ => 0))))] := hD
      have hl : lv_has ls 2 [(0, .ref r0)] := hl
      refine lv_aload_n hx hb d_Ref_cube_54 rfl (lv_at hl 0 rfl) ?_
      refine va_get (D := (dC, dI)) (ci := 8) (v := .ref r2) (C := R_Ref) (T := F_Ref) (N := 25) hx hb hts i_Ref hown hK hP 0 rfl rfl 5 (by decide) (hts _ mw_fl_Ref_13) (fun _ h9 => h9) rfl d_Ref_cube_55 ?_
      refine lv_iconst (v := 2) hx hb d_Ref_cube_58 (by decide) ?_
      refine lv_aload_n hx hb d_Ref_cube_59 rfl (lv_at hl 0 rfl) ?_
      refine va_get (D := (dC, dI)) (ci := 8) (v := .int 0) (C := R_Ref) (T := F_Ref) (N := 25) hx hb hts i_Ref hown hK hP 0 rfl rfl 6 (by decide) (hts _ mw_fl_Ref_72) (fun _ h9 => h9) rfl d_Ref_cube_60 ?_
      refine lv_imul hx hb d_Ref_cube_63 ?_
      refine lv_iconst (v := 0) hx hb d_Ref_cube_64 (by decide) ?_
      refine va_iast hx hb hK hP hD hS 1 0 rfl rfl (vp_in_nI (n := 0) (N := 48) (by omega) (by omega)) d_Ref_cube_65 (fun H locs hP hD hS => ?_)
      have hP : va_P (dC, dI) classes [(r0, .inr (8, [.int 0, .int ((nI N)), .int ((nI OU)), .int ((nI Z)), .ref r1, .ref r2, .int 0, .ref r3, .ref r4, .ref r5, .ref r6, .ref r7, .ref r8, .int 0, .ref r9, .int 0, .ref r10, .ref r11, .int 0, .ref r12, .int 0, .ref r13, .ref r14, .int bst, .ref r15])), (r2, .inl (cI, 48, .inl ((upd ((fun _ => 0)) (2 * 0 : Int32).toNatClampNeg 0))))] H := hP
      have hD : va_D A [(r0, .inr (8, [.int 0, .int ((nI N)), .int ((nI OU)), .int ((nI Z)), .ref r1, .ref r2, .int 0, .ref r3, .ref r4, .ref r5, .ref r6, .ref r7, .ref r8, .int 0, .ref r9, .int 0, .ref r10, .ref r11, .int 0, .ref r12, .int 0, .ref r13, .ref r14, .int bst, .ref r15])), (r2, .inl (cI, 48, .inl ((upd ((fun _ => 0)) (2 * 0 : Int32).toNatClampNeg 0))))] := hD
      rw [show upd ((fun _ => 0)) (2 * 0 : Int32).toNatClampNeg 0 = (fun _ => 0) from upd_id rfl] at hP hD
      have hP : va_P (dC, dI) classes [(r0, .inr (8, [.int 0, .int ((nI N)), .int ((nI OU)), .int ((nI Z)), .ref r1, .ref r2, .int 0, .ref r3, .ref r4, .ref r5, .ref r6, .ref r7, .ref r8, .int 0, .ref r9, .int 0, .ref r10, .ref r11, .int 0, .ref r12, .int 0, .ref r13, .ref r14, .int bst, .ref r15])), (r2, .inl (cI, 48, .inl ((fun _ => 0))))] H := hP
      have hD : va_D A [(r0, .inr (8, [.int 0, .int ((nI N)), .int ((nI OU)), .int ((nI Z)), .ref r1, .ref r2, .int 0, .ref r3, .ref r4, .ref r5, .ref r6, .ref r7, .ref r8, .int 0, .ref r9, .int 0, .ref r10, .ref r11, .int 0, .ref r12, .int 0, .ref r13, .ref r14, .int bst, .ref r15])), (r2, .inl (cI, 48, .inl ((fun _ => 0))))] := hD
      refine lv_aload_n hx hb d_Ref_cube_66 rfl (lv_at hl 0 rfl) ?_
      refine va_get (D := (dC, dI)) (ci := 8) (v := .ref r2) (C := R_Ref) (T := F_Ref) (N := 25) hx hb hts i_Ref hown hK hP 0 rfl rfl 5 (by decide) (hts _ mw_fl_Ref_13) (fun _ h9 => h9) rfl d_Ref_cube_67 ?_
      refine lv_iconst (v := 2) hx hb d_Ref_cube_70 (by decide) ?_
      refine lv_aload_n hx hb d_Ref_cube_71 rfl (lv_at hl 0 rfl) ?_
      refine va_get (D := (dC, dI)) (ci := 8) (v := .int 0) (C := R_Ref) (T := F_Ref) (N := 25) hx hb hts i_Ref hown hK hP 0 rfl rfl 6 (by decide) (hts _ mw_fl_Ref_72) (fun _ h9 => h9) rfl d_Ref_cube_72 ?_
      refine lv_imul hx hb d_Ref_cube_75 ?_
      refine lv_iconst (v := 1) hx hb d_Ref_cube_76 (by decide) ?_
      refine lv_iadd hx hb d_Ref_cube_77 ?_
      refine lv_iconst (v := 0) hx hb d_Ref_cube_78 (by decide) ?_
      refine va_iast hx hb hK hP hD hS 1 0 rfl rfl (vp_in_nI (n := 1) (N := 48) (by omega) (by omega)) d_Ref_cube_79 (fun H locs hP hD hS => ?_)
      have hP : va_P (dC, dI) classes [(r0, .inr (8, [.int 0, .int ((nI N)), .int ((nI OU)), .int ((nI Z)), .ref r1, .ref r2, .int 0, .ref r3, .ref r4, .ref r5, .ref r6, .ref r7, .ref r8, .int 0, .ref r9, .int 0, .ref r10, .ref r11, .int 0, .ref r12, .int 0, .ref r13, .ref r14, .int bst, .ref r15])), (r2, .inl (cI, 48, .inl ((upd ((fun _ => 0)) ((2 * 0) + 1 : Int32).toNatClampNeg 0))))] H := hP
      have hD : va_D A [(r0, .inr (8, [.int 0, .int ((nI N)), .int ((nI OU)), .int ((nI Z)), .ref r1, .ref r2, .int 0, .ref r3, .ref r4, .ref r5, .ref r6, .ref r7, .ref r8, .int 0, .ref r9, .int 0, .ref r10, .ref r11, .int 0, .ref r12, .int 0, .ref r13, .ref r14, .int bst, .ref r15])), (r2, .inl (cI, 48, .inl ((upd ((fun _ => 0)) ((2 * 0) + 1 : Int32).toNatClampNeg 0))))] := hD
      rw [show upd ((fun _ => 0)) ((2 * 0) + 1 : Int32).toNatClampNeg 0 = (fun _ => 0) from upd_id rfl] at hP hD
      have hP : va_P (dC, dI) classes [(r0, .inr (8, [.int 0, .int ((nI N)), .int ((nI OU)), .int ((nI Z)), .ref r1, .ref r2, .int 0, .ref r3, .ref r4, .ref r5, .ref r6, .ref r7, .ref r8, .int 0, .ref r9, .int 0, .ref r10, .ref r11, .int 0, .ref r12, .int 0, .ref r13, .ref r14, .int bst, .ref r15])), (r2, .inl (cI, 48, .inl ((fun _ => 0))))] H := hP
      have hD : va_D A [(r0, .inr (8, [.int 0, .int ((nI N)), .int ((nI OU)), .int ((nI Z)), .ref r1, .ref r2, .int 0, .ref r3, .ref r4, .ref r5, .ref r6, .ref r7, .ref r8, .int 0, .ref r9, .int 0, .ref r10, .ref r11, .int 0, .ref r12, .int 0, .ref r13, .ref r14, .int bst, .ref r15])), (r2, .inl (cI, 48, .inl ((fun _ => 0))))] := hD
      refine lv_aload_n hx hb d_Ref_cube_80 rfl (lv_at hl 0 rfl) ?_
      refine lv_dup hx hb d_Ref_cube_81 rfl ?_
      refine va_get (D := (dC, dI)) (ci := 8) (v := .int 0) (C := R_Ref) (T := F_Ref) (N := 25) hx hb hts i_Ref hown hK hP 0 rfl rfl 6 (by decide) (hts _ mw_fl_Ref_72) (fun _ h9 => h9) rfl d_Ref_cube_82 ?_
      refine lv_iconst (v := 1) hx hb d_Ref_cube_85 (by decide) ?_
      refine lv_iadd hx hb d_Ref_cube_86 ?_
      refine va_put (D := (dC, dI)) (ci := 8) (v := .int ((0 + 1))) (ty := .int) (C := R_Ref) (T := F_Ref) (N := 25) hx hb hts i_Ref t_Ref t_Ref_ok n_Ref hown hK hP hD hS 0 rfl rfl 6 (by decide) (hts _ mw_fl_Ref_72) (fun _ h9 => h9) rfl (by decide +kernel) rfl rfl (Nat.le_of_ble_eq_true rfl) d_Ref_cube_87 (fun H locs hP hD hS => ?_)
      have hP : va_P (dC, dI) classes [(r0, .inr (8, [.int 0, .int ((nI N)), .int ((nI OU)), .int ((nI Z)), .ref r1, .ref r2, .int ((0 + 1)), .ref r3, .ref r4, .ref r5, .ref r6, .ref r7, .ref r8, .int 0, .ref r9, .int 0, .ref r10, .ref r11, .int 0, .ref r12, .int 0, .ref r13, .ref r14, .int bst, .ref r15])), (r2, .inl (cI, 48, .inl ((fun _ => 0))))] H := hP
      have hD : va_D A [(r0, .inr (8, [.int 0, .int ((nI N)), .int ((nI OU)), .int ((nI Z)), .ref r1, .ref r2, .int ((0 + 1)), .ref r3, .ref r4, .ref r5, .ref r6, .ref r7, .ref r8, .int 0, .ref r9, .int 0, .ref r10, .ref r11, .int 0, .ref r12, .int 0, .ref r13, .ref r14, .int bst, .ref r15])), (r2, .inl (cI, 48, .inl ((fun _ => 0))))] := hD
      refine lv_aload_n hx hb d_Ref_cube_90 rfl (lv_at hl 0 rfl) ?_
      refine va_get (D := (dC, dI)) (ci := 8) (v := .int ((0 + 1))) (C := R_Ref) (T := F_Ref) (N := 25) hx hb hts i_Ref hown hK hP 0 rfl rfl 6 (by decide) (hts _ mw_fl_Ref_72) (fun _ h9 => h9) rfl d_Ref_cube_91 ?_
      refine lv_iconst (v := 1) hx hb d_Ref_cube_94 (by decide) ?_
      refine lv_isub hx hb d_Ref_cube_95 ?_
      have hP9 := hP.sub (ws' := [(r0, .inr (8, [.int 0, .int ((nI N)), .int ((nI OU)), .int ((nI Z)), .ref r1, .ref r2, .int 1, .ref r3, .ref r4, .ref r5, .ref r6, .ref r7, .ref r8, .int 0, .ref r9, .int 0, .ref r10, .ref r11, .int 0, .ref r12, .int 0, .ref r13, .ref r14, .int bst, .ref r15]))]) [0] rfl
      have hD9 := hD.sub (ws' := [(r0, .inr (8, [.int 0, .int ((nI N)), .int ((nI OU)), .int ((nI Z)), .ref r1, .ref r2, .int 1, .ref r3, .ref r4, .ref r5, .ref r6, .ref r7, .ref r8, .int 0, .ref r9, .int 0, .ref r10, .ref r11, .int 0, .ref r12, .int 0, .ref r13, .ref r14, .int bst, .ref r15]))]) [0] (by decide) rfl
      exact W.iret (v := ((0 + 1) - 1)) hx hb hr (fun t ht hW => ⟨⟨((0 + 1) - 1), (), rfl, by decide +kernel, by rw [ht]; exact hP9, va_K.moved hW.alike hK, hD9⟩, hS.F ht⟩) hS.2.2 d_Ref_cube_96
    · exact absurd c_22 (by decide +kernel)
  · exact absurd c_7 (by decide +kernel)
set_option maxHeartbeats 1000000 in
set_option maxRecDepth 100000 in
theorem c_Ref_at (l : Launch) (dC : Nat → ClassId) (dI : Nat → Nat → Nat) (cI cJ : ClassId) (sz0 : Nat) (r0 : Nat) (th : Int32) (N : Nat) (OU : Nat) (Z : Nat) (r1 : Nat) (r2 : Nat) (r3 : Nat) (r4 : Nat) (r5 : Nat) (r6 : Nat) (r7 : Nat) (r8 : Nat) (r9 : Nat) (r10 : Nat) (r11 : Nat) (r12 : Nat) (r13 : Nat) (r14 : Nat) (bst : Int32) (r15 : Nat) (x : Int32) (y : Int32) : Met l y_Ref_at (ct y_Ref_at b_Ref_at 3 (some .int)) ({ frames := 1, cells := 0, slots := 0, locals := 24 }) (va_Pc [.ref r0, .int x, .int y] (fun U => U.heap.size = sz0 ∧ va_P (dC, dI) classes [(r0, .inr (8, [.int th, .int ((nI N)), .int ((nI OU)), .int ((nI Z)), .ref r1, .ref r2, .int 0, .ref r3, .ref r4, .ref r5, .ref r6, .ref r7, .ref r8, .int 0, .ref r9, .int 0, .ref r10, .ref r11, .int 0, .ref r12, .int 0, .ref r13, .ref r14, .int bst, .ref r15]))] U.heap ∧ va_K (dC, dI) classes [(cI, .int), (cJ, .long)] U ∧ va_D (fun _ => True) [(r0, .inr (8, [.int th, .int ((nI N)), .int ((nI OU)), .int ((nI Z)), .ref r1, .ref r2, .int 0, .ref r3, .ref r4, .ref r5, .ref r6, .ref r7, .ref r8, .int 0, .ref r9, .int 0, .ref r10, .ref r11, .int 0, .ref r12, .int 0, .ref r13, .ref r14, .int bst, .ref r15]))])) (va_Qi (fun (r : Int32) (_ : Unit) => r = 0) (fun _ => at_w dC dI cI cJ (va_A [(r0, .inr (8, [.int th, .int ((nI N)), .int ((nI OU)), .int ((nI Z)), .ref r1, .ref r2, .int 0, .ref r3, .ref r4, .ref r5, .ref r6, .ref r7, .ref r8, .int 0, .ref r9, .int 0, .ref r10, .ref r11, .int 0, .ref r12, .int 0, .ref r13, .ref r14, .int bst, .ref r15]))] sz0) [(r0, .inr (8, [.int 1, .int ((nI N)), .int ((nI OU)), .int ((nI Z)), .ref r1, .ref r2, .int 0, .ref r3, .ref r4, .ref r5, .ref r6, .ref r7, .ref r8, .int 0, .ref r9, .int 0, .ref r10, .ref r11, .int 0, .ref r12, .int 0, .ref r13, .ref r14, .int bst, .ref r15]))]) (va_A [(r0, .inr (8, [.int th, .int ((nI N)), .int ((nI OU)), .int ((nI Z)), .ref r1, .ref r2, .int 0, .ref r3, .ref r4, .ref r5, .ref r6, .ref r7, .ref r8, .int 0, .ref r9, .int 0, .ref r10, .ref r11, .int 0, .ref r12, .int 0, .ref r13, .ref r14, .int bst, .ref r15]))] sz0)) 0 0 (va_A [(r0, .inr (8, [.int th, .int ((nI N)), .int ((nI OU)), .int ((nI Z)), .ref r1, .ref r2, .int 0, .ref r3, .ref r4, .ref r5, .ref r6, .ref r7, .ref r8, .int 0, .ref r9, .int 0, .ref r10, .ref r11, .int 0, .ref r12, .int 0, .ref r13, .ref r14, .int bst, .ref r15]))] sz0) := by
  refine Met.ofW (cc := b_Ref_at) (maxL := 3) (ret := some .int) (by decide) rfl ?_
  intro p e s m args below meth c s₁ B hml hv
  obtain ⟨rfl, hsz, hP, hK, hD0⟩ := hv
  have hx := B.exec
  have hb := B.bytes
  have hr := B.returns
  have hts : ∀ w ∈ lwg, w.before _ s = true := fun w h => atoms_spec (ws := ct y_Ref_at b_Ref_at 3 (some .int)) B.pre w (List.mem_cons_of_mem _ h)
  have hown : s.vm.findClass R_Ref = some m.cls := findClass_of_methodNamed B.named
  have hlocks := B.notSynchronized
  subst hsz
  have hD := hD0.self (sz := s.heap.size)
  generalize hAe : va_A [(r0, .inr (8, [.int th, .int ((nI N)), .int ((nI OU)), .int ((nI Z)), .ref r1, .ref r2, .int 0, .ref r3, .ref r4, .ref r5, .ref r6, .ref r7, .ref r8, .int 0, .ref r9, .int 0, .ref r10, .ref r11, .int 0, .ref r12, .int 0, .ref r13, .ref r14, .int bst, .ref r15]))] s.heap.size = A at hD ⊢
  have hA : ∀ q : Nat, s.heap.size ≤ q → A q := fun q h => by rw [← hAe]; exact Or.inr h
  have hS : va_S A s.heap s.heap [] := va_S.rf
  have hl := lv_entry ([.ref r0, .int x, .int y]) (n := 3) (Nat.le_of_ble_eq_true rfl)
  rw [lg_entry_eq]
  generalize (lg_sl ([.ref r0, .int x, .int y]) ++ List.replicate (3 - (lg_sl ([.ref r0, .int x, .int y])).length) Slot.unset).toArray = ls at hl ⊢
  have hl : lv_has ls 3 [(0, .ref r0), (1, .int x), (2, .int y)] := hl
  have hP : va_P (dC, dI) classes [(r0, .inr (8, [.int th, .int ((nI N)), .int ((nI OU)), .int ((nI Z)), .ref r1, .ref r2, .int 0, .ref r3, .ref r4, .ref r5, .ref r6, .ref r7, .ref r8, .int 0, .ref r9, .int 0, .ref r10, .ref r11, .int 0, .ref r12, .int 0, .ref r13, .ref r14, .int bst, .ref r15]))] s.heap := hP
  refine lv_aload_n hx hb d_Ref_at_0 rfl (lv_at hl 0 rfl) ?_
  refine lv_aload_n hx hb d_Ref_at_1 rfl (lv_at hl 0 rfl) ?_
  refine va_get (D := (dC, dI)) (ci := 8) (v := .int 0) (C := R_Ref) (T := F_Ref) (N := 25) hx hb hts i_Ref hown hK hP 0 rfl rfl 15 (by decide) (hts _ mw_fl_Ref_113) (fun _ h9 => h9) rfl d_Ref_at_2 ?_
  refine lv_if_ne (tgt := 12) hx hb d_Ref_at_5 (by decide) (fun c_5 => ?_) (fun c_5 => ?_)
  · exact absurd c_5 (by decide +kernel)
  · refine lv_iconst (v := 1) hx hb d_Ref_at_8 (by decide) ?_
    refine lv_goto (tgt := 46) hx hb d_Ref_at_9 (by decide) ?_
    refine va_put (D := (dC, dI)) (ci := 8) (v := .int 1) (ty := .int) (C := R_Ref) (T := F_Ref) (N := 25) hx hb hts i_Ref t_Ref t_Ref_ok n_Ref hown hK hP hD hS 0 rfl rfl 0 (by decide) (hts _ mw_fl_Ref_65) (fun _ h9 => h9) rfl (by decide +kernel) rfl rfl (Nat.le_of_ble_eq_true rfl) d_Ref_at_46 (fun H locs hP hD hS => ?_)
    have hP : va_P (dC, dI) classes [(r0, .inr (8, [.int 1, .int ((nI N)), .int ((nI OU)), .int ((nI Z)), .ref r1, .ref r2, .int 0, .ref r3, .ref r4, .ref r5, .ref r6, .ref r7, .ref r8, .int 0, .ref r9, .int 0, .ref r10, .ref r11, .int 0, .ref r12, .int 0, .ref r13, .ref r14, .int bst, .ref r15]))] H := hP
    have hD : va_D A [(r0, .inr (8, [.int 1, .int ((nI N)), .int ((nI OU)), .int ((nI Z)), .ref r1, .ref r2, .int 0, .ref r3, .ref r4, .ref r5, .ref r6, .ref r7, .ref r8, .int 0, .ref r9, .int 0, .ref r10, .ref r11, .int 0, .ref r12, .int 0, .ref r13, .ref r14, .int bst, .ref r15]))] := hD
    refine lv_aload_n hx hb d_Ref_at_49 rfl (lv_at hl 0 rfl) ?_
    refine va_get (D := (dC, dI)) (ci := 8) (v := .int 1) (C := R_Ref) (T := F_Ref) (N := 25) hx hb hts i_Ref hown hK hP 0 rfl rfl 0 (by decide) (hts _ mw_fl_Ref_65) (fun _ h9 => h9) rfl d_Ref_at_50 ?_
    refine lv_if_le (tgt := 58) hx hb d_Ref_at_53 (by decide) (fun c_53 => ?_) (fun c_53 => ?_)
    · exact absurd c_53 (by decide +kernel)
    · refine lv_iconst (v := 0) hx hb d_Ref_at_56 (by decide) ?_
      have hP9 := hP.sub (ws' := [(r0, .inr (8, [.int 1, .int ((nI N)), .int ((nI OU)), .int ((nI Z)), .ref r1, .ref r2, .int 0, .ref r3, .ref r4, .ref r5, .ref r6, .ref r7, .ref r8, .int 0, .ref r9, .int 0, .ref r10, .ref r11, .int 0, .ref r12, .int 0, .ref r13, .ref r14, .int bst, .ref r15]))]) [0] rfl
      have hD9 := hD.sub (ws' := [(r0, .inr (8, [.int 1, .int ((nI N)), .int ((nI OU)), .int ((nI Z)), .ref r1, .ref r2, .int 0, .ref r3, .ref r4, .ref r5, .ref r6, .ref r7, .ref r8, .int 0, .ref r9, .int 0, .ref r10, .ref r11, .int 0, .ref r12, .int 0, .ref r13, .ref r14, .int bst, .ref r15]))]) [0] (by decide) rfl
      exact W.iret (v := 0) hx hb hr (fun t ht hW => ⟨⟨0, (), rfl, rfl, by rw [ht]; exact hP9, va_K.moved hW.alike hK, hD9⟩, hS.F ht⟩) hS.2.2 d_Ref_at_57
set_option maxHeartbeats 1000000 in
set_option maxRecDepth 100000 in
theorem c_Ref_cost (l : Launch) (dC : Nat → ClassId) (dI : Nat → Nat → Nat) (cI cJ : ClassId) (sz0 : Nat) (r0 : Nat) (th : Int32) (N : Nat) (OU : Nat) (Z : Nat) (r1 : Nat) (r2 : Nat) (r3 : Nat) (r4 : Nat) (r5 : Nat) (r6 : Nat) (r7 : Nat) (r8 : Nat) (r9 : Nat) (r10 : Nat) (r11 : Nat) (r12 : Nat) (r13 : Nat) (r14 : Nat) (bst : Int32) (r15 : Nat) : Met l y_Ref_cost (ct y_Ref_cost b_Ref_cost 3 (some .long)) ({ frames := 2, cells := 0, slots := 0, locals := 48 }) (va_Pc [.ref r0] (fun U => U.heap.size = sz0 ∧ va_P (dC, dI) classes [(r0, .inr (8, [.int th, .int ((nI N)), .int ((nI OU)), .int ((nI Z)), .ref r1, .ref r2, .int 0, .ref r3, .ref r4, .ref r5, .ref r6, .ref r7, .ref r8, .int 0, .ref r9, .int 0, .ref r10, .ref r11, .int 0, .ref r12, .int 0, .ref r13, .ref r14, .int bst, .ref r15]))] U.heap ∧ va_K (dC, dI) classes [(cI, .int), (cJ, .long)] U ∧ va_D (fun _ => True) [(r0, .inr (8, [.int th, .int ((nI N)), .int ((nI OU)), .int ((nI Z)), .ref r1, .ref r2, .int 0, .ref r3, .ref r4, .ref r5, .ref r6, .ref r7, .ref r8, .int 0, .ref r9, .int 0, .ref r10, .ref r11, .int 0, .ref r12, .int 0, .ref r13, .ref r14, .int bst, .ref r15]))])) (va_Ql (fun (r : Int64) (_ : Unit) => r = (0 : Int32).toInt64) (fun _ => at_w dC dI cI cJ (va_A [(r0, .inr (8, [.int th, .int ((nI N)), .int ((nI OU)), .int ((nI Z)), .ref r1, .ref r2, .int 0, .ref r3, .ref r4, .ref r5, .ref r6, .ref r7, .ref r8, .int 0, .ref r9, .int 0, .ref r10, .ref r11, .int 0, .ref r12, .int 0, .ref r13, .ref r14, .int bst, .ref r15]))] sz0) [(r0, .inr (8, [.int 1, .int ((nI N)), .int ((nI OU)), .int ((nI Z)), .ref r1, .ref r2, .int 0, .ref r3, .ref r4, .ref r5, .ref r6, .ref r7, .ref r8, .int 0, .ref r9, .int 0, .ref r10, .ref r11, .int 0, .ref r12, .int 0, .ref r13, .ref r14, .int bst, .ref r15]))]) (va_A [(r0, .inr (8, [.int th, .int ((nI N)), .int ((nI OU)), .int ((nI Z)), .ref r1, .ref r2, .int 0, .ref r3, .ref r4, .ref r5, .ref r6, .ref r7, .ref r8, .int 0, .ref r9, .int 0, .ref r10, .ref r11, .int 0, .ref r12, .int 0, .ref r13, .ref r14, .int bst, .ref r15]))] sz0)) 0 0 (va_A [(r0, .inr (8, [.int th, .int ((nI N)), .int ((nI OU)), .int ((nI Z)), .ref r1, .ref r2, .int 0, .ref r3, .ref r4, .ref r5, .ref r6, .ref r7, .ref r8, .int 0, .ref r9, .int 0, .ref r10, .ref r11, .int 0, .ref r12, .int 0, .ref r13, .ref r14, .int bst, .ref r15]))] sz0) := by
  refine Met.ofW (cc := b_Ref_cost) (maxL := 3) (ret := some .long) (by decide) rfl ?_
  intro p e s m args below meth c s₁ B hml hv
  obtain ⟨rfl, hsz, hP, hK, hD0⟩ := hv
  have hx := B.exec
  have hb := B.bytes
  have hr := B.returns
  have hts : ∀ w ∈ lwg, w.before _ s = true := fun w h => atoms_spec (ws := ct y_Ref_cost b_Ref_cost 3 (some .long)) B.pre w (List.mem_cons_of_mem _ h)
  have hown : s.vm.findClass R_Ref = some m.cls := findClass_of_methodNamed B.named
  have hlocks := B.notSynchronized
  subst hsz
  have hD := hD0.self (sz := s.heap.size)
  generalize hAe : va_A [(r0, .inr (8, [.int th, .int ((nI N)), .int ((nI OU)), .int ((nI Z)), .ref r1, .ref r2, .int 0, .ref r3, .ref r4, .ref r5, .ref r6, .ref r7, .ref r8, .int 0, .ref r9, .int 0, .ref r10, .ref r11, .int 0, .ref r12, .int 0, .ref r13, .ref r14, .int bst, .ref r15]))] s.heap.size = A at hD ⊢
  have hA : ∀ q : Nat, s.heap.size ≤ q → A q := fun q h => by rw [← hAe]; exact Or.inr h
  have hS : va_S A s.heap s.heap [] := va_S.rf
  have hl := lv_entry ([.ref r0]) (n := 3) (Nat.le_of_ble_eq_true rfl)
  rw [lg_entry_eq]
  generalize (lg_sl ([.ref r0]) ++ List.replicate (3 - (lg_sl ([.ref r0])).length) Slot.unset).toArray = ls at hl ⊢
  have hl : lv_has ls 3 [(0, .ref r0)] := hl
  have hP : va_P (dC, dI) classes [(r0, .inr (8, [.int th, .int ((nI N)), .int ((nI OU)), .int ((nI Z)), .ref r1, .ref r2, .int 0, .ref r3, .ref r4, .ref r5, .ref r6, .ref r7, .ref r8, .int 0, .ref r9, .int 0, .ref r10, .ref r11, .int 0, .ref r12, .int 0, .ref r13, .ref r14, .int bst, .ref r15]))] s.heap := hP
  refine lv_aload_n hx hb d_Ref_cost_0 rfl (lv_at hl 0 rfl) ?_
  refine lv_aload_n hx hb d_Ref_cost_1 rfl (lv_at hl 0 rfl) ?_
  refine va_get (D := (dC, dI)) (ci := 8) (v := .int 0) (C := R_Ref) (T := F_Ref) (N := 25) hx hb hts i_Ref hown hK hP 0 rfl rfl 15 (by decide) (hts _ mw_fl_Ref_113) (fun _ h9 => h9) rfl d_Ref_cost_2 ?_
  refine lv_if_eq (tgt := 12) hx hb d_Ref_cost_5 (by decide) (fun c_5 => ?_) (fun c_5 => ?_)
  · refine lv_iconst (v := 1) hx hb d_Ref_cost_12 (by decide) ?_
    refine va_put (D := (dC, dI)) (ci := 8) (v := .int 1) (ty := .int) (C := R_Ref) (T := F_Ref) (N := 25) hx hb hts i_Ref t_Ref t_Ref_ok n_Ref hown hK hP hD hS 0 rfl rfl 0 (by decide) (hts _ mw_fl_Ref_65) (fun _ h9 => h9) rfl (by decide +kernel) rfl rfl (Nat.le_of_ble_eq_true rfl) d_Ref_cost_13 (fun H locs hP hD hS => ?_)
    have hP : va_P (dC, dI) classes [(r0, .inr (8, [.int 1, .int ((nI N)), .int ((nI OU)), .int ((nI Z)), .ref r1, .ref r2, .int 0, .ref r3, .ref r4, .ref r5, .ref r6, .ref r7, .ref r8, .int 0, .ref r9, .int 0, .ref r10, .ref r11, .int 0, .ref r12, .int 0, .ref r13, .ref r14, .int bst, .ref r15]))] H := hP
    have hD : va_D A [(r0, .inr (8, [.int 1, .int ((nI N)), .int ((nI OU)), .int ((nI Z)), .ref r1, .ref r2, .int 0, .ref r3, .ref r4, .ref r5, .ref r6, .ref r7, .ref r8, .int 0, .ref r9, .int 0, .ref r10, .ref r11, .int 0, .ref r12, .int 0, .ref r13, .ref r14, .int bst, .ref r15]))] := hD
    refine lv_iconst (v := 0) hx hb d_Ref_cost_16 (by decide) ?_
    refine lv_istore_n (lv' := [(1, .int 0), (0, .ref r0)]) hx hb d_Ref_cost_17 rfl hl (by decide) rfl (fun ls hl => ?_)
    refine lv_iconst (v := 0) hx hb d_Ref_cost_18 (by decide) ?_
    refine lv_istore_n (lv' := [(2, .int 0), (1, .int 0), (0, .ref r0)]) hx hb d_Ref_cost_19 rfl hl (by decide) rfl (fun ls hl => ?_)
    refine lv_iload_n hx hb d_Ref_cost_20 rfl (lv_at hl 0 rfl) ?_
    refine lv_aload_n hx hb d_Ref_cost_21 rfl (lv_at hl 2 rfl) ?_
    refine va_get (D := (dC, dI)) (ci := 8) (v := .int 0) (C := R_Ref) (T := F_Ref) (N := 25) hx hb hts i_Ref hown hK hP 0 rfl rfl 18 (by decide) (hts _ mw_fl_Ref_110) (fun _ h9 => h9) rfl d_Ref_cost_22 ?_
    refine lv_icmp_ge (tgt := 60) hx hb d_Ref_cost_25 (by decide) (fun c_25 => ?_) (fun c_25 => ?_)
    · refine lv_iload_n hx hb d_Ref_cost_60 rfl (lv_at hl 1 rfl) ?_
      refine lv_i2l hx hb d_Ref_cost_61 rfl ?_
      have hP9 := hP.sub (ws' := [(r0, .inr (8, [.int 1, .int ((nI N)), .int ((nI OU)), .int ((nI Z)), .ref r1, .ref r2, .int 0, .ref r3, .ref r4, .ref r5, .ref r6, .ref r7, .ref r8, .int 0, .ref r9, .int 0, .ref r10, .ref r11, .int 0, .ref r12, .int 0, .ref r13, .ref r14, .int bst, .ref r15]))]) [0] rfl
      have hD9 := hD.sub (ws' := [(r0, .inr (8, [.int 1, .int ((nI N)), .int ((nI OU)), .int ((nI Z)), .ref r1, .ref r2, .int 0, .ref r3, .ref r4, .ref r5, .ref r6, .ref r7, .ref r8, .int 0, .ref r9, .int 0, .ref r10, .ref r11, .int 0, .ref r12, .int 0, .ref r13, .ref r14, .int bst, .ref r15]))]) [0] (by decide) rfl
      exact W.lret (v := (0 : Int32).toInt64) hx hb hr (fun t ht hW => ⟨⟨(0 : Int32).toInt64, (), rfl, rfl, by rw [ht]; exact hP9, va_K.moved hW.alike hK, hD9⟩, hS.F ht⟩) hS.2.2 d_Ref_cost_62
    · exact absurd c_25 (by decide +kernel)
  · exact absurd c_5 (by decide +kernel)
set_option maxHeartbeats 1000000 in
set_option maxRecDepth 100000 in
theorem c_Ref_kernels (l : Launch) (dC : Nat → ClassId) (dI : Nat → Nat → Nat) (cI cJ : ClassId) (sz0 : Nat) (r0 : Nat) (th : Int32) (N : Nat) (OU : Nat) (Z : Nat) (r1 : Nat) (r2 : Nat) (r3 : Nat) (r4 : Nat) (r5 : Nat) (r6 : Nat) (r7 : Nat) (r8 : Nat) (r9 : Nat) (r10 : Nat) (r11 : Nat) (r12 : Nat) (r13 : Nat) (r14 : Nat) (bst : Int32) (r15 : Nat) : Met l y_Ref_kernels (ct y_Ref_kernels b_Ref_kernels 7 (some .int)) ({ frames := 4, cells := 0, slots := 0, locals := 101 }) (va_Pc [.ref r0] (fun U => U.heap.size = sz0 ∧ va_P (dC, dI) classes [(r0, .inr (8, [.int th, .int ((nI N)), .int ((nI OU)), .int ((nI Z)), .ref r1, .ref r2, .int 0, .ref r3, .ref r4, .ref r5, .ref r6, .ref r7, .ref r8, .int 0, .ref r9, .int 0, .ref r10, .ref r11, .int 0, .ref r12, .int 0, .ref r13, .ref r14, .int bst, .ref r15]))] U.heap ∧ va_K (dC, dI) classes [(cI, .int), (cJ, .long)] U ∧ va_D (fun _ => True) [(r0, .inr (8, [.int th, .int ((nI N)), .int ((nI OU)), .int ((nI Z)), .ref r1, .ref r2, .int 0, .ref r3, .ref r4, .ref r5, .ref r6, .ref r7, .ref r8, .int 0, .ref r9, .int 0, .ref r10, .ref r11, .int 0, .ref r12, .int 0, .ref r13, .ref r14, .int bst, .ref r15]))])) (va_Qi (fun (r : Int32) (_ : Unit) => r = 0) (fun _ => at_w dC dI cI cJ (va_A [(r0, .inr (8, [.int th, .int ((nI N)), .int ((nI OU)), .int ((nI Z)), .ref r1, .ref r2, .int 0, .ref r3, .ref r4, .ref r5, .ref r6, .ref r7, .ref r8, .int 0, .ref r9, .int 0, .ref r10, .ref r11, .int 0, .ref r12, .int 0, .ref r13, .ref r14, .int bst, .ref r15]))] sz0) [(r0, .inr (8, [.int 1, .int ((nI N)), .int ((nI OU)), .int ((nI Z)), .ref r1, .ref r2, .int 0, .ref r3, .ref r4, .ref r5, .ref r6, .ref r7, .ref r8, .int 0, .ref r9, .int 0, .ref r10, .ref r11, .int 0, .ref r12, .int 0, .ref r13, .ref r14, .int bst, .ref r15]))]) (va_A [(r0, .inr (8, [.int th, .int ((nI N)), .int ((nI OU)), .int ((nI Z)), .ref r1, .ref r2, .int 0, .ref r3, .ref r4, .ref r5, .ref r6, .ref r7, .ref r8, .int 0, .ref r9, .int 0, .ref r10, .ref r11, .int 0, .ref r12, .int 0, .ref r13, .ref r14, .int bst, .ref r15]))] sz0)) 0 0 (va_A [(r0, .inr (8, [.int th, .int ((nI N)), .int ((nI OU)), .int ((nI Z)), .ref r1, .ref r2, .int 0, .ref r3, .ref r4, .ref r5, .ref r6, .ref r7, .ref r8, .int 0, .ref r9, .int 0, .ref r10, .ref r11, .int 0, .ref r12, .int 0, .ref r13, .ref r14, .int bst, .ref r15]))] sz0) := by
  refine Met.ofW (cc := b_Ref_kernels) (maxL := 7) (ret := some .int) (by decide) rfl ?_
  intro p e s m args below meth c s₁ B hml hv
  obtain ⟨rfl, hsz, hP, hK, hD0⟩ := hv
  have hx := B.exec
  have hb := B.bytes
  have hr := B.returns
  have hts : ∀ w ∈ lwg, w.before _ s = true := fun w h => atoms_spec (ws := ct y_Ref_kernels b_Ref_kernels 7 (some .int)) B.pre w (List.mem_cons_of_mem _ h)
  have hown : s.vm.findClass R_Ref = some m.cls := findClass_of_methodNamed B.named
  have hlocks := B.notSynchronized
  subst hsz
  have hD := hD0.self (sz := s.heap.size)
  generalize hAe : va_A [(r0, .inr (8, [.int th, .int ((nI N)), .int ((nI OU)), .int ((nI Z)), .ref r1, .ref r2, .int 0, .ref r3, .ref r4, .ref r5, .ref r6, .ref r7, .ref r8, .int 0, .ref r9, .int 0, .ref r10, .ref r11, .int 0, .ref r12, .int 0, .ref r13, .ref r14, .int bst, .ref r15]))] s.heap.size = A at hD ⊢
  have hA : ∀ q : Nat, s.heap.size ≤ q → A q := fun q h => by rw [← hAe]; exact Or.inr h
  have hS : va_S A s.heap s.heap [] := va_S.rf
  have hl := lv_entry ([.ref r0]) (n := 7) (Nat.le_of_ble_eq_true rfl)
  rw [lg_entry_eq]
  generalize (lg_sl ([.ref r0]) ++ List.replicate (7 - (lg_sl ([.ref r0])).length) Slot.unset).toArray = ls at hl ⊢
  have hl : lv_has ls 7 [(0, .ref r0)] := hl
  have hP : va_P (dC, dI) classes [(r0, .inr (8, [.int th, .int ((nI N)), .int ((nI OU)), .int ((nI Z)), .ref r1, .ref r2, .int 0, .ref r3, .ref r4, .ref r5, .ref r6, .ref r7, .ref r8, .int 0, .ref r9, .int 0, .ref r10, .ref r11, .int 0, .ref r12, .int 0, .ref r13, .ref r14, .int bst, .ref r15]))] s.heap := hP
  refine lv_aload_n hx hb d_Ref_kernels_0 rfl (lv_at hl 0 rfl) ?_
  refine lv_aload_n hx hb d_Ref_kernels_1 rfl (lv_at hl 0 rfl) ?_
  refine va_get (D := (dC, dI)) (ci := 8) (v := .int 0) (C := R_Ref) (T := F_Ref) (N := 25) hx hb hts i_Ref hown hK hP 0 rfl rfl 15 (by decide) (hts _ mw_fl_Ref_113) (fun _ h9 => h9) rfl d_Ref_kernels_2 ?_
  refine lv_if_eq (tgt := 12) hx hb d_Ref_kernels_5 (by decide) (fun c_5 => ?_) (fun c_5 => ?_)
  · refine lv_iconst (v := 1) hx hb d_Ref_kernels_12 (by decide) ?_
    refine va_put (D := (dC, dI)) (ci := 8) (v := .int 1) (ty := .int) (C := R_Ref) (T := F_Ref) (N := 25) hx hb hts i_Ref t_Ref t_Ref_ok n_Ref hown hK hP hD hS 0 rfl rfl 0 (by decide) (hts _ mw_fl_Ref_65) (fun _ h9 => h9) rfl (by decide +kernel) rfl rfl (Nat.le_of_ble_eq_true rfl) d_Ref_kernels_13 (fun H locs hP hD hS => ?_)
    have hP : va_P (dC, dI) classes [(r0, .inr (8, [.int 1, .int ((nI N)), .int ((nI OU)), .int ((nI Z)), .ref r1, .ref r2, .int 0, .ref r3, .ref r4, .ref r5, .ref r6, .ref r7, .ref r8, .int 0, .ref r9, .int 0, .ref r10, .ref r11, .int 0, .ref r12, .int 0, .ref r13, .ref r14, .int bst, .ref r15]))] H := hP
    have hD : va_D A [(r0, .inr (8, [.int 1, .int ((nI N)), .int ((nI OU)), .int ((nI Z)), .ref r1, .ref r2, .int 0, .ref r3, .ref r4, .ref r5, .ref r6, .ref r7, .ref r8, .int 0, .ref r9, .int 0, .ref r10, .ref r11, .int 0, .ref r12, .int 0, .ref r13, .ref r14, .int bst, .ref r15]))] := hD
    refine lv_iconst (v := 0) hx hb d_Ref_kernels_16 (by decide) ?_
    refine lv_istore_n (lv' := [(1, .int 0), (0, .ref r0)]) hx hb d_Ref_kernels_17 rfl hl (by decide) rfl (fun ls hl => ?_)
    refine lv_iconst (v := 0) hx hb d_Ref_kernels_18 (by decide) ?_
    refine lv_istore_n (lv' := [(2, .int 0), (1, .int 0), (0, .ref r0)]) hx hb d_Ref_kernels_19 rfl hl (by decide) rfl (fun ls hl => ?_)
    refine lv_iload_n hx hb d_Ref_kernels_20 rfl (lv_at hl 0 rfl) ?_
    refine lv_aload_n hx hb d_Ref_kernels_21 rfl (lv_at hl 2 rfl) ?_
    refine va_get (D := (dC, dI)) (ci := 8) (v := .int ((nI Z))) (C := R_Ref) (T := F_Ref) (N := 25) hx hb hts i_Ref hown hK hP 0 rfl rfl 3 (by decide) (hts _ mw_fl_Ref_62) (fun _ h9 => h9) rfl d_Ref_kernels_22 ?_
    refine lv_icmp_ge (tgt := 145) hx hb d_Ref_kernels_25 (by decide) (fun c_25 => ?_) (fun c_25 => ?_)
    · refine lv_iload_n hx hb d_Ref_kernels_145 rfl (lv_at hl 1 rfl) ?_
      have hP9 := hP.sub (ws' := [(r0, .inr (8, [.int 1, .int ((nI N)), .int ((nI OU)), .int ((nI Z)), .ref r1, .ref r2, .int 0, .ref r3, .ref r4, .ref r5, .ref r6, .ref r7, .ref r8, .int 0, .ref r9, .int 0, .ref r10, .ref r11, .int 0, .ref r12, .int 0, .ref r13, .ref r14, .int bst, .ref r15]))]) [0] rfl
      have hD9 := hD.sub (ws' := [(r0, .inr (8, [.int 1, .int ((nI N)), .int ((nI OU)), .int ((nI Z)), .ref r1, .ref r2, .int 0, .ref r3, .ref r4, .ref r5, .ref r6, .ref r7, .ref r8, .int 0, .ref r9, .int 0, .ref r10, .ref r11, .int 0, .ref r12, .int 0, .ref r13, .ref r14, .int bst, .ref r15]))]) [0] (by decide) rfl
      exact W.iret (v := 0) hx hb hr (fun t ht hW => ⟨⟨0, (), rfl, rfl, by rw [ht]; exact hP9, va_K.moved hW.alike hK, hD9⟩, hS.F ht⟩) hS.2.2 d_Ref_kernels_146
    · refine lv_aload_n hx hb d_Ref_kernels_28 rfl (lv_at hl 2 rfl) ?_
      refine va_get (D := (dC, dI)) (ci := 8) (v := .int 0) (C := R_Ref) (T := F_Ref) (N := 25) hx hb hts i_Ref hown hK hP 0 rfl rfl 15 (by decide) (hts _ mw_fl_Ref_113) (fun _ h9 => h9) rfl d_Ref_kernels_29 ?_
      refine lv_if_eq (tgt := 145) hx hb d_Ref_kernels_32 (by decide) (fun c_32 => ?_) (fun c_32 => ?_)
      · refine lv_iload_n hx hb d_Ref_kernels_145 rfl (lv_at hl 1 rfl) ?_
        have hP9 := hP.sub (ws' := [(r0, .inr (8, [.int 1, .int ((nI N)), .int ((nI OU)), .int ((nI Z)), .ref r1, .ref r2, .int 0, .ref r3, .ref r4, .ref r5, .ref r6, .ref r7, .ref r8, .int 0, .ref r9, .int 0, .ref r10, .ref r11, .int 0, .ref r12, .int 0, .ref r13, .ref r14, .int bst, .ref r15]))]) [0] rfl
        have hD9 := hD.sub (ws' := [(r0, .inr (8, [.int 1, .int ((nI N)), .int ((nI OU)), .int ((nI Z)), .ref r1, .ref r2, .int 0, .ref r3, .ref r4, .ref r5, .ref r6, .ref r7, .ref r8, .int 0, .ref r9, .int 0, .ref r10, .ref r11, .int 0, .ref r12, .int 0, .ref r13, .ref r14, .int bst, .ref r15]))]) [0] (by decide) rfl
        exact W.iret (v := 0) hx hb hr (fun t ht hW => ⟨⟨0, (), rfl, rfl, by rw [ht]; exact hP9, va_K.moved hW.alike hK, hD9⟩, hS.F ht⟩) hS.2.2 d_Ref_kernels_146
      · exact absurd c_32 (by decide +kernel)
  · exact absurd c_5 (by decide +kernel)
set_option maxHeartbeats 1000000 in
set_option maxRecDepth 100000 in
theorem c_Ref_divide (l : Launch) (dC : Nat → ClassId) (dI : Nat → Nat → Nat) (cI cJ : ClassId) (sz0 : Nat) (r0 : Nat) (th : Int32) (N : Nat) (OU : Nat) (Z : Nat) (r1 : Nat) (r2 : Nat) (r3 : Nat) (r4 : Nat) (r5 : Nat) (r6 : Nat) (r7 : Nat) (r8 : Nat) (r9 : Nat) (r10 : Nat) (r11 : Nat) (r12 : Nat) (r13 : Nat) (r14 : Nat) (bst : Int32) (r15 : Nat) (x : Int32) : Met l y_Ref_divide (ct y_Ref_divide b_Ref_divide 5 (some .int)) ({ frames := 3, cells := 0, slots := 0, locals := 74 }) (va_Pc [.ref r0, .int x] (fun U => U.heap.size = sz0 ∧ va_P (dC, dI) classes [(r0, .inr (8, [.int th, .int ((nI N)), .int ((nI OU)), .int ((nI Z)), .ref r1, .ref r2, .int 0, .ref r3, .ref r4, .ref r5, .ref r6, .ref r7, .ref r8, .int 0, .ref r9, .int 0, .ref r10, .ref r11, .int 0, .ref r12, .int 0, .ref r13, .ref r14, .int bst, .ref r15]))] U.heap ∧ va_K (dC, dI) classes [(cI, .int), (cJ, .long)] U ∧ va_D (fun _ => True) [(r0, .inr (8, [.int th, .int ((nI N)), .int ((nI OU)), .int ((nI Z)), .ref r1, .ref r2, .int 0, .ref r3, .ref r4, .ref r5, .ref r6, .ref r7, .ref r8, .int 0, .ref r9, .int 0, .ref r10, .ref r11, .int 0, .ref r12, .int 0, .ref r13, .ref r14, .int bst, .ref r15]))])) (va_Qi (fun (r : Int32) (_ : Unit) => r = 0) (fun _ => at_w dC dI cI cJ (va_A [(r0, .inr (8, [.int th, .int ((nI N)), .int ((nI OU)), .int ((nI Z)), .ref r1, .ref r2, .int 0, .ref r3, .ref r4, .ref r5, .ref r6, .ref r7, .ref r8, .int 0, .ref r9, .int 0, .ref r10, .ref r11, .int 0, .ref r12, .int 0, .ref r13, .ref r14, .int bst, .ref r15]))] sz0) [(r0, .inr (8, [.int 1, .int ((nI N)), .int ((nI OU)), .int ((nI Z)), .ref r1, .ref r2, .int 0, .ref r3, .ref r4, .ref r5, .ref r6, .ref r7, .ref r8, .int 0, .ref r9, .int 0, .ref r10, .ref r11, .int 0, .ref r12, .int 0, .ref r13, .ref r14, .int bst, .ref r15]))]) (va_A [(r0, .inr (8, [.int th, .int ((nI N)), .int ((nI OU)), .int ((nI Z)), .ref r1, .ref r2, .int 0, .ref r3, .ref r4, .ref r5, .ref r6, .ref r7, .ref r8, .int 0, .ref r9, .int 0, .ref r10, .ref r11, .int 0, .ref r12, .int 0, .ref r13, .ref r14, .int bst, .ref r15]))] sz0)) 0 0 (va_A [(r0, .inr (8, [.int th, .int ((nI N)), .int ((nI OU)), .int ((nI Z)), .ref r1, .ref r2, .int 0, .ref r3, .ref r4, .ref r5, .ref r6, .ref r7, .ref r8, .int 0, .ref r9, .int 0, .ref r10, .ref r11, .int 0, .ref r12, .int 0, .ref r13, .ref r14, .int bst, .ref r15]))] sz0) := by
  refine Met.ofW (cc := b_Ref_divide) (maxL := 5) (ret := some .int) (by decide) rfl ?_
  intro p e s m args below meth c s₁ B hml hv
  obtain ⟨rfl, hsz, hP, hK, hD0⟩ := hv
  have hx := B.exec
  have hb := B.bytes
  have hr := B.returns
  have hts : ∀ w ∈ lwg, w.before _ s = true := fun w h => atoms_spec (ws := ct y_Ref_divide b_Ref_divide 5 (some .int)) B.pre w (List.mem_cons_of_mem _ h)
  have hown : s.vm.findClass R_Ref = some m.cls := findClass_of_methodNamed B.named
  have hlocks := B.notSynchronized
  subst hsz
  have hD := hD0.self (sz := s.heap.size)
  generalize hAe : va_A [(r0, .inr (8, [.int th, .int ((nI N)), .int ((nI OU)), .int ((nI Z)), .ref r1, .ref r2, .int 0, .ref r3, .ref r4, .ref r5, .ref r6, .ref r7, .ref r8, .int 0, .ref r9, .int 0, .ref r10, .ref r11, .int 0, .ref r12, .int 0, .ref r13, .ref r14, .int bst, .ref r15]))] s.heap.size = A at hD ⊢
  have hA : ∀ q : Nat, s.heap.size ≤ q → A q := fun q h => by rw [← hAe]; exact Or.inr h
  have hS : va_S A s.heap s.heap [] := va_S.rf
  have hl := lv_entry ([.ref r0, .int x]) (n := 5) (Nat.le_of_ble_eq_true rfl)
  rw [lg_entry_eq]
  generalize (lg_sl ([.ref r0, .int x]) ++ List.replicate (5 - (lg_sl ([.ref r0, .int x])).length) Slot.unset).toArray = ls at hl ⊢
  have hl : lv_has ls 5 [(0, .ref r0), (1, .int x)] := hl
  have hP : va_P (dC, dI) classes [(r0, .inr (8, [.int th, .int ((nI N)), .int ((nI OU)), .int ((nI Z)), .ref r1, .ref r2, .int 0, .ref r3, .ref r4, .ref r5, .ref r6, .ref r7, .ref r8, .int 0, .ref r9, .int 0, .ref r10, .ref r11, .int 0, .ref r12, .int 0, .ref r13, .ref r14, .int bst, .ref r15]))] s.heap := hP
  refine lv_aload_n hx hb d_Ref_divide_0 rfl (lv_at hl 0 rfl) ?_
  refine lv_aload_n hx hb d_Ref_divide_1 rfl (lv_at hl 0 rfl) ?_
  refine va_get (D := (dC, dI)) (ci := 8) (v := .int 0) (C := R_Ref) (T := F_Ref) (N := 25) hx hb hts i_Ref hown hK hP 0 rfl rfl 15 (by decide) (hts _ mw_fl_Ref_113) (fun _ h9 => h9) rfl d_Ref_divide_2 ?_
  refine lv_if_ne (tgt := 12) hx hb d_Ref_divide_5 (by decide) (fun c_5 => ?_) (fun c_5 => ?_)
  · exact absurd c_5 (by decide +kernel)
  · refine lv_iconst (v := 1) hx hb d_Ref_divide_8 (by decide) ?_
    refine lv_goto (tgt := 39) hx hb d_Ref_divide_9 (by decide) ?_
    refine va_put (D := (dC, dI)) (ci := 8) (v := .int 1) (ty := .int) (C := R_Ref) (T := F_Ref) (N := 25) hx hb hts i_Ref t_Ref t_Ref_ok n_Ref hown hK hP hD hS 0 rfl rfl 0 (by decide) (hts _ mw_fl_Ref_65) (fun _ h9 => h9) rfl (by decide +kernel) rfl rfl (Nat.le_of_ble_eq_true rfl) d_Ref_divide_39 (fun H locs hP hD hS => ?_)
    have hP : va_P (dC, dI) classes [(r0, .inr (8, [.int 1, .int ((nI N)), .int ((nI OU)), .int ((nI Z)), .ref r1, .ref r2, .int 0, .ref r3, .ref r4, .ref r5, .ref r6, .ref r7, .ref r8, .int 0, .ref r9, .int 0, .ref r10, .ref r11, .int 0, .ref r12, .int 0, .ref r13, .ref r14, .int bst, .ref r15]))] H := hP
    have hD : va_D A [(r0, .inr (8, [.int 1, .int ((nI N)), .int ((nI OU)), .int ((nI Z)), .ref r1, .ref r2, .int 0, .ref r3, .ref r4, .ref r5, .ref r6, .ref r7, .ref r8, .int 0, .ref r9, .int 0, .ref r10, .ref r11, .int 0, .ref r12, .int 0, .ref r13, .ref r14, .int bst, .ref r15]))] := hD
    refine lv_aload_n hx hb d_Ref_divide_42 rfl (lv_at hl 0 rfl) ?_
    refine va_get (D := (dC, dI)) (ci := 8) (v := .int 1) (C := R_Ref) (T := F_Ref) (N := 25) hx hb hts i_Ref hown hK hP 0 rfl rfl 0 (by decide) (hts _ mw_fl_Ref_65) (fun _ h9 => h9) rfl d_Ref_divide_43 ?_
    refine lv_if_le (tgt := 51) hx hb d_Ref_divide_46 (by decide) (fun c_46 => ?_) (fun c_46 => ?_)
    · exact absurd c_46 (by decide +kernel)
    · refine lv_iconst (v := 0) hx hb d_Ref_divide_49 (by decide) ?_
      have hP9 := hP.sub (ws' := [(r0, .inr (8, [.int 1, .int ((nI N)), .int ((nI OU)), .int ((nI Z)), .ref r1, .ref r2, .int 0, .ref r3, .ref r4, .ref r5, .ref r6, .ref r7, .ref r8, .int 0, .ref r9, .int 0, .ref r10, .ref r11, .int 0, .ref r12, .int 0, .ref r13, .ref r14, .int bst, .ref r15]))]) [0] rfl
      have hD9 := hD.sub (ws' := [(r0, .inr (8, [.int 1, .int ((nI N)), .int ((nI OU)), .int ((nI Z)), .ref r1, .ref r2, .int 0, .ref r3, .ref r4, .ref r5, .ref r6, .ref r7, .ref r8, .int 0, .ref r9, .int 0, .ref r10, .ref r11, .int 0, .ref r12, .int 0, .ref r13, .ref r14, .int bst, .ref r15]))]) [0] (by decide) rfl
      exact W.iret (v := 0) hx hb hr (fun t ht hW => ⟨⟨0, (), rfl, rfl, by rw [ht]; exact hP9, va_K.moved hW.alike hK, hD9⟩, hS.F ht⟩) hS.2.2 d_Ref_divide_50
set_option maxHeartbeats 1000000 in
set_option maxRecDepth 100000 in
theorem c_Ref_equal (l : Launch) (dC : Nat → ClassId) (dI : Nat → Nat → Nat) (cI cJ : ClassId) (sz0 : Nat) (r0 : Nat) (th : Int32) (N : Nat) (OU : Nat) (Z : Nat) (r1 : Nat) (r2 : Nat) (r3 : Nat) (r4 : Nat) (r5 : Nat) (r6 : Nat) (r7 : Nat) (r8 : Nat) (r9 : Nat) (r10 : Nat) (r11 : Nat) (r12 : Nat) (r13 : Nat) (r14 : Nat) (bst : Int32) (r15 : Nat) : Met l y_Ref_equal (ct y_Ref_equal b_Ref_equal 4 (some .boolean)) ({ frames := 3, cells := 0, slots := 0, locals := 74 }) (va_Pc [.ref r0] (fun U => U.heap.size = sz0 ∧ va_P (dC, dI) classes [(r0, .inr (8, [.int th, .int ((nI N)), .int ((nI OU)), .int ((nI Z)), .ref r1, .ref r2, .int 0, .ref r3, .ref r4, .ref r5, .ref r6, .ref r7, .ref r8, .int 0, .ref r9, .int 0, .ref r10, .ref r11, .int 0, .ref r12, .int 0, .ref r13, .ref r14, .int bst, .ref r15]))] U.heap ∧ va_K (dC, dI) classes [(cI, .int), (cJ, .long)] U ∧ va_D (fun _ => True) [(r0, .inr (8, [.int th, .int ((nI N)), .int ((nI OU)), .int ((nI Z)), .ref r1, .ref r2, .int 0, .ref r3, .ref r4, .ref r5, .ref r6, .ref r7, .ref r8, .int 0, .ref r9, .int 0, .ref r10, .ref r11, .int 0, .ref r12, .int 0, .ref r13, .ref r14, .int bst, .ref r15]))])) (va_Qi (fun (r : Int32) (_ : Unit) => r = 0) (fun _ => at_w dC dI cI cJ (va_A [(r0, .inr (8, [.int th, .int ((nI N)), .int ((nI OU)), .int ((nI Z)), .ref r1, .ref r2, .int 0, .ref r3, .ref r4, .ref r5, .ref r6, .ref r7, .ref r8, .int 0, .ref r9, .int 0, .ref r10, .ref r11, .int 0, .ref r12, .int 0, .ref r13, .ref r14, .int bst, .ref r15]))] sz0) [(r0, .inr (8, [.int 1, .int ((nI N)), .int ((nI OU)), .int ((nI Z)), .ref r1, .ref r2, .int 0, .ref r3, .ref r4, .ref r5, .ref r6, .ref r7, .ref r8, .int 0, .ref r9, .int 0, .ref r10, .ref r11, .int 0, .ref r12, .int 0, .ref r13, .ref r14, .int bst, .ref r15]))]) (va_A [(r0, .inr (8, [.int th, .int ((nI N)), .int ((nI OU)), .int ((nI Z)), .ref r1, .ref r2, .int 0, .ref r3, .ref r4, .ref r5, .ref r6, .ref r7, .ref r8, .int 0, .ref r9, .int 0, .ref r10, .ref r11, .int 0, .ref r12, .int 0, .ref r13, .ref r14, .int bst, .ref r15]))] sz0)) 0 0 (va_A [(r0, .inr (8, [.int th, .int ((nI N)), .int ((nI OU)), .int ((nI Z)), .ref r1, .ref r2, .int 0, .ref r3, .ref r4, .ref r5, .ref r6, .ref r7, .ref r8, .int 0, .ref r9, .int 0, .ref r10, .ref r11, .int 0, .ref r12, .int 0, .ref r13, .ref r14, .int bst, .ref r15]))] sz0) := by
  refine Met.ofW (cc := b_Ref_equal) (maxL := 4) (ret := some .boolean) (by decide) rfl ?_
  intro p e s m args below meth c s₁ B hml hv
  obtain ⟨rfl, hsz, hP, hK, hD0⟩ := hv
  have hx := B.exec
  have hb := B.bytes
  have hr := B.returns
  have hts : ∀ w ∈ lwg, w.before _ s = true := fun w h => atoms_spec (ws := ct y_Ref_equal b_Ref_equal 4 (some .boolean)) B.pre w (List.mem_cons_of_mem _ h)
  have hown : s.vm.findClass R_Ref = some m.cls := findClass_of_methodNamed B.named
  have hlocks := B.notSynchronized
  subst hsz
  have hD := hD0.self (sz := s.heap.size)
  generalize hAe : va_A [(r0, .inr (8, [.int th, .int ((nI N)), .int ((nI OU)), .int ((nI Z)), .ref r1, .ref r2, .int 0, .ref r3, .ref r4, .ref r5, .ref r6, .ref r7, .ref r8, .int 0, .ref r9, .int 0, .ref r10, .ref r11, .int 0, .ref r12, .int 0, .ref r13, .ref r14, .int bst, .ref r15]))] s.heap.size = A at hD ⊢
  have hA : ∀ q : Nat, s.heap.size ≤ q → A q := fun q h => by rw [← hAe]; exact Or.inr h
  have hS : va_S A s.heap s.heap [] := va_S.rf
  have hl := lv_entry ([.ref r0]) (n := 4) (Nat.le_of_ble_eq_true rfl)
  rw [lg_entry_eq]
  generalize (lg_sl ([.ref r0]) ++ List.replicate (4 - (lg_sl ([.ref r0])).length) Slot.unset).toArray = ls at hl ⊢
  have hl : lv_has ls 4 [(0, .ref r0)] := hl
  have hP : va_P (dC, dI) classes [(r0, .inr (8, [.int th, .int ((nI N)), .int ((nI OU)), .int ((nI Z)), .ref r1, .ref r2, .int 0, .ref r3, .ref r4, .ref r5, .ref r6, .ref r7, .ref r8, .int 0, .ref r9, .int 0, .ref r10, .ref r11, .int 0, .ref r12, .int 0, .ref r13, .ref r14, .int bst, .ref r15]))] s.heap := hP
  refine lv_aload_n hx hb d_Ref_equal_0 rfl (lv_at hl 0 rfl) ?_
  refine lv_aload_n hx hb d_Ref_equal_1 rfl (lv_at hl 0 rfl) ?_
  refine va_get (D := (dC, dI)) (ci := 8) (v := .int 0) (C := R_Ref) (T := F_Ref) (N := 25) hx hb hts i_Ref hown hK hP 0 rfl rfl 15 (by decide) (hts _ mw_fl_Ref_113) (fun _ h9 => h9) rfl d_Ref_equal_2 ?_
  refine lv_if_eq (tgt := 12) hx hb d_Ref_equal_5 (by decide) (fun c_5 => ?_) (fun c_5 => ?_)
  · refine lv_iconst (v := 1) hx hb d_Ref_equal_12 (by decide) ?_
    refine va_put (D := (dC, dI)) (ci := 8) (v := .int 1) (ty := .int) (C := R_Ref) (T := F_Ref) (N := 25) hx hb hts i_Ref t_Ref t_Ref_ok n_Ref hown hK hP hD hS 0 rfl rfl 0 (by decide) (hts _ mw_fl_Ref_65) (fun _ h9 => h9) rfl (by decide +kernel) rfl rfl (Nat.le_of_ble_eq_true rfl) d_Ref_equal_13 (fun H locs hP hD hS => ?_)
    have hP : va_P (dC, dI) classes [(r0, .inr (8, [.int 1, .int ((nI N)), .int ((nI OU)), .int ((nI Z)), .ref r1, .ref r2, .int 0, .ref r3, .ref r4, .ref r5, .ref r6, .ref r7, .ref r8, .int 0, .ref r9, .int 0, .ref r10, .ref r11, .int 0, .ref r12, .int 0, .ref r13, .ref r14, .int bst, .ref r15]))] H := hP
    have hD : va_D A [(r0, .inr (8, [.int 1, .int ((nI N)), .int ((nI OU)), .int ((nI Z)), .ref r1, .ref r2, .int 0, .ref r3, .ref r4, .ref r5, .ref r6, .ref r7, .ref r8, .int 0, .ref r9, .int 0, .ref r10, .ref r11, .int 0, .ref r12, .int 0, .ref r13, .ref r14, .int bst, .ref r15]))] := hD
    refine lv_aload_n hx hb d_Ref_equal_16 rfl (lv_at hl 0 rfl) ?_
    refine va_get (D := (dC, dI)) (ci := 8) (v := .int 1) (C := R_Ref) (T := F_Ref) (N := 25) hx hb hts i_Ref hown hK hP 0 rfl rfl 0 (by decide) (hts _ mw_fl_Ref_65) (fun _ h9 => h9) rfl d_Ref_equal_17 ?_
    refine lv_if_le (tgt := 25) hx hb d_Ref_equal_20 (by decide) (fun c_20 => ?_) (fun c_20 => ?_)
    · exact absurd c_20 (by decide +kernel)
    · refine lv_iconst (v := 0) hx hb d_Ref_equal_23 (by decide) ?_
      have hP9 := hP.sub (ws' := [(r0, .inr (8, [.int 1, .int ((nI N)), .int ((nI OU)), .int ((nI Z)), .ref r1, .ref r2, .int 0, .ref r3, .ref r4, .ref r5, .ref r6, .ref r7, .ref r8, .int 0, .ref r9, .int 0, .ref r10, .ref r11, .int 0, .ref r12, .int 0, .ref r13, .ref r14, .int bst, .ref r15]))]) [0] rfl
      have hD9 := hD.sub (ws' := [(r0, .inr (8, [.int 1, .int ((nI N)), .int ((nI OU)), .int ((nI Z)), .ref r1, .ref r2, .int 0, .ref r3, .ref r4, .ref r5, .ref r6, .ref r7, .ref r8, .int 0, .ref r9, .int 0, .ref r10, .ref r11, .int 0, .ref r12, .int 0, .ref r13, .ref r14, .int bst, .ref r15]))]) [0] (by decide) rfl
      exact W.zret (v := 0) hx hb hr (by decide) (fun t ht hW => ⟨⟨0, (), rfl, rfl, by rw [ht]; exact hP9, va_K.moved hW.alike hK, hD9⟩, hS.F ht⟩) hS.2.2 d_Ref_equal_24
  · exact absurd c_5 (by decide +kernel)
set_option maxHeartbeats 1000000 in
set_option maxRecDepth 100000 in
theorem c_Ref_value (l : Launch) (dC : Nat → ClassId) (dI : Nat → Nat → Nat) (cI cJ : ClassId) (sz0 : Nat) (r0 : Nat) (th : Int32) (N : Nat) (OU : Nat) (Z : Nat) (r1 : Nat) (r2 : Nat) (r3 : Nat) (r4 : Nat) (r5 : Nat) (r6 : Nat) (r7 : Nat) (r8 : Nat) (r9 : Nat) (r10 : Nat) (r11 : Nat) (r12 : Nat) (r13 : Nat) (r14 : Nat) (bst : Int32) (r15 : Nat) (x : Int64) (y : Int32) : Met l y_Ref_value (ct y_Ref_value b_Ref_value 4 (some .boolean)) ({ frames := 3, cells := 0, slots := 0, locals := 73 }) (va_Pc [.ref r0, .long x, .int y] (fun U => U.heap.size = sz0 ∧ va_P (dC, dI) classes [(r0, .inr (8, [.int th, .int ((nI N)), .int ((nI OU)), .int ((nI Z)), .ref r1, .ref r2, .int 0, .ref r3, .ref r4, .ref r5, .ref r6, .ref r7, .ref r8, .int 0, .ref r9, .int 0, .ref r10, .ref r11, .int 0, .ref r12, .int 0, .ref r13, .ref r14, .int bst, .ref r15]))] U.heap ∧ va_K (dC, dI) classes [(cI, .int), (cJ, .long)] U ∧ va_D (fun _ => True) [(r0, .inr (8, [.int th, .int ((nI N)), .int ((nI OU)), .int ((nI Z)), .ref r1, .ref r2, .int 0, .ref r3, .ref r4, .ref r5, .ref r6, .ref r7, .ref r8, .int 0, .ref r9, .int 0, .ref r10, .ref r11, .int 0, .ref r12, .int 0, .ref r13, .ref r14, .int bst, .ref r15]))])) (va_Qi (fun (r : Int32) (_ : Unit) => r = 0) (fun _ => at_w dC dI cI cJ (va_A [(r0, .inr (8, [.int th, .int ((nI N)), .int ((nI OU)), .int ((nI Z)), .ref r1, .ref r2, .int 0, .ref r3, .ref r4, .ref r5, .ref r6, .ref r7, .ref r8, .int 0, .ref r9, .int 0, .ref r10, .ref r11, .int 0, .ref r12, .int 0, .ref r13, .ref r14, .int bst, .ref r15]))] sz0) [(r0, .inr (8, [.int 1, .int ((nI N)), .int ((nI OU)), .int ((nI Z)), .ref r1, .ref r2, .int 0, .ref r3, .ref r4, .ref r5, .ref r6, .ref r7, .ref r8, .int 0, .ref r9, .int 0, .ref r10, .ref r11, .int 0, .ref r12, .int 0, .ref r13, .ref r14, .int bst, .ref r15]))]) (va_A [(r0, .inr (8, [.int th, .int ((nI N)), .int ((nI OU)), .int ((nI Z)), .ref r1, .ref r2, .int 0, .ref r3, .ref r4, .ref r5, .ref r6, .ref r7, .ref r8, .int 0, .ref r9, .int 0, .ref r10, .ref r11, .int 0, .ref r12, .int 0, .ref r13, .ref r14, .int bst, .ref r15]))] sz0)) 0 0 (va_A [(r0, .inr (8, [.int th, .int ((nI N)), .int ((nI OU)), .int ((nI Z)), .ref r1, .ref r2, .int 0, .ref r3, .ref r4, .ref r5, .ref r6, .ref r7, .ref r8, .int 0, .ref r9, .int 0, .ref r10, .ref r11, .int 0, .ref r12, .int 0, .ref r13, .ref r14, .int bst, .ref r15]))] sz0) := by
  refine Met.ofW (cc := b_Ref_value) (maxL := 4) (ret := some .boolean) (by decide) rfl ?_
  intro p e s m args below meth c s₁ B hml hv
  obtain ⟨rfl, hsz, hP, hK, hD0⟩ := hv
  have hx := B.exec
  have hb := B.bytes
  have hr := B.returns
  have hts : ∀ w ∈ lwg, w.before _ s = true := fun w h => atoms_spec (ws := ct y_Ref_value b_Ref_value 4 (some .boolean)) B.pre w (List.mem_cons_of_mem _ h)
  have hown : s.vm.findClass R_Ref = some m.cls := findClass_of_methodNamed B.named
  have hlocks := B.notSynchronized
  subst hsz
  have hD := hD0.self (sz := s.heap.size)
  generalize hAe : va_A [(r0, .inr (8, [.int th, .int ((nI N)), .int ((nI OU)), .int ((nI Z)), .ref r1, .ref r2, .int 0, .ref r3, .ref r4, .ref r5, .ref r6, .ref r7, .ref r8, .int 0, .ref r9, .int 0, .ref r10, .ref r11, .int 0, .ref r12, .int 0, .ref r13, .ref r14, .int bst, .ref r15]))] s.heap.size = A at hD ⊢
  have hA : ∀ q : Nat, s.heap.size ≤ q → A q := fun q h => by rw [← hAe]; exact Or.inr h
  have hS : va_S A s.heap s.heap [] := va_S.rf
  have hl := lv_entry ([.ref r0, .long x, .int y]) (n := 4) (Nat.le_of_ble_eq_true rfl)
  rw [lg_entry_eq]
  generalize (lg_sl ([.ref r0, .long x, .int y]) ++ List.replicate (4 - (lg_sl ([.ref r0, .long x, .int y])).length) Slot.unset).toArray = ls at hl ⊢
  have hl : lv_has ls 4 [(0, .ref r0), (1, .long x), (3, .int y)] := hl
  have hP : va_P (dC, dI) classes [(r0, .inr (8, [.int th, .int ((nI N)), .int ((nI OU)), .int ((nI Z)), .ref r1, .ref r2, .int 0, .ref r3, .ref r4, .ref r5, .ref r6, .ref r7, .ref r8, .int 0, .ref r9, .int 0, .ref r10, .ref r11, .int 0, .ref r12, .int 0, .ref r13, .ref r14, .int bst, .ref r15]))] s.heap := hP
  refine lv_aload_n hx hb d_Ref_value_0 rfl (lv_at hl 0 rfl) ?_
  refine lv_aload_n hx hb d_Ref_value_1 rfl (lv_at hl 0 rfl) ?_
  refine va_get (D := (dC, dI)) (ci := 8) (v := .int 0) (C := R_Ref) (T := F_Ref) (N := 25) hx hb hts i_Ref hown hK hP 0 rfl rfl 15 (by decide) (hts _ mw_fl_Ref_113) (fun _ h9 => h9) rfl d_Ref_value_2 ?_
  refine lv_if_ne (tgt := 12) hx hb d_Ref_value_5 (by decide) (fun c_5 => ?_) (fun c_5 => ?_)
  · exact absurd c_5 (by decide +kernel)
  · refine lv_iconst (v := 1) hx hb d_Ref_value_8 (by decide) ?_
    refine lv_goto (tgt := 51) hx hb d_Ref_value_9 (by decide) ?_
    refine va_put (D := (dC, dI)) (ci := 8) (v := .int 1) (ty := .int) (C := R_Ref) (T := F_Ref) (N := 25) hx hb hts i_Ref t_Ref t_Ref_ok n_Ref hown hK hP hD hS 0 rfl rfl 0 (by decide) (hts _ mw_fl_Ref_65) (fun _ h9 => h9) rfl (by decide +kernel) rfl rfl (Nat.le_of_ble_eq_true rfl) d_Ref_value_51 (fun H locs hP hD hS => ?_)
    have hP : va_P (dC, dI) classes [(r0, .inr (8, [.int 1, .int ((nI N)), .int ((nI OU)), .int ((nI Z)), .ref r1, .ref r2, .int 0, .ref r3, .ref r4, .ref r5, .ref r6, .ref r7, .ref r8, .int 0, .ref r9, .int 0, .ref r10, .ref r11, .int 0, .ref r12, .int 0, .ref r13, .ref r14, .int bst, .ref r15]))] H := hP
    have hD : va_D A [(r0, .inr (8, [.int 1, .int ((nI N)), .int ((nI OU)), .int ((nI Z)), .ref r1, .ref r2, .int 0, .ref r3, .ref r4, .ref r5, .ref r6, .ref r7, .ref r8, .int 0, .ref r9, .int 0, .ref r10, .ref r11, .int 0, .ref r12, .int 0, .ref r13, .ref r14, .int bst, .ref r15]))] := hD
    refine lv_aload_n hx hb d_Ref_value_54 rfl (lv_at hl 0 rfl) ?_
    refine va_get (D := (dC, dI)) (ci := 8) (v := .int 1) (C := R_Ref) (T := F_Ref) (N := 25) hx hb hts i_Ref hown hK hP 0 rfl rfl 0 (by decide) (hts _ mw_fl_Ref_65) (fun _ h9 => h9) rfl d_Ref_value_55 ?_
    refine lv_if_ne (tgt := 79) hx hb d_Ref_value_58 (by decide) (fun c_58 => ?_) (fun c_58 => ?_)
    · refine lv_iconst (v := 0) hx hb d_Ref_value_79 (by decide) ?_
      have hP9 := hP.sub (ws' := [(r0, .inr (8, [.int 1, .int ((nI N)), .int ((nI OU)), .int ((nI Z)), .ref r1, .ref r2, .int 0, .ref r3, .ref r4, .ref r5, .ref r6, .ref r7, .ref r8, .int 0, .ref r9, .int 0, .ref r10, .ref r11, .int 0, .ref r12, .int 0, .ref r13, .ref r14, .int bst, .ref r15]))]) [0] rfl
      have hD9 := hD.sub (ws' := [(r0, .inr (8, [.int 1, .int ((nI N)), .int ((nI OU)), .int ((nI Z)), .ref r1, .ref r2, .int 0, .ref r3, .ref r4, .ref r5, .ref r6, .ref r7, .ref r8, .int 0, .ref r9, .int 0, .ref r10, .ref r11, .int 0, .ref r12, .int 0, .ref r13, .ref r14, .int bst, .ref r15]))]) [0] (by decide) rfl
      exact W.zret (v := 0) hx hb hr (by decide) (fun t ht hW => ⟨⟨0, (), rfl, rfl, by rw [ht]; exact hP9, va_K.moved hW.alike hK, hD9⟩, hS.F ht⟩) hS.2.2 d_Ref_value_80
    · exact absurd c_58 (by decide +kernel)
set_option maxHeartbeats 1000000 in
set_option maxRecDepth 100000 in
theorem c_Ref_clear (l : Launch) (dC : Nat → ClassId) (dI : Nat → Nat → Nat) (cI cJ : ClassId) (sz0 : Nat) (r0 : Nat) (th : Int32) (N : Nat) (OU : Nat) (Z : Nat) (r1 : Nat) (r2 : Nat) (r3 : Nat) (r4 : Nat) (r5 : Nat) (r6 : Nat) (r7 : Nat) (r8 : Nat) (r9 : Nat) (r10 : Nat) (r11 : Nat) (r12 : Nat) (r13 : Nat) (r14 : Nat) (bst : Int32) (r15 : Nat) : Met l y_Ref_clear (ct y_Ref_clear b_Ref_clear 1 (none)) ({ frames := 0, cells := 0, slots := 0, locals := 0 }) (va_Pc [.ref r0] (fun U => U.heap.size = sz0 ∧ va_P (dC, dI) classes [(r0, .inr (8, [.int th, .int ((nI N)), .int ((nI OU)), .int ((nI Z)), .ref r1, .ref r2, .int 0, .ref r3, .ref r4, .ref r5, .ref r6, .ref r7, .ref r8, .int 0, .ref r9, .int 0, .ref r10, .ref r11, .int 0, .ref r12, .int 0, .ref r13, .ref r14, .int bst, .ref r15]))] U.heap ∧ va_K (dC, dI) classes [(cI, .int), (cJ, .long)] U ∧ va_D (fun _ => True) [(r0, .inr (8, [.int th, .int ((nI N)), .int ((nI OU)), .int ((nI Z)), .ref r1, .ref r2, .int 0, .ref r3, .ref r4, .ref r5, .ref r6, .ref r7, .ref r8, .int 0, .ref r9, .int 0, .ref r10, .ref r11, .int 0, .ref r12, .int 0, .ref r13, .ref r14, .int bst, .ref r15]))])) (va_Qv (fun _ : Unit => True) (fun _ => at_w dC dI cI cJ (va_A [(r0, .inr (8, [.int th, .int ((nI N)), .int ((nI OU)), .int ((nI Z)), .ref r1, .ref r2, .int 0, .ref r3, .ref r4, .ref r5, .ref r6, .ref r7, .ref r8, .int 0, .ref r9, .int 0, .ref r10, .ref r11, .int 0, .ref r12, .int 0, .ref r13, .ref r14, .int bst, .ref r15]))] sz0) []) (va_A [(r0, .inr (8, [.int th, .int ((nI N)), .int ((nI OU)), .int ((nI Z)), .ref r1, .ref r2, .int 0, .ref r3, .ref r4, .ref r5, .ref r6, .ref r7, .ref r8, .int 0, .ref r9, .int 0, .ref r10, .ref r11, .int 0, .ref r12, .int 0, .ref r13, .ref r14, .int bst, .ref r15]))] sz0)) 0 0 (va_A [(r0, .inr (8, [.int th, .int ((nI N)), .int ((nI OU)), .int ((nI Z)), .ref r1, .ref r2, .int 0, .ref r3, .ref r4, .ref r5, .ref r6, .ref r7, .ref r8, .int 0, .ref r9, .int 0, .ref r10, .ref r11, .int 0, .ref r12, .int 0, .ref r13, .ref r14, .int bst, .ref r15]))] sz0) := by
  refine Met.ofW (cc := b_Ref_clear) (maxL := 1) (ret := none) (by decide) rfl ?_
  intro p e s m args below meth c s₁ B hml hv
  obtain ⟨rfl, hsz, hP, hK, hD0⟩ := hv
  have hx := B.exec
  have hb := B.bytes
  have hr := B.returns
  have hts : ∀ w ∈ lwg, w.before _ s = true := fun w h => atoms_spec (ws := ct y_Ref_clear b_Ref_clear 1 (none)) B.pre w (List.mem_cons_of_mem _ h)
  have hown : s.vm.findClass R_Ref = some m.cls := findClass_of_methodNamed B.named
  have hlocks := B.notSynchronized
  subst hsz
  have hD := hD0.self (sz := s.heap.size)
  generalize hAe : va_A [(r0, .inr (8, [.int th, .int ((nI N)), .int ((nI OU)), .int ((nI Z)), .ref r1, .ref r2, .int 0, .ref r3, .ref r4, .ref r5, .ref r6, .ref r7, .ref r8, .int 0, .ref r9, .int 0, .ref r10, .ref r11, .int 0, .ref r12, .int 0, .ref r13, .ref r14, .int bst, .ref r15]))] s.heap.size = A at hD ⊢
  have hA : ∀ q : Nat, s.heap.size ≤ q → A q := fun q h => by rw [← hAe]; exact Or.inr h
  have hS : va_S A s.heap s.heap [] := va_S.rf
  have hl := lv_entry ([.ref r0]) (n := 1) (Nat.le_of_ble_eq_true rfl)
  rw [lg_entry_eq]
  generalize (lg_sl ([.ref r0]) ++ List.replicate (1 - (lg_sl ([.ref r0])).length) Slot.unset).toArray = ls at hl ⊢
  have hl : lv_has ls 1 [(0, .ref r0)] := hl
  have hP : va_P (dC, dI) classes [(r0, .inr (8, [.int th, .int ((nI N)), .int ((nI OU)), .int ((nI Z)), .ref r1, .ref r2, .int 0, .ref r3, .ref r4, .ref r5, .ref r6, .ref r7, .ref r8, .int 0, .ref r9, .int 0, .ref r10, .ref r11, .int 0, .ref r12, .int 0, .ref r13, .ref r14, .int bst, .ref r15]))] s.heap := hP
  refine lv_aload_n hx hb d_Ref_clear_0 rfl (lv_at hl 0 rfl) ?_
  refine lv_iconst (v := 0) hx hb d_Ref_clear_1 (by decide) ?_
  refine va_put (D := (dC, dI)) (ci := 8) (v := .int 0) (ty := .int) (C := R_Ref) (T := F_Ref) (N := 25) hx hb hts i_Ref t_Ref t_Ref_ok n_Ref hown hK hP hD hS 0 rfl rfl 0 (by decide) (hts _ mw_fl_Ref_65) (fun _ h9 => h9) rfl (by decide +kernel) rfl rfl (Nat.le_of_ble_eq_true rfl) d_Ref_clear_2 (fun H locs hP hD hS => ?_)
  have hP : va_P (dC, dI) classes [(r0, .inr (8, [.int 0, .int ((nI N)), .int ((nI OU)), .int ((nI Z)), .ref r1, .ref r2, .int 0, .ref r3, .ref r4, .ref r5, .ref r6, .ref r7, .ref r8, .int 0, .ref r9, .int 0, .ref r10, .ref r11, .int 0, .ref r12, .int 0, .ref r13, .ref r14, .int bst, .ref r15]))] H := hP
  have hD : va_D A [(r0, .inr (8, [.int 0, .int ((nI N)), .int ((nI OU)), .int ((nI Z)), .ref r1, .ref r2, .int 0, .ref r3, .ref r4, .ref r5, .ref r6, .ref r7, .ref r8, .int 0, .ref r9, .int 0, .ref r10, .ref r11, .int 0, .ref r12, .int 0, .ref r13, .ref r14, .int bst, .ref r15]))] := hD
  refine lv_aload_n hx hb d_Ref_clear_5 rfl (lv_at hl 0 rfl) ?_
  refine lv_iconst (v := 0) hx hb d_Ref_clear_6 (by decide) ?_
  refine va_put (D := (dC, dI)) (ci := 8) (v := .int 0) (ty := .int) (C := R_Ref) (T := F_Ref) (N := 25) hx hb hts i_Ref t_Ref t_Ref_ok n_Ref hown hK hP hD hS 0 rfl rfl 6 (by decide) (hts _ mw_fl_Ref_72) (fun _ h9 => h9) rfl (by decide +kernel) rfl rfl (Nat.le_of_ble_eq_true rfl) d_Ref_clear_7 (fun H locs hP hD hS => ?_)
  have hP : va_P (dC, dI) classes [(r0, .inr (8, [.int 0, .int ((nI N)), .int ((nI OU)), .int ((nI Z)), .ref r1, .ref r2, .int 0, .ref r3, .ref r4, .ref r5, .ref r6, .ref r7, .ref r8, .int 0, .ref r9, .int 0, .ref r10, .ref r11, .int 0, .ref r12, .int 0, .ref r13, .ref r14, .int bst, .ref r15]))] H := hP
  have hD : va_D A [(r0, .inr (8, [.int 0, .int ((nI N)), .int ((nI OU)), .int ((nI Z)), .ref r1, .ref r2, .int 0, .ref r3, .ref r4, .ref r5, .ref r6, .ref r7, .ref r8, .int 0, .ref r9, .int 0, .ref r10, .ref r11, .int 0, .ref r12, .int 0, .ref r13, .ref r14, .int bst, .ref r15]))] := hD
  refine lv_aload_n hx hb d_Ref_clear_10 rfl (lv_at hl 0 rfl) ?_
  refine lv_iconst (v := 0) hx hb d_Ref_clear_11 (by decide) ?_
  refine va_put (D := (dC, dI)) (ci := 8) (v := .int 0) (ty := .boolean) (C := R_Ref) (T := F_Ref) (N := 25) hx hb hts i_Ref t_Ref t_Ref_ok n_Ref hown hK hP hD hS 0 rfl rfl 15 (by decide) (hts _ mw_fl_Ref_113) (fun _ h9 => h9) rfl (by decide +kernel) rfl rfl (Nat.le_of_ble_eq_true rfl) d_Ref_clear_12 (fun H locs hP hD hS => ?_)
  have hP : va_P (dC, dI) classes [(r0, .inr (8, [.int 0, .int ((nI N)), .int ((nI OU)), .int ((nI Z)), .ref r1, .ref r2, .int 0, .ref r3, .ref r4, .ref r5, .ref r6, .ref r7, .ref r8, .int 0, .ref r9, .int 0, .ref r10, .ref r11, .int 0, .ref r12, .int 0, .ref r13, .ref r14, .int bst, .ref r15]))] H := hP
  have hD : va_D A [(r0, .inr (8, [.int 0, .int ((nI N)), .int ((nI OU)), .int ((nI Z)), .ref r1, .ref r2, .int 0, .ref r3, .ref r4, .ref r5, .ref r6, .ref r7, .ref r8, .int 0, .ref r9, .int 0, .ref r10, .ref r11, .int 0, .ref r12, .int 0, .ref r13, .ref r14, .int bst, .ref r15]))] := hD
  refine lv_aload_n hx hb d_Ref_clear_15 rfl (lv_at hl 0 rfl) ?_
  refine lv_iconst (v := 0) hx hb d_Ref_clear_16 (by decide) ?_
  refine va_put (D := (dC, dI)) (ci := 8) (v := .int 0) (ty := .int) (C := R_Ref) (T := F_Ref) (N := 25) hx hb hts i_Ref t_Ref t_Ref_ok n_Ref hown hK hP hD hS 0 rfl rfl 18 (by decide) (hts _ mw_fl_Ref_110) (fun _ h9 => h9) rfl (by decide +kernel) rfl rfl (Nat.le_of_ble_eq_true rfl) d_Ref_clear_17 (fun H locs hP hD hS => ?_)
  have hP : va_P (dC, dI) classes [(r0, .inr (8, [.int 0, .int ((nI N)), .int ((nI OU)), .int ((nI Z)), .ref r1, .ref r2, .int 0, .ref r3, .ref r4, .ref r5, .ref r6, .ref r7, .ref r8, .int 0, .ref r9, .int 0, .ref r10, .ref r11, .int 0, .ref r12, .int 0, .ref r13, .ref r14, .int bst, .ref r15]))] H := hP
  have hD : va_D A [(r0, .inr (8, [.int 0, .int ((nI N)), .int ((nI OU)), .int ((nI Z)), .ref r1, .ref r2, .int 0, .ref r3, .ref r4, .ref r5, .ref r6, .ref r7, .ref r8, .int 0, .ref r9, .int 0, .ref r10, .ref r11, .int 0, .ref r12, .int 0, .ref r13, .ref r14, .int bst, .ref r15]))] := hD
  refine lv_aload_n hx hb d_Ref_clear_20 rfl (lv_at hl 0 rfl) ?_
  refine lv_iconst (v := 0) hx hb d_Ref_clear_21 (by decide) ?_
  refine va_put (D := (dC, dI)) (ci := 8) (v := .int 0) (ty := .int) (C := R_Ref) (T := F_Ref) (N := 25) hx hb hts i_Ref t_Ref t_Ref_ok n_Ref hown hK hP hD hS 0 rfl rfl 20 (by decide) (hts _ mw_fl_Ref_117) (fun _ h9 => h9) rfl (by decide +kernel) rfl rfl (Nat.le_of_ble_eq_true rfl) d_Ref_clear_22 (fun H locs hP hD hS => ?_)
  have hP : va_P (dC, dI) classes [(r0, .inr (8, [.int 0, .int ((nI N)), .int ((nI OU)), .int ((nI Z)), .ref r1, .ref r2, .int 0, .ref r3, .ref r4, .ref r5, .ref r6, .ref r7, .ref r8, .int 0, .ref r9, .int 0, .ref r10, .ref r11, .int 0, .ref r12, .int 0, .ref r13, .ref r14, .int bst, .ref r15]))] H := hP
  have hD : va_D A [(r0, .inr (8, [.int 0, .int ((nI N)), .int ((nI OU)), .int ((nI Z)), .ref r1, .ref r2, .int 0, .ref r3, .ref r4, .ref r5, .ref r6, .ref r7, .ref r8, .int 0, .ref r9, .int 0, .ref r10, .ref r11, .int 0, .ref r12, .int 0, .ref r13, .ref r14, .int bst, .ref r15]))] := hD
  have hP9 := hP.sub (ws' := []) [] rfl
  have hD9 := hD.sub (ws' := []) [] (by decide) rfl
  exact W.vret hx hb hr (fun t ht hW => ⟨⟨(), rfl, trivial, by rw [ht]; exact hP9, va_K.moved hW.alike hK, hD9⟩, hS.F ht⟩) hS.2.2 d_Ref_clear_25
set_option maxHeartbeats 1000000 in
set_option maxRecDepth 100000 in
theorem c_Ref_tryAll (l : Launch) (dC : Nat → ClassId) (dI : Nat → Nat → Nat) (cI cJ : ClassId) (sz0 : Nat) (r0 : Nat) (th : Int32) (N : Nat) (OU : Nat) (Z : Nat) (r1 : Nat) (r2 : Nat) (r3 : Nat) (r4 : Nat) (r5 : Nat) (r6 : Nat) (r7 : Nat) (r8 : Nat) (r9 : Nat) (r10 : Nat) (r11 : Nat) (r12 : Nat) (r13 : Nat) (r14 : Nat) (bst : Int32) (r15 : Nat) : Met l y_Ref_tryAll (ct y_Ref_tryAll b_Ref_tryAll 10 (some .boolean)) ({ frames := 0, cells := 0, slots := 0, locals := 0 }) (va_Pc [.ref r0, .int 0, .int 0] (fun U => U.heap.size = sz0 ∧ va_P (dC, dI) classes [(r0, .inr (8, [.int th, .int ((nI N)), .int ((nI OU)), .int ((nI Z)), .ref r1, .ref r2, .int 0, .ref r3, .ref r4, .ref r5, .ref r6, .ref r7, .ref r8, .int 0, .ref r9, .int 0, .ref r10, .ref r11, .int 0, .ref r12, .int 0, .ref r13, .ref r14, .int bst, .ref r15])), (r13, .inl (cI, 82, .inl ((fun _ => 0))))] U.heap ∧ va_K (dC, dI) classes [(cI, .int), (cJ, .long)] U ∧ va_D (fun _ => True) [(r0, .inr (8, [.int th, .int ((nI N)), .int ((nI OU)), .int ((nI Z)), .ref r1, .ref r2, .int 0, .ref r3, .ref r4, .ref r5, .ref r6, .ref r7, .ref r8, .int 0, .ref r9, .int 0, .ref r10, .ref r11, .int 0, .ref r12, .int 0, .ref r13, .ref r14, .int bst, .ref r15])), (r13, .inl (cI, 82, .inl ((fun _ => 0))))])) (va_Qi (fun (r : Int32) (_ : Unit) => r = 1) (fun _ => at_w dC dI cI cJ (va_A [(r0, .inr (8, [.int th, .int ((nI N)), .int ((nI OU)), .int ((nI Z)), .ref r1, .ref r2, .int 0, .ref r3, .ref r4, .ref r5, .ref r6, .ref r7, .ref r8, .int 0, .ref r9, .int 0, .ref r10, .ref r11, .int 0, .ref r12, .int 0, .ref r13, .ref r14, .int bst, .ref r15])), (r13, .inl (cI, 82, .inl ((fun _ => 0))))] sz0) [(r0, .inr (8, [.int th, .int ((nI N)), .int ((nI OU)), .int ((nI Z)), .ref r1, .ref r2, .int 0, .ref r3, .ref r4, .ref r5, .ref r6, .ref r7, .ref r8, .int 0, .ref r9, .int 0, .ref r10, .ref r11, .int 0, .ref r12, .int 0, .ref r13, .ref r14, .int 0, .ref r15]))]) (va_A [(r0, .inr (8, [.int th, .int ((nI N)), .int ((nI OU)), .int ((nI Z)), .ref r1, .ref r2, .int 0, .ref r3, .ref r4, .ref r5, .ref r6, .ref r7, .ref r8, .int 0, .ref r9, .int 0, .ref r10, .ref r11, .int 0, .ref r12, .int 0, .ref r13, .ref r14, .int bst, .ref r15])), (r13, .inl (cI, 82, .inl ((fun _ => 0))))] sz0)) 0 0 (va_A [(r0, .inr (8, [.int th, .int ((nI N)), .int ((nI OU)), .int ((nI Z)), .ref r1, .ref r2, .int 0, .ref r3, .ref r4, .ref r5, .ref r6, .ref r7, .ref r8, .int 0, .ref r9, .int 0, .ref r10, .ref r11, .int 0, .ref r12, .int 0, .ref r13, .ref r14, .int bst, .ref r15])), (r13, .inl (cI, 82, .inl ((fun _ => 0))))] sz0) := by
  refine Met.ofW (cc := b_Ref_tryAll) (maxL := 10) (ret := some .boolean) (by decide) rfl ?_
  intro p e s m args below meth c s₁ B hml hv
  obtain ⟨rfl, hsz, hP, hK, hD0⟩ := hv
  have hx := B.exec
  have hb := B.bytes
  have hr := B.returns
  have hts : ∀ w ∈ lwg, w.before _ s = true := fun w h => atoms_spec (ws := ct y_Ref_tryAll b_Ref_tryAll 10 (some .boolean)) B.pre w (List.mem_cons_of_mem _ h)
  have hown : s.vm.findClass R_Ref = some m.cls := findClass_of_methodNamed B.named
  have hlocks := B.notSynchronized
  subst hsz
  have hD := hD0.self (sz := s.heap.size)
  generalize hAe : va_A [(r0, .inr (8, [.int th, .int ((nI N)), .int ((nI OU)), .int ((nI Z)), .ref r1, .ref r2, .int 0, .ref r3, .ref r4, .ref r5, .ref r6, .ref r7, .ref r8, .int 0, .ref r9, .int 0, .ref r10, .ref r11, .int 0, .ref r12, .int 0, .ref r13, .ref r14, .int bst, .ref r15])), (r13, .inl (cI, 82, .inl ((fun _ => 0))))] s.heap.size = A at hD ⊢
  have hA : ∀ q : Nat, s.heap.size ≤ q → A q := fun q h => by rw [← hAe]; exact Or.inr h
  have hS : va_S A s.heap s.heap [] := va_S.rf
  have hl := lv_entry ([.ref r0, .int 0, .int 0]) (n := 10) (Nat.le_of_ble_eq_true rfl)
  rw [lg_entry_eq]
  generalize (lg_sl ([.ref r0, .int 0, .int 0]) ++ List.replicate (10 - (lg_sl ([.ref r0, .int 0, .int 0])).length) Slot.unset).toArray = ls at hl ⊢
  have hl : lv_has ls 10 [(0, .ref r0), (1, .int 0), (2, .int 0)] := hl
  have hP : va_P (dC, dI) classes [(r0, .inr (8, [.int th, .int ((nI N)), .int ((nI OU)), .int ((nI Z)), .ref r1, .ref r2, .int 0, .ref r3, .ref r4, .ref r5, .ref r6, .ref r7, .ref r8, .int 0, .ref r9, .int 0, .ref r10, .ref r11, .int 0, .ref r12, .int 0, .ref r13, .ref r14, .int bst, .ref r15])), (r13, .inl (cI, 82, .inl ((fun _ => 0))))] s.heap := hP
  refine lv_iconst (v := 0) hx hb d_Ref_tryAll_0 (by decide) ?_
  refine lv_istore_n (lv' := [(3, .int 0), (0, .ref r0), (1, .int 0), (2, .int 0)]) hx hb d_Ref_tryAll_1 rfl hl (by decide) rfl (fun ls hl => ?_)
  refine lv_iconst (v := 0) hx hb d_Ref_tryAll_2 (by decide) ?_
  refine lv_istore (lv' := [(4, .int 0), (3, .int 0), (0, .ref r0), (1, .int 0), (2, .int 0)]) hx hb d_Ref_tryAll_3 hl (by decide) rfl (fun ls hl => ?_)
  refine lv_aload_n hx hb d_Ref_tryAll_5 rfl (lv_at hl 2 rfl) ?_
  refine va_get (D := (dC, dI)) (ci := 8) (v := .ref r13) (C := R_Ref) (T := F_Ref) (N := 25) hx hb hts i_Ref hown hK hP 0 rfl rfl 21 (by decide) (hts _ mw_fl_Ref_46) (fun _ h9 => h9) rfl d_Ref_tryAll_6 ?_
  refine lv_iconst (v := 0) hx hb d_Ref_tryAll_9 (by decide) ?_
  refine lv_iconst (v := (-1)) hx hb d_Ref_tryAll_10 (by decide) ?_
  refine va_iast hx hb hK hP hD hS 1 0 rfl rfl (vp_in_nI (n := 0) (N := 82) (by omega) (by omega)) d_Ref_tryAll_11 (fun H locs hP hD hS => ?_)
  have hP : va_P (dC, dI) classes [(r0, .inr (8, [.int th, .int ((nI N)), .int ((nI OU)), .int ((nI Z)), .ref r1, .ref r2, .int 0, .ref r3, .ref r4, .ref r5, .ref r6, .ref r7, .ref r8, .int 0, .ref r9, .int 0, .ref r10, .ref r11, .int 0, .ref r12, .int 0, .ref r13, .ref r14, .int bst, .ref r15])), (r13, .inl (cI, 82, .inl ((upd ((fun _ => 0)) (0 : Int32).toNatClampNeg ((-1))))))] H := hP
  have hD : va_D A [(r0, .inr (8, [.int th, .int ((nI N)), .int ((nI OU)), .int ((nI Z)), .ref r1, .ref r2, .int 0, .ref r3, .ref r4, .ref r5, .ref r6, .ref r7, .ref r8, .int 0, .ref r9, .int 0, .ref r10, .ref r11, .int 0, .ref r12, .int 0, .ref r13, .ref r14, .int bst, .ref r15])), (r13, .inl (cI, 82, .inl ((upd ((fun _ => 0)) (0 : Int32).toNatClampNeg ((-1))))))] := hD
  refine lv_iload hx hb d_Ref_tryAll_12 (lv_at hl 0 rfl) ?_
  refine lv_if_lt (tgt := 269) hx hb d_Ref_tryAll_14 (by decide) (fun c_14 => ?_) (fun c_14 => ?_)
  · exact absurd c_14 (by decide +kernel)
  · refine lv_iconst (v := 0) hx hb d_Ref_tryAll_17 (by decide) ?_
    refine lv_istore (lv' := [(5, .int 0), (4, .int 0), (3, .int 0), (0, .ref r0), (1, .int 0), (2, .int 0)]) hx hb d_Ref_tryAll_18 hl (by decide) rfl (fun ls hl => ?_)
    refine lv_iconst (v := 0) hx hb d_Ref_tryAll_20 (by decide) ?_
    refine lv_istore (lv' := [(6, .int 0), (5, .int 0), (4, .int 0), (3, .int 0), (0, .ref r0), (1, .int 0), (2, .int 0)]) hx hb d_Ref_tryAll_21 hl (by decide) rfl (fun ls hl => ?_)
    refine lv_iconst (v := 0) hx hb d_Ref_tryAll_23 (by decide) ?_
    refine lv_istore (lv' := [(7, .int 0), (6, .int 0), (5, .int 0), (4, .int 0), (3, .int 0), (0, .ref r0), (1, .int 0), (2, .int 0)]) hx hb d_Ref_tryAll_24 hl (by decide) rfl (fun ls hl => ?_)
    refine lv_iload hx hb d_Ref_tryAll_26 (lv_at hl 0 rfl) ?_
    refine lv_iload hx hb d_Ref_tryAll_28 (lv_at hl 3 rfl) ?_
    refine lv_icmp_ge (tgt := 73) hx hb d_Ref_tryAll_30 (by decide) (fun c_30 => ?_) (fun c_30 => ?_)
    · refine lv_iload hx hb d_Ref_tryAll_73 (lv_at hl 3 rfl) ?_
      refine lv_iload_n hx hb d_Ref_tryAll_75 rfl (lv_at hl 6 rfl) ?_
      refine lv_icmp_ne (tgt := 144) hx hb d_Ref_tryAll_76 (by decide) (fun c_76 => ?_) (fun c_76 => ?_)
      · exact absurd c_76 (by decide +kernel)
      · refine lv_iload_n hx hb d_Ref_tryAll_79 rfl (lv_at hl 7 rfl) ?_
        refine lv_iload hx hb d_Ref_tryAll_80 (lv_at hl 2 rfl) ?_
        refine lv_iconst (v := (-1)) hx hb d_Ref_tryAll_82 (by decide) ?_
        refine lv_ixor hx hb d_Ref_tryAll_83 ?_
        refine lv_iand hx hb d_Ref_tryAll_84 ?_
        refine lv_if_ne (tgt := 138) hx hb d_Ref_tryAll_85 (by decide) (fun c_85 => ?_) (fun c_85 => ?_)
        · exact absurd c_85 (by decide +kernel)
        · refine lv_iload_n hx hb d_Ref_tryAll_88 rfl (lv_at hl 4 rfl) ?_
          refine lv_if_eq (tgt := 101) hx hb d_Ref_tryAll_89 (by decide) (fun c_89 => ?_) (fun c_89 => ?_)
          · refine lv_iconst (v := 1) hx hb d_Ref_tryAll_101 (by decide) ?_
            refine lv_istore_n (lv' := [(3, .int 1), (7, .int 0), (6, .int 0), (5, .int 0), (4, .int 0), (0, .ref r0), (1, .int 0), (2, .int 0)]) hx hb d_Ref_tryAll_102 rfl hl (by decide) rfl (fun ls hl => ?_)
            refine lv_aload_n hx hb d_Ref_tryAll_103 rfl (lv_at hl 5 rfl) ?_
            refine lv_iload hx hb d_Ref_tryAll_104 (lv_at hl 2 rfl) ?_
            refine va_put (D := (dC, dI)) (ci := 8) (v := .int 0) (ty := .int) (C := R_Ref) (T := F_Ref) (N := 25) hx hb hts i_Ref t_Ref t_Ref_ok n_Ref hown hK hP hD hS 0 rfl rfl 23 (by decide) (hts _ mw_fl_Ref_94) (fun _ h9 => h9) rfl (by decide +kernel) rfl rfl (Nat.le_of_ble_eq_true rfl) d_Ref_tryAll_106 (fun H locs hP hD hS => ?_)
            have hP : va_P (dC, dI) classes [(r0, .inr (8, [.int th, .int ((nI N)), .int ((nI OU)), .int ((nI Z)), .ref r1, .ref r2, .int 0, .ref r3, .ref r4, .ref r5, .ref r6, .ref r7, .ref r8, .int 0, .ref r9, .int 0, .ref r10, .ref r11, .int 0, .ref r12, .int 0, .ref r13, .ref r14, .int 0, .ref r15])), (r13, .inl (cI, 82, .inl ((upd ((fun _ => 0)) (0 : Int32).toNatClampNeg ((-1))))))] H := hP
            have hD : va_D A [(r0, .inr (8, [.int th, .int ((nI N)), .int ((nI OU)), .int ((nI Z)), .ref r1, .ref r2, .int 0, .ref r3, .ref r4, .ref r5, .ref r6, .ref r7, .ref r8, .int 0, .ref r9, .int 0, .ref r10, .ref r11, .int 0, .ref r12, .int 0, .ref r13, .ref r14, .int 0, .ref r15])), (r13, .inl (cI, 82, .inl ((upd ((fun _ => 0)) (0 : Int32).toNatClampNeg ((-1))))))] := hD
            refine lv_iconst (v := 0) hx hb d_Ref_tryAll_109 (by decide) ?_
            refine lv_istore (lv' := [(7, .int 0), (3, .int 1), (6, .int 0), (5, .int 0), (4, .int 0), (0, .ref r0), (1, .int 0), (2, .int 0)]) hx hb d_Ref_tryAll_110 hl (by decide) rfl (fun ls hl => ?_)
            refine lv_iload hx hb d_Ref_tryAll_112 (lv_at hl 0 rfl) ?_
            refine lv_iload_n hx hb d_Ref_tryAll_114 rfl (lv_at hl 6 rfl) ?_
            refine lv_icmp_ge (tgt := 138) hx hb d_Ref_tryAll_115 (by decide) (fun c_115 => ?_) (fun c_115 => ?_)
            · refine lv_iinc (v := 0 + (-1)) (lv' := [(4, .int (0 + (-1))), (7, .int 0), (3, .int 1), (6, .int 0), (5, .int 0), (0, .ref r0), (1, .int 0), (2, .int 0)]) hx hb d_Ref_tryAll_138 hl (k := 4) rfl (rfl) (by decide) rfl (fun ls hl => ?_)
              refine lv_goto (tgt := 266) hx hb d_Ref_tryAll_141 (by decide) ?_
              refine lv_goto (tgt := 12) hx hb d_Ref_tryAll_266 (by decide) ?_
              refine lv_iload hx hb d_Ref_tryAll_12 (lv_at hl 0 rfl) ?_
              refine lv_if_lt (tgt := 269) hx hb d_Ref_tryAll_14 (by decide) (fun c_14 => ?_) (fun c_14 => ?_)
              · refine lv_iload_n hx hb d_Ref_tryAll_269 rfl (lv_at hl 2 rfl) ?_
                have hP9 := hP.sub (ws' := [(r0, .inr (8, [.int th, .int ((nI N)), .int ((nI OU)), .int ((nI Z)), .ref r1, .ref r2, .int 0, .ref r3, .ref r4, .ref r5, .ref r6, .ref r7, .ref r8, .int 0, .ref r9, .int 0, .ref r10, .ref r11, .int 0, .ref r12, .int 0, .ref r13, .ref r14, .int 0, .ref r15]))]) [0] rfl
                have hD9 := hD.sub (ws' := [(r0, .inr (8, [.int th, .int ((nI N)), .int ((nI OU)), .int ((nI Z)), .ref r1, .ref r2, .int 0, .ref r3, .ref r4, .ref r5, .ref r6, .ref r7, .ref r8, .int 0, .ref r9, .int 0, .ref r10, .ref r11, .int 0, .ref r12, .int 0, .ref r13, .ref r14, .int 0, .ref r15]))]) [0] (by decide) rfl
                exact W.zret (v := 1) hx hb hr (by decide) (fun t ht hW => ⟨⟨1, (), rfl, rfl, by rw [ht]; exact hP9, va_K.moved hW.alike hK, hD9⟩, hS.F ht⟩) hS.2.2 d_Ref_tryAll_270
              · exact absurd c_14 (by decide +kernel)
            · exact absurd c_115 (by decide +kernel)
          · exact absurd c_89 (by decide +kernel)
    · exact absurd c_30 (by decide +kernel)
set_option maxHeartbeats 1000000 in
set_option maxRecDepth 100000 in
theorem c_Ref_exact (l : Launch) (dC : Nat → ClassId) (dI : Nat → Nat → Nat) (cI cJ : ClassId) (sz0 : Nat) (r0 : Nat) (th : Int32) (N : Nat) (OU : Nat) (Z : Nat) (r1 : Nat) (r2 : Nat) (r3 : Nat) (r4 : Nat) (r5 : Nat) (r6 : Nat) (r7 : Nat) (r8 : Nat) (r9 : Nat) (r10 : Nat) (r11 : Nat) (r12 : Nat) (r13 : Nat) (r14 : Nat) (bst : Int32) (r15 : Nat) : Met l y_Ref_exact (ct y_Ref_exact b_Ref_exact 3 (some .int)) ({ frames := 1, cells := 0, slots := 0, locals := 29 }) (va_Pc [.ref r0, .int 0] (fun U => U.heap.size = sz0 ∧ va_P (dC, dI) classes [(r0, .inr (8, [.int th, .int ((nI N)), .int ((nI OU)), .int ((nI Z)), .ref r1, .ref r2, .int 0, .ref r3, .ref r4, .ref r5, .ref r6, .ref r7, .ref r8, .int 0, .ref r9, .int 0, .ref r10, .ref r11, .int 0, .ref r12, .int 0, .ref r13, .ref r14, .int bst, .ref r15])), (r9, .inl (cI, 82, .inl ((fun _ => 0)))), (r13, .inl (cI, 82, .inl ((fun _ => 0))))] U.heap ∧ va_K (dC, dI) classes [(cI, .int), (cJ, .long)] U ∧ va_D (fun _ => True) [(r0, .inr (8, [.int th, .int ((nI N)), .int ((nI OU)), .int ((nI Z)), .ref r1, .ref r2, .int 0, .ref r3, .ref r4, .ref r5, .ref r6, .ref r7, .ref r8, .int 0, .ref r9, .int 0, .ref r10, .ref r11, .int 0, .ref r12, .int 0, .ref r13, .ref r14, .int bst, .ref r15])), (r9, .inl (cI, 82, .inl ((fun _ => 0)))), (r13, .inl (cI, 82, .inl ((fun _ => 0))))])) (va_Qi (fun (r : Int32) (_ : Unit) => r = 0) (fun _ => at_w dC dI cI cJ (va_A [(r0, .inr (8, [.int th, .int ((nI N)), .int ((nI OU)), .int ((nI Z)), .ref r1, .ref r2, .int 0, .ref r3, .ref r4, .ref r5, .ref r6, .ref r7, .ref r8, .int 0, .ref r9, .int 0, .ref r10, .ref r11, .int 0, .ref r12, .int 0, .ref r13, .ref r14, .int bst, .ref r15])), (r9, .inl (cI, 82, .inl ((fun _ => 0)))), (r13, .inl (cI, 82, .inl ((fun _ => 0))))] sz0) [(r0, .inr (8, [.int th, .int ((nI N)), .int ((nI OU)), .int ((nI Z)), .ref r1, .ref r2, .int 0, .ref r3, .ref r4, .ref r5, .ref r6, .ref r7, .ref r8, .int 0, .ref r9, .int 0, .ref r10, .ref r11, .int 0, .ref r12, .int 0, .ref r13, .ref r14, .int 0, .ref r15]))]) (va_A [(r0, .inr (8, [.int th, .int ((nI N)), .int ((nI OU)), .int ((nI Z)), .ref r1, .ref r2, .int 0, .ref r3, .ref r4, .ref r5, .ref r6, .ref r7, .ref r8, .int 0, .ref r9, .int 0, .ref r10, .ref r11, .int 0, .ref r12, .int 0, .ref r13, .ref r14, .int bst, .ref r15])), (r9, .inl (cI, 82, .inl ((fun _ => 0)))), (r13, .inl (cI, 82, .inl ((fun _ => 0))))] sz0)) 0 0 (va_A [(r0, .inr (8, [.int th, .int ((nI N)), .int ((nI OU)), .int ((nI Z)), .ref r1, .ref r2, .int 0, .ref r3, .ref r4, .ref r5, .ref r6, .ref r7, .ref r8, .int 0, .ref r9, .int 0, .ref r10, .ref r11, .int 0, .ref r12, .int 0, .ref r13, .ref r14, .int bst, .ref r15])), (r9, .inl (cI, 82, .inl ((fun _ => 0)))), (r13, .inl (cI, 82, .inl ((fun _ => 0))))] sz0) := by
  refine Met.ofW (cc := b_Ref_exact) (maxL := 3) (ret := some .int) (by decide) rfl ?_
  intro p e s m args below meth c s₁ B hml hv
  obtain ⟨rfl, hsz, hP, hK, hD0⟩ := hv
  have hx := B.exec
  have hb := B.bytes
  have hr := B.returns
  have hts : ∀ w ∈ lwg, w.before _ s = true := fun w h => atoms_spec (ws := ct y_Ref_exact b_Ref_exact 3 (some .int)) B.pre w (List.mem_cons_of_mem _ h)
  have hown : s.vm.findClass R_Ref = some m.cls := findClass_of_methodNamed B.named
  have hlocks := B.notSynchronized
  subst hsz
  have hD := hD0.self (sz := s.heap.size)
  generalize hAe : va_A [(r0, .inr (8, [.int th, .int ((nI N)), .int ((nI OU)), .int ((nI Z)), .ref r1, .ref r2, .int 0, .ref r3, .ref r4, .ref r5, .ref r6, .ref r7, .ref r8, .int 0, .ref r9, .int 0, .ref r10, .ref r11, .int 0, .ref r12, .int 0, .ref r13, .ref r14, .int bst, .ref r15])), (r9, .inl (cI, 82, .inl ((fun _ => 0)))), (r13, .inl (cI, 82, .inl ((fun _ => 0))))] s.heap.size = A at hD ⊢
  have hA : ∀ q : Nat, s.heap.size ≤ q → A q := fun q h => by rw [← hAe]; exact Or.inr h
  have hS : va_S A s.heap s.heap [] := va_S.rf
  have hl := lv_entry ([.ref r0, .int 0]) (n := 3) (Nat.le_of_ble_eq_true rfl)
  rw [lg_entry_eq]
  generalize (lg_sl ([.ref r0, .int 0]) ++ List.replicate (3 - (lg_sl ([.ref r0, .int 0])).length) Slot.unset).toArray = ls at hl ⊢
  have hl : lv_has ls 3 [(0, .ref r0), (1, .int 0)] := hl
  have hP : va_P (dC, dI) classes [(r0, .inr (8, [.int th, .int ((nI N)), .int ((nI OU)), .int ((nI Z)), .ref r1, .ref r2, .int 0, .ref r3, .ref r4, .ref r5, .ref r6, .ref r7, .ref r8, .int 0, .ref r9, .int 0, .ref r10, .ref r11, .int 0, .ref r12, .int 0, .ref r13, .ref r14, .int bst, .ref r15])), (r9, .inl (cI, 82, .inl ((fun _ => 0)))), (r13, .inl (cI, 82, .inl ((fun _ => 0))))] s.heap := hP
  refine lv_aload_n hx hb d_Ref_exact_0 rfl (lv_at hl 0 rfl) ?_
  refine va_get (D := (dC, dI)) (ci := 8) (v := .ref r9) (C := R_Ref) (T := F_Ref) (N := 25) hx hb hts i_Ref hown hK hP 0 rfl rfl 14 (by decide) (hts _ mw_fl_Ref_34) (fun _ h9 => h9) rfl d_Ref_exact_1 ?_
  refine lv_aload_n hx hb d_Ref_exact_4 rfl (lv_at hl 0 rfl) ?_
  refine va_get (D := (dC, dI)) (ci := 8) (v := .int 0) (C := R_Ref) (T := F_Ref) (N := 25) hx hb hts i_Ref hown hK hP 0 rfl rfl 13 (by decide) (hts _ mw_fl_Ref_82) (fun _ h9 => h9) rfl d_Ref_exact_5 ?_
  refine lv_iconst (v := 0) hx hb d_Ref_exact_8 (by decide) ?_
  refine va_iast hx hb hK hP hD hS 1 0 rfl rfl (vp_in_nI (n := 0) (N := 82) (by omega) (by omega)) d_Ref_exact_9 (fun H locs hP hD hS => ?_)
  have hP : va_P (dC, dI) classes [(r0, .inr (8, [.int th, .int ((nI N)), .int ((nI OU)), .int ((nI Z)), .ref r1, .ref r2, .int 0, .ref r3, .ref r4, .ref r5, .ref r6, .ref r7, .ref r8, .int 0, .ref r9, .int 0, .ref r10, .ref r11, .int 0, .ref r12, .int 0, .ref r13, .ref r14, .int bst, .ref r15])), (r9, .inl (cI, 82, .inl ((upd ((fun _ => 0)) (0 : Int32).toNatClampNeg 0)))), (r13, .inl (cI, 82, .inl ((fun _ => 0))))] H := hP
  have hD : va_D A [(r0, .inr (8, [.int th, .int ((nI N)), .int ((nI OU)), .int ((nI Z)), .ref r1, .ref r2, .int 0, .ref r3, .ref r4, .ref r5, .ref r6, .ref r7, .ref r8, .int 0, .ref r9, .int 0, .ref r10, .ref r11, .int 0, .ref r12, .int 0, .ref r13, .ref r14, .int bst, .ref r15])), (r9, .inl (cI, 82, .inl ((upd ((fun _ => 0)) (0 : Int32).toNatClampNeg 0)))), (r13, .inl (cI, 82, .inl ((fun _ => 0))))] := hD
  rw [show upd ((fun _ => 0)) (0 : Int32).toNatClampNeg 0 = (fun _ => 0) from upd_id rfl] at hP hD
  have hP : va_P (dC, dI) classes [(r0, .inr (8, [.int th, .int ((nI N)), .int ((nI OU)), .int ((nI Z)), .ref r1, .ref r2, .int 0, .ref r3, .ref r4, .ref r5, .ref r6, .ref r7, .ref r8, .int 0, .ref r9, .int 0, .ref r10, .ref r11, .int 0, .ref r12, .int 0, .ref r13, .ref r14, .int bst, .ref r15])), (r9, .inl (cI, 82, .inl ((fun _ => 0)))), (r13, .inl (cI, 82, .inl ((fun _ => 0))))] H := hP
  have hD : va_D A [(r0, .inr (8, [.int th, .int ((nI N)), .int ((nI OU)), .int ((nI Z)), .ref r1, .ref r2, .int 0, .ref r3, .ref r4, .ref r5, .ref r6, .ref r7, .ref r8, .int 0, .ref r9, .int 0, .ref r10, .ref r11, .int 0, .ref r12, .int 0, .ref r13, .ref r14, .int bst, .ref r15])), (r9, .inl (cI, 82, .inl ((fun _ => 0)))), (r13, .inl (cI, 82, .inl ((fun _ => 0))))] := hD
  refine lv_aload_n hx hb d_Ref_exact_10 rfl (lv_at hl 0 rfl) ?_
  refine va_get (D := (dC, dI)) (ci := 8) (v := .int 0) (C := R_Ref) (T := F_Ref) (N := 25) hx hb hts i_Ref hown hK hP 0 rfl rfl 13 (by decide) (hts _ mw_fl_Ref_82) (fun _ h9 => h9) rfl d_Ref_exact_11 ?_
  refine lv_iconst (v := 1) hx hb d_Ref_exact_14 (by decide) ?_
  refine lv_isub hx hb d_Ref_exact_15 ?_
  refine lv_istore_n (lv' := [(2, .int ((0 - 1))), (0, .ref r0), (1, .int 0)]) hx hb d_Ref_exact_16 rfl hl (by decide) rfl (fun ls hl => ?_)
  refine lv_iload_n hx hb d_Ref_exact_17 rfl (lv_at hl 0 rfl) ?_
  refine lv_if_lt (tgt := 48) hx hb d_Ref_exact_18 (by decide) (fun c_18 => ?_) (fun c_18 => ?_)
  · refine lv_iconst (v := 0) hx hb d_Ref_exact_48 (by decide) ?_
    refine lv_istore_n (lv' := [(2, .int 0), (0, .ref r0), (1, .int 0)]) hx hb d_Ref_exact_49 rfl hl (by decide) rfl (fun ls hl => ?_)
    refine lv_aload_n hx hb d_Ref_exact_50 rfl (lv_at hl 1 rfl) ?_
    refine lv_iload_n hx hb d_Ref_exact_51 rfl (lv_at hl 0 rfl) ?_
    refine lv_iload_n hx hb d_Ref_exact_52 rfl (lv_at hl 2 rfl) ?_
    have hPc := hP.sub (ws' := [(r0, .inr (8, [.int th, .int ((nI N)), .int ((nI OU)), .int ((nI Z)), .ref r1, .ref r2, .int 0, .ref r3, .ref r4, .ref r5, .ref r6, .ref r7, .ref r8, .int 0, .ref r9, .int 0, .ref r10, .ref r11, .int 0, .ref r12, .int 0, .ref r13, .ref r14, .int bst, .ref r15])), (r13, .inl (cI, 82, .inl ((fun _ => 0))))]) [0, 2] rfl
    have hDc := hD.sub (ws' := [(r0, .inr (8, [.int th, .int ((nI N)), .int ((nI OU)), .int ((nI Z)), .ref r1, .ref r2, .int 0, .ref r3, .ref r4, .ref r5, .ref r6, .ref r7, .ref r8, .int 0, .ref r9, .int 0, .ref r10, .ref r11, .int 0, .ref r12, .int 0, .ref r13, .ref r14, .int bst, .ref r15])), (r13, .inl (cI, 82, .inl ((fun _ => 0))))]) [0, 2] (by decide) rfl
    have hFc := va_free (wc := [(r0, .inr (8, [.int th, .int ((nI N)), .int ((nI OU)), .int ((nI Z)), .ref r1, .ref r2, .int 0, .ref r3, .ref r4, .ref r5, .ref r6, .ref r7, .ref r8, .int 0, .ref r9, .int 0, .ref r10, .ref r11, .int 0, .ref r12, .int 0, .ref r13, .ref r14, .int bst, .ref r15])), (r13, .inl (cI, 82, .inl ((fun _ => 0))))]) hD hS hA [0, 2] rfl
    refine va_calli (va_runV (As := [.int 0, .int 0]) (rest := []) ⟨hx, hb, hml, hown, hts⟩ (c_Ref_tryAll l dC dI cI cJ _ r0 th N OU Z r1 r2 r3 r4 r5 r6 r7 r8 r9 r10 r11 r12 r13 r14 bst r15 ) (cwV 2 hts (ct_goodV mw_ml_Ref_97 mw_im_Ref_tryAll mw_se_Ref_tryAll mw_ini_Ref mw_code_Ref_tryAll) rfl rfl rfl (by decide +kernel) ⟨Nat.le_of_ble_eq_true rfl, Nat.le_of_ble_eq_true rfl⟩) ⟨fun a U g mk q => by obtain ⟨q0, q1, qP, qK, qD⟩ := q; exact ⟨q0, q1, qP, va_K.moved (u := U) (U := U.calling g mk a) (Vm.Alike.refl U.vm) qK, qD⟩, va_recv hK hPc (ci := 8) (q0 := 0) rfl rfl, fun U hU hW => ⟨rfl, by rw [hU], by rw [hU]; exact hPc, va_K.moved hW.alike hK, hDc.weaken (fun _ _ _ _ => trivial)⟩⟩ rfl rfl hl.1 rfl (lv_room (Nat.le_of_ble_eq_true rfl)) d_Ref_exact_53 ⟨Nat.le_of_ble_eq_true rfl, Nat.le_of_ble_eq_true rfl⟩) hS (fun q _ h => hFc q h) hFc (fun r_1 u t H1 locs ht hvm hw hB hz1 hk1 hS => ?_)
    obtain ⟨hP1, hK1, hD1⟩ := hB
    rw [ht] at hP1
    obtain ⟨hP, hD⟩ := va_join (wr := [(r9, .inl (cI, 82, .inl ((fun _ => 0))))]) (w1 := [(r0, .inr (8, [.int th, .int ((nI N)), .int ((nI OU)), .int ((nI Z)), .ref r1, .ref r2, .int 0, .ref r3, .ref r4, .ref r5, .ref r6, .ref r7, .ref r8, .int 0, .ref r9, .int 0, .ref r10, .ref r11, .int 0, .ref r12, .int 0, .ref r13, .ref r14, .int 0, .ref r15]))]) hP hD [0, 2] [1] rfl rfl (by decide) (by decide) hk1 hFc hP1 hD1
    clear hPc hDc hFc hP1 hK1 hD1 hk1 hz1 hvm ht
    generalize H1 = H at hP hS ⊢
    have hP : va_P (dC, dI) classes [(r9, .inl (cI, 82, .inl ((fun _ => 0)))), (r0, .inr (8, [.int th, .int ((nI N)), .int ((nI OU)), .int ((nI Z)), .ref r1, .ref r2, .int 0, .ref r3, .ref r4, .ref r5, .ref r6, .ref r7, .ref r8, .int 0, .ref r9, .int 0, .ref r10, .ref r11, .int 0, .ref r12, .int 0, .ref r13, .ref r14, .int 0, .ref r15]))] H := hP
    have hD : va_D A [(r9, .inl (cI, 82, .inl ((fun _ => 0)))), (r0, .inr (8, [.int th, .int ((nI N)), .int ((nI OU)), .int ((nI Z)), .ref r1, .ref r2, .int 0, .ref r3, .ref r4, .ref r5, .ref r6, .ref r7, .ref r8, .int 0, .ref r9, .int 0, .ref r10, .ref r11, .int 0, .ref r12, .int 0, .ref r13, .ref r14, .int 0, .ref r15]))] := hD
    rw [hw]
    clear hw
    refine lv_if_ne (tgt := 65) hx hb d_Ref_exact_56 (by decide) (fun c_56 => ?_) (fun c_56 => ?_)
    · refine lv_iload_n hx hb d_Ref_exact_65 rfl (lv_at hl 0 rfl) ?_
      have hP9 := hP.sub (ws' := [(r0, .inr (8, [.int th, .int ((nI N)), .int ((nI OU)), .int ((nI Z)), .ref r1, .ref r2, .int 0, .ref r3, .ref r4, .ref r5, .ref r6, .ref r7, .ref r8, .int 0, .ref r9, .int 0, .ref r10, .ref r11, .int 0, .ref r12, .int 0, .ref r13, .ref r14, .int 0, .ref r15]))]) [1] rfl
      have hD9 := hD.sub (ws' := [(r0, .inr (8, [.int th, .int ((nI N)), .int ((nI OU)), .int ((nI Z)), .ref r1, .ref r2, .int 0, .ref r3, .ref r4, .ref r5, .ref r6, .ref r7, .ref r8, .int 0, .ref r9, .int 0, .ref r10, .ref r11, .int 0, .ref r12, .int 0, .ref r13, .ref r14, .int 0, .ref r15]))]) [1] (by decide) rfl
      exact W.iret (v := 0) hx hb hr (fun t ht hW => ⟨⟨0, (), rfl, rfl, by rw [ht]; exact hP9, va_K.moved hW.alike hK, hD9⟩, hS.F ht⟩) hS.2.2 d_Ref_exact_66
    · exact absurd c_56 (by decide +kernel)
  · exact absurd c_18 (by decide +kernel)
set_option maxHeartbeats 1000000 in
set_option maxRecDepth 100000 in
theorem c_Ref_quick (l : Launch) (dC : Nat → ClassId) (dI : Nat → Nat → Nat) (cI cJ : ClassId) (sz0 : Nat) (r0 : Nat) (th : Int32) (N : Nat) (OU : Nat) (Z : Nat) (r1 : Nat) (r2 : Nat) (r3 : Nat) (r4 : Nat) (r5 : Nat) (r6 : Nat) (r7 : Nat) (r8 : Nat) (r9 : Nat) (r10 : Nat) (r11 : Nat) (r12 : Nat) (r13 : Nat) (r14 : Nat) (bst : Int32) (r15 : Nat) : Met l y_Ref_quick (ct y_Ref_quick b_Ref_quick 9 (some .int)) ({ frames := 1, cells := 0, slots := 0, locals := 22 }) (va_Pc [.ref r0, .int 0] (fun U => U.heap.size = sz0 ∧ va_P (dC, dI) classes [(r0, .inr (8, [.int th, .int ((nI N)), .int ((nI OU)), .int ((nI Z)), .ref r1, .ref r2, .int 0, .ref r3, .ref r4, .ref r5, .ref r6, .ref r7, .ref r8, .int 0, .ref r9, .int 0, .ref r10, .ref r11, .int 0, .ref r12, .int 0, .ref r13, .ref r14, .int bst, .ref r15]))] U.heap ∧ va_K (dC, dI) classes [(cI, .int), (cJ, .long)] U ∧ va_D (fun _ => True) [(r0, .inr (8, [.int th, .int ((nI N)), .int ((nI OU)), .int ((nI Z)), .ref r1, .ref r2, .int 0, .ref r3, .ref r4, .ref r5, .ref r6, .ref r7, .ref r8, .int 0, .ref r9, .int 0, .ref r10, .ref r11, .int 0, .ref r12, .int 0, .ref r13, .ref r14, .int bst, .ref r15]))])) (va_Qi (fun (r : Int32) (_ : Unit) => r = 0) (fun _ => at_w dC dI cI cJ (va_A [(r0, .inr (8, [.int th, .int ((nI N)), .int ((nI OU)), .int ((nI Z)), .ref r1, .ref r2, .int 0, .ref r3, .ref r4, .ref r5, .ref r6, .ref r7, .ref r8, .int 0, .ref r9, .int 0, .ref r10, .ref r11, .int 0, .ref r12, .int 0, .ref r13, .ref r14, .int bst, .ref r15]))] sz0) [(r0, .inr (8, [.int th, .int ((nI N)), .int ((nI OU)), .int ((nI Z)), .ref r1, .ref r2, .int 0, .ref r3, .ref r4, .ref r5, .ref r6, .ref r7, .ref r8, .int 0, .ref r9, .int 0, .ref r10, .ref r11, .int 0, .ref r12, .int 0, .ref r13, .ref r14, .int bst, .ref r15]))]) (va_A [(r0, .inr (8, [.int th, .int ((nI N)), .int ((nI OU)), .int ((nI Z)), .ref r1, .ref r2, .int 0, .ref r3, .ref r4, .ref r5, .ref r6, .ref r7, .ref r8, .int 0, .ref r9, .int 0, .ref r10, .ref r11, .int 0, .ref r12, .int 0, .ref r13, .ref r14, .int bst, .ref r15]))] sz0)) 0 0 (va_A [(r0, .inr (8, [.int th, .int ((nI N)), .int ((nI OU)), .int ((nI Z)), .ref r1, .ref r2, .int 0, .ref r3, .ref r4, .ref r5, .ref r6, .ref r7, .ref r8, .int 0, .ref r9, .int 0, .ref r10, .ref r11, .int 0, .ref r12, .int 0, .ref r13, .ref r14, .int bst, .ref r15]))] sz0) := by
  refine Met.ofW (cc := b_Ref_quick) (maxL := 9) (ret := some .int) (by decide) rfl ?_
  intro p e s m args below meth c s₁ B hml hv
  obtain ⟨rfl, hsz, hP, hK, hD0⟩ := hv
  have hx := B.exec
  have hb := B.bytes
  have hr := B.returns
  have hts : ∀ w ∈ lwg, w.before _ s = true := fun w h => atoms_spec (ws := ct y_Ref_quick b_Ref_quick 9 (some .int)) B.pre w (List.mem_cons_of_mem _ h)
  have hown : s.vm.findClass R_Ref = some m.cls := findClass_of_methodNamed B.named
  have hlocks := B.notSynchronized
  subst hsz
  have hD := hD0.self (sz := s.heap.size)
  generalize hAe : va_A [(r0, .inr (8, [.int th, .int ((nI N)), .int ((nI OU)), .int ((nI Z)), .ref r1, .ref r2, .int 0, .ref r3, .ref r4, .ref r5, .ref r6, .ref r7, .ref r8, .int 0, .ref r9, .int 0, .ref r10, .ref r11, .int 0, .ref r12, .int 0, .ref r13, .ref r14, .int bst, .ref r15]))] s.heap.size = A at hD ⊢
  have hA : ∀ q : Nat, s.heap.size ≤ q → A q := fun q h => by rw [← hAe]; exact Or.inr h
  have hS : va_S A s.heap s.heap [] := va_S.rf
  have hl := lv_entry ([.ref r0, .int 0]) (n := 9) (Nat.le_of_ble_eq_true rfl)
  rw [lg_entry_eq]
  generalize (lg_sl ([.ref r0, .int 0]) ++ List.replicate (9 - (lg_sl ([.ref r0, .int 0])).length) Slot.unset).toArray = ls at hl ⊢
  have hl : lv_has ls 9 [(0, .ref r0), (1, .int 0)] := hl
  have hP : va_P (dC, dI) classes [(r0, .inr (8, [.int th, .int ((nI N)), .int ((nI OU)), .int ((nI Z)), .ref r1, .ref r2, .int 0, .ref r3, .ref r4, .ref r5, .ref r6, .ref r7, .ref r8, .int 0, .ref r9, .int 0, .ref r10, .ref r11, .int 0, .ref r12, .int 0, .ref r13, .ref r14, .int bst, .ref r15]))] s.heap := hP
  refine lv_iconst (v := 0) hx hb d_Ref_quick_0 (by decide) ?_
  refine lv_istore_n (lv' := [(2, .int 0), (0, .ref r0), (1, .int 0)]) hx hb d_Ref_quick_1 rfl hl (by decide) rfl (fun ls hl => ?_)
  refine lv_iconst (v := 0) hx hb d_Ref_quick_2 (by decide) ?_
  refine lv_istore_n (lv' := [(3, .int 0), (2, .int 0), (0, .ref r0), (1, .int 0)]) hx hb d_Ref_quick_3 rfl hl (by decide) rfl (fun ls hl => ?_)
  refine lv_iload_n hx hb d_Ref_quick_4 rfl (lv_at hl 3 rfl) ?_
  refine lv_iload_n hx hb d_Ref_quick_5 rfl (lv_at hl 0 rfl) ?_
  refine lv_iconst (v := (-1)) hx hb d_Ref_quick_6 (by decide) ?_
  refine lv_ixor hx hb d_Ref_quick_7 ?_
  refine lv_iand hx hb d_Ref_quick_8 ?_
  refine lv_if_eq (tgt := 155) hx hb d_Ref_quick_9 (by decide) (fun c_9 => ?_) (fun c_9 => ?_)
  · refine lv_iload_n hx hb d_Ref_quick_155 rfl (lv_at hl 1 rfl) ?_
    refine lv_iconst (v := 1) hx hb d_Ref_quick_156 (by decide) ?_
    refine lv_isub hx hb d_Ref_quick_157 ?_
    refine lv_istore (lv' := [(4, .int ((0 - 1))), (3, .int 0), (2, .int 0), (0, .ref r0), (1, .int 0)]) hx hb d_Ref_quick_158 hl (by decide) rfl (fun ls hl => ?_)
    refine lv_iload hx hb d_Ref_quick_160 (lv_at hl 0 rfl) ?_
    refine lv_if_lt (tgt := 255) hx hb d_Ref_quick_162 (by decide) (fun c_162 => ?_) (fun c_162 => ?_)
    · refine lv_iconst (v := 0) hx hb d_Ref_quick_255 (by decide) ?_
      refine lv_istore (lv' := [(4, .int 0), (3, .int 0), (2, .int 0), (0, .ref r0), (1, .int 0)]) hx hb d_Ref_quick_256 hl (by decide) rfl (fun ls hl => ?_)
      refine lv_iconst (v := 0) hx hb d_Ref_quick_258 (by decide) ?_
      refine lv_istore (lv' := [(5, .int 0), (4, .int 0), (3, .int 0), (2, .int 0), (0, .ref r0), (1, .int 0)]) hx hb d_Ref_quick_259 hl (by decide) rfl (fun ls hl => ?_)
      refine lv_iload hx hb d_Ref_quick_261 (lv_at hl 0 rfl) ?_
      refine lv_aload_n hx hb d_Ref_quick_263 rfl (lv_at hl 4 rfl) ?_
      refine va_get (D := (dC, dI)) (ci := 8) (v := .int 0) (C := R_Ref) (T := F_Ref) (N := 25) hx hb hts i_Ref hown hK hP 0 rfl rfl 13 (by decide) (hts _ mw_fl_Ref_82) (fun _ h9 => h9) rfl d_Ref_quick_264 ?_
      refine lv_icmp_ge (tgt := 315) hx hb d_Ref_quick_267 (by decide) (fun c_267 => ?_) (fun c_267 => ?_)
      · refine lv_iload hx hb d_Ref_quick_315 (lv_at hl 1 rfl) ?_
        have hP9 := hP.sub (ws' := [(r0, .inr (8, [.int th, .int ((nI N)), .int ((nI OU)), .int ((nI Z)), .ref r1, .ref r2, .int 0, .ref r3, .ref r4, .ref r5, .ref r6, .ref r7, .ref r8, .int 0, .ref r9, .int 0, .ref r10, .ref r11, .int 0, .ref r12, .int 0, .ref r13, .ref r14, .int bst, .ref r15]))]) [0] rfl
        have hD9 := hD.sub (ws' := [(r0, .inr (8, [.int th, .int ((nI N)), .int ((nI OU)), .int ((nI Z)), .ref r1, .ref r2, .int 0, .ref r3, .ref r4, .ref r5, .ref r6, .ref r7, .ref r8, .int 0, .ref r9, .int 0, .ref r10, .ref r11, .int 0, .ref r12, .int 0, .ref r13, .ref r14, .int bst, .ref r15]))]) [0] (by decide) rfl
        exact W.iret (v := 0) hx hb hr (fun t ht hW => ⟨⟨0, (), rfl, rfl, by rw [ht]; exact hP9, va_K.moved hW.alike hK, hD9⟩, hS.F ht⟩) hS.2.2 d_Ref_quick_317
      · exact absurd c_267 (by decide +kernel)
    · exact absurd c_162 (by decide +kernel)
  · exact absurd c_9 (by decide +kernel)
set_option maxHeartbeats 1000000 in
set_option maxRecDepth 100000 in
theorem lpf_Ref_tautology {p : Program} {e : Env} {s : State} {m : MethodId} {args : Array Value} {below : List Frame} {meth : Method} {c : Code} (l : Launch) (dC : Nat → ClassId) (dI : Nat → Nat → Nat) (cI cJ : ClassId) (r0 : Nat) (th : Int32) (N : Nat) (OU : Nat) (Z : Nat) (r1 : Nat) (r2 : Nat) (r3 : Nat) (r4 : Nat) (r5 : Nat) (r6 : Nat) (r7 : Nat) (r8 : Nat) (r9 : Nat) (r10 : Nat) (r11 : Nat) (r12 : Nat) (r13 : Nat) (r14 : Nat) (bst : Int32) (r15 : Nat) (hN : N ≤ 4) (hOU : OU ≤ 2) (hO1 : 1 ≤ OU) (hx : p.tables.exec = Jvm.exec) (hb : c.code = b_Ref_tautology) (hr : meth.sig.returnType = some .boolean) (hts : ∀ w ∈ lwg, w.before args s = true) (hown : s.vm.findClass R_Ref = some m.cls) (hlocks : meth.locks = false) (hml : c.maxLocals = 3) (hK : va_K (dC, dI) classes [(cI, .int), (cJ, .long)] s) {A : Nat → Prop} (hA : ∀ q : Nat, s.heap.size ≤ q → A q) : ∀ (fu i : Nat), OU - i < fu → i ≤ OU → ∀ (H : Heap) (locs : List Loc) (ls : Array Slot), va_P (dC, dI) classes [(r0, .inr (8, [.int 0, .int ((nI N)), .int ((nI OU)), .int ((nI Z)), .ref r1, .ref r2, .int 0, .ref r3, .ref r4, .ref r5, .ref r6, .ref r7, .ref r8, .int 0, .ref r9, .int 0, .ref r10, .ref r11, .int 0, .ref r12, .int 0, .ref r13, .ref r14, .int bst, .ref r15])), (r3, .inl (cI, 2, .inl ((fun _ => 0)))), (r4, .inl (cI, 2, .inl ((fun _ => 0))))] H → va_D A [(r0, .inr (8, [.int 0, .int ((nI N)), .int ((nI OU)), .int ((nI Z)), .ref r1, .ref r2, .int 0, .ref r3, .ref r4, .ref r5, .ref r6, .ref r7, .ref r8, .int 0, .ref r9, .int 0, .ref r10, .ref r11, .int 0, .ref r12, .int 0, .ref r13, .ref r14, .int bst, .ref r15])), (r3, .inl (cI, 2, .inl ((fun _ => 0)))), (r4, .inl (cI, 2, .inl ((fun _ => 0))))] → va_S A s.heap H locs → lv_has ls 3 [(0, .ref r0), (1, .int ((tt i))), (2, .int ((nI i)))] → W p l e ({ frames := 3, cells := 0, slots := 0, locals := 74 } : Room) s m args below meth c H locs 0 0 (MQ below (va_Qi (fun (r : Int32) (_ : Unit) => r = 0) (fun _ => at_w dC dI cI cJ A []) A) args s 0 0 A) (F0 m 13 ls []) := by
  intro fu
  induction fu with
  | zero => intro i h; omega
  | succ fu ih =>
    intro i hfu hle H locs ls hP hD hS hl
    refine lv_iload_n hx hb d_Ref_tautology_13 rfl (lv_at hl 2 rfl) ?_
    refine lv_aload_n hx hb d_Ref_tautology_14 rfl (lv_at hl 0 rfl) ?_
    refine va_get (D := (dC, dI)) (ci := 8) (v := .int ((nI OU))) (C := R_Ref) (T := F_Ref) (N := 25) hx hb hts i_Ref hown hK hP 0 rfl rfl 2 (by decide) (hts _ mw_fl_Ref_59) (fun _ h9 => h9) rfl d_Ref_tautology_15 ?_
    refine lv_icmp_ge (tgt := 56) hx hb d_Ref_tautology_18 (by decide) (fun c_18 => ?_) (fun c_18 => ?_)
    · have hE : i = OU := Nat.le_antisymm hle ((nI_leI (a := OU) (b := i) (by omega) (by omega)).mp c_18)
      refine lv_iload_n hx hb d_Ref_tautology_56 rfl (lv_at hl 1 rfl) ?_
      refine w_ti (show _ = 0 from by subst hE; exact tt_0 hO1) ?_
      have hP9 := hP.sub (ws' := []) [] rfl
      have hD9 := hD.sub (ws' := []) [] (by decide) rfl
      exact W.zret (v := (0)) hx hb hr (by decide) (fun t ht hW => ⟨⟨(0), (), rfl, by subst hE; rfl, by rw [ht]; exact hP9, va_K.moved hW.alike hK, hD9⟩, hS.F ht⟩) hS.2.2 d_Ref_tautology_57
    · have hlt : i < OU := Nat.lt_of_not_le (fun h => c_18 ((nI_leI (a := OU) (b := i) (by omega) (by omega)).mpr h))
      refine lv_iload_n hx hb d_Ref_tautology_21 rfl (lv_at hl 1 rfl) ?_
      refine lv_if_eq (tgt := 48) hx hb d_Ref_tautology_22 (by decide) (fun c_22 => ?_) (fun c_22 => ?_)
      · refine lv_iconst (v := 0) hx hb d_Ref_tautology_48 (by decide) ?_
        refine w_ti (show _ = tt (i + 1) from rfl) ?_
        refine lv_istore_n (lv' := [(1, .int ((tt (i + 1)))), (0, .ref r0), (2, .int ((nI i)))]) hx hb d_Ref_tautology_49 rfl hl (by decide) rfl (fun ls hl => ?_)
        refine lv_iinc (v := (nI (i + 1))) (lv' := [(2, .int ((nI (i + 1)))), (1, .int ((tt (i + 1)))), (0, .ref r0)]) hx hb d_Ref_tautology_50 hl (k := 2) rfl (show nI i + 1 = nI (i + 1) from nI_1 i) (by decide) rfl (fun ls hl => ?_)
        refine lv_goto (tgt := 13) hx hb d_Ref_tautology_53 (by decide) ?_
        exact ih (i + 1) (by omega) (by omega) _ _ ls (hP.sub [0, 1, 2] rfl) (hD.sub [0, 1, 2] (by decide) rfl) hS (lv_sub hl [2, 1, 0] rfl)
      · refine lv_aload_n hx hb d_Ref_tautology_25 rfl (lv_at hl 0 rfl) ?_
        refine va_get (D := (dC, dI)) (ci := 8) (v := .ref r4) (C := R_Ref) (T := F_Ref) (N := 25) hx hb hts i_Ref hown hK hP 0 rfl rfl 8 (by decide) (hts _ mw_fl_Ref_19) (fun _ h9 => h9) rfl d_Ref_tautology_26 ?_
        refine lv_iload_n hx hb d_Ref_tautology_29 rfl (lv_at hl 2 rfl) ?_
        refine va_iald hx hb hK hP 2 0 rfl rfl (vp_in_nI (show i < 2 by omega) (by omega)) d_Ref_tautology_30 ?_
        refine w_ti (show _ = 0 from rfl) ?_
        refine lv_iconst (v := 1) hx hb d_Ref_tautology_31 (by decide) ?_
        refine lv_iconst (v := 1) hx hb d_Ref_tautology_32 (by decide) ?_
        refine lv_aload_n hx hb d_Ref_tautology_33 rfl (lv_at hl 0 rfl) ?_
        refine va_get (D := (dC, dI)) (ci := 8) (v := .int ((nI N))) (C := R_Ref) (T := F_Ref) (N := 25) hx hb hts i_Ref hown hK hP 0 rfl rfl 1 (by decide) (hts _ mw_fl_Ref_55) (fun _ h9 => h9) rfl d_Ref_tautology_34 ?_
        refine lv_ishl hx hb d_Ref_tautology_37 ?_
        refine lv_ishl hx hb d_Ref_tautology_38 ?_
        refine lv_iconst (v := 1) hx hb d_Ref_tautology_39 (by decide) ?_
        refine lv_isub hx hb d_Ref_tautology_40 ?_
        refine lv_icmp_ne (tgt := 48) hx hb d_Ref_tautology_41 (by decide) (fun c_41 => ?_) (fun c_41 => ?_)
        · refine lv_iconst (v := 0) hx hb d_Ref_tautology_48 (by decide) ?_
          refine w_ti (show _ = tt (i + 1) from rfl) ?_
          refine lv_istore_n (lv' := [(1, .int ((tt (i + 1)))), (0, .ref r0), (2, .int ((nI i)))]) hx hb d_Ref_tautology_49 rfl hl (by decide) rfl (fun ls hl => ?_)
          refine lv_iinc (v := (nI (i + 1))) (lv' := [(2, .int ((nI (i + 1)))), (1, .int ((tt (i + 1)))), (0, .ref r0)]) hx hb d_Ref_tautology_50 hl (k := 2) rfl (show nI i + 1 = nI (i + 1) from nI_1 i) (by decide) rfl (fun ls hl => ?_)
          refine lv_goto (tgt := 13) hx hb d_Ref_tautology_53 (by decide) ?_
          exact ih (i + 1) (by omega) (by omega) _ _ ls (hP.sub [0, 1, 2] rfl) (hD.sub [0, 1, 2] (by decide) rfl) hS (lv_sub hl [2, 1, 0] rfl)
        · exact absurd c_41 (all_ne hN)
set_option maxHeartbeats 1000000 in
set_option maxRecDepth 100000 in
theorem c_Ref_tautology (l : Launch) (dC : Nat → ClassId) (dI : Nat → Nat → Nat) (cI cJ : ClassId) (sz0 : Nat) (r0 : Nat) (th : Int32) (N : Nat) (OU : Nat) (Z : Nat) (r1 : Nat) (r2 : Nat) (r3 : Nat) (r4 : Nat) (r5 : Nat) (r6 : Nat) (r7 : Nat) (r8 : Nat) (r9 : Nat) (r10 : Nat) (r11 : Nat) (r12 : Nat) (r13 : Nat) (r14 : Nat) (bst : Int32) (r15 : Nat) (hN : N ≤ 4) (hOU : OU ≤ 2) (hO1 : 1 ≤ OU) : Met l y_Ref_tautology (ct y_Ref_tautology b_Ref_tautology 3 (some .boolean)) ({ frames := 3, cells := 0, slots := 0, locals := 74 }) (va_Pc [.ref r0] (fun U => U.heap.size = sz0 ∧ va_P (dC, dI) classes [(r0, .inr (8, [.int th, .int ((nI N)), .int ((nI OU)), .int ((nI Z)), .ref r1, .ref r2, .int 0, .ref r3, .ref r4, .ref r5, .ref r6, .ref r7, .ref r8, .int 0, .ref r9, .int 0, .ref r10, .ref r11, .int 0, .ref r12, .int 0, .ref r13, .ref r14, .int bst, .ref r15])), (r3, .inl (cI, 2, .inl ((fun _ => 0)))), (r4, .inl (cI, 2, .inl ((fun _ => 0))))] U.heap ∧ va_K (dC, dI) classes [(cI, .int), (cJ, .long)] U ∧ va_D (fun _ => True) [(r0, .inr (8, [.int th, .int ((nI N)), .int ((nI OU)), .int ((nI Z)), .ref r1, .ref r2, .int 0, .ref r3, .ref r4, .ref r5, .ref r6, .ref r7, .ref r8, .int 0, .ref r9, .int 0, .ref r10, .ref r11, .int 0, .ref r12, .int 0, .ref r13, .ref r14, .int bst, .ref r15])), (r3, .inl (cI, 2, .inl ((fun _ => 0)))), (r4, .inl (cI, 2, .inl ((fun _ => 0))))])) (va_Qi (fun (r : Int32) (_ : Unit) => r = 0) (fun _ => at_w dC dI cI cJ (va_A [(r0, .inr (8, [.int th, .int ((nI N)), .int ((nI OU)), .int ((nI Z)), .ref r1, .ref r2, .int 0, .ref r3, .ref r4, .ref r5, .ref r6, .ref r7, .ref r8, .int 0, .ref r9, .int 0, .ref r10, .ref r11, .int 0, .ref r12, .int 0, .ref r13, .ref r14, .int bst, .ref r15])), (r3, .inl (cI, 2, .inl ((fun _ => 0)))), (r4, .inl (cI, 2, .inl ((fun _ => 0))))] sz0) []) (va_A [(r0, .inr (8, [.int th, .int ((nI N)), .int ((nI OU)), .int ((nI Z)), .ref r1, .ref r2, .int 0, .ref r3, .ref r4, .ref r5, .ref r6, .ref r7, .ref r8, .int 0, .ref r9, .int 0, .ref r10, .ref r11, .int 0, .ref r12, .int 0, .ref r13, .ref r14, .int bst, .ref r15])), (r3, .inl (cI, 2, .inl ((fun _ => 0)))), (r4, .inl (cI, 2, .inl ((fun _ => 0))))] sz0)) 0 0 (va_A [(r0, .inr (8, [.int th, .int ((nI N)), .int ((nI OU)), .int ((nI Z)), .ref r1, .ref r2, .int 0, .ref r3, .ref r4, .ref r5, .ref r6, .ref r7, .ref r8, .int 0, .ref r9, .int 0, .ref r10, .ref r11, .int 0, .ref r12, .int 0, .ref r13, .ref r14, .int bst, .ref r15])), (r3, .inl (cI, 2, .inl ((fun _ => 0)))), (r4, .inl (cI, 2, .inl ((fun _ => 0))))] sz0) := by
  refine Met.ofW (cc := b_Ref_tautology) (maxL := 3) (ret := some .boolean) (by decide) rfl ?_
  intro p e s m args below meth c s₁ B hml hv
  obtain ⟨rfl, hsz, hP, hK, hD0⟩ := hv
  have hx := B.exec
  have hb := B.bytes
  have hr := B.returns
  have hts : ∀ w ∈ lwg, w.before _ s = true := fun w h => atoms_spec (ws := ct y_Ref_tautology b_Ref_tautology 3 (some .boolean)) B.pre w (List.mem_cons_of_mem _ h)
  have hown : s.vm.findClass R_Ref = some m.cls := findClass_of_methodNamed B.named
  have hlocks := B.notSynchronized
  subst hsz
  have hD := hD0.self (sz := s.heap.size)
  generalize hAe : va_A [(r0, .inr (8, [.int th, .int ((nI N)), .int ((nI OU)), .int ((nI Z)), .ref r1, .ref r2, .int 0, .ref r3, .ref r4, .ref r5, .ref r6, .ref r7, .ref r8, .int 0, .ref r9, .int 0, .ref r10, .ref r11, .int 0, .ref r12, .int 0, .ref r13, .ref r14, .int bst, .ref r15])), (r3, .inl (cI, 2, .inl ((fun _ => 0)))), (r4, .inl (cI, 2, .inl ((fun _ => 0))))] s.heap.size = A at hD ⊢
  have hA : ∀ q : Nat, s.heap.size ≤ q → A q := fun q h => by rw [← hAe]; exact Or.inr h
  have hS : va_S A s.heap s.heap [] := va_S.rf
  have hl := lv_entry ([.ref r0]) (n := 3) (Nat.le_of_ble_eq_true rfl)
  rw [lg_entry_eq]
  generalize (lg_sl ([.ref r0]) ++ List.replicate (3 - (lg_sl ([.ref r0])).length) Slot.unset).toArray = ls at hl ⊢
  have hl : lv_has ls 3 [(0, .ref r0)] := hl
  have hP : va_P (dC, dI) classes [(r0, .inr (8, [.int th, .int ((nI N)), .int ((nI OU)), .int ((nI Z)), .ref r1, .ref r2, .int 0, .ref r3, .ref r4, .ref r5, .ref r6, .ref r7, .ref r8, .int 0, .ref r9, .int 0, .ref r10, .ref r11, .int 0, .ref r12, .int 0, .ref r13, .ref r14, .int bst, .ref r15])), (r3, .inl (cI, 2, .inl ((fun _ => 0)))), (r4, .inl (cI, 2, .inl ((fun _ => 0))))] s.heap := hP
  refine lv_aload_n hx hb d_Ref_tautology_0 rfl (lv_at hl 0 rfl) ?_
  refine lv_iconst (v := 0) hx hb d_Ref_tautology_1 (by decide) ?_
  refine va_put (D := (dC, dI)) (ci := 8) (v := .int 0) (ty := .int) (C := R_Ref) (T := F_Ref) (N := 25) hx hb hts i_Ref t_Ref t_Ref_ok n_Ref hown hK hP hD hS 0 rfl rfl 0 (by decide) (hts _ mw_fl_Ref_65) (fun _ h9 => h9) rfl (by decide +kernel) rfl rfl (Nat.le_of_ble_eq_true rfl) d_Ref_tautology_2 (fun H locs hP hD hS => ?_)
  have hP : va_P (dC, dI) classes [(r0, .inr (8, [.int 0, .int ((nI N)), .int ((nI OU)), .int ((nI Z)), .ref r1, .ref r2, .int 0, .ref r3, .ref r4, .ref r5, .ref r6, .ref r7, .ref r8, .int 0, .ref r9, .int 0, .ref r10, .ref r11, .int 0, .ref r12, .int 0, .ref r13, .ref r14, .int bst, .ref r15])), (r3, .inl (cI, 2, .inl ((fun _ => 0)))), (r4, .inl (cI, 2, .inl ((fun _ => 0))))] H := hP
  have hD : va_D A [(r0, .inr (8, [.int 0, .int ((nI N)), .int ((nI OU)), .int ((nI Z)), .ref r1, .ref r2, .int 0, .ref r3, .ref r4, .ref r5, .ref r6, .ref r7, .ref r8, .int 0, .ref r9, .int 0, .ref r10, .ref r11, .int 0, .ref r12, .int 0, .ref r13, .ref r14, .int bst, .ref r15])), (r3, .inl (cI, 2, .inl ((fun _ => 0)))), (r4, .inl (cI, 2, .inl ((fun _ => 0))))] := hD
  refine lv_aload_n hx hb d_Ref_tautology_5 rfl (lv_at hl 0 rfl) ?_
  have hPc := hP.sub (ws' := [(r0, .inr (8, [.int 0, .int ((nI N)), .int ((nI OU)), .int ((nI Z)), .ref r1, .ref r2, .int 0, .ref r3, .ref r4, .ref r5, .ref r6, .ref r7, .ref r8, .int 0, .ref r9, .int 0, .ref r10, .ref r11, .int 0, .ref r12, .int 0, .ref r13, .ref r14, .int bst, .ref r15])), (r3, .inl (cI, 2, .inl ((fun _ => 0)))), (r4, .inl (cI, 2, .inl ((fun _ => 0))))]) [0, 1, 2] rfl
  have hDc := hD.sub (ws' := [(r0, .inr (8, [.int 0, .int ((nI N)), .int ((nI OU)), .int ((nI Z)), .ref r1, .ref r2, .int 0, .ref r3, .ref r4, .ref r5, .ref r6, .ref r7, .ref r8, .int 0, .ref r9, .int 0, .ref r10, .ref r11, .int 0, .ref r12, .int 0, .ref r13, .ref r14, .int bst, .ref r15])), (r3, .inl (cI, 2, .inl ((fun _ => 0)))), (r4, .inl (cI, 2, .inl ((fun _ => 0))))]) [0, 1, 2] (by decide) rfl
  have hFc := va_free (wc := [(r0, .inr (8, [.int 0, .int ((nI N)), .int ((nI OU)), .int ((nI Z)), .ref r1, .ref r2, .int 0, .ref r3, .ref r4, .ref r5, .ref r6, .ref r7, .ref r8, .int 0, .ref r9, .int 0, .ref r10, .ref r11, .int 0, .ref r12, .int 0, .ref r13, .ref r14, .int bst, .ref r15])), (r3, .inl (cI, 2, .inl ((fun _ => 0)))), (r4, .inl (cI, 2, .inl ((fun _ => 0))))]) hD hS hA [0, 1, 2] rfl
  refine va_callv (va_runV (As := []) (rest := []) ⟨hx, hb, hml, hown, hts⟩ (c_Ref_work l dC dI cI cJ _ r0 0 N OU Z r1 r2 r3 r4 r5 r6 r7 r8 r9 r10 r11 r12 r13 r14 bst r15 ) (cwV 0 hts (ct_goodV mw_ml_Ref_79 mw_im_Ref_work mw_se_Ref_work mw_ini_Ref mw_code_Ref_work) rfl rfl rfl (by decide +kernel) ⟨Nat.le_of_ble_eq_true rfl, Nat.le_of_ble_eq_true rfl⟩) ⟨fun a U g mk q => by obtain ⟨q0, q1, qP, qK, qD⟩ := q; exact ⟨q0, q1, qP, va_K.moved (u := U) (U := U.calling g mk a) (Vm.Alike.refl U.vm) qK, qD⟩, va_recv hK hPc (ci := 8) (q0 := 0) rfl rfl, fun U hU hW => ⟨rfl, by rw [hU], by rw [hU]; exact hPc, va_K.moved hW.alike hK, hDc.weaken (fun _ _ _ _ => trivial)⟩⟩ rfl rfl hl.1 rfl (lv_room (Nat.le_of_ble_eq_true rfl)) d_Ref_tautology_6 ⟨Nat.le_of_ble_eq_true rfl, Nat.le_of_ble_eq_true rfl⟩) hS (fun q _ h => hFc q h) hFc (fun u t H1 locs ht hvm hw hB hz1 hk1 hS => ?_)
  obtain ⟨hP1, hK1, hD1⟩ := hB
  rw [ht] at hP1
  obtain ⟨hP, hD⟩ := va_join (wr := []) (w1 := [(r0, .inr (8, [.int 0, .int ((nI N)), .int ((nI OU)), .int ((nI Z)), .ref r1, .ref r2, .int 0, .ref r3, .ref r4, .ref r5, .ref r6, .ref r7, .ref r8, .int 0, .ref r9, .int 0, .ref r10, .ref r11, .int 0, .ref r12, .int 0, .ref r13, .ref r14, .int bst, .ref r15])), (r3, .inl (cI, 2, .inl ((fun _ => 0)))), (r4, .inl (cI, 2, .inl ((fun _ => 0))))]) hP hD [0, 1, 2] [] rfl rfl (by decide) (by decide) hk1 hFc hP1 hD1
  clear hPc hDc hFc hP1 hK1 hD1 hk1 hz1 hvm ht
  generalize H1 = H at hP hS ⊢
  have hP : va_P (dC, dI) classes [(r0, .inr (8, [.int 0, .int ((nI N)), .int ((nI OU)), .int ((nI Z)), .ref r1, .ref r2, .int 0, .ref r3, .ref r4, .ref r5, .ref r6, .ref r7, .ref r8, .int 0, .ref r9, .int 0, .ref r10, .ref r11, .int 0, .ref r12, .int 0, .ref r13, .ref r14, .int bst, .ref r15])), (r3, .inl (cI, 2, .inl ((fun _ => 0)))), (r4, .inl (cI, 2, .inl ((fun _ => 0))))] H := hP
  have hD : va_D A [(r0, .inr (8, [.int 0, .int ((nI N)), .int ((nI OU)), .int ((nI Z)), .ref r1, .ref r2, .int 0, .ref r3, .ref r4, .ref r5, .ref r6, .ref r7, .ref r8, .int 0, .ref r9, .int 0, .ref r10, .ref r11, .int 0, .ref r12, .int 0, .ref r13, .ref r14, .int bst, .ref r15])), (r3, .inl (cI, 2, .inl ((fun _ => 0)))), (r4, .inl (cI, 2, .inl ((fun _ => 0))))] := hD
  refine lv_iconst (v := 1) hx hb d_Ref_tautology_9 (by decide) ?_
  refine lv_istore_n (lv' := [(1, .int 1), (0, .ref r0)]) hx hb d_Ref_tautology_10 rfl hl (by decide) rfl (fun ls hl => ?_)
  refine lv_iconst (v := 0) hx hb d_Ref_tautology_11 (by decide) ?_
  refine lv_istore_n (lv' := [(2, .int 0), (1, .int 1), (0, .ref r0)]) hx hb d_Ref_tautology_12 rfl hl (by decide) rfl (fun ls hl => ?_)
  exact lpf_Ref_tautology l dC dI cI cJ r0 th N OU Z r1 r2 r3 r4 r5 r6 r7 r8 r9 r10 r11 r12 r13 r14 bst r15 hN hOU hO1 hx hb hr hts hown hlocks hml hK hA (OU + 1) 0 (by omega) (Nat.zero_le _) _ _ ls (hP.sub [0, 1, 2] rfl) (hD.sub [0, 1, 2] (by decide) rfl) hS (lv_sub hl [2, 1, 0] rfl)
