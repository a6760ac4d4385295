/-! ===== the reference on a fresh object: orders, diagrams ===== -/
def rOrd (N : Nat) : Nat := if (3 : Int32) ≤ nI N then (if nI N = 3 then 6 else 24) else N
theorem rOrd_le {N : Nat} (h : N ≤ 4) : rOrd N ≤ 24 ∧ (1 ≤ N → 1 ≤ rOrd N) := by
  rcases (show N = 0 ∨ N = 1 ∨ N = 2 ∨ N = 3 ∨ N = 4 by omega) with rfl | rfl | rfl | rfl | rfl <;> decide +kernel
/-- the input that is found: from inp on, behind sk others of the free ones; fu tries -/
def wrD (fr : Int32) : Nat → Int32 → Int32 → Int32
  | 0, _, inp => inp
  | f + 1, sk, inp => if (fr >>> (inp &&& 31)) &&& 1 = 0 then wrD fr f (if (fr >>> (inp &&& 31)) &&& 1 = 1 then sk - 1 else sk) (inp + 1) else if sk ≤ 0 then inp else wrD fr f (if (fr >>> (inp &&& 31)) &&& 1 = 1 then sk - 1 else sk) (inp + 1)
def wrO (fr : Int32) : Nat → Int32 → Int32 → Bool
  | 0, _, _ => false
  | f + 1, sk, inp => if (fr >>> (inp &&& 31)) &&& 1 = 0 then wrO fr f (if (fr >>> (inp &&& 31)) &&& 1 = 1 then sk - 1 else sk) (inp + 1) else if sk ≤ 0 then true else wrO fr f (if (fr >>> (inp &&& 31)) &&& 1 = 1 then sk - 1 else sk) (inp + 1)
def iaStep (N k : Nat) (x : Int32 × Int32 × Int32 × Int32) : Int32 × Int32 × Int32 × Int32 :=
  (x.1 - x.1 / (x.2.1 / (nI N - nI k)) * (x.2.1 / (nI N - nI k)), x.2.1 / (nI N - nI k), x.2.2.1 ^^^ ((1 : Int32) <<< (wrD x.2.2.1 8 (x.1 / (x.2.1 / (nI N - nI k))) 0 &&& 31)), wrD x.2.2.1 8 (x.1 / (x.2.1 / (nI N - nI k))) 0)
def iaS (N od k : Nat) : Int32 × Int32 × Int32 × Int32 := itr (iaStep N) k (nI od, nI (rOrd N), ((1 : Int32) <<< (nI N &&& 31)) - 1, 0)
def iaO (N od k : Nat) : Bool := decide (¬ nI N - nI k = 0) && (decide (¬ (iaS N od k).2.1 / (nI N - nI k) = 0) && wrO (iaS N od k).2.2.1 8 ((iaS N od k).1 / ((iaS N od k).2.1 / (nI N - nI k))) 0)
theorem iaO_1 {N od k : Nat} (h : iaO N od k = true) : ¬ nI N - nI k = 0 := of_decide_eq_true (Bool.and_eq_true_iff.mp h).1
theorem iaO_2 {N od k : Nat} (h : iaO N od k = true) : ¬ (iaS N od k).2.1 / (nI N - nI k) = 0 := of_decide_eq_true (Bool.and_eq_true_iff.mp (Bool.and_eq_true_iff.mp h).2).1
theorem iaO_3 {N od k : Nat} (h : iaO N od k = true) : wrO (iaS N od k).2.2.1 8 ((iaS N od k).1 / ((iaS N od k).2.1 / (nI N - nI k))) 0 = true := (Bool.and_eq_true_iff.mp (Bool.and_eq_true_iff.mp h).2).2
theorem ia_chk : ((List.range 5).all fun N => (List.range (rOrd N)).all fun od => (List.range N).all fun k => iaO N od k) = true := by decide +kernel
theorem ia_ok {N od : Nat} (hN : N ≤ 4) (ho : od < rOrd N) : ∀ k, k < N → iaO N od k = true := fun k hk =>
  List.all_eq_true.mp (List.all_eq_true.mp (List.all_eq_true.mp ia_chk N (List.mem_range.mpr (by omega))) od (List.mem_range.mpr ho)) k (List.mem_range.mpr hk)
theorem pw8 {i : Nat} (h : i < 4) : (1 : Int32) <<< (nI i &&& 31) = nI (2 ^ i) ∧ 2 ^ i ≤ 8 := by
  rcases (show i = 0 ∨ i = 1 ∨ i = 2 ∨ i = 3 by omega) with rfl | rfl | rfl | rfl <;> decide +kernel
theorem sh0 (x : Int32) : ((0 : Int32) >>> x) &&& 1 = 0 := by rw [Int32.zero_shiftRight]; decide
theorem rAsk_0 (inp : Int32) (a : Nat) : rAsk 0 inp a = 0 := by
  induction a with
  | zero => rfl
  | succ a ih =>
    rw [show rAsk 0 inp (a + 1) = (if rAsk 0 inp a = 0 then (if ((0 : Int32) >>> (nI a &&& 31)) &&& 1 = ((0 : Int32) >>> ((nI a ^^^ ((1 : Int32) <<< (inp &&& 31))) &&& 31)) &&& 1 then 0 else 1) else 1) from rfl, sh0, sh0, if_pos rfl, if_pos ih]
set_option maxHeartbeats 1000000 in
set_option maxRecDepth 100000 in
theorem c_Ref_orders (l : Launch) (dC : Nat → ClassId) (dI : Nat → Nat → Nat) (cI cJ : ClassId) (r0 : Nat) (th : Int32) (N : Nat) (OU : Nat) (Z : Nat) (r1 : Nat) (r2 : Nat) (r3 : Nat) (r4 : Nat) (r5 : Nat) (r6 : Nat) (r7 : Nat) (r8 : Nat) (r9 : Nat) (r10 : Nat) (r11 : Nat) (r12 : Nat) (r13 : Nat) (r14 : Nat) (bst : Int32) (r15 : Nat) : Met l y_Ref_orders (ct y_Ref_orders b_Ref_orders 1 (some .int)) ({ frames := 0, cells := 0, slots := 0, locals := 0 }) (va_Pc [.ref r0] (fun U => va_P (dC, dI) classes [(r0, .inr (8, [.int th, .int ((nI N)), .int ((nI OU)), .int ((nI Z)), .ref r1, .ref r2, .int 0, .ref r3, .ref r4, .ref r5, .ref r6, .ref r7, .ref r8, .int 0, .ref r9, .int 0, .ref r10, .ref r11, .int 0, .ref r12, .int 0, .ref r13, .ref r14, .int bst, .ref r15]))] U.heap ∧ va_K (dC, dI) classes [(cI, .int), (cJ, .long)] U)) (vp_Si (fun r => r = nI (rOrd N))) 0 0 (fun _ => False) := by
  refine Met.ofW (cc := b_Ref_orders) (maxL := 1) (ret := some .int) (by decide) rfl ?_
  intro p e s m args below meth c s₁ B hml hv
  obtain ⟨rfl, hP, hK⟩ := hv
  have hx := B.exec
  have hb := B.bytes
  have hr := B.returns
  have hts : ∀ w ∈ lwg, w.before _ s = true := fun w h => atoms_spec (ws := ct y_Ref_orders b_Ref_orders 1 (some .int)) B.pre w (List.mem_cons_of_mem _ h)
  have hown : s.vm.findClass R_Ref = some m.cls := findClass_of_methodNamed B.named
  have hlocks := B.notSynchronized
  have hl := lv_entry ([.ref r0]) (n := 1) (Nat.le_of_ble_eq_true rfl)
  rw [lg_entry_eq]
  generalize (lg_sl ([.ref r0]) ++ List.replicate (1 - (lg_sl ([.ref r0])).length) Slot.unset).toArray = ls at hl ⊢
  have hl : lv_has ls 1 [(0, .ref r0)] := hl
  refine lv_aload_n hx hb d_Ref_orders_0 rfl (lv_at hl 0 rfl) ?_
  refine va_get (D := (dC, dI)) (ci := 8) (v := .int ((nI N))) (C := R_Ref) (T := F_Ref) (N := 25) hx hb hts i_Ref hown hK hP 0 rfl rfl 1 (by decide) (hts _ mw_fl_Ref_55) (fun _ h9 => h9) rfl d_Ref_orders_1 ?_
  refine lv_iconst (v := 3) hx hb d_Ref_orders_4 (by decide) ?_
  refine lv_icmp_ge (tgt := 15) hx hb d_Ref_orders_5 (by decide) (fun c_5 => ?_) (fun c_5 => ?_)
  · refine lv_aload_n hx hb d_Ref_orders_15 rfl (lv_at hl 0 rfl) ?_
    refine va_get (D := (dC, dI)) (ci := 8) (v := .int ((nI N))) (C := R_Ref) (T := F_Ref) (N := 25) hx hb hts i_Ref hown hK hP 0 rfl rfl 1 (by decide) (hts _ mw_fl_Ref_55) (fun _ h9 => h9) rfl d_Ref_orders_16 ?_
    refine lv_iconst (v := 3) hx hb d_Ref_orders_19 (by decide) ?_
    refine lv_icmp_ne (tgt := 28) hx hb d_Ref_orders_20 (by decide) (fun c_20 => ?_) (fun c_20 => ?_)
    · refine lv_bipush (v := 24) hx hb d_Ref_orders_28 (by decide) ?_
      exact W.iret (v := 24) hx hb hr (fun t ht hW => ⟨_, rfl, (by unfold rOrd; rw [if_pos c_5, if_neg c_20]; rfl), ht⟩) (fun q h => by cases h) d_Ref_orders_30
    · refine lv_bipush (v := 6) hx hb d_Ref_orders_23 (by decide) ?_
      refine lv_goto (tgt := 30) hx hb d_Ref_orders_25 (by decide) ?_
      exact W.iret (v := 6) hx hb hr (fun t ht hW => ⟨_, rfl, (by unfold rOrd; rw [if_pos c_5, if_pos c_20]; rfl), ht⟩) (fun q h => by cases h) d_Ref_orders_30
  · refine lv_aload_n hx hb d_Ref_orders_8 rfl (lv_at hl 0 rfl) ?_
    refine va_get (D := (dC, dI)) (ci := 8) (v := .int ((nI N))) (C := R_Ref) (T := F_Ref) (N := 25) hx hb hts i_Ref hown hK hP 0 rfl rfl 1 (by decide) (hts _ mw_fl_Ref_55) (fun _ h9 => h9) rfl d_Ref_orders_9 ?_
    refine lv_goto (tgt := 30) hx hb d_Ref_orders_12 (by decide) ?_
    exact W.iret (v := (nI N)) hx hb hr (fun t ht hW => ⟨_, rfl, (by unfold rOrd; rw [if_neg c_5]), ht⟩) (fun q h => by cases h) d_Ref_orders_30
set_option maxHeartbeats 1000000 in
set_option maxRecDepth 100000 in
theorem lpf_Ref_inputAt1 {p : Program} {e : Env} {s : State} {m : MethodId} {args : Array Value} {below : List Frame} {meth : Method} {c : Code} {Q : State → Prop} (l : Launch) (dC : Nat → ClassId) (dI : Nat → Nat → Nat) (cI cJ : ClassId) (r0 : Nat) (th : Int32) (N : Nat) (OU : Nat) (Z : Nat) (r1 : Nat) (r2 : Nat) (r3 : Nat) (r4 : Nat) (r5 : Nat) (r6 : Nat) (r7 : Nat) (r8 : Nat) (r9 : Nat) (r10 : Nat) (r11 : Nat) (r12 : Nat) (r13 : Nat) (r14 : Nat) (bst : Int32) (r15 : Nat) (od : Nat) (pl : Nat) (od9 pl9 lf sz fr k7 rr : Int32) (hx : p.tables.exec = Jvm.exec) (hb : c.code = b_Ref_inputAt) (hts : ∀ w ∈ lwg, w.before args s = true) (hown : s.vm.findClass R_Ref = some m.cls) (hml : c.maxLocals = 9) (hP : va_P (dC, dI) classes [(r0, .inr (8, [.int th, .int ((nI N)), .int ((nI OU)), .int ((nI Z)), .ref r1, .ref r2, .int 0, .ref r3, .ref r4, .ref r5, .ref r6, .ref r7, .ref r8, .int 0, .ref r9, .int 0, .ref r10, .ref r11, .int 0, .ref r12, .int 0, .ref r13, .ref r14, .int bst, .ref r15]))] s.heap) (hK : va_K (dC, dI) classes [(cI, .int), (cJ, .long)] s) (kk : ∀ (ls : Array Slot), lv_has ls 9 [(0, .ref r0), (1, .int od9), (2, .int pl9), (3, .int lf), (4, .int sz), (5, .int fr), (6, .int rr), (7, .int k7)] → W p l e ({ frames := 1, cells := 0, slots := 0, locals := 20 } : Room) s m args below meth c s.heap [] 0 0 Q (F0 m 99 ls [])) : ∀ (f : Nat) (sk inp : Int32), wrO fr f sk inp = true → wrD fr f sk inp = rr → ∀ (ls : Array Slot), lv_has ls 9 [(0, .ref r0), (1, .int od9), (2, .int pl9), (3, .int lf), (4, .int sz), (5, .int fr), (6, .int inp), (7, .int k7), (8, .int sk)] → W p l e ({ frames := 1, cells := 0, slots := 0, locals := 20 } : Room) s m args below meth c s.heap [] 0 0 Q (F0 m 56 ls []) := by
  intro f
  induction f with
  | zero => intro sk inp hO; exact absurd (show false = true from hO) (by decide)
  | succ f ih =>
    intro sk inp hO hR ls hl
    rw [show wrO fr (f + 1) sk inp = (if (fr >>> (inp &&& 31)) &&& 1 = 0 then wrO fr f (if (fr >>> (inp &&& 31)) &&& 1 = 1 then sk - 1 else sk) (inp + 1) else if sk ≤ 0 then true else wrO fr f (if (fr >>> (inp &&& 31)) &&& 1 = 1 then sk - 1 else sk) (inp + 1)) from rfl] at hO
    rw [show wrD fr (f + 1) sk inp = (if (fr >>> (inp &&& 31)) &&& 1 = 0 then wrD fr f (if (fr >>> (inp &&& 31)) &&& 1 = 1 then sk - 1 else sk) (inp + 1) else if sk ≤ 0 then inp else wrD fr f (if (fr >>> (inp &&& 31)) &&& 1 = 1 then sk - 1 else sk) (inp + 1)) from rfl] at hR
    refine lv_iload hx hb d_Ref_inputAt_56 (lv_at hl 5 rfl) ?_
    refine lv_iload hx hb d_Ref_inputAt_58 (lv_at hl 6 rfl) ?_
    refine lv_ishr hx hb d_Ref_inputAt_60 ?_
    refine lv_iconst (v := 1) hx hb d_Ref_inputAt_61 (by decide) ?_
    refine lv_iand hx hb d_Ref_inputAt_62 ?_
    refine lv_if_eq (tgt := 71) hx hb d_Ref_inputAt_63 (by decide) (fun c_63 => ?_) (fun c_63 => ?_)
    · rw [if_pos c_63] at hO hR
      refine lv_iload hx hb d_Ref_inputAt_71 (lv_at hl 5 rfl) ?_
      refine lv_iload hx hb d_Ref_inputAt_73 (lv_at hl 6 rfl) ?_
      refine lv_ishr hx hb d_Ref_inputAt_75 ?_
      refine lv_iconst (v := 1) hx hb d_Ref_inputAt_76 (by decide) ?_
      refine lv_iand hx hb d_Ref_inputAt_77 ?_
      refine lv_iconst (v := 1) hx hb d_Ref_inputAt_78 (by decide) ?_
      refine lv_icmp_ne (tgt := 89) hx hb d_Ref_inputAt_79 (by decide) (fun c_79 => ?_) (fun c_79 => ?_)
      · rw [if_neg c_79] at hO hR
        refine lv_iload hx hb d_Ref_inputAt_89 (lv_at hl 8 rfl) ?_
        refine lv_istore (lv' := [(8, .int sk), (0, .ref r0), (1, .int od9), (2, .int pl9), (3, .int lf), (4, .int sz), (5, .int fr), (6, .int inp), (7, .int k7)]) hx hb d_Ref_inputAt_91 hl (by decide) rfl (fun ls hl => ?_)
        refine lv_iinc (v := inp + 1) (lv' := [(6, .int (inp + 1)), (8, .int sk), (0, .ref r0), (1, .int od9), (2, .int pl9), (3, .int lf), (4, .int sz), (5, .int fr), (7, .int k7)]) hx hb d_Ref_inputAt_93 hl (k := 7) rfl (rfl) (by decide) rfl (fun ls hl => ?_)
        refine lv_goto (tgt := 56) hx hb d_Ref_inputAt_96 (by decide) ?_
        exact ih _ _ hO hR ls (lv_sub hl [2, 3, 4, 5, 6, 7, 0, 8, 1] rfl)
      · rw [if_pos c_79] at hO hR
        refine lv_iload hx hb d_Ref_inputAt_82 (lv_at hl 8 rfl) ?_
        refine lv_iconst (v := 1) hx hb d_Ref_inputAt_84 (by decide) ?_
        refine lv_isub hx hb d_Ref_inputAt_85 ?_
        refine lv_goto (tgt := 91) hx hb d_Ref_inputAt_86 (by decide) ?_
        refine lv_istore (lv' := [(8, .int ((sk - 1))), (0, .ref r0), (1, .int od9), (2, .int pl9), (3, .int lf), (4, .int sz), (5, .int fr), (6, .int inp), (7, .int k7)]) hx hb d_Ref_inputAt_91 hl (by decide) rfl (fun ls hl => ?_)
        refine lv_iinc (v := inp + 1) (lv' := [(6, .int (inp + 1)), (8, .int ((sk - 1))), (0, .ref r0), (1, .int od9), (2, .int pl9), (3, .int lf), (4, .int sz), (5, .int fr), (7, .int k7)]) hx hb d_Ref_inputAt_93 hl (k := 7) rfl (rfl) (by decide) rfl (fun ls hl => ?_)
        refine lv_goto (tgt := 56) hx hb d_Ref_inputAt_96 (by decide) ?_
        exact ih _ _ hO hR ls (lv_sub hl [2, 3, 4, 5, 6, 7, 0, 8, 1] rfl)
    · rw [if_neg c_63] at hO hR
      refine lv_iload hx hb d_Ref_inputAt_66 (lv_at hl 8 rfl) ?_
      refine lv_if_le (tgt := 99) hx hb d_Ref_inputAt_68 (by decide) (fun c_68 => ?_) (fun c_68 => ?_)
      · rw [if_pos c_68] at hR
        subst hR
        exact kk ls (lv_sub hl [0, 1, 2, 3, 4, 5, 6, 7] rfl)
      · rw [if_neg c_68] at hO hR
        refine lv_iload hx hb d_Ref_inputAt_71 (lv_at hl 5 rfl) ?_
        refine lv_iload hx hb d_Ref_inputAt_73 (lv_at hl 6 rfl) ?_
        refine lv_ishr hx hb d_Ref_inputAt_75 ?_
        refine lv_iconst (v := 1) hx hb d_Ref_inputAt_76 (by decide) ?_
        refine lv_iand hx hb d_Ref_inputAt_77 ?_
        refine lv_iconst (v := 1) hx hb d_Ref_inputAt_78 (by decide) ?_
        refine lv_icmp_ne (tgt := 89) hx hb d_Ref_inputAt_79 (by decide) (fun c_79 => ?_) (fun c_79 => ?_)
        · rw [if_neg c_79] at hO hR
          refine lv_iload hx hb d_Ref_inputAt_89 (lv_at hl 8 rfl) ?_
          refine lv_istore (lv' := [(8, .int sk), (0, .ref r0), (1, .int od9), (2, .int pl9), (3, .int lf), (4, .int sz), (5, .int fr), (6, .int inp), (7, .int k7)]) hx hb d_Ref_inputAt_91 hl (by decide) rfl (fun ls hl => ?_)
          refine lv_iinc (v := inp + 1) (lv' := [(6, .int (inp + 1)), (8, .int sk), (0, .ref r0), (1, .int od9), (2, .int pl9), (3, .int lf), (4, .int sz), (5, .int fr), (7, .int k7)]) hx hb d_Ref_inputAt_93 hl (k := 7) rfl (rfl) (by decide) rfl (fun ls hl => ?_)
          refine lv_goto (tgt := 56) hx hb d_Ref_inputAt_96 (by decide) ?_
          exact ih _ _ hO hR ls (lv_sub hl [2, 3, 4, 5, 6, 7, 0, 8, 1] rfl)
        · rw [if_pos c_79] at hO hR
          refine lv_iload hx hb d_Ref_inputAt_82 (lv_at hl 8 rfl) ?_
          refine lv_iconst (v := 1) hx hb d_Ref_inputAt_84 (by decide) ?_
          refine lv_isub hx hb d_Ref_inputAt_85 ?_
          refine lv_goto (tgt := 91) hx hb d_Ref_inputAt_86 (by decide) ?_
          refine lv_istore (lv' := [(8, .int ((sk - 1))), (0, .ref r0), (1, .int od9), (2, .int pl9), (3, .int lf), (4, .int sz), (5, .int fr), (6, .int inp), (7, .int k7)]) hx hb d_Ref_inputAt_91 hl (by decide) rfl (fun ls hl => ?_)
          refine lv_iinc (v := inp + 1) (lv' := [(6, .int (inp + 1)), (8, .int ((sk - 1))), (0, .ref r0), (1, .int od9), (2, .int pl9), (3, .int lf), (4, .int sz), (5, .int fr), (7, .int k7)]) hx hb d_Ref_inputAt_93 hl (k := 7) rfl (rfl) (by decide) rfl (fun ls hl => ?_)
          refine lv_goto (tgt := 56) hx hb d_Ref_inputAt_96 (by decide) ?_
          exact ih _ _ hO hR ls (lv_sub hl [2, 3, 4, 5, 6, 7, 0, 8, 1] rfl)
set_option maxHeartbeats 1000000 in
set_option maxRecDepth 100000 in
theorem lpf_Ref_inputAt2 {p : Program} {e : Env} {s : State} {m : MethodId} {args : Array Value} {below : List Frame} {meth : Method} {c : Code} (l : Launch) (dC : Nat → ClassId) (dI : Nat → Nat → Nat) (cI cJ : ClassId) (r0 : Nat) (th : Int32) (N : Nat) (OU : Nat) (Z : Nat) (r1 : Nat) (r2 : Nat) (r3 : Nat) (r4 : Nat) (r5 : Nat) (r6 : Nat) (r7 : Nat) (r8 : Nat) (r9 : Nat) (r10 : Nat) (r11 : Nat) (r12 : Nat) (r13 : Nat) (r14 : Nat) (bst : Int32) (r15 : Nat) (od : Nat) (pl : Nat) (hN : N ≤ 4) (hpl : pl < N) (hok : ∀ k, k ≤ pl → iaO N od k = true) (hx : p.tables.exec = Jvm.exec) (hb : c.code = b_Ref_inputAt) (hr : meth.sig.returnType = some .int) (hts : ∀ w ∈ lwg, w.before args s = true) (hown : s.vm.findClass R_Ref = some m.cls) (hlocks : meth.locks = false) (hml : c.maxLocals = 9) (hP : va_P (dC, dI) classes [(r0, .inr (8, [.int th, .int ((nI N)), .int ((nI OU)), .int ((nI Z)), .ref r1, .ref r2, .int 0, .ref r3, .ref r4, .ref r5, .ref r6, .ref r7, .ref r8, .int 0, .ref r9, .int 0, .ref r10, .ref r11, .int 0, .ref r12, .int 0, .ref r13, .ref r14, .int bst, .ref r15]))] s.heap) (hK : va_K (dC, dI) classes [(cI, .int), (cJ, .long)] s) : ∀ (fu i : Nat), (pl + 1) - i < fu → i ≤ (pl + 1) → ∀ ls : Array Slot, lv_has ls 9 [(0, .ref r0), (1, .int ((nI od))), (2, .int ((nI pl))), (3, .int ((iaS N od i).1)), (4, .int ((iaS N od i).2.1)), (5, .int ((iaS N od i).2.2.1)), (6, .int ((iaS N od i).2.2.2)), (7, .int ((nI i)))] → W p l e ({ frames := 1, cells := 0, slots := 0, locals := 20 } : Room) s m args below meth c s.heap [] 0 0 (MQ below (vp_Si (fun r => r = (iaS N od (pl + 1)).2.2.2)) args s 0 0 (fun _ => False)) (F0 m 24 ls []) := by
  intro fu
  induction fu with
  | zero => intro i h; omega
  | succ fu ih =>
    intro i hfu hle ls hl
    refine lv_iload hx hb d_Ref_inputAt_24 (lv_at hl 7 rfl) ?_
    refine lv_iload_n hx hb d_Ref_inputAt_26 rfl (lv_at hl 2 rfl) ?_
    refine lv_icmp_gt (tgt := 114) hx hb d_Ref_inputAt_27 (by decide) (fun c_27 => ?_) (fun c_27 => ?_)
    · have hE : i = pl + 1 := by have := (nI_ltI (a := pl) (b := i) (by omega) (by omega)).mp c_27; omega
      refine lv_iload hx hb d_Ref_inputAt_114 (lv_at hl 6 rfl) ?_
      exact W.iret (v := (iaS N od i).2.2.2) hx hb hr (fun t ht hW => ⟨_, rfl, by subst hE; rfl, ht⟩) (fun q h => by cases h) d_Ref_inputAt_116
    · have hlt : i < pl + 1 := by have h9 : ¬ pl < i := fun h => c_27 ((nI_ltI (a := pl) (b := i) (by omega) (by omega)).mpr h); omega
      have ho := hok i (by omega)
      refine lv_iload hx hb d_Ref_inputAt_30 (lv_at hl 4 rfl) ?_
      refine lv_aload_n hx hb d_Ref_inputAt_32 rfl (lv_at hl 0 rfl) ?_
      refine va_get (D := (dC, dI)) (ci := 8) (v := .int ((nI N))) (C := R_Ref) (T := F_Ref) (N := 25) hx hb hts i_Ref hown hK hP 0 rfl rfl 1 (by decide) (hts _ mw_fl_Ref_55) (fun _ h9 => h9) rfl d_Ref_inputAt_33 ?_
      refine lv_iload hx hb d_Ref_inputAt_36 (lv_at hl 7 rfl) ?_
      refine lv_isub hx hb d_Ref_inputAt_38 ?_
      refine lv_idiv hx hb d_Ref_inputAt_39 (iaO_1 ho) ?_
      refine lv_istore (lv' := [(4, .int (((iaS N od i).2.1 / ((nI N) - (nI i))))), (0, .ref r0), (1, .int ((nI od))), (2, .int ((nI pl))), (3, .int ((iaS N od i).1)), (5, .int ((iaS N od i).2.2.1)), (6, .int ((iaS N od i).2.2.2)), (7, .int ((nI i)))]) hx hb d_Ref_inputAt_40 hl (by decide) rfl (fun ls hl => ?_)
      refine lv_iload_n hx hb d_Ref_inputAt_42 rfl (lv_at hl 4 rfl) ?_
      refine lv_iload hx hb d_Ref_inputAt_43 (lv_at hl 0 rfl) ?_
      refine lv_idiv hx hb d_Ref_inputAt_45 (iaO_2 ho) ?_
      refine lv_istore (lv' := [(8, .int (((iaS N od i).1 / ((iaS N od i).2.1 / ((nI N) - (nI i)))))), (4, .int (((iaS N od i).2.1 / ((nI N) - (nI i))))), (0, .ref r0), (1, .int ((nI od))), (2, .int ((nI pl))), (3, .int ((iaS N od i).1)), (5, .int ((iaS N od i).2.2.1)), (6, .int ((iaS N od i).2.2.2)), (7, .int ((nI i)))]) hx hb d_Ref_inputAt_46 hl (by decide) rfl (fun ls hl => ?_)
      refine lv_iload_n hx hb d_Ref_inputAt_48 rfl (lv_at hl 5 rfl) ?_
      refine lv_iload hx hb d_Ref_inputAt_49 (lv_at hl 1 rfl) ?_
      refine lv_irem hx hb d_Ref_inputAt_51 (iaO_2 ho) ?_
      refine lv_istore_n (lv' := [(3, .int (((iaS N od i).1 - (iaS N od i).1 / ((iaS N od i).2.1 / ((nI N) - (nI i))) * ((iaS N od i).2.1 / ((nI N) - (nI i)))))), (8, .int (((iaS N od i).1 / ((iaS N od i).2.1 / ((nI N) - (nI i)))))), (4, .int (((iaS N od i).2.1 / ((nI N) - (nI i))))), (0, .ref r0), (1, .int ((nI od))), (2, .int ((nI pl))), (5, .int ((iaS N od i).2.2.1)), (6, .int ((iaS N od i).2.2.2)), (7, .int ((nI i)))]) hx hb d_Ref_inputAt_52 rfl hl (by decide) rfl (fun ls hl => ?_)
      refine lv_iconst (v := 0) hx hb d_Ref_inputAt_53 (by decide) ?_
      refine lv_istore (lv' := [(6, .int 0), (3, .int (((iaS N od i).1 - (iaS N od i).1 / ((iaS N od i).2.1 / ((nI N) - (nI i))) * ((iaS N od i).2.1 / ((nI N) - (nI i)))))), (8, .int (((iaS N od i).1 / ((iaS N od i).2.1 / ((nI N) - (nI i)))))), (4, .int (((iaS N od i).2.1 / ((nI N) - (nI i))))), (0, .ref r0), (1, .int ((nI od))), (2, .int ((nI pl))), (5, .int ((iaS N od i).2.2.1)), (7, .int ((nI i)))]) hx hb d_Ref_inputAt_54 hl (by decide) rfl (fun ls hl => ?_)
      refine lpf_Ref_inputAt1 l dC dI cI cJ r0 th N OU Z r1 r2 r3 r4 r5 r6 r7 r8 r9 r10 r11 r12 r13 r14 bst r15 od pl ((nI od)) ((nI pl)) (((iaS N od i).1 - (iaS N od i).1 / ((iaS N od i).2.1 / ((nI N) - (nI i))) * ((iaS N od i).2.1 / ((nI N) - (nI i))))) (((iaS N od i).2.1 / ((nI N) - (nI i)))) ((iaS N od i).2.2.1) ((nI i)) (wrD (iaS N od i).2.2.1 8 ((iaS N od i).1 / ((iaS N od i).2.1 / (nI N - nI i))) 0) hx hb hts hown hml hP hK (fun ls hl => ?_) 8 _ 0 (iaO_3 ho) rfl ls (lv_sub hl [4, 5, 6, 1, 3, 7, 0, 8, 2] rfl)
      have hl : lv_has ls 9 [(0, .ref r0), (1, .int ((nI od))), (2, .int ((nI pl))), (3, .int (((iaS N od i).1 - (iaS N od i).1 / ((iaS N od i).2.1 / ((nI N) - (nI i))) * ((iaS N od i).2.1 / ((nI N) - (nI i)))))), (4, .int (((iaS N od i).2.1 / ((nI N) - (nI i))))), (5, .int ((iaS N od i).2.2.1)), (6, .int ((wrD (iaS N od i).2.2.1 8 ((iaS N od i).1 / ((iaS N od i).2.1 / (nI N - nI i))) 0))), (7, .int ((nI i)))] := hl
      refine lv_iload hx hb d_Ref_inputAt_99 (lv_at hl 5 rfl) ?_
      refine lv_iconst (v := 1) hx hb d_Ref_inputAt_101 (by decide) ?_
      refine lv_iload hx hb d_Ref_inputAt_102 (lv_at hl 6 rfl) ?_
      refine lv_ishl hx hb d_Ref_inputAt_104 ?_
      refine lv_ixor hx hb d_Ref_inputAt_105 ?_
      refine lv_istore (lv' := [(5, .int (((iaS N od i).2.2.1 ^^^ ((1 : Int32) <<< ((wrD (iaS N od i).2.2.1 8 ((iaS N od i).1 / ((iaS N od i).2.1 / (nI N - nI i))) 0) &&& 31))))), (0, .ref r0), (1, .int ((nI od))), (2, .int ((nI pl))), (3, .int (((iaS N od i).1 - (iaS N od i).1 / ((iaS N od i).2.1 / ((nI N) - (nI i))) * ((iaS N od i).2.1 / ((nI N) - (nI i)))))), (4, .int (((iaS N od i).2.1 / ((nI N) - (nI i))))), (6, .int ((wrD (iaS N od i).2.2.1 8 ((iaS N od i).1 / ((iaS N od i).2.1 / (nI N - nI i))) 0))), (7, .int ((nI i)))]) hx hb d_Ref_inputAt_106 hl (by decide) rfl (fun ls hl => ?_)
      refine lv_iinc (v := (nI (i + 1))) (lv' := [(7, .int ((nI (i + 1)))), (5, .int (((iaS N od i).2.2.1 ^^^ ((1 : Int32) <<< ((wrD (iaS N od i).2.2.1 8 ((iaS N od i).1 / ((iaS N od i).2.1 / (nI N - nI i))) 0) &&& 31))))), (0, .ref r0), (1, .int ((nI od))), (2, .int ((nI pl))), (3, .int (((iaS N od i).1 - (iaS N od i).1 / ((iaS N od i).2.1 / ((nI N) - (nI i))) * ((iaS N od i).2.1 / ((nI N) - (nI i)))))), (4, .int (((iaS N od i).2.1 / ((nI N) - (nI i))))), (6, .int ((wrD (iaS N od i).2.2.1 8 ((iaS N od i).1 / ((iaS N od i).2.1 / (nI N - nI i))) 0)))]) hx hb d_Ref_inputAt_108 hl (k := 7) rfl (show nI i + 1 = nI (i + 1) from nI_1 i) (by decide) rfl (fun ls hl => ?_)
      refine lv_goto (tgt := 24) hx hb d_Ref_inputAt_111 (by decide) ?_
      exact ih (i + 1) (by omega) (by omega) ls (lv_sub hl [2, 3, 4, 5, 6, 1, 7, 0] rfl)
set_option maxHeartbeats 1000000 in
set_option maxRecDepth 100000 in
theorem c_Ref_inputAt (l : Launch) (dC : Nat → ClassId) (dI : Nat → Nat → Nat) (cI cJ : ClassId) (r0 : Nat) (th : Int32) (N : Nat) (OU : Nat) (Z : Nat) (r1 : Nat) (r2 : Nat) (r3 : Nat) (r4 : Nat) (r5 : Nat) (r6 : Nat) (r7 : Nat) (r8 : Nat) (r9 : Nat) (r10 : Nat) (r11 : Nat) (r12 : Nat) (r13 : Nat) (r14 : Nat) (bst : Int32) (r15 : Nat) (od : Nat) (pl : Nat) (hN : N ≤ 4) (hpl : pl < N) (hok : ∀ k, k ≤ pl → iaO N od k = true) : Met l y_Ref_inputAt (ct y_Ref_inputAt b_Ref_inputAt 9 (some .int)) ({ frames := 1, cells := 0, slots := 0, locals := 20 }) (va_Pc [.ref r0, .int ((nI od)), .int ((nI pl))] (fun U => va_P (dC, dI) classes [(r0, .inr (8, [.int th, .int ((nI N)), .int ((nI OU)), .int ((nI Z)), .ref r1, .ref r2, .int 0, .ref r3, .ref r4, .ref r5, .ref r6, .ref r7, .ref r8, .int 0, .ref r9, .int 0, .ref r10, .ref r11, .int 0, .ref r12, .int 0, .ref r13, .ref r14, .int bst, .ref r15]))] U.heap ∧ va_K (dC, dI) classes [(cI, .int), (cJ, .long)] U)) (vp_Si (fun r => r = (iaS N od (pl + 1)).2.2.2)) 0 0 (fun _ => False) := by
  refine Met.ofW (cc := b_Ref_inputAt) (maxL := 9) (ret := some .int) (by decide) rfl ?_
  intro p e s m args below meth c s₁ B hml hv
  obtain ⟨rfl, hP, hK⟩ := hv
  have hx := B.exec
  have hb := B.bytes
  have hr := B.returns
  have hts : ∀ w ∈ lwg, w.before _ s = true := fun w h => atoms_spec (ws := ct y_Ref_inputAt b_Ref_inputAt 9 (some .int)) B.pre w (List.mem_cons_of_mem _ h)
  have hown : s.vm.findClass R_Ref = some m.cls := findClass_of_methodNamed B.named
  have hlocks := B.notSynchronized
  have hl := lv_entry ([.ref r0, .int ((nI od)), .int ((nI pl))]) (n := 9) (Nat.le_of_ble_eq_true rfl)
  rw [lg_entry_eq]
  generalize (lg_sl ([.ref r0, .int ((nI od)), .int ((nI pl))]) ++ List.replicate (9 - (lg_sl ([.ref r0, .int ((nI od)), .int ((nI pl))])).length) Slot.unset).toArray = ls at hl ⊢
  have hl : lv_has ls 9 [(0, .ref r0), (1, .int ((nI od))), (2, .int ((nI pl)))] := hl
  refine lv_iload_n hx hb d_Ref_inputAt_0 rfl (lv_at hl 1 rfl) ?_
  refine lv_istore_n (lv' := [(3, .int ((nI od))), (0, .ref r0), (1, .int ((nI od))), (2, .int ((nI pl)))]) hx hb d_Ref_inputAt_1 rfl hl (by decide) rfl (fun ls hl => ?_)
  refine lv_aload_n hx hb d_Ref_inputAt_2 rfl (lv_at hl 1 rfl) ?_
  refine vp_callSi (W.runV (As := []) (rest := []) ⟨hx, hb, hml, hown, hts⟩ (c_Ref_orders l dC dI cI cJ r0 th N OU Z r1 r2 r3 r4 r5 r6 r7 r8 r9 r10 r11 r12 r13 r14 bst r15 ) (cwV 0 hts (ct_goodV mw_ml_Ref_133 mw_im_Ref_orders mw_se_Ref_orders mw_ini_Ref mw_code_Ref_orders) rfl rfl rfl (by decide +kernel) ⟨Nat.le_of_ble_eq_true rfl, Nat.le_of_ble_eq_true rfl⟩) ⟨fun a U g mk q => by obtain ⟨q0, qP, qK⟩ := q; exact ⟨q0, qP, va_K.moved (u := U) (U := U.calling g mk a) (Vm.Alike.refl U.vm) qK⟩, va_recv hK hP (ci := 8) (q0 := 0) rfl rfl, fun U hU hW => ⟨rfl, by rw [hU]; exact hP, va_K.moved hW.alike hK⟩⟩ rfl rfl hl.1 rfl (lv_room (Nat.le_of_ble_eq_true rfl)) d_Ref_inputAt_3 ⟨Nat.le_of_ble_eq_true rfl, Nat.le_of_ble_eq_true rfl⟩) (fun r_1 hr_1 => ?_)
  rw [hr_1]
  clear hr_1
  refine lv_istore (lv' := [(4, .int ((nI (rOrd N)))), (3, .int ((nI od))), (0, .ref r0), (1, .int ((nI od))), (2, .int ((nI pl)))]) hx hb d_Ref_inputAt_6 hl (by decide) rfl (fun ls hl => ?_)
  refine lv_iconst (v := 1) hx hb d_Ref_inputAt_8 (by decide) ?_
  refine lv_aload_n hx hb d_Ref_inputAt_9 rfl (lv_at hl 2 rfl) ?_
  refine va_get (D := (dC, dI)) (ci := 8) (v := .int ((nI N))) (C := R_Ref) (T := F_Ref) (N := 25) hx hb hts i_Ref hown hK hP 0 rfl rfl 1 (by decide) (hts _ mw_fl_Ref_55) (fun _ h9 => h9) rfl d_Ref_inputAt_10 ?_
  refine lv_ishl hx hb d_Ref_inputAt_13 ?_
  refine lv_iconst (v := 1) hx hb d_Ref_inputAt_14 (by decide) ?_
  refine lv_isub hx hb d_Ref_inputAt_15 ?_
  refine lv_istore (lv' := [(5, .int ((((1 : Int32) <<< ((nI N) &&& 31)) - 1))), (4, .int ((nI (rOrd N)))), (3, .int ((nI od))), (0, .ref r0), (1, .int ((nI od))), (2, .int ((nI pl)))]) hx hb d_Ref_inputAt_16 hl (by decide) rfl (fun ls hl => ?_)
  refine lv_iconst (v := 0) hx hb d_Ref_inputAt_18 (by decide) ?_
  refine lv_istore (lv' := [(6, .int 0), (5, .int ((((1 : Int32) <<< ((nI N) &&& 31)) - 1))), (4, .int ((nI (rOrd N)))), (3, .int ((nI od))), (0, .ref r0), (1, .int ((nI od))), (2, .int ((nI pl)))]) hx hb d_Ref_inputAt_19 hl (by decide) rfl (fun ls hl => ?_)
  refine lv_iconst (v := 0) hx hb d_Ref_inputAt_21 (by decide) ?_
  refine lv_istore (lv' := [(7, .int 0), (6, .int 0), (5, .int ((((1 : Int32) <<< ((nI N) &&& 31)) - 1))), (4, .int ((nI (rOrd N)))), (3, .int ((nI od))), (0, .ref r0), (1, .int ((nI od))), (2, .int ((nI pl)))]) hx hb d_Ref_inputAt_22 hl (by decide) rfl (fun ls hl => ?_)
  exact lpf_Ref_inputAt2 l dC dI cI cJ r0 th N OU Z r1 r2 r3 r4 r5 r6 r7 r8 r9 r10 r11 r12 r13 r14 bst r15 od pl hN hpl hok hx hb hr hts hown hlocks hml hP hK ((pl + 1) + 1) 0 (by omega) (Nat.zero_le _) ls (lv_sub hl [5, 6, 7, 4, 3, 2, 1, 0] rfl)
set_option maxHeartbeats 1000000 in
set_option maxRecDepth 100000 in
theorem lpf_Ref_part1 {p : Program} {e : Env} {s : State} {m : MethodId} {args : Array Value} {below : List Frame} {meth : Method} {c : Code} {Q : State → Prop} (l : Launch) (dC : Nat → ClassId) (dI : Nat → Nat → Nat) (cI cJ : ClassId) (r0 : Nat) (th : Int32) (N : Nat) (OU : Nat) (Z : Nat) (r1 : Nat) (r2 : Nat) (r3 : Nat) (r4 : Nat) (r5 : Nat) (r6 : Nat) (r7 : Nat) (r8 : Nat) (r9 : Nat) (r10 : Nat) (r11 : Nat) (r12 : Nat) (r13 : Nat) (r14 : Nat) (bst : Int32) (r15 : Nat) (PW : Nat) (od : Nat) (fx : Nat) (vs : Int32) (hN : N ≤ 4) (hfx : fx ≤ N) (hPW : (1 : Int32) <<< (nI N &&& 31) = nI PW ∧ PW ≤ 16) (hok : ∀ k, k < N → iaO N od k = true) (av : Nat)  (hx : p.tables.exec = Jvm.exec) (hb : c.code = b_Ref_part) (hts : ∀ w ∈ lwg, w.before args s = true) (hown : s.vm.findClass R_Ref = some m.cls) (hml : c.maxLocals = 10) (hP : va_P (dC, dI) classes [(r0, .inr (8, [.int th, .int ((nI N)), .int ((nI OU)), .int ((nI Z)), .ref r1, .ref r2, .int 0, .ref r3, .ref r4, .ref r5, .ref r6, .ref r7, .ref r8, .int 0, .ref r9, .int 0, .ref r10, .ref r11, .int 0, .ref r12, .int 0, .ref r13, .ref r14, .int bst, .ref r15]))] s.heap) (hK : va_K (dC, dI) classes [(cI, .int), (cJ, .long)] s) (kk : ∀ (fr : Int32) (ls : Array Slot), lv_has ls 10 [(0, .ref r0), (1, .int 0), (2, .int ((nI od))), (3, .int ((nI fx))), (4, .int vs), (5, .int 0), (6, .int ((nI av))), (7, .int fr)] → W p l e ({ frames := 2, cells := 0, slots := 0, locals := 48 } : Room) s m args below meth c s.heap [] 0 0 Q (F0 m 67 ls [])) : ∀ (fu i : Nat), fx - i < fu → i ≤ fx → ∀ (fr : Int32) (ls : Array Slot), lv_has ls 10 [(0, .ref r0), (1, .int 0), (2, .int ((nI od))), (3, .int ((nI fx))), (4, .int vs), (5, .int 0), (6, .int ((nI av))), (7, .int fr), (8, .int ((nI i)))] → W p l e ({ frames := 2, cells := 0, slots := 0, locals := 48 } : Room) s m args below meth c s.heap [] 0 0 Q (F0 m 24 ls []) := by
  intro fu
  induction fu with
  | zero => intro i h; omega
  | succ fu ih =>
    intro i hfu hle fr ls hl
    refine lv_iload hx hb d_Ref_part_24 (lv_at hl 8 rfl) ?_
    refine lv_iload_n hx hb d_Ref_part_26 rfl (lv_at hl 3 rfl) ?_
    refine lv_icmp_ge (tgt := 67) hx hb d_Ref_part_27 (by decide) (fun c_27 => ?_) (fun c_27 => ?_)
    · have hE : i = fx := Nat.le_antisymm hle ((nI_leI (a := fx) (b := i) (by omega) (by omega)).mp c_27)
      exact kk _ ls (lv_sub hl [0, 1, 2, 3, 4, 5, 6, 7] rfl)
    · have hlt : i < fx := Nat.lt_of_not_le (fun h => c_27 ((nI_leI (a := fx) (b := i) (by omega) (by omega)).mpr h))
      refine lv_aload_n hx hb d_Ref_part_30 rfl (lv_at hl 0 rfl) ?_
      refine lv_iload_n hx hb d_Ref_part_31 rfl (lv_at hl 2 rfl) ?_
      refine lv_iload hx hb d_Ref_part_32 (lv_at hl 8 rfl) ?_
      refine vp_callSi (W.runV (As := [.int ((nI od)), .int ((nI i))]) (rest := []) ⟨hx, hb, hml, hown, hts⟩ (c_Ref_inputAt l dC dI cI cJ r0 th N OU Z r1 r2 r3 r4 r5 r6 r7 r8 r9 r10 r11 r12 r13 r14 bst r15 od i hN (by omega) (fun k hk => hok k (by omega))) (cwV 2 hts (ct_goodV mw_ml_Ref_137 mw_im_Ref_inputAt mw_se_Ref_inputAt mw_ini_Ref mw_code_Ref_inputAt) rfl rfl rfl (by decide +kernel) ⟨Nat.le_of_ble_eq_true rfl, Nat.le_of_ble_eq_true rfl⟩) ⟨fun a U g mk q => by obtain ⟨q0, qP, qK⟩ := q; exact ⟨q0, qP, va_K.moved (u := U) (U := U.calling g mk a) (Vm.Alike.refl U.vm) qK⟩, va_recv hK hP (ci := 8) (q0 := 0) rfl rfl, fun U hU hW => ⟨rfl, by rw [hU]; exact hP, va_K.moved hW.alike hK⟩⟩ rfl rfl hl.1 rfl (lv_room (Nat.le_of_ble_eq_true rfl)) d_Ref_part_34 ⟨Nat.le_of_ble_eq_true rfl, Nat.le_of_ble_eq_true rfl⟩) (fun r_1 hr_1 => ?_)
      rw [hr_1]
      clear hr_1
      refine lv_istore (lv' := [(9, .int (((iaS N od (i + 1)).2.2.2))), (0, .ref r0), (1, .int 0), (2, .int ((nI od))), (3, .int ((nI fx))), (4, .int vs), (5, .int 0), (6, .int ((nI av))), (7, .int fr), (8, .int ((nI i)))]) hx hb d_Ref_part_37 hl (by decide) rfl (fun ls hl => ?_)
      refine lv_iload hx hb d_Ref_part_39 (lv_at hl 8 rfl) ?_
      refine lv_iconst (v := 1) hx hb d_Ref_part_41 (by decide) ?_
      refine lv_iload hx hb d_Ref_part_42 (lv_at hl 0 rfl) ?_
      refine lv_ishl hx hb d_Ref_part_44 ?_
      refine lv_iconst (v := (-1)) hx hb d_Ref_part_45 (by decide) ?_
      refine lv_ixor hx hb d_Ref_part_46 ?_
      refine lv_iand hx hb d_Ref_part_47 ?_
      refine lv_iload hx hb d_Ref_part_48 (lv_at hl 5 rfl) ?_
      refine lv_iload hx hb d_Ref_part_50 (lv_at hl 9 rfl) ?_
      refine lv_ishr hx hb d_Ref_part_52 ?_
      refine lv_iconst (v := 1) hx hb d_Ref_part_53 (by decide) ?_
      refine lv_iand hx hb d_Ref_part_54 ?_
      refine lv_iload hx hb d_Ref_part_55 (lv_at hl 0 rfl) ?_
      refine lv_ishl hx hb d_Ref_part_57 ?_
      refine lv_ior hx hb d_Ref_part_58 ?_
      refine lv_istore (lv' := [(7, .int (((fr &&& (((1 : Int32) <<< (((iaS N od (i + 1)).2.2.2) &&& 31)) ^^^ (-1))) ||| (((vs >>> ((nI i) &&& 31)) &&& 1) <<< (((iaS N od (i + 1)).2.2.2) &&& 31))))), (9, .int (((iaS N od (i + 1)).2.2.2))), (0, .ref r0), (1, .int 0), (2, .int ((nI od))), (3, .int ((nI fx))), (4, .int vs), (5, .int 0), (6, .int ((nI av))), (8, .int ((nI i)))]) hx hb d_Ref_part_59 hl (by decide) rfl (fun ls hl => ?_)
      refine lv_iinc (v := (nI (i + 1))) (lv' := [(8, .int ((nI (i + 1)))), (7, .int (((fr &&& (((1 : Int32) <<< (((iaS N od (i + 1)).2.2.2) &&& 31)) ^^^ (-1))) ||| (((vs >>> ((nI i) &&& 31)) &&& 1) <<< (((iaS N od (i + 1)).2.2.2) &&& 31))))), (9, .int (((iaS N od (i + 1)).2.2.2))), (0, .ref r0), (1, .int 0), (2, .int ((nI od))), (3, .int ((nI fx))), (4, .int vs), (5, .int 0), (6, .int ((nI av)))]) hx hb d_Ref_part_61 hl (k := 9) rfl (show nI i + 1 = nI (i + 1) from nI_1 i) (by decide) rfl (fun ls hl => ?_)
      refine lv_goto (tgt := 24) hx hb d_Ref_part_64 (by decide) ?_
      exact ih (i + 1) (by omega) (by omega) _ ls (lv_sub hl [3, 4, 5, 6, 7, 8, 9, 1, 0] rfl)
set_option maxHeartbeats 1000000 in
set_option maxRecDepth 100000 in
theorem lpf_Ref_part2 {p : Program} {e : Env} {s : State} {m : MethodId} {args : Array Value} {below : List Frame} {meth : Method} {c : Code} (l : Launch) (dC : Nat → ClassId) (dI : Nat → Nat → Nat) (cI cJ : ClassId) (r0 : Nat) (th : Int32) (N : Nat) (OU : Nat) (Z : Nat) (r1 : Nat) (r2 : Nat) (r3 : Nat) (r4 : Nat) (r5 : Nat) (r6 : Nat) (r7 : Nat) (r8 : Nat) (r9 : Nat) (r10 : Nat) (r11 : Nat) (r12 : Nat) (r13 : Nat) (r14 : Nat) (bst : Int32) (r15 : Nat) (PW : Nat) (od : Nat) (fx : Nat) (vs : Int32) (hN : N ≤ 4) (hfx : fx ≤ N) (hPW : (1 : Int32) <<< (nI N &&& 31) = nI PW ∧ PW ≤ 16) (hok : ∀ k, k < N → iaO N od k = true) (hx : p.tables.exec = Jvm.exec) (hb : c.code = b_Ref_part) (hr : meth.sig.returnType = some .int) (hts : ∀ w ∈ lwg, w.before args s = true) (hown : s.vm.findClass R_Ref = some m.cls) (hlocks : meth.locks = false) (hml : c.maxLocals = 10) (hP : va_P (dC, dI) classes [(r0, .inr (8, [.int th, .int ((nI N)), .int ((nI OU)), .int ((nI Z)), .ref r1, .ref r2, .int 0, .ref r3, .ref r4, .ref r5, .ref r6, .ref r7, .ref r8, .int 0, .ref r9, .int 0, .ref r10, .ref r11, .int 0, .ref r12, .int 0, .ref r13, .ref r14, .int bst, .ref r15]))] s.heap) (hK : va_K (dC, dI) classes [(cI, .int), (cJ, .long)] s) : ∀ (fu i : Nat), PW - i < fu → i ≤ PW → ∀ ls : Array Slot, lv_has ls 10 [(0, .ref r0), (1, .int 0), (2, .int ((nI od))), (3, .int ((nI fx))), (4, .int vs), (5, .int 0), (6, .int ((nI i)))] → W p l e ({ frames := 2, cells := 0, slots := 0, locals := 48 } : Room) s m args below meth c s.heap [] 0 0 (MQ below (vp_Si (fun r => r = 0)) args s 0 0 (fun _ => False)) (F0 m 6 ls []) := by
  intro fu
  induction fu with
  | zero => intro i h; omega
  | succ fu ih =>
    intro i hfu hle ls hl
    refine lv_iload hx hb d_Ref_part_6 (lv_at hl 6 rfl) ?_
    refine lv_iconst (v := 1) hx hb d_Ref_part_8 (by decide) ?_
    refine lv_aload_n hx hb d_Ref_part_9 rfl (lv_at hl 0 rfl) ?_
    refine va_get (D := (dC, dI)) (ci := 8) (v := .int ((nI N))) (C := R_Ref) (T := F_Ref) (N := 25) hx hb hts i_Ref hown hK hP 0 rfl rfl 1 (by decide) (hts _ mw_fl_Ref_55) (fun _ h9 => h9) rfl d_Ref_part_10 ?_
    refine lv_ishl hx hb d_Ref_part_13 ?_
    refine w_ti (show _ = nI PW from hPW.1) ?_
    refine lv_icmp_ge (tgt := 97) hx hb d_Ref_part_14 (by decide) (fun c_14 => ?_) (fun c_14 => ?_)
    · have hE : i = PW := Nat.le_antisymm hle ((nI_leI (a := PW) (b := i) (by omega) (by omega)).mp c_14)
      refine lv_iload hx hb d_Ref_part_97 (lv_at hl 5 rfl) ?_
      exact W.iret (v := 0) hx hb hr (fun t ht hW => ⟨_, rfl, rfl, ht⟩) (fun q h => by cases h) d_Ref_part_99
    · have hlt : i < PW := Nat.lt_of_not_le (fun h => c_14 ((nI_leI (a := PW) (b := i) (by omega) (by omega)).mpr h))
      refine lv_iload hx hb d_Ref_part_17 (lv_at hl 6 rfl) ?_
      refine lv_istore (lv' := [(7, .int ((nI i))), (0, .ref r0), (1, .int 0), (2, .int ((nI od))), (3, .int ((nI fx))), (4, .int vs), (5, .int 0), (6, .int ((nI i)))]) hx hb d_Ref_part_19 hl (by decide) rfl (fun ls hl => ?_)
      refine lv_iconst (v := 0) hx hb d_Ref_part_21 (by decide) ?_
      refine lv_istore (lv' := [(8, .int 0), (7, .int ((nI i))), (0, .ref r0), (1, .int 0), (2, .int ((nI od))), (3, .int ((nI fx))), (4, .int vs), (5, .int 0), (6, .int ((nI i)))]) hx hb d_Ref_part_22 hl (by decide) rfl (fun ls hl => ?_)
      refine lpf_Ref_part1 l dC dI cI cJ r0 th N OU Z r1 r2 r3 r4 r5 r6 r7 r8 r9 r10 r11 r12 r13 r14 bst r15 PW od fx vs hN hfx hPW hok i  hx hb hts hown hml hP hK (fun fr__1 ls hl => ?_) (fx + 1) 0 (by omega) (Nat.zero_le _) _ ls (lv_sub hl [2, 3, 4, 5, 6, 7, 8, 1, 0] rfl)
      have hl : lv_has ls 10 [(0, .ref r0), (1, .int 0), (2, .int ((nI od))), (3, .int ((nI fx))), (4, .int vs), (5, .int 0), (6, .int ((nI i))), (7, .int fr__1)] := hl
      refine lv_iload_n hx hb d_Ref_part_67 rfl (lv_at hl 1 rfl) ?_
      refine lv_iload hx hb d_Ref_part_68 (lv_at hl 7 rfl) ?_
      refine lv_ishr hx hb d_Ref_part_70 ?_
      refine lv_iconst (v := 1) hx hb d_Ref_part_71 (by decide) ?_
      refine lv_iand hx hb d_Ref_part_72 ?_
      refine w_ti (show _ = 0 from sh0 _) ?_
      refine lv_iconst (v := 1) hx hb d_Ref_part_73 (by decide) ?_
      refine lv_icmp_ne (tgt := 87) hx hb d_Ref_part_74 (by decide) (fun c_74 => ?_) (fun c_74 => ?_)
      · refine lv_iload hx hb d_Ref_part_87 (lv_at hl 5 rfl) ?_
        refine lv_istore (lv' := [(5, .int 0), (0, .ref r0), (1, .int 0), (2, .int ((nI od))), (3, .int ((nI fx))), (4, .int vs), (6, .int ((nI i))), (7, .int fr__1)]) hx hb d_Ref_part_89 hl (by decide) rfl (fun ls hl => ?_)
        refine lv_iinc (v := (nI (i + 1))) (lv' := [(6, .int ((nI (i + 1)))), (5, .int 0), (0, .ref r0), (1, .int 0), (2, .int ((nI od))), (3, .int ((nI fx))), (4, .int vs), (7, .int fr__1)]) hx hb d_Ref_part_91 hl (k := 6) rfl (show nI i + 1 = nI (i + 1) from nI_1 i) (by decide) rfl (fun ls hl => ?_)
        refine lv_goto (tgt := 6) hx hb d_Ref_part_94 (by decide) ?_
        exact ih (i + 1) (by omega) (by omega) ls (lv_sub hl [2, 3, 4, 5, 6, 1, 0] rfl)
      · exact absurd c_74 (by decide +kernel)
set_option maxHeartbeats 1000000 in
set_option maxRecDepth 100000 in
theorem c_Ref_part (l : Launch) (dC : Nat → ClassId) (dI : Nat → Nat → Nat) (cI cJ : ClassId) (r0 : Nat) (th : Int32) (N : Nat) (OU : Nat) (Z : Nat) (r1 : Nat) (r2 : Nat) (r3 : Nat) (r4 : Nat) (r5 : Nat) (r6 : Nat) (r7 : Nat) (r8 : Nat) (r9 : Nat) (r10 : Nat) (r11 : Nat) (r12 : Nat) (r13 : Nat) (r14 : Nat) (bst : Int32) (r15 : Nat) (PW : Nat) (od : Nat) (fx : Nat) (vs : Int32) (hN : N ≤ 4) (hfx : fx ≤ N) (hPW : (1 : Int32) <<< (nI N &&& 31) = nI PW ∧ PW ≤ 16) (hok : ∀ k, k < N → iaO N od k = true) : Met l y_Ref_part (ct y_Ref_part b_Ref_part 10 (some .int)) ({ frames := 2, cells := 0, slots := 0, locals := 48 }) (va_Pc [.ref r0, .int 0, .int ((nI od)), .int ((nI fx)), .int vs] (fun U => va_P (dC, dI) classes [(r0, .inr (8, [.int th, .int ((nI N)), .int ((nI OU)), .int ((nI Z)), .ref r1, .ref r2, .int 0, .ref r3, .ref r4, .ref r5, .ref r6, .ref r7, .ref r8, .int 0, .ref r9, .int 0, .ref r10, .ref r11, .int 0, .ref r12, .int 0, .ref r13, .ref r14, .int bst, .ref r15]))] U.heap ∧ va_K (dC, dI) classes [(cI, .int), (cJ, .long)] U)) (vp_Si (fun r => r = 0)) 0 0 (fun _ => False) := by
  refine Met.ofW (cc := b_Ref_part) (maxL := 10) (ret := some .int) (by decide) rfl ?_
  intro p e s m args below meth c s₁ B hml hv
  obtain ⟨rfl, hP, hK⟩ := hv
  have hx := B.exec
  have hb := B.bytes
  have hr := B.returns
  have hts : ∀ w ∈ lwg, w.before _ s = true := fun w h => atoms_spec (ws := ct y_Ref_part b_Ref_part 10 (some .int)) B.pre w (List.mem_cons_of_mem _ h)
  have hown : s.vm.findClass R_Ref = some m.cls := findClass_of_methodNamed B.named
  have hlocks := B.notSynchronized
  have hl := lv_entry ([.ref r0, .int 0, .int ((nI od)), .int ((nI fx)), .int vs]) (n := 10) (Nat.le_of_ble_eq_true rfl)
  rw [lg_entry_eq]
  generalize (lg_sl ([.ref r0, .int 0, .int ((nI od)), .int ((nI fx)), .int vs]) ++ List.replicate (10 - (lg_sl ([.ref r0, .int 0, .int ((nI od)), .int ((nI fx)), .int vs])).length) Slot.unset).toArray = ls at hl ⊢
  have hl : lv_has ls 10 [(0, .ref r0), (1, .int 0), (2, .int ((nI od))), (3, .int ((nI fx))), (4, .int vs)] := hl
  refine lv_iconst (v := 0) hx hb d_Ref_part_0 (by decide) ?_
  refine lv_istore (lv' := [(5, .int 0), (0, .ref r0), (1, .int 0), (2, .int ((nI od))), (3, .int ((nI fx))), (4, .int vs)]) hx hb d_Ref_part_1 hl (by decide) rfl (fun ls hl => ?_)
  refine lv_iconst (v := 0) hx hb d_Ref_part_3 (by decide) ?_
  refine lv_istore (lv' := [(6, .int 0), (5, .int 0), (0, .ref r0), (1, .int 0), (2, .int ((nI od))), (3, .int ((nI fx))), (4, .int vs)]) hx hb d_Ref_part_4 hl (by decide) rfl (fun ls hl => ?_)
  exact lpf_Ref_part2 l dC dI cI cJ r0 th N OU Z r1 r2 r3 r4 r5 r6 r7 r8 r9 r10 r11 r12 r13 r14 bst r15 PW od fx vs hN hfx hPW hok hx hb hr hts hown hlocks hml hP hK (PW + 1) 0 (by omega) (Nat.zero_le _) ls (lv_sub hl [2, 3, 4, 5, 6, 1, 0] rfl)
set_option maxHeartbeats 1000000 in
set_option maxRecDepth 100000 in
theorem lpf_Ref_nodes1 {p : Program} {e : Env} {s : State} {m : MethodId} {args : Array Value} {below : List Frame} {meth : Method} {c : Code} {Q : State → Prop} (l : Launch) (dC : Nat → ClassId) (dI : Nat → Nat → Nat) (cI cJ : ClassId) (r0 : Nat) (th : Int32) (N : Nat) (OU : Nat) (Z : Nat) (r1 : Nat) (r2 : Nat) (r3 : Nat) (r4 : Nat) (r5 : Nat) (r6 : Nat) (r7 : Nat) (r8 : Nat) (r9 : Nat) (r10 : Nat) (r11 : Nat) (r12 : Nat) (r13 : Nat) (r14 : Nat) (bst : Int32) (r15 : Nat) (od : Nat) (hN : N ≤ 4) (hOU : OU ≤ 2) (hok : ∀ k, k < N → iaO N od k = true) (lev : Nat) (LW : Nat) (inp : Int32) (ov : Nat) (hlev : lev < N) (hLW : (1 : Int32) <<< (nI lev &&& 31) = nI LW ∧ LW ≤ 8) (hov : ov < OU) (hx : p.tables.exec = Jvm.exec) (hb : c.code = b_Ref_nodes) (hts : ∀ w ∈ lwg, w.before args s = true) (hown : s.vm.findClass R_Ref = some m.cls) (hml : c.maxLocals = 11) (hP : va_P (dC, dI) classes [(r0, .inr (8, [.int th, .int ((nI N)), .int ((nI OU)), .int ((nI Z)), .ref r1, .ref r2, .int 0, .ref r3, .ref r4, .ref r5, .ref r6, .ref r7, .ref r8, .int 0, .ref r9, .int 0, .ref r10, .ref r11, .int 0, .ref r12, .int 0, .ref r13, .ref r14, .int bst, .ref r15])), (r3, .inl (cI, 2, .inl ((fun _ => 0))))] s.heap) (hK : va_K (dC, dI) classes [(cI, .int), (cJ, .long)] s) (kk : ∀ (ls : Array Slot), lv_has ls 11 [(0, .ref r0), (1, .int ((nI od))), (2, .int 0), (3, .int ((nI lev))), (4, .int 0), (5, .int inp), (6, .int ((nI ov)))] → W p l e ({ frames := 3, cells := 0, slots := 0, locals := 77 } : Room) s m args below meth c s.heap [] 0 0 Q (F0 m 136 ls [])) : ∀ (fu i : Nat), LW - i < fu → i ≤ LW → ∀ (ls : Array Slot), lv_has ls 11 [(0, .ref r0), (1, .int ((nI od))), (2, .int 0), (3, .int ((nI lev))), (4, .int 0), (5, .int inp), (6, .int ((nI ov))), (7, .int ((nI i)))] → W p l e ({ frames := 3, cells := 0, slots := 0, locals := 77 } : Room) s m args below meth c s.heap [] 0 0 Q (F0 m 38 ls []) := by
  intro fu
  induction fu with
  | zero => intro i h; omega
  | succ fu ih =>
    intro i hfu hle ls hl
    refine lv_iload hx hb d_Ref_nodes_38 (lv_at hl 7 rfl) ?_
    refine lv_iconst (v := 1) hx hb d_Ref_nodes_40 (by decide) ?_
    refine lv_iload_n hx hb d_Ref_nodes_41 rfl (lv_at hl 3 rfl) ?_
    refine lv_ishl hx hb d_Ref_nodes_42 ?_
    refine w_ti (show _ = nI LW from hLW.1) ?_
    refine lv_icmp_ge (tgt := 136) hx hb d_Ref_nodes_43 (by decide) (fun c_43 => ?_) (fun c_43 => ?_)
    · have hE : i = LW := Nat.le_antisymm hle ((nI_leI (a := LW) (b := i) (by omega) (by omega)).mp c_43)
      exact kk ls (by subst hE; exact lv_sub hl [0, 1, 2, 3, 4, 5, 6] rfl)
    · have hlt : i < LW := Nat.lt_of_not_le (fun h => c_43 ((nI_leI (a := LW) (b := i) (by omega) (by omega)).mpr h))
      refine lv_aload_n hx hb d_Ref_nodes_46 rfl (lv_at hl 0 rfl) ?_
      refine lv_aload_n hx hb d_Ref_nodes_47 rfl (lv_at hl 0 rfl) ?_
      refine va_get (D := (dC, dI)) (ci := 8) (v := .ref r3) (C := R_Ref) (T := F_Ref) (N := 25) hx hb hts i_Ref hown hK hP 0 rfl rfl 7 (by decide) (hts _ mw_fl_Ref_16) (fun _ h9 => h9) rfl d_Ref_nodes_48 ?_
      refine lv_iload hx hb d_Ref_nodes_51 (lv_at hl 6 rfl) ?_
      refine va_iald hx hb hK hP 1 0 rfl rfl (vp_in_nI (show ov < 2 by omega) (by omega)) d_Ref_nodes_53 ?_
      refine w_ti (show _ = 0 from rfl) ?_
      refine lv_iload_n hx hb d_Ref_nodes_54 rfl (lv_at hl 1 rfl) ?_
      refine lv_iload_n hx hb d_Ref_nodes_55 rfl (lv_at hl 3 rfl) ?_
      refine lv_iload hx hb d_Ref_nodes_56 (lv_at hl 7 rfl) ?_
      refine vp_callSi (W.runV (As := [.int 0, .int ((nI od)), .int ((nI lev)), .int ((nI i))]) (rest := []) ⟨hx, hb, hml, hown, hts⟩ (c_Ref_part l dC dI cI cJ r0 th N OU Z r1 r2 r3 r4 r5 r6 r7 r8 r9 r10 r11 r12 r13 r14 bst r15 ((2 ^ N)) od lev (nI i) hN (by omega) (pw_ok hN) hok) (cwV 4 hts (ct_goodV mw_ml_Ref_140 mw_im_Ref_part mw_se_Ref_part mw_ini_Ref mw_code_Ref_part) rfl rfl rfl (by decide +kernel) ⟨Nat.le_of_ble_eq_true rfl, Nat.le_of_ble_eq_true rfl⟩) ⟨fun a U g mk q => by obtain ⟨q0, qP, qK⟩ := q; exact ⟨q0, qP, va_K.moved (u := U) (U := U.calling g mk a) (Vm.Alike.refl U.vm) qK⟩, va_recv hK hP (ci := 8) (q0 := 0) rfl rfl, fun U hU hW => ⟨rfl, by rw [hU]; exact (hP.sub (ws' := [(r0, .inr (8, [.int th, .int ((nI N)), .int ((nI OU)), .int ((nI Z)), .ref r1, .ref r2, .int 0, .ref r3, .ref r4, .ref r5, .ref r6, .ref r7, .ref r8, .int 0, .ref r9, .int 0, .ref r10, .ref r11, .int 0, .ref r12, .int 0, .ref r13, .ref r14, .int bst, .ref r15]))]) [0] rfl), va_K.moved hW.alike hK⟩⟩ rfl rfl hl.1 rfl (lv_room (Nat.le_of_ble_eq_true rfl)) d_Ref_nodes_58 ⟨Nat.le_of_ble_eq_true rfl, Nat.le_of_ble_eq_true rfl⟩) (fun r_1 hr_1 => ?_)
      rw [hr_1]
      clear hr_1
      refine lv_istore (lv' := [(8, .int ((0))), (0, .ref r0), (1, .int ((nI od))), (2, .int 0), (3, .int ((nI lev))), (4, .int 0), (5, .int inp), (6, .int ((nI ov))), (7, .int ((nI i)))]) hx hb d_Ref_nodes_61 hl (by decide) rfl (fun ls hl => ?_)
      refine lv_aload_n hx hb d_Ref_nodes_63 rfl (lv_at hl 1 rfl) ?_
      refine lv_iload hx hb d_Ref_nodes_64 (lv_at hl 0 rfl) ?_
      refine lv_iload hx hb d_Ref_nodes_66 (lv_at hl 6 rfl) ?_
      refine vp_callSi (W.runV (As := [.int ((0)), .int inp]) (rest := []) ⟨hx, hb, hml, hown, hts⟩ (c_Ref_asks l dC dI cI cJ r0 th N OU Z r1 r2 0 r3 r4 r5 r6 r7 r8 0 r9 0 r10 r11 0 r12 0 r13 r14 bst r15 ((2 ^ N)) 0 inp hN (pw_ok hN)) (cwV 2 hts (ct_goodV mw_ml_Ref_144 mw_im_Ref_asks mw_se_Ref_asks mw_ini_Ref mw_code_Ref_asks) rfl rfl rfl (by decide +kernel) ⟨Nat.le_of_ble_eq_true rfl, Nat.le_of_ble_eq_true rfl⟩) ⟨fun a U g mk q => by obtain ⟨q0, qP, qK⟩ := q; exact ⟨q0, qP, va_K.moved (u := U) (U := U.calling g mk a) (Vm.Alike.refl U.vm) qK⟩, va_recv hK hP (ci := 8) (q0 := 0) rfl rfl, fun U hU hW => ⟨rfl, by rw [hU]; exact (hP.sub (ws' := [(r0, .inr (8, [.int th, .int ((nI N)), .int ((nI OU)), .int ((nI Z)), .ref r1, .ref r2, .int ((nI 0)), .ref r3, .ref r4, .ref r5, .ref r6, .ref r7, .ref r8, .int ((nI 0)), .ref r9, .int 0, .ref r10, .ref r11, .int ((nI 0)), .ref r12, .int 0, .ref r13, .ref r14, .int bst, .ref r15]))]) [0] rfl), va_K.moved hW.alike hK⟩⟩ rfl rfl hl.1 rfl (lv_room (Nat.le_of_ble_eq_true rfl)) d_Ref_nodes_68 ⟨Nat.le_of_ble_eq_true rfl, Nat.le_of_ble_eq_true rfl⟩) (fun r_2 hr_2 => ?_)
      rw [hr_2]
      clear hr_2
      refine w_ti (show _ = 0 from rAsk_0 _ _) ?_
      refine lv_istore (lv' := [(9, .int ((0))), (8, .int ((0))), (0, .ref r0), (1, .int ((nI od))), (2, .int 0), (3, .int ((nI lev))), (4, .int 0), (5, .int inp), (6, .int ((nI ov))), (7, .int ((nI i)))]) hx hb d_Ref_nodes_71 hl (by decide) rfl (fun ls hl => ?_)
      refine lv_iconst (v := 0) hx hb d_Ref_nodes_73 (by decide) ?_
      refine lv_istore (lv' := [(10, .int 0), (9, .int ((0))), (8, .int ((0))), (0, .ref r0), (1, .int ((nI od))), (2, .int 0), (3, .int ((nI lev))), (4, .int 0), (5, .int inp), (6, .int ((nI ov))), (7, .int ((nI i)))]) hx hb d_Ref_nodes_74 hl (by decide) rfl (fun ls hl => ?_)
      refine lv_iload hx hb d_Ref_nodes_76 (lv_at hl 0 rfl) ?_
      refine lv_iload hx hb d_Ref_nodes_78 (lv_at hl 7 rfl) ?_
      refine lv_icmp_ge (tgt := 113) hx hb d_Ref_nodes_80 (by decide) (fun c_80 => ?_) (fun c_80 => ?_)
      · refine lv_iload hx hb d_Ref_nodes_113 (lv_at hl 1 rfl) ?_
        refine lv_if_eq (tgt := 130) hx hb d_Ref_nodes_115 (by decide) (fun c_115 => ?_) (fun c_115 => ?_)
        · refine lv_iinc (v := (nI (i + 1))) (lv' := [(7, .int ((nI (i + 1)))), (10, .int 0), (9, .int ((0))), (8, .int ((0))), (0, .ref r0), (1, .int ((nI od))), (2, .int 0), (3, .int ((nI lev))), (4, .int 0), (5, .int inp), (6, .int ((nI ov)))]) hx hb d_Ref_nodes_130 hl (k := 10) rfl (show nI i + 1 = nI (i + 1) from nI_1 i) (by decide) rfl (fun ls hl => ?_)
          refine lv_goto (tgt := 38) hx hb d_Ref_nodes_133 (by decide) ?_
          exact ih (i + 1) (by omega) (by omega) ls (lv_sub hl [4, 5, 6, 7, 8, 9, 10, 0] rfl)
        · exact absurd c_115 (by decide +kernel)
      · exact absurd c_80 (by decide +kernel)
set_option maxHeartbeats 1000000 in
set_option maxRecDepth 100000 in
theorem lpf_Ref_nodes2 {p : Program} {e : Env} {s : State} {m : MethodId} {args : Array Value} {below : List Frame} {meth : Method} {c : Code} {Q : State → Prop} (l : Launch) (dC : Nat → ClassId) (dI : Nat → Nat → Nat) (cI cJ : ClassId) (r0 : Nat) (th : Int32) (N : Nat) (OU : Nat) (Z : Nat) (r1 : Nat) (r2 : Nat) (r3 : Nat) (r4 : Nat) (r5 : Nat) (r6 : Nat) (r7 : Nat) (r8 : Nat) (r9 : Nat) (r10 : Nat) (r11 : Nat) (r12 : Nat) (r13 : Nat) (r14 : Nat) (bst : Int32) (r15 : Nat) (od : Nat) (hN : N ≤ 4) (hOU : OU ≤ 2) (hok : ∀ k, k < N → iaO N od k = true) (lev : Nat) (LW : Nat) (inp : Int32) (hlev : lev < N) (hLW : (1 : Int32) <<< (nI lev &&& 31) = nI LW ∧ LW ≤ 8) (hx : p.tables.exec = Jvm.exec) (hb : c.code = b_Ref_nodes) (hts : ∀ w ∈ lwg, w.before args s = true) (hown : s.vm.findClass R_Ref = some m.cls) (hml : c.maxLocals = 11) (hP : va_P (dC, dI) classes [(r0, .inr (8, [.int th, .int ((nI N)), .int ((nI OU)), .int ((nI Z)), .ref r1, .ref r2, .int 0, .ref r3, .ref r4, .ref r5, .ref r6, .ref r7, .ref r8, .int 0, .ref r9, .int 0, .ref r10, .ref r11, .int 0, .ref r12, .int 0, .ref r13, .ref r14, .int bst, .ref r15])), (r3, .inl (cI, 2, .inl ((fun _ => 0))))] s.heap) (hK : va_K (dC, dI) classes [(cI, .int), (cJ, .long)] s) (kk : ∀ (ls : Array Slot), lv_has ls 11 [(0, .ref r0), (1, .int ((nI od))), (2, .int 0), (3, .int ((nI lev))), (4, .int 0), (5, .int inp)] → W p l e ({ frames := 3, cells := 0, slots := 0, locals := 77 } : Room) s m args below meth c s.heap [] 0 0 Q (F0 m 142 ls [])) : ∀ (fu i : Nat), OU - i < fu → i ≤ OU → ∀ (ls : Array Slot), lv_has ls 11 [(0, .ref r0), (1, .int ((nI od))), (2, .int 0), (3, .int ((nI lev))), (4, .int 0), (5, .int inp), (6, .int ((nI i)))] → W p l e ({ frames := 3, cells := 0, slots := 0, locals := 77 } : Room) s m args below meth c s.heap [] 0 0 Q (F0 m 26 ls []) := by
  intro fu
  induction fu with
  | zero => intro i h; omega
  | succ fu ih =>
    intro i hfu hle ls hl
    refine lv_iload hx hb d_Ref_nodes_26 (lv_at hl 6 rfl) ?_
    refine lv_aload_n hx hb d_Ref_nodes_28 rfl (lv_at hl 0 rfl) ?_
    refine va_get (D := (dC, dI)) (ci := 8) (v := .int ((nI OU))) (C := R_Ref) (T := F_Ref) (N := 25) hx hb hts i_Ref hown hK hP 0 rfl rfl 2 (by decide) (hts _ mw_fl_Ref_59) (fun _ h9 => h9) rfl d_Ref_nodes_29 ?_
    refine lv_icmp_ge (tgt := 142) hx hb d_Ref_nodes_32 (by decide) (fun c_32 => ?_) (fun c_32 => ?_)
    · have hE : i = OU := Nat.le_antisymm hle ((nI_leI (a := OU) (b := i) (by omega) (by omega)).mp c_32)
      exact kk ls (by subst hE; exact lv_sub hl [0, 1, 2, 3, 4, 5] rfl)
    · have hlt : i < OU := Nat.lt_of_not_le (fun h => c_32 ((nI_leI (a := OU) (b := i) (by omega) (by omega)).mpr h))
      refine lv_iconst (v := 0) hx hb d_Ref_nodes_35 (by decide) ?_
      refine lv_istore (lv' := [(7, .int 0), (0, .ref r0), (1, .int ((nI od))), (2, .int 0), (3, .int ((nI lev))), (4, .int 0), (5, .int inp), (6, .int ((nI i)))]) hx hb d_Ref_nodes_36 hl (by decide) rfl (fun ls hl => ?_)
      refine lpf_Ref_nodes1 l dC dI cI cJ r0 th N OU Z r1 r2 r3 r4 r5 r6 r7 r8 r9 r10 r11 r12 r13 r14 bst r15 od hN hOU hok lev LW inp i hlev hLW hlt hx hb hts hown hml hP hK (fun ls hl => ?_) (LW + 1) 0 (by omega) (Nat.zero_le _) ls (lv_sub hl [1, 2, 3, 4, 5, 6, 7, 0] rfl)
      have hl : lv_has ls 11 [(0, .ref r0), (1, .int ((nI od))), (2, .int 0), (3, .int ((nI lev))), (4, .int 0), (5, .int inp), (6, .int ((nI i)))] := hl
      refine lv_iinc (v := (nI (i + 1))) (lv' := [(6, .int ((nI (i + 1)))), (0, .ref r0), (1, .int ((nI od))), (2, .int 0), (3, .int ((nI lev))), (4, .int 0), (5, .int inp)]) hx hb d_Ref_nodes_136 hl (k := 6) rfl (show nI i + 1 = nI (i + 1) from nI_1 i) (by decide) rfl (fun ls hl => ?_)
      refine lv_goto (tgt := 26) hx hb d_Ref_nodes_139 (by decide) ?_
      exact ih (i + 1) (by omega) (by omega) ls (lv_sub hl [1, 2, 3, 4, 5, 6, 0] rfl)
set_option maxHeartbeats 1000000 in
set_option maxRecDepth 100000 in
theorem lpf_Ref_nodes3 {p : Program} {e : Env} {s : State} {m : MethodId} {args : Array Value} {below : List Frame} {meth : Method} {c : Code} (l : Launch) (dC : Nat → ClassId) (dI : Nat → Nat → Nat) (cI cJ : ClassId) (r0 : Nat) (th : Int32) (N : Nat) (OU : Nat) (Z : Nat) (r1 : Nat) (r2 : Nat) (r3 : Nat) (r4 : Nat) (r5 : Nat) (r6 : Nat) (r7 : Nat) (r8 : Nat) (r9 : Nat) (r10 : Nat) (r11 : Nat) (r12 : Nat) (r13 : Nat) (r14 : Nat) (bst : Int32) (r15 : Nat) (od : Nat) (hN : N ≤ 4) (hOU : OU ≤ 2) (hok : ∀ k, k < N → iaO N od k = true) (hx : p.tables.exec = Jvm.exec) (hb : c.code = b_Ref_nodes) (hr : meth.sig.returnType = some .int) (hts : ∀ w ∈ lwg, w.before args s = true) (hown : s.vm.findClass R_Ref = some m.cls) (hlocks : meth.locks = false) (hml : c.maxLocals = 11) (hP : va_P (dC, dI) classes [(r0, .inr (8, [.int th, .int ((nI N)), .int ((nI OU)), .int ((nI Z)), .ref r1, .ref r2, .int 0, .ref r3, .ref r4, .ref r5, .ref r6, .ref r7, .ref r8, .int 0, .ref r9, .int 0, .ref r10, .ref r11, .int 0, .ref r12, .int 0, .ref r13, .ref r14, .int bst, .ref r15])), (r3, .inl (cI, 2, .inl ((fun _ => 0))))] s.heap) (hK : va_K (dC, dI) classes [(cI, .int), (cJ, .long)] s) : ∀ (fu i : Nat), N - i < fu → i ≤ N → ∀ ls : Array Slot, lv_has ls 11 [(0, .ref r0), (1, .int ((nI od))), (2, .int 0), (3, .int ((nI i)))] → W p l e ({ frames := 3, cells := 0, slots := 0, locals := 77 } : Room) s m args below meth c s.heap [] 0 0 (MQ below (vp_Si (fun r => r = 0)) args s 0 0 (fun _ => False)) (F0 m 4 ls []) := by
  intro fu
  induction fu with
  | zero => intro i h; omega
  | succ fu ih =>
    intro i hfu hle ls hl
    refine lv_iload_n hx hb d_Ref_nodes_4 rfl (lv_at hl 3 rfl) ?_
    refine lv_aload_n hx hb d_Ref_nodes_5 rfl (lv_at hl 0 rfl) ?_
    refine va_get (D := (dC, dI)) (ci := 8) (v := .int ((nI N))) (C := R_Ref) (T := F_Ref) (N := 25) hx hb hts i_Ref hown hK hP 0 rfl rfl 1 (by decide) (hts _ mw_fl_Ref_55) (fun _ h9 => h9) rfl d_Ref_nodes_6 ?_
    refine lv_icmp_ge (tgt := 153) hx hb d_Ref_nodes_9 (by decide) (fun c_9 => ?_) (fun c_9 => ?_)
    · have hE : i = N := Nat.le_antisymm hle ((nI_leI (a := N) (b := i) (by omega) (by omega)).mp c_9)
      refine lv_iload_n hx hb d_Ref_nodes_153 rfl (lv_at hl 2 rfl) ?_
      exact W.iret (v := 0) hx hb hr (fun t ht hW => ⟨_, rfl, rfl, ht⟩) (fun q h => by cases h) d_Ref_nodes_154
    · have hlt : i < N := Nat.lt_of_not_le (fun h => c_9 ((nI_leI (a := N) (b := i) (by omega) (by omega)).mpr h))
      refine lv_iconst (v := 0) hx hb d_Ref_nodes_12 (by decide) ?_
      refine lv_istore (lv' := [(4, .int 0), (0, .ref r0), (1, .int ((nI od))), (2, .int 0), (3, .int ((nI i)))]) hx hb d_Ref_nodes_13 hl (by decide) rfl (fun ls hl => ?_)
      refine lv_aload_n hx hb d_Ref_nodes_15 rfl (lv_at hl 1 rfl) ?_
      refine lv_iload_n hx hb d_Ref_nodes_16 rfl (lv_at hl 2 rfl) ?_
      refine lv_iload_n hx hb d_Ref_nodes_17 rfl (lv_at hl 4 rfl) ?_
      refine vp_callSi (W.runV (As := [.int ((nI od)), .int ((nI i))]) (rest := []) ⟨hx, hb, hml, hown, hts⟩ (c_Ref_inputAt l dC dI cI cJ r0 th N OU Z r1 r2 r3 r4 r5 r6 r7 r8 r9 r10 r11 r12 r13 r14 bst r15 od i hN hlt (fun k hk => hok k (by omega))) (cwV 2 hts (ct_goodV mw_ml_Ref_137 mw_im_Ref_inputAt mw_se_Ref_inputAt mw_ini_Ref mw_code_Ref_inputAt) rfl rfl rfl (by decide +kernel) ⟨Nat.le_of_ble_eq_true rfl, Nat.le_of_ble_eq_true rfl⟩) ⟨fun a U g mk q => by obtain ⟨q0, qP, qK⟩ := q; exact ⟨q0, qP, va_K.moved (u := U) (U := U.calling g mk a) (Vm.Alike.refl U.vm) qK⟩, va_recv hK hP (ci := 8) (q0 := 0) rfl rfl, fun U hU hW => ⟨rfl, by rw [hU]; exact (hP.sub (ws' := [(r0, .inr (8, [.int th, .int ((nI N)), .int ((nI OU)), .int ((nI Z)), .ref r1, .ref r2, .int 0, .ref r3, .ref r4, .ref r5, .ref r6, .ref r7, .ref r8, .int 0, .ref r9, .int 0, .ref r10, .ref r11, .int 0, .ref r12, .int 0, .ref r13, .ref r14, .int bst, .ref r15]))]) [0] rfl), va_K.moved hW.alike hK⟩⟩ rfl rfl hl.1 rfl (lv_room (Nat.le_of_ble_eq_true rfl)) d_Ref_nodes_18 ⟨Nat.le_of_ble_eq_true rfl, Nat.le_of_ble_eq_true rfl⟩) (fun r_1 hr_1 => ?_)
      rw [hr_1]
      clear hr_1
      refine lv_istore (lv' := [(5, .int (((iaS N od (i + 1)).2.2.2))), (4, .int 0), (0, .ref r0), (1, .int ((nI od))), (2, .int 0), (3, .int ((nI i)))]) hx hb d_Ref_nodes_21 hl (by decide) rfl (fun ls hl => ?_)
      refine lv_iconst (v := 0) hx hb d_Ref_nodes_23 (by decide) ?_
      refine lv_istore (lv' := [(6, .int 0), (5, .int (((iaS N od (i + 1)).2.2.2))), (4, .int 0), (0, .ref r0), (1, .int ((nI od))), (2, .int 0), (3, .int ((nI i)))]) hx hb d_Ref_nodes_24 hl (by decide) rfl (fun ls hl => ?_)
      refine lpf_Ref_nodes2 l dC dI cI cJ r0 th N OU Z r1 r2 r3 r4 r5 r6 r7 r8 r9 r10 r11 r12 r13 r14 bst r15 od hN hOU hok i ((2 ^ i)) (((iaS N od (i + 1)).2.2.2)) hlt (pw8 (show i < 4 by omega)) hx hb hts hown hml hP hK (fun ls hl => ?_) (OU + 1) 0 (by omega) (Nat.zero_le _) ls (lv_sub hl [3, 4, 5, 6, 2, 1, 0] rfl)
      have hl : lv_has ls 11 [(0, .ref r0), (1, .int ((nI od))), (2, .int 0), (3, .int ((nI i))), (4, .int 0), (5, .int ((((iaS N od (i + 1)).2.2.2))))] := hl
      refine lv_iload_n hx hb d_Ref_nodes_142 rfl (lv_at hl 2 rfl) ?_
      refine lv_iload hx hb d_Ref_nodes_143 (lv_at hl 4 rfl) ?_
      refine lv_iadd hx hb d_Ref_nodes_145 ?_
      refine w_ti (show _ = 0 from rfl) ?_
      refine lv_istore_n (lv' := [(2, .int ((0))), (0, .ref r0), (1, .int ((nI od))), (3, .int ((nI i))), (4, .int 0), (5, .int ((((iaS N od (i + 1)).2.2.2))))]) hx hb d_Ref_nodes_146 rfl hl (by decide) rfl (fun ls hl => ?_)
      refine lv_iinc (v := (nI (i + 1))) (lv' := [(3, .int ((nI (i + 1)))), (2, .int ((0))), (0, .ref r0), (1, .int ((nI od))), (4, .int 0), (5, .int ((((iaS N od (i + 1)).2.2.2))))]) hx hb d_Ref_nodes_147 hl (k := 3) rfl (show nI i + 1 = nI (i + 1) from nI_1 i) (by decide) rfl (fun ls hl => ?_)
      refine lv_goto (tgt := 4) hx hb d_Ref_nodes_150 (by decide) ?_
      exact ih (i + 1) (by omega) (by omega) ls (lv_sub hl [2, 3, 1, 0] rfl)
set_option maxHeartbeats 1000000 in
set_option maxRecDepth 100000 in
theorem c_Ref_nodes (l : Launch) (dC : Nat → ClassId) (dI : Nat → Nat → Nat) (cI cJ : ClassId) (r0 : Nat) (th : Int32) (N : Nat) (OU : Nat) (Z : Nat) (r1 : Nat) (r2 : Nat) (r3 : Nat) (r4 : Nat) (r5 : Nat) (r6 : Nat) (r7 : Nat) (r8 : Nat) (r9 : Nat) (r10 : Nat) (r11 : Nat) (r12 : Nat) (r13 : Nat) (r14 : Nat) (bst : Int32) (r15 : Nat) (od : Nat) (hN : N ≤ 4) (hOU : OU ≤ 2) (hok : ∀ k, k < N → iaO N od k = true) : Met l y_Ref_nodes (ct y_Ref_nodes b_Ref_nodes 11 (some .int)) ({ frames := 3, cells := 0, slots := 0, locals := 77 }) (va_Pc [.ref r0, .int ((nI od))] (fun U => va_P (dC, dI) classes [(r0, .inr (8, [.int th, .int ((nI N)), .int ((nI OU)), .int ((nI Z)), .ref r1, .ref r2, .int 0, .ref r3, .ref r4, .ref r5, .ref r6, .ref r7, .ref r8, .int 0, .ref r9, .int 0, .ref r10, .ref r11, .int 0, .ref r12, .int 0, .ref r13, .ref r14, .int bst, .ref r15])), (r3, .inl (cI, 2, .inl ((fun _ => 0))))] U.heap ∧ va_K (dC, dI) classes [(cI, .int), (cJ, .long)] U)) (vp_Si (fun r => r = 0)) 0 0 (fun _ => False) := by
  refine Met.ofW (cc := b_Ref_nodes) (maxL := 11) (ret := some .int) (by decide) rfl ?_
  intro p e s m args below meth c s₁ B hml hv
  obtain ⟨rfl, hP, hK⟩ := hv
  have hx := B.exec
  have hb := B.bytes
  have hr := B.returns
  have hts : ∀ w ∈ lwg, w.before _ s = true := fun w h => atoms_spec (ws := ct y_Ref_nodes b_Ref_nodes 11 (some .int)) B.pre w (List.mem_cons_of_mem _ h)
  have hown : s.vm.findClass R_Ref = some m.cls := findClass_of_methodNamed B.named
  have hlocks := B.notSynchronized
  have hl := lv_entry ([.ref r0, .int ((nI od))]) (n := 11) (Nat.le_of_ble_eq_true rfl)
  rw [lg_entry_eq]
  generalize (lg_sl ([.ref r0, .int ((nI od))]) ++ List.replicate (11 - (lg_sl ([.ref r0, .int ((nI od))])).length) Slot.unset).toArray = ls at hl ⊢
  have hl : lv_has ls 11 [(0, .ref r0), (1, .int ((nI od)))] := hl
  refine lv_iconst (v := 0) hx hb d_Ref_nodes_0 (by decide) ?_
  refine lv_istore_n (lv' := [(2, .int 0), (0, .ref r0), (1, .int ((nI od)))]) hx hb d_Ref_nodes_1 rfl hl (by decide) rfl (fun ls hl => ?_)
  refine lv_iconst (v := 0) hx hb d_Ref_nodes_2 (by decide) ?_
  refine lv_istore_n (lv' := [(3, .int 0), (2, .int 0), (0, .ref r0), (1, .int ((nI od)))]) hx hb d_Ref_nodes_3 rfl hl (by decide) rfl (fun ls hl => ?_)
  exact lpf_Ref_nodes3 l dC dI cI cJ r0 th N OU Z r1 r2 r3 r4 r5 r6 r7 r8 r9 r10 r11 r12 r13 r14 bst r15 od hN hOU hok hx hb hr hts hown hlocks hml hP hK (N + 1) 0 (by omega) (Nat.zero_le _) ls (lv_sub hl [2, 3, 1, 0] rfl)
set_option maxHeartbeats 1000000 in
set_option maxRecDepth 100000 in
theorem c0_Ref_diagram (l : Launch) (dC : Nat → ClassId) (dI : Nat → Nat → Nat) (cI cJ : ClassId) (sz0 : Nat) (r0 : Nat) (th : Int32) (N : Nat) (OU : Nat) (Z : Nat) (r1 : Nat) (r2 : Nat) (r3 : Nat) (r4 : Nat) (r5 : Nat) (r6 : Nat) (r7 : Nat) (r8 : Nat) (r9 : Nat) (r10 : Nat) (r11 : Nat) (r12 : Nat) (r13 : Nat) (r14 : Nat) (bst : Int32) (r15 : Nat) (x : Int32) (hor : x < 0 ∨ nI (rOrd N) ≤ x) : Met l y_Ref_diagram (ct y_Ref_diagram b_Ref_diagram 2 (some .int)) ({ frames := 4, cells := 0, slots := 0, locals := 107 }) (va_Pc [.ref r0, .int x] (fun U => U.heap.size = sz0 ∧ va_P (dC, dI) classes [(r0, .inr (8, [.int th, .int ((nI N)), .int ((nI OU)), .int ((nI Z)), .ref r1, .ref r2, .int 0, .ref r3, .ref r4, .ref r5, .ref r6, .ref r7, .ref r8, .int 0, .ref r9, .int 0, .ref r10, .ref r11, .int 0, .ref r12, .int 0, .ref r13, .ref r14, .int bst, .ref r15]))] U.heap ∧ va_K (dC, dI) classes [(cI, .int), (cJ, .long)] U ∧ va_D (fun _ => True) [(r0, .inr (8, [.int th, .int ((nI N)), .int ((nI OU)), .int ((nI Z)), .ref r1, .ref r2, .int 0, .ref r3, .ref r4, .ref r5, .ref r6, .ref r7, .ref r8, .int 0, .ref r9, .int 0, .ref r10, .ref r11, .int 0, .ref r12, .int 0, .ref r13, .ref r14, .int bst, .ref r15]))])) (va_Qi (fun (r : Int32) (_ : Unit) => r = 0) (fun _ => at_w dC dI cI cJ (va_A [(r0, .inr (8, [.int th, .int ((nI N)), .int ((nI OU)), .int ((nI Z)), .ref r1, .ref r2, .int 0, .ref r3, .ref r4, .ref r5, .ref r6, .ref r7, .ref r8, .int 0, .ref r9, .int 0, .ref r10, .ref r11, .int 0, .ref r12, .int 0, .ref r13, .ref r14, .int bst, .ref r15]))] sz0) [(r0, .inr (8, [.int 1, .int ((nI N)), .int ((nI OU)), .int ((nI Z)), .ref r1, .ref r2, .int 0, .ref r3, .ref r4, .ref r5, .ref r6, .ref r7, .ref r8, .int 0, .ref r9, .int 0, .ref r10, .ref r11, .int 0, .ref r12, .int 0, .ref r13, .ref r14, .int bst, .ref r15]))]) (va_A [(r0, .inr (8, [.int th, .int ((nI N)), .int ((nI OU)), .int ((nI Z)), .ref r1, .ref r2, .int 0, .ref r3, .ref r4, .ref r5, .ref r6, .ref r7, .ref r8, .int 0, .ref r9, .int 0, .ref r10, .ref r11, .int 0, .ref r12, .int 0, .ref r13, .ref r14, .int bst, .ref r15]))] sz0)) 0 0 (va_A [(r0, .inr (8, [.int th, .int ((nI N)), .int ((nI OU)), .int ((nI Z)), .ref r1, .ref r2, .int 0, .ref r3, .ref r4, .ref r5, .ref r6, .ref r7, .ref r8, .int 0, .ref r9, .int 0, .ref r10, .ref r11, .int 0, .ref r12, .int 0, .ref r13, .ref r14, .int bst, .ref r15]))] sz0) := by
  refine Met.ofW (cc := b_Ref_diagram) (maxL := 2) (ret := some .int) (by decide) rfl ?_
  intro p e s m args below meth c s₁ B hml hv
  obtain ⟨rfl, hsz, hP, hK, hD0⟩ := hv
  have hx := B.exec
  have hb := B.bytes
  have hr := B.returns
  have hts : ∀ w ∈ lwg, w.before _ s = true := fun w h => atoms_spec (ws := ct y_Ref_diagram b_Ref_diagram 2 (some .int)) B.pre w (List.mem_cons_of_mem _ h)
  have hown : s.vm.findClass R_Ref = some m.cls := findClass_of_methodNamed B.named
  have hlocks := B.notSynchronized
  subst hsz
  have hD := hD0.self (sz := s.heap.size)
  generalize hAe : va_A [(r0, .inr (8, [.int th, .int ((nI N)), .int ((nI OU)), .int ((nI Z)), .ref r1, .ref r2, .int 0, .ref r3, .ref r4, .ref r5, .ref r6, .ref r7, .ref r8, .int 0, .ref r9, .int 0, .ref r10, .ref r11, .int 0, .ref r12, .int 0, .ref r13, .ref r14, .int bst, .ref r15]))] s.heap.size = A at hD ⊢
  have hA : ∀ q : Nat, s.heap.size ≤ q → A q := fun q h => by rw [← hAe]; exact Or.inr h
  have hS : va_S A s.heap s.heap [] := va_S.rf
  have hl := lv_entry ([.ref r0, .int x]) (n := 2) (Nat.le_of_ble_eq_true rfl)
  rw [lg_entry_eq]
  generalize (lg_sl ([.ref r0, .int x]) ++ List.replicate (2 - (lg_sl ([.ref r0, .int x])).length) Slot.unset).toArray = ls at hl ⊢
  have hl : lv_has ls 2 [(0, .ref r0), (1, .int x)] := hl
  have hP : va_P (dC, dI) classes [(r0, .inr (8, [.int th, .int ((nI N)), .int ((nI OU)), .int ((nI Z)), .ref r1, .ref r2, .int 0, .ref r3, .ref r4, .ref r5, .ref r6, .ref r7, .ref r8, .int 0, .ref r9, .int 0, .ref r10, .ref r11, .int 0, .ref r12, .int 0, .ref r13, .ref r14, .int bst, .ref r15]))] s.heap := hP
  refine lv_aload_n hx hb d_Ref_diagram_0 rfl (lv_at hl 0 rfl) ?_
  refine lv_iload_n hx hb d_Ref_diagram_1 rfl (lv_at hl 1 rfl) ?_
  refine lv_if_lt (tgt := 17) hx hb d_Ref_diagram_2 (by decide) (fun c_2 => ?_) (fun c_2 => ?_)
  · refine lv_iconst (v := 1) hx hb d_Ref_diagram_17 (by decide) ?_
    refine va_put (D := (dC, dI)) (ci := 8) (v := .int 1) (ty := .int) (C := R_Ref) (T := F_Ref) (N := 25) hx hb hts i_Ref t_Ref t_Ref_ok n_Ref hown hK hP hD hS 0 rfl rfl 0 (by decide) (hts _ mw_fl_Ref_65) (fun _ h9 => h9) rfl (by decide +kernel) rfl rfl (Nat.le_of_ble_eq_true rfl) d_Ref_diagram_18 (fun H locs hP hD hS => ?_)
    have hP : va_P (dC, dI) classes [(r0, .inr (8, [.int 1, .int ((nI N)), .int ((nI OU)), .int ((nI Z)), .ref r1, .ref r2, .int 0, .ref r3, .ref r4, .ref r5, .ref r6, .ref r7, .ref r8, .int 0, .ref r9, .int 0, .ref r10, .ref r11, .int 0, .ref r12, .int 0, .ref r13, .ref r14, .int bst, .ref r15]))] H := hP
    have hD : va_D A [(r0, .inr (8, [.int 1, .int ((nI N)), .int ((nI OU)), .int ((nI Z)), .ref r1, .ref r2, .int 0, .ref r3, .ref r4, .ref r5, .ref r6, .ref r7, .ref r8, .int 0, .ref r9, .int 0, .ref r10, .ref r11, .int 0, .ref r12, .int 0, .ref r13, .ref r14, .int bst, .ref r15]))] := hD
    refine lv_aload_n hx hb d_Ref_diagram_21 rfl (lv_at hl 0 rfl) ?_
    refine va_get (D := (dC, dI)) (ci := 8) (v := .int 1) (C := R_Ref) (T := F_Ref) (N := 25) hx hb hts i_Ref hown hK hP 0 rfl rfl 0 (by decide) (hts _ mw_fl_Ref_65) (fun _ h9 => h9) rfl d_Ref_diagram_22 ?_
    refine lv_if_le (tgt := 30) hx hb d_Ref_diagram_25 (by decide) (fun c_25 => ?_) (fun c_25 => ?_)
    · exact absurd c_25 (by decide +kernel)
    · refine lv_iconst (v := 0) hx hb d_Ref_diagram_28 (by decide) ?_
      have hP9 := hP.sub (ws' := [(r0, .inr (8, [.int 1, .int ((nI N)), .int ((nI OU)), .int ((nI Z)), .ref r1, .ref r2, .int 0, .ref r3, .ref r4, .ref r5, .ref r6, .ref r7, .ref r8, .int 0, .ref r9, .int 0, .ref r10, .ref r11, .int 0, .ref r12, .int 0, .ref r13, .ref r14, .int bst, .ref r15]))]) [0] rfl
      have hD9 := hD.sub (ws' := [(r0, .inr (8, [.int 1, .int ((nI N)), .int ((nI OU)), .int ((nI Z)), .ref r1, .ref r2, .int 0, .ref r3, .ref r4, .ref r5, .ref r6, .ref r7, .ref r8, .int 0, .ref r9, .int 0, .ref r10, .ref r11, .int 0, .ref r12, .int 0, .ref r13, .ref r14, .int bst, .ref r15]))]) [0] (by decide) rfl
      exact W.iret (v := 0) hx hb hr (fun t ht hW => ⟨⟨0, (), rfl, rfl, by rw [ht]; exact hP9, va_K.moved hW.alike hK, hD9⟩, hS.F ht⟩) hS.2.2 d_Ref_diagram_29
  · refine lv_iload_n hx hb d_Ref_diagram_5 rfl (lv_at hl 1 rfl) ?_
    refine lv_aload_n hx hb d_Ref_diagram_6 rfl (lv_at hl 0 rfl) ?_
    refine vp_callSi (W.runV (As := []) (rest := [.int x, .ref r0]) ⟨hx, hb, hml, hown, hts⟩ (c_Ref_orders l dC dI cI cJ r0 th N OU Z r1 r2 r3 r4 r5 r6 r7 r8 r9 r10 r11 r12 r13 r14 bst r15 ) (cwV 0 hts (ct_goodV mw_ml_Ref_133 mw_im_Ref_orders mw_se_Ref_orders mw_ini_Ref mw_code_Ref_orders) rfl rfl rfl (by decide +kernel) ⟨Nat.le_of_ble_eq_true rfl, Nat.le_of_ble_eq_true rfl⟩) ⟨fun a U g mk q => by obtain ⟨q0, qP, qK⟩ := q; exact ⟨q0, qP, va_K.moved (u := U) (U := U.calling g mk a) (Vm.Alike.refl U.vm) qK⟩, va_recv hK hP (ci := 8) (q0 := 0) rfl rfl, fun U hU hW => ⟨rfl, by rw [hU]; exact hP, va_K.moved hW.alike hK⟩⟩ rfl rfl hl.1 rfl (lv_room (Nat.le_of_ble_eq_true rfl)) d_Ref_diagram_7 ⟨Nat.le_of_ble_eq_true rfl, Nat.le_of_ble_eq_true rfl⟩) (fun r_1 hr_1 => ?_)
    rw [hr_1]
    clear hr_1
    refine lv_icmp_ge (tgt := 17) hx hb d_Ref_diagram_10 (by decide) (fun c_10 => ?_) (fun c_10 => ?_)
    · refine lv_iconst (v := 1) hx hb d_Ref_diagram_17 (by decide) ?_
      refine va_put (D := (dC, dI)) (ci := 8) (v := .int 1) (ty := .int) (C := R_Ref) (T := F_Ref) (N := 25) hx hb hts i_Ref t_Ref t_Ref_ok n_Ref hown hK hP hD hS 0 rfl rfl 0 (by decide) (hts _ mw_fl_Ref_65) (fun _ h9 => h9) rfl (by decide +kernel) rfl rfl (Nat.le_of_ble_eq_true rfl) d_Ref_diagram_18 (fun H locs hP hD hS => ?_)
      have hP : va_P (dC, dI) classes [(r0, .inr (8, [.int 1, .int ((nI N)), .int ((nI OU)), .int ((nI Z)), .ref r1, .ref r2, .int 0, .ref r3, .ref r4, .ref r5, .ref r6, .ref r7, .ref r8, .int 0, .ref r9, .int 0, .ref r10, .ref r11, .int 0, .ref r12, .int 0, .ref r13, .ref r14, .int bst, .ref r15]))] H := hP
      have hD : va_D A [(r0, .inr (8, [.int 1, .int ((nI N)), .int ((nI OU)), .int ((nI Z)), .ref r1, .ref r2, .int 0, .ref r3, .ref r4, .ref r5, .ref r6, .ref r7, .ref r8, .int 0, .ref r9, .int 0, .ref r10, .ref r11, .int 0, .ref r12, .int 0, .ref r13, .ref r14, .int bst, .ref r15]))] := hD
      refine lv_aload_n hx hb d_Ref_diagram_21 rfl (lv_at hl 0 rfl) ?_
      refine va_get (D := (dC, dI)) (ci := 8) (v := .int 1) (C := R_Ref) (T := F_Ref) (N := 25) hx hb hts i_Ref hown hK hP 0 rfl rfl 0 (by decide) (hts _ mw_fl_Ref_65) (fun _ h9 => h9) rfl d_Ref_diagram_22 ?_
      refine lv_if_le (tgt := 30) hx hb d_Ref_diagram_25 (by decide) (fun c_25 => ?_) (fun c_25 => ?_)
      · exact absurd c_25 (by decide +kernel)
      · refine lv_iconst (v := 0) hx hb d_Ref_diagram_28 (by decide) ?_
        have hP9 := hP.sub (ws' := [(r0, .inr (8, [.int 1, .int ((nI N)), .int ((nI OU)), .int ((nI Z)), .ref r1, .ref r2, .int 0, .ref r3, .ref r4, .ref r5, .ref r6, .ref r7, .ref r8, .int 0, .ref r9, .int 0, .ref r10, .ref r11, .int 0, .ref r12, .int 0, .ref r13, .ref r14, .int bst, .ref r15]))]) [0] rfl
        have hD9 := hD.sub (ws' := [(r0, .inr (8, [.int 1, .int ((nI N)), .int ((nI OU)), .int ((nI Z)), .ref r1, .ref r2, .int 0, .ref r3, .ref r4, .ref r5, .ref r6, .ref r7, .ref r8, .int 0, .ref r9, .int 0, .ref r10, .ref r11, .int 0, .ref r12, .int 0, .ref r13, .ref r14, .int bst, .ref r15]))]) [0] (by decide) rfl
        exact W.iret (v := 0) hx hb hr (fun t ht hW => ⟨⟨0, (), rfl, rfl, by rw [ht]; exact hP9, va_K.moved hW.alike hK, hD9⟩, hS.F ht⟩) hS.2.2 d_Ref_diagram_29
    · exact (hor.elim c_2 c_10).elim
set_option maxHeartbeats 1000000 in
set_option maxRecDepth 100000 in
theorem c1_Ref_diagram (l : Launch) (dC : Nat → ClassId) (dI : Nat → Nat → Nat) (cI cJ : ClassId) (sz0 : Nat) (r0 : Nat) (th : Int32) (N : Nat) (OU : Nat) (Z : Nat) (r1 : Nat) (r2 : Nat) (r3 : Nat) (r4 : Nat) (r5 : Nat) (r6 : Nat) (r7 : Nat) (r8 : Nat) (r9 : Nat) (r10 : Nat) (r11 : Nat) (r12 : Nat) (r13 : Nat) (r14 : Nat) (bst : Int32) (r15 : Nat) (od : Nat) (hN : N ≤ 4) (hN1 : 1 ≤ N) (hOU : OU ≤ 2) (hod : od < rOrd N) : Met l y_Ref_diagram (ct y_Ref_diagram b_Ref_diagram 2 (some .int)) ({ frames := 4, cells := 0, slots := 0, locals := 107 }) (va_Pc [.ref r0, .int ((nI od))] (fun U => U.heap.size = sz0 ∧ va_P (dC, dI) classes [(r0, .inr (8, [.int th, .int ((nI N)), .int ((nI OU)), .int ((nI Z)), .ref r1, .ref r2, .int 0, .ref r3, .ref r4, .ref r5, .ref r6, .ref r7, .ref r8, .int 0, .ref r9, .int 0, .ref r10, .ref r11, .int 0, .ref r12, .int 0, .ref r13, .ref r14, .int bst, .ref r15])), (r3, .inl (cI, 2, .inl ((fun _ => 0)))), (r4, .inl (cI, 2, .inl ((fun _ => 0))))] U.heap ∧ va_K (dC, dI) classes [(cI, .int), (cJ, .long)] U ∧ va_D (fun _ => True) [(r0, .inr (8, [.int th, .int ((nI N)), .int ((nI OU)), .int ((nI Z)), .ref r1, .ref r2, .int 0, .ref r3, .ref r4, .ref r5, .ref r6, .ref r7, .ref r8, .int 0, .ref r9, .int 0, .ref r10, .ref r11, .int 0, .ref r12, .int 0, .ref r13, .ref r14, .int bst, .ref r15])), (r3, .inl (cI, 2, .inl ((fun _ => 0)))), (r4, .inl (cI, 2, .inl ((fun _ => 0))))])) (va_Qi (fun (r : Int32) (_ : Unit) => r = 0) (fun _ => at_w dC dI cI cJ (va_A [(r0, .inr (8, [.int th, .int ((nI N)), .int ((nI OU)), .int ((nI Z)), .ref r1, .ref r2, .int 0, .ref r3, .ref r4, .ref r5, .ref r6, .ref r7, .ref r8, .int 0, .ref r9, .int 0, .ref r10, .ref r11, .int 0, .ref r12, .int 0, .ref r13, .ref r14, .int bst, .ref r15])), (r3, .inl (cI, 2, .inl ((fun _ => 0)))), (r4, .inl (cI, 2, .inl ((fun _ => 0))))] sz0) [(r0, .inr (8, [.int 0, .int ((nI N)), .int ((nI OU)), .int ((nI Z)), .ref r1, .ref r2, .int 0, .ref r3, .ref r4, .ref r5, .ref r6, .ref r7, .ref r8, .int 0, .ref r9, .int 0, .ref r10, .ref r11, .int 0, .ref r12, .int 0, .ref r13, .ref r14, .int bst, .ref r15]))]) (va_A [(r0, .inr (8, [.int th, .int ((nI N)), .int ((nI OU)), .int ((nI Z)), .ref r1, .ref r2, .int 0, .ref r3, .ref r4, .ref r5, .ref r6, .ref r7, .ref r8, .int 0, .ref r9, .int 0, .ref r10, .ref r11, .int 0, .ref r12, .int 0, .ref r13, .ref r14, .int bst, .ref r15])), (r3, .inl (cI, 2, .inl ((fun _ => 0)))), (r4, .inl (cI, 2, .inl ((fun _ => 0))))] sz0)) 0 0 (va_A [(r0, .inr (8, [.int th, .int ((nI N)), .int ((nI OU)), .int ((nI Z)), .ref r1, .ref r2, .int 0, .ref r3, .ref r4, .ref r5, .ref r6, .ref r7, .ref r8, .int 0, .ref r9, .int 0, .ref r10, .ref r11, .int 0, .ref r12, .int 0, .ref r13, .ref r14, .int bst, .ref r15])), (r3, .inl (cI, 2, .inl ((fun _ => 0)))), (r4, .inl (cI, 2, .inl ((fun _ => 0))))] sz0) := by
  refine Met.ofW (cc := b_Ref_diagram) (maxL := 2) (ret := some .int) (by decide) rfl ?_
  intro p e s m args below meth c s₁ B hml hv
  obtain ⟨rfl, hsz, hP, hK, hD0⟩ := hv
  have hx := B.exec
  have hb := B.bytes
  have hr := B.returns
  have hts : ∀ w ∈ lwg, w.before _ s = true := fun w h => atoms_spec (ws := ct y_Ref_diagram b_Ref_diagram 2 (some .int)) B.pre w (List.mem_cons_of_mem _ h)
  have hown : s.vm.findClass R_Ref = some m.cls := findClass_of_methodNamed B.named
  have hlocks := B.notSynchronized
  subst hsz
  have hD := hD0.self (sz := s.heap.size)
  generalize hAe : va_A [(r0, .inr (8, [.int th, .int ((nI N)), .int ((nI OU)), .int ((nI Z)), .ref r1, .ref r2, .int 0, .ref r3, .ref r4, .ref r5, .ref r6, .ref r7, .ref r8, .int 0, .ref r9, .int 0, .ref r10, .ref r11, .int 0, .ref r12, .int 0, .ref r13, .ref r14, .int bst, .ref r15])), (r3, .inl (cI, 2, .inl ((fun _ => 0)))), (r4, .inl (cI, 2, .inl ((fun _ => 0))))] s.heap.size = A at hD ⊢
  have hA : ∀ q : Nat, s.heap.size ≤ q → A q := fun q h => by rw [← hAe]; exact Or.inr h
  have hS : va_S A s.heap s.heap [] := va_S.rf
  have hl := lv_entry ([.ref r0, .int ((nI od))]) (n := 2) (Nat.le_of_ble_eq_true rfl)
  rw [lg_entry_eq]
  generalize (lg_sl ([.ref r0, .int ((nI od))]) ++ List.replicate (2 - (lg_sl ([.ref r0, .int ((nI od))])).length) Slot.unset).toArray = ls at hl ⊢
  have hl : lv_has ls 2 [(0, .ref r0), (1, .int ((nI od)))] := hl
  have hP : va_P (dC, dI) classes [(r0, .inr (8, [.int th, .int ((nI N)), .int ((nI OU)), .int ((nI Z)), .ref r1, .ref r2, .int 0, .ref r3, .ref r4, .ref r5, .ref r6, .ref r7, .ref r8, .int 0, .ref r9, .int 0, .ref r10, .ref r11, .int 0, .ref r12, .int 0, .ref r13, .ref r14, .int bst, .ref r15])), (r3, .inl (cI, 2, .inl ((fun _ => 0)))), (r4, .inl (cI, 2, .inl ((fun _ => 0))))] s.heap := hP
  refine lv_aload_n hx hb d_Ref_diagram_0 rfl (lv_at hl 0 rfl) ?_
  refine lv_iload_n hx hb d_Ref_diagram_1 rfl (lv_at hl 1 rfl) ?_
  refine lv_if_lt (tgt := 17) hx hb d_Ref_diagram_2 (by decide) (fun c_2 => ?_) (fun c_2 => ?_)
  · exact absurd c_2 (nI_pos (by have := (rOrd_le hN).1; omega))
  · refine lv_iload_n hx hb d_Ref_diagram_5 rfl (lv_at hl 1 rfl) ?_
    refine lv_aload_n hx hb d_Ref_diagram_6 rfl (lv_at hl 0 rfl) ?_
    refine vp_callSi (W.runV (As := []) (rest := [.int ((nI od)), .ref r0]) ⟨hx, hb, hml, hown, hts⟩ (c_Ref_orders l dC dI cI cJ r0 th N OU Z r1 r2 r3 r4 r5 r6 r7 r8 r9 r10 r11 r12 r13 r14 bst r15 ) (cwV 0 hts (ct_goodV mw_ml_Ref_133 mw_im_Ref_orders mw_se_Ref_orders mw_ini_Ref mw_code_Ref_orders) rfl rfl rfl (by decide +kernel) ⟨Nat.le_of_ble_eq_true rfl, Nat.le_of_ble_eq_true rfl⟩) ⟨fun a U g mk q => by obtain ⟨q0, qP, qK⟩ := q; exact ⟨q0, qP, va_K.moved (u := U) (U := U.calling g mk a) (Vm.Alike.refl U.vm) qK⟩, va_recv hK hP (ci := 8) (q0 := 0) rfl rfl, fun U hU hW => ⟨rfl, by rw [hU]; exact (hP.sub (ws' := [(r0, .inr (8, [.int th, .int ((nI N)), .int ((nI OU)), .int ((nI Z)), .ref r1, .ref r2, .int 0, .ref r3, .ref r4, .ref r5, .ref r6, .ref r7, .ref r8, .int 0, .ref r9, .int 0, .ref r10, .ref r11, .int 0, .ref r12, .int 0, .ref r13, .ref r14, .int bst, .ref r15]))]) [0] rfl), va_K.moved hW.alike hK⟩⟩ rfl rfl hl.1 rfl (lv_room (Nat.le_of_ble_eq_true rfl)) d_Ref_diagram_7 ⟨Nat.le_of_ble_eq_true rfl, Nat.le_of_ble_eq_true rfl⟩) (fun r_1 hr_1 => ?_)
    rw [hr_1]
    clear hr_1
    refine lv_icmp_ge (tgt := 17) hx hb d_Ref_diagram_10 (by decide) (fun c_10 => ?_) (fun c_10 => ?_)
    · exact absurd ((nI_leI (a := rOrd N) (b := od) (by have := (rOrd_le hN).1; omega) (by have := (rOrd_le hN).1; omega)).mp c_10) (by omega)
    · refine lv_iconst (v := 0) hx hb d_Ref_diagram_13 (by decide) ?_
      refine lv_goto (tgt := 18) hx hb d_Ref_diagram_14 (by decide) ?_
      refine va_put (D := (dC, dI)) (ci := 8) (v := .int 0) (ty := .int) (C := R_Ref) (T := F_Ref) (N := 25) hx hb hts i_Ref t_Ref t_Ref_ok n_Ref hown hK hP hD hS 0 rfl rfl 0 (by decide) (hts _ mw_fl_Ref_65) (fun _ h9 => h9) rfl (by decide +kernel) rfl rfl (Nat.le_of_ble_eq_true rfl) d_Ref_diagram_18 (fun H locs hP hD hS => ?_)
      have hP : va_P (dC, dI) classes [(r0, .inr (8, [.int 0, .int ((nI N)), .int ((nI OU)), .int ((nI Z)), .ref r1, .ref r2, .int 0, .ref r3, .ref r4, .ref r5, .ref r6, .ref r7, .ref r8, .int 0, .ref r9, .int 0, .ref r10, .ref r11, .int 0, .ref r12, .int 0, .ref r13, .ref r14, .int bst, .ref r15])), (r3, .inl (cI, 2, .inl ((fun _ => 0)))), (r4, .inl (cI, 2, .inl ((fun _ => 0))))] H := hP
      have hD : va_D A [(r0, .inr (8, [.int 0, .int ((nI N)), .int ((nI OU)), .int ((nI Z)), .ref r1, .ref r2, .int 0, .ref r3, .ref r4, .ref r5, .ref r6, .ref r7, .ref r8, .int 0, .ref r9, .int 0, .ref r10, .ref r11, .int 0, .ref r12, .int 0, .ref r13, .ref r14, .int bst, .ref r15])), (r3, .inl (cI, 2, .inl ((fun _ => 0)))), (r4, .inl (cI, 2, .inl ((fun _ => 0))))] := hD
      refine lv_aload_n hx hb d_Ref_diagram_21 rfl (lv_at hl 0 rfl) ?_
      refine va_get (D := (dC, dI)) (ci := 8) (v := .int 0) (C := R_Ref) (T := F_Ref) (N := 25) hx hb hts i_Ref hown hK hP 0 rfl rfl 0 (by decide) (hts _ mw_fl_Ref_65) (fun _ h9 => h9) rfl d_Ref_diagram_22 ?_
      refine lv_if_le (tgt := 30) hx hb d_Ref_diagram_25 (by decide) (fun c_25 => ?_) (fun c_25 => ?_)
      · refine lv_aload_n hx hb d_Ref_diagram_30 rfl (lv_at hl 0 rfl) ?_
        have hPc := hP.sub (ws' := [(r0, .inr (8, [.int 0, .int ((nI N)), .int ((nI OU)), .int ((nI Z)), .ref r1, .ref r2, .int 0, .ref r3, .ref r4, .ref r5, .ref r6, .ref r7, .ref r8, .int 0, .ref r9, .int 0, .ref r10, .ref r11, .int 0, .ref r12, .int 0, .ref r13, .ref r14, .int bst, .ref r15])), (r3, .inl (cI, 2, .inl ((fun _ => 0)))), (r4, .inl (cI, 2, .inl ((fun _ => 0))))]) [0, 1, 2] rfl
        have hDc := hD.sub (ws' := [(r0, .inr (8, [.int 0, .int ((nI N)), .int ((nI OU)), .int ((nI Z)), .ref r1, .ref r2, .int 0, .ref r3, .ref r4, .ref r5, .ref r6, .ref r7, .ref r8, .int 0, .ref r9, .int 0, .ref r10, .ref r11, .int 0, .ref r12, .int 0, .ref r13, .ref r14, .int bst, .ref r15])), (r3, .inl (cI, 2, .inl ((fun _ => 0)))), (r4, .inl (cI, 2, .inl ((fun _ => 0))))]) [0, 1, 2] (by decide) rfl
        have hFc := va_free (wc := [(r0, .inr (8, [.int 0, .int ((nI N)), .int ((nI OU)), .int ((nI Z)), .ref r1, .ref r2, .int 0, .ref r3, .ref r4, .ref r5, .ref r6, .ref r7, .ref r8, .int 0, .ref r9, .int 0, .ref r10, .ref r11, .int 0, .ref r12, .int 0, .ref r13, .ref r14, .int bst, .ref r15])), (r3, .inl (cI, 2, .inl ((fun _ => 0)))), (r4, .inl (cI, 2, .inl ((fun _ => 0))))]) hD hS hA [0, 1, 2] rfl
        refine va_callv (va_runV (As := []) (rest := []) ⟨hx, hb, hml, hown, hts⟩ (c_Ref_work l dC dI cI cJ _ r0 0 N OU Z r1 r2 r3 r4 r5 r6 r7 r8 r9 r10 r11 r12 r13 r14 bst r15 ) (cwV 0 hts (ct_goodV mw_ml_Ref_79 mw_im_Ref_work mw_se_Ref_work mw_ini_Ref mw_code_Ref_work) rfl rfl rfl (by decide +kernel) ⟨Nat.le_of_ble_eq_true rfl, Nat.le_of_ble_eq_true rfl⟩) ⟨fun a U g mk q => by obtain ⟨q0, q1, qP, qK, qD⟩ := q; exact ⟨q0, q1, qP, va_K.moved (u := U) (U := U.calling g mk a) (Vm.Alike.refl U.vm) qK, qD⟩, va_recv hK hPc (ci := 8) (q0 := 0) rfl rfl, fun U hU hW => ⟨rfl, by rw [hU], by rw [hU]; exact hPc, va_K.moved hW.alike hK, hDc.weaken (fun _ _ _ _ => trivial)⟩⟩ rfl rfl hl.1 rfl (lv_room (Nat.le_of_ble_eq_true rfl)) d_Ref_diagram_31 ⟨Nat.le_of_ble_eq_true rfl, Nat.le_of_ble_eq_true rfl⟩) hS (fun q _ h => hFc q h) hFc (fun u t H1 locs ht hvm hw hB hz1 hk1 hS => ?_)
        obtain ⟨hP1, hK1, hD1⟩ := hB
        rw [ht] at hP1
        obtain ⟨hP, hD⟩ := va_join (wr := []) (w1 := [(r0, .inr (8, [.int 0, .int ((nI N)), .int ((nI OU)), .int ((nI Z)), .ref r1, .ref r2, .int 0, .ref r3, .ref r4, .ref r5, .ref r6, .ref r7, .ref r8, .int 0, .ref r9, .int 0, .ref r10, .ref r11, .int 0, .ref r12, .int 0, .ref r13, .ref r14, .int bst, .ref r15])), (r3, .inl (cI, 2, .inl ((fun _ => 0)))), (r4, .inl (cI, 2, .inl ((fun _ => 0))))]) hP hD [0, 1, 2] [] rfl rfl (by decide) (by decide) hk1 hFc hP1 hD1
        clear hPc hDc hFc hP1 hK1 hD1 hk1 hz1 hvm ht
        generalize H1 = H at hP hS ⊢
        have hP : va_P (dC, dI) classes [(r0, .inr (8, [.int 0, .int ((nI N)), .int ((nI OU)), .int ((nI Z)), .ref r1, .ref r2, .int 0, .ref r3, .ref r4, .ref r5, .ref r6, .ref r7, .ref r8, .int 0, .ref r9, .int 0, .ref r10, .ref r11, .int 0, .ref r12, .int 0, .ref r13, .ref r14, .int bst, .ref r15])), (r3, .inl (cI, 2, .inl ((fun _ => 0)))), (r4, .inl (cI, 2, .inl ((fun _ => 0))))] H := hP
        have hD : va_D A [(r0, .inr (8, [.int 0, .int ((nI N)), .int ((nI OU)), .int ((nI Z)), .ref r1, .ref r2, .int 0, .ref r3, .ref r4, .ref r5, .ref r6, .ref r7, .ref r8, .int 0, .ref r9, .int 0, .ref r10, .ref r11, .int 0, .ref r12, .int 0, .ref r13, .ref r14, .int bst, .ref r15])), (r3, .inl (cI, 2, .inl ((fun _ => 0)))), (r4, .inl (cI, 2, .inl ((fun _ => 0))))] := hD
        refine lv_aload_n hx hb d_Ref_diagram_34 rfl (lv_at hl 0 rfl) ?_
        refine lv_iload_n hx hb d_Ref_diagram_35 rfl (lv_at hl 1 rfl) ?_
        refine vp_callSi (W.runV (As := [.int ((nI od))]) (rest := []) ⟨hx, hb, hml, hown, hts⟩ (c_Ref_nodes l dC dI cI cJ r0 0 N OU Z r1 r2 r3 r4 r5 r6 r7 r8 r9 r10 r11 r12 r13 r14 bst r15 od hN hOU (ia_ok hN hod)) (cwV 1 hts (ct_goodV mw_ml_Ref_147 mw_im_Ref_nodes mw_se_Ref_nodes mw_ini_Ref mw_code_Ref_nodes) rfl rfl rfl (by decide +kernel) ⟨Nat.le_of_ble_eq_true rfl, Nat.le_of_ble_eq_true rfl⟩) ⟨fun a U g mk q => by obtain ⟨q0, qP, qK⟩ := q; exact ⟨q0, qP, va_K.moved (u := U) (U := U.calling g mk a) (Vm.Alike.refl U.vm) qK⟩, va_recv hK hP (ci := 8) (q0 := 0) rfl rfl, fun U hU hW => ⟨rfl, by rw [hU]; exact (hP.sub (ws' := [(r0, .inr (8, [.int 0, .int ((nI N)), .int ((nI OU)), .int ((nI Z)), .ref r1, .ref r2, .int 0, .ref r3, .ref r4, .ref r5, .ref r6, .ref r7, .ref r8, .int 0, .ref r9, .int 0, .ref r10, .ref r11, .int 0, .ref r12, .int 0, .ref r13, .ref r14, .int bst, .ref r15])), (r3, .inl (cI, 2, .inl ((fun _ => 0))))]) [0, 1] rfl), va_K.moved hW.alike hK⟩⟩ rfl rfl hl.1 rfl (lv_room (Nat.le_of_ble_eq_true rfl)) d_Ref_diagram_36 ⟨Nat.le_of_ble_eq_true rfl, Nat.le_of_ble_eq_true rfl⟩) (fun r_3 hr_3 => ?_)
        rw [hr_3]
        clear hr_3
        have hP9 := hP.sub (ws' := [(r0, .inr (8, [.int 0, .int ((nI N)), .int ((nI OU)), .int ((nI Z)), .ref r1, .ref r2, .int 0, .ref r3, .ref r4, .ref r5, .ref r6, .ref r7, .ref r8, .int 0, .ref r9, .int 0, .ref r10, .ref r11, .int 0, .ref r12, .int 0, .ref r13, .ref r14, .int bst, .ref r15]))]) [0] rfl
        have hD9 := hD.sub (ws' := [(r0, .inr (8, [.int 0, .int ((nI N)), .int ((nI OU)), .int ((nI Z)), .ref r1, .ref r2, .int 0, .ref r3, .ref r4, .ref r5, .ref r6, .ref r7, .ref r8, .int 0, .ref r9, .int 0, .ref r10, .ref r11, .int 0, .ref r12, .int 0, .ref r13, .ref r14, .int bst, .ref r15]))]) [0] (by decide) rfl
        exact W.iret (v := (0)) hx hb hr (fun t ht hW => ⟨⟨(0), (), rfl, rfl, by rw [ht]; exact hP9, va_K.moved hW.alike hK, hD9⟩, hS.F ht⟩) hS.2.2 d_Ref_diagram_39
      · exact absurd c_25 (by decide +kernel)
set_option maxHeartbeats 1000000 in
set_option maxRecDepth 100000 in
theorem lpf_Ref_order {p : Program} {e : Env} {s : State} {m : MethodId} {args : Array Value} {below : List Frame} {meth : Method} {c : Code} (l : Launch) (dC : Nat → ClassId) (dI : Nat → Nat → Nat) (cI cJ : ClassId) (r0 : Nat) (th : Int32) (N : Nat) (OU : Nat) (Z : Nat) (r1 : Nat) (r2 : Nat) (r3 : Nat) (r4 : Nat) (r5 : Nat) (r6 : Nat) (r7 : Nat) (r8 : Nat) (r9 : Nat) (r10 : Nat) (r11 : Nat) (r12 : Nat) (r13 : Nat) (r14 : Nat) (bst : Int32) (r15 : Nat) (hN : N ≤ 4) (hN1 : 1 ≤ N) (hOU : OU ≤ 2) (hx : p.tables.exec = Jvm.exec) (hb : c.code = b_Ref_order) (hr : meth.sig.returnType = some .int) (hts : ∀ w ∈ lwg, w.before args s = true) (hown : s.vm.findClass R_Ref = some m.cls) (hlocks : meth.locks = false) (hml : c.maxLocals = 5) (hK : va_K (dC, dI) classes [(cI, .int), (cJ, .long)] s) {A : Nat → Prop} (hA : ∀ q : Nat, s.heap.size ≤ q → A q) : ∀ (fu i : Nat), (rOrd N - 1) - i < fu → i ≤ (rOrd N - 1) → ∀ (H : Heap) (locs : List Loc) (ls : Array Slot), va_P (dC, dI) classes [(r0, .inr (8, [.int 0, .int ((nI N)), .int ((nI OU)), .int ((nI Z)), .ref r1, .ref r2, .int 0, .ref r3, .ref r4, .ref r5, .ref r6, .ref r7, .ref r8, .int 0, .ref r9, .int 0, .ref r10, .ref r11, .int 0, .ref r12, .int 0, .ref r13, .ref r14, .int bst, .ref r15])), (r3, .inl (cI, 2, .inl ((fun _ => 0)))), (r4, .inl (cI, 2, .inl ((fun _ => 0))))] H → va_D A [(r0, .inr (8, [.int 0, .int ((nI N)), .int ((nI OU)), .int ((nI Z)), .ref r1, .ref r2, .int 0, .ref r3, .ref r4, .ref r5, .ref r6, .ref r7, .ref r8, .int 0, .ref r9, .int 0, .ref r10, .ref r11, .int 0, .ref r12, .int 0, .ref r13, .ref r14, .int bst, .ref r15])), (r3, .inl (cI, 2, .inl ((fun _ => 0)))), (r4, .inl (cI, 2, .inl ((fun _ => 0))))] → va_S A s.heap H locs → lv_has ls 5 [(0, .ref r0), (1, .int 0), (2, .int 0), (3, .int ((nI (i + 1))))] → W p l e ({ frames := 4, cells := 0, slots := 0, locals := 107 } : Room) s m args below meth c H locs 0 0 (MQ below (va_Qi (fun (r : Int32) (_ : Unit) => r = 0) (fun _ => at_w dC dI cI cJ A []) A) args s 0 0 A) (F0 m 19 ls []) := by
  intro fu
  induction fu with
  | zero => intro i h; omega
  | succ fu ih =>
    intro i hfu hle H locs ls hP hD hS hl
    have hr24 := (rOrd_le hN).1
    have hr1 := (rOrd_le hN).2 hN1
    refine lv_iload_n hx hb d_Ref_order_19 rfl (lv_at hl 3 rfl) ?_
    refine lv_aload_n hx hb d_Ref_order_20 rfl (lv_at hl 0 rfl) ?_
    refine vp_callSi (W.runV (As := []) (rest := [.int ((nI (i + 1)))]) ⟨hx, hb, hml, hown, hts⟩ (c_Ref_orders l dC dI cI cJ r0 0 N OU Z r1 r2 r3 r4 r5 r6 r7 r8 r9 r10 r11 r12 r13 r14 bst r15 ) (cwV 0 hts (ct_goodV mw_ml_Ref_133 mw_im_Ref_orders mw_se_Ref_orders mw_ini_Ref mw_code_Ref_orders) rfl rfl rfl (by decide +kernel) ⟨Nat.le_of_ble_eq_true rfl, Nat.le_of_ble_eq_true rfl⟩) ⟨fun a U g mk q => by obtain ⟨q0, qP, qK⟩ := q; exact ⟨q0, qP, va_K.moved (u := U) (U := U.calling g mk a) (Vm.Alike.refl U.vm) qK⟩, va_recv hK hP (ci := 8) (q0 := 0) rfl rfl, fun U hU hW => ⟨rfl, by rw [hU]; exact (hP.sub (ws' := [(r0, .inr (8, [.int 0, .int ((nI N)), .int ((nI OU)), .int ((nI Z)), .ref r1, .ref r2, .int 0, .ref r3, .ref r4, .ref r5, .ref r6, .ref r7, .ref r8, .int 0, .ref r9, .int 0, .ref r10, .ref r11, .int 0, .ref r12, .int 0, .ref r13, .ref r14, .int bst, .ref r15]))]) [0] rfl), va_K.moved hW.alike hK⟩⟩ rfl rfl hl.1 rfl (lv_room (Nat.le_of_ble_eq_true rfl)) d_Ref_order_21 ⟨Nat.le_of_ble_eq_true rfl, Nat.le_of_ble_eq_true rfl⟩) (fun r_1 hr_1 => ?_)
    rw [hr_1]
    clear hr_1
    refine lv_icmp_ge (tgt := 65) hx hb d_Ref_order_24 (by decide) (fun c_24 => ?_) (fun c_24 => ?_)
    · have hE : i = rOrd N - 1 := by have := (nI_leI (a := rOrd N) (b := i + 1) (by omega) (by omega)).mp c_24; omega
      refine lv_iload_n hx hb d_Ref_order_65 rfl (lv_at hl 1 rfl) ?_
      have hP9 := hP.sub (ws' := []) [] rfl
      have hD9 := hD.sub (ws' := []) [] (by decide) rfl
      exact W.iret (v := 0) hx hb hr (fun t ht hW => ⟨⟨0, (), rfl, by subst hE; rfl, by rw [ht]; exact hP9, va_K.moved hW.alike hK, hD9⟩, hS.F ht⟩) hS.2.2 d_Ref_order_66
    · have hlt : i + 1 < rOrd N := by have h9 : ¬ rOrd N ≤ i + 1 := fun h => c_24 ((nI_leI (a := rOrd N) (b := i + 1) (by omega) (by omega)).mpr h); omega
      refine lv_aload_n hx hb d_Ref_order_27 rfl (lv_at hl 0 rfl) ?_
      refine lv_iload_n hx hb d_Ref_order_28 rfl (lv_at hl 3 rfl) ?_
      refine vp_callSi (W.runV (As := [.int ((nI (i + 1)))]) (rest := []) ⟨hx, hb, hml, hown, hts⟩ (c_Ref_nodes l dC dI cI cJ r0 0 N OU Z r1 r2 r3 r4 r5 r6 r7 r8 r9 r10 r11 r12 r13 r14 bst r15 (i + 1) hN hOU (ia_ok hN hlt)) (cwV 1 hts (ct_goodV mw_ml_Ref_147 mw_im_Ref_nodes mw_se_Ref_nodes mw_ini_Ref mw_code_Ref_nodes) rfl rfl rfl (by decide +kernel) ⟨Nat.le_of_ble_eq_true rfl, Nat.le_of_ble_eq_true rfl⟩) ⟨fun a U g mk q => by obtain ⟨q0, qP, qK⟩ := q; exact ⟨q0, qP, va_K.moved (u := U) (U := U.calling g mk a) (Vm.Alike.refl U.vm) qK⟩, va_recv hK hP (ci := 8) (q0 := 0) rfl rfl, fun U hU hW => ⟨rfl, by rw [hU]; exact (hP.sub (ws' := [(r0, .inr (8, [.int 0, .int ((nI N)), .int ((nI OU)), .int ((nI Z)), .ref r1, .ref r2, .int 0, .ref r3, .ref r4, .ref r5, .ref r6, .ref r7, .ref r8, .int 0, .ref r9, .int 0, .ref r10, .ref r11, .int 0, .ref r12, .int 0, .ref r13, .ref r14, .int bst, .ref r15])), (r3, .inl (cI, 2, .inl ((fun _ => 0))))]) [0, 1] rfl), va_K.moved hW.alike hK⟩⟩ rfl rfl hl.1 rfl (lv_room (Nat.le_of_ble_eq_true rfl)) d_Ref_order_29 ⟨Nat.le_of_ble_eq_true rfl, Nat.le_of_ble_eq_true rfl⟩) (fun r_2 hr_2 => ?_)
      rw [hr_2]
      clear hr_2
      refine lv_istore (lv' := [(4, .int ((0))), (0, .ref r0), (1, .int 0), (2, .int 0), (3, .int ((nI (i + 1))))]) hx hb d_Ref_order_32 hl (by decide) rfl (fun ls hl => ?_)
      refine lv_iload hx hb d_Ref_order_34 (lv_at hl 0 rfl) ?_
      refine lv_iload_n hx hb d_Ref_order_36 rfl (lv_at hl 3 rfl) ?_
      refine lv_icmp_ge (tgt := 44) hx hb d_Ref_order_37 (by decide) (fun c_37 => ?_) (fun c_37 => ?_)
      · refine lv_iload_n hx hb d_Ref_order_44 rfl (lv_at hl 2 rfl) ?_
        refine lv_istore_n (lv' := [(1, .int 0), (4, .int ((0))), (0, .ref r0), (2, .int 0), (3, .int ((nI (i + 1))))]) hx hb d_Ref_order_45 rfl hl (by decide) rfl (fun ls hl => ?_)
        refine lv_iload hx hb d_Ref_order_46 (lv_at hl 1 rfl) ?_
        refine lv_iload_n hx hb d_Ref_order_48 rfl (lv_at hl 3 rfl) ?_
        refine lv_icmp_ge (tgt := 57) hx hb d_Ref_order_49 (by decide) (fun c_49 => ?_) (fun c_49 => ?_)
        · refine lv_iload_n hx hb d_Ref_order_57 rfl (lv_at hl 3 rfl) ?_
          refine lv_istore_n (lv' := [(2, .int 0), (1, .int 0), (4, .int ((0))), (0, .ref r0), (3, .int ((nI (i + 1))))]) hx hb d_Ref_order_58 rfl hl (by decide) rfl (fun ls hl => ?_)
          refine lv_iinc (v := (nI (i + 1 + 1))) (lv' := [(3, .int ((nI (i + 1 + 1)))), (2, .int 0), (1, .int 0), (4, .int ((0))), (0, .ref r0)]) hx hb d_Ref_order_59 hl (k := 4) rfl (show nI (i + 1) + 1 = nI (i + 1 + 1) from nI_1 _) (by decide) rfl (fun ls hl => ?_)
          refine lv_goto (tgt := 19) hx hb d_Ref_order_62 (by decide) ?_
          exact ih (i + 1) (by omega) (by omega) _ _ ls (hP.sub [0, 1, 2] rfl) (hD.sub [0, 1, 2] (by decide) rfl) hS (lv_sub hl [4, 2, 1, 0] rfl)
        · exact absurd c_49 (by decide +kernel)
      · exact absurd c_37 (by decide +kernel)
set_option maxHeartbeats 1000000 in
set_option maxRecDepth 100000 in
theorem c_Ref_order (l : Launch) (dC : Nat → ClassId) (dI : Nat → Nat → Nat) (cI cJ : ClassId) (sz0 : Nat) (r0 : Nat) (th : Int32) (N : Nat) (OU : Nat) (Z : Nat) (r1 : Nat) (r2 : Nat) (r3 : Nat) (r4 : Nat) (r5 : Nat) (r6 : Nat) (r7 : Nat) (r8 : Nat) (r9 : Nat) (r10 : Nat) (r11 : Nat) (r12 : Nat) (r13 : Nat) (r14 : Nat) (bst : Int32) (r15 : Nat) (hN : N ≤ 4) (hN1 : 1 ≤ N) (hOU : OU ≤ 2) : Met l y_Ref_order (ct y_Ref_order b_Ref_order 5 (some .int)) ({ frames := 4, cells := 0, slots := 0, locals := 107 }) (va_Pc [.ref r0] (fun U => U.heap.size = sz0 ∧ va_P (dC, dI) classes [(r0, .inr (8, [.int th, .int ((nI N)), .int ((nI OU)), .int ((nI Z)), .ref r1, .ref r2, .int 0, .ref r3, .ref r4, .ref r5, .ref r6, .ref r7, .ref r8, .int 0, .ref r9, .int 0, .ref r10, .ref r11, .int 0, .ref r12, .int 0, .ref r13, .ref r14, .int bst, .ref r15])), (r3, .inl (cI, 2, .inl ((fun _ => 0)))), (r4, .inl (cI, 2, .inl ((fun _ => 0))))] U.heap ∧ va_K (dC, dI) classes [(cI, .int), (cJ, .long)] U ∧ va_D (fun _ => True) [(r0, .inr (8, [.int th, .int ((nI N)), .int ((nI OU)), .int ((nI Z)), .ref r1, .ref r2, .int 0, .ref r3, .ref r4, .ref r5, .ref r6, .ref r7, .ref r8, .int 0, .ref r9, .int 0, .ref r10, .ref r11, .int 0, .ref r12, .int 0, .ref r13, .ref r14, .int bst, .ref r15])), (r3, .inl (cI, 2, .inl ((fun _ => 0)))), (r4, .inl (cI, 2, .inl ((fun _ => 0))))])) (va_Qi (fun (r : Int32) (_ : Unit) => r = 0) (fun _ => at_w dC dI cI cJ (va_A [(r0, .inr (8, [.int th, .int ((nI N)), .int ((nI OU)), .int ((nI Z)), .ref r1, .ref r2, .int 0, .ref r3, .ref r4, .ref r5, .ref r6, .ref r7, .ref r8, .int 0, .ref r9, .int 0, .ref r10, .ref r11, .int 0, .ref r12, .int 0, .ref r13, .ref r14, .int bst, .ref r15])), (r3, .inl (cI, 2, .inl ((fun _ => 0)))), (r4, .inl (cI, 2, .inl ((fun _ => 0))))] sz0) []) (va_A [(r0, .inr (8, [.int th, .int ((nI N)), .int ((nI OU)), .int ((nI Z)), .ref r1, .ref r2, .int 0, .ref r3, .ref r4, .ref r5, .ref r6, .ref r7, .ref r8, .int 0, .ref r9, .int 0, .ref r10, .ref r11, .int 0, .ref r12, .int 0, .ref r13, .ref r14, .int bst, .ref r15])), (r3, .inl (cI, 2, .inl ((fun _ => 0)))), (r4, .inl (cI, 2, .inl ((fun _ => 0))))] sz0)) 0 0 (va_A [(r0, .inr (8, [.int th, .int ((nI N)), .int ((nI OU)), .int ((nI Z)), .ref r1, .ref r2, .int 0, .ref r3, .ref r4, .ref r5, .ref r6, .ref r7, .ref r8, .int 0, .ref r9, .int 0, .ref r10, .ref r11, .int 0, .ref r12, .int 0, .ref r13, .ref r14, .int bst, .ref r15])), (r3, .inl (cI, 2, .inl ((fun _ => 0)))), (r4, .inl (cI, 2, .inl ((fun _ => 0))))] sz0) := by
  refine Met.ofW (cc := b_Ref_order) (maxL := 5) (ret := some .int) (by decide) rfl ?_
  intro p e s m args below meth c s₁ B hml hv
  obtain ⟨rfl, hsz, hP, hK, hD0⟩ := hv
  have hx := B.exec
  have hb := B.bytes
  have hr := B.returns
  have hts : ∀ w ∈ lwg, w.before _ s = true := fun w h => atoms_spec (ws := ct y_Ref_order b_Ref_order 5 (some .int)) B.pre w (List.mem_cons_of_mem _ h)
  have hown : s.vm.findClass R_Ref = some m.cls := findClass_of_methodNamed B.named
  have hlocks := B.notSynchronized
  subst hsz
  have hD := hD0.self (sz := s.heap.size)
  generalize hAe : va_A [(r0, .inr (8, [.int th, .int ((nI N)), .int ((nI OU)), .int ((nI Z)), .ref r1, .ref r2, .int 0, .ref r3, .ref r4, .ref r5, .ref r6, .ref r7, .ref r8, .int 0, .ref r9, .int 0, .ref r10, .ref r11, .int 0, .ref r12, .int 0, .ref r13, .ref r14, .int bst, .ref r15])), (r3, .inl (cI, 2, .inl ((fun _ => 0)))), (r4, .inl (cI, 2, .inl ((fun _ => 0))))] s.heap.size = A at hD ⊢
  have hA : ∀ q : Nat, s.heap.size ≤ q → A q := fun q h => by rw [← hAe]; exact Or.inr h
  have hS : va_S A s.heap s.heap [] := va_S.rf
  have hl := lv_entry ([.ref r0]) (n := 5) (Nat.le_of_ble_eq_true rfl)
  rw [lg_entry_eq]
  generalize (lg_sl ([.ref r0]) ++ List.replicate (5 - (lg_sl ([.ref r0])).length) Slot.unset).toArray = ls at hl ⊢
  have hl : lv_has ls 5 [(0, .ref r0)] := hl
  have hP : va_P (dC, dI) classes [(r0, .inr (8, [.int th, .int ((nI N)), .int ((nI OU)), .int ((nI Z)), .ref r1, .ref r2, .int 0, .ref r3, .ref r4, .ref r5, .ref r6, .ref r7, .ref r8, .int 0, .ref r9, .int 0, .ref r10, .ref r11, .int 0, .ref r12, .int 0, .ref r13, .ref r14, .int bst, .ref r15])), (r3, .inl (cI, 2, .inl ((fun _ => 0)))), (r4, .inl (cI, 2, .inl ((fun _ => 0))))] s.heap := hP
  refine lv_aload_n hx hb d_Ref_order_0 rfl (lv_at hl 0 rfl) ?_
  refine lv_iconst (v := 0) hx hb d_Ref_order_1 (by decide) ?_
  refine va_put (D := (dC, dI)) (ci := 8) (v := .int 0) (ty := .int) (C := R_Ref) (T := F_Ref) (N := 25) hx hb hts i_Ref t_Ref t_Ref_ok n_Ref hown hK hP hD hS 0 rfl rfl 0 (by decide) (hts _ mw_fl_Ref_65) (fun _ h9 => h9) rfl (by decide +kernel) rfl rfl (Nat.le_of_ble_eq_true rfl) d_Ref_order_2 (fun H locs hP hD hS => ?_)
  have hP : va_P (dC, dI) classes [(r0, .inr (8, [.int 0, .int ((nI N)), .int ((nI OU)), .int ((nI Z)), .ref r1, .ref r2, .int 0, .ref r3, .ref r4, .ref r5, .ref r6, .ref r7, .ref r8, .int 0, .ref r9, .int 0, .ref r10, .ref r11, .int 0, .ref r12, .int 0, .ref r13, .ref r14, .int bst, .ref r15])), (r3, .inl (cI, 2, .inl ((fun _ => 0)))), (r4, .inl (cI, 2, .inl ((fun _ => 0))))] H := hP
  have hD : va_D A [(r0, .inr (8, [.int 0, .int ((nI N)), .int ((nI OU)), .int ((nI Z)), .ref r1, .ref r2, .int 0, .ref r3, .ref r4, .ref r5, .ref r6, .ref r7, .ref r8, .int 0, .ref r9, .int 0, .ref r10, .ref r11, .int 0, .ref r12, .int 0, .ref r13, .ref r14, .int bst, .ref r15])), (r3, .inl (cI, 2, .inl ((fun _ => 0)))), (r4, .inl (cI, 2, .inl ((fun _ => 0))))] := hD
  refine lv_aload_n hx hb d_Ref_order_5 rfl (lv_at hl 0 rfl) ?_
  have hPc := hP.sub (ws' := [(r0, .inr (8, [.int 0, .int ((nI N)), .int ((nI OU)), .int ((nI Z)), .ref r1, .ref r2, .int 0, .ref r3, .ref r4, .ref r5, .ref r6, .ref r7, .ref r8, .int 0, .ref r9, .int 0, .ref r10, .ref r11, .int 0, .ref r12, .int 0, .ref r13, .ref r14, .int bst, .ref r15])), (r3, .inl (cI, 2, .inl ((fun _ => 0)))), (r4, .inl (cI, 2, .inl ((fun _ => 0))))]) [0, 1, 2] rfl
  have hDc := hD.sub (ws' := [(r0, .inr (8, [.int 0, .int ((nI N)), .int ((nI OU)), .int ((nI Z)), .ref r1, .ref r2, .int 0, .ref r3, .ref r4, .ref r5, .ref r6, .ref r7, .ref r8, .int 0, .ref r9, .int 0, .ref r10, .ref r11, .int 0, .ref r12, .int 0, .ref r13, .ref r14, .int bst, .ref r15])), (r3, .inl (cI, 2, .inl ((fun _ => 0)))), (r4, .inl (cI, 2, .inl ((fun _ => 0))))]) [0, 1, 2] (by decide) rfl
  have hFc := va_free (wc := [(r0, .inr (8, [.int 0, .int ((nI N)), .int ((nI OU)), .int ((nI Z)), .ref r1, .ref r2, .int 0, .ref r3, .ref r4, .ref r5, .ref r6, .ref r7, .ref r8, .int 0, .ref r9, .int 0, .ref r10, .ref r11, .int 0, .ref r12, .int 0, .ref r13, .ref r14, .int bst, .ref r15])), (r3, .inl (cI, 2, .inl ((fun _ => 0)))), (r4, .inl (cI, 2, .inl ((fun _ => 0))))]) hD hS hA [0, 1, 2] rfl
  refine va_callv (va_runV (As := []) (rest := []) ⟨hx, hb, hml, hown, hts⟩ (c_Ref_work l dC dI cI cJ _ r0 0 N OU Z r1 r2 r3 r4 r5 r6 r7 r8 r9 r10 r11 r12 r13 r14 bst r15 ) (cwV 0 hts (ct_goodV mw_ml_Ref_79 mw_im_Ref_work mw_se_Ref_work mw_ini_Ref mw_code_Ref_work) rfl rfl rfl (by decide +kernel) ⟨Nat.le_of_ble_eq_true rfl, Nat.le_of_ble_eq_true rfl⟩) ⟨fun a U g mk q => by obtain ⟨q0, q1, qP, qK, qD⟩ := q; exact ⟨q0, q1, qP, va_K.moved (u := U) (U := U.calling g mk a) (Vm.Alike.refl U.vm) qK, qD⟩, va_recv hK hPc (ci := 8) (q0 := 0) rfl rfl, fun U hU hW => ⟨rfl, by rw [hU], by rw [hU]; exact hPc, va_K.moved hW.alike hK, hDc.weaken (fun _ _ _ _ => trivial)⟩⟩ rfl rfl hl.1 rfl (lv_room (Nat.le_of_ble_eq_true rfl)) d_Ref_order_6 ⟨Nat.le_of_ble_eq_true rfl, Nat.le_of_ble_eq_true rfl⟩) hS (fun q _ h => hFc q h) hFc (fun u t H1 locs ht hvm hw hB hz1 hk1 hS => ?_)
  obtain ⟨hP1, hK1, hD1⟩ := hB
  rw [ht] at hP1
  obtain ⟨hP, hD⟩ := va_join (wr := []) (w1 := [(r0, .inr (8, [.int 0, .int ((nI N)), .int ((nI OU)), .int ((nI Z)), .ref r1, .ref r2, .int 0, .ref r3, .ref r4, .ref r5, .ref r6, .ref r7, .ref r8, .int 0, .ref r9, .int 0, .ref r10, .ref r11, .int 0, .ref r12, .int 0, .ref r13, .ref r14, .int bst, .ref r15])), (r3, .inl (cI, 2, .inl ((fun _ => 0)))), (r4, .inl (cI, 2, .inl ((fun _ => 0))))]) hP hD [0, 1, 2] [] rfl rfl (by decide) (by decide) hk1 hFc hP1 hD1
  clear hPc hDc hFc hP1 hK1 hD1 hk1 hz1 hvm ht
  generalize H1 = H at hP hS ⊢
  have hP : va_P (dC, dI) classes [(r0, .inr (8, [.int 0, .int ((nI N)), .int ((nI OU)), .int ((nI Z)), .ref r1, .ref r2, .int 0, .ref r3, .ref r4, .ref r5, .ref r6, .ref r7, .ref r8, .int 0, .ref r9, .int 0, .ref r10, .ref r11, .int 0, .ref r12, .int 0, .ref r13, .ref r14, .int bst, .ref r15])), (r3, .inl (cI, 2, .inl ((fun _ => 0)))), (r4, .inl (cI, 2, .inl ((fun _ => 0))))] H := hP
  have hD : va_D A [(r0, .inr (8, [.int 0, .int ((nI N)), .int ((nI OU)), .int ((nI Z)), .ref r1, .ref r2, .int 0, .ref r3, .ref r4, .ref r5, .ref r6, .ref r7, .ref r8, .int 0, .ref r9, .int 0, .ref r10, .ref r11, .int 0, .ref r12, .int 0, .ref r13, .ref r14, .int bst, .ref r15])), (r3, .inl (cI, 2, .inl ((fun _ => 0)))), (r4, .inl (cI, 2, .inl ((fun _ => 0))))] := hD
  refine lv_iconst (v := 0) hx hb d_Ref_order_9 (by decide) ?_
  refine lv_istore_n (lv' := [(1, .int 0), (0, .ref r0)]) hx hb d_Ref_order_10 rfl hl (by decide) rfl (fun ls hl => ?_)
  refine lv_aload_n hx hb d_Ref_order_11 rfl (lv_at hl 1 rfl) ?_
  refine lv_iconst (v := 0) hx hb d_Ref_order_12 (by decide) ?_
  refine vp_callSi (W.runV (As := [.int 0]) (rest := []) ⟨hx, hb, hml, hown, hts⟩ (c_Ref_nodes l dC dI cI cJ r0 0 N OU Z r1 r2 r3 r4 r5 r6 r7 r8 r9 r10 r11 r12 r13 r14 bst r15 0 hN hOU (ia_ok hN ((rOrd_le hN).2 hN1))) (cwV 1 hts (ct_goodV mw_ml_Ref_147 mw_im_Ref_nodes mw_se_Ref_nodes mw_ini_Ref mw_code_Ref_nodes) rfl rfl rfl (by decide +kernel) ⟨Nat.le_of_ble_eq_true rfl, Nat.le_of_ble_eq_true rfl⟩) ⟨fun a U g mk q => by obtain ⟨q0, qP, qK⟩ := q; exact ⟨q0, qP, va_K.moved (u := U) (U := U.calling g mk a) (Vm.Alike.refl U.vm) qK⟩, va_recv hK hP (ci := 8) (q0 := 0) rfl rfl, fun U hU hW => ⟨rfl, by rw [hU]; exact (hP.sub (ws' := [(r0, .inr (8, [.int 0, .int ((nI N)), .int ((nI OU)), .int ((nI Z)), .ref r1, .ref r2, .int 0, .ref r3, .ref r4, .ref r5, .ref r6, .ref r7, .ref r8, .int 0, .ref r9, .int 0, .ref r10, .ref r11, .int 0, .ref r12, .int 0, .ref r13, .ref r14, .int bst, .ref r15])), (r3, .inl (cI, 2, .inl ((fun _ => 0))))]) [0, 1] rfl), va_K.moved hW.alike hK⟩⟩ rfl rfl hl.1 rfl (lv_room (Nat.le_of_ble_eq_true rfl)) d_Ref_order_13 ⟨Nat.le_of_ble_eq_true rfl, Nat.le_of_ble_eq_true rfl⟩) (fun r_2 hr_2 => ?_)
  rw [hr_2]
  clear hr_2
  refine lv_istore_n (lv' := [(2, .int ((0))), (1, .int 0), (0, .ref r0)]) hx hb d_Ref_order_16 rfl hl (by decide) rfl (fun ls hl => ?_)
  refine lv_iconst (v := 1) hx hb d_Ref_order_17 (by decide) ?_
  refine lv_istore_n (lv' := [(3, .int 1), (2, .int ((0))), (1, .int 0), (0, .ref r0)]) hx hb d_Ref_order_18 rfl hl (by decide) rfl (fun ls hl => ?_)
  exact lpf_Ref_order l dC dI cI cJ r0 th N OU Z r1 r2 r3 r4 r5 r6 r7 r8 r9 r10 r11 r12 r13 r14 bst r15 hN hN1 hOU hx hb hr hts hown hlocks hml hK hA ((rOrd N - 1) + 1) 0 (by omega) (Nat.zero_le _) _ _ ls (hP.sub [0, 1, 2] rfl) (hD.sub [0, 1, 2] (by decide) rfl) hS (lv_sub hl [3, 2, 1, 0] rfl)
