/-! ===== bitCount; Terms: the methods that only read ===== -/
theorem ct_goodT {own : String} {idx : Nat} {y : MethodName} {bytes : ByteArray} {maxL : Nat} {ret : Option FieldType} (h1 : Cond.methodLink own idx y ∈ lwg) (h2 : Cond.static y ∈ lwg) (h4 : Cond.initialized y.cls ∈ lwg) (h : Cond.code y bytes maxL ret ∈ lwg) : GoodIn lwg (va_wsS own idx y (ct y bytes maxL ret)) := by
  refine lw_goodIn (fun w hw => ?_)
  simp only [va_wsS, List.mem_append, List.mem_cons, List.not_mem_nil, or_false] at hw
  rcases hw with (rfl | rfl | rfl) | rfl | hw
  · exact h1
  · exact h2
  · exact h4
  · exact h
  · exact hw
def uI (x k : Int32) : Int32 := (x.toUInt32 >>> (k.toUInt32 &&& Int32.toUInt32 31)).toInt32
def uL (x : Int64) (k : Int32) : Int64 := (x.toUInt64 >>> (k.toInt64.toUInt64 &&& Int64.toUInt64 63)).toInt64
def bc1 (x : Int32) : Int32 := x - (uI x 1 &&& 1431655765)
def bc2 (x : Int32) : Int32 := (x &&& 858993459) + (uI x 2 &&& 858993459)
def bc3 (x : Int32) : Int32 := (x + uI x 4) &&& 252645135
def bc4 (x : Int32) : Int32 := x + uI x 8
def bc5 (x : Int32) : Int32 := x + uI x 16
/-- Integer.bitCount, as its code has it -/
def bcI (x : Int32) : Int32 := bc5 (bc4 (bc3 (bc2 (bc1 x)))) &&& 63
def bl1 (x : Int64) : Int64 := x - (uL x 1 &&& 6148914691236517205)
def bl2 (x : Int64) : Int64 := (x &&& 3689348814741910323) + (uL x 2 &&& 3689348814741910323)
def bl3 (x : Int64) : Int64 := (x + uL x 4) &&& 1085102592571150095
def bl4 (x : Int64) : Int64 := x + uL x 8
def bl5 (x : Int64) : Int64 := x + uL x 16
def bl6 (x : Int64) : Int64 := x + uL x 32
def bcL (x : Int64) : Int32 := (bl6 (bl5 (bl4 (bl3 (bl2 (bl1 x)))))).toInt32 &&& 127
set_option maxHeartbeats 4000000 in
set_option maxRecDepth 100000 in
theorem c_JInteger_bitCount_II (l : Launch) (dC : Nat → ClassId) (dI : Nat → Nat → Nat) (cI cJ : ClassId) (x : Int32) : Met l y_JInteger_bitCount_II (ct y_JInteger_bitCount_II b_JInteger_bitCount_II 1 (some .int)) ({ frames := 0, cells := 0, slots := 0, locals := 0 }) (va_Pc [.int x] (fun U => va_P (dC, dI) classes [] U.heap ∧ va_K (dC, dI) classes [(cI, .int), (cJ, .long)] U)) (vp_Si (fun r => r = bcI x)) 0 0 (fun _ => False) := by
  refine Met.ofW (cc := b_JInteger_bitCount_II) (maxL := 1) (ret := some .int) (by decide) rfl ?_
  intro p e s m args below meth c s₁ B hml hv
  obtain ⟨rfl, hP, hK⟩ := hv
  have hx := B.exec
  have hb := B.bytes
  have hr := B.returns
  have hts : ∀ w ∈ lwg, w.before _ s = true := fun w h => atoms_spec (ws := ct y_JInteger_bitCount_II b_JInteger_bitCount_II 1 (some .int)) B.pre w (List.mem_cons_of_mem _ h)
  have hown : s.vm.findClass "java/lang/Integer" = some m.cls := findClass_of_methodNamed B.named
  have hlocks := B.notSynchronized
  have hl := lv_entry ([.int x]) (n := 1) (Nat.le_of_ble_eq_true rfl)
  rw [lg_entry_eq]
  generalize (lg_sl ([.int x]) ++ List.replicate (1 - (lg_sl ([.int x])).length) Slot.unset).toArray = ls at hl ⊢
  have hl : lv_has ls 1 [(0, .int x)] := hl
  refine lv_iload_n hx hb d_JInteger_bitCount_II_0 rfl (lv_at hl 0 rfl) ?_
  refine lv_iload_n hx hb d_JInteger_bitCount_II_1 rfl (lv_at hl 0 rfl) ?_
  refine lv_iconst (v := 1) hx hb d_JInteger_bitCount_II_2 (by decide) ?_
  refine lv_iushr hx hb d_JInteger_bitCount_II_3 rfl ?_
  refine lv_ldcw (v := 1431655765) hx hb hown (hts _ mw_co_JInteger_265) d_JInteger_bitCount_II_4 ?_
  refine lv_iand hx hb d_JInteger_bitCount_II_7 ?_
  refine lv_isub hx hb d_JInteger_bitCount_II_8 ?_
  refine lv_topi (fun v_1 ev_1 => ?_)
  refine lv_istore_n (lv' := [(0, .int v_1)]) hx hb d_JInteger_bitCount_II_9 rfl hl (by decide) rfl (fun ls hl => ?_)
  refine lv_iload_n hx hb d_JInteger_bitCount_II_10 rfl (lv_at hl 0 rfl) ?_
  refine lv_ldcw (v := 858993459) hx hb hown (hts _ mw_co_JInteger_266) d_JInteger_bitCount_II_11 ?_
  refine lv_iand hx hb d_JInteger_bitCount_II_14 ?_
  refine lv_iload_n hx hb d_JInteger_bitCount_II_15 rfl (lv_at hl 0 rfl) ?_
  refine lv_iconst (v := 2) hx hb d_JInteger_bitCount_II_16 (by decide) ?_
  refine lv_iushr hx hb d_JInteger_bitCount_II_17 rfl ?_
  refine lv_ldcw (v := 858993459) hx hb hown (hts _ mw_co_JInteger_266) d_JInteger_bitCount_II_18 ?_
  refine lv_iand hx hb d_JInteger_bitCount_II_21 ?_
  refine lv_iadd hx hb d_JInteger_bitCount_II_22 ?_
  refine lv_topi (fun v_2 ev_2 => ?_)
  refine lv_istore_n (lv' := [(0, .int v_2)]) hx hb d_JInteger_bitCount_II_23 rfl hl (by decide) rfl (fun ls hl => ?_)
  refine lv_iload_n hx hb d_JInteger_bitCount_II_24 rfl (lv_at hl 0 rfl) ?_
  refine lv_iload_n hx hb d_JInteger_bitCount_II_25 rfl (lv_at hl 0 rfl) ?_
  refine lv_iconst (v := 4) hx hb d_JInteger_bitCount_II_26 (by decide) ?_
  refine lv_iushr hx hb d_JInteger_bitCount_II_27 rfl ?_
  refine lv_iadd hx hb d_JInteger_bitCount_II_28 ?_
  refine lv_ldcw (v := 252645135) hx hb hown (hts _ mw_co_JInteger_267) d_JInteger_bitCount_II_29 ?_
  refine lv_iand hx hb d_JInteger_bitCount_II_32 ?_
  refine lv_topi (fun v_3 ev_3 => ?_)
  refine lv_istore_n (lv' := [(0, .int v_3)]) hx hb d_JInteger_bitCount_II_33 rfl hl (by decide) rfl (fun ls hl => ?_)
  refine lv_iload_n hx hb d_JInteger_bitCount_II_34 rfl (lv_at hl 0 rfl) ?_
  refine lv_iload_n hx hb d_JInteger_bitCount_II_35 rfl (lv_at hl 0 rfl) ?_
  refine lv_bipush (v := 8) hx hb d_JInteger_bitCount_II_36 (by decide) ?_
  refine lv_iushr hx hb d_JInteger_bitCount_II_38 rfl ?_
  refine lv_iadd hx hb d_JInteger_bitCount_II_39 ?_
  refine lv_topi (fun v_4 ev_4 => ?_)
  refine lv_istore_n (lv' := [(0, .int v_4)]) hx hb d_JInteger_bitCount_II_40 rfl hl (by decide) rfl (fun ls hl => ?_)
  refine lv_iload_n hx hb d_JInteger_bitCount_II_41 rfl (lv_at hl 0 rfl) ?_
  refine lv_iload_n hx hb d_JInteger_bitCount_II_42 rfl (lv_at hl 0 rfl) ?_
  refine lv_bipush (v := 16) hx hb d_JInteger_bitCount_II_43 (by decide) ?_
  refine lv_iushr hx hb d_JInteger_bitCount_II_45 rfl ?_
  refine lv_iadd hx hb d_JInteger_bitCount_II_46 ?_
  refine lv_topi (fun v_5 ev_5 => ?_)
  refine lv_istore_n (lv' := [(0, .int v_5)]) hx hb d_JInteger_bitCount_II_47 rfl hl (by decide) rfl (fun ls hl => ?_)
  refine lv_iload_n hx hb d_JInteger_bitCount_II_48 rfl (lv_at hl 0 rfl) ?_
  refine lv_bipush (v := 63) hx hb d_JInteger_bitCount_II_49 (by decide) ?_
  refine lv_iand hx hb d_JInteger_bitCount_II_51 ?_
  exact W.iret (v := (v_5 &&& 63)) hx hb hr (fun t ht hW => ⟨_, rfl, by subst_vars; rfl, ht⟩) (fun q h => by cases h) d_JInteger_bitCount_II_52
set_option maxHeartbeats 4000000 in
set_option maxRecDepth 100000 in
theorem c_JLong_bitCount_JI (l : Launch) (dC : Nat → ClassId) (dI : Nat → Nat → Nat) (cI cJ : ClassId) (x : Int64) : Met l y_JLong_bitCount_JI (ct y_JLong_bitCount_JI b_JLong_bitCount_JI 2 (some .int)) ({ frames := 0, cells := 0, slots := 0, locals := 0 }) (va_Pc [.long x] (fun U => va_P (dC, dI) classes [] U.heap ∧ va_K (dC, dI) classes [(cI, .int), (cJ, .long)] U)) (vp_Si (fun r => r = bcL x)) 0 0 (fun _ => False) := by
  refine Met.ofW (cc := b_JLong_bitCount_JI) (maxL := 2) (ret := some .int) (by decide) rfl ?_
  intro p e s m args below meth c s₁ B hml hv
  obtain ⟨rfl, hP, hK⟩ := hv
  have hx := B.exec
  have hb := B.bytes
  have hr := B.returns
  have hts : ∀ w ∈ lwg, w.before _ s = true := fun w h => atoms_spec (ws := ct y_JLong_bitCount_JI b_JLong_bitCount_JI 2 (some .int)) B.pre w (List.mem_cons_of_mem _ h)
  have hown : s.vm.findClass "java/lang/Long" = some m.cls := findClass_of_methodNamed B.named
  have hlocks := B.notSynchronized
  have hl := lv_entry ([.long x]) (n := 2) (Nat.le_of_ble_eq_true rfl)
  rw [lg_entry_eq]
  generalize (lg_sl ([.long x]) ++ List.replicate (2 - (lg_sl ([.long x])).length) Slot.unset).toArray = ls at hl ⊢
  have hl : lv_has ls 2 [(0, .long x)] := hl
  refine lv_lload_n hx hb d_JLong_bitCount_JI_0 rfl (lv_at hl 0 rfl) ?_
  refine lv_lload_n hx hb d_JLong_bitCount_JI_1 rfl (lv_at hl 0 rfl) ?_
  refine lv_iconst (v := 1) hx hb d_JLong_bitCount_JI_2 (by decide) ?_
  refine lv_lushr hx hb d_JLong_bitCount_JI_3 rfl ?_
  refine lv_ldc2 (v := 6148914691236517205) hx hb hown (hts _ mw_co_JLong_314) d_JLong_bitCount_JI_4 ?_
  refine lv_land hx hb d_JLong_bitCount_JI_7 ?_
  refine lv_lsub hx hb d_JLong_bitCount_JI_8 ?_
  refine lv_topl (fun v_1 ev_1 => ?_)
  refine lv_lstore_n (lv' := [(0, .long v_1)]) hx hb d_JLong_bitCount_JI_9 rfl hl (by decide) rfl (fun ls hl => ?_)
  refine lv_lload_n hx hb d_JLong_bitCount_JI_10 rfl (lv_at hl 0 rfl) ?_
  refine lv_ldc2 (v := 3689348814741910323) hx hb hown (hts _ mw_co_JLong_316) d_JLong_bitCount_JI_11 ?_
  refine lv_land hx hb d_JLong_bitCount_JI_14 ?_
  refine lv_lload_n hx hb d_JLong_bitCount_JI_15 rfl (lv_at hl 0 rfl) ?_
  refine lv_iconst (v := 2) hx hb d_JLong_bitCount_JI_16 (by decide) ?_
  refine lv_lushr hx hb d_JLong_bitCount_JI_17 rfl ?_
  refine lv_ldc2 (v := 3689348814741910323) hx hb hown (hts _ mw_co_JLong_316) d_JLong_bitCount_JI_18 ?_
  refine lv_land hx hb d_JLong_bitCount_JI_21 ?_
  refine lv_ladd hx hb d_JLong_bitCount_JI_22 ?_
  refine lv_topl (fun v_2 ev_2 => ?_)
  refine lv_lstore_n (lv' := [(0, .long v_2)]) hx hb d_JLong_bitCount_JI_23 rfl hl (by decide) rfl (fun ls hl => ?_)
  refine lv_lload_n hx hb d_JLong_bitCount_JI_24 rfl (lv_at hl 0 rfl) ?_
  refine lv_lload_n hx hb d_JLong_bitCount_JI_25 rfl (lv_at hl 0 rfl) ?_
  refine lv_iconst (v := 4) hx hb d_JLong_bitCount_JI_26 (by decide) ?_
  refine lv_lushr hx hb d_JLong_bitCount_JI_27 rfl ?_
  refine lv_ladd hx hb d_JLong_bitCount_JI_28 ?_
  refine lv_ldc2 (v := 1085102592571150095) hx hb hown (hts _ mw_co_JLong_318) d_JLong_bitCount_JI_29 ?_
  refine lv_land hx hb d_JLong_bitCount_JI_32 ?_
  refine lv_topl (fun v_3 ev_3 => ?_)
  refine lv_lstore_n (lv' := [(0, .long v_3)]) hx hb d_JLong_bitCount_JI_33 rfl hl (by decide) rfl (fun ls hl => ?_)
  refine lv_lload_n hx hb d_JLong_bitCount_JI_34 rfl (lv_at hl 0 rfl) ?_
  refine lv_lload_n hx hb d_JLong_bitCount_JI_35 rfl (lv_at hl 0 rfl) ?_
  refine lv_bipush (v := 8) hx hb d_JLong_bitCount_JI_36 (by decide) ?_
  refine lv_lushr hx hb d_JLong_bitCount_JI_38 rfl ?_
  refine lv_ladd hx hb d_JLong_bitCount_JI_39 ?_
  refine lv_topl (fun v_4 ev_4 => ?_)
  refine lv_lstore_n (lv' := [(0, .long v_4)]) hx hb d_JLong_bitCount_JI_40 rfl hl (by decide) rfl (fun ls hl => ?_)
  refine lv_lload_n hx hb d_JLong_bitCount_JI_41 rfl (lv_at hl 0 rfl) ?_
  refine lv_lload_n hx hb d_JLong_bitCount_JI_42 rfl (lv_at hl 0 rfl) ?_
  refine lv_bipush (v := 16) hx hb d_JLong_bitCount_JI_43 (by decide) ?_
  refine lv_lushr hx hb d_JLong_bitCount_JI_45 rfl ?_
  refine lv_ladd hx hb d_JLong_bitCount_JI_46 ?_
  refine lv_topl (fun v_5 ev_5 => ?_)
  refine lv_lstore_n (lv' := [(0, .long v_5)]) hx hb d_JLong_bitCount_JI_47 rfl hl (by decide) rfl (fun ls hl => ?_)
  refine lv_lload_n hx hb d_JLong_bitCount_JI_48 rfl (lv_at hl 0 rfl) ?_
  refine lv_lload_n hx hb d_JLong_bitCount_JI_49 rfl (lv_at hl 0 rfl) ?_
  refine lv_bipush (v := 32) hx hb d_JLong_bitCount_JI_50 (by decide) ?_
  refine lv_lushr hx hb d_JLong_bitCount_JI_52 rfl ?_
  refine lv_ladd hx hb d_JLong_bitCount_JI_53 ?_
  refine lv_topl (fun v_6 ev_6 => ?_)
  refine lv_lstore_n (lv' := [(0, .long v_6)]) hx hb d_JLong_bitCount_JI_54 rfl hl (by decide) rfl (fun ls hl => ?_)
  refine lv_lload_n hx hb d_JLong_bitCount_JI_55 rfl (lv_at hl 0 rfl) ?_
  refine lv_l2i hx hb d_JLong_bitCount_JI_56 rfl ?_
  refine lv_bipush (v := 127) hx hb d_JLong_bitCount_JI_57 (by decide) ?_
  refine lv_iand hx hb d_JLong_bitCount_JI_59 ?_
  exact W.iret (v := (v_6.toInt32 &&& 127)) hx hb hr (fun t ht hW => ⟨_, rfl, by subst_vars; rfl, ht⟩) (fun q h => by cases h) d_JLong_bitCount_JI_60
abbrev wT (cI : ClassId) (t0 t1 t2 a0 K : Nat) (tp to : Nat → Int32) : va_W := [(t0, .inr (6, [.ref a0, .ref t1, .ref t2, .int ((nI K))])), (t1, .inl (cI, 81, .inl tp)), (t2, .inl (cI, 81, .inl to))]
/-- what term k has for an output; what all terms have -/
def fHad (tp to had : Nat → Int32) (k : Nat) (ot : Int32) : Int32 := if (to k >>> (ot &&& 31)) &&& 1 = 1 then had (tp k).toNatClampNeg else 0
def fHadAll (tp to had : Nat → Int32) (K : Nat) (ot : Int32) : Int32 := itr (fun k acc => acc ||| fHad tp to had k ot) K 0
set_option maxHeartbeats 4000000 in
set_option maxRecDepth 100000 in
theorem c_Terms_size (l : Launch) (dC : Nat → ClassId) (dI : Nat → Nat → Nat) (cI cJ : ClassId) (t0 : Nat) (t1 : Nat) (t2 : Nat) (K : Nat) (tp : Nat → Int32) (to : Nat → Int32) (a0 : Nat) : Met l y_Terms_size (ct y_Terms_size b_Terms_size 1 (some .int)) ({ frames := 0, cells := 0, slots := 0, locals := 0 }) (va_Pc [.ref t0] (fun U => va_P (dC, dI) classes (wT cI t0 t1 t2 a0 K tp to) U.heap ∧ va_K (dC, dI) classes [(cI, .int), (cJ, .long)] U)) (vp_Si (fun r => r = nI K)) 0 0 (fun _ => False) := by
  refine Met.ofW (cc := b_Terms_size) (maxL := 1) (ret := some .int) (by decide) rfl ?_
  intro p e s m args below meth c s₁ B hml hv
  obtain ⟨rfl, hP, hK⟩ := hv
  have hx := B.exec
  have hb := B.bytes
  have hr := B.returns
  have hts : ∀ w ∈ lwg, w.before _ s = true := fun w h => atoms_spec (ws := ct y_Terms_size b_Terms_size 1 (some .int)) B.pre w (List.mem_cons_of_mem _ h)
  have hown : s.vm.findClass R_Terms = some m.cls := findClass_of_methodNamed B.named
  have hlocks := B.notSynchronized
  have hl := lv_entry ([.ref t0]) (n := 1) (Nat.le_of_ble_eq_true rfl)
  rw [lg_entry_eq]
  generalize (lg_sl ([.ref t0]) ++ List.replicate (1 - (lg_sl ([.ref t0])).length) Slot.unset).toArray = ls at hl ⊢
  have hl : lv_has ls 1 [(0, .ref t0)] := hl
  refine lv_aload_n hx hb d_Terms_size_0 rfl (lv_at hl 0 rfl) ?_
  refine va_get (D := (dC, dI)) (ci := 6) (v := .int ((nI K))) (C := R_Terms) (T := F_Terms) (N := 4) hx hb hts i_Terms hown hK hP 0 rfl rfl 3 (by decide) (hts _ mw_fl_Terms_22) (fun _ h9 => h9) rfl d_Terms_size_1 ?_
  exact W.iret (v := (nI K)) hx hb hr (fun t ht hW => ⟨_, rfl, rfl, ht⟩) (fun q h => by cases h) d_Terms_size_4
set_option maxHeartbeats 4000000 in
set_option maxRecDepth 100000 in
theorem c_Terms_holds (l : Launch) (dC : Nat → ClassId) (dI : Nat → Nat → Nat) (cI cJ : ClassId) (t0 : Nat) (t1 : Nat) (t2 : Nat) (K : Nat) (tp : Nat → Int32) (to : Nat → Int32) (a0 : Nat) (x : Int32) : Met l y_Terms_holds (ct y_Terms_holds b_Terms_holds 2 (some .boolean)) ({ frames := 0, cells := 0, slots := 0, locals := 0 }) (va_Pc [.ref t0, .int x] (fun U => va_P (dC, dI) classes (wT cI t0 t1 t2 a0 K tp to) U.heap ∧ va_K (dC, dI) classes [(cI, .int), (cJ, .long)] U)) (vp_Si (fun r => r = if x < 0 ∨ nI K ≤ x then 0 else 1)) 0 0 (fun _ => False) := by
  refine Met.ofW (cc := b_Terms_holds) (maxL := 2) (ret := some .boolean) (by decide) rfl ?_
  intro p e s m args below meth c s₁ B hml hv
  obtain ⟨rfl, hP, hK⟩ := hv
  have hx := B.exec
  have hb := B.bytes
  have hr := B.returns
  have hts : ∀ w ∈ lwg, w.before _ s = true := fun w h => atoms_spec (ws := ct y_Terms_holds b_Terms_holds 2 (some .boolean)) B.pre w (List.mem_cons_of_mem _ h)
  have hown : s.vm.findClass R_Terms = some m.cls := findClass_of_methodNamed B.named
  have hlocks := B.notSynchronized
  have hl := lv_entry ([.ref t0, .int x]) (n := 2) (Nat.le_of_ble_eq_true rfl)
  rw [lg_entry_eq]
  generalize (lg_sl ([.ref t0, .int x]) ++ List.replicate (2 - (lg_sl ([.ref t0, .int x])).length) Slot.unset).toArray = ls at hl ⊢
  have hl : lv_has ls 2 [(0, .ref t0), (1, .int x)] := hl
  refine lv_iload_n hx hb d_Terms_holds_0 rfl (lv_at hl 1 rfl) ?_
  refine lv_if_lt (tgt := 16) hx hb d_Terms_holds_1 (by decide) (fun c_1 => ?_) (fun c_1 => ?_)
  · refine lv_iconst (v := 0) hx hb d_Terms_holds_16 (by decide) ?_
    exact W.zret (v := 0) hx hb hr (by decide) (fun t ht hW => ⟨_, rfl, by simp_all, ht⟩) (fun q h => by cases h) d_Terms_holds_17
  · refine lv_iload_n hx hb d_Terms_holds_4 rfl (lv_at hl 1 rfl) ?_
    refine lv_aload_n hx hb d_Terms_holds_5 rfl (lv_at hl 0 rfl) ?_
    refine va_get (D := (dC, dI)) (ci := 6) (v := .int ((nI K))) (C := R_Terms) (T := F_Terms) (N := 4) hx hb hts i_Terms hown hK hP 0 rfl rfl 3 (by decide) (hts _ mw_fl_Terms_22) (fun _ h9 => h9) rfl d_Terms_holds_6 ?_
    refine lv_icmp_ge (tgt := 16) hx hb d_Terms_holds_9 (by decide) (fun c_9 => ?_) (fun c_9 => ?_)
    · refine lv_iconst (v := 0) hx hb d_Terms_holds_16 (by decide) ?_
      exact W.zret (v := 0) hx hb hr (by decide) (fun t ht hW => ⟨_, rfl, by simp_all, ht⟩) (fun q h => by cases h) d_Terms_holds_17
    · refine lv_iconst (v := 1) hx hb d_Terms_holds_12 (by decide) ?_
      refine lv_goto (tgt := 17) hx hb d_Terms_holds_13 (by decide) ?_
      exact W.zret (v := 1) hx hb hr (by decide) (fun t ht hW => ⟨_, rfl, by simp_all, ht⟩) (fun q h => by cases h) d_Terms_holds_17
set_option maxHeartbeats 4000000 in
set_option maxRecDepth 100000 in
theorem c_Terms_product (l : Launch) (dC : Nat → ClassId) (dI : Nat → Nat → Nat) (cI cJ : ClassId) (t0 : Nat) (t1 : Nat) (t2 : Nat) (K : Nat) (tp : Nat → Int32) (to : Nat → Int32) (a0 : Nat) (k : Nat) (hk : k < 81) : Met l y_Terms_product (ct y_Terms_product b_Terms_product 2 (some .int)) ({ frames := 0, cells := 0, slots := 0, locals := 0 }) (va_Pc [.ref t0, .int ((nI k))] (fun U => va_P (dC, dI) classes (wT cI t0 t1 t2 a0 K tp to) U.heap ∧ va_K (dC, dI) classes [(cI, .int), (cJ, .long)] U)) (vp_Si (fun r => r = tp k)) 0 0 (fun _ => False) := by
  refine Met.ofW (cc := b_Terms_product) (maxL := 2) (ret := some .int) (by decide) rfl ?_
  intro p e s m args below meth c s₁ B hml hv
  obtain ⟨rfl, hP, hK⟩ := hv
  have hx := B.exec
  have hb := B.bytes
  have hr := B.returns
  have hts : ∀ w ∈ lwg, w.before _ s = true := fun w h => atoms_spec (ws := ct y_Terms_product b_Terms_product 2 (some .int)) B.pre w (List.mem_cons_of_mem _ h)
  have hown : s.vm.findClass R_Terms = some m.cls := findClass_of_methodNamed B.named
  have hlocks := B.notSynchronized
  have hl := lv_entry ([.ref t0, .int ((nI k))]) (n := 2) (Nat.le_of_ble_eq_true rfl)
  rw [lg_entry_eq]
  generalize (lg_sl ([.ref t0, .int ((nI k))]) ++ List.replicate (2 - (lg_sl ([.ref t0, .int ((nI k))])).length) Slot.unset).toArray = ls at hl ⊢
  have hl : lv_has ls 2 [(0, .ref t0), (1, .int ((nI k)))] := hl
  refine lv_aload_n hx hb d_Terms_product_0 rfl (lv_at hl 0 rfl) ?_
  refine va_get (D := (dC, dI)) (ci := 6) (v := .ref t1) (C := R_Terms) (T := F_Terms) (N := 4) hx hb hts i_Terms hown hK hP 0 rfl rfl 1 (by decide) (hts _ mw_fl_Terms_9) (fun _ h9 => h9) rfl d_Terms_product_1 ?_
  refine lv_iload_n hx hb d_Terms_product_4 rfl (lv_at hl 1 rfl) ?_
  refine va_iald hx hb hK hP 1 0 rfl rfl (vp_in_nI hk (by omega)) d_Terms_product_5 ?_
  refine w_ti (show _ = tp k from by rw [nI_clamp (by omega)]) ?_
  exact W.iret (v := (tp k)) hx hb hr (fun t ht hW => ⟨_, rfl, rfl, ht⟩) (fun q h => by cases h) d_Terms_product_6
set_option maxHeartbeats 4000000 in
set_option maxRecDepth 100000 in
theorem c_Terms_column (l : Launch) (dC : Nat → ClassId) (dI : Nat → Nat → Nat) (cI cJ : ClassId) (t0 : Nat) (t1 : Nat) (t2 : Nat) (K : Nat) (tp : Nat → Int32) (to : Nat → Int32) (a0 : Nat) (a1 : Nat) (a2 : Nat) (a3 : Nat) (n : Int32) (sz : Int32) (care : Nat → Int32) (bits : Nat → Int32) (had : Nat → Int32) (k : Nat) (i0 : Int32) (hk : k < 81) (hp : vp_in (tp k) 81) : Met l y_Terms_column (ct y_Terms_column b_Terms_column 4 (some .int)) ({ frames := 1, cells := 0, slots := 0, locals := 22 }) (va_Pc [.ref t0, .int ((nI k)), .int i0] (fun U => va_P (dC, dI) classes (wT cI t0 t1 t2 a0 K tp to ++ wP cI a0 a1 a2 a3 n sz care bits had) U.heap ∧ va_K (dC, dI) classes [(cI, .int), (cJ, .long)] U)) (vp_Si (fun r => r = if n ≤ i0 then ((to k >>> ((i0 - n) &&& 31)) &&& 1) else fDig (care (tp k).toNatClampNeg) (bits (tp k).toNatClampNeg) i0)) 0 0 (fun _ => False) := by
  refine Met.ofW (cc := b_Terms_column) (maxL := 4) (ret := some .int) (by decide) rfl ?_
  intro p e s m args below meth c s₁ B hml hv
  obtain ⟨rfl, hP, hK⟩ := hv
  have hx := B.exec
  have hb := B.bytes
  have hr := B.returns
  have hts : ∀ w ∈ lwg, w.before _ s = true := fun w h => atoms_spec (ws := ct y_Terms_column b_Terms_column 4 (some .int)) B.pre w (List.mem_cons_of_mem _ h)
  have hown : s.vm.findClass R_Terms = some m.cls := findClass_of_methodNamed B.named
  have hlocks := B.notSynchronized
  have hl := lv_entry ([.ref t0, .int ((nI k)), .int i0]) (n := 4) (Nat.le_of_ble_eq_true rfl)
  rw [lg_entry_eq]
  generalize (lg_sl ([.ref t0, .int ((nI k)), .int i0]) ++ List.replicate (4 - (lg_sl ([.ref t0, .int ((nI k)), .int i0])).length) Slot.unset).toArray = ls at hl ⊢
  have hl : lv_has ls 4 [(0, .ref t0), (1, .int ((nI k))), (2, .int i0)] := hl
  refine lv_aload_n hx hb d_Terms_column_0 rfl (lv_at hl 0 rfl) ?_
  refine va_get (D := (dC, dI)) (ci := 6) (v := .ref a0) (C := R_Terms) (T := F_Terms) (N := 4) hx hb hts i_Terms hown hK hP 0 rfl rfl 0 (by decide) (hts _ mw_fl_Terms_18) (fun _ h9 => h9) rfl d_Terms_column_1 ?_
  refine vp_callSi (W.runV (As := []) (rest := []) ⟨hx, hb, hml, hown, hts⟩ (c_Products_inputs l dC dI cI cJ a0 a1 a2 a3 n sz care bits had ) (cwV 0 hts (ct_goodV mw_ml_Terms_33 mw_im_Products_inputs mw_se_Products_inputs mw_ini_Products mw_code_Products_inputs) rfl rfl rfl (by decide +kernel) ⟨Nat.le_of_ble_eq_true rfl, Nat.le_of_ble_eq_true rfl⟩) ⟨fun a U g mk q => by obtain ⟨q0, qP, qK⟩ := q; exact ⟨q0, qP, va_K.moved (u := U) (U := U.calling g mk a) (Vm.Alike.refl U.vm) qK⟩, va_recv hK hP (ci := 5) (q0 := 3) rfl rfl, fun U hU hW => ⟨rfl, by rw [hU]; exact (hP.sub (ws' := (wP cI a0 a1 a2 a3 n sz care bits had)) [3, 4, 5, 6] rfl), va_K.moved hW.alike hK⟩⟩ rfl rfl hl.1 rfl (lv_room (Nat.le_of_ble_eq_true rfl)) d_Terms_column_4 ⟨Nat.le_of_ble_eq_true rfl, Nat.le_of_ble_eq_true rfl⟩) (fun r_1 hr_1 => ?_)
  rw [hr_1]
  clear hr_1
  refine lv_istore_n (lv' := [(3, .int ((n))), (0, .ref t0), (1, .int ((nI k))), (2, .int i0)]) hx hb d_Terms_column_7 rfl hl (by decide) rfl (fun ls hl => ?_)
  refine lv_iload_n hx hb d_Terms_column_8 rfl (lv_at hl 3 rfl) ?_
  refine lv_iload_n hx hb d_Terms_column_9 rfl (lv_at hl 0 rfl) ?_
  refine lv_icmp_ge (tgt := 30) hx hb d_Terms_column_10 (by decide) (fun c_10 => ?_) (fun c_10 => ?_)
  · refine lv_aload_n hx hb d_Terms_column_30 rfl (lv_at hl 1 rfl) ?_
    refine va_get (D := (dC, dI)) (ci := 6) (v := .ref t2) (C := R_Terms) (T := F_Terms) (N := 4) hx hb hts i_Terms hown hK hP 0 rfl rfl 2 (by decide) (hts _ mw_fl_Terms_15) (fun _ h9 => h9) rfl d_Terms_column_31 ?_
    refine lv_iload_n hx hb d_Terms_column_34 rfl (lv_at hl 2 rfl) ?_
    refine va_iald hx hb hK hP 2 0 rfl rfl (vp_in_nI hk (by omega)) d_Terms_column_35 ?_
    refine w_ti (show _ = to k from by rw [nI_clamp (by omega)]) ?_
    refine lv_iload_n hx hb d_Terms_column_36 rfl (lv_at hl 3 rfl) ?_
    refine lv_iload_n hx hb d_Terms_column_37 rfl (lv_at hl 0 rfl) ?_
    refine lv_isub hx hb d_Terms_column_38 ?_
    refine lv_ishr hx hb d_Terms_column_39 ?_
    refine lv_iconst (v := 1) hx hb d_Terms_column_40 (by decide) ?_
    refine lv_iand hx hb d_Terms_column_41 ?_
    exact W.iret (v := (((to k) >>> ((i0 - (n)) &&& 31)) &&& 1)) hx hb hr (fun t ht hW => ⟨_, rfl, by simp [c_10], ht⟩) (fun q h => by cases h) d_Terms_column_42
  · refine lv_aload_n hx hb d_Terms_column_13 rfl (lv_at hl 1 rfl) ?_
    refine va_get (D := (dC, dI)) (ci := 6) (v := .ref a0) (C := R_Terms) (T := F_Terms) (N := 4) hx hb hts i_Terms hown hK hP 0 rfl rfl 0 (by decide) (hts _ mw_fl_Terms_18) (fun _ h9 => h9) rfl d_Terms_column_14 ?_
    refine lv_aload_n hx hb d_Terms_column_17 rfl (lv_at hl 1 rfl) ?_
    refine va_get (D := (dC, dI)) (ci := 6) (v := .ref t1) (C := R_Terms) (T := F_Terms) (N := 4) hx hb hts i_Terms hown hK hP 0 rfl rfl 1 (by decide) (hts _ mw_fl_Terms_9) (fun _ h9 => h9) rfl d_Terms_column_18 ?_
    refine lv_iload_n hx hb d_Terms_column_21 rfl (lv_at hl 2 rfl) ?_
    refine va_iald hx hb hK hP 1 0 rfl rfl (vp_in_nI hk (by omega)) d_Terms_column_22 ?_
    refine w_ti (show _ = tp k from by rw [nI_clamp (by omega)]) ?_
    refine lv_iload_n hx hb d_Terms_column_23 rfl (lv_at hl 3 rfl) ?_
    refine vp_callSi (W.runV (As := [.int ((tp k)), .int i0]) (rest := []) ⟨hx, hb, hml, hown, hts⟩ (c_Products_digit l dC dI cI cJ a0 a1 a2 a3 n sz care bits had (tp k) i0 hp) (cwV 2 hts (ct_goodV mw_ml_Terms_39 mw_im_Products_digit mw_se_Products_digit mw_ini_Products mw_code_Products_digit) rfl rfl rfl (by decide +kernel) ⟨Nat.le_of_ble_eq_true rfl, Nat.le_of_ble_eq_true rfl⟩) ⟨fun a U g mk q => by obtain ⟨q0, qP, qK⟩ := q; exact ⟨q0, qP, va_K.moved (u := U) (U := U.calling g mk a) (Vm.Alike.refl U.vm) qK⟩, va_recv hK hP (ci := 5) (q0 := 3) rfl rfl, fun U hU hW => ⟨rfl, by rw [hU]; exact (hP.sub (ws' := (wP cI a0 a1 a2 a3 n sz care bits had)) [3, 4, 5, 6] rfl), va_K.moved hW.alike hK⟩⟩ rfl rfl hl.1 rfl (lv_room (Nat.le_of_ble_eq_true rfl)) d_Terms_column_24 ⟨Nat.le_of_ble_eq_true rfl, Nat.le_of_ble_eq_true rfl⟩) (fun r_2 hr_2 => ?_)
    rw [hr_2]
    clear hr_2
    refine lv_goto (tgt := 42) hx hb d_Terms_column_27 (by decide) ?_
    exact W.iret (v := (fDig (care (tp k).toNatClampNeg) (bits (tp k).toNatClampNeg) i0)) hx hb hr (fun t ht hW => ⟨_, rfl, by simp [c_10], ht⟩) (fun q h => by cases h) d_Terms_column_42
set_option maxHeartbeats 4000000 in
set_option maxRecDepth 100000 in
theorem c_Terms_costOf (l : Launch) (dC : Nat → ClassId) (dI : Nat → Nat → Nat) (cI cJ : ClassId) (t0 : Nat) (t1 : Nat) (t2 : Nat) (K : Nat) (tp : Nat → Int32) (to : Nat → Int32) (a0 : Nat) (a1 : Nat) (a2 : Nat) (a3 : Nat) (n : Int32) (sz : Int32) (care : Nat → Int32) (bits : Nat → Int32) (had : Nat → Int32) (k : Nat) (hk : k < 81) (hp : vp_in (tp k) 81) : Met l y_Terms_costOf (ct y_Terms_costOf b_Terms_costOf 2 (some .int)) ({ frames := 1, cells := 0, slots := 0, locals := 21 }) (va_Pc [.ref t0, .int ((nI k))] (fun U => va_P (dC, dI) classes (wT cI t0 t1 t2 a0 K tp to ++ wP cI a0 a1 a2 a3 n sz care bits had) U.heap ∧ va_K (dC, dI) classes [(cI, .int), (cJ, .long)] U)) (vp_Si (fun r => r = bcI (care (tp k).toNatClampNeg) + bcI (to k))) 0 0 (fun _ => False) := by
  refine Met.ofW (cc := b_Terms_costOf) (maxL := 2) (ret := some .int) (by decide) rfl ?_
  intro p e s m args below meth c s₁ B hml hv
  obtain ⟨rfl, hP, hK⟩ := hv
  have hx := B.exec
  have hb := B.bytes
  have hr := B.returns
  have hts : ∀ w ∈ lwg, w.before _ s = true := fun w h => atoms_spec (ws := ct y_Terms_costOf b_Terms_costOf 2 (some .int)) B.pre w (List.mem_cons_of_mem _ h)
  have hown : s.vm.findClass R_Terms = some m.cls := findClass_of_methodNamed B.named
  have hlocks := B.notSynchronized
  have hl := lv_entry ([.ref t0, .int ((nI k))]) (n := 2) (Nat.le_of_ble_eq_true rfl)
  rw [lg_entry_eq]
  generalize (lg_sl ([.ref t0, .int ((nI k))]) ++ List.replicate (2 - (lg_sl ([.ref t0, .int ((nI k))])).length) Slot.unset).toArray = ls at hl ⊢
  have hl : lv_has ls 2 [(0, .ref t0), (1, .int ((nI k)))] := hl
  refine lv_aload_n hx hb d_Terms_costOf_0 rfl (lv_at hl 0 rfl) ?_
  refine va_get (D := (dC, dI)) (ci := 6) (v := .ref a0) (C := R_Terms) (T := F_Terms) (N := 4) hx hb hts i_Terms hown hK hP 0 rfl rfl 0 (by decide) (hts _ mw_fl_Terms_18) (fun _ h9 => h9) rfl d_Terms_costOf_1 ?_
  refine lv_aload_n hx hb d_Terms_costOf_4 rfl (lv_at hl 0 rfl) ?_
  refine va_get (D := (dC, dI)) (ci := 6) (v := .ref t1) (C := R_Terms) (T := F_Terms) (N := 4) hx hb hts i_Terms hown hK hP 0 rfl rfl 1 (by decide) (hts _ mw_fl_Terms_9) (fun _ h9 => h9) rfl d_Terms_costOf_5 ?_
  refine lv_iload_n hx hb d_Terms_costOf_8 rfl (lv_at hl 1 rfl) ?_
  refine va_iald hx hb hK hP 1 0 rfl rfl (vp_in_nI hk (by omega)) d_Terms_costOf_9 ?_
  refine w_ti (show _ = tp k from by rw [nI_clamp (by omega)]) ?_
  refine vp_callSi (W.runV (As := [.int ((tp k))]) (rest := []) ⟨hx, hb, hml, hown, hts⟩ (c_Products_care l dC dI cI cJ a0 a1 a2 a3 n sz care bits had (tp k) hp) (cwV 1 hts (ct_goodV mw_ml_Terms_43 mw_im_Products_care mw_se_Products_care mw_ini_Products mw_code_Products_care) rfl rfl rfl (by decide +kernel) ⟨Nat.le_of_ble_eq_true rfl, Nat.le_of_ble_eq_true rfl⟩) ⟨fun a U g mk q => by obtain ⟨q0, qP, qK⟩ := q; exact ⟨q0, qP, va_K.moved (u := U) (U := U.calling g mk a) (Vm.Alike.refl U.vm) qK⟩, va_recv hK hP (ci := 5) (q0 := 3) rfl rfl, fun U hU hW => ⟨rfl, by rw [hU]; exact (hP.sub (ws' := (wP cI a0 a1 a2 a3 n sz care bits had)) [3, 4, 5, 6] rfl), va_K.moved hW.alike hK⟩⟩ rfl rfl hl.1 rfl (lv_room (Nat.le_of_ble_eq_true rfl)) d_Terms_costOf_10 ⟨Nat.le_of_ble_eq_true rfl, Nat.le_of_ble_eq_true rfl⟩) (fun r_1 hr_1 => ?_)
  rw [hr_1]
  clear hr_1
  refine vp_callSi (W.runS (As := [.int ((care (tp k).toNatClampNeg))]) (rest := []) ⟨hx, hb, hml, hown, hts⟩ (c_JInteger_bitCount_II l dC dI cI cJ (care (tp k).toNatClampNeg) ) (va_cwS 1 hts (ct_goodT mw_ml_Terms_47 mw_st_JInteger_bitCount_II mw_ini_JInteger mw_code_JInteger_bitCount_II) rfl rfl rfl (by decide +kernel) ⟨Nat.le_of_ble_eq_true rfl, Nat.le_of_ble_eq_true rfl⟩) ⟨fun a U g mk q => by obtain ⟨q0, qP, qK⟩ := q; exact ⟨q0, qP, va_K.moved (u := U) (U := U.calling g mk a) (Vm.Alike.refl U.vm) qK⟩, fun U hU hW => ⟨rfl, by rw [hU]; exact (fun k q h => by simp at h), va_K.moved hW.alike hK⟩⟩ rfl rfl hl.1 rfl (lv_room (Nat.le_of_ble_eq_true rfl)) d_Terms_costOf_13 ⟨Nat.le_of_ble_eq_true rfl, Nat.le_of_ble_eq_true rfl⟩) (fun r_2 hr_2 => ?_)
  rw [hr_2]
  clear hr_2
  refine lv_aload_n hx hb d_Terms_costOf_16 rfl (lv_at hl 0 rfl) ?_
  refine va_get (D := (dC, dI)) (ci := 6) (v := .ref t2) (C := R_Terms) (T := F_Terms) (N := 4) hx hb hts i_Terms hown hK hP 0 rfl rfl 2 (by decide) (hts _ mw_fl_Terms_15) (fun _ h9 => h9) rfl d_Terms_costOf_17 ?_
  refine lv_iload_n hx hb d_Terms_costOf_20 rfl (lv_at hl 1 rfl) ?_
  refine va_iald hx hb hK hP 2 0 rfl rfl (vp_in_nI hk (by omega)) d_Terms_costOf_21 ?_
  refine w_ti (show _ = to k from by rw [nI_clamp (by omega)]) ?_
  refine vp_callSi (W.runS (As := [.int ((to k))]) (rest := [.int ((bcI (care (tp k).toNatClampNeg)))]) ⟨hx, hb, hml, hown, hts⟩ (c_JInteger_bitCount_II l dC dI cI cJ (to k) ) (va_cwS 1 hts (ct_goodT mw_ml_Terms_47 mw_st_JInteger_bitCount_II mw_ini_JInteger mw_code_JInteger_bitCount_II) rfl rfl rfl (by decide +kernel) ⟨Nat.le_of_ble_eq_true rfl, Nat.le_of_ble_eq_true rfl⟩) ⟨fun a U g mk q => by obtain ⟨q0, qP, qK⟩ := q; exact ⟨q0, qP, va_K.moved (u := U) (U := U.calling g mk a) (Vm.Alike.refl U.vm) qK⟩, fun U hU hW => ⟨rfl, by rw [hU]; exact (fun k q h => by simp at h), va_K.moved hW.alike hK⟩⟩ rfl rfl hl.1 rfl (lv_room (Nat.le_of_ble_eq_true rfl)) d_Terms_costOf_22 ⟨Nat.le_of_ble_eq_true rfl, Nat.le_of_ble_eq_true rfl⟩) (fun r_3 hr_3 => ?_)
  rw [hr_3]
  clear hr_3
  refine lv_iadd hx hb d_Terms_costOf_25 ?_
  exact W.iret (v := ((bcI (care (tp k).toNatClampNeg)) + (bcI (to k)))) hx hb hr (fun t ht hW => ⟨_, rfl, rfl, ht⟩) (fun q h => by cases h) d_Terms_costOf_26
set_option maxHeartbeats 4000000 in
set_option maxRecDepth 100000 in
theorem c_Terms_hadFor (l : Launch) (dC : Nat → ClassId) (dI : Nat → Nat → Nat) (cI cJ : ClassId) (t0 : Nat) (t1 : Nat) (t2 : Nat) (K : Nat) (tp : Nat → Int32) (to : Nat → Int32) (a0 : Nat) (a1 : Nat) (a2 : Nat) (a3 : Nat) (n : Int32) (sz : Int32) (care : Nat → Int32) (bits : Nat → Int32) (had : Nat → Int32) (k : Nat) (ot : Int32) (hk : k < 81) (hp : vp_in (tp k) 81) : Met l y_Terms_hadFor (ct y_Terms_hadFor b_Terms_hadFor 3 (some .int)) ({ frames := 1, cells := 0, slots := 0, locals := 21 }) (va_Pc [.ref t0, .int ((nI k)), .int ot] (fun U => va_P (dC, dI) classes (wT cI t0 t1 t2 a0 K tp to ++ wP cI a0 a1 a2 a3 n sz care bits had) U.heap ∧ va_K (dC, dI) classes [(cI, .int), (cJ, .long)] U)) (vp_Si (fun r => r = fHad tp to had k ot)) 0 0 (fun _ => False) := by
  refine Met.ofW (cc := b_Terms_hadFor) (maxL := 3) (ret := some .int) (by decide) rfl ?_
  intro p e s m args below meth c s₁ B hml hv
  obtain ⟨rfl, hP, hK⟩ := hv
  have hx := B.exec
  have hb := B.bytes
  have hr := B.returns
  have hts : ∀ w ∈ lwg, w.before _ s = true := fun w h => atoms_spec (ws := ct y_Terms_hadFor b_Terms_hadFor 3 (some .int)) B.pre w (List.mem_cons_of_mem _ h)
  have hown : s.vm.findClass R_Terms = some m.cls := findClass_of_methodNamed B.named
  have hlocks := B.notSynchronized
  have hl := lv_entry ([.ref t0, .int ((nI k)), .int ot]) (n := 3) (Nat.le_of_ble_eq_true rfl)
  rw [lg_entry_eq]
  generalize (lg_sl ([.ref t0, .int ((nI k)), .int ot]) ++ List.replicate (3 - (lg_sl ([.ref t0, .int ((nI k)), .int ot])).length) Slot.unset).toArray = ls at hl ⊢
  have hl : lv_has ls 3 [(0, .ref t0), (1, .int ((nI k))), (2, .int ot)] := hl
  refine lv_aload_n hx hb d_Terms_hadFor_0 rfl (lv_at hl 0 rfl) ?_
  refine va_get (D := (dC, dI)) (ci := 6) (v := .ref t2) (C := R_Terms) (T := F_Terms) (N := 4) hx hb hts i_Terms hown hK hP 0 rfl rfl 2 (by decide) (hts _ mw_fl_Terms_15) (fun _ h9 => h9) rfl d_Terms_hadFor_1 ?_
  refine lv_iload_n hx hb d_Terms_hadFor_4 rfl (lv_at hl 1 rfl) ?_
  refine va_iald hx hb hK hP 2 0 rfl rfl (vp_in_nI hk (by omega)) d_Terms_hadFor_5 ?_
  refine w_ti (show _ = to k from by rw [nI_clamp (by omega)]) ?_
  refine lv_iload_n hx hb d_Terms_hadFor_6 rfl (lv_at hl 2 rfl) ?_
  refine lv_ishr hx hb d_Terms_hadFor_7 ?_
  refine lv_iconst (v := 1) hx hb d_Terms_hadFor_8 (by decide) ?_
  refine lv_iand hx hb d_Terms_hadFor_9 ?_
  refine lv_iconst (v := 1) hx hb d_Terms_hadFor_10 (by decide) ?_
  refine lv_icmp_ne (tgt := 30) hx hb d_Terms_hadFor_11 (by decide) (fun c_11 => ?_) (fun c_11 => ?_)
  · refine lv_iconst (v := 0) hx hb d_Terms_hadFor_30 (by decide) ?_
    exact W.iret (v := 0) hx hb hr (fun t ht hW => ⟨_, rfl, by simp [fHad, c_11], ht⟩) (fun q h => by cases h) d_Terms_hadFor_31
  · refine lv_aload_n hx hb d_Terms_hadFor_14 rfl (lv_at hl 0 rfl) ?_
    refine va_get (D := (dC, dI)) (ci := 6) (v := .ref a0) (C := R_Terms) (T := F_Terms) (N := 4) hx hb hts i_Terms hown hK hP 0 rfl rfl 0 (by decide) (hts _ mw_fl_Terms_18) (fun _ h9 => h9) rfl d_Terms_hadFor_15 ?_
    refine lv_aload_n hx hb d_Terms_hadFor_18 rfl (lv_at hl 0 rfl) ?_
    refine va_get (D := (dC, dI)) (ci := 6) (v := .ref t1) (C := R_Terms) (T := F_Terms) (N := 4) hx hb hts i_Terms hown hK hP 0 rfl rfl 1 (by decide) (hts _ mw_fl_Terms_9) (fun _ h9 => h9) rfl d_Terms_hadFor_19 ?_
    refine lv_iload_n hx hb d_Terms_hadFor_22 rfl (lv_at hl 1 rfl) ?_
    refine va_iald hx hb hK hP 1 0 rfl rfl (vp_in_nI hk (by omega)) d_Terms_hadFor_23 ?_
    refine w_ti (show _ = tp k from by rw [nI_clamp (by omega)]) ?_
    refine vp_callSi (W.runV (As := [.int ((tp k))]) (rest := []) ⟨hx, hb, hml, hown, hts⟩ (c_Products_had l dC dI cI cJ a0 a1 a2 a3 n sz care bits had (tp k) hp) (cwV 1 hts (ct_goodV mw_ml_Terms_52 mw_im_Products_had mw_se_Products_had mw_ini_Products mw_code_Products_had) rfl rfl rfl (by decide +kernel) ⟨Nat.le_of_ble_eq_true rfl, Nat.le_of_ble_eq_true rfl⟩) ⟨fun a U g mk q => by obtain ⟨q0, qP, qK⟩ := q; exact ⟨q0, qP, va_K.moved (u := U) (U := U.calling g mk a) (Vm.Alike.refl U.vm) qK⟩, va_recv hK hP (ci := 5) (q0 := 3) rfl rfl, fun U hU hW => ⟨rfl, by rw [hU]; exact (hP.sub (ws' := (wP cI a0 a1 a2 a3 n sz care bits had)) [3, 4, 5, 6] rfl), va_K.moved hW.alike hK⟩⟩ rfl rfl hl.1 rfl (lv_room (Nat.le_of_ble_eq_true rfl)) d_Terms_hadFor_24 ⟨Nat.le_of_ble_eq_true rfl, Nat.le_of_ble_eq_true rfl⟩) (fun r_1 hr_1 => ?_)
    rw [hr_1]
    clear hr_1
    refine lv_goto (tgt := 31) hx hb d_Terms_hadFor_27 (by decide) ?_
    exact W.iret (v := (had (tp k).toNatClampNeg)) hx hb hr (fun t ht hW => ⟨_, rfl, by simp [fHad, c_11], ht⟩) (fun q h => by cases h) d_Terms_hadFor_31
set_option maxHeartbeats 4000000 in
set_option maxRecDepth 100000 in
theorem lp_Terms_hadByAllFor {p : Program} {e : Env} {s : State} {m : MethodId} {args : Array Value} {below : List Frame} {meth : Method} {c : Code} (l : Launch) (dC : Nat → ClassId) (dI : Nat → Nat → Nat) (cI cJ : ClassId) (t0 : Nat) (t1 : Nat) (t2 : Nat) (K : Nat) (tp : Nat → Int32) (to : Nat → Int32) (a0 : Nat) (a1 : Nat) (a2 : Nat) (a3 : Nat) (n : Int32) (sz : Int32) (care : Nat → Int32) (bits : Nat → Int32) (had : Nat → Int32) (ot : Int32) (hK1 : K ≤ 81) (hp : ∀ k, k < K → vp_in (tp k) 81) (hx : p.tables.exec = Jvm.exec) (hb : c.code = b_Terms_hadByAllFor) (hr : meth.sig.returnType = some .int) (hts : ∀ w ∈ lwg, w.before args s = true) (hown : s.vm.findClass R_Terms = some m.cls) (hlocks : meth.locks = false) (hml : c.maxLocals = 4) (hP : va_P (dC, dI) classes (wT cI t0 t1 t2 a0 K tp to ++ wP cI a0 a1 a2 a3 n sz care bits had) s.heap) (hK : va_K (dC, dI) classes [(cI, .int), (cJ, .long)] s) : ∀ (k i : Nat), K - i < k → i ≤ K → ∀ ls : Array Slot, lv_has ls 4 [(0, .ref t0), (1, .int ot), (2, .int ((itr (fun k acc => acc ||| fHad tp to had k ot) i 0))), (3, .int ((nI i)))] → W p l e ({ frames := 2, cells := 0, slots := 0, locals := 43 } : Room) s m args below meth c s.heap [] 0 0 (MQ below (vp_Si (fun r => r = fHadAll tp to had K ot)) args s 0 0 (fun _ => False)) (F0 m 4 ls []) := by
  intro k
  induction k with
  | zero => intro i h; omega
  | succ k ih =>
    intro i hk hi ls hl
    refine lv_iload_n hx hb d_Terms_hadByAllFor_4 rfl (lv_at hl 3 rfl) ?_
    refine lv_aload_n hx hb d_Terms_hadByAllFor_5 rfl (lv_at hl 0 rfl) ?_
    refine va_get (D := (dC, dI)) (ci := 6) (v := .int ((nI K))) (C := R_Terms) (T := F_Terms) (N := 4) hx hb hts i_Terms hown hK hP 0 rfl rfl 3 (by decide) (hts _ mw_fl_Terms_22) (fun _ h9 => h9) rfl d_Terms_hadByAllFor_6 ?_
    refine lv_icmp_ge (tgt := 27) hx hb d_Terms_hadByAllFor_9 (by decide) (fun c_9 => ?_) (fun c_9 => ?_)
    · have hE : i = K := Nat.le_antisymm hi ((nI_leI (by omega) (by omega)).mp c_9)
      subst hE
      refine lv_iload_n hx hb d_Terms_hadByAllFor_27 rfl (lv_at hl 2 rfl) ?_
      exact W.iret (v := (itr (fun k acc => acc ||| fHad tp to had k ot) i 0)) hx hb hr (fun t ht hW => ⟨_, rfl, rfl, ht⟩) (fun q h => by cases h) d_Terms_hadByAllFor_28
    · have hlt : i < K := Nat.lt_of_not_le (fun h => c_9 ((nI_leI (by omega) (by omega)).mpr h))
      refine lv_iload_n hx hb d_Terms_hadByAllFor_12 rfl (lv_at hl 2 rfl) ?_
      refine lv_aload_n hx hb d_Terms_hadByAllFor_13 rfl (lv_at hl 0 rfl) ?_
      refine lv_iload_n hx hb d_Terms_hadByAllFor_14 rfl (lv_at hl 3 rfl) ?_
      refine lv_iload_n hx hb d_Terms_hadByAllFor_15 rfl (lv_at hl 1 rfl) ?_
      refine vp_callSi (W.runV (As := [.int ((nI i)), .int ot]) (rest := [.int ((itr (fun k acc => acc ||| fHad tp to had k ot) i 0))]) ⟨hx, hb, hml, hown, hts⟩ (c_Terms_hadFor l dC dI cI cJ t0 t1 t2 K tp to a0 a1 a2 a3 n sz care bits had i ot (by omega) (hp i hlt)) (cwV 2 hts (ct_goodV mw_ml_Terms_55 mw_im_Terms_hadFor mw_se_Terms_hadFor mw_ini_Terms mw_code_Terms_hadFor) rfl rfl rfl (by decide +kernel) ⟨Nat.le_of_ble_eq_true rfl, Nat.le_of_ble_eq_true rfl⟩) ⟨fun a U g mk q => by obtain ⟨q0, qP, qK⟩ := q; exact ⟨q0, qP, va_K.moved (u := U) (U := U.calling g mk a) (Vm.Alike.refl U.vm) qK⟩, va_recv hK hP (ci := 6) (q0 := 0) rfl rfl, fun U hU hW => ⟨rfl, by rw [hU]; exact hP, va_K.moved hW.alike hK⟩⟩ rfl rfl hl.1 rfl (lv_room (Nat.le_of_ble_eq_true rfl)) d_Terms_hadByAllFor_16 ⟨Nat.le_of_ble_eq_true rfl, Nat.le_of_ble_eq_true rfl⟩) (fun r_1 hr_1 => ?_)
      rw [hr_1]
      clear hr_1
      refine lv_ior hx hb d_Terms_hadByAllFor_19 ?_
      refine lv_istore_n (lv' := [(2, .int (((itr (fun k acc => acc ||| fHad tp to had k ot) i 0) ||| (fHad tp to had i ot)))), (0, .ref t0), (1, .int ot), (3, .int ((nI i)))]) hx hb d_Terms_hadByAllFor_20 rfl hl (by decide) rfl (fun ls hl => ?_)
      refine lv_iinc (v := (nI (i + 1))) (lv' := [(3, .int ((nI (i + 1)))), (2, .int (((itr (fun k acc => acc ||| fHad tp to had k ot) i 0) ||| (fHad tp to had i ot)))), (0, .ref t0), (1, .int ot)]) hx hb d_Terms_hadByAllFor_21 hl (k := 3) rfl (show nI i + 1 = nI (i + 1) from nI_1 i) (by decide) rfl (fun ls hl => ?_)
      refine lv_goto (tgt := 4) hx hb d_Terms_hadByAllFor_24 (by decide) ?_
      exact ih (i + 1) (by omega) (by omega) ls (lv_sub hl [2, 3, 1, 0] rfl)
set_option maxHeartbeats 4000000 in
set_option maxRecDepth 100000 in
theorem c_Terms_hadByAllFor (l : Launch) (dC : Nat → ClassId) (dI : Nat → Nat → Nat) (cI cJ : ClassId) (t0 : Nat) (t1 : Nat) (t2 : Nat) (K : Nat) (tp : Nat → Int32) (to : Nat → Int32) (a0 : Nat) (a1 : Nat) (a2 : Nat) (a3 : Nat) (n : Int32) (sz : Int32) (care : Nat → Int32) (bits : Nat → Int32) (had : Nat → Int32) (ot : Int32) (hK1 : K ≤ 81) (hp : ∀ k, k < K → vp_in (tp k) 81) : Met l y_Terms_hadByAllFor (ct y_Terms_hadByAllFor b_Terms_hadByAllFor 4 (some .int)) ({ frames := 2, cells := 0, slots := 0, locals := 43 }) (va_Pc [.ref t0, .int ot] (fun U => va_P (dC, dI) classes (wT cI t0 t1 t2 a0 K tp to ++ wP cI a0 a1 a2 a3 n sz care bits had) U.heap ∧ va_K (dC, dI) classes [(cI, .int), (cJ, .long)] U)) (vp_Si (fun r => r = fHadAll tp to had K ot)) 0 0 (fun _ => False) := by
  refine Met.ofW (cc := b_Terms_hadByAllFor) (maxL := 4) (ret := some .int) (by decide) rfl ?_
  intro p e s m args below meth c s₁ B hml hv
  obtain ⟨rfl, hP, hK⟩ := hv
  have hx := B.exec
  have hb := B.bytes
  have hr := B.returns
  have hts : ∀ w ∈ lwg, w.before _ s = true := fun w h => atoms_spec (ws := ct y_Terms_hadByAllFor b_Terms_hadByAllFor 4 (some .int)) B.pre w (List.mem_cons_of_mem _ h)
  have hown : s.vm.findClass R_Terms = some m.cls := findClass_of_methodNamed B.named
  have hlocks := B.notSynchronized
  have hl := lv_entry ([.ref t0, .int ot]) (n := 4) (Nat.le_of_ble_eq_true rfl)
  rw [lg_entry_eq]
  generalize (lg_sl ([.ref t0, .int ot]) ++ List.replicate (4 - (lg_sl ([.ref t0, .int ot])).length) Slot.unset).toArray = ls at hl ⊢
  have hl : lv_has ls 4 [(0, .ref t0), (1, .int ot)] := hl
  refine lv_iconst (v := 0) hx hb d_Terms_hadByAllFor_0 (by decide) ?_
  refine lv_istore_n (lv' := [(2, .int 0), (0, .ref t0), (1, .int ot)]) hx hb d_Terms_hadByAllFor_1 rfl hl (by decide) rfl (fun ls hl => ?_)
  refine lv_iconst (v := 0) hx hb d_Terms_hadByAllFor_2 (by decide) ?_
  refine lv_istore_n (lv' := [(3, .int 0), (2, .int 0), (0, .ref t0), (1, .int ot)]) hx hb d_Terms_hadByAllFor_3 rfl hl (by decide) rfl (fun ls hl => ?_)
  exact lp_Terms_hadByAllFor l dC dI cI cJ t0 t1 t2 K tp to a0 a1 a2 a3 n sz care bits had ot hK1 hp hx hb hr hts hown hlocks hml hP hK (K + 1) 0 (by omega) (Nat.zero_le _) ls (lv_sub hl [2, 3, 1, 0] rfl)
