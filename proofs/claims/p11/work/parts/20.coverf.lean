/-! ===== CoverFinder: reading, first part ===== -/
def fIn (set : Int64) (k : Int32) : Int32 := if lg_cmp ((set >>> (k.toInt64 &&& 63)) &&& 1) 1 = 0 then 1 else 0
def fWgh (c : Int32) (k : Nat) : Int64 := ((72057594037927936 : Int64) + (c.toInt64 <<< ((48 : Int32).toInt64 &&& 63))) - ((1 : Int64) <<< (((47 : Int32) - nI k).toInt64 &&& 63))
def fWOf (wts : Nat → Int64) (set : Int64) (k : Nat) : Int64 := itr (fun k acc => if fIn set (nI k) = 0 then acc else acc + wts k) k 0
def fHav (pts : Nat → Int32) (pt : Int32) (k : Nat) : Int64 := itr (fun k acc => if (pts k >>> (pt &&& 31)) &&& 1 = 1 then acc ||| (1 <<< ((nI k).toInt64 &&& 63)) else acc) k 0
def fCov (pts : Nat → Int32) (set : Int64) (k : Nat) : Int32 := itr (fun k acc => if fIn set (nI k) = 0 then acc else acc ||| pts k) k 0
/-- the open point with the fewest usable primes: it, and how many -/
def fRar (hav : Nat → Int64) (op : Int32) (us : Int64) (e : Nat) : Int32 × Int32 := itr (fun e x => if (op >>> (nI e &&& 31)) &&& 1 = 1 then (if x.2 ≤ bcL (hav e &&& us) then x else (nI e, bcL (hav e &&& us))) else x) e (0, 65)
set_option maxHeartbeats 1000000 in
set_option maxRecDepth 100000 in
theorem c_CoverFinder_isIn (l : Launch) (dC : Nat → ClassId) (dI : Nat → Nat → Nat) (cI cJ : ClassId) (set : Int64) (k0 : Int32) : Met l y_CoverFinder_isIn (ct y_CoverFinder_isIn b_CoverFinder_isIn 3 (some .boolean)) ({ frames := 0, cells := 0, slots := 0, locals := 0 }) (va_Pc [.long set, .int k0] (fun U => va_P (dC, dI) classes [] U.heap ∧ va_K (dC, dI) classes [(cI, .int), (cJ, .long)] U)) (vp_Si (fun r => r = fIn set k0)) 0 0 (fun _ => False) := by
  refine Met.ofW (cc := b_CoverFinder_isIn) (maxL := 3) (ret := some .boolean) (by decide) rfl ?_
  intro p e s m args below meth c s₁ B hml hv
  obtain ⟨rfl, hP, hK⟩ := hv
  have hx := B.exec
  have hb := B.bytes
  have hr := B.returns
  have hts : ∀ w ∈ lwg, w.before _ s = true := fun w h => atoms_spec (ws := ct y_CoverFinder_isIn b_CoverFinder_isIn 3 (some .boolean)) B.pre w (List.mem_cons_of_mem _ h)
  have hown : s.vm.findClass R_CoverFinder = some m.cls := findClass_of_methodNamed B.named
  have hlocks := B.notSynchronized
  have hl := lv_entry ([.long set, .int k0]) (n := 3) (Nat.le_of_ble_eq_true rfl)
  rw [lg_entry_eq]
  generalize (lg_sl ([.long set, .int k0]) ++ List.replicate (3 - (lg_sl ([.long set, .int k0])).length) Slot.unset).toArray = ls at hl ⊢
  have hl : lv_has ls 3 [(0, .long set), (2, .int k0)] := hl
  refine lv_lload_n hx hb d_CoverFinder_isIn_0 rfl (lv_at hl 0 rfl) ?_
  refine lv_iload_n hx hb d_CoverFinder_isIn_1 rfl (lv_at hl 1 rfl) ?_
  refine lv_lshr hx hb d_CoverFinder_isIn_2 rfl ?_
  refine lv_lconst (v := 1) hx hb d_CoverFinder_isIn_3 (by decide) ?_
  refine lv_land hx hb d_CoverFinder_isIn_4 ?_
  refine lv_lconst (v := 1) hx hb d_CoverFinder_isIn_5 (by decide) ?_
  refine W.lcmp hx hb d_CoverFinder_isIn_6 ?_
  refine lv_if_ne (tgt := 14) hx hb d_CoverFinder_isIn_7 (by decide) (fun c_7 => ?_) (fun c_7 => ?_)
  · refine lv_iconst (v := 0) hx hb d_CoverFinder_isIn_14 (by decide) ?_
    exact W.zret (v := 0) hx hb hr (by decide) (fun t ht hW => ⟨_, rfl, by simp only [fIn, c_7, if_true, if_false], ht⟩) (fun q h => by cases h) d_CoverFinder_isIn_15
  · refine lv_iconst (v := 1) hx hb d_CoverFinder_isIn_10 (by decide) ?_
    refine lv_goto (tgt := 15) hx hb d_CoverFinder_isIn_11 (by decide) ?_
    exact W.zret (v := 1) hx hb hr (by decide) (fun t ht hW => ⟨_, rfl, by simp only [fIn, c_7, if_true, if_false], ht⟩) (fun q h => by cases h) d_CoverFinder_isIn_15
set_option maxHeartbeats 1000000 in
set_option maxRecDepth 100000 in
theorem c_CoverFinder_found (l : Launch) (dC : Nat → ClassId) (dI : Nat → Nat → Nat) (cI cJ : ClassId) (g0 : Nat) (g1 : Nat) (g2 : Nat) (g3 : Nat) (g4 : Nat) (g5 : Nat) (ou : Int32) (K : Nat) (ap : Int32) (fd : Int64) (fw : Int64) (pts : Nat → Int32) (cst : Nat → Int32) (wts : Nat → Int64) (hav : Nat → Int64) (pck : Nat → Int32) : Met l y_CoverFinder_found (ct y_CoverFinder_found b_CoverFinder_found 1 (some .long)) ({ frames := 0, cells := 0, slots := 0, locals := 0 }) (va_Pc [.ref g0] (fun U => va_P (dC, dI) classes [(g0, .inr (0, [.int ou, .ref g1, .ref g2, .ref g3, .ref g4, .ref g5, .int ((nI K)), .int ap, .long fd, .long fw])), (g1, .inl (cI, 81, .inl pts)), (g2, .inl (cI, 81, .inl cst)), (g3, .inl (cJ, 81, .inr (.inl wts))), (g4, .inl (cJ, 32, .inr (.inl hav))), (g5, .inl (cI, 32, .inl pck))] U.heap ∧ va_K (dC, dI) classes [(cI, .int), (cJ, .long)] U)) (vp_Sl (fun r => r = fd)) 0 0 (fun _ => False) := by
  refine Met.ofW (cc := b_CoverFinder_found) (maxL := 1) (ret := some .long) (by decide) rfl ?_
  intro p e s m args below meth c s₁ B hml hv
  obtain ⟨rfl, hP, hK⟩ := hv
  have hx := B.exec
  have hb := B.bytes
  have hr := B.returns
  have hts : ∀ w ∈ lwg, w.before _ s = true := fun w h => atoms_spec (ws := ct y_CoverFinder_found b_CoverFinder_found 1 (some .long)) B.pre w (List.mem_cons_of_mem _ h)
  have hown : s.vm.findClass R_CoverFinder = some m.cls := findClass_of_methodNamed B.named
  have hlocks := B.notSynchronized
  have hl := lv_entry ([.ref g0]) (n := 1) (Nat.le_of_ble_eq_true rfl)
  rw [lg_entry_eq]
  generalize (lg_sl ([.ref g0]) ++ List.replicate (1 - (lg_sl ([.ref g0])).length) Slot.unset).toArray = ls at hl ⊢
  have hl : lv_has ls 1 [(0, .ref g0)] := hl
  refine lv_aload_n hx hb d_CoverFinder_found_0 rfl (lv_at hl 0 rfl) ?_
  refine va_get (D := (dC, dI)) (ci := 0) (v := .long fd) (C := R_CoverFinder) (T := F_CoverFinder) (N := 10) hx hb hts i_CoverFinder hown hK hP 0 rfl rfl 8 (by decide) (hts _ mw_fl_CoverFinder_32) (fun _ h9 => h9) rfl d_CoverFinder_found_1 ?_
  exact W.lret (v := fd) hx hb hr (fun t ht hW => ⟨_, rfl, rfl, ht⟩) (fun q h => by cases h) d_CoverFinder_found_4
set_option maxHeartbeats 1000000 in
set_option maxRecDepth 100000 in
theorem c_CoverFinder_weigh (l : Launch) (dC : Nat → ClassId) (dI : Nat → Nat → Nat) (cI cJ : ClassId) (g0 : Nat) (g1 : Nat) (g2 : Nat) (g3 : Nat) (g4 : Nat) (g5 : Nat) (ou : Int32) (K : Nat) (ap : Int32) (fd : Int64) (fw : Int64) (pts : Nat → Int32) (cst : Nat → Int32) (wts : Nat → Int64) (hav : Nat → Int64) (pck : Nat → Int32) (k : Nat) (hk : k < 81) : Met l y_CoverFinder_weigh (ct y_CoverFinder_weigh b_CoverFinder_weigh 2 (some .long)) ({ frames := 0, cells := 0, slots := 0, locals := 0 }) (va_Pc [.ref g0, .int ((nI k))] (fun U => va_P (dC, dI) classes [(g0, .inr (0, [.int ou, .ref g1, .ref g2, .ref g3, .ref g4, .ref g5, .int ((nI K)), .int ap, .long fd, .long fw])), (g1, .inl (cI, 81, .inl pts)), (g2, .inl (cI, 81, .inl cst)), (g3, .inl (cJ, 81, .inr (.inl wts))), (g4, .inl (cJ, 32, .inr (.inl hav))), (g5, .inl (cI, 32, .inl pck))] U.heap ∧ va_K (dC, dI) classes [(cI, .int), (cJ, .long)] U)) (vp_Sl (fun r => r = fWgh (cst k) k)) 0 0 (fun _ => False) := by
  refine Met.ofW (cc := b_CoverFinder_weigh) (maxL := 2) (ret := some .long) (by decide) rfl ?_
  intro p e s m args below meth c s₁ B hml hv
  obtain ⟨rfl, hP, hK⟩ := hv
  have hx := B.exec
  have hb := B.bytes
  have hr := B.returns
  have hts : ∀ w ∈ lwg, w.before _ s = true := fun w h => atoms_spec (ws := ct y_CoverFinder_weigh b_CoverFinder_weigh 2 (some .long)) B.pre w (List.mem_cons_of_mem _ h)
  have hown : s.vm.findClass R_CoverFinder = some m.cls := findClass_of_methodNamed B.named
  have hlocks := B.notSynchronized
  have hl := lv_entry ([.ref g0, .int ((nI k))]) (n := 2) (Nat.le_of_ble_eq_true rfl)
  rw [lg_entry_eq]
  generalize (lg_sl ([.ref g0, .int ((nI k))]) ++ List.replicate (2 - (lg_sl ([.ref g0, .int ((nI k))])).length) Slot.unset).toArray = ls at hl ⊢
  have hl : lv_has ls 2 [(0, .ref g0), (1, .int ((nI k)))] := hl
  refine lv_ldc2 (v := 72057594037927936) hx hb hown (hts _ mw_co_CoverFinder_90) d_CoverFinder_weigh_0 ?_
  refine lv_aload_n hx hb d_CoverFinder_weigh_3 rfl (lv_at hl 0 rfl) ?_
  refine va_get (D := (dC, dI)) (ci := 0) (v := .ref g2) (C := R_CoverFinder) (T := F_CoverFinder) (N := 10) hx hb hts i_CoverFinder hown hK hP 0 rfl rfl 2 (by decide) (hts _ mw_fl_CoverFinder_15) (fun _ h9 => h9) rfl d_CoverFinder_weigh_4 ?_
  refine lv_iload_n hx hb d_CoverFinder_weigh_7 rfl (lv_at hl 1 rfl) ?_
  refine va_iald hx hb hK hP 2 0 rfl rfl (vp_in_nI hk (by omega)) d_CoverFinder_weigh_8 ?_
  refine w_ti (show _ = cst k from by rw [nI_clamp (by omega)]) ?_
  refine lv_i2l hx hb d_CoverFinder_weigh_9 rfl ?_
  refine lv_bipush (v := 48) hx hb d_CoverFinder_weigh_10 (by decide) ?_
  refine lv_lshl hx hb d_CoverFinder_weigh_12 rfl ?_
  refine lv_ladd hx hb d_CoverFinder_weigh_13 ?_
  refine lv_lconst (v := 1) hx hb d_CoverFinder_weigh_14 (by decide) ?_
  refine lv_bipush (v := 47) hx hb d_CoverFinder_weigh_15 (by decide) ?_
  refine lv_iload_n hx hb d_CoverFinder_weigh_17 rfl (lv_at hl 1 rfl) ?_
  refine lv_isub hx hb d_CoverFinder_weigh_18 ?_
  refine lv_lshl hx hb d_CoverFinder_weigh_19 rfl ?_
  refine lv_lsub hx hb d_CoverFinder_weigh_20 ?_
  exact W.lret (v := (((72057594037927936 : Int64) + ((cst k).toInt64 <<< ((48 : Int32).toInt64 &&& 63))) - ((1 : Int64) <<< ((47 - (nI k)).toInt64 &&& 63)))) hx hb hr (fun t ht hW => ⟨_, rfl, rfl, ht⟩) (fun q h => by cases h) d_CoverFinder_weigh_21
set_option maxHeartbeats 1000000 in
set_option maxRecDepth 100000 in
theorem lp_CoverFinder_weightOf {p : Program} {e : Env} {s : State} {m : MethodId} {args : Array Value} {below : List Frame} {meth : Method} {c : Code} (l : Launch) (dC : Nat → ClassId) (dI : Nat → Nat → Nat) (cI cJ : ClassId) (g0 : Nat) (g1 : Nat) (g2 : Nat) (g3 : Nat) (g4 : Nat) (g5 : Nat) (ou : Int32) (K : Nat) (ap : Int32) (fd : Int64) (fw : Int64) (pts : Nat → Int32) (cst : Nat → Int32) (wts : Nat → Int64) (hav : Nat → Int64) (pck : Nat → Int32) (set : Int64) (hK1 : K ≤ 81) (hx : p.tables.exec = Jvm.exec) (hb : c.code = b_CoverFinder_weightOf) (hr : meth.sig.returnType = some .long) (hts : ∀ w ∈ lwg, w.before args s = true) (hown : s.vm.findClass R_CoverFinder = some m.cls) (hlocks : meth.locks = false) (hml : c.maxLocals = 6) (hP : va_P (dC, dI) classes [(g0, .inr (0, [.int ou, .ref g1, .ref g2, .ref g3, .ref g4, .ref g5, .int ((nI K)), .int ap, .long fd, .long fw])), (g1, .inl (cI, 81, .inl pts)), (g2, .inl (cI, 81, .inl cst)), (g3, .inl (cJ, 81, .inr (.inl wts))), (g4, .inl (cJ, 32, .inr (.inl hav))), (g5, .inl (cI, 32, .inl pck))] s.heap) (hK : va_K (dC, dI) classes [(cI, .int), (cJ, .long)] s) : ∀ (k i : Nat), K - i < k → i ≤ K → ∀ ls : Array Slot, lv_has ls 6 [(0, .ref g0), (1, .long set), (3, .long ((fWOf wts set i))), (5, .int ((nI i)))] → W p l e ({ frames := 1, cells := 0, slots := 0, locals := 22 } : Room) s m args below meth c s.heap [] 0 0 (MQ below (vp_Sl (fun r => r = fWOf wts set K)) args s 0 0 (fun _ => False)) (F0 m 5 ls []) := by
  intro k
  induction k with
  | zero => intro i h; omega
  | succ k ih =>
    intro i hk hle ls hl
    refine lv_iload hx hb d_CoverFinder_weightOf_5 (lv_at hl 3 rfl) ?_
    refine lv_aload_n hx hb d_CoverFinder_weightOf_7 rfl (lv_at hl 0 rfl) ?_
    refine va_get (D := (dC, dI)) (ci := 0) (v := .int ((nI K))) (C := R_CoverFinder) (T := F_CoverFinder) (N := 10) hx hb hts i_CoverFinder hown hK hP 0 rfl rfl 6 (by decide) (hts _ mw_fl_CoverFinder_51) (fun _ h9 => h9) rfl d_CoverFinder_weightOf_8 ?_
    refine lv_icmp_ge (tgt := 39) hx hb d_CoverFinder_weightOf_11 (by decide) (fun c_11 => ?_) (fun c_11 => ?_)
    · have hE : i = K := Nat.le_antisymm hle ((nI_leI (by omega) (by omega)).mp c_11)
      subst hE
      refine lv_lload_n hx hb d_CoverFinder_weightOf_39 rfl (lv_at hl 2 rfl) ?_
      exact W.lret (v := (fWOf wts set i)) hx hb hr (fun t ht hW => ⟨_, rfl, rfl, ht⟩) (fun q h => by cases h) d_CoverFinder_weightOf_40
    · have hlt : i < K := Nat.lt_of_not_le (fun h => c_11 ((nI_leI (by omega) (by omega)).mpr h))
      refine lv_lload_n hx hb d_CoverFinder_weightOf_14 rfl (lv_at hl 1 rfl) ?_
      refine lv_iload hx hb d_CoverFinder_weightOf_15 (lv_at hl 3 rfl) ?_
      refine vp_callSi (W.runS (As := [.long set, .int ((nI i))]) (rest := []) ⟨hx, hb, hml, hown, hts⟩ (c_CoverFinder_isIn l dC dI cI cJ set (nI i) ) (va_cwS 2 hts (ct_goodT mw_ml_CoverFinder_92 mw_st_CoverFinder_isIn mw_ini_CoverFinder mw_code_CoverFinder_isIn) rfl rfl rfl (by decide +kernel) ⟨Nat.le_of_ble_eq_true rfl, Nat.le_of_ble_eq_true rfl⟩) ⟨fun a U g mk q => by obtain ⟨q0, qP, qK⟩ := q; exact ⟨q0, qP, va_K.moved (u := U) (U := U.calling g mk a) (Vm.Alike.refl U.vm) qK⟩, fun U hU hW => ⟨rfl, by rw [hU]; exact (fun k q h => by simp at h), va_K.moved hW.alike hK⟩⟩ rfl rfl hl.1 rfl (lv_room (Nat.le_of_ble_eq_true rfl)) d_CoverFinder_weightOf_17 ⟨Nat.le_of_ble_eq_true rfl, Nat.le_of_ble_eq_true rfl⟩) (fun r_1 hr_1 => ?_)
      rw [hr_1]
      clear hr_1
      refine lv_if_eq (tgt := 33) hx hb d_CoverFinder_weightOf_20 (by decide) (fun c_20 => ?_) (fun c_20 => ?_)
      · have hacc : fWOf wts set i = fWOf wts set (i + 1) := (if_pos c_20).symm
        rw [hacc] at hl
        refine lv_iinc (v := (nI (i + 1))) (lv' := [(5, .int ((nI (i + 1)))), (0, .ref g0), (1, .long set), (3, .long ((fWOf wts set (i + 1))))]) hx hb d_CoverFinder_weightOf_33 hl (k := 3) rfl (show nI i + 1 = nI (i + 1) from nI_1 i) (by decide) rfl (fun ls hl => ?_)
        refine lv_goto (tgt := 5) hx hb d_CoverFinder_weightOf_36 (by decide) ?_
        exact ih (i + 1) (by omega) (by omega) ls (lv_sub hl [1, 2, 3, 0] rfl)
      · refine lv_lload_n hx hb d_CoverFinder_weightOf_23 rfl (lv_at hl 2 rfl) ?_
        refine lv_aload_n hx hb d_CoverFinder_weightOf_24 rfl (lv_at hl 0 rfl) ?_
        refine va_get (D := (dC, dI)) (ci := 0) (v := .ref g3) (C := R_CoverFinder) (T := F_CoverFinder) (N := 10) hx hb hts i_CoverFinder hown hK hP 0 rfl rfl 3 (by decide) (hts _ mw_fl_CoverFinder_18) (fun _ h9 => h9) rfl d_CoverFinder_weightOf_25 ?_
        refine lv_iload hx hb d_CoverFinder_weightOf_28 (lv_at hl 3 rfl) ?_
        refine va_lald hx hb hK hP 3 1 rfl rfl (vp_in_nI (show i < 81 by omega) (by omega)) d_CoverFinder_weightOf_30 ?_
        refine w_tl (show _ = wts i from by rw [nI_clamp (by omega)]) ?_
        refine lv_ladd hx hb d_CoverFinder_weightOf_31 ?_
        refine lv_lstore_n (lv' := [(3, .long (((fWOf wts set i) + (wts i)))), (0, .ref g0), (1, .long set), (5, .int ((nI i)))]) hx hb d_CoverFinder_weightOf_32 rfl hl (by decide) rfl (fun ls hl => ?_)
        have hacc : (fWOf wts set i) + (wts i) = fWOf wts set (i + 1) := (if_neg c_20).symm
        rw [hacc] at hl
        refine lv_iinc (v := (nI (i + 1))) (lv' := [(5, .int ((nI (i + 1)))), (3, .long ((fWOf wts set (i + 1)))), (0, .ref g0), (1, .long set)]) hx hb d_CoverFinder_weightOf_33 hl (k := 3) rfl (show nI i + 1 = nI (i + 1) from nI_1 i) (by decide) rfl (fun ls hl => ?_)
        refine lv_goto (tgt := 5) hx hb d_CoverFinder_weightOf_36 (by decide) ?_
        exact ih (i + 1) (by omega) (by omega) ls (lv_sub hl [2, 3, 1, 0] rfl)
set_option maxHeartbeats 1000000 in
set_option maxRecDepth 100000 in
theorem c_CoverFinder_weightOf (l : Launch) (dC : Nat → ClassId) (dI : Nat → Nat → Nat) (cI cJ : ClassId) (g0 : Nat) (g1 : Nat) (g2 : Nat) (g3 : Nat) (g4 : Nat) (g5 : Nat) (ou : Int32) (K : Nat) (ap : Int32) (fd : Int64) (fw : Int64) (pts : Nat → Int32) (cst : Nat → Int32) (wts : Nat → Int64) (hav : Nat → Int64) (pck : Nat → Int32) (set : Int64) (hK1 : K ≤ 81) : Met l y_CoverFinder_weightOf (ct y_CoverFinder_weightOf b_CoverFinder_weightOf 6 (some .long)) ({ frames := 1, cells := 0, slots := 0, locals := 22 }) (va_Pc [.ref g0, .long set] (fun U => va_P (dC, dI) classes [(g0, .inr (0, [.int ou, .ref g1, .ref g2, .ref g3, .ref g4, .ref g5, .int ((nI K)), .int ap, .long fd, .long fw])), (g1, .inl (cI, 81, .inl pts)), (g2, .inl (cI, 81, .inl cst)), (g3, .inl (cJ, 81, .inr (.inl wts))), (g4, .inl (cJ, 32, .inr (.inl hav))), (g5, .inl (cI, 32, .inl pck))] U.heap ∧ va_K (dC, dI) classes [(cI, .int), (cJ, .long)] U)) (vp_Sl (fun r => r = fWOf wts set K)) 0 0 (fun _ => False) := by
  refine Met.ofW (cc := b_CoverFinder_weightOf) (maxL := 6) (ret := some .long) (by decide) rfl ?_
  intro p e s m args below meth c s₁ B hml hv
  obtain ⟨rfl, hP, hK⟩ := hv
  have hx := B.exec
  have hb := B.bytes
  have hr := B.returns
  have hts : ∀ w ∈ lwg, w.before _ s = true := fun w h => atoms_spec (ws := ct y_CoverFinder_weightOf b_CoverFinder_weightOf 6 (some .long)) B.pre w (List.mem_cons_of_mem _ h)
  have hown : s.vm.findClass R_CoverFinder = some m.cls := findClass_of_methodNamed B.named
  have hlocks := B.notSynchronized
  have hl := lv_entry ([.ref g0, .long set]) (n := 6) (Nat.le_of_ble_eq_true rfl)
  rw [lg_entry_eq]
  generalize (lg_sl ([.ref g0, .long set]) ++ List.replicate (6 - (lg_sl ([.ref g0, .long set])).length) Slot.unset).toArray = ls at hl ⊢
  have hl : lv_has ls 6 [(0, .ref g0), (1, .long set)] := hl
  refine lv_lconst (v := 0) hx hb d_CoverFinder_weightOf_0 (by decide) ?_
  refine lv_lstore_n (lv' := [(3, .long ((0 : Int64))), (0, .ref g0), (1, .long set)]) hx hb d_CoverFinder_weightOf_1 rfl hl (by decide) rfl (fun ls hl => ?_)
  refine lv_iconst (v := 0) hx hb d_CoverFinder_weightOf_2 (by decide) ?_
  refine lv_istore (lv' := [(5, .int 0), (3, .long ((0 : Int64))), (0, .ref g0), (1, .long set)]) hx hb d_CoverFinder_weightOf_3 hl (by decide) rfl (fun ls hl => ?_)
  exact lp_CoverFinder_weightOf l dC dI cI cJ g0 g1 g2 g3 g4 g5 ou K ap fd fw pts cst wts hav pck set hK1 hx hb hr hts hown hlocks hml hP hK (K + 1) 0 (by omega) (Nat.zero_le _) ls (lv_sub hl [2, 3, 1, 0] rfl)
set_option maxHeartbeats 1000000 in
set_option maxRecDepth 100000 in
theorem lp_CoverFinder_haversOf {p : Program} {e : Env} {s : State} {m : MethodId} {args : Array Value} {below : List Frame} {meth : Method} {c : Code} (l : Launch) (dC : Nat → ClassId) (dI : Nat → Nat → Nat) (cI cJ : ClassId) (g0 : Nat) (g1 : Nat) (g2 : Nat) (g3 : Nat) (g4 : Nat) (g5 : Nat) (ou : Int32) (K : Nat) (ap : Int32) (fd : Int64) (fw : Int64) (pts : Nat → Int32) (cst : Nat → Int32) (wts : Nat → Int64) (hav : Nat → Int64) (pck : Nat → Int32) (pt : Int32) (hK1 : K ≤ 81) (hx : p.tables.exec = Jvm.exec) (hb : c.code = b_CoverFinder_haversOf) (hr : meth.sig.returnType = some .long) (hts : ∀ w ∈ lwg, w.before args s = true) (hown : s.vm.findClass R_CoverFinder = some m.cls) (hlocks : meth.locks = false) (hml : c.maxLocals = 5) (hP : va_P (dC, dI) classes [(g0, .inr (0, [.int ou, .ref g1, .ref g2, .ref g3, .ref g4, .ref g5, .int ((nI K)), .int ap, .long fd, .long fw])), (g1, .inl (cI, 81, .inl pts)), (g2, .inl (cI, 81, .inl cst)), (g3, .inl (cJ, 81, .inr (.inl wts))), (g4, .inl (cJ, 32, .inr (.inl hav))), (g5, .inl (cI, 32, .inl pck))] s.heap) (hK : va_K (dC, dI) classes [(cI, .int), (cJ, .long)] s) : ∀ (k i : Nat), K - i < k → i ≤ K → ∀ ls : Array Slot, lv_has ls 5 [(0, .ref g0), (1, .int pt), (2, .long ((fHav pts pt i))), (4, .int ((nI i)))] → W p l e ({ frames := 0, cells := 0, slots := 0, locals := 0 } : Room) s m args below meth c s.heap [] 0 0 (MQ below (vp_Sl (fun r => r = fHav pts pt K)) args s 0 0 (fun _ => False)) (F0 m 5 ls []) := by
  intro k
  induction k with
  | zero => intro i h; omega
  | succ k ih =>
    intro i hk hle ls hl
    refine lv_iload hx hb d_CoverFinder_haversOf_5 (lv_at hl 3 rfl) ?_
    refine lv_aload_n hx hb d_CoverFinder_haversOf_7 rfl (lv_at hl 0 rfl) ?_
    refine va_get (D := (dC, dI)) (ci := 0) (v := .int ((nI K))) (C := R_CoverFinder) (T := F_CoverFinder) (N := 10) hx hb hts i_CoverFinder hown hK hP 0 rfl rfl 6 (by decide) (hts _ mw_fl_CoverFinder_51) (fun _ h9 => h9) rfl d_CoverFinder_haversOf_8 ?_
    refine lv_icmp_ge (tgt := 42) hx hb d_CoverFinder_haversOf_11 (by decide) (fun c_11 => ?_) (fun c_11 => ?_)
    · have hE : i = K := Nat.le_antisymm hle ((nI_leI (by omega) (by omega)).mp c_11)
      subst hE
      refine lv_lload_n hx hb d_CoverFinder_haversOf_42 rfl (lv_at hl 2 rfl) ?_
      exact W.lret (v := (fHav pts pt i)) hx hb hr (fun t ht hW => ⟨_, rfl, rfl, ht⟩) (fun q h => by cases h) d_CoverFinder_haversOf_43
    · have hlt : i < K := Nat.lt_of_not_le (fun h => c_11 ((nI_leI (by omega) (by omega)).mpr h))
      refine lv_aload_n hx hb d_CoverFinder_haversOf_14 rfl (lv_at hl 0 rfl) ?_
      refine va_get (D := (dC, dI)) (ci := 0) (v := .ref g1) (C := R_CoverFinder) (T := F_CoverFinder) (N := 10) hx hb hts i_CoverFinder hown hK hP 0 rfl rfl 1 (by decide) (hts _ mw_fl_CoverFinder_9) (fun _ h9 => h9) rfl d_CoverFinder_haversOf_15 ?_
      refine lv_iload hx hb d_CoverFinder_haversOf_18 (lv_at hl 3 rfl) ?_
      refine va_iald hx hb hK hP 1 0 rfl rfl (vp_in_nI (show i < 81 by omega) (by omega)) d_CoverFinder_haversOf_20 ?_
      refine w_ti (show _ = pts i from by rw [nI_clamp (by omega)]) ?_
      refine lv_iload_n hx hb d_CoverFinder_haversOf_21 rfl (lv_at hl 1 rfl) ?_
      refine lv_ishr hx hb d_CoverFinder_haversOf_22 ?_
      refine lv_iconst (v := 1) hx hb d_CoverFinder_haversOf_23 (by decide) ?_
      refine lv_iand hx hb d_CoverFinder_haversOf_24 ?_
      refine lv_iconst (v := 1) hx hb d_CoverFinder_haversOf_25 (by decide) ?_
      refine lv_icmp_ne (tgt := 36) hx hb d_CoverFinder_haversOf_26 (by decide) (fun c_26 => ?_) (fun c_26 => ?_)
      · have hacc : fHav pts pt i = fHav pts pt (i + 1) := (if_neg c_26).symm
        rw [hacc] at hl
        refine lv_iinc (v := (nI (i + 1))) (lv' := [(4, .int ((nI (i + 1)))), (0, .ref g0), (1, .int pt), (2, .long ((fHav pts pt (i + 1))))]) hx hb d_CoverFinder_haversOf_36 hl (k := 3) rfl (show nI i + 1 = nI (i + 1) from nI_1 i) (by decide) rfl (fun ls hl => ?_)
        refine lv_goto (tgt := 5) hx hb d_CoverFinder_haversOf_39 (by decide) ?_
        exact ih (i + 1) (by omega) (by omega) ls (lv_sub hl [1, 2, 3, 0] rfl)
      · refine lv_lload_n hx hb d_CoverFinder_haversOf_29 rfl (lv_at hl 2 rfl) ?_
        refine lv_lconst (v := 1) hx hb d_CoverFinder_haversOf_30 (by decide) ?_
        refine lv_iload hx hb d_CoverFinder_haversOf_31 (lv_at hl 3 rfl) ?_
        refine lv_lshl hx hb d_CoverFinder_haversOf_33 rfl ?_
        refine lv_lor hx hb d_CoverFinder_haversOf_34 ?_
        refine lv_lstore_n (lv' := [(2, .long (((fHav pts pt i) ||| ((1 : Int64) <<< ((nI i).toInt64 &&& 63))))), (0, .ref g0), (1, .int pt), (4, .int ((nI i)))]) hx hb d_CoverFinder_haversOf_35 rfl hl (by decide) rfl (fun ls hl => ?_)
        have hacc : (fHav pts pt i) ||| ((1 : Int64) <<< ((nI i).toInt64 &&& 63)) = fHav pts pt (i + 1) := (if_pos c_26).symm
        rw [hacc] at hl
        refine lv_iinc (v := (nI (i + 1))) (lv' := [(4, .int ((nI (i + 1)))), (2, .long ((fHav pts pt (i + 1)))), (0, .ref g0), (1, .int pt)]) hx hb d_CoverFinder_haversOf_36 hl (k := 3) rfl (show nI i + 1 = nI (i + 1) from nI_1 i) (by decide) rfl (fun ls hl => ?_)
        refine lv_goto (tgt := 5) hx hb d_CoverFinder_haversOf_39 (by decide) ?_
        exact ih (i + 1) (by omega) (by omega) ls (lv_sub hl [2, 3, 1, 0] rfl)
set_option maxHeartbeats 1000000 in
set_option maxRecDepth 100000 in
theorem c_CoverFinder_haversOf (l : Launch) (dC : Nat → ClassId) (dI : Nat → Nat → Nat) (cI cJ : ClassId) (g0 : Nat) (g1 : Nat) (g2 : Nat) (g3 : Nat) (g4 : Nat) (g5 : Nat) (ou : Int32) (K : Nat) (ap : Int32) (fd : Int64) (fw : Int64) (pts : Nat → Int32) (cst : Nat → Int32) (wts : Nat → Int64) (hav : Nat → Int64) (pck : Nat → Int32) (pt : Int32) (hK1 : K ≤ 81) : Met l y_CoverFinder_haversOf (ct y_CoverFinder_haversOf b_CoverFinder_haversOf 5 (some .long)) ({ frames := 0, cells := 0, slots := 0, locals := 0 }) (va_Pc [.ref g0, .int pt] (fun U => va_P (dC, dI) classes [(g0, .inr (0, [.int ou, .ref g1, .ref g2, .ref g3, .ref g4, .ref g5, .int ((nI K)), .int ap, .long fd, .long fw])), (g1, .inl (cI, 81, .inl pts)), (g2, .inl (cI, 81, .inl cst)), (g3, .inl (cJ, 81, .inr (.inl wts))), (g4, .inl (cJ, 32, .inr (.inl hav))), (g5, .inl (cI, 32, .inl pck))] U.heap ∧ va_K (dC, dI) classes [(cI, .int), (cJ, .long)] U)) (vp_Sl (fun r => r = fHav pts pt K)) 0 0 (fun _ => False) := by
  refine Met.ofW (cc := b_CoverFinder_haversOf) (maxL := 5) (ret := some .long) (by decide) rfl ?_
  intro p e s m args below meth c s₁ B hml hv
  obtain ⟨rfl, hP, hK⟩ := hv
  have hx := B.exec
  have hb := B.bytes
  have hr := B.returns
  have hts : ∀ w ∈ lwg, w.before _ s = true := fun w h => atoms_spec (ws := ct y_CoverFinder_haversOf b_CoverFinder_haversOf 5 (some .long)) B.pre w (List.mem_cons_of_mem _ h)
  have hown : s.vm.findClass R_CoverFinder = some m.cls := findClass_of_methodNamed B.named
  have hlocks := B.notSynchronized
  have hl := lv_entry ([.ref g0, .int pt]) (n := 5) (Nat.le_of_ble_eq_true rfl)
  rw [lg_entry_eq]
  generalize (lg_sl ([.ref g0, .int pt]) ++ List.replicate (5 - (lg_sl ([.ref g0, .int pt])).length) Slot.unset).toArray = ls at hl ⊢
  have hl : lv_has ls 5 [(0, .ref g0), (1, .int pt)] := hl
  refine lv_lconst (v := 0) hx hb d_CoverFinder_haversOf_0 (by decide) ?_
  refine lv_lstore_n (lv' := [(2, .long ((0 : Int64))), (0, .ref g0), (1, .int pt)]) hx hb d_CoverFinder_haversOf_1 rfl hl (by decide) rfl (fun ls hl => ?_)
  refine lv_iconst (v := 0) hx hb d_CoverFinder_haversOf_2 (by decide) ?_
  refine lv_istore (lv' := [(4, .int 0), (2, .long ((0 : Int64))), (0, .ref g0), (1, .int pt)]) hx hb d_CoverFinder_haversOf_3 hl (by decide) rfl (fun ls hl => ?_)
  exact lp_CoverFinder_haversOf l dC dI cI cJ g0 g1 g2 g3 g4 g5 ou K ap fd fw pts cst wts hav pck pt hK1 hx hb hr hts hown hlocks hml hP hK (K + 1) 0 (by omega) (Nat.zero_le _) ls (lv_sub hl [2, 3, 1, 0] rfl)
set_option maxHeartbeats 1000000 in
set_option maxRecDepth 100000 in
theorem lp_CoverFinder_isCover {p : Program} {e : Env} {s : State} {m : MethodId} {args : Array Value} {below : List Frame} {meth : Method} {c : Code} (l : Launch) (dC : Nat → ClassId) (dI : Nat → Nat → Nat) (cI cJ : ClassId) (g0 : Nat) (g1 : Nat) (g2 : Nat) (g3 : Nat) (g4 : Nat) (g5 : Nat) (ou : Int32) (K : Nat) (ap : Int32) (fd : Int64) (fw : Int64) (pts : Nat → Int32) (cst : Nat → Int32) (wts : Nat → Int64) (hav : Nat → Int64) (pck : Nat → Int32) (set : Int64) (hK1 : K ≤ 81) (hx : p.tables.exec = Jvm.exec) (hb : c.code = b_CoverFinder_isCover) (hr : meth.sig.returnType = some .boolean) (hts : ∀ w ∈ lwg, w.before args s = true) (hown : s.vm.findClass R_CoverFinder = some m.cls) (hlocks : meth.locks = false) (hml : c.maxLocals = 5) (hP : va_P (dC, dI) classes [(g0, .inr (0, [.int ou, .ref g1, .ref g2, .ref g3, .ref g4, .ref g5, .int ((nI K)), .int ap, .long fd, .long fw])), (g1, .inl (cI, 81, .inl pts)), (g2, .inl (cI, 81, .inl cst)), (g3, .inl (cJ, 81, .inr (.inl wts))), (g4, .inl (cJ, 32, .inr (.inl hav))), (g5, .inl (cI, 32, .inl pck))] s.heap) (hK : va_K (dC, dI) classes [(cI, .int), (cJ, .long)] s) : ∀ (k i : Nat), K - i < k → i ≤ K → ∀ ls : Array Slot, lv_has ls 5 [(0, .ref g0), (1, .long set), (3, .int ((fCov pts set i))), (4, .int ((nI i)))] → W p l e ({ frames := 1, cells := 0, slots := 0, locals := 22 } : Room) s m args below meth c s.heap [] 0 0 (MQ below (vp_Si (fun r => r = if fCov pts set K = ap then 1 else 0)) args s 0 0 (fun _ => False)) (F0 m 5 ls []) := by
  intro k
  induction k with
  | zero => intro i h; omega
  | succ k ih =>
    intro i hk hle ls hl
    refine lv_iload hx hb d_CoverFinder_isCover_5 (lv_at hl 3 rfl) ?_
    refine lv_aload_n hx hb d_CoverFinder_isCover_7 rfl (lv_at hl 0 rfl) ?_
    refine va_get (D := (dC, dI)) (ci := 0) (v := .int ((nI K))) (C := R_CoverFinder) (T := F_CoverFinder) (N := 10) hx hb hts i_CoverFinder hown hK hP 0 rfl rfl 6 (by decide) (hts _ mw_fl_CoverFinder_51) (fun _ h9 => h9) rfl d_CoverFinder_isCover_8 ?_
    refine lv_icmp_ge (tgt := 39) hx hb d_CoverFinder_isCover_11 (by decide) (fun c_11 => ?_) (fun c_11 => ?_)
    · have hE : i = K := Nat.le_antisymm hle ((nI_leI (by omega) (by omega)).mp c_11)
      subst hE
      refine lv_iload_n hx hb d_CoverFinder_isCover_39 rfl (lv_at hl 2 rfl) ?_
      refine lv_aload_n hx hb d_CoverFinder_isCover_40 rfl (lv_at hl 0 rfl) ?_
      refine va_get (D := (dC, dI)) (ci := 0) (v := .int ap) (C := R_CoverFinder) (T := F_CoverFinder) (N := 10) hx hb hts i_CoverFinder hown hK hP 0 rfl rfl 7 (by decide) (hts _ mw_fl_CoverFinder_58) (fun _ h9 => h9) rfl d_CoverFinder_isCover_41 ?_
      refine lv_icmp_ne (tgt := 51) hx hb d_CoverFinder_isCover_44 (by decide) (fun c_44 => ?_) (fun c_44 => ?_)
      · refine lv_iconst (v := 0) hx hb d_CoverFinder_isCover_51 (by decide) ?_
        exact W.zret (v := 0) hx hb hr (by decide) (fun t ht hW => ⟨_, rfl, by simp [c_44], ht⟩) (fun q h => by cases h) d_CoverFinder_isCover_52
      · refine lv_iconst (v := 1) hx hb d_CoverFinder_isCover_47 (by decide) ?_
        refine lv_goto (tgt := 52) hx hb d_CoverFinder_isCover_48 (by decide) ?_
        exact W.zret (v := 1) hx hb hr (by decide) (fun t ht hW => ⟨_, rfl, by simp [c_44], ht⟩) (fun q h => by cases h) d_CoverFinder_isCover_52
    · have hlt : i < K := Nat.lt_of_not_le (fun h => c_11 ((nI_leI (by omega) (by omega)).mpr h))
      refine lv_lload_n hx hb d_CoverFinder_isCover_14 rfl (lv_at hl 1 rfl) ?_
      refine lv_iload hx hb d_CoverFinder_isCover_15 (lv_at hl 3 rfl) ?_
      refine vp_callSi (W.runS (As := [.long set, .int ((nI i))]) (rest := []) ⟨hx, hb, hml, hown, hts⟩ (c_CoverFinder_isIn l dC dI cI cJ set (nI i) ) (va_cwS 2 hts (ct_goodT mw_ml_CoverFinder_92 mw_st_CoverFinder_isIn mw_ini_CoverFinder mw_code_CoverFinder_isIn) rfl rfl rfl (by decide +kernel) ⟨Nat.le_of_ble_eq_true rfl, Nat.le_of_ble_eq_true rfl⟩) ⟨fun a U g mk q => by obtain ⟨q0, qP, qK⟩ := q; exact ⟨q0, qP, va_K.moved (u := U) (U := U.calling g mk a) (Vm.Alike.refl U.vm) qK⟩, fun U hU hW => ⟨rfl, by rw [hU]; exact (fun k q h => by simp at h), va_K.moved hW.alike hK⟩⟩ rfl rfl hl.1 rfl (lv_room (Nat.le_of_ble_eq_true rfl)) d_CoverFinder_isCover_17 ⟨Nat.le_of_ble_eq_true rfl, Nat.le_of_ble_eq_true rfl⟩) (fun r_1 hr_1 => ?_)
      rw [hr_1]
      clear hr_1
      refine lv_if_eq (tgt := 33) hx hb d_CoverFinder_isCover_20 (by decide) (fun c_20 => ?_) (fun c_20 => ?_)
      · have hacc : fCov pts set i = fCov pts set (i + 1) := (if_pos c_20).symm
        rw [hacc] at hl
        refine lv_iinc (v := (nI (i + 1))) (lv' := [(4, .int ((nI (i + 1)))), (0, .ref g0), (1, .long set), (3, .int ((fCov pts set (i + 1))))]) hx hb d_CoverFinder_isCover_33 hl (k := 3) rfl (show nI i + 1 = nI (i + 1) from nI_1 i) (by decide) rfl (fun ls hl => ?_)
        refine lv_goto (tgt := 5) hx hb d_CoverFinder_isCover_36 (by decide) ?_
        exact ih (i + 1) (by omega) (by omega) ls (lv_sub hl [1, 2, 3, 0] rfl)
      · refine lv_iload_n hx hb d_CoverFinder_isCover_23 rfl (lv_at hl 2 rfl) ?_
        refine lv_aload_n hx hb d_CoverFinder_isCover_24 rfl (lv_at hl 0 rfl) ?_
        refine va_get (D := (dC, dI)) (ci := 0) (v := .ref g1) (C := R_CoverFinder) (T := F_CoverFinder) (N := 10) hx hb hts i_CoverFinder hown hK hP 0 rfl rfl 1 (by decide) (hts _ mw_fl_CoverFinder_9) (fun _ h9 => h9) rfl d_CoverFinder_isCover_25 ?_
        refine lv_iload hx hb d_CoverFinder_isCover_28 (lv_at hl 3 rfl) ?_
        refine va_iald hx hb hK hP 1 0 rfl rfl (vp_in_nI (show i < 81 by omega) (by omega)) d_CoverFinder_isCover_30 ?_
        refine w_ti (show _ = pts i from by rw [nI_clamp (by omega)]) ?_
        refine lv_ior hx hb d_CoverFinder_isCover_31 ?_
        refine lv_istore_n (lv' := [(3, .int (((fCov pts set i) ||| (pts i)))), (0, .ref g0), (1, .long set), (4, .int ((nI i)))]) hx hb d_CoverFinder_isCover_32 rfl hl (by decide) rfl (fun ls hl => ?_)
        have hacc : (fCov pts set i) ||| (pts i) = fCov pts set (i + 1) := (if_neg c_20).symm
        rw [hacc] at hl
        refine lv_iinc (v := (nI (i + 1))) (lv' := [(4, .int ((nI (i + 1)))), (3, .int ((fCov pts set (i + 1)))), (0, .ref g0), (1, .long set)]) hx hb d_CoverFinder_isCover_33 hl (k := 3) rfl (show nI i + 1 = nI (i + 1) from nI_1 i) (by decide) rfl (fun ls hl => ?_)
        refine lv_goto (tgt := 5) hx hb d_CoverFinder_isCover_36 (by decide) ?_
        exact ih (i + 1) (by omega) (by omega) ls (lv_sub hl [2, 3, 1, 0] rfl)
set_option maxHeartbeats 1000000 in
set_option maxRecDepth 100000 in
theorem c_CoverFinder_isCover (l : Launch) (dC : Nat → ClassId) (dI : Nat → Nat → Nat) (cI cJ : ClassId) (g0 : Nat) (g1 : Nat) (g2 : Nat) (g3 : Nat) (g4 : Nat) (g5 : Nat) (ou : Int32) (K : Nat) (ap : Int32) (fd : Int64) (fw : Int64) (pts : Nat → Int32) (cst : Nat → Int32) (wts : Nat → Int64) (hav : Nat → Int64) (pck : Nat → Int32) (set : Int64) (hK1 : K ≤ 81) : Met l y_CoverFinder_isCover (ct y_CoverFinder_isCover b_CoverFinder_isCover 5 (some .boolean)) ({ frames := 1, cells := 0, slots := 0, locals := 22 }) (va_Pc [.ref g0, .long set] (fun U => va_P (dC, dI) classes [(g0, .inr (0, [.int ou, .ref g1, .ref g2, .ref g3, .ref g4, .ref g5, .int ((nI K)), .int ap, .long fd, .long fw])), (g1, .inl (cI, 81, .inl pts)), (g2, .inl (cI, 81, .inl cst)), (g3, .inl (cJ, 81, .inr (.inl wts))), (g4, .inl (cJ, 32, .inr (.inl hav))), (g5, .inl (cI, 32, .inl pck))] U.heap ∧ va_K (dC, dI) classes [(cI, .int), (cJ, .long)] U)) (vp_Si (fun r => r = if fCov pts set K = ap then 1 else 0)) 0 0 (fun _ => False) := by
  refine Met.ofW (cc := b_CoverFinder_isCover) (maxL := 5) (ret := some .boolean) (by decide) rfl ?_
  intro p e s m args below meth c s₁ B hml hv
  obtain ⟨rfl, hP, hK⟩ := hv
  have hx := B.exec
  have hb := B.bytes
  have hr := B.returns
  have hts : ∀ w ∈ lwg, w.before _ s = true := fun w h => atoms_spec (ws := ct y_CoverFinder_isCover b_CoverFinder_isCover 5 (some .boolean)) B.pre w (List.mem_cons_of_mem _ h)
  have hown : s.vm.findClass R_CoverFinder = some m.cls := findClass_of_methodNamed B.named
  have hlocks := B.notSynchronized
  have hl := lv_entry ([.ref g0, .long set]) (n := 5) (Nat.le_of_ble_eq_true rfl)
  rw [lg_entry_eq]
  generalize (lg_sl ([.ref g0, .long set]) ++ List.replicate (5 - (lg_sl ([.ref g0, .long set])).length) Slot.unset).toArray = ls at hl ⊢
  have hl : lv_has ls 5 [(0, .ref g0), (1, .long set)] := hl
  refine lv_iconst (v := 0) hx hb d_CoverFinder_isCover_0 (by decide) ?_
  refine lv_istore_n (lv' := [(3, .int 0), (0, .ref g0), (1, .long set)]) hx hb d_CoverFinder_isCover_1 rfl hl (by decide) rfl (fun ls hl => ?_)
  refine lv_iconst (v := 0) hx hb d_CoverFinder_isCover_2 (by decide) ?_
  refine lv_istore (lv' := [(4, .int 0), (3, .int 0), (0, .ref g0), (1, .long set)]) hx hb d_CoverFinder_isCover_3 hl (by decide) rfl (fun ls hl => ?_)
  exact lp_CoverFinder_isCover l dC dI cI cJ g0 g1 g2 g3 g4 g5 ou K ap fd fw pts cst wts hav pck set hK1 hx hb hr hts hown hlocks hml hP hK (K + 1) 0 (by omega) (Nat.zero_le _) ls (lv_sub hl [2, 3, 1, 0] rfl)
set_option maxHeartbeats 1000000 in
set_option maxRecDepth 100000 in
theorem c_CoverFinder_keepIfLighter (l : Launch) (dC : Nat → ClassId) (dI : Nat → Nat → Nat) (cI cJ : ClassId) (sz0 : Nat) (g0 : Nat) (g1 : Nat) (g2 : Nat) (g3 : Nat) (g4 : Nat) (g5 : Nat) (ou : Int32) (K : Nat) (ap : Int32) (fd : Int64) (fw : Int64) (pts : Nat → Int32) (cst : Nat → Int32) (wts : Nat → Int64) (hav : Nat → Int64) (pck : Nat → Int32) (ch : Int64) (wg : Int64) : Met l y_CoverFinder_keepIfLighter (ct y_CoverFinder_keepIfLighter b_CoverFinder_keepIfLighter 5 (none)) ({ frames := 0, cells := 0, slots := 0, locals := 0 }) (va_Pc [.ref g0, .long ch, .long wg] (fun U => U.heap.size = sz0 ∧ va_P (dC, dI) classes [(g0, .inr (0, [.int ou, .ref g1, .ref g2, .ref g3, .ref g4, .ref g5, .int ((nI K)), .int ap, .long fd, .long fw])), (g1, .inl (cI, 81, .inl pts)), (g2, .inl (cI, 81, .inl cst)), (g3, .inl (cJ, 81, .inr (.inl wts))), (g4, .inl (cJ, 32, .inr (.inl hav))), (g5, .inl (cI, 32, .inl pck))] U.heap ∧ va_K (dC, dI) classes [(cI, .int), (cJ, .long)] U ∧ va_D (fun _ => True) [(g0, .inr (0, [.int ou, .ref g1, .ref g2, .ref g3, .ref g4, .ref g5, .int ((nI K)), .int ap, .long fd, .long fw])), (g1, .inl (cI, 81, .inl pts)), (g2, .inl (cI, 81, .inl cst)), (g3, .inl (cJ, 81, .inr (.inl wts))), (g4, .inl (cJ, 32, .inr (.inl hav))), (g5, .inl (cI, 32, .inl pck))])) (va_Qv (fun _ : Unit => True) (fun _ => at_w dC dI cI cJ (va_A [(g0, .inr (0, [.int ou, .ref g1, .ref g2, .ref g3, .ref g4, .ref g5, .int ((nI K)), .int ap, .long fd, .long fw])), (g1, .inl (cI, 81, .inl pts)), (g2, .inl (cI, 81, .inl cst)), (g3, .inl (cJ, 81, .inr (.inl wts))), (g4, .inl (cJ, 32, .inr (.inl hav))), (g5, .inl (cI, 32, .inl pck))] sz0) [(g0, .inr (0, [.int ou, .ref g1, .ref g2, .ref g3, .ref g4, .ref g5, .int ((nI K)), .int ap, .long ((if fw ≤ wg then fd else ch)), .long ((if fw ≤ wg then fw else wg))])), (g1, .inl (cI, 81, .inl pts)), (g2, .inl (cI, 81, .inl cst)), (g3, .inl (cJ, 81, .inr (.inl wts))), (g4, .inl (cJ, 32, .inr (.inl hav))), (g5, .inl (cI, 32, .inl pck))]) (va_A [(g0, .inr (0, [.int ou, .ref g1, .ref g2, .ref g3, .ref g4, .ref g5, .int ((nI K)), .int ap, .long fd, .long fw])), (g1, .inl (cI, 81, .inl pts)), (g2, .inl (cI, 81, .inl cst)), (g3, .inl (cJ, 81, .inr (.inl wts))), (g4, .inl (cJ, 32, .inr (.inl hav))), (g5, .inl (cI, 32, .inl pck))] sz0)) 0 0 (va_A [(g0, .inr (0, [.int ou, .ref g1, .ref g2, .ref g3, .ref g4, .ref g5, .int ((nI K)), .int ap, .long fd, .long fw])), (g1, .inl (cI, 81, .inl pts)), (g2, .inl (cI, 81, .inl cst)), (g3, .inl (cJ, 81, .inr (.inl wts))), (g4, .inl (cJ, 32, .inr (.inl hav))), (g5, .inl (cI, 32, .inl pck))] sz0) := by
  refine Met.ofW (cc := b_CoverFinder_keepIfLighter) (maxL := 5) (ret := none) (by decide) rfl ?_
  intro p e s m args below meth c s₁ B hml hv
  obtain ⟨rfl, hsz, hP, hK, hD0⟩ := hv
  have hx := B.exec
  have hb := B.bytes
  have hr := B.returns
  have hts : ∀ w ∈ lwg, w.before _ s = true := fun w h => atoms_spec (ws := ct y_CoverFinder_keepIfLighter b_CoverFinder_keepIfLighter 5 (none)) B.pre w (List.mem_cons_of_mem _ h)
  have hown : s.vm.findClass R_CoverFinder = some m.cls := findClass_of_methodNamed B.named
  have hlocks := B.notSynchronized
  subst hsz
  have hD := hD0.self (sz := s.heap.size)
  generalize hAe : va_A [(g0, .inr (0, [.int ou, .ref g1, .ref g2, .ref g3, .ref g4, .ref g5, .int ((nI K)), .int ap, .long fd, .long fw])), (g1, .inl (cI, 81, .inl pts)), (g2, .inl (cI, 81, .inl cst)), (g3, .inl (cJ, 81, .inr (.inl wts))), (g4, .inl (cJ, 32, .inr (.inl hav))), (g5, .inl (cI, 32, .inl pck))] s.heap.size = A at hD ⊢
  have hA : ∀ q : Nat, s.heap.size ≤ q → A q := fun q h => by rw [← hAe]; exact Or.inr h
  have hS : va_S A s.heap s.heap [] := va_S.rf
  have hl := lv_entry ([.ref g0, .long ch, .long wg]) (n := 5) (Nat.le_of_ble_eq_true rfl)
  rw [lg_entry_eq]
  generalize (lg_sl ([.ref g0, .long ch, .long wg]) ++ List.replicate (5 - (lg_sl ([.ref g0, .long ch, .long wg])).length) Slot.unset).toArray = ls at hl ⊢
  have hl : lv_has ls 5 [(0, .ref g0), (1, .long ch), (3, .long wg)] := hl
  have hP : va_P (dC, dI) classes [(g0, .inr (0, [.int ou, .ref g1, .ref g2, .ref g3, .ref g4, .ref g5, .int ((nI K)), .int ap, .long fd, .long fw])), (g1, .inl (cI, 81, .inl pts)), (g2, .inl (cI, 81, .inl cst)), (g3, .inl (cJ, 81, .inr (.inl wts))), (g4, .inl (cJ, 32, .inr (.inl hav))), (g5, .inl (cI, 32, .inl pck))] s.heap := hP
  refine lv_lload_n hx hb d_CoverFinder_keepIfLighter_0 rfl (lv_at hl 2 rfl) ?_
  refine lv_aload_n hx hb d_CoverFinder_keepIfLighter_1 rfl (lv_at hl 0 rfl) ?_
  refine va_get (D := (dC, dI)) (ci := 0) (v := .long fw) (C := R_CoverFinder) (T := F_CoverFinder) (N := 10) hx hb hts i_CoverFinder hown hK hP 0 rfl rfl 9 (by decide) (hts _ mw_fl_CoverFinder_48) (fun _ h9 => h9) rfl d_CoverFinder_keepIfLighter_2 ?_
  refine W.lcmp hx hb d_CoverFinder_keepIfLighter_5 ?_
  refine lv_if_ge (tgt := 19) hx hb d_CoverFinder_keepIfLighter_6 (by decide) (fun c_6 => ?_) (fun c_6 => ?_)
  · have hP9 := hP.sub (ws' := [(g0, .inr (0, [.int ou, .ref g1, .ref g2, .ref g3, .ref g4, .ref g5, .int ((nI K)), .int ap, .long ((if fw ≤ wg then fd else ch)), .long ((if fw ≤ wg then fw else wg))])), (g1, .inl (cI, 81, .inl pts)), (g2, .inl (cI, 81, .inl cst)), (g3, .inl (cJ, 81, .inr (.inl wts))), (g4, .inl (cJ, 32, .inr (.inl hav))), (g5, .inl (cI, 32, .inl pck))]) [0, 1, 2, 3, 4, 5] (by rw [if_pos ((lg_cmp_ge wg fw).mp c_6), if_pos ((lg_cmp_ge wg fw).mp c_6)]; rfl)
    have hD9 := hD.sub (ws' := [(g0, .inr (0, [.int ou, .ref g1, .ref g2, .ref g3, .ref g4, .ref g5, .int ((nI K)), .int ap, .long ((if fw ≤ wg then fd else ch)), .long ((if fw ≤ wg then fw else wg))])), (g1, .inl (cI, 81, .inl pts)), (g2, .inl (cI, 81, .inl cst)), (g3, .inl (cJ, 81, .inr (.inl wts))), (g4, .inl (cJ, 32, .inr (.inl hav))), (g5, .inl (cI, 32, .inl pck))]) [0, 1, 2, 3, 4, 5] (by decide) (by rw [if_pos ((lg_cmp_ge wg fw).mp c_6), if_pos ((lg_cmp_ge wg fw).mp c_6)]; rfl)
    exact W.vret hx hb hr (fun t ht hW => ⟨⟨(), rfl, trivial, by rw [ht]; exact hP9, va_K.moved hW.alike hK, hD9⟩, hS.F ht⟩) hS.2.2 d_CoverFinder_keepIfLighter_19
  · refine lv_aload_n hx hb d_CoverFinder_keepIfLighter_9 rfl (lv_at hl 0 rfl) ?_
    refine lv_lload_n hx hb d_CoverFinder_keepIfLighter_10 rfl (lv_at hl 2 rfl) ?_
    refine va_put (D := (dC, dI)) (ci := 0) (v := .long wg) (ty := .long) (C := R_CoverFinder) (T := F_CoverFinder) (N := 10) hx hb hts i_CoverFinder t_CoverFinder t_CoverFinder_ok n_CoverFinder hown hK hP hD hS 0 rfl rfl 9 (by decide) (hts _ mw_fl_CoverFinder_48) (fun _ h9 => h9) rfl (by decide +kernel) rfl rfl (Nat.le_of_ble_eq_true rfl) d_CoverFinder_keepIfLighter_11 (fun H locs hP hD hS => ?_)
    have hP : va_P (dC, dI) classes [(g0, .inr (0, [.int ou, .ref g1, .ref g2, .ref g3, .ref g4, .ref g5, .int ((nI K)), .int ap, .long fd, .long wg])), (g1, .inl (cI, 81, .inl pts)), (g2, .inl (cI, 81, .inl cst)), (g3, .inl (cJ, 81, .inr (.inl wts))), (g4, .inl (cJ, 32, .inr (.inl hav))), (g5, .inl (cI, 32, .inl pck))] H := hP
    have hD : va_D A [(g0, .inr (0, [.int ou, .ref g1, .ref g2, .ref g3, .ref g4, .ref g5, .int ((nI K)), .int ap, .long fd, .long wg])), (g1, .inl (cI, 81, .inl pts)), (g2, .inl (cI, 81, .inl cst)), (g3, .inl (cJ, 81, .inr (.inl wts))), (g4, .inl (cJ, 32, .inr (.inl hav))), (g5, .inl (cI, 32, .inl pck))] := hD
    refine lv_aload_n hx hb d_CoverFinder_keepIfLighter_14 rfl (lv_at hl 0 rfl) ?_
    refine lv_lload_n hx hb d_CoverFinder_keepIfLighter_15 rfl (lv_at hl 1 rfl) ?_
    refine va_put (D := (dC, dI)) (ci := 0) (v := .long ch) (ty := .long) (C := R_CoverFinder) (T := F_CoverFinder) (N := 10) hx hb hts i_CoverFinder t_CoverFinder t_CoverFinder_ok n_CoverFinder hown hK hP hD hS 0 rfl rfl 8 (by decide) (hts _ mw_fl_CoverFinder_32) (fun _ h9 => h9) rfl (by decide +kernel) rfl rfl (Nat.le_of_ble_eq_true rfl) d_CoverFinder_keepIfLighter_16 (fun H locs hP hD hS => ?_)
    have hP : va_P (dC, dI) classes [(g0, .inr (0, [.int ou, .ref g1, .ref g2, .ref g3, .ref g4, .ref g5, .int ((nI K)), .int ap, .long ch, .long wg])), (g1, .inl (cI, 81, .inl pts)), (g2, .inl (cI, 81, .inl cst)), (g3, .inl (cJ, 81, .inr (.inl wts))), (g4, .inl (cJ, 32, .inr (.inl hav))), (g5, .inl (cI, 32, .inl pck))] H := hP
    have hD : va_D A [(g0, .inr (0, [.int ou, .ref g1, .ref g2, .ref g3, .ref g4, .ref g5, .int ((nI K)), .int ap, .long ch, .long wg])), (g1, .inl (cI, 81, .inl pts)), (g2, .inl (cI, 81, .inl cst)), (g3, .inl (cJ, 81, .inr (.inl wts))), (g4, .inl (cJ, 32, .inr (.inl hav))), (g5, .inl (cI, 32, .inl pck))] := hD
    have hP9 := hP.sub (ws' := [(g0, .inr (0, [.int ou, .ref g1, .ref g2, .ref g3, .ref g4, .ref g5, .int ((nI K)), .int ap, .long ((if fw ≤ wg then fd else ch)), .long ((if fw ≤ wg then fw else wg))])), (g1, .inl (cI, 81, .inl pts)), (g2, .inl (cI, 81, .inl cst)), (g3, .inl (cJ, 81, .inr (.inl wts))), (g4, .inl (cJ, 32, .inr (.inl hav))), (g5, .inl (cI, 32, .inl pck))]) [0, 1, 2, 3, 4, 5] (by rw [if_neg (fun h => c_6 ((lg_cmp_ge wg fw).mpr h)), if_neg (fun h => c_6 ((lg_cmp_ge wg fw).mpr h))]; rfl)
    have hD9 := hD.sub (ws' := [(g0, .inr (0, [.int ou, .ref g1, .ref g2, .ref g3, .ref g4, .ref g5, .int ((nI K)), .int ap, .long ((if fw ≤ wg then fd else ch)), .long ((if fw ≤ wg then fw else wg))])), (g1, .inl (cI, 81, .inl pts)), (g2, .inl (cI, 81, .inl cst)), (g3, .inl (cJ, 81, .inr (.inl wts))), (g4, .inl (cJ, 32, .inr (.inl hav))), (g5, .inl (cI, 32, .inl pck))]) [0, 1, 2, 3, 4, 5] (by decide) (by rw [if_neg (fun h => c_6 ((lg_cmp_ge wg fw).mpr h)), if_neg (fun h => c_6 ((lg_cmp_ge wg fw).mpr h))]; rfl)
    exact W.vret hx hb hr (fun t ht hW => ⟨⟨(), rfl, trivial, by rw [ht]; exact hP9, va_K.moved hW.alike hK, hD9⟩, hS.F ht⟩) hS.2.2 d_CoverFinder_keepIfLighter_19
