/-! ===== Diagrams: reading, first part ===== -/
/-- the input of a set before which so many of it stand -/
def fIA (set skip : Int32) : Nat → Nat → Int32 → Int32
  | 0, _, _ => 0
  | n + 1, i, bf => if (set >>> (nI i &&& 31)) &&& 1 = 1 then (if bf = skip then nI i else fIA set skip n (i + 1) (bf + 1)) else fIA set skip n (i + 1) bf
set_option maxHeartbeats 1000000 in
set_option maxRecDepth 100000 in
theorem lp_Diagrams_inputAfter {p : Program} {e : Env} {s : State} {m : MethodId} {args : Array Value} {below : List Frame} {meth : Method} {c : Code} (l : Launch) (dC : Nat → ClassId) (dI : Nat → Nat → Nat) (cI cJ : ClassId) (h0 : Nat) (h1 : Nat) (h2 : Nat) (h3 : Nat) (N : Nat) (OU : Nat) (asked : Nat → Int32) (tabs : Nat → Int32) (seen : Nat → Int32) (set : Int32) (skip : Int32) (hN : N ≤ 4) (hx : p.tables.exec = Jvm.exec) (hb : c.code = b_Diagrams_inputAfter) (hr : meth.sig.returnType = some .int) (hts : ∀ w ∈ lwg, w.before args s = true) (hown : s.vm.findClass R_Diagrams = some m.cls) (hlocks : meth.locks = false) (hml : c.maxLocals = 5) (hP : va_P (dC, dI) classes [(h0, .inr (2, [.int ((nI N)), .int ((nI OU)), .ref h1, .ref h2, .ref h3])), (h1, .inl (cI, 4, .inl asked)), (h2, .inl (cI, 2, .inl tabs)), (h3, .inl (cI, 16, .inl seen))] s.heap) (hK : va_K (dC, dI) classes [(cI, .int), (cJ, .long)] s) : ∀ (fu i : Nat), N - i < fu → i ≤ N → ∀ bf : Int32, fIA set skip (N - i) i bf = fIA set skip N 0 0 → ∀ ls : Array Slot, lv_has ls 5 [(0, .ref h0), (1, .int set), (2, .int skip), (3, .int bf), (4, .int ((nI i)))] → W p l e ({ frames := 0, cells := 0, slots := 0, locals := 0 } : Room) s m args below meth c s.heap [] 0 0 (MQ below (vp_Si (fun r => r = fIA set skip N 0 0)) args s 0 0 (fun _ => False)) (F0 m 5 ls []) := by
  intro fu
  induction fu with
  | zero => intro i h; omega
  | succ fu ih =>
    intro i hfu hle bf hI ls hl
    refine lv_iload hx hb d_Diagrams_inputAfter_5 (lv_at hl 4 rfl) ?_
    refine lv_aload_n hx hb d_Diagrams_inputAfter_7 rfl (lv_at hl 0 rfl) ?_
    refine va_get (D := (dC, dI)) (ci := 2) (v := .int ((nI N))) (C := R_Diagrams) (T := F_Diagrams) (N := 5) hx hb hts i_Diagrams hown hK hP 0 rfl rfl 0 (by decide) (hts _ mw_fl_Diagrams_21) (fun _ h9 => h9) rfl d_Diagrams_inputAfter_8 ?_
    refine lv_icmp_ge (tgt := 41) hx hb d_Diagrams_inputAfter_11 (by decide) (fun c_11 => ?_) (fun c_11 => ?_)
    · have hE : i = N := Nat.le_antisymm hle ((nI_leI (a := N) (b := i) (by omega) (by omega)).mp c_11)
      refine lv_iconst (v := 0) hx hb d_Diagrams_inputAfter_41 (by decide) ?_
      exact W.iret (v := 0) hx hb hr (fun t ht hW => ⟨_, rfl, (by subst hE; rw [Nat.sub_self] at hI; exact hI), ht⟩) (fun q h => by cases h) d_Diagrams_inputAfter_42
    · have hlt : i < N := Nat.lt_of_not_le (fun h => c_11 ((nI_leI (a := N) (b := i) (by omega) (by omega)).mpr h))
      have h32 : N - i = (N - (i + 1)) + 1 := by omega
      rw [h32] at hI
      refine lv_iload_n hx hb d_Diagrams_inputAfter_14 rfl (lv_at hl 1 rfl) ?_
      refine lv_iload hx hb d_Diagrams_inputAfter_15 (lv_at hl 4 rfl) ?_
      refine lv_ishr hx hb d_Diagrams_inputAfter_17 ?_
      refine lv_iconst (v := 1) hx hb d_Diagrams_inputAfter_18 (by decide) ?_
      refine lv_iand hx hb d_Diagrams_inputAfter_19 ?_
      refine lv_iconst (v := 1) hx hb d_Diagrams_inputAfter_20 (by decide) ?_
      refine lv_icmp_ne (tgt := 35) hx hb d_Diagrams_inputAfter_21 (by decide) (fun c_21 => ?_) (fun c_21 => ?_)
      · refine lv_iinc (v := (nI (i + 1))) (lv' := [(4, .int ((nI (i + 1)))), (0, .ref h0), (1, .int set), (2, .int skip), (3, .int bf)]) hx hb d_Diagrams_inputAfter_35 hl (k := 4) rfl (show nI i + 1 = nI (i + 1) from nI_1 i) (by decide) rfl (fun ls hl => ?_)
        refine lv_goto (tgt := 5) hx hb d_Diagrams_inputAfter_38 (by decide) ?_
        exact ih (i + 1) (by omega) (by omega) _ ((if_neg c_21).symm.trans hI) ls (lv_sub hl [1, 2, 3, 4, 0] rfl)
      · have hI2 := (if_pos c_21).symm.trans hI
        refine lv_iload_n hx hb d_Diagrams_inputAfter_24 rfl (lv_at hl 3 rfl) ?_
        refine lv_iload_n hx hb d_Diagrams_inputAfter_25 rfl (lv_at hl 2 rfl) ?_
        refine lv_icmp_ne (tgt := 32) hx hb d_Diagrams_inputAfter_26 (by decide) (fun c_26 => ?_) (fun c_26 => ?_)
        · refine lv_iinc (v := bf + 1) (lv' := [(3, .int (bf + 1)), (0, .ref h0), (1, .int set), (2, .int skip), (4, .int ((nI i)))]) hx hb d_Diagrams_inputAfter_32 hl (k := 3) rfl (rfl) (by decide) rfl (fun ls hl => ?_)
          refine lv_iinc (v := (nI (i + 1))) (lv' := [(4, .int ((nI (i + 1)))), (3, .int (bf + 1)), (0, .ref h0), (1, .int set), (2, .int skip)]) hx hb d_Diagrams_inputAfter_35 hl (k := 4) rfl (show nI i + 1 = nI (i + 1) from nI_1 i) (by decide) rfl (fun ls hl => ?_)
          refine lv_goto (tgt := 5) hx hb d_Diagrams_inputAfter_38 (by decide) ?_
          exact ih (i + 1) (by omega) (by omega) _ ((if_neg c_26).symm.trans hI2) ls (lv_sub hl [2, 3, 4, 1, 0] rfl)
        · refine lv_iload hx hb d_Diagrams_inputAfter_29 (lv_at hl 4 rfl) ?_
          exact W.iret (v := (nI i)) hx hb hr (fun t ht hW => ⟨_, rfl, ((if_pos c_26).symm.trans hI2), ht⟩) (fun q h => by cases h) d_Diagrams_inputAfter_31
set_option maxHeartbeats 1000000 in
set_option maxRecDepth 100000 in
theorem c_Diagrams_inputAfter (l : Launch) (dC : Nat → ClassId) (dI : Nat → Nat → Nat) (cI cJ : ClassId) (h0 : Nat) (h1 : Nat) (h2 : Nat) (h3 : Nat) (N : Nat) (OU : Nat) (asked : Nat → Int32) (tabs : Nat → Int32) (seen : Nat → Int32) (set : Int32) (skip : Int32) (hN : N ≤ 4) : Met l y_Diagrams_inputAfter (ct y_Diagrams_inputAfter b_Diagrams_inputAfter 5 (some .int)) ({ frames := 0, cells := 0, slots := 0, locals := 0 }) (va_Pc [.ref h0, .int set, .int skip] (fun U => va_P (dC, dI) classes [(h0, .inr (2, [.int ((nI N)), .int ((nI OU)), .ref h1, .ref h2, .ref h3])), (h1, .inl (cI, 4, .inl asked)), (h2, .inl (cI, 2, .inl tabs)), (h3, .inl (cI, 16, .inl seen))] U.heap ∧ va_K (dC, dI) classes [(cI, .int), (cJ, .long)] U)) (vp_Si (fun r => r = fIA set skip N 0 0)) 0 0 (fun _ => False) := by
  refine Met.ofW (cc := b_Diagrams_inputAfter) (maxL := 5) (ret := some .int) (by decide) rfl ?_
  intro p e s m args below meth c s₁ B hml hv
  obtain ⟨rfl, hP, hK⟩ := hv
  have hx := B.exec
  have hb := B.bytes
  have hr := B.returns
  have hts : ∀ w ∈ lwg, w.before _ s = true := fun w h => atoms_spec (ws := ct y_Diagrams_inputAfter b_Diagrams_inputAfter 5 (some .int)) B.pre w (List.mem_cons_of_mem _ h)
  have hown : s.vm.findClass R_Diagrams = some m.cls := findClass_of_methodNamed B.named
  have hlocks := B.notSynchronized
  have hl := lv_entry ([.ref h0, .int set, .int skip]) (n := 5) (Nat.le_of_ble_eq_true rfl)
  rw [lg_entry_eq]
  generalize (lg_sl ([.ref h0, .int set, .int skip]) ++ List.replicate (5 - (lg_sl ([.ref h0, .int set, .int skip])).length) Slot.unset).toArray = ls at hl ⊢
  have hl : lv_has ls 5 [(0, .ref h0), (1, .int set), (2, .int skip)] := hl
  refine lv_iconst (v := 0) hx hb d_Diagrams_inputAfter_0 (by decide) ?_
  refine lv_istore_n (lv' := [(3, .int 0), (0, .ref h0), (1, .int set), (2, .int skip)]) hx hb d_Diagrams_inputAfter_1 rfl hl (by decide) rfl (fun ls hl => ?_)
  refine lv_iconst (v := 0) hx hb d_Diagrams_inputAfter_2 (by decide) ?_
  refine lv_istore (lv' := [(4, .int 0), (3, .int 0), (0, .ref h0), (1, .int set), (2, .int skip)]) hx hb d_Diagrams_inputAfter_3 hl (by decide) rfl (fun ls hl => ?_)
  exact lp_Diagrams_inputAfter l dC dI cI cJ h0 h1 h2 h3 N OU asked tabs seen set skip hN hx hb hr hts hown hlocks hml hP hK (N + 1) 0 (by omega) (Nat.zero_le _) _ rfl ls (lv_sub hl [2, 3, 4, 1, 0] rfl)
set_option maxHeartbeats 1000000 in
set_option maxRecDepth 100000 in
theorem lp_Diagrams_isSeen {p : Program} {e : Env} {s : State} {m : MethodId} {args : Array Value} {below : List Frame} {meth : Method} {c : Code} (l : Launch) (dC : Nat → ClassId) (dI : Nat → Nat → Nat) (cI cJ : ClassId) (h0 : Nat) (h1 : Nat) (h2 : Nat) (h3 : Nat) (N : Nat) (OU : Nat) (asked : Nat → Int32) (tabs : Nat → Int32) (seen : Nat → Int32) (part : Int32) (n0 : Nat) (hn : n0 ≤ 16) (hx : p.tables.exec = Jvm.exec) (hb : c.code = b_Diagrams_isSeen) (hr : meth.sig.returnType = some .boolean) (hts : ∀ w ∈ lwg, w.before args s = true) (hown : s.vm.findClass R_Diagrams = some m.cls) (hlocks : meth.locks = false) (hml : c.maxLocals = 4) (hP : va_P (dC, dI) classes [(h0, .inr (2, [.int ((nI N)), .int ((nI OU)), .ref h1, .ref h2, .ref h3])), (h1, .inl (cI, 4, .inl asked)), (h2, .inl (cI, 2, .inl tabs)), (h3, .inl (cI, 16, .inl seen))] s.heap) (hK : va_K (dC, dI) classes [(cI, .int), (cJ, .long)] s) : ∀ (fu i : Nat), n0 - i < fu → i ≤ n0 → anyB (fun j => decide (seen j = part)) i = false → ∀ ls : Array Slot, lv_has ls 4 [(0, .ref h0), (1, .int part), (2, .int ((nI n0))), (3, .int ((nI i)))] → W p l e ({ frames := 0, cells := 0, slots := 0, locals := 0 } : Room) s m args below meth c s.heap [] 0 0 (MQ below (vp_Si (fun r => r = if anyB (fun j => decide (seen j = part)) n0 then 1 else 0)) args s 0 0 (fun _ => False)) (F0 m 2 ls []) := by
  intro fu
  induction fu with
  | zero => intro i h; omega
  | succ fu ih =>
    intro i hfu hle hI ls hl
    refine lv_iload_n hx hb d_Diagrams_isSeen_2 rfl (lv_at hl 3 rfl) ?_
    refine lv_iload_n hx hb d_Diagrams_isSeen_3 rfl (lv_at hl 2 rfl) ?_
    refine lv_icmp_ge (tgt := 25) hx hb d_Diagrams_isSeen_4 (by decide) (fun c_4 => ?_) (fun c_4 => ?_)
    · have hE : i = n0 := Nat.le_antisymm hle ((nI_leI (by omega) (by omega)).mp c_4)
      subst hE
      refine lv_iconst (v := 0) hx hb d_Diagrams_isSeen_25 (by decide) ?_
      exact W.zret (v := 0) hx hb hr (by decide) (fun t ht hW => ⟨_, rfl, (by simp [hI]), ht⟩) (fun q h => by cases h) d_Diagrams_isSeen_26
    · have hlt : i < n0 := Nat.lt_of_not_le (fun h => c_4 ((nI_leI (by omega) (by omega)).mpr h))
      refine lv_aload_n hx hb d_Diagrams_isSeen_7 rfl (lv_at hl 0 rfl) ?_
      refine va_get (D := (dC, dI)) (ci := 2) (v := .ref h3) (C := R_Diagrams) (T := F_Diagrams) (N := 5) hx hb hts i_Diagrams hown hK hP 0 rfl rfl 4 (by decide) (hts _ mw_fl_Diagrams_18) (fun _ h9 => h9) rfl d_Diagrams_isSeen_8 ?_
      refine lv_iload_n hx hb d_Diagrams_isSeen_11 rfl (lv_at hl 3 rfl) ?_
      refine va_iald hx hb hK hP 3 0 rfl rfl (vp_in_nI (show i < 16 by omega) (by omega)) d_Diagrams_isSeen_12 ?_
      refine w_ti (show _ = seen i from by rw [nI_clamp (by omega)]) ?_
      refine lv_iload_n hx hb d_Diagrams_isSeen_13 rfl (lv_at hl 1 rfl) ?_
      refine lv_icmp_ne (tgt := 19) hx hb d_Diagrams_isSeen_14 (by decide) (fun c_14 => ?_) (fun c_14 => ?_)
      · refine lv_iinc (v := (nI (i + 1))) (lv' := [(3, .int ((nI (i + 1)))), (0, .ref h0), (1, .int part), (2, .int ((nI n0)))]) hx hb d_Diagrams_isSeen_19 hl (k := 3) rfl (show nI i + 1 = nI (i + 1) from nI_1 i) (by decide) rfl (fun ls hl => ?_)
        refine lv_goto (tgt := 2) hx hb d_Diagrams_isSeen_22 (by decide) ?_
        exact ih (i + 1) (by omega) (by omega) (by rw [anyB_s, hI, decide_eq_false c_14]; rfl) ls (lv_sub hl [1, 2, 3, 0] rfl)
      · refine lv_iconst (v := 1) hx hb d_Diagrams_isSeen_17 (by decide) ?_
        exact W.zret (v := 1) hx hb hr (by decide) (fun t ht hW => ⟨_, rfl, (if_pos (anyB_t (c := fun j => decide (seen j = part)) hlt (decide_eq_true c_14))).symm, ht⟩) (fun q h => by cases h) d_Diagrams_isSeen_18
set_option maxHeartbeats 1000000 in
set_option maxRecDepth 100000 in
theorem c_Diagrams_isSeen (l : Launch) (dC : Nat → ClassId) (dI : Nat → Nat → Nat) (cI cJ : ClassId) (h0 : Nat) (h1 : Nat) (h2 : Nat) (h3 : Nat) (N : Nat) (OU : Nat) (asked : Nat → Int32) (tabs : Nat → Int32) (seen : Nat → Int32) (part : Int32) (n0 : Nat) (hn : n0 ≤ 16) : Met l y_Diagrams_isSeen (ct y_Diagrams_isSeen b_Diagrams_isSeen 4 (some .boolean)) ({ frames := 0, cells := 0, slots := 0, locals := 0 }) (va_Pc [.ref h0, .int part, .int ((nI n0))] (fun U => va_P (dC, dI) classes [(h0, .inr (2, [.int ((nI N)), .int ((nI OU)), .ref h1, .ref h2, .ref h3])), (h1, .inl (cI, 4, .inl asked)), (h2, .inl (cI, 2, .inl tabs)), (h3, .inl (cI, 16, .inl seen))] U.heap ∧ va_K (dC, dI) classes [(cI, .int), (cJ, .long)] U)) (vp_Si (fun r => r = if anyB (fun j => decide (seen j = part)) n0 then 1 else 0)) 0 0 (fun _ => False) := by
  refine Met.ofW (cc := b_Diagrams_isSeen) (maxL := 4) (ret := some .boolean) (by decide) rfl ?_
  intro p e s m args below meth c s₁ B hml hv
  obtain ⟨rfl, hP, hK⟩ := hv
  have hx := B.exec
  have hb := B.bytes
  have hr := B.returns
  have hts : ∀ w ∈ lwg, w.before _ s = true := fun w h => atoms_spec (ws := ct y_Diagrams_isSeen b_Diagrams_isSeen 4 (some .boolean)) B.pre w (List.mem_cons_of_mem _ h)
  have hown : s.vm.findClass R_Diagrams = some m.cls := findClass_of_methodNamed B.named
  have hlocks := B.notSynchronized
  have hl := lv_entry ([.ref h0, .int part, .int ((nI n0))]) (n := 4) (Nat.le_of_ble_eq_true rfl)
  rw [lg_entry_eq]
  generalize (lg_sl ([.ref h0, .int part, .int ((nI n0))]) ++ List.replicate (4 - (lg_sl ([.ref h0, .int part, .int ((nI n0))])).length) Slot.unset).toArray = ls at hl ⊢
  have hl : lv_has ls 4 [(0, .ref h0), (1, .int part), (2, .int ((nI n0)))] := hl
  refine lv_iconst (v := 0) hx hb d_Diagrams_isSeen_0 (by decide) ?_
  refine lv_istore_n (lv' := [(3, .int 0), (0, .ref h0), (1, .int part), (2, .int ((nI n0)))]) hx hb d_Diagrams_isSeen_1 rfl hl (by decide) rfl (fun ls hl => ?_)
  exact lp_Diagrams_isSeen l dC dI cI cJ h0 h1 h2 h3 N OU asked tabs seen part n0 hn hx hb hr hts hown hlocks hml hP hK (n0 + 1) 0 (by omega) (Nat.zero_le _) rfl ls (lv_sub hl [1, 2, 3, 0] rfl)
