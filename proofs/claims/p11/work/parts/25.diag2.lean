/-! ===== Diagrams.reordered ===== -/
theorem pw_N : ∀ N, N ≤ 4 → (1 : Int32) <<< (nI N &&& 31) = nI (2 ^ N) ∧ 2 ^ N ≤ 16 := by decide +kernel
/-- the assignment at a place of the reordered table -/
def fAsg (asked : Nat → Int32) (N pl : Nat) (j : Nat) : Int32 := itr (fun j acc => acc ||| (((nI pl >>> (((nI N - 1) - nI j) &&& 31)) &&& 1) <<< (asked j &&& 31))) j 0
def fReo (asked : Nat → Int32) (N : Nat) (on : Int32) (p : Nat) : Int32 := itr (fun p acc => acc ||| (((on >>> (fAsg asked N p N &&& 31)) &&& 1) <<< (nI p &&& 31))) p 0
set_option maxHeartbeats 1000000 in
set_option maxRecDepth 100000 in
theorem lp_Diagrams_reordered1 {p : Program} {e : Env} {s : State} {m : MethodId} {args : Array Value} {below : List Frame} {meth : Method} {c : Code} {Q : State → Prop} (l : Launch) (dC : Nat → ClassId) (dI : Nat → Nat → Nat) (cI cJ : ClassId) (h0 : Nat) (h1 : Nat) (h2 : Nat) (h3 : Nat) (N : Nat) (OU : Nat) (asked : Nat → Int32) (tabs : Nat → Int32) (seen : Nat → Int32) (PW : Nat) (on : Int32) (hN : N ≤ 4) (hPW : (1 : Int32) <<< (nI N &&& 31) = nI PW ∧ PW ≤ 16) (tb : Int32) (pl : Nat)  (hx : p.tables.exec = Jvm.exec) (hb : c.code = b_Diagrams_reordered) (hts : ∀ w ∈ lwg, w.before args s = true) (hown : s.vm.findClass R_Diagrams = some m.cls) (hml : c.maxLocals = 7) (hP : va_P (dC, dI) classes [(h0, .inr (2, [.int ((nI N)), .int ((nI OU)), .ref h1, .ref h2, .ref h3])), (h1, .inl (cI, 4, .inl asked)), (h2, .inl (cI, 2, .inl tabs)), (h3, .inl (cI, 16, .inl seen))] s.heap) (hK : va_K (dC, dI) classes [(cI, .int), (cJ, .long)] s) (kk : ∀ (ls : Array Slot), lv_has ls 7 [(0, .ref h0), (1, .int on), (2, .int tb), (3, .int ((nI pl))), (4, .int ((fAsg asked N pl N)))] → W p l e ({ frames := 0, cells := 0, slots := 0, locals := 0 } : Room) s m args below meth c s.heap [] 0 0 Q (F0 m 65 ls [])) : ∀ (fu i : Nat), N - i < fu → i ≤ N → ∀ (ls : Array Slot), lv_has ls 7 [(0, .ref h0), (1, .int on), (2, .int tb), (3, .int ((nI pl))), (4, .int ((fAsg asked N pl i))), (5, .int ((nI i)))] → W p l e ({ frames := 0, cells := 0, slots := 0, locals := 0 } : Room) s m args below meth c s.heap [] 0 0 Q (F0 m 20 ls []) := by
  intro fu
  induction fu with
  | zero => intro i h; omega
  | succ fu ih =>
    intro i hfu hle ls hl
    refine lv_iload hx hb d_Diagrams_reordered_20 (lv_at hl 5 rfl) ?_
    refine lv_aload_n hx hb d_Diagrams_reordered_22 rfl (lv_at hl 0 rfl) ?_
    refine va_get (D := (dC, dI)) (ci := 2) (v := .int ((nI N))) (C := R_Diagrams) (T := F_Diagrams) (N := 5) hx hb hts i_Diagrams hown hK hP 0 rfl rfl 0 (by decide) (hts _ mw_fl_Diagrams_21) (fun _ h9 => h9) rfl d_Diagrams_reordered_23 ?_
    refine lv_icmp_ge (tgt := 65) hx hb d_Diagrams_reordered_26 (by decide) (fun c_26 => ?_) (fun c_26 => ?_)
    · have hE : i = N := Nat.le_antisymm hle ((nI_leI (a := N) (b := i) (by omega) (by omega)).mp c_26)
      exact kk ls (by subst hE; exact lv_sub hl [0, 1, 2, 3, 4] rfl)
    · have hlt : i < N := Nat.lt_of_not_le (fun h => c_26 ((nI_leI (a := N) (b := i) (by omega) (by omega)).mpr h))
      refine lv_iload_n hx hb d_Diagrams_reordered_29 rfl (lv_at hl 3 rfl) ?_
      refine lv_aload_n hx hb d_Diagrams_reordered_30 rfl (lv_at hl 0 rfl) ?_
      refine va_get (D := (dC, dI)) (ci := 2) (v := .int ((nI N))) (C := R_Diagrams) (T := F_Diagrams) (N := 5) hx hb hts i_Diagrams hown hK hP 0 rfl rfl 0 (by decide) (hts _ mw_fl_Diagrams_21) (fun _ h9 => h9) rfl d_Diagrams_reordered_31 ?_
      refine lv_iconst (v := 1) hx hb d_Diagrams_reordered_34 (by decide) ?_
      refine lv_isub hx hb d_Diagrams_reordered_35 ?_
      refine lv_iload hx hb d_Diagrams_reordered_36 (lv_at hl 5 rfl) ?_
      refine lv_isub hx hb d_Diagrams_reordered_38 ?_
      refine lv_ishr hx hb d_Diagrams_reordered_39 ?_
      refine lv_iconst (v := 1) hx hb d_Diagrams_reordered_40 (by decide) ?_
      refine lv_iand hx hb d_Diagrams_reordered_41 ?_
      refine lv_istore (lv' := [(6, .int ((((nI pl) >>> ((((nI N) - 1) - (nI i)) &&& 31)) &&& 1))), (0, .ref h0), (1, .int on), (2, .int tb), (3, .int ((nI pl))), (4, .int ((fAsg asked N pl i))), (5, .int ((nI i)))]) hx hb d_Diagrams_reordered_42 hl (by decide) rfl (fun ls hl => ?_)
      refine lv_iload hx hb d_Diagrams_reordered_44 (lv_at hl 5 rfl) ?_
      refine lv_iload hx hb d_Diagrams_reordered_46 (lv_at hl 0 rfl) ?_
      refine lv_aload_n hx hb d_Diagrams_reordered_48 rfl (lv_at hl 1 rfl) ?_
      refine va_get (D := (dC, dI)) (ci := 2) (v := .ref h1) (C := R_Diagrams) (T := F_Diagrams) (N := 5) hx hb hts i_Diagrams hown hK hP 0 rfl rfl 2 (by decide) (hts _ mw_fl_Diagrams_9) (fun _ h9 => h9) rfl d_Diagrams_reordered_49 ?_
      refine lv_iload hx hb d_Diagrams_reordered_52 (lv_at hl 6 rfl) ?_
      refine va_iald hx hb hK hP 1 0 rfl rfl (vp_in_nI (show i < 4 by omega) (by omega)) d_Diagrams_reordered_54 ?_
      refine w_ti (show _ = asked i from by rw [nI_clamp (by omega)]) ?_
      refine lv_ishl hx hb d_Diagrams_reordered_55 ?_
      refine lv_ior hx hb d_Diagrams_reordered_56 ?_
      refine lv_istore (lv' := [(4, .int (((fAsg asked N pl i) ||| ((((nI pl) >>> ((((nI N) - 1) - (nI i)) &&& 31)) &&& 1) <<< ((asked i) &&& 31))))), (6, .int ((((nI pl) >>> ((((nI N) - 1) - (nI i)) &&& 31)) &&& 1))), (0, .ref h0), (1, .int on), (2, .int tb), (3, .int ((nI pl))), (5, .int ((nI i)))]) hx hb d_Diagrams_reordered_57 hl (by decide) rfl (fun ls hl => ?_)
      refine lv_iinc (v := (nI (i + 1))) (lv' := [(5, .int ((nI (i + 1)))), (4, .int (((fAsg asked N pl i) ||| ((((nI pl) >>> ((((nI N) - 1) - (nI i)) &&& 31)) &&& 1) <<< ((asked i) &&& 31))))), (6, .int ((((nI pl) >>> ((((nI N) - 1) - (nI i)) &&& 31)) &&& 1))), (0, .ref h0), (1, .int on), (2, .int tb), (3, .int ((nI pl)))]) hx hb d_Diagrams_reordered_59 hl (k := 6) rfl (show nI i + 1 = nI (i + 1) from nI_1 i) (by decide) rfl (fun ls hl => ?_)
      refine lv_goto (tgt := 20) hx hb d_Diagrams_reordered_62 (by decide) ?_
      exact ih (i + 1) (by omega) (by omega) ls (lv_sub hl [3, 4, 5, 6, 1, 0] rfl)
set_option maxHeartbeats 1000000 in
set_option maxRecDepth 100000 in
theorem lp_Diagrams_reordered2 {p : Program} {e : Env} {s : State} {m : MethodId} {args : Array Value} {below : List Frame} {meth : Method} {c : Code} (l : Launch) (dC : Nat → ClassId) (dI : Nat → Nat → Nat) (cI cJ : ClassId) (h0 : Nat) (h1 : Nat) (h2 : Nat) (h3 : Nat) (N : Nat) (OU : Nat) (asked : Nat → Int32) (tabs : Nat → Int32) (seen : Nat → Int32) (PW : Nat) (on : Int32) (hN : N ≤ 4) (hPW : (1 : Int32) <<< (nI N &&& 31) = nI PW ∧ PW ≤ 16) (hx : p.tables.exec = Jvm.exec) (hb : c.code = b_Diagrams_reordered) (hr : meth.sig.returnType = some .int) (hts : ∀ w ∈ lwg, w.before args s = true) (hown : s.vm.findClass R_Diagrams = some m.cls) (hlocks : meth.locks = false) (hml : c.maxLocals = 7) (hP : va_P (dC, dI) classes [(h0, .inr (2, [.int ((nI N)), .int ((nI OU)), .ref h1, .ref h2, .ref h3])), (h1, .inl (cI, 4, .inl asked)), (h2, .inl (cI, 2, .inl tabs)), (h3, .inl (cI, 16, .inl seen))] s.heap) (hK : va_K (dC, dI) classes [(cI, .int), (cJ, .long)] s) : ∀ (fu i : Nat), PW - i < fu → i ≤ PW → ∀ ls : Array Slot, lv_has ls 7 [(0, .ref h0), (1, .int on), (2, .int ((fReo asked N on i))), (3, .int ((nI i)))] → W p l e ({ frames := 0, cells := 0, slots := 0, locals := 0 } : Room) s m args below meth c s.heap [] 0 0 (MQ below (vp_Si (fun r => r = fReo asked N on PW)) args s 0 0 (fun _ => False)) (F0 m 4 ls []) := by
  intro fu
  induction fu with
  | zero => intro i h; omega
  | succ fu ih =>
    intro i hfu hle ls hl
    refine lv_iload_n hx hb d_Diagrams_reordered_4 rfl (lv_at hl 3 rfl) ?_
    refine lv_iconst (v := 1) hx hb d_Diagrams_reordered_5 (by decide) ?_
    refine lv_aload_n hx hb d_Diagrams_reordered_6 rfl (lv_at hl 0 rfl) ?_
    refine va_get (D := (dC, dI)) (ci := 2) (v := .int ((nI N))) (C := R_Diagrams) (T := F_Diagrams) (N := 5) hx hb hts i_Diagrams hown hK hP 0 rfl rfl 0 (by decide) (hts _ mw_fl_Diagrams_21) (fun _ h9 => h9) rfl d_Diagrams_reordered_7 ?_
    refine lv_ishl hx hb d_Diagrams_reordered_10 ?_
    refine w_ti (show _ = nI PW from hPW.1) ?_
    refine lv_icmp_ge (tgt := 82) hx hb d_Diagrams_reordered_11 (by decide) (fun c_11 => ?_) (fun c_11 => ?_)
    · have hE : i = PW := Nat.le_antisymm hle ((nI_leI (a := PW) (b := i) (by omega) (by omega)).mp c_11)
      refine lv_iload_n hx hb d_Diagrams_reordered_82 rfl (lv_at hl 2 rfl) ?_
      exact W.iret (v := (fReo asked N on i)) hx hb hr (fun t ht hW => ⟨_, rfl, by subst hE; rfl, ht⟩) (fun q h => by cases h) d_Diagrams_reordered_83
    · have hlt : i < PW := Nat.lt_of_not_le (fun h => c_11 ((nI_leI (a := PW) (b := i) (by omega) (by omega)).mpr h))
      refine lv_iconst (v := 0) hx hb d_Diagrams_reordered_14 (by decide) ?_
      refine lv_istore (lv' := [(4, .int 0), (0, .ref h0), (1, .int on), (2, .int ((fReo asked N on i))), (3, .int ((nI i)))]) hx hb d_Diagrams_reordered_15 hl (by decide) rfl (fun ls hl => ?_)
      refine lv_iconst (v := 0) hx hb d_Diagrams_reordered_17 (by decide) ?_
      refine lv_istore (lv' := [(5, .int 0), (4, .int 0), (0, .ref h0), (1, .int on), (2, .int ((fReo asked N on i))), (3, .int ((nI i)))]) hx hb d_Diagrams_reordered_18 hl (by decide) rfl (fun ls hl => ?_)
      refine lp_Diagrams_reordered1 l dC dI cI cJ h0 h1 h2 h3 N OU asked tabs seen PW on hN hPW ((fReo asked N on i)) i  hx hb hts hown hml hP hK (fun ls hl => ?_) (N + 1) 0 (by omega) (Nat.zero_le _) ls (lv_sub hl [2, 3, 4, 5, 1, 0] rfl)
      have hl : lv_has ls 7 [(0, .ref h0), (1, .int on), (2, .int (((fReo asked N on i)))), (3, .int ((nI i))), (4, .int ((fAsg asked N i N)))] := hl
      refine lv_iload_n hx hb d_Diagrams_reordered_65 rfl (lv_at hl 2 rfl) ?_
      refine lv_iload_n hx hb d_Diagrams_reordered_66 rfl (lv_at hl 1 rfl) ?_
      refine lv_iload hx hb d_Diagrams_reordered_67 (lv_at hl 4 rfl) ?_
      refine lv_ishr hx hb d_Diagrams_reordered_69 ?_
      refine lv_iconst (v := 1) hx hb d_Diagrams_reordered_70 (by decide) ?_
      refine lv_iand hx hb d_Diagrams_reordered_71 ?_
      refine lv_iload_n hx hb d_Diagrams_reordered_72 rfl (lv_at hl 3 rfl) ?_
      refine lv_ishl hx hb d_Diagrams_reordered_73 ?_
      refine lv_ior hx hb d_Diagrams_reordered_74 ?_
      refine lv_istore_n (lv' := [(2, .int ((((fReo asked N on i)) ||| (((on >>> ((fAsg asked N i N) &&& 31)) &&& 1) <<< ((nI i) &&& 31))))), (0, .ref h0), (1, .int on), (3, .int ((nI i))), (4, .int ((fAsg asked N i N)))]) hx hb d_Diagrams_reordered_75 rfl hl (by decide) rfl (fun ls hl => ?_)
      refine lv_iinc (v := (nI (i + 1))) (lv' := [(3, .int ((nI (i + 1)))), (2, .int ((((fReo asked N on i)) ||| (((on >>> ((fAsg asked N i N) &&& 31)) &&& 1) <<< ((nI i) &&& 31))))), (0, .ref h0), (1, .int on), (4, .int ((fAsg asked N i N)))]) hx hb d_Diagrams_reordered_76 hl (k := 3) rfl (show nI i + 1 = nI (i + 1) from nI_1 i) (by decide) rfl (fun ls hl => ?_)
      refine lv_goto (tgt := 4) hx hb d_Diagrams_reordered_79 (by decide) ?_
      exact ih (i + 1) (by omega) (by omega) ls (lv_sub hl [2, 3, 1, 0] rfl)
set_option maxHeartbeats 1000000 in
set_option maxRecDepth 100000 in
theorem c_Diagrams_reordered (l : Launch) (dC : Nat → ClassId) (dI : Nat → Nat → Nat) (cI cJ : ClassId) (h0 : Nat) (h1 : Nat) (h2 : Nat) (h3 : Nat) (N : Nat) (OU : Nat) (asked : Nat → Int32) (tabs : Nat → Int32) (seen : Nat → Int32) (PW : Nat) (on : Int32) (hN : N ≤ 4) (hPW : (1 : Int32) <<< (nI N &&& 31) = nI PW ∧ PW ≤ 16) : Met l y_Diagrams_reordered (ct y_Diagrams_reordered b_Diagrams_reordered 7 (some .int)) ({ frames := 0, cells := 0, slots := 0, locals := 0 }) (va_Pc [.ref h0, .int on] (fun U => va_P (dC, dI) classes [(h0, .inr (2, [.int ((nI N)), .int ((nI OU)), .ref h1, .ref h2, .ref h3])), (h1, .inl (cI, 4, .inl asked)), (h2, .inl (cI, 2, .inl tabs)), (h3, .inl (cI, 16, .inl seen))] U.heap ∧ va_K (dC, dI) classes [(cI, .int), (cJ, .long)] U)) (vp_Si (fun r => r = fReo asked N on PW)) 0 0 (fun _ => False) := by
  refine Met.ofW (cc := b_Diagrams_reordered) (maxL := 7) (ret := some .int) (by decide) rfl ?_
  intro p e s m args below meth c s₁ B hml hv
  obtain ⟨rfl, hP, hK⟩ := hv
  have hx := B.exec
  have hb := B.bytes
  have hr := B.returns
  have hts : ∀ w ∈ lwg, w.before _ s = true := fun w h => atoms_spec (ws := ct y_Diagrams_reordered b_Diagrams_reordered 7 (some .int)) B.pre w (List.mem_cons_of_mem _ h)
  have hown : s.vm.findClass R_Diagrams = some m.cls := findClass_of_methodNamed B.named
  have hlocks := B.notSynchronized
  have hl := lv_entry ([.ref h0, .int on]) (n := 7) (Nat.le_of_ble_eq_true rfl)
  rw [lg_entry_eq]
  generalize (lg_sl ([.ref h0, .int on]) ++ List.replicate (7 - (lg_sl ([.ref h0, .int on])).length) Slot.unset).toArray = ls at hl ⊢
  have hl : lv_has ls 7 [(0, .ref h0), (1, .int on)] := hl
  refine lv_iconst (v := 0) hx hb d_Diagrams_reordered_0 (by decide) ?_
  refine lv_istore_n (lv' := [(2, .int 0), (0, .ref h0), (1, .int on)]) hx hb d_Diagrams_reordered_1 rfl hl (by decide) rfl (fun ls hl => ?_)
  refine lv_iconst (v := 0) hx hb d_Diagrams_reordered_2 (by decide) ?_
  refine lv_istore_n (lv' := [(3, .int 0), (2, .int 0), (0, .ref h0), (1, .int on)]) hx hb d_Diagrams_reordered_3 rfl hl (by decide) rfl (fun ls hl => ?_)
  exact lp_Diagrams_reordered2 l dC dI cI cJ h0 h1 h2 h3 N OU asked tabs seen PW on hN hPW hx hb hr hts hown hlocks hml hP hK (PW + 1) 0 (by omega) (Nat.zero_le _) ls (lv_sub hl [2, 3, 1, 0] rfl)
