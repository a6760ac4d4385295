/-- the number of the product with these inputs and these ones -/
def fNum (N : Nat) (care bits : Int32) : Int32 := itr (fun i acc => acc * 3 + fDig care bits (nI i)) N 0
set_option maxHeartbeats 4000000 in
set_option maxRecDepth 100000 in
theorem lp_Products_numberOf {p : Program} {e : Env} {R : Room} {s : State} {m : MethodId} {args : Array Value} {below : List Frame} {meth : Method} {c : Code} (l : Launch) (dC : Nat → ClassId) (dI : Nat → Nat → Nat) (cI cJ : ClassId) (a0 a1 a2 a3 N : Nat) (sz : Int32) (care bits had : Nat → Int32) (sc sb : Int32) (hN : N ≤ 4) (hx : p.tables.exec = Jvm.exec) (hb : c.code = b_Products_numberOf) (hr : meth.sig.returnType = some .int) (hts : ∀ w ∈ lwg, w.before args s = true) (hown : s.vm.findClass R_Products = some m.cls) (hlocks : meth.locks = false) (hml : c.maxLocals = 6) (hP : va_P (dC, dI) classes (wP cI a0 a1 a2 a3 (nI N) sz care bits had) s.heap) (hK : va_K (dC, dI) classes [(cI, .int), (cJ, .long)] s) : ∀ (k i : Nat), N - i < k → i ≤ N → ∀ ls : Array Slot, lv_has ls 6 [(0, .ref a0), (1, .int sc), (2, .int sb), (3, .int ((itr (fun i acc => acc * 3 + fDig sc sb (nI i)) i 0))), (4, .int ((nI i)))] → W p l e R s m args below meth c s.heap [] 0 0 (MQ below (vp_Si (fun r => r = fNum N sc sb)) args s 0 0 (fun _ => False)) (F0 m 5 ls []) := by
  intro k
  induction k with
  | zero => intro i h; omega
  | succ k ih =>
    intro i hk hi ls hl
    refine lv_iload hx hb d_Products_numberOf_5 (lv_at hl 4 rfl) ?_
    refine lv_aload_n hx hb d_Products_numberOf_7 rfl (lv_at hl 0 rfl) ?_
    refine va_get (D := (dC, dI)) (ci := 5) (v := .int ((nI N))) (C := R_Products) (T := F_Products) (N := 5) hx hb hts i_Products hown hK hP 0 rfl rfl 0 (by decide) (hts _ mw_fl_Products_21) (fun _ h9 => h9) rfl d_Products_numberOf_8 ?_
    refine lv_icmp_ge (tgt := 48) hx hb d_Products_numberOf_11 (by decide) (fun c_11 => ?_) (fun c_11 => ?_)
    · have hE : i = N := Nat.le_antisymm hi ((nI_leI (by omega) (by omega)).mp c_11)
      subst hE
      refine lv_iload_n hx hb d_Products_numberOf_48 rfl (lv_at hl 3 rfl) ?_
      exact W.iret (v := (itr (fun i acc => acc * 3 + fDig sc sb (nI i)) i 0)) hx hb hr (fun t ht hW => ⟨_, rfl, rfl, ht⟩) (fun q h => by cases h) d_Products_numberOf_49
    · have hlt : i < N := Nat.lt_of_not_le (fun h => c_11 ((nI_leI (by omega) (by omega)).mpr h))
      refine lv_iload_n hx hb d_Products_numberOf_14 rfl (lv_at hl 1 rfl) ?_
      refine lv_iload hx hb d_Products_numberOf_15 (lv_at hl 4 rfl) ?_
      refine lv_ishr hx hb d_Products_numberOf_17 ?_
      refine lv_iconst (v := 1) hx hb d_Products_numberOf_18 (by decide) ?_
      refine lv_iand hx hb d_Products_numberOf_19 ?_
      refine lv_if_ne (tgt := 27) hx hb d_Products_numberOf_20 (by decide) (fun c_20 => ?_) (fun c_20 => ?_)
      · refine lv_iload_n hx hb d_Products_numberOf_27 rfl (lv_at hl 2 rfl) ?_
        refine lv_iload hx hb d_Products_numberOf_28 (lv_at hl 4 rfl) ?_
        refine lv_ishr hx hb d_Products_numberOf_30 ?_
        refine lv_iconst (v := 1) hx hb d_Products_numberOf_31 (by decide) ?_
        refine lv_iand hx hb d_Products_numberOf_32 ?_
        refine w_ti (show _ = fDig sc sb (nI i) by simp [fDig, c_20]) ?_
        refine lv_istore (lv' := [(5, .int ((fDig sc sb (nI i)))), (0, .ref a0), (1, .int sc), (2, .int sb), (3, .int ((itr (fun i acc => acc * 3 + fDig sc sb (nI i)) i 0))), (4, .int ((nI i)))]) hx hb d_Products_numberOf_33 hl (by decide) rfl (fun ls hl => ?_)
        refine lv_iload_n hx hb d_Products_numberOf_35 rfl (lv_at hl 4 rfl) ?_
        refine lv_iconst (v := 3) hx hb d_Products_numberOf_36 (by decide) ?_
        refine lv_imul hx hb d_Products_numberOf_37 ?_
        refine lv_iload hx hb d_Products_numberOf_38 (lv_at hl 0 rfl) ?_
        refine lv_iadd hx hb d_Products_numberOf_40 ?_
        refine lv_istore_n (lv' := [(3, .int ((((itr (fun i acc => acc * 3 + fDig sc sb (nI i)) i 0) * 3) + (fDig sc sb (nI i))))), (5, .int ((fDig sc sb (nI i)))), (0, .ref a0), (1, .int sc), (2, .int sb), (4, .int ((nI i)))]) hx hb d_Products_numberOf_41 rfl hl (by decide) rfl (fun ls hl => ?_)
        refine lv_iinc (v := (nI (i + 1))) (lv' := [(4, .int ((nI (i + 1)))), (3, .int ((((itr (fun i acc => acc * 3 + fDig sc sb (nI i)) i 0) * 3) + (fDig sc sb (nI i))))), (5, .int ((fDig sc sb (nI i)))), (0, .ref a0), (1, .int sc), (2, .int sb)]) hx hb d_Products_numberOf_42 hl (k := 5) rfl (show nI i + 1 = nI (i + 1) from nI_1 i) (by decide) rfl (fun ls hl => ?_)
        refine lv_goto (tgt := 5) hx hb d_Products_numberOf_45 (by decide) ?_
        exact ih (i + 1) (by omega) (by omega) ls (lv_sub hl [3, 4, 5, 1, 0] rfl)
      · refine lv_iconst (v := 2) hx hb d_Products_numberOf_23 (by decide) ?_
        refine lv_goto (tgt := 33) hx hb d_Products_numberOf_24 (by decide) ?_
        refine w_ti (show _ = fDig sc sb (nI i) by simp [fDig, c_20]) ?_
        refine lv_istore (lv' := [(5, .int ((fDig sc sb (nI i)))), (0, .ref a0), (1, .int sc), (2, .int sb), (3, .int ((itr (fun i acc => acc * 3 + fDig sc sb (nI i)) i 0))), (4, .int ((nI i)))]) hx hb d_Products_numberOf_33 hl (by decide) rfl (fun ls hl => ?_)
        refine lv_iload_n hx hb d_Products_numberOf_35 rfl (lv_at hl 4 rfl) ?_
        refine lv_iconst (v := 3) hx hb d_Products_numberOf_36 (by decide) ?_
        refine lv_imul hx hb d_Products_numberOf_37 ?_
        refine lv_iload hx hb d_Products_numberOf_38 (lv_at hl 0 rfl) ?_
        refine lv_iadd hx hb d_Products_numberOf_40 ?_
        refine lv_istore_n (lv' := [(3, .int ((((itr (fun i acc => acc * 3 + fDig sc sb (nI i)) i 0) * 3) + (fDig sc sb (nI i))))), (5, .int ((fDig sc sb (nI i)))), (0, .ref a0), (1, .int sc), (2, .int sb), (4, .int ((nI i)))]) hx hb d_Products_numberOf_41 rfl hl (by decide) rfl (fun ls hl => ?_)
        refine lv_iinc (v := (nI (i + 1))) (lv' := [(4, .int ((nI (i + 1)))), (3, .int ((((itr (fun i acc => acc * 3 + fDig sc sb (nI i)) i 0) * 3) + (fDig sc sb (nI i))))), (5, .int ((fDig sc sb (nI i)))), (0, .ref a0), (1, .int sc), (2, .int sb)]) hx hb d_Products_numberOf_42 hl (k := 5) rfl (show nI i + 1 = nI (i + 1) from nI_1 i) (by decide) rfl (fun ls hl => ?_)
        refine lv_goto (tgt := 5) hx hb d_Products_numberOf_45 (by decide) ?_
        exact ih (i + 1) (by omega) (by omega) ls (lv_sub hl [3, 4, 5, 1, 0] rfl)
set_option maxHeartbeats 4000000 in
set_option maxRecDepth 100000 in
theorem c_Products_numberOf (l : Launch) (dC : Nat → ClassId) (dI : Nat → Nat → Nat) (cI cJ : ClassId) (a0 a1 a2 a3 N : Nat) (sz : Int32) (care bits had : Nat → Int32) (sc sb : Int32) (hN : N ≤ 4) : Met l y_Products_numberOf (ct y_Products_numberOf b_Products_numberOf 6 (some .int)) ({ frames := 0, cells := 0, slots := 0, locals := 0 }) (va_Pc [.ref a0, .int sc, .int sb] (fun U => va_P (dC, dI) classes (wP cI a0 a1 a2 a3 (nI N) sz care bits had) U.heap ∧ va_K (dC, dI) classes [(cI, .int), (cJ, .long)] U)) (vp_Si (fun r => r = fNum N sc sb)) 0 0 (fun _ => False) := by
  refine Met.ofW (cc := b_Products_numberOf) (maxL := 6) (ret := some .int) (by decide) rfl ?_
  intro p e s m args below meth c s₁ B hml hv
  obtain ⟨rfl, hP, hK⟩ := hv
  have hx := B.exec
  have hb := B.bytes
  have hr := B.returns
  have hts : ∀ w ∈ lwg, w.before _ s = true := fun w h => atoms_spec (ws := ct y_Products_numberOf b_Products_numberOf 6 (some .int)) B.pre w (List.mem_cons_of_mem _ h)
  have hown : s.vm.findClass R_Products = some m.cls := findClass_of_methodNamed B.named
  have hlocks := B.notSynchronized
  have hl := lv_entry ([.ref a0, .int sc, .int sb]) (n := 6) (Nat.le_of_ble_eq_true rfl)
  rw [lg_entry_eq]
  generalize (lg_sl ([.ref a0, .int sc, .int sb]) ++ List.replicate (6 - (lg_sl ([.ref a0, .int sc, .int sb])).length) Slot.unset).toArray = ls at hl ⊢
  have hl : lv_has ls 6 [(0, .ref a0), (1, .int sc), (2, .int sb)] := hl
  refine lv_iconst (v := 0) hx hb d_Products_numberOf_0 (by decide) ?_
  refine lv_istore_n (lv' := [(3, .int 0), (0, .ref a0), (1, .int sc), (2, .int sb)]) hx hb d_Products_numberOf_1 rfl hl (by decide) rfl (fun ls hl => ?_)
  refine lv_iconst (v := 0) hx hb d_Products_numberOf_2 (by decide) ?_
  refine lv_istore (lv' := [(4, .int 0), (3, .int 0), (0, .ref a0), (1, .int sc), (2, .int sb)]) hx hb d_Products_numberOf_3 hl (by decide) rfl (fun ls hl => ?_)
  exact lp_Products_numberOf l dC dI cI cJ a0 a1 a2 a3 N sz care bits had sc sb hN hx hb hr hts hown hlocks hml hP hK (N + 1) 0 (by omega) (Nat.zero_le _) ls (lv_sub hl [2, 3, 4, 1, 0] rfl)
