/-! ===== CoverFinder.quickPick ===== -/
/-- the prime that the quick cover takes next, of the first k; how many points it has -/
def fQP (pts cst : Nat → Int32) (op : Int32) (k : Nat) : Int32 × Int32 := itr (fun k x => if x.2 < bcI (pts k &&& op) then (nI k, bcI (pts k &&& op)) else if x.1 = -1 then x else if bcI (pts k &&& op) = x.2 then (if cst x.1.toNatClampNeg ≤ cst k then x else (nI k, bcI (pts k &&& op))) else x) k (-1, 0)
theorem fQP_in (pts cst : Nat → Int32) (op : Int32) (k : Nat) (hk : k ≤ 81) : (fQP pts cst op k).1 = -1 ∨ vp_in (fQP pts cst op k).1 81 := by
  induction k with
  | zero => exact Or.inl rfl
  | succ k ih =>
    have h1 := ih (by omega)
    have h2 : vp_in (nI k) 81 := vp_in_nI (by omega) (by omega)
    show (if _ then _ else if _ then _ else if _ then (if _ then _ else _) else _ : Int32 × Int32).1 = -1 ∨ vp_in (if _ then _ else if _ then _ else if _ then (if _ then _ else _) else _ : Int32 × Int32).1 81
    split
    · exact Or.inr h2
    · split
      · exact h1
      · split
        · split
          · exact h1
          · exact Or.inr h2
        · exact h1
set_option maxHeartbeats 1000000 in
set_option maxRecDepth 100000 in
theorem lp_CoverFinder_quickPick {p : Program} {e : Env} {s : State} {m : MethodId} {args : Array Value} {below : List Frame} {meth : Method} {c : Code} (l : Launch) (dC : Nat → ClassId) (dI : Nat → Nat → Nat) (cI cJ : ClassId) (g0 : Nat) (g1 : Nat) (g2 : Nat) (g3 : Nat) (g4 : Nat) (g5 : Nat) (ou : Int32) (K : Nat) (ap : Int32) (fd : Int64) (fw : Int64) (pts : Nat → Int32) (cst : Nat → Int32) (wts : Nat → Int64) (hav : Nat → Int64) (pck : Nat → Int32) (op : Int32) (hK1 : K ≤ 81) (hx : p.tables.exec = Jvm.exec) (hb : c.code = b_CoverFinder_quickPick) (hr : meth.sig.returnType = some .int) (hts : ∀ w ∈ lwg, w.before args s = true) (hown : s.vm.findClass R_CoverFinder = some m.cls) (hlocks : meth.locks = false) (hml : c.maxLocals = 6) (hP : va_P (dC, dI) classes [(g0, .inr (0, [.int ou, .ref g1, .ref g2, .ref g3, .ref g4, .ref g5, .int ((nI K)), .int ap, .long fd, .long fw])), (g1, .inl (cI, 81, .inl pts)), (g2, .inl (cI, 81, .inl cst)), (g3, .inl (cJ, 81, .inr (.inl wts))), (g4, .inl (cJ, 32, .inr (.inl hav))), (g5, .inl (cI, 32, .inl pck))] s.heap) (hK : va_K (dC, dI) classes [(cI, .int), (cJ, .long)] s) : ∀ (fu i : Nat), K - i < fu → i ≤ K → ∀ ls : Array Slot, lv_has ls 6 [(0, .ref g0), (1, .int op), (2, .int ((fQP pts cst op i).1)), (3, .int ((fQP pts cst op i).2)), (4, .int ((nI i)))] → W p l e ({ frames := 1, cells := 0, slots := 0, locals := 20 } : Room) s m args below meth c s.heap [] 0 0 (MQ below (vp_Si (fun r => r = (fQP pts cst op K).1)) args s 0 0 (fun _ => False)) (F0 m 7 ls []) := by
  intro fu
  induction fu with
  | zero => intro i h; omega
  | succ fu ih =>
    intro i hfu hle ls hl
    refine lv_iload hx hb d_CoverFinder_quickPick_7 (lv_at hl 4 rfl) ?_
    refine lv_aload_n hx hb d_CoverFinder_quickPick_9 rfl (lv_at hl 0 rfl) ?_
    refine va_get (D := (dC, dI)) (ci := 0) (v := .int ((nI K))) (C := R_CoverFinder) (T := F_CoverFinder) (N := 10) hx hb hts i_CoverFinder hown hK hP 0 rfl rfl 6 (by decide) (hts _ mw_fl_CoverFinder_51) (fun _ h9 => h9) rfl d_CoverFinder_quickPick_10 ?_
    refine lv_icmp_ge (tgt := 75) hx hb d_CoverFinder_quickPick_13 (by decide) (fun c_13 => ?_) (fun c_13 => ?_)
    · have hE : i = K := Nat.le_antisymm hle ((nI_leI (a := K) (b := i) (by omega) (by omega)).mp c_13)
      refine lv_iload_n hx hb d_CoverFinder_quickPick_75 rfl (lv_at hl 2 rfl) ?_
      exact W.iret (v := (fQP pts cst op i).1) hx hb hr (fun t ht hW => ⟨_, rfl, by subst hE; rfl, ht⟩) (fun q h => by cases h) d_CoverFinder_quickPick_76
    · have hlt : i < K := Nat.lt_of_not_le (fun h => c_13 ((nI_leI (a := K) (b := i) (by omega) (by omega)).mpr h))
      refine lv_aload_n hx hb d_CoverFinder_quickPick_16 rfl (lv_at hl 0 rfl) ?_
      refine va_get (D := (dC, dI)) (ci := 0) (v := .ref g1) (C := R_CoverFinder) (T := F_CoverFinder) (N := 10) hx hb hts i_CoverFinder hown hK hP 0 rfl rfl 1 (by decide) (hts _ mw_fl_CoverFinder_9) (fun _ h9 => h9) rfl d_CoverFinder_quickPick_17 ?_
      refine lv_iload hx hb d_CoverFinder_quickPick_20 (lv_at hl 4 rfl) ?_
      refine va_iald hx hb hK hP 1 0 rfl rfl (vp_in_nI (show i < 81 by omega) (by omega)) d_CoverFinder_quickPick_22 ?_
      refine w_ti (show _ = pts i from by rw [nI_clamp (by omega)]) ?_
      refine lv_iload_n hx hb d_CoverFinder_quickPick_23 rfl (lv_at hl 1 rfl) ?_
      refine lv_iand hx hb d_CoverFinder_quickPick_24 ?_
      refine vp_callSi (W.runS (As := [.int (((pts i) &&& op))]) (rest := []) ⟨hx, hb, hml, hown, hts⟩ (c_JInteger_bitCount_II l dC dI cI cJ ((pts i) &&& op) ) (va_cwS 1 hts (ct_goodT mw_ml_CoverFinder_103 mw_st_JInteger_bitCount_II mw_ini_JInteger mw_code_JInteger_bitCount_II) rfl rfl rfl (by decide +kernel) ⟨Nat.le_of_ble_eq_true rfl, Nat.le_of_ble_eq_true rfl⟩) ⟨fun a U g mk q => by obtain ⟨q0, qP, qK⟩ := q; exact ⟨q0, qP, va_K.moved (u := U) (U := U.calling g mk a) (Vm.Alike.refl U.vm) qK⟩, fun U hU hW => ⟨rfl, by rw [hU]; exact (fun k q h => by simp at h), va_K.moved hW.alike hK⟩⟩ rfl rfl hl.1 rfl (lv_room (Nat.le_of_ble_eq_true rfl)) d_CoverFinder_quickPick_25 ⟨Nat.le_of_ble_eq_true rfl, Nat.le_of_ble_eq_true rfl⟩) (fun r_1 hr_1 => ?_)
      rw [hr_1]
      clear hr_1
      refine lv_istore (lv' := [(5, .int ((bcI ((pts i) &&& op)))), (0, .ref g0), (1, .int op), (2, .int ((fQP pts cst op i).1)), (3, .int ((fQP pts cst op i).2)), (4, .int ((nI i)))]) hx hb d_CoverFinder_quickPick_28 hl (by decide) rfl (fun ls hl => ?_)
      refine lv_iload hx hb d_CoverFinder_quickPick_30 (lv_at hl 0 rfl) ?_
      refine lv_iload_n hx hb d_CoverFinder_quickPick_32 rfl (lv_at hl 4 rfl) ?_
      refine lv_icmp_gt (tgt := 63) hx hb d_CoverFinder_quickPick_33 (by decide) (fun c_33 => ?_) (fun c_33 => ?_)
      · refine lv_iload hx hb d_CoverFinder_quickPick_63 (lv_at hl 5 rfl) ?_
        refine lv_istore_n (lv' := [(2, .int ((nI i))), (5, .int ((bcI ((pts i) &&& op)))), (0, .ref g0), (1, .int op), (3, .int ((fQP pts cst op i).2)), (4, .int ((nI i)))]) hx hb d_CoverFinder_quickPick_65 rfl hl (by decide) rfl (fun ls hl => ?_)
        refine lv_iload hx hb d_CoverFinder_quickPick_66 (lv_at hl 1 rfl) ?_
        refine lv_istore_n (lv' := [(3, .int ((bcI ((pts i) &&& op)))), (2, .int ((nI i))), (5, .int ((bcI ((pts i) &&& op)))), (0, .ref g0), (1, .int op), (4, .int ((nI i)))]) hx hb d_CoverFinder_quickPick_68 rfl hl (by decide) rfl (fun ls hl => ?_)
        refine lv_iinc (v := (nI (i + 1))) (lv' := [(4, .int ((nI (i + 1)))), (3, .int ((bcI ((pts i) &&& op)))), (2, .int ((nI i))), (5, .int ((bcI ((pts i) &&& op)))), (0, .ref g0), (1, .int op)]) hx hb d_CoverFinder_quickPick_69 hl (k := 5) rfl (show nI i + 1 = nI (i + 1) from nI_1 i) (by decide) rfl (fun ls hl => ?_)
        refine lv_goto (tgt := 7) hx hb d_CoverFinder_quickPick_72 (by decide) ?_
        have hs : fQP pts cst op (i + 1) = (nI i, bcI (pts i &&& op)) := if_pos c_33
        exact ih (i + 1) (by omega) (by omega) ls (by rw [hs]; exact lv_sub hl [4, 5, 2, 1, 0] rfl)
      · refine lv_iload_n hx hb d_CoverFinder_quickPick_36 rfl (lv_at hl 3 rfl) ?_
        refine lv_iconst (v := (-1)) hx hb d_CoverFinder_quickPick_37 (by decide) ?_
        refine lv_icmp_eq (tgt := 69) hx hb d_CoverFinder_quickPick_38 (by decide) (fun c_38 => ?_) (fun c_38 => ?_)
        · refine lv_iinc (v := (nI (i + 1))) (lv' := [(4, .int ((nI (i + 1)))), (5, .int ((bcI ((pts i) &&& op)))), (0, .ref g0), (1, .int op), (2, .int ((fQP pts cst op i).1)), (3, .int ((fQP pts cst op i).2))]) hx hb d_CoverFinder_quickPick_69 hl (k := 5) rfl (show nI i + 1 = nI (i + 1) from nI_1 i) (by decide) rfl (fun ls hl => ?_)
          refine lv_goto (tgt := 7) hx hb d_CoverFinder_quickPick_72 (by decide) ?_
          have hs : fQP pts cst op (i + 1) = fQP pts cst op i := (if_neg c_33).trans (if_pos c_38)
          exact ih (i + 1) (by omega) (by omega) ls (by rw [hs]; exact lv_sub hl [2, 3, 4, 5, 0] rfl)
        · refine lv_iload hx hb d_CoverFinder_quickPick_41 (lv_at hl 0 rfl) ?_
          refine lv_iload_n hx hb d_CoverFinder_quickPick_43 rfl (lv_at hl 4 rfl) ?_
          refine lv_icmp_ne (tgt := 69) hx hb d_CoverFinder_quickPick_44 (by decide) (fun c_44 => ?_) (fun c_44 => ?_)
          · refine lv_iinc (v := (nI (i + 1))) (lv' := [(4, .int ((nI (i + 1)))), (5, .int ((bcI ((pts i) &&& op)))), (0, .ref g0), (1, .int op), (2, .int ((fQP pts cst op i).1)), (3, .int ((fQP pts cst op i).2))]) hx hb d_CoverFinder_quickPick_69 hl (k := 5) rfl (show nI i + 1 = nI (i + 1) from nI_1 i) (by decide) rfl (fun ls hl => ?_)
            refine lv_goto (tgt := 7) hx hb d_CoverFinder_quickPick_72 (by decide) ?_
            have hs : fQP pts cst op (i + 1) = fQP pts cst op i := (if_neg c_33).trans ((if_neg c_38).trans (if_neg c_44))
            exact ih (i + 1) (by omega) (by omega) ls (by rw [hs]; exact lv_sub hl [2, 3, 4, 5, 0] rfl)
          · refine lv_aload_n hx hb d_CoverFinder_quickPick_47 rfl (lv_at hl 1 rfl) ?_
            refine va_get (D := (dC, dI)) (ci := 0) (v := .ref g2) (C := R_CoverFinder) (T := F_CoverFinder) (N := 10) hx hb hts i_CoverFinder hown hK hP 0 rfl rfl 2 (by decide) (hts _ mw_fl_CoverFinder_15) (fun _ h9 => h9) rfl d_CoverFinder_quickPick_48 ?_
            refine lv_iload hx hb d_CoverFinder_quickPick_51 (lv_at hl 5 rfl) ?_
            refine va_iald hx hb hK hP 2 0 rfl rfl (vp_in_nI (show i < 81 by omega) (by omega)) d_CoverFinder_quickPick_53 ?_
            refine w_ti (show _ = cst i from by rw [nI_clamp (by omega)]) ?_
            refine lv_aload_n hx hb d_CoverFinder_quickPick_54 rfl (lv_at hl 1 rfl) ?_
            refine va_get (D := (dC, dI)) (ci := 0) (v := .ref g2) (C := R_CoverFinder) (T := F_CoverFinder) (N := 10) hx hb hts i_CoverFinder hown hK hP 0 rfl rfl 2 (by decide) (hts _ mw_fl_CoverFinder_15) (fun _ h9 => h9) rfl d_CoverFinder_quickPick_55 ?_
            refine lv_iload_n hx hb d_CoverFinder_quickPick_58 rfl (lv_at hl 3 rfl) ?_
            refine va_iald hx hb hK hP 2 0 rfl rfl ((fQP_in pts cst op i (by omega)).resolve_left c_38) d_CoverFinder_quickPick_59 ?_
            refine lv_icmp_ge (tgt := 69) hx hb d_CoverFinder_quickPick_60 (by decide) (fun c_60 => ?_) (fun c_60 => ?_)
            · refine lv_iinc (v := (nI (i + 1))) (lv' := [(4, .int ((nI (i + 1)))), (5, .int ((bcI ((pts i) &&& op)))), (0, .ref g0), (1, .int op), (2, .int ((fQP pts cst op i).1)), (3, .int ((fQP pts cst op i).2))]) hx hb d_CoverFinder_quickPick_69 hl (k := 5) rfl (show nI i + 1 = nI (i + 1) from nI_1 i) (by decide) rfl (fun ls hl => ?_)
              refine lv_goto (tgt := 7) hx hb d_CoverFinder_quickPick_72 (by decide) ?_
              have hs : fQP pts cst op (i + 1) = fQP pts cst op i := (if_neg c_33).trans ((if_neg c_38).trans ((if_pos c_44).trans (if_pos c_60)))
              exact ih (i + 1) (by omega) (by omega) ls (by rw [hs]; exact lv_sub hl [2, 3, 4, 5, 0] rfl)
            · refine lv_iload hx hb d_CoverFinder_quickPick_63 (lv_at hl 5 rfl) ?_
              refine lv_istore_n (lv' := [(2, .int ((nI i))), (5, .int ((bcI ((pts i) &&& op)))), (0, .ref g0), (1, .int op), (3, .int ((fQP pts cst op i).2)), (4, .int ((nI i)))]) hx hb d_CoverFinder_quickPick_65 rfl hl (by decide) rfl (fun ls hl => ?_)
              refine lv_iload hx hb d_CoverFinder_quickPick_66 (lv_at hl 1 rfl) ?_
              refine lv_istore_n (lv' := [(3, .int ((bcI ((pts i) &&& op)))), (2, .int ((nI i))), (5, .int ((bcI ((pts i) &&& op)))), (0, .ref g0), (1, .int op), (4, .int ((nI i)))]) hx hb d_CoverFinder_quickPick_68 rfl hl (by decide) rfl (fun ls hl => ?_)
              refine lv_iinc (v := (nI (i + 1))) (lv' := [(4, .int ((nI (i + 1)))), (3, .int ((bcI ((pts i) &&& op)))), (2, .int ((nI i))), (5, .int ((bcI ((pts i) &&& op)))), (0, .ref g0), (1, .int op)]) hx hb d_CoverFinder_quickPick_69 hl (k := 5) rfl (show nI i + 1 = nI (i + 1) from nI_1 i) (by decide) rfl (fun ls hl => ?_)
              refine lv_goto (tgt := 7) hx hb d_CoverFinder_quickPick_72 (by decide) ?_
              have hs : fQP pts cst op (i + 1) = (nI i, bcI (pts i &&& op)) := (if_neg c_33).trans ((if_neg c_38).trans ((if_pos c_44).trans (if_neg c_60)))
              exact ih (i + 1) (by omega) (by omega) ls (by rw [hs]; exact lv_sub hl [4, 5, 2, 1, 0] rfl)
set_option maxHeartbeats 1000000 in
set_option maxRecDepth 100000 in
theorem c_CoverFinder_quickPick (l : Launch) (dC : Nat → ClassId) (dI : Nat → Nat → Nat) (cI cJ : ClassId) (g0 : Nat) (g1 : Nat) (g2 : Nat) (g3 : Nat) (g4 : Nat) (g5 : Nat) (ou : Int32) (K : Nat) (ap : Int32) (fd : Int64) (fw : Int64) (pts : Nat → Int32) (cst : Nat → Int32) (wts : Nat → Int64) (hav : Nat → Int64) (pck : Nat → Int32) (op : Int32) (hK1 : K ≤ 81) : Met l y_CoverFinder_quickPick (ct y_CoverFinder_quickPick b_CoverFinder_quickPick 6 (some .int)) ({ frames := 1, cells := 0, slots := 0, locals := 20 }) (va_Pc [.ref g0, .int op] (fun U => va_P (dC, dI) classes [(g0, .inr (0, [.int ou, .ref g1, .ref g2, .ref g3, .ref g4, .ref g5, .int ((nI K)), .int ap, .long fd, .long fw])), (g1, .inl (cI, 81, .inl pts)), (g2, .inl (cI, 81, .inl cst)), (g3, .inl (cJ, 81, .inr (.inl wts))), (g4, .inl (cJ, 32, .inr (.inl hav))), (g5, .inl (cI, 32, .inl pck))] U.heap ∧ va_K (dC, dI) classes [(cI, .int), (cJ, .long)] U)) (vp_Si (fun r => r = (fQP pts cst op K).1)) 0 0 (fun _ => False) := by
  refine Met.ofW (cc := b_CoverFinder_quickPick) (maxL := 6) (ret := some .int) (by decide) rfl ?_
  intro p e s m args below meth c s₁ B hml hv
  obtain ⟨rfl, hP, hK⟩ := hv
  have hx := B.exec
  have hb := B.bytes
  have hr := B.returns
  have hts : ∀ w ∈ lwg, w.before _ s = true := fun w h => atoms_spec (ws := ct y_CoverFinder_quickPick b_CoverFinder_quickPick 6 (some .int)) B.pre w (List.mem_cons_of_mem _ h)
  have hown : s.vm.findClass R_CoverFinder = some m.cls := findClass_of_methodNamed B.named
  have hlocks := B.notSynchronized
  have hl := lv_entry ([.ref g0, .int op]) (n := 6) (Nat.le_of_ble_eq_true rfl)
  rw [lg_entry_eq]
  generalize (lg_sl ([.ref g0, .int op]) ++ List.replicate (6 - (lg_sl ([.ref g0, .int op])).length) Slot.unset).toArray = ls at hl ⊢
  have hl : lv_has ls 6 [(0, .ref g0), (1, .int op)] := hl
  refine lv_iconst (v := (-1)) hx hb d_CoverFinder_quickPick_0 (by decide) ?_
  refine lv_istore_n (lv' := [(2, .int ((-1))), (0, .ref g0), (1, .int op)]) hx hb d_CoverFinder_quickPick_1 rfl hl (by decide) rfl (fun ls hl => ?_)
  refine lv_iconst (v := 0) hx hb d_CoverFinder_quickPick_2 (by decide) ?_
  refine lv_istore_n (lv' := [(3, .int 0), (2, .int ((-1))), (0, .ref g0), (1, .int op)]) hx hb d_CoverFinder_quickPick_3 rfl hl (by decide) rfl (fun ls hl => ?_)
  refine lv_iconst (v := 0) hx hb d_CoverFinder_quickPick_4 (by decide) ?_
  refine lv_istore (lv' := [(4, .int 0), (3, .int 0), (2, .int ((-1))), (0, .ref g0), (1, .int op)]) hx hb d_CoverFinder_quickPick_5 hl (by decide) rfl (fun ls hl => ?_)
  exact lp_CoverFinder_quickPick l dC dI cI cJ g0 g1 g2 g3 g4 g5 ou K ap fd fw pts cst wts hav pck op hK1 hx hb hr hts hown hlocks hml hP hK (K + 1) 0 (by omega) (Nat.zero_le _) ls (lv_sub hl [3, 4, 2, 1, 0] rfl)
