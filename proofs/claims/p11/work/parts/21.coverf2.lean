/-! ===== CoverFinder: reading, second part ===== -/
def fDom (pts : Nat → Int32) (wts : Nat → Int64) (us : Int64) (mine : Int32) (k j : Nat) : Bool := !decide (fIn us (nI j) = 0) && (!decide (0 ≤ lg_cmp (wts j) (wts k)) && decide (mine &&& (pts j ^^^ (-1)) = 0))
theorem fDom_t {pts : Nat → Int32} {wts : Nat → Int64} {us : Int64} {mine : Int32} {k j : Nat} (h1 : ¬ fIn us (nI j) = 0) (h2 : ¬ 0 ≤ lg_cmp (wts j) (wts k)) (h3 : mine &&& (pts j ^^^ (-1)) = 0) : fDom pts wts us mine k j = true := by unfold fDom; rw [decide_eq_false h1, decide_eq_false h2, decide_eq_true h3]; rfl
theorem fDom_f1 {pts : Nat → Int32} {wts : Nat → Int64} {us : Int64} {mine : Int32} {k j : Nat} (h1 : fIn us (nI j) = 0) : fDom pts wts us mine k j = false := by unfold fDom; rw [decide_eq_true h1]; rfl
theorem fDom_f2 {pts : Nat → Int32} {wts : Nat → Int64} {us : Int64} {mine : Int32} {k j : Nat} (h2 : 0 ≤ lg_cmp (wts j) (wts k)) : fDom pts wts us mine k j = false := by unfold fDom; rw [decide_eq_true h2]; simp
theorem fDom_f3 {pts : Nat → Int32} {wts : Nat → Int64} {us : Int64} {mine : Int32} {k j : Nat} (h3 : ¬ mine &&& (pts j ^^^ (-1)) = 0) : fDom pts wts us mine k j = false := by unfold fDom; rw [decide_eq_false h3, Bool.and_false, Bool.and_false]
def fDomi (pts : Nat → Int32) (wts : Nat → Int64) (K : Nat) (us : Int64) (op : Int32) (k : Nat) : Int32 := if pts k &&& op = 0 then 1 else if anyB (fDom pts wts us (pts k &&& op) k) K then 1 else 0
def fWout (pts : Nat → Int32) (wts : Nat → Int64) (K : Nat) (us : Int64) (op : Int32) (k : Nat) : Int64 := itr (fun k acc => if fIn us (nI k) = 0 then acc else if fDomi pts wts K us op k = 0 then acc else acc &&& ((1 <<< ((nI k).toInt64 &&& 63)) ^^^ (-1))) k us
set_option maxHeartbeats 1000000 in
set_option maxRecDepth 100000 in
theorem lp_CoverFinder_rarestPoint {p : Program} {e : Env} {s : State} {m : MethodId} {args : Array Value} {below : List Frame} {meth : Method} {c : Code} (l : Launch) (dC : Nat → ClassId) (dI : Nat → Nat → Nat) (cI cJ : ClassId) (g0 : Nat) (g1 : Nat) (g2 : Nat) (g3 : Nat) (g4 : Nat) (g5 : Nat) (ou : Int32) (K : Nat) (ap : Int32) (fd : Int64) (fw : Int64) (pts : Nat → Int32) (cst : Nat → Int32) (wts : Nat → Int64) (hav : Nat → Int64) (pck : Nat → Int32) (op : Int32) (us : Int64)  (hx : p.tables.exec = Jvm.exec) (hb : c.code = b_CoverFinder_rarestPoint) (hr : meth.sig.returnType = some .int) (hts : ∀ w ∈ lwg, w.before args s = true) (hown : s.vm.findClass R_CoverFinder = some m.cls) (hlocks : meth.locks = false) (hml : c.maxLocals = 8) (hP : va_P (dC, dI) classes [(g0, .inr (0, [.int ou, .ref g1, .ref g2, .ref g3, .ref g4, .ref g5, .int ((nI K)), .int ap, .long fd, .long fw])), (g1, .inl (cI, 81, .inl pts)), (g2, .inl (cI, 81, .inl cst)), (g3, .inl (cJ, 81, .inr (.inl wts))), (g4, .inl (cJ, 32, .inr (.inl hav))), (g5, .inl (cI, 32, .inl pck))] s.heap) (hK : va_K (dC, dI) classes [(cI, .int), (cJ, .long)] s) : ∀ (fu i : Nat), 32 - i < fu → i ≤ 32 → ∀ ls : Array Slot, lv_has ls 8 [(0, .ref g0), (1, .int op), (2, .long us), (4, .int ((fRar hav op us i).1)), (5, .int ((fRar hav op us i).2)), (6, .int ((nI i)))] → W p l e ({ frames := 1, cells := 0, slots := 0, locals := 21 } : Room) s m args below meth c s.heap [] 0 0 (MQ below (vp_Si (fun r => r = (fRar hav op us 32).1)) args s 0 0 (fun _ => False)) (F0 m 10 ls []) := by
  intro fu
  induction fu with
  | zero => intro i h; omega
  | succ fu ih =>
    intro i hfu hle ls hl
    refine lv_iload hx hb d_CoverFinder_rarestPoint_10 (lv_at hl 5 rfl) ?_
    refine lv_bipush (v := 32) hx hb d_CoverFinder_rarestPoint_12 (by decide) ?_
    refine lv_icmp_ge (tgt := 62) hx hb d_CoverFinder_rarestPoint_14 (by decide) (fun c_14 => ?_) (fun c_14 => ?_)
    · have hE : i = 32 := Nat.le_antisymm hle ((nI_leI (a := 32) (b := i) (by omega) (by omega)).mp c_14)
      refine lv_iload hx hb d_CoverFinder_rarestPoint_62 (lv_at hl 3 rfl) ?_
      exact W.iret (v := (fRar hav op us i).1) hx hb hr (fun t ht hW => ⟨_, rfl, by subst hE; rfl, ht⟩) (fun q h => by cases h) d_CoverFinder_rarestPoint_64
    · have hlt : i < 32 := Nat.lt_of_not_le (fun h => c_14 ((nI_leI (a := 32) (b := i) (by omega) (by omega)).mpr h))
      refine lv_iload_n hx hb d_CoverFinder_rarestPoint_17 rfl (lv_at hl 1 rfl) ?_
      refine lv_iload hx hb d_CoverFinder_rarestPoint_18 (lv_at hl 5 rfl) ?_
      refine lv_ishr hx hb d_CoverFinder_rarestPoint_20 ?_
      refine lv_iconst (v := 1) hx hb d_CoverFinder_rarestPoint_21 (by decide) ?_
      refine lv_iand hx hb d_CoverFinder_rarestPoint_22 ?_
      refine lv_iconst (v := 1) hx hb d_CoverFinder_rarestPoint_23 (by decide) ?_
      refine lv_icmp_ne (tgt := 56) hx hb d_CoverFinder_rarestPoint_24 (by decide) (fun c_24 => ?_) (fun c_24 => ?_)
      · refine lv_iinc (v := (nI (i + 1))) (lv' := [(6, .int ((nI (i + 1)))), (0, .ref g0), (1, .int op), (2, .long us), (4, .int ((fRar hav op us i).1)), (5, .int ((fRar hav op us i).2))]) hx hb d_CoverFinder_rarestPoint_56 hl (k := 5) rfl (show nI i + 1 = nI (i + 1) from nI_1 i) (by decide) rfl (fun ls hl => ?_)
        refine lv_goto (tgt := 10) hx hb d_CoverFinder_rarestPoint_59 (by decide) ?_
        have hs : fRar hav op us (i + 1) = fRar hav op us i := if_neg c_24
        exact ih (i + 1) (by omega) (by omega) ls (by rw [hs]; exact lv_sub hl [1, 2, 3, 4, 5, 0] rfl)
      · refine lv_aload_n hx hb d_CoverFinder_rarestPoint_27 rfl (lv_at hl 0 rfl) ?_
        refine va_get (D := (dC, dI)) (ci := 0) (v := .ref g4) (C := R_CoverFinder) (T := F_CoverFinder) (N := 10) hx hb hts i_CoverFinder hown hK hP 0 rfl rfl 4 (by decide) (hts _ mw_fl_CoverFinder_22) (fun _ h9 => h9) rfl d_CoverFinder_rarestPoint_28 ?_
        refine lv_iload hx hb d_CoverFinder_rarestPoint_31 (lv_at hl 5 rfl) ?_
        refine va_lald hx hb hK hP 4 1 rfl rfl (vp_in_nI hlt (by omega)) d_CoverFinder_rarestPoint_33 ?_
        refine w_tl (show _ = hav i from by rw [nI_clamp (by omega)]) ?_
        refine lv_lload_n hx hb d_CoverFinder_rarestPoint_34 rfl (lv_at hl 2 rfl) ?_
        refine lv_land hx hb d_CoverFinder_rarestPoint_35 ?_
        refine vp_callSi (W.runS (As := [.long (((hav i) &&& us))]) (rest := []) ⟨hx, hb, hml, hown, hts⟩ (c_JLong_bitCount_JI l dC dI cI cJ ((hav i) &&& us) ) (va_cwS 1 hts (ct_goodT mw_ml_CoverFinder_116 mw_st_JLong_bitCount_JI mw_ini_JLong mw_code_JLong_bitCount_JI) rfl rfl rfl (by decide +kernel) ⟨Nat.le_of_ble_eq_true rfl, Nat.le_of_ble_eq_true rfl⟩) ⟨fun a U g mk q => by obtain ⟨q0, qP, qK⟩ := q; exact ⟨q0, qP, va_K.moved (u := U) (U := U.calling g mk a) (Vm.Alike.refl U.vm) qK⟩, fun U hU hW => ⟨rfl, by rw [hU]; exact (fun k q h => by simp at h), va_K.moved hW.alike hK⟩⟩ rfl rfl hl.1 rfl (lv_room (Nat.le_of_ble_eq_true rfl)) d_CoverFinder_rarestPoint_36 ⟨Nat.le_of_ble_eq_true rfl, Nat.le_of_ble_eq_true rfl⟩) (fun r_1 hr_1 => ?_)
        rw [hr_1]
        clear hr_1
        refine lv_istore (lv' := [(7, .int ((bcL ((hav i) &&& us)))), (0, .ref g0), (1, .int op), (2, .long us), (4, .int ((fRar hav op us i).1)), (5, .int ((fRar hav op us i).2)), (6, .int ((nI i)))]) hx hb d_CoverFinder_rarestPoint_39 hl (by decide) rfl (fun ls hl => ?_)
        refine lv_iload hx hb d_CoverFinder_rarestPoint_41 (lv_at hl 0 rfl) ?_
        refine lv_iload hx hb d_CoverFinder_rarestPoint_43 (lv_at hl 5 rfl) ?_
        refine lv_icmp_ge (tgt := 56) hx hb d_CoverFinder_rarestPoint_45 (by decide) (fun c_45 => ?_) (fun c_45 => ?_)
        · refine lv_iinc (v := (nI (i + 1))) (lv' := [(6, .int ((nI (i + 1)))), (7, .int ((bcL ((hav i) &&& us)))), (0, .ref g0), (1, .int op), (2, .long us), (4, .int ((fRar hav op us i).1)), (5, .int ((fRar hav op us i).2))]) hx hb d_CoverFinder_rarestPoint_56 hl (k := 6) rfl (show nI i + 1 = nI (i + 1) from nI_1 i) (by decide) rfl (fun ls hl => ?_)
          refine lv_goto (tgt := 10) hx hb d_CoverFinder_rarestPoint_59 (by decide) ?_
          have hs : fRar hav op us (i + 1) = fRar hav op us i := (if_pos c_24).trans (if_pos c_45)
          exact ih (i + 1) (by omega) (by omega) ls (by rw [hs]; exact lv_sub hl [2, 3, 4, 5, 6, 0] rfl)
        · refine lv_iload hx hb d_CoverFinder_rarestPoint_48 (lv_at hl 0 rfl) ?_
          refine lv_istore (lv' := [(5, .int ((bcL ((hav i) &&& us)))), (7, .int ((bcL ((hav i) &&& us)))), (0, .ref g0), (1, .int op), (2, .long us), (4, .int ((fRar hav op us i).1)), (6, .int ((nI i)))]) hx hb d_CoverFinder_rarestPoint_50 hl (by decide) rfl (fun ls hl => ?_)
          refine lv_iload hx hb d_CoverFinder_rarestPoint_52 (lv_at hl 6 rfl) ?_
          refine lv_istore (lv' := [(4, .int ((nI i))), (5, .int ((bcL ((hav i) &&& us)))), (7, .int ((bcL ((hav i) &&& us)))), (0, .ref g0), (1, .int op), (2, .long us), (6, .int ((nI i)))]) hx hb d_CoverFinder_rarestPoint_54 hl (by decide) rfl (fun ls hl => ?_)
          refine lv_iinc (v := (nI (i + 1))) (lv' := [(6, .int ((nI (i + 1)))), (4, .int ((nI i))), (5, .int ((bcL ((hav i) &&& us)))), (7, .int ((bcL ((hav i) &&& us)))), (0, .ref g0), (1, .int op), (2, .long us)]) hx hb d_CoverFinder_rarestPoint_56 hl (k := 6) rfl (show nI i + 1 = nI (i + 1) from nI_1 i) (by decide) rfl (fun ls hl => ?_)
          refine lv_goto (tgt := 10) hx hb d_CoverFinder_rarestPoint_59 (by decide) ?_
          have hs : fRar hav op us (i + 1) = (nI i, bcL (hav i &&& us)) := (if_pos c_24).trans (if_neg c_45)
          exact ih (i + 1) (by omega) (by omega) ls (by rw [hs]; exact lv_sub hl [4, 5, 6, 1, 2, 0] rfl)
set_option maxHeartbeats 1000000 in
set_option maxRecDepth 100000 in
theorem c_CoverFinder_rarestPoint (l : Launch) (dC : Nat → ClassId) (dI : Nat → Nat → Nat) (cI cJ : ClassId) (g0 : Nat) (g1 : Nat) (g2 : Nat) (g3 : Nat) (g4 : Nat) (g5 : Nat) (ou : Int32) (K : Nat) (ap : Int32) (fd : Int64) (fw : Int64) (pts : Nat → Int32) (cst : Nat → Int32) (wts : Nat → Int64) (hav : Nat → Int64) (pck : Nat → Int32) (op : Int32) (us : Int64) : Met l y_CoverFinder_rarestPoint (ct y_CoverFinder_rarestPoint b_CoverFinder_rarestPoint 8 (some .int)) ({ frames := 1, cells := 0, slots := 0, locals := 21 }) (va_Pc [.ref g0, .int op, .long us] (fun U => va_P (dC, dI) classes [(g0, .inr (0, [.int ou, .ref g1, .ref g2, .ref g3, .ref g4, .ref g5, .int ((nI K)), .int ap, .long fd, .long fw])), (g1, .inl (cI, 81, .inl pts)), (g2, .inl (cI, 81, .inl cst)), (g3, .inl (cJ, 81, .inr (.inl wts))), (g4, .inl (cJ, 32, .inr (.inl hav))), (g5, .inl (cI, 32, .inl pck))] U.heap ∧ va_K (dC, dI) classes [(cI, .int), (cJ, .long)] U)) (vp_Si (fun r => r = (fRar hav op us 32).1)) 0 0 (fun _ => False) := by
  refine Met.ofW (cc := b_CoverFinder_rarestPoint) (maxL := 8) (ret := some .int) (by decide) rfl ?_
  intro p e s m args below meth c s₁ B hml hv
  obtain ⟨rfl, hP, hK⟩ := hv
  have hx := B.exec
  have hb := B.bytes
  have hr := B.returns
  have hts : ∀ w ∈ lwg, w.before _ s = true := fun w h => atoms_spec (ws := ct y_CoverFinder_rarestPoint b_CoverFinder_rarestPoint 8 (some .int)) B.pre w (List.mem_cons_of_mem _ h)
  have hown : s.vm.findClass R_CoverFinder = some m.cls := findClass_of_methodNamed B.named
  have hlocks := B.notSynchronized
  have hl := lv_entry ([.ref g0, .int op, .long us]) (n := 8) (Nat.le_of_ble_eq_true rfl)
  rw [lg_entry_eq]
  generalize (lg_sl ([.ref g0, .int op, .long us]) ++ List.replicate (8 - (lg_sl ([.ref g0, .int op, .long us])).length) Slot.unset).toArray = ls at hl ⊢
  have hl : lv_has ls 8 [(0, .ref g0), (1, .int op), (2, .long us)] := hl
  refine lv_iconst (v := 0) hx hb d_CoverFinder_rarestPoint_0 (by decide) ?_
  refine lv_istore (lv' := [(4, .int 0), (0, .ref g0), (1, .int op), (2, .long us)]) hx hb d_CoverFinder_rarestPoint_1 hl (by decide) rfl (fun ls hl => ?_)
  refine lv_bipush (v := 65) hx hb d_CoverFinder_rarestPoint_3 (by decide) ?_
  refine lv_istore (lv' := [(5, .int 65), (4, .int 0), (0, .ref g0), (1, .int op), (2, .long us)]) hx hb d_CoverFinder_rarestPoint_5 hl (by decide) rfl (fun ls hl => ?_)
  refine lv_iconst (v := 0) hx hb d_CoverFinder_rarestPoint_7 (by decide) ?_
  refine lv_istore (lv' := [(6, .int 0), (5, .int 65), (4, .int 0), (0, .ref g0), (1, .int op), (2, .long us)]) hx hb d_CoverFinder_rarestPoint_8 hl (by decide) rfl (fun ls hl => ?_)
  exact lp_CoverFinder_rarestPoint l dC dI cI cJ g0 g1 g2 g3 g4 g5 ou K ap fd fw pts cst wts hav pck op us  hx hb hr hts hown hlocks hml hP hK (32 + 1) 0 (by omega) (Nat.zero_le _) ls (lv_sub hl [3, 4, 5, 2, 1, 0] rfl)
set_option maxHeartbeats 1000000 in
set_option maxRecDepth 100000 in
theorem lp_CoverFinder_isDominated {p : Program} {e : Env} {s : State} {m : MethodId} {args : Array Value} {below : List Frame} {meth : Method} {c : Code} (l : Launch) (dC : Nat → ClassId) (dI : Nat → Nat → Nat) (cI cJ : ClassId) (g0 : Nat) (g1 : Nat) (g2 : Nat) (g3 : Nat) (g4 : Nat) (g5 : Nat) (ou : Int32) (K : Nat) (ap : Int32) (fd : Int64) (fw : Int64) (pts : Nat → Int32) (cst : Nat → Int32) (wts : Nat → Int64) (hav : Nat → Int64) (pck : Nat → Int32) (k : Nat) (op : Int32) (us : Int64) (hK1 : K ≤ 81) (hk : k < 81) (hx : p.tables.exec = Jvm.exec) (hb : c.code = b_CoverFinder_isDominated) (hr : meth.sig.returnType = some .boolean) (hts : ∀ w ∈ lwg, w.before args s = true) (hown : s.vm.findClass R_CoverFinder = some m.cls) (hlocks : meth.locks = false) (hml : c.maxLocals = 7) (hP : va_P (dC, dI) classes [(g0, .inr (0, [.int ou, .ref g1, .ref g2, .ref g3, .ref g4, .ref g5, .int ((nI K)), .int ap, .long fd, .long fw])), (g1, .inl (cI, 81, .inl pts)), (g2, .inl (cI, 81, .inl cst)), (g3, .inl (cJ, 81, .inr (.inl wts))), (g4, .inl (cJ, 32, .inr (.inl hav))), (g5, .inl (cI, 32, .inl pck))] s.heap) (hK : va_K (dC, dI) classes [(cI, .int), (cJ, .long)] s) : ∀ (fu i : Nat), K - i < fu → i ≤ K → (anyB (fDom pts wts us (pts k &&& op) k) i = false ∧ ¬ pts k &&& op = 0) → ∀ ls : Array Slot, lv_has ls 7 [(0, .ref g0), (1, .int ((nI k))), (2, .int op), (3, .long us), (5, .int ((pts k &&& op))), (6, .int ((nI i)))] → W p l e ({ frames := 1, cells := 0, slots := 0, locals := 22 } : Room) s m args below meth c s.heap [] 0 0 (MQ below (vp_Si (fun r => r = fDomi pts wts K us op k)) args s 0 0 (fun _ => False)) (F0 m 20 ls []) := by
  intro fu
  induction fu with
  | zero => intro i h; omega
  | succ fu ih =>
    intro i hfu hle hI ls hl
    refine lv_iload hx hb d_CoverFinder_isDominated_20 (lv_at hl 5 rfl) ?_
    refine lv_aload_n hx hb d_CoverFinder_isDominated_22 rfl (lv_at hl 0 rfl) ?_
    refine va_get (D := (dC, dI)) (ci := 0) (v := .int ((nI K))) (C := R_CoverFinder) (T := F_CoverFinder) (N := 10) hx hb hts i_CoverFinder hown hK hP 0 rfl rfl 6 (by decide) (hts _ mw_fl_CoverFinder_51) (fun _ h9 => h9) rfl d_CoverFinder_isDominated_23 ?_
    refine lv_icmp_ge (tgt := 78) hx hb d_CoverFinder_isDominated_26 (by decide) (fun c_26 => ?_) (fun c_26 => ?_)
    · have hE : i = K := Nat.le_antisymm hle ((nI_leI (by omega) (by omega)).mp c_26)
      subst hE
      refine lv_iconst (v := 0) hx hb d_CoverFinder_isDominated_78 (by decide) ?_
      exact W.zret (v := 0) hx hb hr (by decide) (fun t ht hW => ⟨_, rfl, (by unfold fDomi; rw [if_neg hI.2, hI.1]; rfl), ht⟩) (fun q h => by cases h) d_CoverFinder_isDominated_79
    · have hlt : i < K := Nat.lt_of_not_le (fun h => c_26 ((nI_leI (by omega) (by omega)).mpr h))
      refine lv_lload_n hx hb d_CoverFinder_isDominated_29 rfl (lv_at hl 3 rfl) ?_
      refine lv_iload hx hb d_CoverFinder_isDominated_30 (lv_at hl 5 rfl) ?_
      refine vp_callSi (W.runS (As := [.long us, .int ((nI i))]) (rest := []) ⟨hx, hb, hml, hown, hts⟩ (c_CoverFinder_isIn l dC dI cI cJ us (nI i) ) (va_cwS 2 hts (ct_goodT mw_ml_CoverFinder_92 mw_st_CoverFinder_isIn mw_ini_CoverFinder mw_code_CoverFinder_isIn) rfl rfl rfl (by decide +kernel) ⟨Nat.le_of_ble_eq_true rfl, Nat.le_of_ble_eq_true rfl⟩) ⟨fun a U g mk q => by obtain ⟨q0, qP, qK⟩ := q; exact ⟨q0, qP, va_K.moved (u := U) (U := U.calling g mk a) (Vm.Alike.refl U.vm) qK⟩, fun U hU hW => ⟨rfl, by rw [hU]; exact (fun k q h => by simp at h), va_K.moved hW.alike hK⟩⟩ rfl rfl hl.1 rfl (lv_room (Nat.le_of_ble_eq_true rfl)) d_CoverFinder_isDominated_32 ⟨Nat.le_of_ble_eq_true rfl, Nat.le_of_ble_eq_true rfl⟩) (fun r_1 hr_1 => ?_)
      rw [hr_1]
      clear hr_1
      refine lv_if_eq (tgt := 72) hx hb d_CoverFinder_isDominated_35 (by decide) (fun c_35 => ?_) (fun c_35 => ?_)
      · refine lv_iinc (v := (nI (i + 1))) (lv' := [(6, .int ((nI (i + 1)))), (0, .ref g0), (1, .int ((nI k))), (2, .int op), (3, .long us), (5, .int ((pts k &&& op)))]) hx hb d_CoverFinder_isDominated_72 hl (k := 5) rfl (show nI i + 1 = nI (i + 1) from nI_1 i) (by decide) rfl (fun ls hl => ?_)
        refine lv_goto (tgt := 20) hx hb d_CoverFinder_isDominated_75 (by decide) ?_
        exact ih (i + 1) (by omega) (by omega) ⟨by rw [anyB_s, hI.1, fDom_f1 c_35]; rfl, hI.2⟩ ls (lv_sub hl [1, 2, 3, 4, 5, 0] rfl)
      · refine lv_aload_n hx hb d_CoverFinder_isDominated_38 rfl (lv_at hl 0 rfl) ?_
        refine va_get (D := (dC, dI)) (ci := 0) (v := .ref g3) (C := R_CoverFinder) (T := F_CoverFinder) (N := 10) hx hb hts i_CoverFinder hown hK hP 0 rfl rfl 3 (by decide) (hts _ mw_fl_CoverFinder_18) (fun _ h9 => h9) rfl d_CoverFinder_isDominated_39 ?_
        refine lv_iload hx hb d_CoverFinder_isDominated_42 (lv_at hl 5 rfl) ?_
        refine va_lald hx hb hK hP 3 1 rfl rfl (vp_in_nI (show i < 81 by omega) (by omega)) d_CoverFinder_isDominated_44 ?_
        refine w_tl (show _ = wts i from by rw [nI_clamp (by omega)]) ?_
        refine lv_aload_n hx hb d_CoverFinder_isDominated_45 rfl (lv_at hl 0 rfl) ?_
        refine va_get (D := (dC, dI)) (ci := 0) (v := .ref g3) (C := R_CoverFinder) (T := F_CoverFinder) (N := 10) hx hb hts i_CoverFinder hown hK hP 0 rfl rfl 3 (by decide) (hts _ mw_fl_CoverFinder_18) (fun _ h9 => h9) rfl d_CoverFinder_isDominated_46 ?_
        refine lv_iload_n hx hb d_CoverFinder_isDominated_49 rfl (lv_at hl 1 rfl) ?_
        refine va_lald hx hb hK hP 3 1 rfl rfl (vp_in_nI hk (by omega)) d_CoverFinder_isDominated_50 ?_
        refine w_tl (show _ = wts k from by rw [nI_clamp (by omega)]) ?_
        refine W.lcmp hx hb d_CoverFinder_isDominated_51 ?_
        refine lv_if_ge (tgt := 72) hx hb d_CoverFinder_isDominated_52 (by decide) (fun c_52 => ?_) (fun c_52 => ?_)
        · refine lv_iinc (v := (nI (i + 1))) (lv' := [(6, .int ((nI (i + 1)))), (0, .ref g0), (1, .int ((nI k))), (2, .int op), (3, .long us), (5, .int ((pts k &&& op)))]) hx hb d_CoverFinder_isDominated_72 hl (k := 5) rfl (show nI i + 1 = nI (i + 1) from nI_1 i) (by decide) rfl (fun ls hl => ?_)
          refine lv_goto (tgt := 20) hx hb d_CoverFinder_isDominated_75 (by decide) ?_
          exact ih (i + 1) (by omega) (by omega) ⟨by rw [anyB_s, hI.1, fDom_f2 c_52]; rfl, hI.2⟩ ls (lv_sub hl [1, 2, 3, 4, 5, 0] rfl)
        · refine lv_iload hx hb d_CoverFinder_isDominated_55 (lv_at hl 4 rfl) ?_
          refine lv_aload_n hx hb d_CoverFinder_isDominated_57 rfl (lv_at hl 0 rfl) ?_
          refine va_get (D := (dC, dI)) (ci := 0) (v := .ref g1) (C := R_CoverFinder) (T := F_CoverFinder) (N := 10) hx hb hts i_CoverFinder hown hK hP 0 rfl rfl 1 (by decide) (hts _ mw_fl_CoverFinder_9) (fun _ h9 => h9) rfl d_CoverFinder_isDominated_58 ?_
          refine lv_iload hx hb d_CoverFinder_isDominated_61 (lv_at hl 5 rfl) ?_
          refine va_iald hx hb hK hP 1 0 rfl rfl (vp_in_nI (show i < 81 by omega) (by omega)) d_CoverFinder_isDominated_63 ?_
          refine w_ti (show _ = pts i from by rw [nI_clamp (by omega)]) ?_
          refine lv_iconst (v := (-1)) hx hb d_CoverFinder_isDominated_64 (by decide) ?_
          refine lv_ixor hx hb d_CoverFinder_isDominated_65 ?_
          refine lv_iand hx hb d_CoverFinder_isDominated_66 ?_
          refine lv_if_ne (tgt := 72) hx hb d_CoverFinder_isDominated_67 (by decide) (fun c_67 => ?_) (fun c_67 => ?_)
          · refine lv_iinc (v := (nI (i + 1))) (lv' := [(6, .int ((nI (i + 1)))), (0, .ref g0), (1, .int ((nI k))), (2, .int op), (3, .long us), (5, .int ((pts k &&& op)))]) hx hb d_CoverFinder_isDominated_72 hl (k := 5) rfl (show nI i + 1 = nI (i + 1) from nI_1 i) (by decide) rfl (fun ls hl => ?_)
            refine lv_goto (tgt := 20) hx hb d_CoverFinder_isDominated_75 (by decide) ?_
            exact ih (i + 1) (by omega) (by omega) ⟨by rw [anyB_s, hI.1, fDom_f3 c_67]; rfl, hI.2⟩ ls (lv_sub hl [1, 2, 3, 4, 5, 0] rfl)
          · refine lv_iconst (v := 1) hx hb d_CoverFinder_isDominated_70 (by decide) ?_
            exact W.zret (v := 1) hx hb hr (by decide) (fun t ht hW => ⟨_, rfl, (by unfold fDomi; rw [if_neg hI.2, if_pos (anyB_t hlt (fDom_t c_35 c_52 c_67))]), ht⟩) (fun q h => by cases h) d_CoverFinder_isDominated_71
set_option maxHeartbeats 1000000 in
set_option maxRecDepth 100000 in
theorem c_CoverFinder_isDominated (l : Launch) (dC : Nat → ClassId) (dI : Nat → Nat → Nat) (cI cJ : ClassId) (g0 : Nat) (g1 : Nat) (g2 : Nat) (g3 : Nat) (g4 : Nat) (g5 : Nat) (ou : Int32) (K : Nat) (ap : Int32) (fd : Int64) (fw : Int64) (pts : Nat → Int32) (cst : Nat → Int32) (wts : Nat → Int64) (hav : Nat → Int64) (pck : Nat → Int32) (k : Nat) (op : Int32) (us : Int64) (hK1 : K ≤ 81) (hk : k < 81) : Met l y_CoverFinder_isDominated (ct y_CoverFinder_isDominated b_CoverFinder_isDominated 7 (some .boolean)) ({ frames := 1, cells := 0, slots := 0, locals := 22 }) (va_Pc [.ref g0, .int ((nI k)), .int op, .long us] (fun U => va_P (dC, dI) classes [(g0, .inr (0, [.int ou, .ref g1, .ref g2, .ref g3, .ref g4, .ref g5, .int ((nI K)), .int ap, .long fd, .long fw])), (g1, .inl (cI, 81, .inl pts)), (g2, .inl (cI, 81, .inl cst)), (g3, .inl (cJ, 81, .inr (.inl wts))), (g4, .inl (cJ, 32, .inr (.inl hav))), (g5, .inl (cI, 32, .inl pck))] U.heap ∧ va_K (dC, dI) classes [(cI, .int), (cJ, .long)] U)) (vp_Si (fun r => r = fDomi pts wts K us op k)) 0 0 (fun _ => False) := by
  refine Met.ofW (cc := b_CoverFinder_isDominated) (maxL := 7) (ret := some .boolean) (by decide) rfl ?_
  intro p e s m args below meth c s₁ B hml hv
  obtain ⟨rfl, hP, hK⟩ := hv
  have hx := B.exec
  have hb := B.bytes
  have hr := B.returns
  have hts : ∀ w ∈ lwg, w.before _ s = true := fun w h => atoms_spec (ws := ct y_CoverFinder_isDominated b_CoverFinder_isDominated 7 (some .boolean)) B.pre w (List.mem_cons_of_mem _ h)
  have hown : s.vm.findClass R_CoverFinder = some m.cls := findClass_of_methodNamed B.named
  have hlocks := B.notSynchronized
  have hl := lv_entry ([.ref g0, .int ((nI k)), .int op, .long us]) (n := 7) (Nat.le_of_ble_eq_true rfl)
  rw [lg_entry_eq]
  generalize (lg_sl ([.ref g0, .int ((nI k)), .int op, .long us]) ++ List.replicate (7 - (lg_sl ([.ref g0, .int ((nI k)), .int op, .long us])).length) Slot.unset).toArray = ls at hl ⊢
  have hl : lv_has ls 7 [(0, .ref g0), (1, .int ((nI k))), (2, .int op), (3, .long us)] := hl
  refine lv_aload_n hx hb d_CoverFinder_isDominated_0 rfl (lv_at hl 0 rfl) ?_
  refine va_get (D := (dC, dI)) (ci := 0) (v := .ref g1) (C := R_CoverFinder) (T := F_CoverFinder) (N := 10) hx hb hts i_CoverFinder hown hK hP 0 rfl rfl 1 (by decide) (hts _ mw_fl_CoverFinder_9) (fun _ h9 => h9) rfl d_CoverFinder_isDominated_1 ?_
  refine lv_iload_n hx hb d_CoverFinder_isDominated_4 rfl (lv_at hl 1 rfl) ?_
  refine va_iald hx hb hK hP 1 0 rfl rfl (vp_in_nI hk (by omega)) d_CoverFinder_isDominated_5 ?_
  refine w_ti (show _ = pts k from by rw [nI_clamp (by omega)]) ?_
  refine lv_iload_n hx hb d_CoverFinder_isDominated_6 rfl (lv_at hl 2 rfl) ?_
  refine lv_iand hx hb d_CoverFinder_isDominated_7 ?_
  refine lv_istore (lv' := [(5, .int (((pts k) &&& op))), (0, .ref g0), (1, .int ((nI k))), (2, .int op), (3, .long us)]) hx hb d_CoverFinder_isDominated_8 hl (by decide) rfl (fun ls hl => ?_)
  refine lv_iload hx hb d_CoverFinder_isDominated_10 (lv_at hl 0 rfl) ?_
  refine lv_if_ne (tgt := 17) hx hb d_CoverFinder_isDominated_12 (by decide) (fun c_12 => ?_) (fun c_12 => ?_)
  · refine lv_iconst (v := 0) hx hb d_CoverFinder_isDominated_17 (by decide) ?_
    refine lv_istore (lv' := [(6, .int 0), (5, .int (((pts k) &&& op))), (0, .ref g0), (1, .int ((nI k))), (2, .int op), (3, .long us)]) hx hb d_CoverFinder_isDominated_18 hl (by decide) rfl (fun ls hl => ?_)
    exact lp_CoverFinder_isDominated l dC dI cI cJ g0 g1 g2 g3 g4 g5 ou K ap fd fw pts cst wts hav pck k op us hK1 hk hx hb hr hts hown hlocks hml hP hK (K + 1) 0 (by omega) (Nat.zero_le _) ⟨rfl, c_12⟩ ls (lv_sub hl [2, 3, 4, 5, 1, 0] rfl)
  · refine lv_iconst (v := 1) hx hb d_CoverFinder_isDominated_15 (by decide) ?_
    exact W.zret (v := 1) hx hb hr (by decide) (fun t ht hW => ⟨_, rfl, (if_pos c_12).symm, ht⟩) (fun q h => by cases h) d_CoverFinder_isDominated_16
set_option maxHeartbeats 1000000 in
set_option maxRecDepth 100000 in
theorem lp_CoverFinder_withoutDominated {p : Program} {e : Env} {s : State} {m : MethodId} {args : Array Value} {below : List Frame} {meth : Method} {c : Code} (l : Launch) (dC : Nat → ClassId) (dI : Nat → Nat → Nat) (cI cJ : ClassId) (g0 : Nat) (g1 : Nat) (g2 : Nat) (g3 : Nat) (g4 : Nat) (g5 : Nat) (ou : Int32) (K : Nat) (ap : Int32) (fd : Int64) (fw : Int64) (pts : Nat → Int32) (cst : Nat → Int32) (wts : Nat → Int64) (hav : Nat → Int64) (pck : Nat → Int32) (op : Int32) (us : Int64) (hK1 : K ≤ 81) (hx : p.tables.exec = Jvm.exec) (hb : c.code = b_CoverFinder_withoutDominated) (hr : meth.sig.returnType = some .long) (hts : ∀ w ∈ lwg, w.before args s = true) (hown : s.vm.findClass R_CoverFinder = some m.cls) (hlocks : meth.locks = false) (hml : c.maxLocals = 7) (hP : va_P (dC, dI) classes [(g0, .inr (0, [.int ou, .ref g1, .ref g2, .ref g3, .ref g4, .ref g5, .int ((nI K)), .int ap, .long fd, .long fw])), (g1, .inl (cI, 81, .inl pts)), (g2, .inl (cI, 81, .inl cst)), (g3, .inl (cJ, 81, .inr (.inl wts))), (g4, .inl (cJ, 32, .inr (.inl hav))), (g5, .inl (cI, 32, .inl pck))] s.heap) (hK : va_K (dC, dI) classes [(cI, .int), (cJ, .long)] s) : ∀ (fu i : Nat), K - i < fu → i ≤ K → ∀ ls : Array Slot, lv_has ls 7 [(0, .ref g0), (1, .int op), (2, .long us), (4, .long ((fWout pts wts K us op i))), (6, .int ((nI i)))] → W p l e ({ frames := 2, cells := 0, slots := 0, locals := 48 } : Room) s m args below meth c s.heap [] 0 0 (MQ below (vp_Sl (fun r => r = fWout pts wts K us op K)) args s 0 0 (fun _ => False)) (F0 m 6 ls []) := by
  intro fu
  induction fu with
  | zero => intro i h; omega
  | succ fu ih =>
    intro i hfu hle ls hl
    refine lv_iload hx hb d_CoverFinder_withoutDominated_6 (lv_at hl 4 rfl) ?_
    refine lv_aload_n hx hb d_CoverFinder_withoutDominated_8 rfl (lv_at hl 0 rfl) ?_
    refine va_get (D := (dC, dI)) (ci := 0) (v := .int ((nI K))) (C := R_CoverFinder) (T := F_CoverFinder) (N := 10) hx hb hts i_CoverFinder hown hK hP 0 rfl rfl 6 (by decide) (hts _ mw_fl_CoverFinder_51) (fun _ h9 => h9) rfl d_CoverFinder_withoutDominated_9 ?_
    refine lv_icmp_ge (tgt := 54) hx hb d_CoverFinder_withoutDominated_12 (by decide) (fun c_12 => ?_) (fun c_12 => ?_)
    · have hE : i = K := Nat.le_antisymm hle ((nI_leI (a := K) (b := i) (by omega) (by omega)).mp c_12)
      refine lv_lload hx hb d_CoverFinder_withoutDominated_54 (lv_at hl 3 rfl) ?_
      exact W.lret (v := (fWout pts wts K us op i)) hx hb hr (fun t ht hW => ⟨_, rfl, by subst hE; rfl, ht⟩) (fun q h => by cases h) d_CoverFinder_withoutDominated_56
    · have hlt : i < K := Nat.lt_of_not_le (fun h => c_12 ((nI_leI (a := K) (b := i) (by omega) (by omega)).mpr h))
      refine lv_lload_n hx hb d_CoverFinder_withoutDominated_15 rfl (lv_at hl 2 rfl) ?_
      refine lv_iload hx hb d_CoverFinder_withoutDominated_16 (lv_at hl 4 rfl) ?_
      refine vp_callSi (W.runS (As := [.long us, .int ((nI i))]) (rest := []) ⟨hx, hb, hml, hown, hts⟩ (c_CoverFinder_isIn l dC dI cI cJ us (nI i) ) (va_cwS 2 hts (ct_goodT mw_ml_CoverFinder_92 mw_st_CoverFinder_isIn mw_ini_CoverFinder mw_code_CoverFinder_isIn) rfl rfl rfl (by decide +kernel) ⟨Nat.le_of_ble_eq_true rfl, Nat.le_of_ble_eq_true rfl⟩) ⟨fun a U g mk q => by obtain ⟨q0, qP, qK⟩ := q; exact ⟨q0, qP, va_K.moved (u := U) (U := U.calling g mk a) (Vm.Alike.refl U.vm) qK⟩, fun U hU hW => ⟨rfl, by rw [hU]; exact (fun k q h => by simp at h), va_K.moved hW.alike hK⟩⟩ rfl rfl hl.1 rfl (lv_room (Nat.le_of_ble_eq_true rfl)) d_CoverFinder_withoutDominated_18 ⟨Nat.le_of_ble_eq_true rfl, Nat.le_of_ble_eq_true rfl⟩) (fun r_1 hr_1 => ?_)
      rw [hr_1]
      clear hr_1
      refine lv_if_eq (tgt := 48) hx hb d_CoverFinder_withoutDominated_21 (by decide) (fun c_21 => ?_) (fun c_21 => ?_)
      · refine lv_iinc (v := (nI (i + 1))) (lv' := [(6, .int ((nI (i + 1)))), (0, .ref g0), (1, .int op), (2, .long us), (4, .long ((fWout pts wts K us op i)))]) hx hb d_CoverFinder_withoutDominated_48 hl (k := 4) rfl (show nI i + 1 = nI (i + 1) from nI_1 i) (by decide) rfl (fun ls hl => ?_)
        refine lv_goto (tgt := 6) hx hb d_CoverFinder_withoutDominated_51 (by decide) ?_
        have hs : fWout pts wts K us op (i + 1) = fWout pts wts K us op i := if_pos c_21
        exact ih (i + 1) (by omega) (by omega) ls (by rw [hs]; exact lv_sub hl [1, 2, 3, 4, 0] rfl)
      · refine lv_aload_n hx hb d_CoverFinder_withoutDominated_24 rfl (lv_at hl 0 rfl) ?_
        refine lv_iload hx hb d_CoverFinder_withoutDominated_25 (lv_at hl 4 rfl) ?_
        refine lv_iload_n hx hb d_CoverFinder_withoutDominated_27 rfl (lv_at hl 1 rfl) ?_
        refine lv_lload_n hx hb d_CoverFinder_withoutDominated_28 rfl (lv_at hl 2 rfl) ?_
        refine vp_callSi (W.runV (As := [.int ((nI i)), .int op, .long us]) (rest := []) ⟨hx, hb, hml, hown, hts⟩ (c_CoverFinder_isDominated l dC dI cI cJ g0 g1 g2 g3 g4 g5 ou K ap fd fw pts cst wts hav pck i op us hK1 (by omega)) (cwV 3 hts (ct_goodV mw_ml_CoverFinder_130 mw_im_CoverFinder_isDominated mw_se_CoverFinder_isDominated mw_ini_CoverFinder mw_code_CoverFinder_isDominated) rfl rfl rfl (by decide +kernel) ⟨Nat.le_of_ble_eq_true rfl, Nat.le_of_ble_eq_true rfl⟩) ⟨fun a U g mk q => by obtain ⟨q0, qP, qK⟩ := q; exact ⟨q0, qP, va_K.moved (u := U) (U := U.calling g mk a) (Vm.Alike.refl U.vm) qK⟩, va_recv hK hP (ci := 0) (q0 := 0) rfl rfl, fun U hU hW => ⟨rfl, by rw [hU]; exact hP, va_K.moved hW.alike hK⟩⟩ rfl rfl hl.1 rfl (lv_room (Nat.le_of_ble_eq_true rfl)) d_CoverFinder_withoutDominated_29 ⟨Nat.le_of_ble_eq_true rfl, Nat.le_of_ble_eq_true rfl⟩) (fun r_2 hr_2 => ?_)
        rw [hr_2]
        clear hr_2
        refine lv_if_eq (tgt := 48) hx hb d_CoverFinder_withoutDominated_32 (by decide) (fun c_32 => ?_) (fun c_32 => ?_)
        · refine lv_iinc (v := (nI (i + 1))) (lv' := [(6, .int ((nI (i + 1)))), (0, .ref g0), (1, .int op), (2, .long us), (4, .long ((fWout pts wts K us op i)))]) hx hb d_CoverFinder_withoutDominated_48 hl (k := 4) rfl (show nI i + 1 = nI (i + 1) from nI_1 i) (by decide) rfl (fun ls hl => ?_)
          refine lv_goto (tgt := 6) hx hb d_CoverFinder_withoutDominated_51 (by decide) ?_
          have hs : fWout pts wts K us op (i + 1) = fWout pts wts K us op i := (if_neg c_21).trans (if_pos c_32)
          exact ih (i + 1) (by omega) (by omega) ls (by rw [hs]; exact lv_sub hl [1, 2, 3, 4, 0] rfl)
        · refine lv_lload hx hb d_CoverFinder_withoutDominated_35 (lv_at hl 3 rfl) ?_
          refine lv_lconst (v := 1) hx hb d_CoverFinder_withoutDominated_37 (by decide) ?_
          refine lv_iload hx hb d_CoverFinder_withoutDominated_38 (lv_at hl 4 rfl) ?_
          refine lv_lshl hx hb d_CoverFinder_withoutDominated_40 rfl ?_
          refine lv_ldc2 (v := -1) hx hb hown (hts _ mw_co_CoverFinder_56) d_CoverFinder_withoutDominated_41 ?_
          refine lv_lxor hx hb d_CoverFinder_withoutDominated_44 ?_
          refine lv_land hx hb d_CoverFinder_withoutDominated_45 ?_
          refine lv_lstore (lv' := [(4, .long (((fWout pts wts K us op i) &&& (((1 : Int64) <<< ((nI i).toInt64 &&& 63)) ^^^ (-1 : Int64))))), (0, .ref g0), (1, .int op), (2, .long us), (6, .int ((nI i)))]) hx hb d_CoverFinder_withoutDominated_46 hl (by decide) rfl (fun ls hl => ?_)
          refine lv_iinc (v := (nI (i + 1))) (lv' := [(6, .int ((nI (i + 1)))), (4, .long (((fWout pts wts K us op i) &&& (((1 : Int64) <<< ((nI i).toInt64 &&& 63)) ^^^ (-1 : Int64))))), (0, .ref g0), (1, .int op), (2, .long us)]) hx hb d_CoverFinder_withoutDominated_48 hl (k := 4) rfl (show nI i + 1 = nI (i + 1) from nI_1 i) (by decide) rfl (fun ls hl => ?_)
          refine lv_goto (tgt := 6) hx hb d_CoverFinder_withoutDominated_51 (by decide) ?_
          have hs : fWout pts wts K us op (i + 1) = fWout pts wts K us op i &&& ((1 <<< ((nI i).toInt64 &&& 63)) ^^^ (-1)) := (if_neg c_21).trans (if_neg c_32)
          exact ih (i + 1) (by omega) (by omega) ls (by rw [hs]; exact lv_sub hl [2, 3, 4, 1, 0] rfl)
set_option maxHeartbeats 1000000 in
set_option maxRecDepth 100000 in
theorem c_CoverFinder_withoutDominated (l : Launch) (dC : Nat → ClassId) (dI : Nat → Nat → Nat) (cI cJ : ClassId) (g0 : Nat) (g1 : Nat) (g2 : Nat) (g3 : Nat) (g4 : Nat) (g5 : Nat) (ou : Int32) (K : Nat) (ap : Int32) (fd : Int64) (fw : Int64) (pts : Nat → Int32) (cst : Nat → Int32) (wts : Nat → Int64) (hav : Nat → Int64) (pck : Nat → Int32) (op : Int32) (us : Int64) (hK1 : K ≤ 81) : Met l y_CoverFinder_withoutDominated (ct y_CoverFinder_withoutDominated b_CoverFinder_withoutDominated 7 (some .long)) ({ frames := 2, cells := 0, slots := 0, locals := 48 }) (va_Pc [.ref g0, .int op, .long us] (fun U => va_P (dC, dI) classes [(g0, .inr (0, [.int ou, .ref g1, .ref g2, .ref g3, .ref g4, .ref g5, .int ((nI K)), .int ap, .long fd, .long fw])), (g1, .inl (cI, 81, .inl pts)), (g2, .inl (cI, 81, .inl cst)), (g3, .inl (cJ, 81, .inr (.inl wts))), (g4, .inl (cJ, 32, .inr (.inl hav))), (g5, .inl (cI, 32, .inl pck))] U.heap ∧ va_K (dC, dI) classes [(cI, .int), (cJ, .long)] U)) (vp_Sl (fun r => r = fWout pts wts K us op K)) 0 0 (fun _ => False) := by
  refine Met.ofW (cc := b_CoverFinder_withoutDominated) (maxL := 7) (ret := some .long) (by decide) rfl ?_
  intro p e s m args below meth c s₁ B hml hv
  obtain ⟨rfl, hP, hK⟩ := hv
  have hx := B.exec
  have hb := B.bytes
  have hr := B.returns
  have hts : ∀ w ∈ lwg, w.before _ s = true := fun w h => atoms_spec (ws := ct y_CoverFinder_withoutDominated b_CoverFinder_withoutDominated 7 (some .long)) B.pre w (List.mem_cons_of_mem _ h)
  have hown : s.vm.findClass R_CoverFinder = some m.cls := findClass_of_methodNamed B.named
  have hlocks := B.notSynchronized
  have hl := lv_entry ([.ref g0, .int op, .long us]) (n := 7) (Nat.le_of_ble_eq_true rfl)
  rw [lg_entry_eq]
  generalize (lg_sl ([.ref g0, .int op, .long us]) ++ List.replicate (7 - (lg_sl ([.ref g0, .int op, .long us])).length) Slot.unset).toArray = ls at hl ⊢
  have hl : lv_has ls 7 [(0, .ref g0), (1, .int op), (2, .long us)] := hl
  refine lv_lload_n hx hb d_CoverFinder_withoutDominated_0 rfl (lv_at hl 2 rfl) ?_
  refine lv_lstore (lv' := [(4, .long us), (0, .ref g0), (1, .int op), (2, .long us)]) hx hb d_CoverFinder_withoutDominated_1 hl (by decide) rfl (fun ls hl => ?_)
  refine lv_iconst (v := 0) hx hb d_CoverFinder_withoutDominated_3 (by decide) ?_
  refine lv_istore (lv' := [(6, .int 0), (4, .long us), (0, .ref g0), (1, .int op), (2, .long us)]) hx hb d_CoverFinder_withoutDominated_4 hl (by decide) rfl (fun ls hl => ?_)
  exact lp_CoverFinder_withoutDominated l dC dI cI cJ g0 g1 g2 g3 g4 g5 ou K ap fd fw pts cst wts hav pck op us hK1 hx hb hr hts hown hlocks hml hP hK (K + 1) 0 (by omega) (Nat.zero_le _) ls (lv_sub hl [2, 3, 4, 1, 0] rfl)
