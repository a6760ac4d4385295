/-! ===== CoverFinder.leastWeight ===== -/
/-- the lightest prime of a row, and what it leaves of the points apart -/
def fIL (pts : Nat → Int32) (wts : Nat → Int64) (row : Int64) (ap : Int32) (k : Nat) : Int64 × Int32 := itr (fun k x => if fIn row (nI k) = 0 then x else ((if wts k < x.1 then wts k else x.1), x.2 &&& (pts k ^^^ (-1)))) k (4611686018427387904, ap)
def fLW (pts : Nat → Int32) (wts hav : Nat → Int64) (us : Int64) (K : Nat) : Nat → Int64 → Int32 → Int64
  | 0, sum, _ => sum
  | n + 1, sum, ap => if ap = 0 then sum else if lg_cmp (hav (fRar hav ap us 32).1.toNatClampNeg &&& us) 0 = 0 then 4611686018427387904 else fLW pts wts hav us K n (sum + (fIL pts wts (hav (fRar hav ap us 32).1.toNatClampNeg &&& us) ap K).1) (fIL pts wts (hav (fRar hav ap us 32).1.toNatClampNeg &&& us) ap K).2
theorem fRar_in (hav : Nat → Int64) (op : Int32) (us : Int64) (e : Nat) (he : e ≤ 32) : vp_in (fRar hav op us e).1 32 := by
  induction e with
  | zero => exact vp_in_nI (n := 0) (by omega) (by omega)
  | succ e ih =>
    have h1 := ih (by omega)
    have h2 : vp_in (nI e) 32 := vp_in_nI (by omega) (by omega)
    rw [show fRar hav op us (e + 1) = (if (op >>> (nI e &&& 31)) &&& 1 = 1 then (if (fRar hav op us e).2 ≤ bcL (hav e &&& us) then fRar hav op us e else (nI e, bcL (hav e &&& us))) else fRar hav op us e) from rfl]
    split
    · split
      · exact h1
      · exact h2
    · exact h1
set_option maxHeartbeats 1000000 in
set_option maxRecDepth 100000 in
theorem lp_CoverFinder_leastWeight1 {p : Program} {e : Env} {s : State} {m : MethodId} {args : Array Value} {below : List Frame} {meth : Method} {c : Code} {Q : State → Prop} (l : Launch) (dC : Nat → ClassId) (dI : Nat → Nat → Nat) (cI cJ : ClassId) (g0 : Nat) (g1 : Nat) (g2 : Nat) (g3 : Nat) (g4 : Nat) (g5 : Nat) (ou : Int32) (K : Nat) (ap : Int32) (fd : Int64) (fw : Int64) (pts : Nat → Int32) (cst : Nat → Int32) (wts : Nat → Int64) (hav : Nat → Int64) (pck : Nat → Int32) (op : Int32) (us : Int64) (hK1 : K ≤ 81) (hR : ∀ x : Int32, vp_in (fRar hav x us 32).1 32) (row : Int64) (ap0 : Int32) (sum : Int64) (j : Nat)  (hx : p.tables.exec = Jvm.exec) (hb : c.code = b_CoverFinder_leastWeight) (hts : ∀ w ∈ lwg, w.before args s = true) (hown : s.vm.findClass R_CoverFinder = some m.cls) (hml : c.maxLocals = 13) (hP : va_P (dC, dI) classes [(g0, .inr (0, [.int ou, .ref g1, .ref g2, .ref g3, .ref g4, .ref g5, .int ((nI K)), .int ap, .long fd, .long fw])), (g1, .inl (cI, 81, .inl pts)), (g2, .inl (cI, 81, .inl cst)), (g3, .inl (cJ, 81, .inr (.inl wts))), (g4, .inl (cJ, 32, .inr (.inl hav))), (g5, .inl (cI, 32, .inl pck))] s.heap) (hK : va_K (dC, dI) classes [(cI, .int), (cJ, .long)] s) (kk : ∀ (ls : Array Slot), lv_has ls 13 [(0, .ref g0), (1, .int op), (2, .long us), (4, .long sum), (6, .int ((fIL pts wts row ap0 K).2)), (7, .int ((nI j))), (10, .long ((fIL pts wts row ap0 K).1))] → W p l e ({ frames := 2, cells := 0, slots := 0, locals := 48 } : Room) s m args below meth c s.heap [] 0 0 Q (F0 m 109 ls [])) : ∀ (fu i : Nat), K - i < fu → i ≤ K → ∀ (ls : Array Slot), lv_has ls 13 [(0, .ref g0), (1, .int op), (2, .long us), (4, .long sum), (6, .int ((fIL pts wts row ap0 i).2)), (7, .int ((nI j))), (8, .long row), (10, .long ((fIL pts wts row ap0 i).1)), (12, .int ((nI i)))] → W p l e ({ frames := 2, cells := 0, slots := 0, locals := 48 } : Room) s m args below meth c s.heap [] 0 0 Q (F0 m 56 ls []) := by
  intro fu
  induction fu with
  | zero => intro i h; omega
  | succ fu ih =>
    intro i hfu hle ls hl
    refine lv_iload hx hb d_CoverFinder_leastWeight_56 (lv_at hl 8 rfl) ?_
    refine lv_aload_n hx hb d_CoverFinder_leastWeight_58 rfl (lv_at hl 0 rfl) ?_
    refine va_get (D := (dC, dI)) (ci := 0) (v := .int ((nI K))) (C := R_CoverFinder) (T := F_CoverFinder) (N := 10) hx hb hts i_CoverFinder hown hK hP 0 rfl rfl 6 (by decide) (hts _ mw_fl_CoverFinder_51) (fun _ h9 => h9) rfl d_CoverFinder_leastWeight_59 ?_
    refine lv_icmp_ge (tgt := 109) hx hb d_CoverFinder_leastWeight_62 (by decide) (fun c_62 => ?_) (fun c_62 => ?_)
    · have hE : i = K := Nat.le_antisymm hle ((nI_leI (a := K) (b := i) (by omega) (by omega)).mp c_62)
      exact kk ls (by subst hE; exact lv_sub hl [0, 1, 2, 3, 4, 5, 7] rfl)
    · have hlt : i < K := Nat.lt_of_not_le (fun h => c_62 ((nI_leI (a := K) (b := i) (by omega) (by omega)).mpr h))
      refine lv_lload hx hb d_CoverFinder_leastWeight_65 (lv_at hl 6 rfl) ?_
      refine lv_iload hx hb d_CoverFinder_leastWeight_67 (lv_at hl 8 rfl) ?_
      refine vp_callSi (W.runS (As := [.long row, .int ((nI i))]) (rest := []) ⟨hx, hb, hml, hown, hts⟩ (c_CoverFinder_isIn l dC dI cI cJ row (nI i) ) (va_cwS 2 hts (ct_goodT mw_ml_CoverFinder_92 mw_st_CoverFinder_isIn mw_ini_CoverFinder mw_code_CoverFinder_isIn) rfl rfl rfl (by decide +kernel) ⟨Nat.le_of_ble_eq_true rfl, Nat.le_of_ble_eq_true rfl⟩) ⟨fun a U g mk q => by obtain ⟨q0, qP, qK⟩ := q; exact ⟨q0, qP, va_K.moved (u := U) (U := U.calling g mk a) (Vm.Alike.refl U.vm) qK⟩, fun U hU hW => ⟨rfl, by rw [hU]; exact (fun k q h => by simp at h), va_K.moved hW.alike hK⟩⟩ rfl rfl hl.1 rfl (lv_room (Nat.le_of_ble_eq_true rfl)) d_CoverFinder_leastWeight_69 ⟨Nat.le_of_ble_eq_true rfl, Nat.le_of_ble_eq_true rfl⟩) (fun r_1 hr_1 => ?_)
      rw [hr_1]
      clear hr_1
      refine lv_if_eq (tgt := 103) hx hb d_CoverFinder_leastWeight_72 (by decide) (fun c_72 => ?_) (fun c_72 => ?_)
      · refine lv_iinc (v := (nI (i + 1))) (lv' := [(12, .int ((nI (i + 1)))), (0, .ref g0), (1, .int op), (2, .long us), (4, .long sum), (6, .int ((fIL pts wts row ap0 i).2)), (7, .int ((nI j))), (8, .long row), (10, .long ((fIL pts wts row ap0 i).1))]) hx hb d_CoverFinder_leastWeight_103 hl (k := 8) rfl (show nI i + 1 = nI (i + 1) from nI_1 i) (by decide) rfl (fun ls hl => ?_)
        refine lv_goto (tgt := 56) hx hb d_CoverFinder_leastWeight_106 (by decide) ?_
        have hs : fIL pts wts row ap0 (i + 1) = fIL pts wts row ap0 i := if_pos c_72
        exact ih (i + 1) (by omega) (by omega) ls (by rw [hs]; exact lv_sub hl [1, 2, 3, 4, 5, 6, 7, 8, 0] rfl)
      · refine lv_lload hx hb d_CoverFinder_leastWeight_75 (lv_at hl 7 rfl) ?_
        refine lv_aload_n hx hb d_CoverFinder_leastWeight_77 rfl (lv_at hl 0 rfl) ?_
        refine va_get (D := (dC, dI)) (ci := 0) (v := .ref g3) (C := R_CoverFinder) (T := F_CoverFinder) (N := 10) hx hb hts i_CoverFinder hown hK hP 0 rfl rfl 3 (by decide) (hts _ mw_fl_CoverFinder_18) (fun _ h9 => h9) rfl d_CoverFinder_leastWeight_78 ?_
        refine lv_iload hx hb d_CoverFinder_leastWeight_81 (lv_at hl 8 rfl) ?_
        refine va_lald hx hb hK hP 3 1 rfl rfl (vp_in_nI (show i < 81 by omega) (by omega)) d_CoverFinder_leastWeight_83 ?_
        refine w_tl (show _ = wts i from by rw [nI_clamp (by omega)]) ?_
        refine va_mmin_long hx hb (hml.trans hl.1.symm) hown (hts _ mw_ml_CoverFinder_136) (hts _ mw_st_JMath_min_JJJ) (hts _ mw_ini_JMath) (hts _ mw_code_JMath_min_JJJ) (Nat.le_of_ble_eq_true rfl) (Nat.le_of_ble_eq_true rfl) (Nat.le_of_ble_eq_true rfl) (Nat.le_of_ble_eq_true rfl) d_CoverFinder_leastWeight_84 ?_
        refine lv_lstore (lv' := [(10, .long ((if (wts i) < (fIL pts wts row ap0 i).1 then (wts i) else (fIL pts wts row ap0 i).1))), (0, .ref g0), (1, .int op), (2, .long us), (4, .long sum), (6, .int ((fIL pts wts row ap0 i).2)), (7, .int ((nI j))), (8, .long row), (12, .int ((nI i)))]) hx hb d_CoverFinder_leastWeight_87 hl (by decide) rfl (fun ls hl => ?_)
        refine lv_iload hx hb d_CoverFinder_leastWeight_89 (lv_at hl 5 rfl) ?_
        refine lv_aload_n hx hb d_CoverFinder_leastWeight_91 rfl (lv_at hl 1 rfl) ?_
        refine va_get (D := (dC, dI)) (ci := 0) (v := .ref g1) (C := R_CoverFinder) (T := F_CoverFinder) (N := 10) hx hb hts i_CoverFinder hown hK hP 0 rfl rfl 1 (by decide) (hts _ mw_fl_CoverFinder_9) (fun _ h9 => h9) rfl d_CoverFinder_leastWeight_92 ?_
        refine lv_iload hx hb d_CoverFinder_leastWeight_95 (lv_at hl 8 rfl) ?_
        refine va_iald hx hb hK hP 1 0 rfl rfl (vp_in_nI (show i < 81 by omega) (by omega)) d_CoverFinder_leastWeight_97 ?_
        refine w_ti (show _ = pts i from by rw [nI_clamp (by omega)]) ?_
        refine lv_iconst (v := (-1)) hx hb d_CoverFinder_leastWeight_98 (by decide) ?_
        refine lv_ixor hx hb d_CoverFinder_leastWeight_99 ?_
        refine lv_iand hx hb d_CoverFinder_leastWeight_100 ?_
        refine lv_istore (lv' := [(6, .int (((fIL pts wts row ap0 i).2 &&& ((pts i) ^^^ (-1))))), (10, .long ((if (wts i) < (fIL pts wts row ap0 i).1 then (wts i) else (fIL pts wts row ap0 i).1))), (0, .ref g0), (1, .int op), (2, .long us), (4, .long sum), (7, .int ((nI j))), (8, .long row), (12, .int ((nI i)))]) hx hb d_CoverFinder_leastWeight_101 hl (by decide) rfl (fun ls hl => ?_)
        refine lv_iinc (v := (nI (i + 1))) (lv' := [(12, .int ((nI (i + 1)))), (6, .int (((fIL pts wts row ap0 i).2 &&& ((pts i) ^^^ (-1))))), (10, .long ((if (wts i) < (fIL pts wts row ap0 i).1 then (wts i) else (fIL pts wts row ap0 i).1))), (0, .ref g0), (1, .int op), (2, .long us), (4, .long sum), (7, .int ((nI j))), (8, .long row)]) hx hb d_CoverFinder_leastWeight_103 hl (k := 8) rfl (show nI i + 1 = nI (i + 1) from nI_1 i) (by decide) rfl (fun ls hl => ?_)
        refine lv_goto (tgt := 56) hx hb d_CoverFinder_leastWeight_106 (by decide) ?_
        have hs : fIL pts wts row ap0 (i + 1) = ((if wts i < (fIL pts wts row ap0 i).1 then wts i else (fIL pts wts row ap0 i).1), (fIL pts wts row ap0 i).2 &&& (pts i ^^^ (-1))) := if_neg c_72
        exact ih (i + 1) (by omega) (by omega) ls (by rw [hs]; exact lv_sub hl [3, 4, 5, 6, 1, 7, 8, 2, 0] rfl)
set_option maxHeartbeats 1000000 in
set_option maxRecDepth 100000 in
theorem lp_CoverFinder_leastWeight2 {p : Program} {e : Env} {s : State} {m : MethodId} {args : Array Value} {below : List Frame} {meth : Method} {c : Code} (l : Launch) (dC : Nat → ClassId) (dI : Nat → Nat → Nat) (cI cJ : ClassId) (g0 : Nat) (g1 : Nat) (g2 : Nat) (g3 : Nat) (g4 : Nat) (g5 : Nat) (ou : Int32) (K : Nat) (ap : Int32) (fd : Int64) (fw : Int64) (pts : Nat → Int32) (cst : Nat → Int32) (wts : Nat → Int64) (hav : Nat → Int64) (pck : Nat → Int32) (op : Int32) (us : Int64) (hK1 : K ≤ 81) (hR : ∀ x : Int32, vp_in (fRar hav x us 32).1 32) (hx : p.tables.exec = Jvm.exec) (hb : c.code = b_CoverFinder_leastWeight) (hr : meth.sig.returnType = some .long) (hts : ∀ w ∈ lwg, w.before args s = true) (hown : s.vm.findClass R_CoverFinder = some m.cls) (hlocks : meth.locks = false) (hml : c.maxLocals = 13) (hP : va_P (dC, dI) classes [(g0, .inr (0, [.int ou, .ref g1, .ref g2, .ref g3, .ref g4, .ref g5, .int ((nI K)), .int ap, .long fd, .long fw])), (g1, .inl (cI, 81, .inl pts)), (g2, .inl (cI, 81, .inl cst)), (g3, .inl (cJ, 81, .inr (.inl wts))), (g4, .inl (cJ, 32, .inr (.inl hav))), (g5, .inl (cI, 32, .inl pck))] s.heap) (hK : va_K (dC, dI) classes [(cI, .int), (cJ, .long)] s) : ∀ (fu i : Nat), 32 - i < fu → i ≤ 32 → ∀ (sum : Int64) (av : Int32), fLW pts wts hav us K (32 - i) sum av = fLW pts wts hav us K 32 0 op → ∀ ls : Array Slot, lv_has ls 13 [(0, .ref g0), (1, .int op), (2, .long us), (4, .long sum), (6, .int av), (7, .int ((nI i)))] → W p l e ({ frames := 2, cells := 0, slots := 0, locals := 48 } : Room) s m args below meth c s.heap [] 0 0 (MQ below (vp_Sl (fun r => r = fLW pts wts hav us K 32 0 op)) args s 0 0 (fun _ => False)) (F0 m 9 ls []) := by
  intro fu
  induction fu with
  | zero => intro i h; omega
  | succ fu ih =>
    intro i hfu hle sum av hI ls hl
    refine lv_iload hx hb d_CoverFinder_leastWeight_9 (lv_at hl 5 rfl) ?_
    refine lv_bipush (v := 32) hx hb d_CoverFinder_leastWeight_11 (by decide) ?_
    refine lv_icmp_ge (tgt := 122) hx hb d_CoverFinder_leastWeight_13 (by decide) (fun c_13 => ?_) (fun c_13 => ?_)
    · have hE : i = 32 := Nat.le_antisymm hle ((nI_leI (a := 32) (b := i) (by omega) (by omega)).mp c_13)
      refine lv_lload hx hb d_CoverFinder_leastWeight_122 (lv_at hl 3 rfl) ?_
      exact W.lret (v := sum) hx hb hr (fun t ht hW => ⟨_, rfl, (by subst hE; exact hI), ht⟩) (fun q h => by cases h) d_CoverFinder_leastWeight_124
    · have hlt : i < 32 := Nat.lt_of_not_le (fun h => c_13 ((nI_leI (a := 32) (b := i) (by omega) (by omega)).mpr h))
      have h32 : 32 - i = (32 - (i + 1)) + 1 := by omega
      rw [h32] at hI
      refine lv_iload hx hb d_CoverFinder_leastWeight_16 (lv_at hl 4 rfl) ?_
      refine lv_if_eq (tgt := 122) hx hb d_CoverFinder_leastWeight_18 (by decide) (fun c_18 => ?_) (fun c_18 => ?_)
      · refine lv_lload hx hb d_CoverFinder_leastWeight_122 (lv_at hl 3 rfl) ?_
        exact W.lret (v := sum) hx hb hr (fun t ht hW => ⟨_, rfl, ((if_pos c_18).symm.trans hI), ht⟩) (fun q h => by cases h) d_CoverFinder_leastWeight_124
      · have hI2 := (if_neg c_18).symm.trans hI
        refine lv_aload_n hx hb d_CoverFinder_leastWeight_21 rfl (lv_at hl 0 rfl) ?_
        refine va_get (D := (dC, dI)) (ci := 0) (v := .ref g4) (C := R_CoverFinder) (T := F_CoverFinder) (N := 10) hx hb hts i_CoverFinder hown hK hP 0 rfl rfl 4 (by decide) (hts _ mw_fl_CoverFinder_22) (fun _ h9 => h9) rfl d_CoverFinder_leastWeight_22 ?_
        refine lv_aload_n hx hb d_CoverFinder_leastWeight_25 rfl (lv_at hl 0 rfl) ?_
        refine lv_iload hx hb d_CoverFinder_leastWeight_26 (lv_at hl 4 rfl) ?_
        refine lv_lload_n hx hb d_CoverFinder_leastWeight_28 rfl (lv_at hl 2 rfl) ?_
        refine vp_callSi (W.runV (As := [.int av, .long us]) (rest := [.ref g4]) ⟨hx, hb, hml, hown, hts⟩ (c_CoverFinder_rarestPoint l dC dI cI cJ g0 g1 g2 g3 g4 g5 ou K ap fd fw pts cst wts hav pck av us ) (cwV 2 hts (ct_goodV mw_ml_CoverFinder_112 mw_im_CoverFinder_rarestPoint mw_se_CoverFinder_rarestPoint mw_ini_CoverFinder mw_code_CoverFinder_rarestPoint) rfl rfl rfl (by decide +kernel) ⟨Nat.le_of_ble_eq_true rfl, Nat.le_of_ble_eq_true rfl⟩) ⟨fun a U g mk q => by obtain ⟨q0, qP, qK⟩ := q; exact ⟨q0, qP, va_K.moved (u := U) (U := U.calling g mk a) (Vm.Alike.refl U.vm) qK⟩, va_recv hK hP (ci := 0) (q0 := 0) rfl rfl, fun U hU hW => ⟨rfl, by rw [hU]; exact hP, va_K.moved hW.alike hK⟩⟩ rfl rfl hl.1 rfl (lv_room (Nat.le_of_ble_eq_true rfl)) d_CoverFinder_leastWeight_29 ⟨Nat.le_of_ble_eq_true rfl, Nat.le_of_ble_eq_true rfl⟩) (fun r_1 hr_1 => ?_)
        rw [hr_1]
        clear hr_1
        refine va_lald hx hb hK hP 4 1 rfl rfl (hR av) d_CoverFinder_leastWeight_32 ?_
        refine lv_lload_n hx hb d_CoverFinder_leastWeight_33 rfl (lv_at hl 2 rfl) ?_
        refine lv_land hx hb d_CoverFinder_leastWeight_34 ?_
        refine lv_lstore (lv' := [(8, .long (((hav ((fRar hav av us 32).1).toNatClampNeg) &&& us))), (0, .ref g0), (1, .int op), (2, .long us), (4, .long sum), (6, .int av), (7, .int ((nI i)))]) hx hb d_CoverFinder_leastWeight_35 hl (by decide) rfl (fun ls hl => ?_)
        refine lv_lload hx hb d_CoverFinder_leastWeight_37 (lv_at hl 0 rfl) ?_
        refine lv_lconst (v := 0) hx hb d_CoverFinder_leastWeight_39 (by decide) ?_
        refine W.lcmp hx hb d_CoverFinder_leastWeight_40 ?_
        refine lv_if_ne (tgt := 48) hx hb d_CoverFinder_leastWeight_41 (by decide) (fun c_41 => ?_) (fun c_41 => ?_)
        · have hI3 := (if_neg c_41).symm.trans hI2
          refine lv_ldc2 (v := 4611686018427387904) hx hb hown (hts _ mw_co_CoverFinder_134) d_CoverFinder_leastWeight_48 ?_
          refine lv_lstore (lv' := [(10, .long ((4611686018427387904 : Int64))), (8, .long (((hav ((fRar hav av us 32).1).toNatClampNeg) &&& us))), (0, .ref g0), (1, .int op), (2, .long us), (4, .long sum), (6, .int av), (7, .int ((nI i)))]) hx hb d_CoverFinder_leastWeight_51 hl (by decide) rfl (fun ls hl => ?_)
          refine lv_iconst (v := 0) hx hb d_CoverFinder_leastWeight_53 (by decide) ?_
          refine lv_istore (lv' := [(12, .int 0), (10, .long ((4611686018427387904 : Int64))), (8, .long (((hav ((fRar hav av us 32).1).toNatClampNeg) &&& us))), (0, .ref g0), (1, .int op), (2, .long us), (4, .long sum), (6, .int av), (7, .int ((nI i)))]) hx hb d_CoverFinder_leastWeight_54 hl (by decide) rfl (fun ls hl => ?_)
          refine lp_CoverFinder_leastWeight1 l dC dI cI cJ g0 g1 g2 g3 g4 g5 ou K ap fd fw pts cst wts hav pck op us hK1 hR ((hav (fRar hav av us 32).1.toNatClampNeg &&& us)) av sum i  hx hb hts hown hml hP hK (fun ls hl => ?_) (K + 1) 0 (by omega) (Nat.zero_le _) ls (lv_sub hl [3, 4, 5, 6, 7, 8, 2, 1, 0] rfl)
          have hl : lv_has ls 13 [(0, .ref g0), (1, .int op), (2, .long us), (4, .long sum), (6, .int ((fIL pts wts ((hav (fRar hav av us 32).1.toNatClampNeg &&& us)) av K).2)), (7, .int ((nI i))), (10, .long ((fIL pts wts ((hav (fRar hav av us 32).1.toNatClampNeg &&& us)) av K).1))] := hl
          refine lv_lload hx hb d_CoverFinder_leastWeight_109 (lv_at hl 3 rfl) ?_
          refine lv_lload hx hb d_CoverFinder_leastWeight_111 (lv_at hl 6 rfl) ?_
          refine lv_ladd hx hb d_CoverFinder_leastWeight_113 ?_
          refine lv_lstore (lv' := [(4, .long ((sum + (fIL pts wts ((hav (fRar hav av us 32).1.toNatClampNeg &&& us)) av K).1))), (0, .ref g0), (1, .int op), (2, .long us), (6, .int ((fIL pts wts ((hav (fRar hav av us 32).1.toNatClampNeg &&& us)) av K).2)), (7, .int ((nI i))), (10, .long ((fIL pts wts ((hav (fRar hav av us 32).1.toNatClampNeg &&& us)) av K).1))]) hx hb d_CoverFinder_leastWeight_114 hl (by decide) rfl (fun ls hl => ?_)
          refine lv_iinc (v := (nI (i + 1))) (lv' := [(7, .int ((nI (i + 1)))), (4, .long ((sum + (fIL pts wts ((hav (fRar hav av us 32).1.toNatClampNeg &&& us)) av K).1))), (0, .ref g0), (1, .int op), (2, .long us), (6, .int ((fIL pts wts ((hav (fRar hav av us 32).1.toNatClampNeg &&& us)) av K).2)), (10, .long ((fIL pts wts ((hav (fRar hav av us 32).1.toNatClampNeg &&& us)) av K).1))]) hx hb d_CoverFinder_leastWeight_116 hl (k := 5) rfl (show nI i + 1 = nI (i + 1) from nI_1 i) (by decide) rfl (fun ls hl => ?_)
          refine lv_goto (tgt := 9) hx hb d_CoverFinder_leastWeight_119 (by decide) ?_
          exact ih (i + 1) (by omega) (by omega) _ _ hI3 ls (lv_sub hl [2, 3, 4, 1, 5, 0] rfl)
        · refine lv_ldc2 (v := 4611686018427387904) hx hb hown (hts _ mw_co_CoverFinder_134) d_CoverFinder_leastWeight_44 ?_
          exact W.lret (v := (4611686018427387904 : Int64)) hx hb hr (fun t ht hW => ⟨_, rfl, ((if_pos c_41).symm.trans hI2), ht⟩) (fun q h => by cases h) d_CoverFinder_leastWeight_47
set_option maxHeartbeats 1000000 in
set_option maxRecDepth 100000 in
theorem c_CoverFinder_leastWeight (l : Launch) (dC : Nat → ClassId) (dI : Nat → Nat → Nat) (cI cJ : ClassId) (g0 : Nat) (g1 : Nat) (g2 : Nat) (g3 : Nat) (g4 : Nat) (g5 : Nat) (ou : Int32) (K : Nat) (ap : Int32) (fd : Int64) (fw : Int64) (pts : Nat → Int32) (cst : Nat → Int32) (wts : Nat → Int64) (hav : Nat → Int64) (pck : Nat → Int32) (op : Int32) (us : Int64) (hK1 : K ≤ 81) (hR : ∀ x : Int32, vp_in (fRar hav x us 32).1 32) : Met l y_CoverFinder_leastWeight (ct y_CoverFinder_leastWeight b_CoverFinder_leastWeight 13 (some .long)) ({ frames := 2, cells := 0, slots := 0, locals := 48 }) (va_Pc [.ref g0, .int op, .long us] (fun U => va_P (dC, dI) classes [(g0, .inr (0, [.int ou, .ref g1, .ref g2, .ref g3, .ref g4, .ref g5, .int ((nI K)), .int ap, .long fd, .long fw])), (g1, .inl (cI, 81, .inl pts)), (g2, .inl (cI, 81, .inl cst)), (g3, .inl (cJ, 81, .inr (.inl wts))), (g4, .inl (cJ, 32, .inr (.inl hav))), (g5, .inl (cI, 32, .inl pck))] U.heap ∧ va_K (dC, dI) classes [(cI, .int), (cJ, .long)] U)) (vp_Sl (fun r => r = fLW pts wts hav us K 32 0 op)) 0 0 (fun _ => False) := by
  refine Met.ofW (cc := b_CoverFinder_leastWeight) (maxL := 13) (ret := some .long) (by decide) rfl ?_
  intro p e s m args below meth c s₁ B hml hv
  obtain ⟨rfl, hP, hK⟩ := hv
  have hx := B.exec
  have hb := B.bytes
  have hr := B.returns
  have hts : ∀ w ∈ lwg, w.before _ s = true := fun w h => atoms_spec (ws := ct y_CoverFinder_leastWeight b_CoverFinder_leastWeight 13 (some .long)) B.pre w (List.mem_cons_of_mem _ h)
  have hown : s.vm.findClass R_CoverFinder = some m.cls := findClass_of_methodNamed B.named
  have hlocks := B.notSynchronized
  have hl := lv_entry ([.ref g0, .int op, .long us]) (n := 13) (Nat.le_of_ble_eq_true rfl)
  rw [lg_entry_eq]
  generalize (lg_sl ([.ref g0, .int op, .long us]) ++ List.replicate (13 - (lg_sl ([.ref g0, .int op, .long us])).length) Slot.unset).toArray = ls at hl ⊢
  have hl : lv_has ls 13 [(0, .ref g0), (1, .int op), (2, .long us)] := hl
  refine lv_lconst (v := 0) hx hb d_CoverFinder_leastWeight_0 (by decide) ?_
  refine lv_lstore (lv' := [(4, .long ((0 : Int64))), (0, .ref g0), (1, .int op), (2, .long us)]) hx hb d_CoverFinder_leastWeight_1 hl (by decide) rfl (fun ls hl => ?_)
  refine lv_iload_n hx hb d_CoverFinder_leastWeight_3 rfl (lv_at hl 2 rfl) ?_
  refine lv_istore (lv' := [(6, .int op), (4, .long ((0 : Int64))), (0, .ref g0), (1, .int op), (2, .long us)]) hx hb d_CoverFinder_leastWeight_4 hl (by decide) rfl (fun ls hl => ?_)
  refine lv_iconst (v := 0) hx hb d_CoverFinder_leastWeight_6 (by decide) ?_
  refine lv_istore (lv' := [(7, .int 0), (6, .int op), (4, .long ((0 : Int64))), (0, .ref g0), (1, .int op), (2, .long us)]) hx hb d_CoverFinder_leastWeight_7 hl (by decide) rfl (fun ls hl => ?_)
  exact lp_CoverFinder_leastWeight2 l dC dI cI cJ g0 g1 g2 g3 g4 g5 ou K ap fd fw pts cst wts hav pck op us hK1 hR hx hb hr hts hown hlocks hml hP hK (32 + 1) 0 (by omega) (Nat.zero_le _) _ _ rfl ls (lv_sub hl [3, 4, 5, 2, 1, 0] rfl)
