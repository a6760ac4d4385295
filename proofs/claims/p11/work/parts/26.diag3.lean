/-! ===== Diagrams.nodesOfLevel ===== -/
def fHf (N lev : Nat) : Int32 := 1 <<< (((nI N - 1) - nI lev) &&& 31)
def fHm (N lev : Nat) : Int32 := (1 <<< (fHf N lev &&& 31)) - 1
def fFi (tabs : Nat → Int32) (hf : Int32) (o p : Nat) : Int32 := tabs o >>> (((nI p * 2) * hf) &&& 31)
def fLo (tabs : Nat → Int32) (hf hm : Int32) (o p : Nat) : Int32 := fFi tabs hf o p &&& hm
def fUp (tabs : Nat → Int32) (hf hm : Int32) (o p : Nat) : Int32 := (fFi tabs hf o p >>> (hf &&& 31)) &&& hm
def fBo (tabs : Nat → Int32) (hf hm : Int32) (o p : Nat) : Int32 := (fUp tabs hf hm o p <<< (hf &&& 31)) ||| fLo tabs hf hm o p
/-- the parts of a table that ask, each once: how many, which -/
def stNi (tabs : Nat → Int32) (hf hm : Int32) (o : Nat) (x : Nat × (Nat → Int32)) (p : Nat) : Nat × (Nat → Int32) := itr (fun p x => if fLo tabs hf hm o p = fUp tabs hf hm o p then x else if anyB (fun j => decide (x.2 j = fBo tabs hf hm o p)) x.1 then x else (x.1 + 1, upd x.2 x.1 (fBo tabs hf hm o p))) p x
def stNo (tabs : Nat → Int32) (hf hm : Int32) (LW : Nat) (seen : Nat → Int32) (o : Nat) : Nat × (Nat → Int32) := itr (fun o x => stNi tabs hf hm o x LW) o (0, seen)
theorem stNi_le (tabs : Nat → Int32) (hf hm : Int32) (o : Nat) (x : Nat × (Nat → Int32)) (p : Nat) : (stNi tabs hf hm o x p).1 ≤ x.1 + p := by
  induction p with
  | zero => exact Nat.le_refl _
  | succ p ih =>
    rw [show stNi tabs hf hm o x (p + 1) = (if fLo tabs hf hm o p = fUp tabs hf hm o p then stNi tabs hf hm o x p else if anyB (fun j => decide ((stNi tabs hf hm o x p).2 j = fBo tabs hf hm o p)) (stNi tabs hf hm o x p).1 then stNi tabs hf hm o x p else ((stNi tabs hf hm o x p).1 + 1, upd (stNi tabs hf hm o x p).2 (stNi tabs hf hm o x p).1 (fBo tabs hf hm o p))) from rfl]
    split
    · omega
    · split
      · omega
      · show (stNi tabs hf hm o x p).1 + 1 ≤ _
        omega
theorem stNo_le (tabs : Nat → Int32) (hf hm : Int32) (LW : Nat) (seen : Nat → Int32) (o : Nat) : (stNo tabs hf hm LW seen o).1 ≤ o * LW := by
  induction o with
  | zero => exact Nat.zero_le _
  | succ o ih =>
    have h1 := stNi_le tabs hf hm o (stNo tabs hf hm LW seen o) LW
    rw [Nat.succ_mul]
    exact Nat.le_trans h1 (Nat.add_le_add_right ih LW)
set_option maxHeartbeats 1000000 in
set_option maxRecDepth 100000 in
theorem lp_Diagrams_nodesOfLevel1 {p : Program} {e : Env} {s : State} {m : MethodId} {args : Array Value} {below : List Frame} {meth : Method} {c : Code} {Q : State → Prop} (l : Launch) (dC : Nat → ClassId) (dI : Nat → Nat → Nat) (cI cJ : ClassId) (h0 : Nat) (h1 : Nat) (h2 : Nat) (h3 : Nat) (N : Nat) (OU : Nat) (asked : Nat → Int32) (tabs : Nat → Int32) (seen : Nat → Int32) (LW : Nat) (lev : Nat) (hOU : OU ≤ 2) (hLW : (1 : Int32) <<< (nI lev &&& 31) = nI LW ∧ LW ≤ 8) (o0 : Nat) (ho : o0 < OU) (hx : p.tables.exec = Jvm.exec) (hb : c.code = b_Diagrams_nodesOfLevel) (hts : ∀ w ∈ lwg, w.before args s = true) (hown : s.vm.findClass R_Diagrams = some m.cls) (hml : c.maxLocals = 11) (hK : va_K (dC, dI) classes [(cI, .int), (cJ, .long)] s) {A : Nat → Prop} (hA : ∀ q : Nat, s.heap.size ≤ q → A q) (kk : ∀ (H : Heap) (locs : List Loc) (ls : Array Slot), va_P (dC, dI) classes [(h0, .inr (2, [.int ((nI N)), .int ((nI OU)), .ref h1, .ref h2, .ref h3])), (h1, .inl (cI, 4, .inl asked)), (h2, .inl (cI, 2, .inl tabs)), (h3, .inl (cI, 16, .inl (((stNi tabs (fHf N lev) (fHm N lev) o0 (stNo tabs (fHf N lev) (fHm N lev) LW seen o0) LW).2))))] H → va_D A [(h0, .inr (2, [.int ((nI N)), .int ((nI OU)), .ref h1, .ref h2, .ref h3])), (h1, .inl (cI, 4, .inl asked)), (h2, .inl (cI, 2, .inl tabs)), (h3, .inl (cI, 16, .inl (((stNi tabs (fHf N lev) (fHm N lev) o0 (stNo tabs (fHf N lev) (fHm N lev) LW seen o0) LW).2))))] → va_S A s.heap H locs → lv_has ls 11 [(0, .ref h0), (1, .int ((nI lev))), (2, .int ((fHf N lev))), (3, .int ((fHm N lev))), (4, .int ((nI (stNi tabs (fHf N lev) (fHm N lev) o0 (stNo tabs (fHf N lev) (fHm N lev) LW seen o0) LW).1))), (5, .int ((nI o0)))] → W p l e ({ frames := 1, cells := 0, slots := 0, locals := 23 } : Room) s m args below meth c H locs 0 0 Q (F0 m 118 ls [])) : ∀ (fu i : Nat), LW - i < fu → i ≤ LW → ∀ (H : Heap) (locs : List Loc) (ls : Array Slot), va_P (dC, dI) classes [(h0, .inr (2, [.int ((nI N)), .int ((nI OU)), .ref h1, .ref h2, .ref h3])), (h1, .inl (cI, 4, .inl asked)), (h2, .inl (cI, 2, .inl tabs)), (h3, .inl (cI, 16, .inl (((stNi tabs (fHf N lev) (fHm N lev) o0 (stNo tabs (fHf N lev) (fHm N lev) LW seen o0) i).2))))] H → va_D A [(h0, .inr (2, [.int ((nI N)), .int ((nI OU)), .ref h1, .ref h2, .ref h3])), (h1, .inl (cI, 4, .inl asked)), (h2, .inl (cI, 2, .inl tabs)), (h3, .inl (cI, 16, .inl (((stNi tabs (fHf N lev) (fHm N lev) o0 (stNo tabs (fHf N lev) (fHm N lev) LW seen o0) i).2))))] → va_S A s.heap H locs → lv_has ls 11 [(0, .ref h0), (1, .int ((nI lev))), (2, .int ((fHf N lev))), (3, .int ((fHm N lev))), (4, .int ((nI (stNi tabs (fHf N lev) (fHm N lev) o0 (stNo tabs (fHf N lev) (fHm N lev) LW seen o0) i).1))), (5, .int ((nI o0))), (6, .int ((nI i)))] → W p l e ({ frames := 1, cells := 0, slots := 0, locals := 23 } : Room) s m args below meth c H locs 0 0 Q (F0 m 35 ls []) := by
  intro fu
  induction fu with
  | zero => intro i h; omega
  | succ fu ih =>
    intro i hfu hle H locs ls hP hD hS hl
    have hb1 := stNi_le tabs (fHf N lev) (fHm N lev) o0 (stNo tabs (fHf N lev) (fHm N lev) LW seen o0) i
    have hb2 := stNo_le tabs (fHf N lev) (fHm N lev) LW seen o0
    have hb3 : o0 * LW ≤ 8 * o0 := by rw [Nat.mul_comm]; exact Nat.mul_le_mul_right _ hLW.2
    have hLW2 := hLW.2
    refine lv_iload hx hb d_Diagrams_nodesOfLevel_35 (lv_at hl 6 rfl) ?_
    refine lv_iconst (v := 1) hx hb d_Diagrams_nodesOfLevel_37 (by decide) ?_
    refine lv_iload_n hx hb d_Diagrams_nodesOfLevel_38 rfl (lv_at hl 1 rfl) ?_
    refine lv_ishl hx hb d_Diagrams_nodesOfLevel_39 ?_
    refine w_ti (show _ = nI LW from hLW.1) ?_
    refine lv_icmp_ge (tgt := 118) hx hb d_Diagrams_nodesOfLevel_40 (by decide) (fun c_40 => ?_) (fun c_40 => ?_)
    · have hE : i = LW := Nat.le_antisymm hle ((nI_leI (by omega) (by omega)).mp c_40)
      exact kk _ _ ls (by subst hE; exact hP.sub [0, 1, 2, 3] rfl) (by subst hE; exact hD.sub [0, 1, 2, 3] (by decide) rfl) hS (by subst hE; exact lv_sub hl [0, 1, 2, 3, 4, 5] rfl)
    · have hlt : i < LW := Nat.lt_of_not_le (fun h => c_40 ((nI_leI (by omega) (by omega)).mpr h))
      refine lv_aload_n hx hb d_Diagrams_nodesOfLevel_43 rfl (lv_at hl 0 rfl) ?_
      refine va_get (D := (dC, dI)) (ci := 2) (v := .ref h2) (C := R_Diagrams) (T := F_Diagrams) (N := 5) hx hb hts i_Diagrams hown hK hP 0 rfl rfl 3 (by decide) (hts _ mw_fl_Diagrams_15) (fun _ h9 => h9) rfl d_Diagrams_nodesOfLevel_44 ?_
      refine lv_iload hx hb d_Diagrams_nodesOfLevel_47 (lv_at hl 5 rfl) ?_
      refine va_iald hx hb hK hP 2 0 rfl rfl (vp_in_nI (show o0 < 2 by omega) (by omega)) d_Diagrams_nodesOfLevel_49 ?_
      refine w_ti (show _ = tabs o0 from by rw [nI_clamp (by omega)]) ?_
      refine lv_iload hx hb d_Diagrams_nodesOfLevel_50 (lv_at hl 6 rfl) ?_
      refine lv_iconst (v := 2) hx hb d_Diagrams_nodesOfLevel_52 (by decide) ?_
      refine lv_imul hx hb d_Diagrams_nodesOfLevel_53 ?_
      refine lv_iload_n hx hb d_Diagrams_nodesOfLevel_54 rfl (lv_at hl 2 rfl) ?_
      refine lv_imul hx hb d_Diagrams_nodesOfLevel_55 ?_
      refine lv_ishr hx hb d_Diagrams_nodesOfLevel_56 ?_
      refine w_ti (show _ = fFi tabs (fHf N lev) o0 i from rfl) ?_
      refine lv_istore (lv' := [(7, .int ((fFi tabs (fHf N lev) o0 i))), (0, .ref h0), (1, .int ((nI lev))), (2, .int ((fHf N lev))), (3, .int ((fHm N lev))), (4, .int ((nI (stNi tabs (fHf N lev) (fHm N lev) o0 (stNo tabs (fHf N lev) (fHm N lev) LW seen o0) i).1))), (5, .int ((nI o0))), (6, .int ((nI i)))]) hx hb d_Diagrams_nodesOfLevel_57 hl (by decide) rfl (fun ls hl => ?_)
      refine lv_iload hx hb d_Diagrams_nodesOfLevel_59 (lv_at hl 0 rfl) ?_
      refine lv_iload_n hx hb d_Diagrams_nodesOfLevel_61 rfl (lv_at hl 4 rfl) ?_
      refine lv_iand hx hb d_Diagrams_nodesOfLevel_62 ?_
      refine w_ti (show _ = fLo tabs (fHf N lev) (fHm N lev) o0 i from rfl) ?_
      refine lv_istore (lv' := [(8, .int ((fLo tabs (fHf N lev) (fHm N lev) o0 i))), (7, .int ((fFi tabs (fHf N lev) o0 i))), (0, .ref h0), (1, .int ((nI lev))), (2, .int ((fHf N lev))), (3, .int ((fHm N lev))), (4, .int ((nI (stNi tabs (fHf N lev) (fHm N lev) o0 (stNo tabs (fHf N lev) (fHm N lev) LW seen o0) i).1))), (5, .int ((nI o0))), (6, .int ((nI i)))]) hx hb d_Diagrams_nodesOfLevel_63 hl (by decide) rfl (fun ls hl => ?_)
      refine lv_iload hx hb d_Diagrams_nodesOfLevel_65 (lv_at hl 1 rfl) ?_
      refine lv_iload_n hx hb d_Diagrams_nodesOfLevel_67 rfl (lv_at hl 4 rfl) ?_
      refine lv_ishr hx hb d_Diagrams_nodesOfLevel_68 ?_
      refine lv_iload_n hx hb d_Diagrams_nodesOfLevel_69 rfl (lv_at hl 5 rfl) ?_
      refine lv_iand hx hb d_Diagrams_nodesOfLevel_70 ?_
      refine w_ti (show _ = fUp tabs (fHf N lev) (fHm N lev) o0 i from rfl) ?_
      refine lv_istore (lv' := [(9, .int ((fUp tabs (fHf N lev) (fHm N lev) o0 i))), (8, .int ((fLo tabs (fHf N lev) (fHm N lev) o0 i))), (7, .int ((fFi tabs (fHf N lev) o0 i))), (0, .ref h0), (1, .int ((nI lev))), (2, .int ((fHf N lev))), (3, .int ((fHm N lev))), (4, .int ((nI (stNi tabs (fHf N lev) (fHm N lev) o0 (stNo tabs (fHf N lev) (fHm N lev) LW seen o0) i).1))), (5, .int ((nI o0))), (6, .int ((nI i)))]) hx hb d_Diagrams_nodesOfLevel_71 hl (by decide) rfl (fun ls hl => ?_)
      refine lv_iload hx hb d_Diagrams_nodesOfLevel_73 (lv_at hl 0 rfl) ?_
      refine lv_iload_n hx hb d_Diagrams_nodesOfLevel_75 rfl (lv_at hl 5 rfl) ?_
      refine lv_ishl hx hb d_Diagrams_nodesOfLevel_76 ?_
      refine lv_iload hx hb d_Diagrams_nodesOfLevel_77 (lv_at hl 1 rfl) ?_
      refine lv_ior hx hb d_Diagrams_nodesOfLevel_79 ?_
      refine w_ti (show _ = fBo tabs (fHf N lev) (fHm N lev) o0 i from rfl) ?_
      refine lv_istore (lv' := [(10, .int ((fBo tabs (fHf N lev) (fHm N lev) o0 i))), (9, .int ((fUp tabs (fHf N lev) (fHm N lev) o0 i))), (8, .int ((fLo tabs (fHf N lev) (fHm N lev) o0 i))), (7, .int ((fFi tabs (fHf N lev) o0 i))), (0, .ref h0), (1, .int ((nI lev))), (2, .int ((fHf N lev))), (3, .int ((fHm N lev))), (4, .int ((nI (stNi tabs (fHf N lev) (fHm N lev) o0 (stNo tabs (fHf N lev) (fHm N lev) LW seen o0) i).1))), (5, .int ((nI o0))), (6, .int ((nI i)))]) hx hb d_Diagrams_nodesOfLevel_80 hl (by decide) rfl (fun ls hl => ?_)
      refine lv_iload hx hb d_Diagrams_nodesOfLevel_82 (lv_at hl 2 rfl) ?_
      refine lv_iload hx hb d_Diagrams_nodesOfLevel_84 (lv_at hl 1 rfl) ?_
      refine lv_icmp_eq (tgt := 112) hx hb d_Diagrams_nodesOfLevel_86 (by decide) (fun c_86 => ?_) (fun c_86 => ?_)
      · refine lv_iinc (v := (nI (i + 1))) (lv' := [(6, .int ((nI (i + 1)))), (10, .int ((fBo tabs (fHf N lev) (fHm N lev) o0 i))), (9, .int ((fUp tabs (fHf N lev) (fHm N lev) o0 i))), (8, .int ((fLo tabs (fHf N lev) (fHm N lev) o0 i))), (7, .int ((fFi tabs (fHf N lev) o0 i))), (0, .ref h0), (1, .int ((nI lev))), (2, .int ((fHf N lev))), (3, .int ((fHm N lev))), (4, .int ((nI (stNi tabs (fHf N lev) (fHm N lev) o0 (stNo tabs (fHf N lev) (fHm N lev) LW seen o0) i).1))), (5, .int ((nI o0)))]) hx hb d_Diagrams_nodesOfLevel_112 hl (k := 10) rfl (show nI i + 1 = nI (i + 1) from nI_1 i) (by decide) rfl (fun ls hl => ?_)
        refine lv_goto (tgt := 35) hx hb d_Diagrams_nodesOfLevel_115 (by decide) ?_
        have hs : stNi tabs (fHf N lev) (fHm N lev) o0 (stNo tabs (fHf N lev) (fHm N lev) LW seen o0) (i + 1) = stNi tabs (fHf N lev) (fHm N lev) o0 (stNo tabs (fHf N lev) (fHm N lev) LW seen o0) i := if_pos c_86
        exact ih (i + 1) (by omega) (by omega) _ _ ls (by rw [hs]; exact hP.sub [0, 1, 2, 3] rfl) (by rw [hs]; exact hD.sub [0, 1, 2, 3] (by decide) rfl) hS (by rw [hs]; exact lv_sub hl [5, 6, 7, 8, 9, 10, 0] rfl)
      · refine lv_aload_n hx hb d_Diagrams_nodesOfLevel_89 rfl (lv_at hl 4 rfl) ?_
        refine lv_iload hx hb d_Diagrams_nodesOfLevel_90 (lv_at hl 0 rfl) ?_
        refine lv_iload hx hb d_Diagrams_nodesOfLevel_92 (lv_at hl 8 rfl) ?_
        refine vp_callSi (W.runV (As := [.int ((fBo tabs (fHf N lev) (fHm N lev) o0 i)), .int ((nI (stNi tabs (fHf N lev) (fHm N lev) o0 (stNo tabs (fHf N lev) (fHm N lev) LW seen o0) i).1))]) (rest := []) ⟨hx, hb, hml, hown, hts⟩ (c_Diagrams_isSeen l dC dI cI cJ h0 h1 h2 h3 N OU asked tabs ((stNi tabs (fHf N lev) (fHm N lev) o0 (stNo tabs (fHf N lev) (fHm N lev) LW seen o0) i).2) (fBo tabs (fHf N lev) (fHm N lev) o0 i) ((stNi tabs (fHf N lev) (fHm N lev) o0 (stNo tabs (fHf N lev) (fHm N lev) LW seen o0) i).1) (by omega)) (cwV 2 hts (ct_goodV mw_ml_Diagrams_51 mw_im_Diagrams_isSeen mw_se_Diagrams_isSeen mw_ini_Diagrams mw_code_Diagrams_isSeen) rfl rfl rfl (by decide +kernel) ⟨Nat.le_of_ble_eq_true rfl, Nat.le_of_ble_eq_true rfl⟩) ⟨fun a U g mk q => by obtain ⟨q0, qP, qK⟩ := q; exact ⟨q0, qP, va_K.moved (u := U) (U := U.calling g mk a) (Vm.Alike.refl U.vm) qK⟩, va_recv hK hP (ci := 2) (q0 := 0) rfl rfl, fun U hU hW => ⟨rfl, by rw [hU]; exact hP, va_K.moved hW.alike hK⟩⟩ rfl rfl hl.1 rfl (lv_room (Nat.le_of_ble_eq_true rfl)) d_Diagrams_nodesOfLevel_94 ⟨Nat.le_of_ble_eq_true rfl, Nat.le_of_ble_eq_true rfl⟩) (fun r_1 hr_1 => ?_)
        rw [hr_1]
        clear hr_1
        refine lv_if_ne (tgt := 112) hx hb d_Diagrams_nodesOfLevel_97 (by decide) (fun c_97 => ?_) (fun c_97 => ?_)
        · refine lv_iinc (v := (nI (i + 1))) (lv' := [(6, .int ((nI (i + 1)))), (10, .int ((fBo tabs (fHf N lev) (fHm N lev) o0 i))), (9, .int ((fUp tabs (fHf N lev) (fHm N lev) o0 i))), (8, .int ((fLo tabs (fHf N lev) (fHm N lev) o0 i))), (7, .int ((fFi tabs (fHf N lev) o0 i))), (0, .ref h0), (1, .int ((nI lev))), (2, .int ((fHf N lev))), (3, .int ((fHm N lev))), (4, .int ((nI (stNi tabs (fHf N lev) (fHm N lev) o0 (stNo tabs (fHf N lev) (fHm N lev) LW seen o0) i).1))), (5, .int ((nI o0)))]) hx hb d_Diagrams_nodesOfLevel_112 hl (k := 10) rfl (show nI i + 1 = nI (i + 1) from nI_1 i) (by decide) rfl (fun ls hl => ?_)
          refine lv_goto (tgt := 35) hx hb d_Diagrams_nodesOfLevel_115 (by decide) ?_
          have hs : stNi tabs (fHf N lev) (fHm N lev) o0 (stNo tabs (fHf N lev) (fHm N lev) LW seen o0) (i + 1) = stNi tabs (fHf N lev) (fHm N lev) o0 (stNo tabs (fHf N lev) (fHm N lev) LW seen o0) i := (if_neg c_86).trans (if_pos (by by_cases h : anyB (fun j => decide ((stNi tabs (fHf N lev) (fHm N lev) o0 (stNo tabs (fHf N lev) (fHm N lev) LW seen o0) i).2 j = fBo tabs (fHf N lev) (fHm N lev) o0 i)) (stNi tabs (fHf N lev) (fHm N lev) o0 (stNo tabs (fHf N lev) (fHm N lev) LW seen o0) i).1 = true; exact h; exact absurd (if_neg h) c_97))
          exact ih (i + 1) (by omega) (by omega) _ _ ls (by rw [hs]; exact hP.sub [0, 1, 2, 3] rfl) (by rw [hs]; exact hD.sub [0, 1, 2, 3] (by decide) rfl) hS (by rw [hs]; exact lv_sub hl [5, 6, 7, 8, 9, 10, 0] rfl)
        · refine lv_aload_n hx hb d_Diagrams_nodesOfLevel_100 rfl (lv_at hl 4 rfl) ?_
          refine va_get (D := (dC, dI)) (ci := 2) (v := .ref h3) (C := R_Diagrams) (T := F_Diagrams) (N := 5) hx hb hts i_Diagrams hown hK hP 0 rfl rfl 4 (by decide) (hts _ mw_fl_Diagrams_18) (fun _ h9 => h9) rfl d_Diagrams_nodesOfLevel_101 ?_
          refine lv_iload hx hb d_Diagrams_nodesOfLevel_104 (lv_at hl 8 rfl) ?_
          refine lv_iload hx hb d_Diagrams_nodesOfLevel_106 (lv_at hl 0 rfl) ?_
          refine va_iast hx hb hK hP hD hS 3 0 rfl rfl (vp_in_nI (show (stNi tabs (fHf N lev) (fHm N lev) o0 (stNo tabs (fHf N lev) (fHm N lev) LW seen o0) i).1 < 16 by omega) (by omega)) d_Diagrams_nodesOfLevel_108 (fun H locs hP hD hS => ?_)
          have hP : va_P (dC, dI) classes [(h0, .inr (2, [.int ((nI N)), .int ((nI OU)), .ref h1, .ref h2, .ref h3])), (h1, .inl (cI, 4, .inl asked)), (h2, .inl (cI, 2, .inl tabs)), (h3, .inl (cI, 16, .inl ((upd (((stNi tabs (fHf N lev) (fHm N lev) o0 (stNo tabs (fHf N lev) (fHm N lev) LW seen o0) i).2)) (nI (stNi tabs (fHf N lev) (fHm N lev) o0 (stNo tabs (fHf N lev) (fHm N lev) LW seen o0) i).1).toNatClampNeg ((fBo tabs (fHf N lev) (fHm N lev) o0 i))))))] H := hP
          have hD : va_D A [(h0, .inr (2, [.int ((nI N)), .int ((nI OU)), .ref h1, .ref h2, .ref h3])), (h1, .inl (cI, 4, .inl asked)), (h2, .inl (cI, 2, .inl tabs)), (h3, .inl (cI, 16, .inl ((upd (((stNi tabs (fHf N lev) (fHm N lev) o0 (stNo tabs (fHf N lev) (fHm N lev) LW seen o0) i).2)) (nI (stNi tabs (fHf N lev) (fHm N lev) o0 (stNo tabs (fHf N lev) (fHm N lev) LW seen o0) i).1).toNatClampNeg ((fBo tabs (fHf N lev) (fHm N lev) o0 i))))))] := hD
          rw [show (nI (stNi tabs (fHf N lev) (fHm N lev) o0 (stNo tabs (fHf N lev) (fHm N lev) LW seen o0) i).1).toNatClampNeg = (stNi tabs (fHf N lev) (fHm N lev) o0 (stNo tabs (fHf N lev) (fHm N lev) LW seen o0) i).1 from nI_clamp (by omega)] at hP hD
          refine lv_iinc (v := (nI ((stNi tabs (fHf N lev) (fHm N lev) o0 (stNo tabs (fHf N lev) (fHm N lev) LW seen o0) i).1 + 1))) (lv' := [(4, .int ((nI ((stNi tabs (fHf N lev) (fHm N lev) o0 (stNo tabs (fHf N lev) (fHm N lev) LW seen o0) i).1 + 1)))), (10, .int ((fBo tabs (fHf N lev) (fHm N lev) o0 i))), (9, .int ((fUp tabs (fHf N lev) (fHm N lev) o0 i))), (8, .int ((fLo tabs (fHf N lev) (fHm N lev) o0 i))), (7, .int ((fFi tabs (fHf N lev) o0 i))), (0, .ref h0), (1, .int ((nI lev))), (2, .int ((fHf N lev))), (3, .int ((fHm N lev))), (5, .int ((nI o0))), (6, .int ((nI i)))]) hx hb d_Diagrams_nodesOfLevel_109 hl (k := 8) rfl (show nI (stNi tabs (fHf N lev) (fHm N lev) o0 (stNo tabs (fHf N lev) (fHm N lev) LW seen o0) i).1 + 1 = nI ((stNi tabs (fHf N lev) (fHm N lev) o0 (stNo tabs (fHf N lev) (fHm N lev) LW seen o0) i).1 + 1) from nI_1 _) (by decide) rfl (fun ls hl => ?_)
          refine lv_iinc (v := (nI (i + 1))) (lv' := [(6, .int ((nI (i + 1)))), (4, .int ((nI ((stNi tabs (fHf N lev) (fHm N lev) o0 (stNo tabs (fHf N lev) (fHm N lev) LW seen o0) i).1 + 1)))), (10, .int ((fBo tabs (fHf N lev) (fHm N lev) o0 i))), (9, .int ((fUp tabs (fHf N lev) (fHm N lev) o0 i))), (8, .int ((fLo tabs (fHf N lev) (fHm N lev) o0 i))), (7, .int ((fFi tabs (fHf N lev) o0 i))), (0, .ref h0), (1, .int ((nI lev))), (2, .int ((fHf N lev))), (3, .int ((fHm N lev))), (5, .int ((nI o0)))]) hx hb d_Diagrams_nodesOfLevel_112 hl (k := 10) rfl (show nI i + 1 = nI (i + 1) from nI_1 i) (by decide) rfl (fun ls hl => ?_)
          refine lv_goto (tgt := 35) hx hb d_Diagrams_nodesOfLevel_115 (by decide) ?_
          have hs : stNi tabs (fHf N lev) (fHm N lev) o0 (stNo tabs (fHf N lev) (fHm N lev) LW seen o0) (i + 1) = ((stNi tabs (fHf N lev) (fHm N lev) o0 (stNo tabs (fHf N lev) (fHm N lev) LW seen o0) i).1 + 1, upd (stNi tabs (fHf N lev) (fHm N lev) o0 (stNo tabs (fHf N lev) (fHm N lev) LW seen o0) i).2 (stNi tabs (fHf N lev) (fHm N lev) o0 (stNo tabs (fHf N lev) (fHm N lev) LW seen o0) i).1 (fBo tabs (fHf N lev) (fHm N lev) o0 i)) := (if_neg c_86).trans (if_neg (fun h => absurd ((if_pos h).symm.trans c_97) (by decide)))
          exact ih (i + 1) (by omega) (by omega) _ _ ls (by rw [hs]; exact hP.sub [0, 1, 2, 3] rfl) (by rw [hs]; exact hD.sub [0, 1, 2, 3] (by decide) rfl) hS (by rw [hs]; exact lv_sub hl [6, 7, 8, 9, 1, 10, 0] rfl)
set_option maxHeartbeats 1000000 in
set_option maxRecDepth 100000 in
theorem lp_Diagrams_nodesOfLevel2 {p : Program} {e : Env} {s : State} {m : MethodId} {args : Array Value} {below : List Frame} {meth : Method} {c : Code} (l : Launch) (dC : Nat → ClassId) (dI : Nat → Nat → Nat) (cI cJ : ClassId) (h0 : Nat) (h1 : Nat) (h2 : Nat) (h3 : Nat) (N : Nat) (OU : Nat) (asked : Nat → Int32) (tabs : Nat → Int32) (seen : Nat → Int32) (LW : Nat) (lev : Nat) (hOU : OU ≤ 2) (hLW : (1 : Int32) <<< (nI lev &&& 31) = nI LW ∧ LW ≤ 8) (hx : p.tables.exec = Jvm.exec) (hb : c.code = b_Diagrams_nodesOfLevel) (hr : meth.sig.returnType = some .int) (hts : ∀ w ∈ lwg, w.before args s = true) (hown : s.vm.findClass R_Diagrams = some m.cls) (hlocks : meth.locks = false) (hml : c.maxLocals = 11) (hK : va_K (dC, dI) classes [(cI, .int), (cJ, .long)] s) {A : Nat → Prop} (hA : ∀ q : Nat, s.heap.size ≤ q → A q) : ∀ (fu i : Nat), OU - i < fu → i ≤ OU → ∀ (H : Heap) (locs : List Loc) (ls : Array Slot), va_P (dC, dI) classes [(h0, .inr (2, [.int ((nI N)), .int ((nI OU)), .ref h1, .ref h2, .ref h3])), (h1, .inl (cI, 4, .inl asked)), (h2, .inl (cI, 2, .inl tabs)), (h3, .inl (cI, 16, .inl (((stNo tabs (fHf N lev) (fHm N lev) LW seen i).2))))] H → va_D A [(h0, .inr (2, [.int ((nI N)), .int ((nI OU)), .ref h1, .ref h2, .ref h3])), (h1, .inl (cI, 4, .inl asked)), (h2, .inl (cI, 2, .inl tabs)), (h3, .inl (cI, 16, .inl (((stNo tabs (fHf N lev) (fHm N lev) LW seen i).2))))] → va_S A s.heap H locs → lv_has ls 11 [(0, .ref h0), (1, .int ((nI lev))), (2, .int ((fHf N lev))), (3, .int ((fHm N lev))), (4, .int ((nI (stNo tabs (fHf N lev) (fHm N lev) LW seen i).1))), (5, .int ((nI i)))] → W p l e ({ frames := 1, cells := 0, slots := 0, locals := 23 } : Room) s m args below meth c H locs 0 0 (MQ below (va_Qi (fun (r : Int32) (_ : Unit) => r = nI (stNo tabs (fHf N lev) (fHm N lev) LW seen OU).1) (fun _ => at_w dC dI cI cJ A [(h0, .inr (2, [.int ((nI N)), .int ((nI OU)), .ref h1, .ref h2, .ref h3])), (h1, .inl (cI, 4, .inl asked)), (h2, .inl (cI, 2, .inl tabs)), (h3, .inl (cI, 16, .inl (((stNo tabs (fHf N lev) (fHm N lev) LW seen OU).2))))]) A) args s 0 0 A) (F0 m 23 ls []) := by
  intro fu
  induction fu with
  | zero => intro i h; omega
  | succ fu ih =>
    intro i hfu hle H locs ls hP hD hS hl
    refine lv_iload hx hb d_Diagrams_nodesOfLevel_23 (lv_at hl 5 rfl) ?_
    refine lv_aload_n hx hb d_Diagrams_nodesOfLevel_25 rfl (lv_at hl 0 rfl) ?_
    refine va_get (D := (dC, dI)) (ci := 2) (v := .int ((nI OU))) (C := R_Diagrams) (T := F_Diagrams) (N := 5) hx hb hts i_Diagrams hown hK hP 0 rfl rfl 1 (by decide) (hts _ mw_fl_Diagrams_25) (fun _ h9 => h9) rfl d_Diagrams_nodesOfLevel_26 ?_
    refine lv_icmp_ge (tgt := 124) hx hb d_Diagrams_nodesOfLevel_29 (by decide) (fun c_29 => ?_) (fun c_29 => ?_)
    · have hE : i = OU := Nat.le_antisymm hle ((nI_leI (by omega) (by omega)).mp c_29)
      refine lv_iload hx hb d_Diagrams_nodesOfLevel_124 (lv_at hl 4 rfl) ?_
      have hP9 := hP.sub (ws' := [(h0, .inr (2, [.int ((nI N)), .int ((nI OU)), .ref h1, .ref h2, .ref h3])), (h1, .inl (cI, 4, .inl asked)), (h2, .inl (cI, 2, .inl tabs)), (h3, .inl (cI, 16, .inl (((stNo tabs (fHf N lev) (fHm N lev) LW seen OU).2))))]) [0, 1, 2, 3] (by subst hE; rfl)
      have hD9 := hD.sub (ws' := [(h0, .inr (2, [.int ((nI N)), .int ((nI OU)), .ref h1, .ref h2, .ref h3])), (h1, .inl (cI, 4, .inl asked)), (h2, .inl (cI, 2, .inl tabs)), (h3, .inl (cI, 16, .inl (((stNo tabs (fHf N lev) (fHm N lev) LW seen OU).2))))]) [0, 1, 2, 3] (by decide) (by subst hE; rfl)
      exact W.iret (v := (nI (stNo tabs (fHf N lev) (fHm N lev) LW seen i).1)) hx hb hr (fun t ht hW => ⟨⟨(nI (stNo tabs (fHf N lev) (fHm N lev) LW seen i).1), (), rfl, by subst hE; rfl, by rw [ht]; exact hP9, va_K.moved hW.alike hK, hD9⟩, hS.F ht⟩) hS.2.2 d_Diagrams_nodesOfLevel_126
    · have hlt : i < OU := Nat.lt_of_not_le (fun h => c_29 ((nI_leI (by omega) (by omega)).mpr h))
      refine lv_iconst (v := 0) hx hb d_Diagrams_nodesOfLevel_32 (by decide) ?_
      refine lv_istore (lv' := [(6, .int 0), (0, .ref h0), (1, .int ((nI lev))), (2, .int ((fHf N lev))), (3, .int ((fHm N lev))), (4, .int ((nI (stNo tabs (fHf N lev) (fHm N lev) LW seen i).1))), (5, .int ((nI i)))]) hx hb d_Diagrams_nodesOfLevel_33 hl (by decide) rfl (fun ls hl => ?_)
      refine lp_Diagrams_nodesOfLevel1 l dC dI cI cJ h0 h1 h2 h3 N OU asked tabs seen LW lev hOU hLW i hlt hx hb hts hown hml hK hA (fun H locs ls hP hD hS hl => ?_) (LW + 1) 0 (by omega) (Nat.zero_le _) _ _ ls (hP.sub [0, 1, 2, 3] rfl) (hD.sub [0, 1, 2, 3] (by decide) rfl) hS (lv_sub hl [1, 2, 3, 4, 5, 6, 0] rfl)
      have hP : va_P (dC, dI) classes [(h0, .inr (2, [.int ((nI N)), .int ((nI OU)), .ref h1, .ref h2, .ref h3])), (h1, .inl (cI, 4, .inl asked)), (h2, .inl (cI, 2, .inl tabs)), (h3, .inl (cI, 16, .inl (((stNi tabs (fHf N lev) (fHm N lev) i (stNo tabs (fHf N lev) (fHm N lev) LW seen i) LW).2))))] H := hP
      have hD : va_D A [(h0, .inr (2, [.int ((nI N)), .int ((nI OU)), .ref h1, .ref h2, .ref h3])), (h1, .inl (cI, 4, .inl asked)), (h2, .inl (cI, 2, .inl tabs)), (h3, .inl (cI, 16, .inl (((stNi tabs (fHf N lev) (fHm N lev) i (stNo tabs (fHf N lev) (fHm N lev) LW seen i) LW).2))))] := hD
      have hl : lv_has ls 11 [(0, .ref h0), (1, .int ((nI lev))), (2, .int ((fHf N lev))), (3, .int ((fHm N lev))), (4, .int ((nI (stNi tabs (fHf N lev) (fHm N lev) i (stNo tabs (fHf N lev) (fHm N lev) LW seen i) LW).1))), (5, .int ((nI i)))] := hl
      refine lv_iinc (v := (nI (i + 1))) (lv' := [(5, .int ((nI (i + 1)))), (0, .ref h0), (1, .int ((nI lev))), (2, .int ((fHf N lev))), (3, .int ((fHm N lev))), (4, .int ((nI (stNi tabs (fHf N lev) (fHm N lev) i (stNo tabs (fHf N lev) (fHm N lev) LW seen i) LW).1)))]) hx hb d_Diagrams_nodesOfLevel_118 hl (k := 5) rfl (show nI i + 1 = nI (i + 1) from nI_1 i) (by decide) rfl (fun ls hl => ?_)
      refine lv_goto (tgt := 23) hx hb d_Diagrams_nodesOfLevel_121 (by decide) ?_
      exact ih (i + 1) (by omega) (by omega) _ _ ls (hP.sub [0, 1, 2, 3] rfl) (hD.sub [0, 1, 2, 3] (by decide) rfl) hS (lv_sub hl [1, 2, 3, 4, 5, 0] rfl)
set_option maxHeartbeats 1000000 in
set_option maxRecDepth 100000 in
theorem c_Diagrams_nodesOfLevel (l : Launch) (dC : Nat → ClassId) (dI : Nat → Nat → Nat) (cI cJ : ClassId) (sz0 : Nat) (h0 : Nat) (h1 : Nat) (h2 : Nat) (h3 : Nat) (N : Nat) (OU : Nat) (asked : Nat → Int32) (tabs : Nat → Int32) (seen : Nat → Int32) (LW : Nat) (lev : Nat) (hOU : OU ≤ 2) (hLW : (1 : Int32) <<< (nI lev &&& 31) = nI LW ∧ LW ≤ 8) : Met l y_Diagrams_nodesOfLevel (ct y_Diagrams_nodesOfLevel b_Diagrams_nodesOfLevel 11 (some .int)) ({ frames := 1, cells := 0, slots := 0, locals := 23 }) (va_Pc [.ref h0, .int ((nI lev))] (fun U => U.heap.size = sz0 ∧ va_P (dC, dI) classes [(h0, .inr (2, [.int ((nI N)), .int ((nI OU)), .ref h1, .ref h2, .ref h3])), (h1, .inl (cI, 4, .inl asked)), (h2, .inl (cI, 2, .inl tabs)), (h3, .inl (cI, 16, .inl seen))] U.heap ∧ va_K (dC, dI) classes [(cI, .int), (cJ, .long)] U ∧ va_D (fun _ => True) [(h0, .inr (2, [.int ((nI N)), .int ((nI OU)), .ref h1, .ref h2, .ref h3])), (h1, .inl (cI, 4, .inl asked)), (h2, .inl (cI, 2, .inl tabs)), (h3, .inl (cI, 16, .inl seen))])) (va_Qi (fun (r : Int32) (_ : Unit) => r = nI (stNo tabs (fHf N lev) (fHm N lev) LW seen OU).1) (fun _ => at_w dC dI cI cJ (va_A [(h0, .inr (2, [.int ((nI N)), .int ((nI OU)), .ref h1, .ref h2, .ref h3])), (h1, .inl (cI, 4, .inl asked)), (h2, .inl (cI, 2, .inl tabs)), (h3, .inl (cI, 16, .inl seen))] sz0) [(h0, .inr (2, [.int ((nI N)), .int ((nI OU)), .ref h1, .ref h2, .ref h3])), (h1, .inl (cI, 4, .inl asked)), (h2, .inl (cI, 2, .inl tabs)), (h3, .inl (cI, 16, .inl (((stNo tabs (fHf N lev) (fHm N lev) LW seen OU).2))))]) (va_A [(h0, .inr (2, [.int ((nI N)), .int ((nI OU)), .ref h1, .ref h2, .ref h3])), (h1, .inl (cI, 4, .inl asked)), (h2, .inl (cI, 2, .inl tabs)), (h3, .inl (cI, 16, .inl seen))] sz0)) 0 0 (va_A [(h0, .inr (2, [.int ((nI N)), .int ((nI OU)), .ref h1, .ref h2, .ref h3])), (h1, .inl (cI, 4, .inl asked)), (h2, .inl (cI, 2, .inl tabs)), (h3, .inl (cI, 16, .inl seen))] sz0) := by
  refine Met.ofW (cc := b_Diagrams_nodesOfLevel) (maxL := 11) (ret := some .int) (by decide) rfl ?_
  intro p e s m args below meth c s₁ B hml hv
  obtain ⟨rfl, hsz, hP, hK, hD0⟩ := hv
  have hx := B.exec
  have hb := B.bytes
  have hr := B.returns
  have hts : ∀ w ∈ lwg, w.before _ s = true := fun w h => atoms_spec (ws := ct y_Diagrams_nodesOfLevel b_Diagrams_nodesOfLevel 11 (some .int)) B.pre w (List.mem_cons_of_mem _ h)
  have hown : s.vm.findClass R_Diagrams = some m.cls := findClass_of_methodNamed B.named
  have hlocks := B.notSynchronized
  subst hsz
  have hD := hD0.self (sz := s.heap.size)
  generalize hAe : va_A [(h0, .inr (2, [.int ((nI N)), .int ((nI OU)), .ref h1, .ref h2, .ref h3])), (h1, .inl (cI, 4, .inl asked)), (h2, .inl (cI, 2, .inl tabs)), (h3, .inl (cI, 16, .inl seen))] s.heap.size = A at hD ⊢
  have hA : ∀ q : Nat, s.heap.size ≤ q → A q := fun q h => by rw [← hAe]; exact Or.inr h
  have hS : va_S A s.heap s.heap [] := va_S.rf
  have hl := lv_entry ([.ref h0, .int ((nI lev))]) (n := 11) (Nat.le_of_ble_eq_true rfl)
  rw [lg_entry_eq]
  generalize (lg_sl ([.ref h0, .int ((nI lev))]) ++ List.replicate (11 - (lg_sl ([.ref h0, .int ((nI lev))])).length) Slot.unset).toArray = ls at hl ⊢
  have hl : lv_has ls 11 [(0, .ref h0), (1, .int ((nI lev)))] := hl
  have hP : va_P (dC, dI) classes [(h0, .inr (2, [.int ((nI N)), .int ((nI OU)), .ref h1, .ref h2, .ref h3])), (h1, .inl (cI, 4, .inl asked)), (h2, .inl (cI, 2, .inl tabs)), (h3, .inl (cI, 16, .inl seen))] s.heap := hP
  refine lv_iconst (v := 1) hx hb d_Diagrams_nodesOfLevel_0 (by decide) ?_
  refine lv_aload_n hx hb d_Diagrams_nodesOfLevel_1 rfl (lv_at hl 0 rfl) ?_
  refine va_get (D := (dC, dI)) (ci := 2) (v := .int ((nI N))) (C := R_Diagrams) (T := F_Diagrams) (N := 5) hx hb hts i_Diagrams hown hK hP 0 rfl rfl 0 (by decide) (hts _ mw_fl_Diagrams_21) (fun _ h9 => h9) rfl d_Diagrams_nodesOfLevel_2 ?_
  refine lv_iconst (v := 1) hx hb d_Diagrams_nodesOfLevel_5 (by decide) ?_
  refine lv_isub hx hb d_Diagrams_nodesOfLevel_6 ?_
  refine lv_iload_n hx hb d_Diagrams_nodesOfLevel_7 rfl (lv_at hl 1 rfl) ?_
  refine lv_isub hx hb d_Diagrams_nodesOfLevel_8 ?_
  refine lv_ishl hx hb d_Diagrams_nodesOfLevel_9 ?_
  refine w_ti (show _ = fHf N lev from rfl) ?_
  refine lv_istore_n (lv' := [(2, .int ((fHf N lev))), (0, .ref h0), (1, .int ((nI lev)))]) hx hb d_Diagrams_nodesOfLevel_10 rfl hl (by decide) rfl (fun ls hl => ?_)
  refine lv_iconst (v := 1) hx hb d_Diagrams_nodesOfLevel_11 (by decide) ?_
  refine lv_iload_n hx hb d_Diagrams_nodesOfLevel_12 rfl (lv_at hl 0 rfl) ?_
  refine lv_ishl hx hb d_Diagrams_nodesOfLevel_13 ?_
  refine lv_iconst (v := 1) hx hb d_Diagrams_nodesOfLevel_14 (by decide) ?_
  refine lv_isub hx hb d_Diagrams_nodesOfLevel_15 ?_
  refine w_ti (show _ = fHm N lev from rfl) ?_
  refine lv_istore_n (lv' := [(3, .int ((fHm N lev))), (2, .int ((fHf N lev))), (0, .ref h0), (1, .int ((nI lev)))]) hx hb d_Diagrams_nodesOfLevel_16 rfl hl (by decide) rfl (fun ls hl => ?_)
  refine lv_iconst (v := 0) hx hb d_Diagrams_nodesOfLevel_17 (by decide) ?_
  refine lv_istore (lv' := [(4, .int 0), (3, .int ((fHm N lev))), (2, .int ((fHf N lev))), (0, .ref h0), (1, .int ((nI lev)))]) hx hb d_Diagrams_nodesOfLevel_18 hl (by decide) rfl (fun ls hl => ?_)
  refine lv_iconst (v := 0) hx hb d_Diagrams_nodesOfLevel_20 (by decide) ?_
  refine lv_istore (lv' := [(5, .int 0), (4, .int 0), (3, .int ((fHm N lev))), (2, .int ((fHf N lev))), (0, .ref h0), (1, .int ((nI lev)))]) hx hb d_Diagrams_nodesOfLevel_21 hl (by decide) rfl (fun ls hl => ?_)
  exact lp_Diagrams_nodesOfLevel2 l dC dI cI cJ h0 h1 h2 h3 N OU asked tabs seen LW lev hOU hLW hx hb hr hts hown hlocks hml hK hA (OU + 1) 0 (by omega) (Nat.zero_le _) _ _ ls (hP.sub [0, 1, 2, 3] rfl) (hD.sub [0, 1, 2, 3] (by decide) rfl) hS (lv_sub hl [4, 5, 3, 2, 1, 0] rfl)
