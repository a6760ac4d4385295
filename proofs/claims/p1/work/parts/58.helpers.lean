/-! ===== the law: names, its helpers ===== -/
abbrev cth (y : MethodName) (bytes : ByteArray) (maxL : Nat) (ret : Option FieldType) (hs : List (Nat × Nat × Nat × Nat)) : List Cond := Cond.codeWith y bytes maxL ret hs :: lwg
theorem cth_good {y : MethodName} {bytes : ByteArray} {maxL : Nat} {ret : Option FieldType} {hs : List (Nat × Nat × Nat × Nat)} (h : Cond.codeWith y bytes maxL ret hs ∈ lwg) : GoodIn lwg (cth y bytes maxL ret hs) :=
  lw_goodIn (fun w hw => (List.mem_cons.mp hw).elim (fun e => e ▸ h) id)
theorem xh_tab {L : List ExceptionTableEntry} {a b hp ct : Nat} {r : List (Nat × Nat × Nat × Nat)} (h : L.map (fun h => (h.startPc, h.endPc, h.handlerPc, h.catchType)) = (a, b, hp, ct) :: r) : ∃ x t, L = x :: t ∧ x.startPc = a ∧ x.endPc = b ∧ x.handlerPc = hp ∧ x.catchType = ct := by
  cases L with
  | nil => cases h
  | cons x t =>
    simp only [List.map_cons, List.cons.injEq, Prod.mk.injEq] at h
    exact ⟨x, t, rfl, h.1.1, h.1.2.1, h.1.2.2.1, h.1.2.2.2⟩
theorem xh_S {A : Nat → Prop} {H0 H H1 : Heap} {locs L : List Loc} (hS : va_S A H0 H locs) (a2 : H.size ≤ H1.size) (a3 : ∀ q : Nat, q < H.size → H1[q]? = H[q]?) (hL : ∀ q ∈ L, False) : va_S A H0 H1 (locs ++ L) :=
  ⟨Nat.le_trans hS.1 a2, fun q h1 h2 => (a3 q (Nat.lt_of_lt_of_le h1 hS.1)).trans (hS.2.1 q h1 h2), fun q hq => (List.mem_append.mp hq).elim (hS.2.2 q) (fun h => (hL q h).elim)⟩
theorem xh_S2 {A A1 : Nat → Prop} {H0 H H1 : Heap} {locs L : List Loc} (hS : va_S A H0 H locs) (hz : H.size ≤ H1.size) (hk : ∀ q : Nat, q < H.size → ¬ A1 q → H1[q]? = H[q]?) (hF : ∀ q, A1 q → A q) (hL : ∀ q ∈ L, A1 q.base) : va_S A H0 H1 (locs ++ L) :=
  ⟨Nat.le_trans hS.1 hz, fun q h1 h2 => (hk q (Nat.lt_of_lt_of_le h1 hS.1) (fun h => h2 (hF q h))).trans (hS.2.1 q h1 h2), fun q hq => (List.mem_append.mp hq).elim (hS.2.2 q) (fun h => hF _ (hL q h))⟩
section XHK
variable {p : Program} {l : Launch} {e : Env} {R : Room} {s : State} {m : MethodId} {args : Array Value} {below : List Frame} {meth : Method} {c : Code} {H : Heap} {locs : List Loc} {cells slots : Nat} {Q : State → Prop}
theorem xh_catch {x : Addr} {pc hpc a b ct : Nat} {ls : Array Slot} {st : List Value} {cell : Cell} {own E : String} {xe : ExceptionTableEntry} {te : List ExceptionTableEntry} (ha : l.admits e) (hown : s.vm.findClass own = some m.cls) (hte : c.exceptionTable.toList = xe :: te) (e1 : xe.startPc = a) (e2 : xe.endPc = b) (e3 : xe.handlerPc = hpc) (e4 : xe.catchType = ct)
    (h1 : a ≤ pc) (h2 : pc < b) (h3 : ct ≠ 0) (hcl : (Cond.classLink own ct E).before args s = true) (hcell : H[x]? = some cell) (hvm : cell.vm = .none) (hE : s.vm.findClass E = some cell.cls)
    (kk : W p l e R s m args below meth c H locs cells slots Q (F0 m hpc ls [.ref x])) : xt_W p l e R s m args below meth c H locs cells slots Q x (F0 m pc ls st) := by
  subst e4
  obtain ⟨c9, hc9, hl9⟩ := Cond.classLink_spec hown hcl e.platform (by rw [ha.platform])
  obtain ⟨dk, cf, name, ck, -, -, -, -, -, hck, -⟩ := hl9.here
  have e9 : c9 = cell.cls := Option.some.inj (hc9.symm.trans hE)
  subst e9
  exact xt_catch [] xe te hte e3 hcell (fun k h => by rw [hvm] at h; cases h) ⟨ck, hck⟩ (fun z hz => by cases hz) (xh_link ha hown hcl (by simp [covers, e1, e2, h1, h2]) h3 hE) kk
end XHK
set_option maxHeartbeats 1000000 in
theorem c_Law_cell (l : Launch) (b L : Nat) (xs : Nat → Int32) (k : Nat) (hL : L < 2 ^ 31) (hk : k < 2 ^ 31) : Met l y_Law_cell (ct y_Law_cell b_Law_cell 2 (some .int)) ({ frames := 0, cells := 0, slots := 0, locals := 0 }) (va_Pc [.ref b, .int (nI k)] (fun U => va_X b L xs U U.heap ∧ b < U.heap.size)) (vp_Si (fun r => r = if L ≤ k then 0 else xs k)) 0 0 (fun _ => False) := by
  refine Met.ofW (cc := b_Law_cell) (maxL := 2) (ret := some .int) (by decide) rfl ?_
  intro p e s m args below meth c s₁ B hml hv
  obtain ⟨rfl, hX, hbl⟩ := hv
  have hx := B.exec
  have hb := B.bytes
  have hr := B.returns
  have hlocks := B.notSynchronized
  have hbA : ¬ (fun _ : Nat => False) b := fun h => h
  have hS : va_S (fun _ => False) s.heap s.heap [] := va_S.rf
  have hl := lv_entry ([.ref b, .int (nI k)]) (n := 2) (Nat.le_of_ble_eq_true rfl)
  rw [lg_entry_eq]
  generalize (lg_sl ([.ref b, .int (nI k)]) ++ List.replicate (2 - (lg_sl ([.ref b, .int (nI k)])).length) Slot.unset).toArray = ls at hl ⊢
  have hl : lv_has ls 2 [(0, .ref b), (1, .int (nI k))] := hl
  refine lv_iload_n hx hb d_Law_cell_0 rfl (lv_at hl 1 rfl) ?_
  refine lv_aload_n hx hb d_Law_cell_1 rfl (lv_at hl 0 rfl) ?_
  refine va_slen hx hb hX hbl hbA hS d_Law_cell_2 ?_
  refine lv_icmp_ge (tgt := 12) hx hb d_Law_cell_3 (by decide) (fun c_3 => ?_) (fun c_3 => ?_)
  · refine lv_iconst (v := 0) hx hb d_Law_cell_12 (by decide) ?_
    exact W.iret (v := 0) hx hb hr (fun t ht hW => ⟨_, rfl, (if_pos ((nI_leI (a := L) (b := k) hL hk).mp c_3)).symm, ht⟩) (fun q h => by cases h) d_Law_cell_13
  · have hlt : ¬ L ≤ k := fun h => c_3 ((nI_leI (a := L) (b := k) hL hk).mpr h)
    refine lv_aload_n hx hb d_Law_cell_6 rfl (lv_at hl 0 rfl) ?_
    refine lv_iload_n hx hb d_Law_cell_7 rfl (lv_at hl 1 rfl) ?_
    refine va_sld hx hb hX hbl hbA hS (vp_in_nI (show k < L by omega) hL) d_Law_cell_8 ?_
    refine lv_goto (tgt := 13) hx hb d_Law_cell_9 (by decide) ?_
    exact W.iret (v := xs (nI k).toNatClampNeg) hx hb hr (fun t ht hW => ⟨_, rfl, by rw [if_neg hlt, nI_clamp hk], ht⟩) (fun q h => by cases h) d_Law_cell_13
set_option maxHeartbeats 1000000 in
set_option maxRecDepth 100000 in
theorem c_Law_literal (l : Launch) (hfl : l.flags = flags0) (dC : Nat → ClassId) (dI : Nat → Nat → Nat) (cI cJ : ClassId) (sz0 : Nat) (m0 : Nat) (N : Nat) (OU : Nat) (b0 : Nat) (t0 : Nat) (f0 : Nat) (g0 : Nat) (k0 : Nat) (v0 : Nat) (d0 : Nat) (b1 : Nat) (b2 : Nat) (prod : Nat → Int32) (kind : Nat → Int32) (a0 : Nat) (x : Int32) (y : Int32) (z : Int32) (o0 : Nat) (of : Nat → Int64) : xt_Met l y_Law_literal (cth y_Law_literal b_Law_literal 6 (some .int) [(0, 19, 22, 19), (0, 19, 26, 21)]) ({ frames := 7, cells := 1, slots := 6, locals := 114 }) (va_Pc [.ref m0, .int x, .int y, .int z, .ref o0] (fun U => U.heap.size = sz0 ∧ va_P (dC, dI) classes [(m0, .inr (7, [.int ((nI N)), .int ((nI OU)), .ref b0, .ref t0, .ref f0, .ref g0, .ref k0, .ref v0, .ref d0, .int 0, .int 0])), (b0, .inr (1, [.ref a0, .int ((nI OU)), .ref b1, .ref b2, .int 0])), (b1, .inl (cI, 24, .inl prod)), (b2, .inl (cI, 48, .inl kind)), (o0, .inl (cJ, 1, .inr (.inl of)))] U.heap ∧ va_K (dC, dI) classes [(cI, .int), (cJ, .long)] U ∧ va_D (fun _ => True) [(m0, .inr (7, [.int ((nI N)), .int ((nI OU)), .ref b0, .ref t0, .ref f0, .ref g0, .ref k0, .ref v0, .ref d0, .int 0, .int 0])), (b0, .inr (1, [.ref a0, .int ((nI OU)), .ref b1, .ref b2, .int 0])), (b1, .inl (cI, 24, .inl prod)), (b2, .inl (cI, 48, .inl kind)), (o0, .inl (cJ, 1, .inr (.inl of)))] ∧ gl (va_A [(m0, .inr (7, [.int ((nI N)), .int ((nI OU)), .ref b0, .ref t0, .ref f0, .ref g0, .ref k0, .ref v0, .ref d0, .int 0, .int 0])), (b0, .inr (1, [.ref a0, .int ((nI OU)), .ref b1, .ref b2, .int 0])), (b1, .inl (cI, 24, .inl prod)), (b2, .inl (cI, 48, .inl kind)), (o0, .inl (cJ, 1, .inr (.inl of)))] sz0) U U.heap)) (va_Qi (fun (r : Int32) (_ : Unit) => r = 1) (fun _ => at_w dC dI cI cJ (va_A [(m0, .inr (7, [.int ((nI N)), .int ((nI OU)), .ref b0, .ref t0, .ref f0, .ref g0, .ref k0, .ref v0, .ref d0, .int 0, .int 0])), (b0, .inr (1, [.ref a0, .int ((nI OU)), .ref b1, .ref b2, .int 0])), (b1, .inl (cI, 24, .inl prod)), (b2, .inl (cI, 48, .inl kind)), (o0, .inl (cJ, 1, .inr (.inl of)))] sz0) [(o0, .inl (cJ, 1, .inr (.inl of)))]) (va_A [(m0, .inr (7, [.int ((nI N)), .int ((nI OU)), .ref b0, .ref t0, .ref f0, .ref g0, .ref k0, .ref v0, .ref d0, .int 0, .int 0])), (b0, .inr (1, [.ref a0, .int ((nI OU)), .ref b1, .ref b2, .int 0])), (b1, .inl (cI, 24, .inl prod)), (b2, .inl (cI, 48, .inl kind)), (o0, .inl (cJ, 1, .inr (.inl of)))] sz0)) 1 6 (va_A [(m0, .inr (7, [.int ((nI N)), .int ((nI OU)), .ref b0, .ref t0, .ref f0, .ref g0, .ref k0, .ref v0, .ref d0, .int 0, .int 0])), (b0, .inr (1, [.ref a0, .int ((nI OU)), .ref b1, .ref b2, .int 0])), (b1, .inl (cI, 24, .inl prod)), (b2, .inl (cI, 48, .inl kind)), (o0, .inl (cJ, 1, .inr (.inl of)))] sz0) := by
  refine xh_ofW (cc := b_Law_literal) (maxL := 6) (ret := some .int) (hs := [(0, 19, 22, 19), (0, 19, 26, 21)]) (by decide) rfl ?_
  intro p e s m args below meth c s₁ B hml htb hv
  obtain ⟨rfl, hsz, hP, hK, hD0, hG⟩ := hv
  have hx := B.exec
  have hb := B.bytes
  have hr := B.returns
  have hts : ∀ w ∈ lwg, w.before _ s = true := fun w h => atoms_spec (ws := cth y_Law_literal b_Law_literal 6 (some .int) [(0, 19, 22, 19), (0, 19, 26, 21)]) B.pre w (List.mem_cons_of_mem _ h)
  have hown : s.vm.findClass R_Law = some m.cls := findClass_of_methodNamed B.named
  have hlocks := B.notSynchronized
  subst hsz
  have hD := hD0.self (sz := s.heap.size)
  generalize hAe : va_A [(m0, .inr (7, [.int ((nI N)), .int ((nI OU)), .ref b0, .ref t0, .ref f0, .ref g0, .ref k0, .ref v0, .ref d0, .int 0, .int 0])), (b0, .inr (1, [.ref a0, .int ((nI OU)), .ref b1, .ref b2, .int 0])), (b1, .inl (cI, 24, .inl prod)), (b2, .inl (cI, 48, .inl kind)), (o0, .inl (cJ, 1, .inr (.inl of)))] s.heap.size = A at hD hG ⊢
  have hA : ∀ q : Nat, s.heap.size ≤ q → A q := fun q h => by rw [← hAe]; exact Or.inr h
  have hS : va_S A s.heap s.heap [] := va_S.rf
  have hl := lv_entry ([.ref m0, .int x, .int y, .int z, .ref o0]) (n := 6) (Nat.le_of_ble_eq_true rfl)
  rw [lg_entry_eq]
  generalize (lg_sl ([.ref m0, .int x, .int y, .int z, .ref o0]) ++ List.replicate (6 - (lg_sl ([.ref m0, .int x, .int y, .int z, .ref o0])).length) Slot.unset).toArray = ls at hl ⊢
  have hl : lv_has ls 6 [(0, .ref m0), (1, .int x), (2, .int y), (3, .int z), (4, .ref o0)] := hl
  have hP : va_P (dC, dI) classes [(m0, .inr (7, [.int ((nI N)), .int ((nI OU)), .ref b0, .ref t0, .ref f0, .ref g0, .ref k0, .ref v0, .ref d0, .int 0, .int 0])), (b0, .inr (1, [.ref a0, .int ((nI OU)), .ref b1, .ref b2, .int 0])), (b1, .inl (cI, 24, .inl prod)), (b2, .inl (cI, 48, .inl kind)), (o0, .inl (cJ, 1, .inr (.inl of)))] s.heap := hP
  obtain ⟨⟨tF, hZF, hTF⟩, hGr⟩ := id hG
  refine lv_aload hx hb d_Law_literal_0 (lv_at hl 4 rfl) ?_
  refine lv_iconst (v := 0) hx hb d_Law_literal_2 (by decide) ?_
  refine lv_aload_n hx hb d_Law_literal_3 rfl (lv_at hl 0 rfl) ?_
  refine lv_iload_n hx hb d_Law_literal_4 rfl (lv_at hl 1 rfl) ?_
  refine lv_iload_n hx hb d_Law_literal_5 rfl (lv_at hl 2 rfl) ?_
  refine lv_iload_n hx hb d_Law_literal_6 rfl (lv_at hl 3 rfl) ?_
  refine xt_callV (As := [.int x, .int y, .int z]) (rest := [.int 0, .ref o0]) ⟨hx, hb, hml, hown, hts⟩ (c_Main_literal l hfl dC dI cI cJ m0 N OU b0 t0 f0 g0 k0 v0 d0 b1 b2 prod kind a0 x y z ) (cwV 3 hts (ct_goodV mw_ml_Law_15 mw_im_Main_literal mw_se_Main_literal mw_ini_Main mw_code_Main_literal) rfl rfl rfl (by decide +kernel) ⟨Nat.le_of_ble_eq_true rfl, Nat.le_of_ble_eq_true rfl⟩) ⟨fun a U g mk q => by obtain ⟨q0, qP, qK, qG⟩ := q; exact ⟨q0, qP, va_K.moved (u := U) (U := U.calling g mk a) (Vm.Alike.refl U.vm) qK, gl.blind qG⟩, va_recv hK hP (ci := 7) (q0 := 0) rfl rfl, fun U hU hW => ⟨rfl, by rw [hU]; exact hP.sub (ws' := [(m0, .inr (7, [.int ((nI N)), .int ((nI OU)), .ref b0, .ref t0, .ref f0, .ref g0, .ref k0, .ref v0, .ref d0, .int 0, .int 0])), (b0, .inr (1, [.ref a0, .int ((nI OU)), .ref b1, .ref b2, .int 0])), (b1, .inl (cI, 24, .inl prod)), (b2, .inl (cI, 48, .inl kind))]) [0, 1, 2, 3] rfl, va_K.moved hW.alike hK, by rw [hU]; exact ((hG.kept hS.2.1).narrow (fun _ h => h.elim)).moved hW⟩⟩ rfl hl.1 rfl (lv_room (Nat.le_of_ble_eq_true rfl)) d_Law_literal_7 ⟨Nat.le_of_ble_eq_true rfl, Nat.le_of_ble_eq_true rfl⟩ (fun v st₀ t H1 L h0 h1 h2 hq hL => ?_) (fun xA st₀ t H1 L h0 h1 h2 hq hL => ?_)
  · obtain ⟨_, _, h9, _⟩ := hq
    cases h9
  obtain ⟨_, ce, h9, a1, a2, a3, a4, a5, a6⟩ := hq
  cases h9
  rw [h0] at a1 a2 a3
  rw [h1] at a2 a3 a4
  obtain ⟨xe, te, hte, e1, e2, e3, e4⟩ := xh_tab htb
  have hP := hP.kept (H1 := H1) (fun k q hk => a3 q.1 (hP k q hk).lt)
  have hS := xh_S hS a2 a3 hL
  refine xh_catch B.admits hown hte e1 e2 e3 e4 (by decide) (by decide) (by decide) (hts _ mw_cl_Law_19) a4 a5 (by rw [← h2.findClass]; exact a6) ?_
  have hP : va_P (dC, dI) classes [(m0, .inr (7, [.int ((nI N)), .int ((nI OU)), .ref b0, .ref t0, .ref f0, .ref g0, .ref k0, .ref v0, .ref d0, .int 0, .int 0])), (b0, .inr (1, [.ref a0, .int ((nI OU)), .ref b1, .ref b2, .int 0])), (b1, .inl (cI, 24, .inl prod)), (b2, .inl (cI, 48, .inl kind)), (o0, .inl (cJ, 1, .inr (.inl of)))] H1 := hP
  refine lv_astore (lv' := [(5, .ref xA), (0, .ref m0), (1, .int x), (2, .int y), (3, .int z), (4, .ref o0)]) hx hb d_Law_literal_22 hl (by decide) rfl (fun ls hl => ?_)
  refine lv_iconst (v := 1) hx hb d_Law_literal_24 (by decide) ?_
  refine xt_imp (fun t h => xt_ofMQ t h) ?_
  have hP9 := hP.sub (ws' := [(o0, .inl (cJ, 1, .inr (.inl of)))]) [4] rfl
  have hD9 := hD.sub (ws' := [(o0, .inl (cJ, 1, .inr (.inl of)))]) [4] (by decide) rfl
  exact W.iret (v := 1) hx hb hr (fun t ht hW => ⟨⟨1, (), rfl, rfl, by rw [ht]; exact hP9, va_K.moved hW.alike hK, hD9⟩, hS.F ht⟩) hS.2.2 d_Law_literal_25
set_option maxHeartbeats 1000000 in
set_option maxRecDepth 100000 in
theorem c_Law_to (l : Launch) (hfl : l.flags = flags0) (dC : Nat → ClassId) (dI : Nat → Nat → Nat) (cI cJ : ClassId) (sz0 : Nat) (m0 : Nat) (N : Nat) (OU : Nat) (b0 : Nat) (t0 : Nat) (f0 : Nat) (g0 : Nat) (k0 : Nat) (v0 : Nat) (d0 : Nat) (b1 : Nat) (b2 : Nat) (prod : Nat → Int32) (kind : Nat → Int32) (a0 : Nat) (x : Int32) (y : Int32) (z : Int32) (o0 : Nat) (of : Nat → Int64) : xt_Met l y_Law_to (cth y_Law_to b_Law_to 6 (some .int) [(0, 19, 22, 19), (0, 19, 26, 21)]) ({ frames := 7, cells := 1, slots := 6, locals := 114 }) (va_Pc [.ref m0, .int x, .int y, .int z, .ref o0] (fun U => U.heap.size = sz0 ∧ va_P (dC, dI) classes [(m0, .inr (7, [.int ((nI N)), .int ((nI OU)), .ref b0, .ref t0, .ref f0, .ref g0, .ref k0, .ref v0, .ref d0, .int 0, .int 0])), (b0, .inr (1, [.ref a0, .int ((nI OU)), .ref b1, .ref b2, .int 0])), (b1, .inl (cI, 24, .inl prod)), (b2, .inl (cI, 48, .inl kind)), (o0, .inl (cJ, 1, .inr (.inl of)))] U.heap ∧ va_K (dC, dI) classes [(cI, .int), (cJ, .long)] U ∧ va_D (fun _ => True) [(m0, .inr (7, [.int ((nI N)), .int ((nI OU)), .ref b0, .ref t0, .ref f0, .ref g0, .ref k0, .ref v0, .ref d0, .int 0, .int 0])), (b0, .inr (1, [.ref a0, .int ((nI OU)), .ref b1, .ref b2, .int 0])), (b1, .inl (cI, 24, .inl prod)), (b2, .inl (cI, 48, .inl kind)), (o0, .inl (cJ, 1, .inr (.inl of)))] ∧ gl (va_A [(m0, .inr (7, [.int ((nI N)), .int ((nI OU)), .ref b0, .ref t0, .ref f0, .ref g0, .ref k0, .ref v0, .ref d0, .int 0, .int 0])), (b0, .inr (1, [.ref a0, .int ((nI OU)), .ref b1, .ref b2, .int 0])), (b1, .inl (cI, 24, .inl prod)), (b2, .inl (cI, 48, .inl kind)), (o0, .inl (cJ, 1, .inr (.inl of)))] sz0) U U.heap)) (va_Qi (fun (r : Int32) (_ : Unit) => r = 1) (fun _ => at_w dC dI cI cJ (va_A [(m0, .inr (7, [.int ((nI N)), .int ((nI OU)), .ref b0, .ref t0, .ref f0, .ref g0, .ref k0, .ref v0, .ref d0, .int 0, .int 0])), (b0, .inr (1, [.ref a0, .int ((nI OU)), .ref b1, .ref b2, .int 0])), (b1, .inl (cI, 24, .inl prod)), (b2, .inl (cI, 48, .inl kind)), (o0, .inl (cJ, 1, .inr (.inl of)))] sz0) [(o0, .inl (cJ, 1, .inr (.inl of)))]) (va_A [(m0, .inr (7, [.int ((nI N)), .int ((nI OU)), .ref b0, .ref t0, .ref f0, .ref g0, .ref k0, .ref v0, .ref d0, .int 0, .int 0])), (b0, .inr (1, [.ref a0, .int ((nI OU)), .ref b1, .ref b2, .int 0])), (b1, .inl (cI, 24, .inl prod)), (b2, .inl (cI, 48, .inl kind)), (o0, .inl (cJ, 1, .inr (.inl of)))] sz0)) 1 6 (va_A [(m0, .inr (7, [.int ((nI N)), .int ((nI OU)), .ref b0, .ref t0, .ref f0, .ref g0, .ref k0, .ref v0, .ref d0, .int 0, .int 0])), (b0, .inr (1, [.ref a0, .int ((nI OU)), .ref b1, .ref b2, .int 0])), (b1, .inl (cI, 24, .inl prod)), (b2, .inl (cI, 48, .inl kind)), (o0, .inl (cJ, 1, .inr (.inl of)))] sz0) := by
  refine xh_ofW (cc := b_Law_to) (maxL := 6) (ret := some .int) (hs := [(0, 19, 22, 19), (0, 19, 26, 21)]) (by decide) rfl ?_
  intro p e s m args below meth c s₁ B hml htb hv
  obtain ⟨rfl, hsz, hP, hK, hD0, hG⟩ := hv
  have hx := B.exec
  have hb := B.bytes
  have hr := B.returns
  have hts : ∀ w ∈ lwg, w.before _ s = true := fun w h => atoms_spec (ws := cth y_Law_to b_Law_to 6 (some .int) [(0, 19, 22, 19), (0, 19, 26, 21)]) B.pre w (List.mem_cons_of_mem _ h)
  have hown : s.vm.findClass R_Law = some m.cls := findClass_of_methodNamed B.named
  have hlocks := B.notSynchronized
  subst hsz
  have hD := hD0.self (sz := s.heap.size)
  generalize hAe : va_A [(m0, .inr (7, [.int ((nI N)), .int ((nI OU)), .ref b0, .ref t0, .ref f0, .ref g0, .ref k0, .ref v0, .ref d0, .int 0, .int 0])), (b0, .inr (1, [.ref a0, .int ((nI OU)), .ref b1, .ref b2, .int 0])), (b1, .inl (cI, 24, .inl prod)), (b2, .inl (cI, 48, .inl kind)), (o0, .inl (cJ, 1, .inr (.inl of)))] s.heap.size = A at hD hG ⊢
  have hA : ∀ q : Nat, s.heap.size ≤ q → A q := fun q h => by rw [← hAe]; exact Or.inr h
  have hS : va_S A s.heap s.heap [] := va_S.rf
  have hl := lv_entry ([.ref m0, .int x, .int y, .int z, .ref o0]) (n := 6) (Nat.le_of_ble_eq_true rfl)
  rw [lg_entry_eq]
  generalize (lg_sl ([.ref m0, .int x, .int y, .int z, .ref o0]) ++ List.replicate (6 - (lg_sl ([.ref m0, .int x, .int y, .int z, .ref o0])).length) Slot.unset).toArray = ls at hl ⊢
  have hl : lv_has ls 6 [(0, .ref m0), (1, .int x), (2, .int y), (3, .int z), (4, .ref o0)] := hl
  have hP : va_P (dC, dI) classes [(m0, .inr (7, [.int ((nI N)), .int ((nI OU)), .ref b0, .ref t0, .ref f0, .ref g0, .ref k0, .ref v0, .ref d0, .int 0, .int 0])), (b0, .inr (1, [.ref a0, .int ((nI OU)), .ref b1, .ref b2, .int 0])), (b1, .inl (cI, 24, .inl prod)), (b2, .inl (cI, 48, .inl kind)), (o0, .inl (cJ, 1, .inr (.inl of)))] s.heap := hP
  obtain ⟨⟨tF, hZF, hTF⟩, hGr⟩ := id hG
  refine lv_aload hx hb d_Law_to_0 (lv_at hl 4 rfl) ?_
  refine lv_iconst (v := 0) hx hb d_Law_to_2 (by decide) ?_
  refine lv_aload_n hx hb d_Law_to_3 rfl (lv_at hl 0 rfl) ?_
  refine lv_iload_n hx hb d_Law_to_4 rfl (lv_at hl 1 rfl) ?_
  refine lv_iload_n hx hb d_Law_to_5 rfl (lv_at hl 2 rfl) ?_
  refine lv_iload_n hx hb d_Law_to_6 rfl (lv_at hl 3 rfl) ?_
  refine xt_callV (As := [.int x, .int y, .int z]) (rest := [.int 0, .ref o0]) ⟨hx, hb, hml, hown, hts⟩ (c_Main_to l hfl dC dI cI cJ m0 N OU b0 t0 f0 g0 k0 v0 d0 b1 b2 prod kind a0 x y z ) (cwV 3 hts (ct_goodV mw_ml_Law_23 mw_im_Main_to mw_se_Main_to mw_ini_Main mw_code_Main_to) rfl rfl rfl (by decide +kernel) ⟨Nat.le_of_ble_eq_true rfl, Nat.le_of_ble_eq_true rfl⟩) ⟨fun a U g mk q => by obtain ⟨q0, qP, qK, qG⟩ := q; exact ⟨q0, qP, va_K.moved (u := U) (U := U.calling g mk a) (Vm.Alike.refl U.vm) qK, gl.blind qG⟩, va_recv hK hP (ci := 7) (q0 := 0) rfl rfl, fun U hU hW => ⟨rfl, by rw [hU]; exact hP.sub (ws' := [(m0, .inr (7, [.int ((nI N)), .int ((nI OU)), .ref b0, .ref t0, .ref f0, .ref g0, .ref k0, .ref v0, .ref d0, .int 0, .int 0])), (b0, .inr (1, [.ref a0, .int ((nI OU)), .ref b1, .ref b2, .int 0])), (b1, .inl (cI, 24, .inl prod)), (b2, .inl (cI, 48, .inl kind))]) [0, 1, 2, 3] rfl, va_K.moved hW.alike hK, by rw [hU]; exact ((hG.kept hS.2.1).narrow (fun _ h => h.elim)).moved hW⟩⟩ rfl hl.1 rfl (lv_room (Nat.le_of_ble_eq_true rfl)) d_Law_to_7 ⟨Nat.le_of_ble_eq_true rfl, Nat.le_of_ble_eq_true rfl⟩ (fun v st₀ t H1 L h0 h1 h2 hq hL => ?_) (fun xA st₀ t H1 L h0 h1 h2 hq hL => ?_)
  · obtain ⟨_, _, h9, _⟩ := hq
    cases h9
  obtain ⟨_, ce, h9, a1, a2, a3, a4, a5, a6⟩ := hq
  cases h9
  rw [h0] at a1 a2 a3
  rw [h1] at a2 a3 a4
  obtain ⟨xe, te, hte, e1, e2, e3, e4⟩ := xh_tab htb
  have hP := hP.kept (H1 := H1) (fun k q hk => a3 q.1 (hP k q hk).lt)
  have hS := xh_S hS a2 a3 hL
  refine xh_catch B.admits hown hte e1 e2 e3 e4 (by decide) (by decide) (by decide) (hts _ mw_cl_Law_19) a4 a5 (by rw [← h2.findClass]; exact a6) ?_
  have hP : va_P (dC, dI) classes [(m0, .inr (7, [.int ((nI N)), .int ((nI OU)), .ref b0, .ref t0, .ref f0, .ref g0, .ref k0, .ref v0, .ref d0, .int 0, .int 0])), (b0, .inr (1, [.ref a0, .int ((nI OU)), .ref b1, .ref b2, .int 0])), (b1, .inl (cI, 24, .inl prod)), (b2, .inl (cI, 48, .inl kind)), (o0, .inl (cJ, 1, .inr (.inl of)))] H1 := hP
  refine lv_astore (lv' := [(5, .ref xA), (0, .ref m0), (1, .int x), (2, .int y), (3, .int z), (4, .ref o0)]) hx hb d_Law_to_22 hl (by decide) rfl (fun ls hl => ?_)
  refine lv_iconst (v := 1) hx hb d_Law_to_24 (by decide) ?_
  refine xt_imp (fun t h => xt_ofMQ t h) ?_
  have hP9 := hP.sub (ws' := [(o0, .inl (cJ, 1, .inr (.inl of)))]) [4] rfl
  have hD9 := hD.sub (ws' := [(o0, .inl (cJ, 1, .inr (.inl of)))]) [4] (by decide) rfl
  exact W.iret (v := 1) hx hb hr (fun t ht hW => ⟨⟨1, (), rfl, rfl, by rw [ht]; exact hP9, va_K.moved hW.alike hK, hD9⟩, hS.F ht⟩) hS.2.2 d_Law_to_25
set_option maxHeartbeats 1000000 in
set_option maxRecDepth 100000 in
theorem c_Law_prime (l : Launch) (hfl : l.flags = flags0) (dC : Nat → ClassId) (dI : Nat → Nat → Nat) (cI cJ : ClassId) (sz0 : Nat) (m0 : Nat) (N : Nat) (OU : Nat) (b0 : Nat) (t0 : Nat) (f0 : Nat) (g0 : Nat) (k0 : Nat) (v0 : Nat) (d0 : Nat) (t1 : Nat) (t2 : Nat) (tp : Nat → Int32) (to : Nat → Int32) (a0 : Nat) (x : Int32) (y : Int32) (o0 : Nat) (of : Nat → Int64) : xt_Met l y_Law_prime (cth y_Law_prime b_Law_prime 5 (some .int) [(0, 10, 13, 19)]) ({ frames := 7, cells := 1, slots := 6, locals := 155 }) (va_Pc [.ref m0, .int x, .int y, .ref o0] (fun U => U.heap.size = sz0 ∧ va_P (dC, dI) classes [(m0, .inr (7, [.int ((nI N)), .int ((nI OU)), .ref b0, .ref t0, .ref f0, .ref g0, .ref k0, .ref v0, .ref d0, .int 0, .int 0])), (t0, .inr (6, [.ref a0, .ref t1, .ref t2, .int 0])), (t1, .inl (cI, 81, .inl tp)), (t2, .inl (cI, 81, .inl to)), (o0, .inl (cJ, 1, .inr (.inl of)))] U.heap ∧ va_K (dC, dI) classes [(cI, .int), (cJ, .long)] U ∧ va_D (fun _ => True) [(m0, .inr (7, [.int ((nI N)), .int ((nI OU)), .ref b0, .ref t0, .ref f0, .ref g0, .ref k0, .ref v0, .ref d0, .int 0, .int 0])), (t0, .inr (6, [.ref a0, .ref t1, .ref t2, .int 0])), (t1, .inl (cI, 81, .inl tp)), (t2, .inl (cI, 81, .inl to)), (o0, .inl (cJ, 1, .inr (.inl of)))] ∧ gl (va_A [(m0, .inr (7, [.int ((nI N)), .int ((nI OU)), .ref b0, .ref t0, .ref f0, .ref g0, .ref k0, .ref v0, .ref d0, .int 0, .int 0])), (t0, .inr (6, [.ref a0, .ref t1, .ref t2, .int 0])), (t1, .inl (cI, 81, .inl tp)), (t2, .inl (cI, 81, .inl to)), (o0, .inl (cJ, 1, .inr (.inl of)))] sz0) U U.heap)) (va_Qi (fun (r : Int32) (_ : Unit) => r = 1) (fun _ => at_w dC dI cI cJ (va_A [(m0, .inr (7, [.int ((nI N)), .int ((nI OU)), .ref b0, .ref t0, .ref f0, .ref g0, .ref k0, .ref v0, .ref d0, .int 0, .int 0])), (t0, .inr (6, [.ref a0, .ref t1, .ref t2, .int 0])), (t1, .inl (cI, 81, .inl tp)), (t2, .inl (cI, 81, .inl to)), (o0, .inl (cJ, 1, .inr (.inl of)))] sz0) [(o0, .inl (cJ, 1, .inr (.inl of)))]) (va_A [(m0, .inr (7, [.int ((nI N)), .int ((nI OU)), .ref b0, .ref t0, .ref f0, .ref g0, .ref k0, .ref v0, .ref d0, .int 0, .int 0])), (t0, .inr (6, [.ref a0, .ref t1, .ref t2, .int 0])), (t1, .inl (cI, 81, .inl tp)), (t2, .inl (cI, 81, .inl to)), (o0, .inl (cJ, 1, .inr (.inl of)))] sz0)) 1 6 (va_A [(m0, .inr (7, [.int ((nI N)), .int ((nI OU)), .ref b0, .ref t0, .ref f0, .ref g0, .ref k0, .ref v0, .ref d0, .int 0, .int 0])), (t0, .inr (6, [.ref a0, .ref t1, .ref t2, .int 0])), (t1, .inl (cI, 81, .inl tp)), (t2, .inl (cI, 81, .inl to)), (o0, .inl (cJ, 1, .inr (.inl of)))] sz0) := by
  refine xh_ofW (cc := b_Law_prime) (maxL := 5) (ret := some .int) (hs := [(0, 10, 13, 19)]) (by decide) rfl ?_
  intro p e s m args below meth c s₁ B hml htb hv
  obtain ⟨rfl, hsz, hP, hK, hD0, hG⟩ := hv
  have hx := B.exec
  have hb := B.bytes
  have hr := B.returns
  have hts : ∀ w ∈ lwg, w.before _ s = true := fun w h => atoms_spec (ws := cth y_Law_prime b_Law_prime 5 (some .int) [(0, 10, 13, 19)]) B.pre w (List.mem_cons_of_mem _ h)
  have hown : s.vm.findClass R_Law = some m.cls := findClass_of_methodNamed B.named
  have hlocks := B.notSynchronized
  subst hsz
  have hD := hD0.self (sz := s.heap.size)
  generalize hAe : va_A [(m0, .inr (7, [.int ((nI N)), .int ((nI OU)), .ref b0, .ref t0, .ref f0, .ref g0, .ref k0, .ref v0, .ref d0, .int 0, .int 0])), (t0, .inr (6, [.ref a0, .ref t1, .ref t2, .int 0])), (t1, .inl (cI, 81, .inl tp)), (t2, .inl (cI, 81, .inl to)), (o0, .inl (cJ, 1, .inr (.inl of)))] s.heap.size = A at hD hG ⊢
  have hA : ∀ q : Nat, s.heap.size ≤ q → A q := fun q h => by rw [← hAe]; exact Or.inr h
  have hS : va_S A s.heap s.heap [] := va_S.rf
  have hl := lv_entry ([.ref m0, .int x, .int y, .ref o0]) (n := 5) (Nat.le_of_ble_eq_true rfl)
  rw [lg_entry_eq]
  generalize (lg_sl ([.ref m0, .int x, .int y, .ref o0]) ++ List.replicate (5 - (lg_sl ([.ref m0, .int x, .int y, .ref o0])).length) Slot.unset).toArray = ls at hl ⊢
  have hl : lv_has ls 5 [(0, .ref m0), (1, .int x), (2, .int y), (3, .ref o0)] := hl
  have hP : va_P (dC, dI) classes [(m0, .inr (7, [.int ((nI N)), .int ((nI OU)), .ref b0, .ref t0, .ref f0, .ref g0, .ref k0, .ref v0, .ref d0, .int 0, .int 0])), (t0, .inr (6, [.ref a0, .ref t1, .ref t2, .int 0])), (t1, .inl (cI, 81, .inl tp)), (t2, .inl (cI, 81, .inl to)), (o0, .inl (cJ, 1, .inr (.inl of)))] s.heap := hP
  obtain ⟨⟨tF, hZF, hTF⟩, hGr⟩ := id hG
  refine lv_aload_n hx hb d_Law_prime_0 rfl (lv_at hl 3 rfl) ?_
  refine lv_iconst (v := 0) hx hb d_Law_prime_1 (by decide) ?_
  refine lv_aload_n hx hb d_Law_prime_2 rfl (lv_at hl 0 rfl) ?_
  refine lv_iload_n hx hb d_Law_prime_3 rfl (lv_at hl 1 rfl) ?_
  refine lv_iload_n hx hb d_Law_prime_4 rfl (lv_at hl 2 rfl) ?_
  refine xt_callV (As := [.int x, .int y]) (rest := [.int 0, .ref o0]) ⟨hx, hb, hml, hown, hts⟩ (c_Main_prime l hfl dC dI cI cJ m0 N OU b0 t0 f0 g0 k0 v0 d0 t1 t2 tp to a0 x y ) (cwV 2 hts (ct_goodV mw_ml_Law_26 mw_im_Main_prime mw_se_Main_prime mw_ini_Main mw_code_Main_prime) rfl rfl rfl (by decide +kernel) ⟨Nat.le_of_ble_eq_true rfl, Nat.le_of_ble_eq_true rfl⟩) ⟨fun a U g mk q => by obtain ⟨q0, qP, qK, qG⟩ := q; exact ⟨q0, qP, va_K.moved (u := U) (U := U.calling g mk a) (Vm.Alike.refl U.vm) qK, gl.blind qG⟩, va_recv hK hP (ci := 7) (q0 := 0) rfl rfl, fun U hU hW => ⟨rfl, by rw [hU]; exact hP.sub (ws' := [(m0, .inr (7, [.int ((nI N)), .int ((nI OU)), .ref b0, .ref t0, .ref f0, .ref g0, .ref k0, .ref v0, .ref d0, .int 0, .int 0])), (t0, .inr (6, [.ref a0, .ref t1, .ref t2, .int 0])), (t1, .inl (cI, 81, .inl tp)), (t2, .inl (cI, 81, .inl to))]) [0, 1, 2, 3] rfl, va_K.moved hW.alike hK, by rw [hU]; exact ((hG.kept hS.2.1).narrow (fun _ h => h.elim)).moved hW⟩⟩ rfl hl.1 rfl (lv_room (Nat.le_of_ble_eq_true rfl)) d_Law_prime_5 ⟨Nat.le_of_ble_eq_true rfl, Nat.le_of_ble_eq_true rfl⟩ (fun v st₀ t H1 L h0 h1 h2 hq hL => ?_) (fun xA st₀ t H1 L h0 h1 h2 hq hL => ?_)
  · obtain ⟨_, _, h9, _⟩ := hq
    cases h9
  obtain ⟨_, ce, h9, a1, a2, a3, a4, a5, a6⟩ := hq
  cases h9
  rw [h0] at a1 a2 a3
  rw [h1] at a2 a3 a4
  obtain ⟨xe, te, hte, e1, e2, e3, e4⟩ := xh_tab htb
  have hP := hP.kept (H1 := H1) (fun k q hk => a3 q.1 (hP k q hk).lt)
  have hS := xh_S hS a2 a3 hL
  refine xh_catch B.admits hown hte e1 e2 e3 e4 (by decide) (by decide) (by decide) (hts _ mw_cl_Law_19) a4 a5 (by rw [← h2.findClass]; exact a6) ?_
  have hP : va_P (dC, dI) classes [(m0, .inr (7, [.int ((nI N)), .int ((nI OU)), .ref b0, .ref t0, .ref f0, .ref g0, .ref k0, .ref v0, .ref d0, .int 0, .int 0])), (t0, .inr (6, [.ref a0, .ref t1, .ref t2, .int 0])), (t1, .inl (cI, 81, .inl tp)), (t2, .inl (cI, 81, .inl to)), (o0, .inl (cJ, 1, .inr (.inl of)))] H1 := hP
  refine lv_astore (lv' := [(4, .ref xA), (0, .ref m0), (1, .int x), (2, .int y), (3, .ref o0)]) hx hb d_Law_prime_13 hl (by decide) rfl (fun ls hl => ?_)
  refine lv_iconst (v := 1) hx hb d_Law_prime_15 (by decide) ?_
  refine xt_imp (fun t h => xt_ofMQ t h) ?_
  have hP9 := hP.sub (ws' := [(o0, .inl (cJ, 1, .inr (.inl of)))]) [4] rfl
  have hD9 := hD.sub (ws' := [(o0, .inl (cJ, 1, .inr (.inl of)))]) [4] (by decide) rfl
  exact W.iret (v := 1) hx hb hr (fun t ht hW => ⟨⟨1, (), rfl, rfl, by rw [ht]; exact hP9, va_K.moved hW.alike hK, hD9⟩, hS.F ht⟩) hS.2.2 d_Law_prime_16
set_option maxHeartbeats 1000000 in
set_option maxRecDepth 100000 in
theorem c0_Law_run (l : Launch) (hfl : l.flags = flags0) (dC : Nat → ClassId) (dI : Nat → Nat → Nat) (cI cJ : ClassId) (sz0 : Nat) (m0 : Nat) (N : Nat) (OU : Nat) (b0 : Nat) (t0 : Nat) (f0 : Nat) (g0 : Nat) (k0 : Nat) (v0 : Nat) (d0 : Nat) (x : Int32) (st : Int64) (o0 : Nat) (of : Nat → Int64) (hst : st < 0) : xt_Met l y_Law_run (cth y_Law_run b_Law_run 6 (some .int) [(0, 11, 14, 21)]) ({ frames := 7, cells := 1, slots := 6, locals := 156 }) (va_Pc [.ref m0, .int x, .long st, .ref o0] (fun U => U.heap.size = sz0 ∧ va_P (dC, dI) classes [(m0, .inr (7, [.int ((nI N)), .int ((nI OU)), .ref b0, .ref t0, .ref f0, .ref g0, .ref k0, .ref v0, .ref d0, .int 0, .int 0])), (o0, .inl (cJ, 1, .inr (.inl of)))] U.heap ∧ va_K (dC, dI) classes [(cI, .int), (cJ, .long)] U ∧ va_D (fun _ => True) [(m0, .inr (7, [.int ((nI N)), .int ((nI OU)), .ref b0, .ref t0, .ref f0, .ref g0, .ref k0, .ref v0, .ref d0, .int 0, .int 0])), (o0, .inl (cJ, 1, .inr (.inl of)))] ∧ gl (va_A [(m0, .inr (7, [.int ((nI N)), .int ((nI OU)), .ref b0, .ref t0, .ref f0, .ref g0, .ref k0, .ref v0, .ref d0, .int 0, .int 0])), (o0, .inl (cJ, 1, .inr (.inl of)))] sz0) U U.heap)) (va_Qi (fun (r : Int32) (_ : Unit) => r = 1) (fun _ => at_w dC dI cI cJ (va_A [(m0, .inr (7, [.int ((nI N)), .int ((nI OU)), .ref b0, .ref t0, .ref f0, .ref g0, .ref k0, .ref v0, .ref d0, .int 0, .int 0])), (o0, .inl (cJ, 1, .inr (.inl of)))] sz0) [(o0, .inl (cJ, 1, .inr (.inl of)))]) (va_A [(m0, .inr (7, [.int ((nI N)), .int ((nI OU)), .ref b0, .ref t0, .ref f0, .ref g0, .ref k0, .ref v0, .ref d0, .int 0, .int 0])), (o0, .inl (cJ, 1, .inr (.inl of)))] sz0)) 1 6 (va_A [(m0, .inr (7, [.int ((nI N)), .int ((nI OU)), .ref b0, .ref t0, .ref f0, .ref g0, .ref k0, .ref v0, .ref d0, .int 0, .int 0])), (o0, .inl (cJ, 1, .inr (.inl of)))] sz0) := by
  refine xh_ofW (cc := b_Law_run) (maxL := 6) (ret := some .int) (hs := [(0, 11, 14, 21)]) (by decide) rfl ?_
  intro p e s m args below meth c s₁ B hml htb hv
  obtain ⟨rfl, hsz, hP, hK, hD0, hG⟩ := hv
  have hx := B.exec
  have hb := B.bytes
  have hr := B.returns
  have hts : ∀ w ∈ lwg, w.before _ s = true := fun w h => atoms_spec (ws := cth y_Law_run b_Law_run 6 (some .int) [(0, 11, 14, 21)]) B.pre w (List.mem_cons_of_mem _ h)
  have hown : s.vm.findClass R_Law = some m.cls := findClass_of_methodNamed B.named
  have hlocks := B.notSynchronized
  subst hsz
  have hD := hD0.self (sz := s.heap.size)
  generalize hAe : va_A [(m0, .inr (7, [.int ((nI N)), .int ((nI OU)), .ref b0, .ref t0, .ref f0, .ref g0, .ref k0, .ref v0, .ref d0, .int 0, .int 0])), (o0, .inl (cJ, 1, .inr (.inl of)))] s.heap.size = A at hD hG ⊢
  have hA : ∀ q : Nat, s.heap.size ≤ q → A q := fun q h => by rw [← hAe]; exact Or.inr h
  have hS : va_S A s.heap s.heap [] := va_S.rf
  have hl := lv_entry ([.ref m0, .int x, .long st, .ref o0]) (n := 6) (Nat.le_of_ble_eq_true rfl)
  rw [lg_entry_eq]
  generalize (lg_sl ([.ref m0, .int x, .long st, .ref o0]) ++ List.replicate (6 - (lg_sl ([.ref m0, .int x, .long st, .ref o0])).length) Slot.unset).toArray = ls at hl ⊢
  have hl : lv_has ls 6 [(0, .ref m0), (1, .int x), (2, .long st), (4, .ref o0)] := hl
  have hP : va_P (dC, dI) classes [(m0, .inr (7, [.int ((nI N)), .int ((nI OU)), .ref b0, .ref t0, .ref f0, .ref g0, .ref k0, .ref v0, .ref d0, .int 0, .int 0])), (o0, .inl (cJ, 1, .inr (.inl of)))] s.heap := hP
  obtain ⟨⟨tF, hZF, hTF⟩, hGr⟩ := id hG
  refine lv_aload hx hb d_Law_run_0 (lv_at hl 3 rfl) ?_
  refine lv_iconst (v := 0) hx hb d_Law_run_2 (by decide) ?_
  refine lv_aload_n hx hb d_Law_run_3 rfl (lv_at hl 0 rfl) ?_
  refine lv_iload_n hx hb d_Law_run_4 rfl (lv_at hl 1 rfl) ?_
  refine lv_lload_n hx hb d_Law_run_5 rfl (lv_at hl 2 rfl) ?_
  refine xt_callV (As := [.int x, .long st]) (rest := [.int 0, .ref o0]) ⟨hx, hb, hml, hown, hts⟩ (c0_Main_run l hfl dC dI cI cJ m0 N OU b0 t0 f0 g0 k0 v0 d0 x st hst) (cwV 2 hts (ct_goodV mw_ml_Law_30 mw_im_Main_run mw_se_Main_run mw_ini_Main mw_code_Main_run) rfl rfl rfl (by decide +kernel) ⟨Nat.le_of_ble_eq_true rfl, Nat.le_of_ble_eq_true rfl⟩) ⟨fun a U g mk q => by obtain ⟨q0, qP, qK, qG⟩ := q; exact ⟨q0, qP, va_K.moved (u := U) (U := U.calling g mk a) (Vm.Alike.refl U.vm) qK, gl.blind qG⟩, va_recv hK hP (ci := 7) (q0 := 0) rfl rfl, fun U hU hW => ⟨rfl, by rw [hU]; exact hP.sub (ws' := [(m0, .inr (7, [.int ((nI N)), .int ((nI OU)), .ref b0, .ref t0, .ref f0, .ref g0, .ref k0, .ref v0, .ref d0, .int 0, .int 0]))]) [0] rfl, va_K.moved hW.alike hK, by rw [hU]; exact ((hG.kept hS.2.1).narrow (fun _ h => h.elim)).moved hW⟩⟩ rfl hl.1 rfl (lv_room (Nat.le_of_ble_eq_true rfl)) d_Law_run_6 ⟨Nat.le_of_ble_eq_true rfl, Nat.le_of_ble_eq_true rfl⟩ (fun v st₀ t H1 L h0 h1 h2 hq hL => ?_) (fun xA st₀ t H1 L h0 h1 h2 hq hL => ?_)
  · obtain ⟨_, _, h9, _⟩ := hq
    cases h9
  obtain ⟨_, ce, h9, a1, a2, a3, a4, a5, a6⟩ := hq
  cases h9
  rw [h0] at a1 a2 a3
  rw [h1] at a2 a3 a4
  obtain ⟨xe, te, hte, e1, e2, e3, e4⟩ := xh_tab htb
  have hP := hP.kept (H1 := H1) (fun k q hk => a3 q.1 (hP k q hk).lt)
  have hS := xh_S hS a2 a3 hL
  refine xh_catch B.admits hown hte e1 e2 e3 e4 (by decide) (by decide) (by decide) (hts _ mw_cl_Law_21) a4 a5 (by rw [← h2.findClass]; exact a6) ?_
  have hP : va_P (dC, dI) classes [(m0, .inr (7, [.int ((nI N)), .int ((nI OU)), .ref b0, .ref t0, .ref f0, .ref g0, .ref k0, .ref v0, .ref d0, .int 0, .int 0])), (o0, .inl (cJ, 1, .inr (.inl of)))] H1 := hP
  refine lv_astore (lv' := [(5, .ref xA), (0, .ref m0), (1, .int x), (2, .long st), (4, .ref o0)]) hx hb d_Law_run_14 hl (by decide) rfl (fun ls hl => ?_)
  refine lv_iconst (v := 1) hx hb d_Law_run_16 (by decide) ?_
  refine xt_imp (fun t h => xt_ofMQ t h) ?_
  have hP9 := hP.sub (ws' := [(o0, .inl (cJ, 1, .inr (.inl of)))]) [1] rfl
  have hD9 := hD.sub (ws' := [(o0, .inl (cJ, 1, .inr (.inl of)))]) [1] (by decide) rfl
  exact W.iret (v := 1) hx hb hr (fun t ht hW => ⟨⟨1, (), rfl, rfl, by rw [ht]; exact hP9, va_K.moved hW.alike hK, hD9⟩, hS.F ht⟩) hS.2.2 d_Law_run_17
set_option maxHeartbeats 1000000 in
set_option maxRecDepth 100000 in
theorem c_Law_at (l : Launch) (hfl : l.flags = flags0) (dC : Nat → ClassId) (dI : Nat → Nat → Nat) (cI cJ : ClassId) (sz0 : Nat) (m0 : Nat) (N : Nat) (OU : Nat) (b0 : Nat) (t0 : Nat) (f0 : Nat) (g0 : Nat) (k0 : Nat) (v0 : Nat) (d0 : Nat) (x : Int32) (y : Int32) (o0 : Nat) (of : Nat → Int64) : xt_Met l y_Law_at (cth y_Law_at b_Law_at 5 (some .int) [(0, 10, 13, 37), (0, 10, 17, 19)]) ({ frames := 8, cells := 1, slots := 6, locals := 132 }) (va_Pc [.ref m0, .int x, .int y, .ref o0] (fun U => U.heap.size = sz0 ∧ va_P (dC, dI) classes [(m0, .inr (7, [.int ((nI N)), .int ((nI OU)), .ref b0, .ref t0, .ref f0, .ref g0, .ref k0, .ref v0, .ref d0, .int 0, .int 0])), (o0, .inl (cJ, 1, .inr (.inl of)))] U.heap ∧ va_K (dC, dI) classes [(cI, .int), (cJ, .long)] U ∧ va_D (fun _ => True) [(m0, .inr (7, [.int ((nI N)), .int ((nI OU)), .ref b0, .ref t0, .ref f0, .ref g0, .ref k0, .ref v0, .ref d0, .int 0, .int 0])), (o0, .inl (cJ, 1, .inr (.inl of)))] ∧ gl (va_A [(m0, .inr (7, [.int ((nI N)), .int ((nI OU)), .ref b0, .ref t0, .ref f0, .ref g0, .ref k0, .ref v0, .ref d0, .int 0, .int 0])), (o0, .inl (cJ, 1, .inr (.inl of)))] sz0) U U.heap)) (va_Qi (fun (r : Int32) (_ : Unit) => r = 1) (fun _ => at_w dC dI cI cJ (va_A [(m0, .inr (7, [.int ((nI N)), .int ((nI OU)), .ref b0, .ref t0, .ref f0, .ref g0, .ref k0, .ref v0, .ref d0, .int 0, .int 0])), (o0, .inl (cJ, 1, .inr (.inl of)))] sz0) [(o0, .inl (cJ, 1, .inr (.inl of)))]) (va_A [(m0, .inr (7, [.int ((nI N)), .int ((nI OU)), .ref b0, .ref t0, .ref f0, .ref g0, .ref k0, .ref v0, .ref d0, .int 0, .int 0])), (o0, .inl (cJ, 1, .inr (.inl of)))] sz0)) 1 6 (va_A [(m0, .inr (7, [.int ((nI N)), .int ((nI OU)), .ref b0, .ref t0, .ref f0, .ref g0, .ref k0, .ref v0, .ref d0, .int 0, .int 0])), (o0, .inl (cJ, 1, .inr (.inl of)))] sz0) := by
  refine xh_ofW (cc := b_Law_at) (maxL := 5) (ret := some .int) (hs := [(0, 10, 13, 37), (0, 10, 17, 19)]) (by decide) rfl ?_
  intro p e s m args below meth c s₁ B hml htb hv
  obtain ⟨rfl, hsz, hP, hK, hD0, hG⟩ := hv
  have hx := B.exec
  have hb := B.bytes
  have hr := B.returns
  have hts : ∀ w ∈ lwg, w.before _ s = true := fun w h => atoms_spec (ws := cth y_Law_at b_Law_at 5 (some .int) [(0, 10, 13, 37), (0, 10, 17, 19)]) B.pre w (List.mem_cons_of_mem _ h)
  have hown : s.vm.findClass R_Law = some m.cls := findClass_of_methodNamed B.named
  have hlocks := B.notSynchronized
  subst hsz
  have hD := hD0.self (sz := s.heap.size)
  generalize hAe : va_A [(m0, .inr (7, [.int ((nI N)), .int ((nI OU)), .ref b0, .ref t0, .ref f0, .ref g0, .ref k0, .ref v0, .ref d0, .int 0, .int 0])), (o0, .inl (cJ, 1, .inr (.inl of)))] s.heap.size = A at hD hG ⊢
  have hA : ∀ q : Nat, s.heap.size ≤ q → A q := fun q h => by rw [← hAe]; exact Or.inr h
  have hS : va_S A s.heap s.heap [] := va_S.rf
  have hl := lv_entry ([.ref m0, .int x, .int y, .ref o0]) (n := 5) (Nat.le_of_ble_eq_true rfl)
  rw [lg_entry_eq]
  generalize (lg_sl ([.ref m0, .int x, .int y, .ref o0]) ++ List.replicate (5 - (lg_sl ([.ref m0, .int x, .int y, .ref o0])).length) Slot.unset).toArray = ls at hl ⊢
  have hl : lv_has ls 5 [(0, .ref m0), (1, .int x), (2, .int y), (3, .ref o0)] := hl
  have hP : va_P (dC, dI) classes [(m0, .inr (7, [.int ((nI N)), .int ((nI OU)), .ref b0, .ref t0, .ref f0, .ref g0, .ref k0, .ref v0, .ref d0, .int 0, .int 0])), (o0, .inl (cJ, 1, .inr (.inl of)))] s.heap := hP
  obtain ⟨⟨tF, hZF, hTF⟩, hGr⟩ := id hG
  refine lv_aload_n hx hb d_Law_at_0 rfl (lv_at hl 3 rfl) ?_
  refine lv_iconst (v := 0) hx hb d_Law_at_1 (by decide) ?_
  refine lv_aload_n hx hb d_Law_at_2 rfl (lv_at hl 0 rfl) ?_
  refine lv_iload_n hx hb d_Law_at_3 rfl (lv_at hl 1 rfl) ?_
  refine lv_iload_n hx hb d_Law_at_4 rfl (lv_at hl 2 rfl) ?_
  refine xt_callV (As := [.int x, .int y]) (rest := [.int 0, .ref o0]) ⟨hx, hb, hml, hown, hts⟩ (c_Main_at l hfl dC dI cI cJ m0 N OU b0 t0 f0 g0 k0 v0 d0 x y ) (cwV 2 hts (ct_goodV mw_ml_Law_34 mw_im_Main_at mw_se_Main_at mw_ini_Main mw_code_Main_at) rfl rfl rfl (by decide +kernel) ⟨Nat.le_of_ble_eq_true rfl, Nat.le_of_ble_eq_true rfl⟩) ⟨fun a U g mk q => by obtain ⟨q0, qP, qK, qG⟩ := q; exact ⟨q0, qP, va_K.moved (u := U) (U := U.calling g mk a) (Vm.Alike.refl U.vm) qK, gl.blind qG⟩, va_recv hK hP (ci := 7) (q0 := 0) rfl rfl, fun U hU hW => ⟨rfl, by rw [hU]; exact hP.sub (ws' := [(m0, .inr (7, [.int ((nI N)), .int ((nI OU)), .ref b0, .ref t0, .ref f0, .ref g0, .ref k0, .ref v0, .ref d0, .int 0, .int 0]))]) [0] rfl, va_K.moved hW.alike hK, by rw [hU]; exact ((hG.kept hS.2.1).narrow (fun _ h => h.elim)).moved hW⟩⟩ rfl hl.1 rfl (lv_room (Nat.le_of_ble_eq_true rfl)) d_Law_at_5 ⟨Nat.le_of_ble_eq_true rfl, Nat.le_of_ble_eq_true rfl⟩ (fun v st₀ t H1 L h0 h1 h2 hq hL => ?_) (fun xA st₀ t H1 L h0 h1 h2 hq hL => ?_)
  · obtain ⟨_, _, h9, _⟩ := hq
    cases h9
  obtain ⟨_, ce, h9, a1, a2, a3, a4, a5, a6⟩ := hq
  cases h9
  rw [h0] at a1 a2 a3
  rw [h1] at a2 a3 a4
  obtain ⟨xe, te, hte, e1, e2, e3, e4⟩ := xh_tab htb
  have hP := hP.kept (H1 := H1) (fun k q hk => a3 q.1 (hP k q hk).lt)
  have hS := xh_S hS a2 a3 hL
  refine xh_catch B.admits hown hte e1 e2 e3 e4 (by decide) (by decide) (by decide) (hts _ mw_cl_Law_37) a4 a5 (by rw [← h2.findClass]; exact a6) ?_
  have hP : va_P (dC, dI) classes [(m0, .inr (7, [.int ((nI N)), .int ((nI OU)), .ref b0, .ref t0, .ref f0, .ref g0, .ref k0, .ref v0, .ref d0, .int 0, .int 0])), (o0, .inl (cJ, 1, .inr (.inl of)))] H1 := hP
  refine lv_astore (lv' := [(4, .ref xA), (0, .ref m0), (1, .int x), (2, .int y), (3, .ref o0)]) hx hb d_Law_at_13 hl (by decide) rfl (fun ls hl => ?_)
  refine lv_iconst (v := 1) hx hb d_Law_at_15 (by decide) ?_
  refine xt_imp (fun t h => xt_ofMQ t h) ?_
  have hP9 := hP.sub (ws' := [(o0, .inl (cJ, 1, .inr (.inl of)))]) [1] rfl
  have hD9 := hD.sub (ws' := [(o0, .inl (cJ, 1, .inr (.inl of)))]) [1] (by decide) rfl
  exact W.iret (v := 1) hx hb hr (fun t ht hW => ⟨⟨1, (), rfl, rfl, by rw [ht]; exact hP9, va_K.moved hW.alike hK, hD9⟩, hS.F ht⟩) hS.2.2 d_Law_at_16
set_option maxHeartbeats 1000000 in
set_option maxRecDepth 100000 in
theorem c_Law_cost (l : Launch) (hfl : l.flags = flags0) (dC : Nat → ClassId) (dI : Nat → Nat → Nat) (cI cJ : ClassId) (sz0 : Nat) (m0 : Nat) (N : Nat) (OU : Nat) (b0 : Nat) (t0 : Nat) (f0 : Nat) (g0 : Nat) (k0 : Nat) (v0 : Nat) (d0 : Nat) (o0 : Nat) (of : Nat → Int64) : xt_Met l y_Law_cost (cth y_Law_cost b_Law_cost 3 (some .int) [(0, 7, 10, 37)]) ({ frames := 8, cells := 1, slots := 6, locals := 133 }) (va_Pc [.ref m0, .ref o0] (fun U => U.heap.size = sz0 ∧ va_P (dC, dI) classes [(m0, .inr (7, [.int ((nI N)), .int ((nI OU)), .ref b0, .ref t0, .ref f0, .ref g0, .ref k0, .ref v0, .ref d0, .int 0, .int 0])), (o0, .inl (cJ, 1, .inr (.inl of)))] U.heap ∧ va_K (dC, dI) classes [(cI, .int), (cJ, .long)] U ∧ va_D (fun _ => True) [(m0, .inr (7, [.int ((nI N)), .int ((nI OU)), .ref b0, .ref t0, .ref f0, .ref g0, .ref k0, .ref v0, .ref d0, .int 0, .int 0])), (o0, .inl (cJ, 1, .inr (.inl of)))] ∧ gl (va_A [(m0, .inr (7, [.int ((nI N)), .int ((nI OU)), .ref b0, .ref t0, .ref f0, .ref g0, .ref k0, .ref v0, .ref d0, .int 0, .int 0])), (o0, .inl (cJ, 1, .inr (.inl of)))] sz0) U U.heap)) (va_Qi (fun (r : Int32) (_ : Unit) => r = 1) (fun _ => at_w dC dI cI cJ (va_A [(m0, .inr (7, [.int ((nI N)), .int ((nI OU)), .ref b0, .ref t0, .ref f0, .ref g0, .ref k0, .ref v0, .ref d0, .int 0, .int 0])), (o0, .inl (cJ, 1, .inr (.inl of)))] sz0) [(o0, .inl (cJ, 1, .inr (.inl of)))]) (va_A [(m0, .inr (7, [.int ((nI N)), .int ((nI OU)), .ref b0, .ref t0, .ref f0, .ref g0, .ref k0, .ref v0, .ref d0, .int 0, .int 0])), (o0, .inl (cJ, 1, .inr (.inl of)))] sz0)) 1 6 (va_A [(m0, .inr (7, [.int ((nI N)), .int ((nI OU)), .ref b0, .ref t0, .ref f0, .ref g0, .ref k0, .ref v0, .ref d0, .int 0, .int 0])), (o0, .inl (cJ, 1, .inr (.inl of)))] sz0) := by
  refine xh_ofW (cc := b_Law_cost) (maxL := 3) (ret := some .int) (hs := [(0, 7, 10, 37)]) (by decide) rfl ?_
  intro p e s m args below meth c s₁ B hml htb hv
  obtain ⟨rfl, hsz, hP, hK, hD0, hG⟩ := hv
  have hx := B.exec
  have hb := B.bytes
  have hr := B.returns
  have hts : ∀ w ∈ lwg, w.before _ s = true := fun w h => atoms_spec (ws := cth y_Law_cost b_Law_cost 3 (some .int) [(0, 7, 10, 37)]) B.pre w (List.mem_cons_of_mem _ h)
  have hown : s.vm.findClass R_Law = some m.cls := findClass_of_methodNamed B.named
  have hlocks := B.notSynchronized
  subst hsz
  have hD := hD0.self (sz := s.heap.size)
  generalize hAe : va_A [(m0, .inr (7, [.int ((nI N)), .int ((nI OU)), .ref b0, .ref t0, .ref f0, .ref g0, .ref k0, .ref v0, .ref d0, .int 0, .int 0])), (o0, .inl (cJ, 1, .inr (.inl of)))] s.heap.size = A at hD hG ⊢
  have hA : ∀ q : Nat, s.heap.size ≤ q → A q := fun q h => by rw [← hAe]; exact Or.inr h
  have hS : va_S A s.heap s.heap [] := va_S.rf
  have hl := lv_entry ([.ref m0, .ref o0]) (n := 3) (Nat.le_of_ble_eq_true rfl)
  rw [lg_entry_eq]
  generalize (lg_sl ([.ref m0, .ref o0]) ++ List.replicate (3 - (lg_sl ([.ref m0, .ref o0])).length) Slot.unset).toArray = ls at hl ⊢
  have hl : lv_has ls 3 [(0, .ref m0), (1, .ref o0)] := hl
  have hP : va_P (dC, dI) classes [(m0, .inr (7, [.int ((nI N)), .int ((nI OU)), .ref b0, .ref t0, .ref f0, .ref g0, .ref k0, .ref v0, .ref d0, .int 0, .int 0])), (o0, .inl (cJ, 1, .inr (.inl of)))] s.heap := hP
  obtain ⟨⟨tF, hZF, hTF⟩, hGr⟩ := id hG
  refine lv_aload_n hx hb d_Law_cost_0 rfl (lv_at hl 1 rfl) ?_
  refine lv_iconst (v := 0) hx hb d_Law_cost_1 (by decide) ?_
  refine lv_aload_n hx hb d_Law_cost_2 rfl (lv_at hl 0 rfl) ?_
  refine xt_callV (As := []) (rest := [.int 0, .ref o0]) ⟨hx, hb, hml, hown, hts⟩ (c_Main_cost l hfl dC dI cI cJ m0 N OU b0 t0 f0 g0 k0 v0 d0 ) (cwV 0 hts (ct_goodV mw_ml_Law_39 mw_im_Main_cost mw_se_Main_cost mw_ini_Main mw_code_Main_cost) rfl rfl rfl (by decide +kernel) ⟨Nat.le_of_ble_eq_true rfl, Nat.le_of_ble_eq_true rfl⟩) ⟨fun a U g mk q => by obtain ⟨q0, qP, qK, qG⟩ := q; exact ⟨q0, qP, va_K.moved (u := U) (U := U.calling g mk a) (Vm.Alike.refl U.vm) qK, gl.blind qG⟩, va_recv hK hP (ci := 7) (q0 := 0) rfl rfl, fun U hU hW => ⟨rfl, by rw [hU]; exact hP.sub (ws' := [(m0, .inr (7, [.int ((nI N)), .int ((nI OU)), .ref b0, .ref t0, .ref f0, .ref g0, .ref k0, .ref v0, .ref d0, .int 0, .int 0]))]) [0] rfl, va_K.moved hW.alike hK, by rw [hU]; exact ((hG.kept hS.2.1).narrow (fun _ h => h.elim)).moved hW⟩⟩ rfl hl.1 rfl (lv_room (Nat.le_of_ble_eq_true rfl)) d_Law_cost_3 ⟨Nat.le_of_ble_eq_true rfl, Nat.le_of_ble_eq_true rfl⟩ (fun v st₀ t H1 L h0 h1 h2 hq hL => ?_) (fun xA st₀ t H1 L h0 h1 h2 hq hL => ?_)
  · obtain ⟨_, _, h9, _⟩ := hq
    cases h9
  obtain ⟨_, ce, h9, a1, a2, a3, a4, a5, a6⟩ := hq
  cases h9
  rw [h0] at a1 a2 a3
  rw [h1] at a2 a3 a4
  obtain ⟨xe, te, hte, e1, e2, e3, e4⟩ := xh_tab htb
  have hP := hP.kept (H1 := H1) (fun k q hk => a3 q.1 (hP k q hk).lt)
  have hS := xh_S hS a2 a3 hL
  refine xh_catch B.admits hown hte e1 e2 e3 e4 (by decide) (by decide) (by decide) (hts _ mw_cl_Law_37) a4 a5 (by rw [← h2.findClass]; exact a6) ?_
  have hP : va_P (dC, dI) classes [(m0, .inr (7, [.int ((nI N)), .int ((nI OU)), .ref b0, .ref t0, .ref f0, .ref g0, .ref k0, .ref v0, .ref d0, .int 0, .int 0])), (o0, .inl (cJ, 1, .inr (.inl of)))] H1 := hP
  refine lv_astore_n (lv' := [(2, .ref xA), (0, .ref m0), (1, .ref o0)]) hx hb d_Law_cost_10 rfl hl (by decide) rfl (fun ls hl => ?_)
  refine lv_iconst (v := 1) hx hb d_Law_cost_11 (by decide) ?_
  refine xt_imp (fun t h => xt_ofMQ t h) ?_
  have hP9 := hP.sub (ws' := [(o0, .inl (cJ, 1, .inr (.inl of)))]) [1] rfl
  have hD9 := hD.sub (ws' := [(o0, .inl (cJ, 1, .inr (.inl of)))]) [1] (by decide) rfl
  exact W.iret (v := 1) hx hb hr (fun t ht hW => ⟨⟨1, (), rfl, rfl, by rw [ht]; exact hP9, va_K.moved hW.alike hK, hD9⟩, hS.F ht⟩) hS.2.2 d_Law_cost_12
set_option maxHeartbeats 1000000 in
set_option maxRecDepth 100000 in
theorem c_Law_kernels (l : Launch) (hfl : l.flags = flags0) (dC : Nat → ClassId) (dI : Nat → Nat → Nat) (cI cJ : ClassId) (sz0 : Nat) (m0 : Nat) (N : Nat) (OU : Nat) (b0 : Nat) (t0 : Nat) (f0 : Nat) (g0 : Nat) (k0 : Nat) (v0 : Nat) (d0 : Nat) (o0 : Nat) (of : Nat → Int64) : xt_Met l y_Law_kernels (cth y_Law_kernels b_Law_kernels 3 (some .int) [(0, 8, 11, 37)]) ({ frames := 8, cells := 1, slots := 6, locals := 130 }) (va_Pc [.ref m0, .ref o0] (fun U => U.heap.size = sz0 ∧ va_P (dC, dI) classes [(m0, .inr (7, [.int ((nI N)), .int ((nI OU)), .ref b0, .ref t0, .ref f0, .ref g0, .ref k0, .ref v0, .ref d0, .int 0, .int 0])), (o0, .inl (cJ, 1, .inr (.inl of)))] U.heap ∧ va_K (dC, dI) classes [(cI, .int), (cJ, .long)] U ∧ va_D (fun _ => True) [(m0, .inr (7, [.int ((nI N)), .int ((nI OU)), .ref b0, .ref t0, .ref f0, .ref g0, .ref k0, .ref v0, .ref d0, .int 0, .int 0])), (o0, .inl (cJ, 1, .inr (.inl of)))] ∧ gl (va_A [(m0, .inr (7, [.int ((nI N)), .int ((nI OU)), .ref b0, .ref t0, .ref f0, .ref g0, .ref k0, .ref v0, .ref d0, .int 0, .int 0])), (o0, .inl (cJ, 1, .inr (.inl of)))] sz0) U U.heap)) (va_Qi (fun (r : Int32) (_ : Unit) => r = 1) (fun _ => at_w dC dI cI cJ (va_A [(m0, .inr (7, [.int ((nI N)), .int ((nI OU)), .ref b0, .ref t0, .ref f0, .ref g0, .ref k0, .ref v0, .ref d0, .int 0, .int 0])), (o0, .inl (cJ, 1, .inr (.inl of)))] sz0) [(o0, .inl (cJ, 1, .inr (.inl of)))]) (va_A [(m0, .inr (7, [.int ((nI N)), .int ((nI OU)), .ref b0, .ref t0, .ref f0, .ref g0, .ref k0, .ref v0, .ref d0, .int 0, .int 0])), (o0, .inl (cJ, 1, .inr (.inl of)))] sz0)) 1 6 (va_A [(m0, .inr (7, [.int ((nI N)), .int ((nI OU)), .ref b0, .ref t0, .ref f0, .ref g0, .ref k0, .ref v0, .ref d0, .int 0, .int 0])), (o0, .inl (cJ, 1, .inr (.inl of)))] sz0) := by
  refine xh_ofW (cc := b_Law_kernels) (maxL := 3) (ret := some .int) (hs := [(0, 8, 11, 37)]) (by decide) rfl ?_
  intro p e s m args below meth c s₁ B hml htb hv
  obtain ⟨rfl, hsz, hP, hK, hD0, hG⟩ := hv
  have hx := B.exec
  have hb := B.bytes
  have hr := B.returns
  have hts : ∀ w ∈ lwg, w.before _ s = true := fun w h => atoms_spec (ws := cth y_Law_kernels b_Law_kernels 3 (some .int) [(0, 8, 11, 37)]) B.pre w (List.mem_cons_of_mem _ h)
  have hown : s.vm.findClass R_Law = some m.cls := findClass_of_methodNamed B.named
  have hlocks := B.notSynchronized
  subst hsz
  have hD := hD0.self (sz := s.heap.size)
  generalize hAe : va_A [(m0, .inr (7, [.int ((nI N)), .int ((nI OU)), .ref b0, .ref t0, .ref f0, .ref g0, .ref k0, .ref v0, .ref d0, .int 0, .int 0])), (o0, .inl (cJ, 1, .inr (.inl of)))] s.heap.size = A at hD hG ⊢
  have hA : ∀ q : Nat, s.heap.size ≤ q → A q := fun q h => by rw [← hAe]; exact Or.inr h
  have hS : va_S A s.heap s.heap [] := va_S.rf
  have hl := lv_entry ([.ref m0, .ref o0]) (n := 3) (Nat.le_of_ble_eq_true rfl)
  rw [lg_entry_eq]
  generalize (lg_sl ([.ref m0, .ref o0]) ++ List.replicate (3 - (lg_sl ([.ref m0, .ref o0])).length) Slot.unset).toArray = ls at hl ⊢
  have hl : lv_has ls 3 [(0, .ref m0), (1, .ref o0)] := hl
  have hP : va_P (dC, dI) classes [(m0, .inr (7, [.int ((nI N)), .int ((nI OU)), .ref b0, .ref t0, .ref f0, .ref g0, .ref k0, .ref v0, .ref d0, .int 0, .int 0])), (o0, .inl (cJ, 1, .inr (.inl of)))] s.heap := hP
  obtain ⟨⟨tF, hZF, hTF⟩, hGr⟩ := id hG
  refine lv_aload_n hx hb d_Law_kernels_0 rfl (lv_at hl 1 rfl) ?_
  refine lv_iconst (v := 0) hx hb d_Law_kernels_1 (by decide) ?_
  refine lv_aload_n hx hb d_Law_kernels_2 rfl (lv_at hl 0 rfl) ?_
  refine xt_callV (As := []) (rest := [.int 0, .ref o0]) ⟨hx, hb, hml, hown, hts⟩ (c_Main_kernels l hfl dC dI cI cJ m0 N OU b0 t0 f0 g0 k0 v0 d0 ) (cwV 0 hts (ct_goodV mw_ml_Law_43 mw_im_Main_kernels mw_se_Main_kernels mw_ini_Main mw_code_Main_kernels) rfl rfl rfl (by decide +kernel) ⟨Nat.le_of_ble_eq_true rfl, Nat.le_of_ble_eq_true rfl⟩) ⟨fun a U g mk q => by obtain ⟨q0, qP, qK, qG⟩ := q; exact ⟨q0, qP, va_K.moved (u := U) (U := U.calling g mk a) (Vm.Alike.refl U.vm) qK, gl.blind qG⟩, va_recv hK hP (ci := 7) (q0 := 0) rfl rfl, fun U hU hW => ⟨rfl, by rw [hU]; exact hP.sub (ws' := [(m0, .inr (7, [.int ((nI N)), .int ((nI OU)), .ref b0, .ref t0, .ref f0, .ref g0, .ref k0, .ref v0, .ref d0, .int 0, .int 0]))]) [0] rfl, va_K.moved hW.alike hK, by rw [hU]; exact ((hG.kept hS.2.1).narrow (fun _ h => h.elim)).moved hW⟩⟩ rfl hl.1 rfl (lv_room (Nat.le_of_ble_eq_true rfl)) d_Law_kernels_3 ⟨Nat.le_of_ble_eq_true rfl, Nat.le_of_ble_eq_true rfl⟩ (fun v st₀ t H1 L h0 h1 h2 hq hL => ?_) (fun xA st₀ t H1 L h0 h1 h2 hq hL => ?_)
  · obtain ⟨_, _, h9, _⟩ := hq
    cases h9
  obtain ⟨_, ce, h9, a1, a2, a3, a4, a5, a6⟩ := hq
  cases h9
  rw [h0] at a1 a2 a3
  rw [h1] at a2 a3 a4
  obtain ⟨xe, te, hte, e1, e2, e3, e4⟩ := xh_tab htb
  have hP := hP.kept (H1 := H1) (fun k q hk => a3 q.1 (hP k q hk).lt)
  have hS := xh_S hS a2 a3 hL
  refine xh_catch B.admits hown hte e1 e2 e3 e4 (by decide) (by decide) (by decide) (hts _ mw_cl_Law_37) a4 a5 (by rw [← h2.findClass]; exact a6) ?_
  have hP : va_P (dC, dI) classes [(m0, .inr (7, [.int ((nI N)), .int ((nI OU)), .ref b0, .ref t0, .ref f0, .ref g0, .ref k0, .ref v0, .ref d0, .int 0, .int 0])), (o0, .inl (cJ, 1, .inr (.inl of)))] H1 := hP
  refine lv_astore_n (lv' := [(2, .ref xA), (0, .ref m0), (1, .ref o0)]) hx hb d_Law_kernels_11 rfl hl (by decide) rfl (fun ls hl => ?_)
  refine lv_iconst (v := 1) hx hb d_Law_kernels_12 (by decide) ?_
  refine xt_imp (fun t h => xt_ofMQ t h) ?_
  have hP9 := hP.sub (ws' := [(o0, .inl (cJ, 1, .inr (.inl of)))]) [1] rfl
  have hD9 := hD.sub (ws' := [(o0, .inl (cJ, 1, .inr (.inl of)))]) [1] (by decide) rfl
  exact W.iret (v := 1) hx hb hr (fun t ht hW => ⟨⟨1, (), rfl, rfl, by rw [ht]; exact hP9, va_K.moved hW.alike hK, hD9⟩, hS.F ht⟩) hS.2.2 d_Law_kernels_13
set_option maxHeartbeats 1000000 in
set_option maxRecDepth 100000 in
theorem c_Law_divide (l : Launch) (hfl : l.flags = flags0) (dC : Nat → ClassId) (dI : Nat → Nat → Nat) (cI cJ : ClassId) (sz0 : Nat) (m0 : Nat) (N : Nat) (OU : Nat) (b0 : Nat) (t0 : Nat) (f0 : Nat) (g0 : Nat) (k0 : Nat) (v0 : Nat) (d0 : Nat) (x : Int32) (o0 : Nat) (of : Nat → Int64) : xt_Met l y_Law_divide (cth y_Law_divide b_Law_divide 4 (some .int) [(0, 9, 12, 37), (0, 9, 15, 21)]) ({ frames := 8, cells := 1, slots := 6, locals := 131 }) (va_Pc [.ref m0, .int x, .ref o0] (fun U => U.heap.size = sz0 ∧ va_P (dC, dI) classes [(m0, .inr (7, [.int ((nI N)), .int ((nI OU)), .ref b0, .ref t0, .ref f0, .ref g0, .ref k0, .ref v0, .ref d0, .int 0, .int 0])), (o0, .inl (cJ, 1, .inr (.inl of)))] U.heap ∧ va_K (dC, dI) classes [(cI, .int), (cJ, .long)] U ∧ va_D (fun _ => True) [(m0, .inr (7, [.int ((nI N)), .int ((nI OU)), .ref b0, .ref t0, .ref f0, .ref g0, .ref k0, .ref v0, .ref d0, .int 0, .int 0])), (o0, .inl (cJ, 1, .inr (.inl of)))] ∧ gl (va_A [(m0, .inr (7, [.int ((nI N)), .int ((nI OU)), .ref b0, .ref t0, .ref f0, .ref g0, .ref k0, .ref v0, .ref d0, .int 0, .int 0])), (o0, .inl (cJ, 1, .inr (.inl of)))] sz0) U U.heap)) (va_Qi (fun (r : Int32) (_ : Unit) => r = 1) (fun _ => at_w dC dI cI cJ (va_A [(m0, .inr (7, [.int ((nI N)), .int ((nI OU)), .ref b0, .ref t0, .ref f0, .ref g0, .ref k0, .ref v0, .ref d0, .int 0, .int 0])), (o0, .inl (cJ, 1, .inr (.inl of)))] sz0) [(o0, .inl (cJ, 1, .inr (.inl of)))]) (va_A [(m0, .inr (7, [.int ((nI N)), .int ((nI OU)), .ref b0, .ref t0, .ref f0, .ref g0, .ref k0, .ref v0, .ref d0, .int 0, .int 0])), (o0, .inl (cJ, 1, .inr (.inl of)))] sz0)) 1 6 (va_A [(m0, .inr (7, [.int ((nI N)), .int ((nI OU)), .ref b0, .ref t0, .ref f0, .ref g0, .ref k0, .ref v0, .ref d0, .int 0, .int 0])), (o0, .inl (cJ, 1, .inr (.inl of)))] sz0) := by
  refine xh_ofW (cc := b_Law_divide) (maxL := 4) (ret := some .int) (hs := [(0, 9, 12, 37), (0, 9, 15, 21)]) (by decide) rfl ?_
  intro p e s m args below meth c s₁ B hml htb hv
  obtain ⟨rfl, hsz, hP, hK, hD0, hG⟩ := hv
  have hx := B.exec
  have hb := B.bytes
  have hr := B.returns
  have hts : ∀ w ∈ lwg, w.before _ s = true := fun w h => atoms_spec (ws := cth y_Law_divide b_Law_divide 4 (some .int) [(0, 9, 12, 37), (0, 9, 15, 21)]) B.pre w (List.mem_cons_of_mem _ h)
  have hown : s.vm.findClass R_Law = some m.cls := findClass_of_methodNamed B.named
  have hlocks := B.notSynchronized
  subst hsz
  have hD := hD0.self (sz := s.heap.size)
  generalize hAe : va_A [(m0, .inr (7, [.int ((nI N)), .int ((nI OU)), .ref b0, .ref t0, .ref f0, .ref g0, .ref k0, .ref v0, .ref d0, .int 0, .int 0])), (o0, .inl (cJ, 1, .inr (.inl of)))] s.heap.size = A at hD hG ⊢
  have hA : ∀ q : Nat, s.heap.size ≤ q → A q := fun q h => by rw [← hAe]; exact Or.inr h
  have hS : va_S A s.heap s.heap [] := va_S.rf
  have hl := lv_entry ([.ref m0, .int x, .ref o0]) (n := 4) (Nat.le_of_ble_eq_true rfl)
  rw [lg_entry_eq]
  generalize (lg_sl ([.ref m0, .int x, .ref o0]) ++ List.replicate (4 - (lg_sl ([.ref m0, .int x, .ref o0])).length) Slot.unset).toArray = ls at hl ⊢
  have hl : lv_has ls 4 [(0, .ref m0), (1, .int x), (2, .ref o0)] := hl
  have hP : va_P (dC, dI) classes [(m0, .inr (7, [.int ((nI N)), .int ((nI OU)), .ref b0, .ref t0, .ref f0, .ref g0, .ref k0, .ref v0, .ref d0, .int 0, .int 0])), (o0, .inl (cJ, 1, .inr (.inl of)))] s.heap := hP
  obtain ⟨⟨tF, hZF, hTF⟩, hGr⟩ := id hG
  refine lv_aload_n hx hb d_Law_divide_0 rfl (lv_at hl 2 rfl) ?_
  refine lv_iconst (v := 0) hx hb d_Law_divide_1 (by decide) ?_
  refine lv_aload_n hx hb d_Law_divide_2 rfl (lv_at hl 0 rfl) ?_
  refine lv_iload_n hx hb d_Law_divide_3 rfl (lv_at hl 1 rfl) ?_
  refine xt_callV (As := [.int x]) (rest := [.int 0, .ref o0]) ⟨hx, hb, hml, hown, hts⟩ (c_Main_divide l hfl dC dI cI cJ m0 N OU b0 t0 f0 g0 k0 v0 d0 x ) (cwV 1 hts (ct_goodV mw_ml_Law_46 mw_im_Main_divide mw_se_Main_divide mw_ini_Main mw_code_Main_divide) rfl rfl rfl (by decide +kernel) ⟨Nat.le_of_ble_eq_true rfl, Nat.le_of_ble_eq_true rfl⟩) ⟨fun a U g mk q => by obtain ⟨q0, qP, qK, qG⟩ := q; exact ⟨q0, qP, va_K.moved (u := U) (U := U.calling g mk a) (Vm.Alike.refl U.vm) qK, gl.blind qG⟩, va_recv hK hP (ci := 7) (q0 := 0) rfl rfl, fun U hU hW => ⟨rfl, by rw [hU]; exact hP.sub (ws' := [(m0, .inr (7, [.int ((nI N)), .int ((nI OU)), .ref b0, .ref t0, .ref f0, .ref g0, .ref k0, .ref v0, .ref d0, .int 0, .int 0]))]) [0] rfl, va_K.moved hW.alike hK, by rw [hU]; exact ((hG.kept hS.2.1).narrow (fun _ h => h.elim)).moved hW⟩⟩ rfl hl.1 rfl (lv_room (Nat.le_of_ble_eq_true rfl)) d_Law_divide_4 ⟨Nat.le_of_ble_eq_true rfl, Nat.le_of_ble_eq_true rfl⟩ (fun v st₀ t H1 L h0 h1 h2 hq hL => ?_) (fun xA st₀ t H1 L h0 h1 h2 hq hL => ?_)
  · obtain ⟨_, _, h9, _⟩ := hq
    cases h9
  obtain ⟨_, ce, h9, a1, a2, a3, a4, a5, a6⟩ := hq
  cases h9
  rw [h0] at a1 a2 a3
  rw [h1] at a2 a3 a4
  obtain ⟨xe, te, hte, e1, e2, e3, e4⟩ := xh_tab htb
  have hP := hP.kept (H1 := H1) (fun k q hk => a3 q.1 (hP k q hk).lt)
  have hS := xh_S hS a2 a3 hL
  refine xh_catch B.admits hown hte e1 e2 e3 e4 (by decide) (by decide) (by decide) (hts _ mw_cl_Law_37) a4 a5 (by rw [← h2.findClass]; exact a6) ?_
  have hP : va_P (dC, dI) classes [(m0, .inr (7, [.int ((nI N)), .int ((nI OU)), .ref b0, .ref t0, .ref f0, .ref g0, .ref k0, .ref v0, .ref d0, .int 0, .int 0])), (o0, .inl (cJ, 1, .inr (.inl of)))] H1 := hP
  refine lv_astore_n (lv' := [(3, .ref xA), (0, .ref m0), (1, .int x), (2, .ref o0)]) hx hb d_Law_divide_12 rfl hl (by decide) rfl (fun ls hl => ?_)
  refine lv_iconst (v := 1) hx hb d_Law_divide_13 (by decide) ?_
  refine xt_imp (fun t h => xt_ofMQ t h) ?_
  have hP9 := hP.sub (ws' := [(o0, .inl (cJ, 1, .inr (.inl of)))]) [1] rfl
  have hD9 := hD.sub (ws' := [(o0, .inl (cJ, 1, .inr (.inl of)))]) [1] (by decide) rfl
  exact W.iret (v := 1) hx hb hr (fun t ht hW => ⟨⟨1, (), rfl, rfl, by rw [ht]; exact hP9, va_K.moved hW.alike hK, hD9⟩, hS.F ht⟩) hS.2.2 d_Law_divide_14
set_option maxHeartbeats 1000000 in
set_option maxRecDepth 100000 in
theorem c_Law_quotient (l : Launch) (hfl : l.flags = flags0) (dC : Nat → ClassId) (dI : Nat → Nat → Nat) (cI cJ : ClassId) (sz0 : Nat) (m0 : Nat) (N : Nat) (OU : Nat) (b0 : Nat) (t0 : Nat) (f0 : Nat) (g0 : Nat) (k0 : Nat) (v0 : Nat) (d0 : Nat) (v1 : Nat) (v2 : Nat) (v3 : Nat) (lo : Int64) (hi : Int64) (on : Int32) (ze : Int32) (kl : Nat → Int64) (kh : Nat → Int64) (row : Nat → Int32) (a0 : Nat) (x : Int32) (o0 : Nat) (of : Nat → Int64) : xt_Met l y_Law_quotient (cth y_Law_quotient b_Law_quotient 4 (some .int) [(0, 9, 12, 19)]) ({ frames := 7, cells := 1, slots := 6, locals := 111 }) (va_Pc [.ref m0, .int x, .ref o0] (fun U => U.heap.size = sz0 ∧ va_P (dC, dI) classes [(m0, .inr (7, [.int ((nI N)), .int ((nI OU)), .ref b0, .ref t0, .ref f0, .ref g0, .ref k0, .ref v0, .ref d0, .int 0, .int 0])), (v0, .inr (3, [.ref a0, .ref v1, .ref v2, .ref v3, .int 0, .long lo, .long hi, .int on, .int ze])), (v1, .inl (cJ, 81, .inr (.inl kl))), (v2, .inl (cJ, 81, .inr (.inl kh))), (v3, .inl (cI, 81, .inl row)), (o0, .inl (cJ, 1, .inr (.inl of)))] U.heap ∧ va_K (dC, dI) classes [(cI, .int), (cJ, .long)] U ∧ va_D (fun _ => True) [(m0, .inr (7, [.int ((nI N)), .int ((nI OU)), .ref b0, .ref t0, .ref f0, .ref g0, .ref k0, .ref v0, .ref d0, .int 0, .int 0])), (v0, .inr (3, [.ref a0, .ref v1, .ref v2, .ref v3, .int 0, .long lo, .long hi, .int on, .int ze])), (v1, .inl (cJ, 81, .inr (.inl kl))), (v2, .inl (cJ, 81, .inr (.inl kh))), (v3, .inl (cI, 81, .inl row)), (o0, .inl (cJ, 1, .inr (.inl of)))] ∧ gl (va_A [(m0, .inr (7, [.int ((nI N)), .int ((nI OU)), .ref b0, .ref t0, .ref f0, .ref g0, .ref k0, .ref v0, .ref d0, .int 0, .int 0])), (v0, .inr (3, [.ref a0, .ref v1, .ref v2, .ref v3, .int 0, .long lo, .long hi, .int on, .int ze])), (v1, .inl (cJ, 81, .inr (.inl kl))), (v2, .inl (cJ, 81, .inr (.inl kh))), (v3, .inl (cI, 81, .inl row)), (o0, .inl (cJ, 1, .inr (.inl of)))] sz0) U U.heap)) (va_Qi (fun (r : Int32) (_ : Unit) => r = 1) (fun _ => at_w dC dI cI cJ (va_A [(m0, .inr (7, [.int ((nI N)), .int ((nI OU)), .ref b0, .ref t0, .ref f0, .ref g0, .ref k0, .ref v0, .ref d0, .int 0, .int 0])), (v0, .inr (3, [.ref a0, .ref v1, .ref v2, .ref v3, .int 0, .long lo, .long hi, .int on, .int ze])), (v1, .inl (cJ, 81, .inr (.inl kl))), (v2, .inl (cJ, 81, .inr (.inl kh))), (v3, .inl (cI, 81, .inl row)), (o0, .inl (cJ, 1, .inr (.inl of)))] sz0) [(o0, .inl (cJ, 1, .inr (.inl of)))]) (va_A [(m0, .inr (7, [.int ((nI N)), .int ((nI OU)), .ref b0, .ref t0, .ref f0, .ref g0, .ref k0, .ref v0, .ref d0, .int 0, .int 0])), (v0, .inr (3, [.ref a0, .ref v1, .ref v2, .ref v3, .int 0, .long lo, .long hi, .int on, .int ze])), (v1, .inl (cJ, 81, .inr (.inl kl))), (v2, .inl (cJ, 81, .inr (.inl kh))), (v3, .inl (cI, 81, .inl row)), (o0, .inl (cJ, 1, .inr (.inl of)))] sz0)) 1 6 (va_A [(m0, .inr (7, [.int ((nI N)), .int ((nI OU)), .ref b0, .ref t0, .ref f0, .ref g0, .ref k0, .ref v0, .ref d0, .int 0, .int 0])), (v0, .inr (3, [.ref a0, .ref v1, .ref v2, .ref v3, .int 0, .long lo, .long hi, .int on, .int ze])), (v1, .inl (cJ, 81, .inr (.inl kl))), (v2, .inl (cJ, 81, .inr (.inl kh))), (v3, .inl (cI, 81, .inl row)), (o0, .inl (cJ, 1, .inr (.inl of)))] sz0) := by
  refine xh_ofW (cc := b_Law_quotient) (maxL := 4) (ret := some .int) (hs := [(0, 9, 12, 19)]) (by decide) rfl ?_
  intro p e s m args below meth c s₁ B hml htb hv
  obtain ⟨rfl, hsz, hP, hK, hD0, hG⟩ := hv
  have hx := B.exec
  have hb := B.bytes
  have hr := B.returns
  have hts : ∀ w ∈ lwg, w.before _ s = true := fun w h => atoms_spec (ws := cth y_Law_quotient b_Law_quotient 4 (some .int) [(0, 9, 12, 19)]) B.pre w (List.mem_cons_of_mem _ h)
  have hown : s.vm.findClass R_Law = some m.cls := findClass_of_methodNamed B.named
  have hlocks := B.notSynchronized
  subst hsz
  have hD := hD0.self (sz := s.heap.size)
  generalize hAe : va_A [(m0, .inr (7, [.int ((nI N)), .int ((nI OU)), .ref b0, .ref t0, .ref f0, .ref g0, .ref k0, .ref v0, .ref d0, .int 0, .int 0])), (v0, .inr (3, [.ref a0, .ref v1, .ref v2, .ref v3, .int 0, .long lo, .long hi, .int on, .int ze])), (v1, .inl (cJ, 81, .inr (.inl kl))), (v2, .inl (cJ, 81, .inr (.inl kh))), (v3, .inl (cI, 81, .inl row)), (o0, .inl (cJ, 1, .inr (.inl of)))] s.heap.size = A at hD hG ⊢
  have hA : ∀ q : Nat, s.heap.size ≤ q → A q := fun q h => by rw [← hAe]; exact Or.inr h
  have hS : va_S A s.heap s.heap [] := va_S.rf
  have hl := lv_entry ([.ref m0, .int x, .ref o0]) (n := 4) (Nat.le_of_ble_eq_true rfl)
  rw [lg_entry_eq]
  generalize (lg_sl ([.ref m0, .int x, .ref o0]) ++ List.replicate (4 - (lg_sl ([.ref m0, .int x, .ref o0])).length) Slot.unset).toArray = ls at hl ⊢
  have hl : lv_has ls 4 [(0, .ref m0), (1, .int x), (2, .ref o0)] := hl
  have hP : va_P (dC, dI) classes [(m0, .inr (7, [.int ((nI N)), .int ((nI OU)), .ref b0, .ref t0, .ref f0, .ref g0, .ref k0, .ref v0, .ref d0, .int 0, .int 0])), (v0, .inr (3, [.ref a0, .ref v1, .ref v2, .ref v3, .int 0, .long lo, .long hi, .int on, .int ze])), (v1, .inl (cJ, 81, .inr (.inl kl))), (v2, .inl (cJ, 81, .inr (.inl kh))), (v3, .inl (cI, 81, .inl row)), (o0, .inl (cJ, 1, .inr (.inl of)))] s.heap := hP
  obtain ⟨⟨tF, hZF, hTF⟩, hGr⟩ := id hG
  refine lv_aload_n hx hb d_Law_quotient_0 rfl (lv_at hl 2 rfl) ?_
  refine lv_iconst (v := 0) hx hb d_Law_quotient_1 (by decide) ?_
  refine lv_aload_n hx hb d_Law_quotient_2 rfl (lv_at hl 0 rfl) ?_
  refine lv_iload_n hx hb d_Law_quotient_3 rfl (lv_at hl 1 rfl) ?_
  refine xt_callV (As := [.int x]) (rest := [.int 0, .ref o0]) ⟨hx, hb, hml, hown, hts⟩ (c_Main_quotient l hfl dC dI cI cJ m0 N OU b0 t0 f0 g0 k0 v0 d0 v1 v2 v3 lo hi on ze kl kh row a0 x ) (cwV 1 hts (ct_goodV mw_ml_Law_50 mw_im_Main_quotient mw_se_Main_quotient mw_ini_Main mw_code_Main_quotient) rfl rfl rfl (by decide +kernel) ⟨Nat.le_of_ble_eq_true rfl, Nat.le_of_ble_eq_true rfl⟩) ⟨fun a U g mk q => by obtain ⟨q0, qP, qK, qG⟩ := q; exact ⟨q0, qP, va_K.moved (u := U) (U := U.calling g mk a) (Vm.Alike.refl U.vm) qK, gl.blind qG⟩, va_recv hK hP (ci := 7) (q0 := 0) rfl rfl, fun U hU hW => ⟨rfl, by rw [hU]; exact hP.sub (ws' := [(m0, .inr (7, [.int ((nI N)), .int ((nI OU)), .ref b0, .ref t0, .ref f0, .ref g0, .ref k0, .ref v0, .ref d0, .int 0, .int 0])), (v0, .inr (3, [.ref a0, .ref v1, .ref v2, .ref v3, .int 0, .long lo, .long hi, .int on, .int ze])), (v1, .inl (cJ, 81, .inr (.inl kl))), (v2, .inl (cJ, 81, .inr (.inl kh))), (v3, .inl (cI, 81, .inl row))]) [0, 1, 2, 3, 4] rfl, va_K.moved hW.alike hK, by rw [hU]; exact ((hG.kept hS.2.1).narrow (fun _ h => h.elim)).moved hW⟩⟩ rfl hl.1 rfl (lv_room (Nat.le_of_ble_eq_true rfl)) d_Law_quotient_4 ⟨Nat.le_of_ble_eq_true rfl, Nat.le_of_ble_eq_true rfl⟩ (fun v st₀ t H1 L h0 h1 h2 hq hL => ?_) (fun xA st₀ t H1 L h0 h1 h2 hq hL => ?_)
  · obtain ⟨_, _, h9, _⟩ := hq
    cases h9
  obtain ⟨_, ce, h9, a1, a2, a3, a4, a5, a6⟩ := hq
  cases h9
  rw [h0] at a1 a2 a3
  rw [h1] at a2 a3 a4
  obtain ⟨xe, te, hte, e1, e2, e3, e4⟩ := xh_tab htb
  have hP := hP.kept (H1 := H1) (fun k q hk => a3 q.1 (hP k q hk).lt)
  have hS := xh_S hS a2 a3 hL
  refine xh_catch B.admits hown hte e1 e2 e3 e4 (by decide) (by decide) (by decide) (hts _ mw_cl_Law_19) a4 a5 (by rw [← h2.findClass]; exact a6) ?_
  have hP : va_P (dC, dI) classes [(m0, .inr (7, [.int ((nI N)), .int ((nI OU)), .ref b0, .ref t0, .ref f0, .ref g0, .ref k0, .ref v0, .ref d0, .int 0, .int 0])), (v0, .inr (3, [.ref a0, .ref v1, .ref v2, .ref v3, .int 0, .long lo, .long hi, .int on, .int ze])), (v1, .inl (cJ, 81, .inr (.inl kl))), (v2, .inl (cJ, 81, .inr (.inl kh))), (v3, .inl (cI, 81, .inl row)), (o0, .inl (cJ, 1, .inr (.inl of)))] H1 := hP
  refine lv_astore_n (lv' := [(3, .ref xA), (0, .ref m0), (1, .int x), (2, .ref o0)]) hx hb d_Law_quotient_12 rfl hl (by decide) rfl (fun ls hl => ?_)
  refine lv_iconst (v := 1) hx hb d_Law_quotient_13 (by decide) ?_
  refine xt_imp (fun t h => xt_ofMQ t h) ?_
  have hP9 := hP.sub (ws' := [(o0, .inl (cJ, 1, .inr (.inl of)))]) [5] rfl
  have hD9 := hD.sub (ws' := [(o0, .inl (cJ, 1, .inr (.inl of)))]) [5] (by decide) rfl
  exact W.iret (v := 1) hx hb hr (fun t ht hW => ⟨⟨1, (), rfl, rfl, by rw [ht]; exact hP9, va_K.moved hW.alike hK, hD9⟩, hS.F ht⟩) hS.2.2 d_Law_quotient_14
set_option maxHeartbeats 1000000 in
set_option maxRecDepth 100000 in
theorem c_Law_equal (l : Launch) (hfl : l.flags = flags0) (dC : Nat → ClassId) (dI : Nat → Nat → Nat) (cI cJ : ClassId) (sz0 : Nat) (m0 : Nat) (N : Nat) (OU : Nat) (b0 : Nat) (t0 : Nat) (f0 : Nat) (g0 : Nat) (k0 : Nat) (v0 : Nat) (d0 : Nat) (o0 : Nat) (of : Nat → Int64) : xt_Met l y_Law_equal (cth y_Law_equal b_Law_equal 3 (some .int) [(0, 15, 18, 37)]) ({ frames := 8, cells := 1, slots := 6, locals := 132 }) (va_Pc [.ref m0, .ref o0] (fun U => U.heap.size = sz0 ∧ va_P (dC, dI) classes [(m0, .inr (7, [.int ((nI N)), .int ((nI OU)), .ref b0, .ref t0, .ref f0, .ref g0, .ref k0, .ref v0, .ref d0, .int 0, .int 0])), (o0, .inl (cJ, 1, .inr (.inl of)))] U.heap ∧ va_K (dC, dI) classes [(cI, .int), (cJ, .long)] U ∧ va_D (fun _ => True) [(m0, .inr (7, [.int ((nI N)), .int ((nI OU)), .ref b0, .ref t0, .ref f0, .ref g0, .ref k0, .ref v0, .ref d0, .int 0, .int 0])), (o0, .inl (cJ, 1, .inr (.inl of)))] ∧ gl (va_A [(m0, .inr (7, [.int ((nI N)), .int ((nI OU)), .ref b0, .ref t0, .ref f0, .ref g0, .ref k0, .ref v0, .ref d0, .int 0, .int 0])), (o0, .inl (cJ, 1, .inr (.inl of)))] sz0) U U.heap)) (va_Qi (fun (r : Int32) (_ : Unit) => r = 1) (fun _ => at_w dC dI cI cJ (va_A [(m0, .inr (7, [.int ((nI N)), .int ((nI OU)), .ref b0, .ref t0, .ref f0, .ref g0, .ref k0, .ref v0, .ref d0, .int 0, .int 0])), (o0, .inl (cJ, 1, .inr (.inl of)))] sz0) [(o0, .inl (cJ, 1, .inr (.inl of)))]) (va_A [(m0, .inr (7, [.int ((nI N)), .int ((nI OU)), .ref b0, .ref t0, .ref f0, .ref g0, .ref k0, .ref v0, .ref d0, .int 0, .int 0])), (o0, .inl (cJ, 1, .inr (.inl of)))] sz0)) 1 6 (va_A [(m0, .inr (7, [.int ((nI N)), .int ((nI OU)), .ref b0, .ref t0, .ref f0, .ref g0, .ref k0, .ref v0, .ref d0, .int 0, .int 0])), (o0, .inl (cJ, 1, .inr (.inl of)))] sz0) := by
  refine xh_ofW (cc := b_Law_equal) (maxL := 3) (ret := some .int) (hs := [(0, 15, 18, 37)]) (by decide) rfl ?_
  intro p e s m args below meth c s₁ B hml htb hv
  obtain ⟨rfl, hsz, hP, hK, hD0, hG⟩ := hv
  have hx := B.exec
  have hb := B.bytes
  have hr := B.returns
  have hts : ∀ w ∈ lwg, w.before _ s = true := fun w h => atoms_spec (ws := cth y_Law_equal b_Law_equal 3 (some .int) [(0, 15, 18, 37)]) B.pre w (List.mem_cons_of_mem _ h)
  have hown : s.vm.findClass R_Law = some m.cls := findClass_of_methodNamed B.named
  have hlocks := B.notSynchronized
  subst hsz
  have hD := hD0.self (sz := s.heap.size)
  generalize hAe : va_A [(m0, .inr (7, [.int ((nI N)), .int ((nI OU)), .ref b0, .ref t0, .ref f0, .ref g0, .ref k0, .ref v0, .ref d0, .int 0, .int 0])), (o0, .inl (cJ, 1, .inr (.inl of)))] s.heap.size = A at hD hG ⊢
  have hA : ∀ q : Nat, s.heap.size ≤ q → A q := fun q h => by rw [← hAe]; exact Or.inr h
  have hS : va_S A s.heap s.heap [] := va_S.rf
  have hl := lv_entry ([.ref m0, .ref o0]) (n := 3) (Nat.le_of_ble_eq_true rfl)
  rw [lg_entry_eq]
  generalize (lg_sl ([.ref m0, .ref o0]) ++ List.replicate (3 - (lg_sl ([.ref m0, .ref o0])).length) Slot.unset).toArray = ls at hl ⊢
  have hl : lv_has ls 3 [(0, .ref m0), (1, .ref o0)] := hl
  have hP : va_P (dC, dI) classes [(m0, .inr (7, [.int ((nI N)), .int ((nI OU)), .ref b0, .ref t0, .ref f0, .ref g0, .ref k0, .ref v0, .ref d0, .int 0, .int 0])), (o0, .inl (cJ, 1, .inr (.inl of)))] s.heap := hP
  obtain ⟨⟨tF, hZF, hTF⟩, hGr⟩ := id hG
  refine lv_aload_n hx hb d_Law_equal_0 rfl (lv_at hl 1 rfl) ?_
  refine lv_iconst (v := 0) hx hb d_Law_equal_1 (by decide) ?_
  refine lv_aload_n hx hb d_Law_equal_2 rfl (lv_at hl 0 rfl) ?_
  refine xt_callV (As := []) (rest := [.int 0, .ref o0]) ⟨hx, hb, hml, hown, hts⟩ (c_Main_equal l hfl dC dI cI cJ m0 N OU b0 t0 f0 g0 k0 v0 d0 ) (cwV 0 hts (ct_goodV mw_ml_Law_56 mw_im_Main_equal mw_se_Main_equal mw_ini_Main mw_code_Main_equal) rfl rfl rfl (by decide +kernel) ⟨Nat.le_of_ble_eq_true rfl, Nat.le_of_ble_eq_true rfl⟩) ⟨fun a U g mk q => by obtain ⟨q0, qP, qK, qG⟩ := q; exact ⟨q0, qP, va_K.moved (u := U) (U := U.calling g mk a) (Vm.Alike.refl U.vm) qK, gl.blind qG⟩, va_recv hK hP (ci := 7) (q0 := 0) rfl rfl, fun U hU hW => ⟨rfl, by rw [hU]; exact hP.sub (ws' := [(m0, .inr (7, [.int ((nI N)), .int ((nI OU)), .ref b0, .ref t0, .ref f0, .ref g0, .ref k0, .ref v0, .ref d0, .int 0, .int 0]))]) [0] rfl, va_K.moved hW.alike hK, by rw [hU]; exact ((hG.kept hS.2.1).narrow (fun _ h => h.elim)).moved hW⟩⟩ rfl hl.1 rfl (lv_room (Nat.le_of_ble_eq_true rfl)) d_Law_equal_3 ⟨Nat.le_of_ble_eq_true rfl, Nat.le_of_ble_eq_true rfl⟩ (fun v st₀ t H1 L h0 h1 h2 hq hL => ?_) (fun xA st₀ t H1 L h0 h1 h2 hq hL => ?_)
  · obtain ⟨_, _, h9, _⟩ := hq
    cases h9
  obtain ⟨_, ce, h9, a1, a2, a3, a4, a5, a6⟩ := hq
  cases h9
  rw [h0] at a1 a2 a3
  rw [h1] at a2 a3 a4
  obtain ⟨xe, te, hte, e1, e2, e3, e4⟩ := xh_tab htb
  have hP := hP.kept (H1 := H1) (fun k q hk => a3 q.1 (hP k q hk).lt)
  have hS := xh_S hS a2 a3 hL
  refine xh_catch B.admits hown hte e1 e2 e3 e4 (by decide) (by decide) (by decide) (hts _ mw_cl_Law_37) a4 a5 (by rw [← h2.findClass]; exact a6) ?_
  have hP : va_P (dC, dI) classes [(m0, .inr (7, [.int ((nI N)), .int ((nI OU)), .ref b0, .ref t0, .ref f0, .ref g0, .ref k0, .ref v0, .ref d0, .int 0, .int 0])), (o0, .inl (cJ, 1, .inr (.inl of)))] H1 := hP
  refine lv_astore_n (lv' := [(2, .ref xA), (0, .ref m0), (1, .ref o0)]) hx hb d_Law_equal_18 rfl hl (by decide) rfl (fun ls hl => ?_)
  refine lv_iconst (v := 1) hx hb d_Law_equal_19 (by decide) ?_
  refine xt_imp (fun t h => xt_ofMQ t h) ?_
  have hP9 := hP.sub (ws' := [(o0, .inl (cJ, 1, .inr (.inl of)))]) [1] rfl
  have hD9 := hD.sub (ws' := [(o0, .inl (cJ, 1, .inr (.inl of)))]) [1] (by decide) rfl
  exact W.iret (v := 1) hx hb hr (fun t ht hW => ⟨⟨1, (), rfl, rfl, by rw [ht]; exact hP9, va_K.moved hW.alike hK, hD9⟩, hS.F ht⟩) hS.2.2 d_Law_equal_20
set_option maxHeartbeats 1000000 in
set_option maxRecDepth 100000 in
theorem c_Law_value (l : Launch) (hfl : l.flags = flags0) (dC : Nat → ClassId) (dI : Nat → Nat → Nat) (cI cJ : ClassId) (sz0 : Nat) (m0 : Nat) (N : Nat) (OU : Nat) (b0 : Nat) (t0 : Nat) (f0 : Nat) (g0 : Nat) (k0 : Nat) (v0 : Nat) (d0 : Nat) (x : Int64) (y : Int32) (o0 : Nat) (of : Nat → Int64) : xt_Met l y_Law_value (cth y_Law_value b_Law_value 6 (some .int) [(0, 18, 21, 37), (0, 18, 25, 19), (0, 18, 29, 21)]) ({ frames := 8, cells := 1, slots := 6, locals := 133 }) (va_Pc [.ref m0, .long x, .int y, .ref o0] (fun U => U.heap.size = sz0 ∧ va_P (dC, dI) classes [(m0, .inr (7, [.int ((nI N)), .int ((nI OU)), .ref b0, .ref t0, .ref f0, .ref g0, .ref k0, .ref v0, .ref d0, .int 0, .int 0])), (o0, .inl (cJ, 1, .inr (.inl of)))] U.heap ∧ va_K (dC, dI) classes [(cI, .int), (cJ, .long)] U ∧ va_D (fun _ => True) [(m0, .inr (7, [.int ((nI N)), .int ((nI OU)), .ref b0, .ref t0, .ref f0, .ref g0, .ref k0, .ref v0, .ref d0, .int 0, .int 0])), (o0, .inl (cJ, 1, .inr (.inl of)))] ∧ gl (va_A [(m0, .inr (7, [.int ((nI N)), .int ((nI OU)), .ref b0, .ref t0, .ref f0, .ref g0, .ref k0, .ref v0, .ref d0, .int 0, .int 0])), (o0, .inl (cJ, 1, .inr (.inl of)))] sz0) U U.heap)) (va_Qi (fun (r : Int32) (_ : Unit) => r = 1) (fun _ => at_w dC dI cI cJ (va_A [(m0, .inr (7, [.int ((nI N)), .int ((nI OU)), .ref b0, .ref t0, .ref f0, .ref g0, .ref k0, .ref v0, .ref d0, .int 0, .int 0])), (o0, .inl (cJ, 1, .inr (.inl of)))] sz0) [(o0, .inl (cJ, 1, .inr (.inl of)))]) (va_A [(m0, .inr (7, [.int ((nI N)), .int ((nI OU)), .ref b0, .ref t0, .ref f0, .ref g0, .ref k0, .ref v0, .ref d0, .int 0, .int 0])), (o0, .inl (cJ, 1, .inr (.inl of)))] sz0)) 1 6 (va_A [(m0, .inr (7, [.int ((nI N)), .int ((nI OU)), .ref b0, .ref t0, .ref f0, .ref g0, .ref k0, .ref v0, .ref d0, .int 0, .int 0])), (o0, .inl (cJ, 1, .inr (.inl of)))] sz0) := by
  refine xh_ofW (cc := b_Law_value) (maxL := 6) (ret := some .int) (hs := [(0, 18, 21, 37), (0, 18, 25, 19), (0, 18, 29, 21)]) (by decide) rfl ?_
  intro p e s m args below meth c s₁ B hml htb hv
  obtain ⟨rfl, hsz, hP, hK, hD0, hG⟩ := hv
  have hx := B.exec
  have hb := B.bytes
  have hr := B.returns
  have hts : ∀ w ∈ lwg, w.before _ s = true := fun w h => atoms_spec (ws := cth y_Law_value b_Law_value 6 (some .int) [(0, 18, 21, 37), (0, 18, 25, 19), (0, 18, 29, 21)]) B.pre w (List.mem_cons_of_mem _ h)
  have hown : s.vm.findClass R_Law = some m.cls := findClass_of_methodNamed B.named
  have hlocks := B.notSynchronized
  subst hsz
  have hD := hD0.self (sz := s.heap.size)
  generalize hAe : va_A [(m0, .inr (7, [.int ((nI N)), .int ((nI OU)), .ref b0, .ref t0, .ref f0, .ref g0, .ref k0, .ref v0, .ref d0, .int 0, .int 0])), (o0, .inl (cJ, 1, .inr (.inl of)))] s.heap.size = A at hD hG ⊢
  have hA : ∀ q : Nat, s.heap.size ≤ q → A q := fun q h => by rw [← hAe]; exact Or.inr h
  have hS : va_S A s.heap s.heap [] := va_S.rf
  have hl := lv_entry ([.ref m0, .long x, .int y, .ref o0]) (n := 6) (Nat.le_of_ble_eq_true rfl)
  rw [lg_entry_eq]
  generalize (lg_sl ([.ref m0, .long x, .int y, .ref o0]) ++ List.replicate (6 - (lg_sl ([.ref m0, .long x, .int y, .ref o0])).length) Slot.unset).toArray = ls at hl ⊢
  have hl : lv_has ls 6 [(0, .ref m0), (1, .long x), (3, .int y), (4, .ref o0)] := hl
  have hP : va_P (dC, dI) classes [(m0, .inr (7, [.int ((nI N)), .int ((nI OU)), .ref b0, .ref t0, .ref f0, .ref g0, .ref k0, .ref v0, .ref d0, .int 0, .int 0])), (o0, .inl (cJ, 1, .inr (.inl of)))] s.heap := hP
  obtain ⟨⟨tF, hZF, hTF⟩, hGr⟩ := id hG
  refine lv_aload hx hb d_Law_value_0 (lv_at hl 3 rfl) ?_
  refine lv_iconst (v := 0) hx hb d_Law_value_2 (by decide) ?_
  refine lv_aload_n hx hb d_Law_value_3 rfl (lv_at hl 0 rfl) ?_
  refine lv_lload_n hx hb d_Law_value_4 rfl (lv_at hl 1 rfl) ?_
  refine lv_iload_n hx hb d_Law_value_5 rfl (lv_at hl 2 rfl) ?_
  refine xt_callV (As := [.long x, .int y]) (rest := [.int 0, .ref o0]) ⟨hx, hb, hml, hown, hts⟩ (c_Main_value l hfl dC dI cI cJ m0 N OU b0 t0 f0 g0 k0 v0 d0 x y ) (cwV 2 hts (ct_goodV mw_ml_Law_60 mw_im_Main_value mw_se_Main_value mw_ini_Main mw_code_Main_value) rfl rfl rfl (by decide +kernel) ⟨Nat.le_of_ble_eq_true rfl, Nat.le_of_ble_eq_true rfl⟩) ⟨fun a U g mk q => by obtain ⟨q0, qP, qK, qG⟩ := q; exact ⟨q0, qP, va_K.moved (u := U) (U := U.calling g mk a) (Vm.Alike.refl U.vm) qK, gl.blind qG⟩, va_recv hK hP (ci := 7) (q0 := 0) rfl rfl, fun U hU hW => ⟨rfl, by rw [hU]; exact hP.sub (ws' := [(m0, .inr (7, [.int ((nI N)), .int ((nI OU)), .ref b0, .ref t0, .ref f0, .ref g0, .ref k0, .ref v0, .ref d0, .int 0, .int 0]))]) [0] rfl, va_K.moved hW.alike hK, by rw [hU]; exact ((hG.kept hS.2.1).narrow (fun _ h => h.elim)).moved hW⟩⟩ rfl hl.1 rfl (lv_room (Nat.le_of_ble_eq_true rfl)) d_Law_value_6 ⟨Nat.le_of_ble_eq_true rfl, Nat.le_of_ble_eq_true rfl⟩ (fun v st₀ t H1 L h0 h1 h2 hq hL => ?_) (fun xA st₀ t H1 L h0 h1 h2 hq hL => ?_)
  · obtain ⟨_, _, h9, _⟩ := hq
    cases h9
  obtain ⟨_, ce, h9, a1, a2, a3, a4, a5, a6⟩ := hq
  cases h9
  rw [h0] at a1 a2 a3
  rw [h1] at a2 a3 a4
  obtain ⟨xe, te, hte, e1, e2, e3, e4⟩ := xh_tab htb
  have hP := hP.kept (H1 := H1) (fun k q hk => a3 q.1 (hP k q hk).lt)
  have hS := xh_S hS a2 a3 hL
  refine xh_catch B.admits hown hte e1 e2 e3 e4 (by decide) (by decide) (by decide) (hts _ mw_cl_Law_37) a4 a5 (by rw [← h2.findClass]; exact a6) ?_
  have hP : va_P (dC, dI) classes [(m0, .inr (7, [.int ((nI N)), .int ((nI OU)), .ref b0, .ref t0, .ref f0, .ref g0, .ref k0, .ref v0, .ref d0, .int 0, .int 0])), (o0, .inl (cJ, 1, .inr (.inl of)))] H1 := hP
  refine lv_astore (lv' := [(5, .ref xA), (0, .ref m0), (1, .long x), (3, .int y), (4, .ref o0)]) hx hb d_Law_value_21 hl (by decide) rfl (fun ls hl => ?_)
  refine lv_iconst (v := 1) hx hb d_Law_value_23 (by decide) ?_
  refine xt_imp (fun t h => xt_ofMQ t h) ?_
  have hP9 := hP.sub (ws' := [(o0, .inl (cJ, 1, .inr (.inl of)))]) [1] rfl
  have hD9 := hD.sub (ws' := [(o0, .inl (cJ, 1, .inr (.inl of)))]) [1] (by decide) rfl
  exact W.iret (v := 1) hx hb hr (fun t ht hW => ⟨⟨1, (), rfl, rfl, by rw [ht]; exact hP9, va_K.moved hW.alike hK, hD9⟩, hS.F ht⟩) hS.2.2 d_Law_value_24
set_option maxHeartbeats 1000000 in
set_option maxRecDepth 100000 in
theorem c0_Law_diagram (l : Launch) (hfl : l.flags = flags0) (dC : Nat → ClassId) (dI : Nat → Nat → Nat) (cI cJ : ClassId) (sz0 : Nat) (m0 : Nat) (N : Nat) (OU : Nat) (b0 : Nat) (t0 : Nat) (f0 : Nat) (g0 : Nat) (k0 : Nat) (v0 : Nat) (d0 : Nat) (d1 : Nat) (d2 : Nat) (d3 : Nat) (asked : Nat → Int32) (seen : Nat → Int32) (x : Int32) (o0 : Nat) (of : Nat → Int64) (hN : N ≤ 4) (hor : x < 0 ∨ fac N ≤ x) : xt_Met l y_Law_diagram (cth y_Law_diagram b_Law_diagram 4 (some .int) [(0, 9, 12, 21)]) ({ frames := 7, cells := 1, slots := 6, locals := 111 }) (va_Pc [.ref m0, .int x, .ref o0] (fun U => U.heap.size = sz0 ∧ va_P (dC, dI) classes [(m0, .inr (7, [.int ((nI N)), .int ((nI OU)), .ref b0, .ref t0, .ref f0, .ref g0, .ref k0, .ref v0, .ref d0, .int 0, .int 0])), (d0, .inr (2, [.int ((nI N)), .int ((nI OU)), .ref d1, .ref d2, .ref d3])), (d1, .inl (cI, 4, .inl asked)), (d2, .inl (cI, 2, .inl ((fun _ => 0)))), (d3, .inl (cI, 16, .inl seen)), (o0, .inl (cJ, 1, .inr (.inl of)))] U.heap ∧ va_K (dC, dI) classes [(cI, .int), (cJ, .long)] U ∧ va_D (fun _ => True) [(m0, .inr (7, [.int ((nI N)), .int ((nI OU)), .ref b0, .ref t0, .ref f0, .ref g0, .ref k0, .ref v0, .ref d0, .int 0, .int 0])), (d0, .inr (2, [.int ((nI N)), .int ((nI OU)), .ref d1, .ref d2, .ref d3])), (d1, .inl (cI, 4, .inl asked)), (d2, .inl (cI, 2, .inl ((fun _ => 0)))), (d3, .inl (cI, 16, .inl seen)), (o0, .inl (cJ, 1, .inr (.inl of)))] ∧ gl (va_A [(m0, .inr (7, [.int ((nI N)), .int ((nI OU)), .ref b0, .ref t0, .ref f0, .ref g0, .ref k0, .ref v0, .ref d0, .int 0, .int 0])), (d0, .inr (2, [.int ((nI N)), .int ((nI OU)), .ref d1, .ref d2, .ref d3])), (d1, .inl (cI, 4, .inl asked)), (d2, .inl (cI, 2, .inl ((fun _ => 0)))), (d3, .inl (cI, 16, .inl seen)), (o0, .inl (cJ, 1, .inr (.inl of)))] sz0) U U.heap)) (va_Qi (fun (r : Int32) (_ : Unit) => r = 1) (fun _ => at_w dC dI cI cJ (va_A [(m0, .inr (7, [.int ((nI N)), .int ((nI OU)), .ref b0, .ref t0, .ref f0, .ref g0, .ref k0, .ref v0, .ref d0, .int 0, .int 0])), (d0, .inr (2, [.int ((nI N)), .int ((nI OU)), .ref d1, .ref d2, .ref d3])), (d1, .inl (cI, 4, .inl asked)), (d2, .inl (cI, 2, .inl ((fun _ => 0)))), (d3, .inl (cI, 16, .inl seen)), (o0, .inl (cJ, 1, .inr (.inl of)))] sz0) [(o0, .inl (cJ, 1, .inr (.inl of)))]) (va_A [(m0, .inr (7, [.int ((nI N)), .int ((nI OU)), .ref b0, .ref t0, .ref f0, .ref g0, .ref k0, .ref v0, .ref d0, .int 0, .int 0])), (d0, .inr (2, [.int ((nI N)), .int ((nI OU)), .ref d1, .ref d2, .ref d3])), (d1, .inl (cI, 4, .inl asked)), (d2, .inl (cI, 2, .inl ((fun _ => 0)))), (d3, .inl (cI, 16, .inl seen)), (o0, .inl (cJ, 1, .inr (.inl of)))] sz0)) 1 6 (va_A [(m0, .inr (7, [.int ((nI N)), .int ((nI OU)), .ref b0, .ref t0, .ref f0, .ref g0, .ref k0, .ref v0, .ref d0, .int 0, .int 0])), (d0, .inr (2, [.int ((nI N)), .int ((nI OU)), .ref d1, .ref d2, .ref d3])), (d1, .inl (cI, 4, .inl asked)), (d2, .inl (cI, 2, .inl ((fun _ => 0)))), (d3, .inl (cI, 16, .inl seen)), (o0, .inl (cJ, 1, .inr (.inl of)))] sz0) := by
  refine xh_ofW (cc := b_Law_diagram) (maxL := 4) (ret := some .int) (hs := [(0, 9, 12, 21)]) (by decide) rfl ?_
  intro p e s m args below meth c s₁ B hml htb hv
  obtain ⟨rfl, hsz, hP, hK, hD0, hG⟩ := hv
  have hx := B.exec
  have hb := B.bytes
  have hr := B.returns
  have hts : ∀ w ∈ lwg, w.before _ s = true := fun w h => atoms_spec (ws := cth y_Law_diagram b_Law_diagram 4 (some .int) [(0, 9, 12, 21)]) B.pre w (List.mem_cons_of_mem _ h)
  have hown : s.vm.findClass R_Law = some m.cls := findClass_of_methodNamed B.named
  have hlocks := B.notSynchronized
  subst hsz
  have hD := hD0.self (sz := s.heap.size)
  generalize hAe : va_A [(m0, .inr (7, [.int ((nI N)), .int ((nI OU)), .ref b0, .ref t0, .ref f0, .ref g0, .ref k0, .ref v0, .ref d0, .int 0, .int 0])), (d0, .inr (2, [.int ((nI N)), .int ((nI OU)), .ref d1, .ref d2, .ref d3])), (d1, .inl (cI, 4, .inl asked)), (d2, .inl (cI, 2, .inl ((fun _ => 0)))), (d3, .inl (cI, 16, .inl seen)), (o0, .inl (cJ, 1, .inr (.inl of)))] s.heap.size = A at hD hG ⊢
  have hA : ∀ q : Nat, s.heap.size ≤ q → A q := fun q h => by rw [← hAe]; exact Or.inr h
  have hS : va_S A s.heap s.heap [] := va_S.rf
  have hl := lv_entry ([.ref m0, .int x, .ref o0]) (n := 4) (Nat.le_of_ble_eq_true rfl)
  rw [lg_entry_eq]
  generalize (lg_sl ([.ref m0, .int x, .ref o0]) ++ List.replicate (4 - (lg_sl ([.ref m0, .int x, .ref o0])).length) Slot.unset).toArray = ls at hl ⊢
  have hl : lv_has ls 4 [(0, .ref m0), (1, .int x), (2, .ref o0)] := hl
  have hP : va_P (dC, dI) classes [(m0, .inr (7, [.int ((nI N)), .int ((nI OU)), .ref b0, .ref t0, .ref f0, .ref g0, .ref k0, .ref v0, .ref d0, .int 0, .int 0])), (d0, .inr (2, [.int ((nI N)), .int ((nI OU)), .ref d1, .ref d2, .ref d3])), (d1, .inl (cI, 4, .inl asked)), (d2, .inl (cI, 2, .inl ((fun _ => 0)))), (d3, .inl (cI, 16, .inl seen)), (o0, .inl (cJ, 1, .inr (.inl of)))] s.heap := hP
  obtain ⟨⟨tF, hZF, hTF⟩, hGr⟩ := id hG
  refine lv_aload_n hx hb d_Law_diagram_0 rfl (lv_at hl 2 rfl) ?_
  refine lv_iconst (v := 0) hx hb d_Law_diagram_1 (by decide) ?_
  refine lv_aload_n hx hb d_Law_diagram_2 rfl (lv_at hl 0 rfl) ?_
  refine lv_iload_n hx hb d_Law_diagram_3 rfl (lv_at hl 1 rfl) ?_
  refine xt_callV (As := [.int x]) (rest := [.int 0, .ref o0]) ⟨hx, hb, hml, hown, hts⟩ (c0_Main_diagram l hfl dC dI cI cJ m0 N OU b0 t0 f0 g0 k0 v0 d0 d1 d2 d3 asked seen x hN hor) (cwV 1 hts (ct_goodV mw_ml_Law_53 mw_im_Main_diagram mw_se_Main_diagram mw_ini_Main mw_code_Main_diagram) rfl rfl rfl (by decide +kernel) ⟨Nat.le_of_ble_eq_true rfl, Nat.le_of_ble_eq_true rfl⟩) ⟨fun a U g mk q => by obtain ⟨q0, qP, qK, qG⟩ := q; exact ⟨q0, qP, va_K.moved (u := U) (U := U.calling g mk a) (Vm.Alike.refl U.vm) qK, gl.blind qG⟩, va_recv hK hP (ci := 7) (q0 := 0) rfl rfl, fun U hU hW => ⟨rfl, by rw [hU]; exact hP.sub (ws' := [(m0, .inr (7, [.int ((nI N)), .int ((nI OU)), .ref b0, .ref t0, .ref f0, .ref g0, .ref k0, .ref v0, .ref d0, .int 0, .int 0])), (d0, .inr (2, [.int ((nI N)), .int ((nI OU)), .ref d1, .ref d2, .ref d3])), (d1, .inl (cI, 4, .inl asked)), (d2, .inl (cI, 2, .inl ((fun _ => 0)))), (d3, .inl (cI, 16, .inl seen))]) [0, 1, 2, 3, 4] rfl, va_K.moved hW.alike hK, by rw [hU]; exact ((hG.kept hS.2.1).narrow (fun _ h => h.elim)).moved hW⟩⟩ rfl hl.1 rfl (lv_room (Nat.le_of_ble_eq_true rfl)) d_Law_diagram_4 ⟨Nat.le_of_ble_eq_true rfl, Nat.le_of_ble_eq_true rfl⟩ (fun v st₀ t H1 L h0 h1 h2 hq hL => ?_) (fun xA st₀ t H1 L h0 h1 h2 hq hL => ?_)
  · obtain ⟨_, _, h9, _⟩ := hq
    cases h9
  obtain ⟨_, ce, h9, a1, a2, a3, a4, a5, a6⟩ := hq
  cases h9
  rw [h0] at a1 a2 a3
  rw [h1] at a2 a3 a4
  obtain ⟨xe, te, hte, e1, e2, e3, e4⟩ := xh_tab htb
  have hP := hP.kept (H1 := H1) (fun k q hk => a3 q.1 (hP k q hk).lt)
  have hS := xh_S hS a2 a3 hL
  refine xh_catch B.admits hown hte e1 e2 e3 e4 (by decide) (by decide) (by decide) (hts _ mw_cl_Law_21) a4 a5 (by rw [← h2.findClass]; exact a6) ?_
  have hP : va_P (dC, dI) classes [(m0, .inr (7, [.int ((nI N)), .int ((nI OU)), .ref b0, .ref t0, .ref f0, .ref g0, .ref k0, .ref v0, .ref d0, .int 0, .int 0])), (d0, .inr (2, [.int ((nI N)), .int ((nI OU)), .ref d1, .ref d2, .ref d3])), (d1, .inl (cI, 4, .inl asked)), (d2, .inl (cI, 2, .inl ((fun _ => 0)))), (d3, .inl (cI, 16, .inl seen)), (o0, .inl (cJ, 1, .inr (.inl of)))] H1 := hP
  refine lv_astore_n (lv' := [(3, .ref xA), (0, .ref m0), (1, .int x), (2, .ref o0)]) hx hb d_Law_diagram_12 rfl hl (by decide) rfl (fun ls hl => ?_)
  refine lv_iconst (v := 1) hx hb d_Law_diagram_13 (by decide) ?_
  refine xt_imp (fun t h => xt_ofMQ t h) ?_
  have hP9 := hP.sub (ws' := [(o0, .inl (cJ, 1, .inr (.inl of)))]) [5] rfl
  have hD9 := hD.sub (ws' := [(o0, .inl (cJ, 1, .inr (.inl of)))]) [5] (by decide) rfl
  exact W.iret (v := 1) hx hb hr (fun t ht hW => ⟨⟨1, (), rfl, rfl, by rw [ht]; exact hP9, va_K.moved hW.alike hK, hD9⟩, hS.F ht⟩) hS.2.2 d_Law_diagram_14
set_option maxHeartbeats 1000000 in
set_option maxRecDepth 100000 in
theorem c_Law_cube (l : Launch) (hfl : l.flags = flags0) (dC : Nat → ClassId) (dI : Nat → Nat → Nat) (cI cJ : ClassId) (sz0 : Nat) (m0 : Nat) (N : Nat) (OU : Nat) (b0 : Nat) (t0 : Nat) (f0 : Nat) (g0 : Nat) (k0 : Nat) (v0 : Nat) (d0 : Nat) (b1 : Nat) (b2 : Nat) (prod : Nat → Int32) (kind : Nat → Int32) (a0 : Nat) (a1 : Nat) (a2 : Nat) (a3 : Nat) (sz : Int32) (care : Nat → Int32) (bits : Nat → Int32) (had : Nat → Int32) (o0 : Nat) (of : Nat → Int64) (hOU : OU ≤ 2) : xt_Met l y_Law_cube (cth y_Law_cube b_Law_cube 3 (some .int) [(0, 8, 11, 13)]) ({ frames := 7, cells := 0, slots := 0, locals := 110 }) (va_Pc [.ref m0, .ref o0] (fun U => U.heap.size = sz0 ∧ va_P (dC, dI) classes [(m0, .inr (7, [.int ((nI N)), .int ((nI OU)), .ref b0, .ref t0, .ref f0, .ref g0, .ref k0, .ref v0, .ref d0, .int 0, .int 0])), (b0, .inr (1, [.ref a0, .int ((nI OU)), .ref b1, .ref b2, .int 0])), (b1, .inl (cI, 24, .inl prod)), (b2, .inl (cI, 48, .inl kind)), (a0, .inr (5, [.int ((nI N)), .int sz, .ref a1, .ref a2, .ref a3])), (a1, .inl (cI, 81, .inl care)), (a2, .inl (cI, 81, .inl bits)), (a3, .inl (cI, 81, .inl had)), (o0, .inl (cJ, 1, .inr (.inl of)))] U.heap ∧ va_K (dC, dI) classes [(cI, .int), (cJ, .long)] U ∧ va_D (fun _ => True) [(m0, .inr (7, [.int ((nI N)), .int ((nI OU)), .ref b0, .ref t0, .ref f0, .ref g0, .ref k0, .ref v0, .ref d0, .int 0, .int 0])), (b0, .inr (1, [.ref a0, .int ((nI OU)), .ref b1, .ref b2, .int 0])), (b1, .inl (cI, 24, .inl prod)), (b2, .inl (cI, 48, .inl kind)), (a0, .inr (5, [.int ((nI N)), .int sz, .ref a1, .ref a2, .ref a3])), (a1, .inl (cI, 81, .inl care)), (a2, .inl (cI, 81, .inl bits)), (a3, .inl (cI, 81, .inl had)), (o0, .inl (cJ, 1, .inr (.inl of)))] ∧ gl (va_A [(m0, .inr (7, [.int ((nI N)), .int ((nI OU)), .ref b0, .ref t0, .ref f0, .ref g0, .ref k0, .ref v0, .ref d0, .int 0, .int 0])), (b0, .inr (1, [.ref a0, .int ((nI OU)), .ref b1, .ref b2, .int 0])), (b1, .inl (cI, 24, .inl prod)), (b2, .inl (cI, 48, .inl kind)), (a0, .inr (5, [.int ((nI N)), .int sz, .ref a1, .ref a2, .ref a3])), (a1, .inl (cI, 81, .inl care)), (a2, .inl (cI, 81, .inl bits)), (a3, .inl (cI, 81, .inl had)), (o0, .inl (cJ, 1, .inr (.inl of)))] sz0) U U.heap)) (va_Qi (fun (r : Int32) (_ : Unit) => r = 0) (fun _ => at_w dC dI cI cJ (va_A [(m0, .inr (7, [.int ((nI N)), .int ((nI OU)), .ref b0, .ref t0, .ref f0, .ref g0, .ref k0, .ref v0, .ref d0, .int 0, .int 0])), (b0, .inr (1, [.ref a0, .int ((nI OU)), .ref b1, .ref b2, .int 0])), (b1, .inl (cI, 24, .inl prod)), (b2, .inl (cI, 48, .inl kind)), (a0, .inr (5, [.int ((nI N)), .int sz, .ref a1, .ref a2, .ref a3])), (a1, .inl (cI, 81, .inl care)), (a2, .inl (cI, 81, .inl bits)), (a3, .inl (cI, 81, .inl had)), (o0, .inl (cJ, 1, .inr (.inl of)))] sz0) [(o0, .inl (cJ, 1, .inr (.inl ((vp_updL of 0 0)))))]) (va_A [(m0, .inr (7, [.int ((nI N)), .int ((nI OU)), .ref b0, .ref t0, .ref f0, .ref g0, .ref k0, .ref v0, .ref d0, .int 0, .int 0])), (b0, .inr (1, [.ref a0, .int ((nI OU)), .ref b1, .ref b2, .int 0])), (b1, .inl (cI, 24, .inl prod)), (b2, .inl (cI, 48, .inl kind)), (a0, .inr (5, [.int ((nI N)), .int sz, .ref a1, .ref a2, .ref a3])), (a1, .inl (cI, 81, .inl care)), (a2, .inl (cI, 81, .inl bits)), (a3, .inl (cI, 81, .inl had)), (o0, .inl (cJ, 1, .inr (.inl of)))] sz0)) 0 0 (va_A [(m0, .inr (7, [.int ((nI N)), .int ((nI OU)), .ref b0, .ref t0, .ref f0, .ref g0, .ref k0, .ref v0, .ref d0, .int 0, .int 0])), (b0, .inr (1, [.ref a0, .int ((nI OU)), .ref b1, .ref b2, .int 0])), (b1, .inl (cI, 24, .inl prod)), (b2, .inl (cI, 48, .inl kind)), (a0, .inr (5, [.int ((nI N)), .int sz, .ref a1, .ref a2, .ref a3])), (a1, .inl (cI, 81, .inl care)), (a2, .inl (cI, 81, .inl bits)), (a3, .inl (cI, 81, .inl had)), (o0, .inl (cJ, 1, .inr (.inl of)))] sz0) := by
  refine xh_ofW (cc := b_Law_cube) (maxL := 3) (ret := some .int) (hs := [(0, 8, 11, 13)]) (by decide) rfl ?_
  intro p e s m args below meth c s₁ B hml htb hv
  obtain ⟨rfl, hsz, hP, hK, hD0, hG⟩ := hv
  have hx := B.exec
  have hb := B.bytes
  have hr := B.returns
  have hts : ∀ w ∈ lwg, w.before _ s = true := fun w h => atoms_spec (ws := cth y_Law_cube b_Law_cube 3 (some .int) [(0, 8, 11, 13)]) B.pre w (List.mem_cons_of_mem _ h)
  have hown : s.vm.findClass R_Law = some m.cls := findClass_of_methodNamed B.named
  have hlocks := B.notSynchronized
  subst hsz
  have hD := hD0.self (sz := s.heap.size)
  generalize hAe : va_A [(m0, .inr (7, [.int ((nI N)), .int ((nI OU)), .ref b0, .ref t0, .ref f0, .ref g0, .ref k0, .ref v0, .ref d0, .int 0, .int 0])), (b0, .inr (1, [.ref a0, .int ((nI OU)), .ref b1, .ref b2, .int 0])), (b1, .inl (cI, 24, .inl prod)), (b2, .inl (cI, 48, .inl kind)), (a0, .inr (5, [.int ((nI N)), .int sz, .ref a1, .ref a2, .ref a3])), (a1, .inl (cI, 81, .inl care)), (a2, .inl (cI, 81, .inl bits)), (a3, .inl (cI, 81, .inl had)), (o0, .inl (cJ, 1, .inr (.inl of)))] s.heap.size = A at hD hG ⊢
  have hA : ∀ q : Nat, s.heap.size ≤ q → A q := fun q h => by rw [← hAe]; exact Or.inr h
  have hS : va_S A s.heap s.heap [] := va_S.rf
  have hl := lv_entry ([.ref m0, .ref o0]) (n := 3) (Nat.le_of_ble_eq_true rfl)
  rw [lg_entry_eq]
  generalize (lg_sl ([.ref m0, .ref o0]) ++ List.replicate (3 - (lg_sl ([.ref m0, .ref o0])).length) Slot.unset).toArray = ls at hl ⊢
  have hl : lv_has ls 3 [(0, .ref m0), (1, .ref o0)] := hl
  have hP : va_P (dC, dI) classes [(m0, .inr (7, [.int ((nI N)), .int ((nI OU)), .ref b0, .ref t0, .ref f0, .ref g0, .ref k0, .ref v0, .ref d0, .int 0, .int 0])), (b0, .inr (1, [.ref a0, .int ((nI OU)), .ref b1, .ref b2, .int 0])), (b1, .inl (cI, 24, .inl prod)), (b2, .inl (cI, 48, .inl kind)), (a0, .inr (5, [.int ((nI N)), .int sz, .ref a1, .ref a2, .ref a3])), (a1, .inl (cI, 81, .inl care)), (a2, .inl (cI, 81, .inl bits)), (a3, .inl (cI, 81, .inl had)), (o0, .inl (cJ, 1, .inr (.inl of)))] s.heap := hP
  obtain ⟨⟨tF, hZF, hTF⟩, hGr⟩ := id hG
  refine lv_aload_n hx hb d_Law_cube_0 rfl (lv_at hl 1 rfl) ?_
  refine lv_iconst (v := 0) hx hb d_Law_cube_1 (by decide) ?_
  refine lv_aload_n hx hb d_Law_cube_2 rfl (lv_at hl 0 rfl) ?_
  have hPc := hP.sub (ws' := [(m0, .inr (7, [.int ((nI N)), .int ((nI OU)), .ref b0, .ref t0, .ref f0, .ref g0, .ref k0, .ref v0, .ref d0, .int 0, .int 0])), (b0, .inr (1, [.ref a0, .int ((nI OU)), .ref b1, .ref b2, .int 0])), (b1, .inl (cI, 24, .inl prod)), (b2, .inl (cI, 48, .inl kind)), (a0, .inr (5, [.int ((nI N)), .int sz, .ref a1, .ref a2, .ref a3])), (a1, .inl (cI, 81, .inl care)), (a2, .inl (cI, 81, .inl bits)), (a3, .inl (cI, 81, .inl had))]) [0, 1, 2, 3, 4, 5, 6, 7] rfl
  have hDc := hD.sub (ws' := [(m0, .inr (7, [.int ((nI N)), .int ((nI OU)), .ref b0, .ref t0, .ref f0, .ref g0, .ref k0, .ref v0, .ref d0, .int 0, .int 0])), (b0, .inr (1, [.ref a0, .int ((nI OU)), .ref b1, .ref b2, .int 0])), (b1, .inl (cI, 24, .inl prod)), (b2, .inl (cI, 48, .inl kind)), (a0, .inr (5, [.int ((nI N)), .int sz, .ref a1, .ref a2, .ref a3])), (a1, .inl (cI, 81, .inl care)), (a2, .inl (cI, 81, .inl bits)), (a3, .inl (cI, 81, .inl had))]) [0, 1, 2, 3, 4, 5, 6, 7] (by decide) rfl
  have hFc := va_free (wc := [(m0, .inr (7, [.int ((nI N)), .int ((nI OU)), .ref b0, .ref t0, .ref f0, .ref g0, .ref k0, .ref v0, .ref d0, .int 0, .int 0])), (b0, .inr (1, [.ref a0, .int ((nI OU)), .ref b1, .ref b2, .int 0])), (b1, .inl (cI, 24, .inl prod)), (b2, .inl (cI, 48, .inl kind)), (a0, .inr (5, [.int ((nI N)), .int sz, .ref a1, .ref a2, .ref a3])), (a1, .inl (cI, 81, .inl care)), (a2, .inl (cI, 81, .inl bits)), (a3, .inl (cI, 81, .inl had))]) hD hS hA [0, 1, 2, 3, 4, 5, 6, 7] rfl
  refine va_calli (va_runV (As := []) (rest := [.int 0, .ref o0]) ⟨hx, hb, hml, hown, hts⟩ (c_Main_cube l dC dI cI cJ _ m0 N OU b0 t0 f0 g0 k0 v0 d0 b1 b2 prod kind a0 a1 a2 a3 sz care bits had hOU) (cwV 0 hts (ct_goodV mw_ml_Law_7 mw_im_Main_cube mw_se_Main_cube mw_ini_Main mw_code_Main_cube) rfl rfl rfl (by decide +kernel) ⟨Nat.le_of_ble_eq_true rfl, Nat.le_of_ble_eq_true rfl⟩) ⟨fun a U g mk q => by obtain ⟨q0, q1, qP, qK, qD⟩ := q; exact ⟨q0, q1, qP, va_K.moved (u := U) (U := U.calling g mk a) (Vm.Alike.refl U.vm) qK, qD⟩, va_recv hK hPc (ci := 7) (q0 := 0) rfl rfl, fun U hU hW => ⟨rfl, by rw [hU], by rw [hU]; exact hPc, va_K.moved hW.alike hK, hDc.weaken (fun _ _ _ _ => trivial)⟩⟩ rfl rfl hl.1 rfl (lv_room (Nat.le_of_ble_eq_true rfl)) d_Law_cube_3 ⟨Nat.le_of_ble_eq_true rfl, Nat.le_of_ble_eq_true rfl⟩) hS (fun q _ h => hFc q h) hFc (fun r_1 u t H1 locs ht hvm hw hB hz1 hk1 hS => ?_)
  obtain ⟨hP1, hK1, hD1⟩ := hB
  rw [ht] at hP1
  obtain ⟨hP, hD⟩ := va_join (wr := [(o0, .inl (cJ, 1, .inr (.inl of)))]) (w1 := []) hP hD [0, 1, 2, 3, 4, 5, 6, 7] [8] rfl rfl (by decide) (by decide) hk1 hFc hP1 hD1
  clear hPc hDc hFc hP1 hK1 hD1 hk1 hz1 hvm ht
  generalize H1 = H at hP hS ⊢
  have hP : va_P (dC, dI) classes [(o0, .inl (cJ, 1, .inr (.inl of)))] H := hP
  have hD : va_D A [(o0, .inl (cJ, 1, .inr (.inl of)))] := hD
  rw [hw]
  clear hw
  refine lv_i2l hx hb d_Law_cube_6 rfl ?_
  refine w_tl (show _ = 0 from by decide) ?_
  refine va_last hx hb hK hP hD hS 0 1 rfl rfl (vp_in_nI (n := 0) (N := 1) (by omega) (by omega)) d_Law_cube_7 (fun H locs hP hD hS => ?_)
  have hP : va_P (dC, dI) classes [(o0, .inl (cJ, 1, .inr (.inl ((vp_updL of (0 : Int32).toNatClampNeg ((0)))))))] H := hP
  have hD : va_D A [(o0, .inl (cJ, 1, .inr (.inl ((vp_updL of (0 : Int32).toNatClampNeg ((0)))))))] := hD
  rw [show vp_updL of (0 : Int32).toNatClampNeg ((0)) = vp_updL of 0 0 from rfl] at hP hD
  have hP : va_P (dC, dI) classes [(o0, .inl (cJ, 1, .inr (.inl ((vp_updL of 0 0)))))] H := hP
  have hD : va_D A [(o0, .inl (cJ, 1, .inr (.inl ((vp_updL of 0 0)))))] := hD
  refine lv_goto (tgt := 14) hx hb d_Law_cube_8 (by decide) ?_
  refine lv_iconst (v := 0) hx hb d_Law_cube_14 (by decide) ?_
  refine xt_imp (fun t h => xt_ofMQ t h) ?_
  have hP9 := hP.sub (ws' := [(o0, .inl (cJ, 1, .inr (.inl ((vp_updL of 0 0)))))]) [0] rfl
  have hD9 := hD.sub (ws' := [(o0, .inl (cJ, 1, .inr (.inl ((vp_updL of 0 0)))))]) [0] (by decide) rfl
  exact W.iret (v := 0) hx hb hr (fun t ht hW => ⟨⟨0, (), rfl, rfl, by rw [ht]; exact hP9, va_K.moved hW.alike hK, hD9⟩, hS.F ht⟩) hS.2.2 d_Law_cube_15
set_option maxHeartbeats 1000000 in
set_option maxRecDepth 100000 in
theorem c1_Law_run (l : Launch) (hfl : l.flags = flags0) (dC : Nat → ClassId) (dI : Nat → Nat → Nat) (cI cJ : ClassId) (sz0 : Nat) (m0 : Nat) (N : Nat) (OU : Nat) (b0 : Nat) (t0 : Nat) (f0 : Nat) (g0 : Nat) (k0 : Nat) (v0 : Nat) (d0 : Nat) (g1 : Nat) (g2 : Nat) (g3 : Nat) (g4 : Nat) (g5 : Nat) (t1 : Nat) (t2 : Nat) (tp : Nat → Int32) (to : Nat → Int32) (k1 : Nat) (k2 : Nat) (kp : Nat → Int32) (ko : Nat → Int32) (b1 : Nat) (b2 : Nat) (prod : Nat → Int32) (kind : Nat → Int32) (a0 : Nat) (a1 : Nat) (a2 : Nat) (a3 : Nat) (sz : Int32) (care : Nat → Int32) (bits : Nat → Int32) (had : Nat → Int32) (v1 : Nat) (v2 : Nat) (v3 : Nat) (lo : Int64) (hi : Int64) (on : Int32) (ze : Int32) (kl : Nat → Int64) (kh : Nat → Int64) (row : Nat → Int32) (ex : Int32) (st : Int64) (o0 : Nat) (of : Nat → Int64) (hOU : OU ≤ 2) (hst : ¬ st < 0) : xt_Met l y_Law_run (cth y_Law_run b_Law_run 6 (some .int) [(0, 11, 14, 21)]) ({ frames := 7, cells := 0, slots := 0, locals := 156 }) (va_Pc [.ref m0, .int ex, .long st, .ref o0] (fun U => U.heap.size = sz0 ∧ va_P (dC, dI) classes [(m0, .inr (7, [.int ((nI N)), .int ((nI OU)), .ref b0, .ref t0, .ref f0, .ref g0, .ref k0, .ref v0, .ref d0, .int 0, .int 0])), (g0, .inr (0, [.int ((nI OU)), .ref g1, .ref g2, .ref g3, .ref g4, .ref g5, .int 0, .int 0, .long ((0 : Int64)), .long ((0 : Int64))])), (g1, .inl (cI, 81, .inl ((fun _ => 0)))), (g2, .inl (cI, 81, .inl ((fun _ => 0)))), (g3, .inl (cJ, 81, .inr (.inl ((fun _ => 0))))), (g4, .inl (cJ, 32, .inr (.inl ((fun _ => 0))))), (g5, .inl (cI, 32, .inl ((fun _ => 0)))), (t0, .inr (6, [.ref a0, .ref t1, .ref t2, .int 0])), (t1, .inl (cI, 81, .inl tp)), (t2, .inl (cI, 81, .inl to)), (k0, .inr (6, [.ref a0, .ref k1, .ref k2, .int 0])), (k1, .inl (cI, 81, .inl kp)), (k2, .inl (cI, 81, .inl ko)), (b0, .inr (1, [.ref a0, .int ((nI OU)), .ref b1, .ref b2, .int 0])), (b1, .inl (cI, 24, .inl prod)), (b2, .inl (cI, 48, .inl kind)), (a0, .inr (5, [.int ((nI N)), .int sz, .ref a1, .ref a2, .ref a3])), (a1, .inl (cI, 81, .inl care)), (a2, .inl (cI, 81, .inl bits)), (a3, .inl (cI, 81, .inl had)), (v0, .inr (3, [.ref a0, .ref v1, .ref v2, .ref v3, .int 0, .long lo, .long hi, .int on, .int ze])), (v1, .inl (cJ, 81, .inr (.inl kl))), (v2, .inl (cJ, 81, .inr (.inl kh))), (v3, .inl (cI, 81, .inl row)), (o0, .inl (cJ, 1, .inr (.inl of)))] U.heap ∧ va_K (dC, dI) classes [(cI, .int), (cJ, .long)] U ∧ va_D (fun _ => True) [(m0, .inr (7, [.int ((nI N)), .int ((nI OU)), .ref b0, .ref t0, .ref f0, .ref g0, .ref k0, .ref v0, .ref d0, .int 0, .int 0])), (g0, .inr (0, [.int ((nI OU)), .ref g1, .ref g2, .ref g3, .ref g4, .ref g5, .int 0, .int 0, .long ((0 : Int64)), .long ((0 : Int64))])), (g1, .inl (cI, 81, .inl ((fun _ => 0)))), (g2, .inl (cI, 81, .inl ((fun _ => 0)))), (g3, .inl (cJ, 81, .inr (.inl ((fun _ => 0))))), (g4, .inl (cJ, 32, .inr (.inl ((fun _ => 0))))), (g5, .inl (cI, 32, .inl ((fun _ => 0)))), (t0, .inr (6, [.ref a0, .ref t1, .ref t2, .int 0])), (t1, .inl (cI, 81, .inl tp)), (t2, .inl (cI, 81, .inl to)), (k0, .inr (6, [.ref a0, .ref k1, .ref k2, .int 0])), (k1, .inl (cI, 81, .inl kp)), (k2, .inl (cI, 81, .inl ko)), (b0, .inr (1, [.ref a0, .int ((nI OU)), .ref b1, .ref b2, .int 0])), (b1, .inl (cI, 24, .inl prod)), (b2, .inl (cI, 48, .inl kind)), (a0, .inr (5, [.int ((nI N)), .int sz, .ref a1, .ref a2, .ref a3])), (a1, .inl (cI, 81, .inl care)), (a2, .inl (cI, 81, .inl bits)), (a3, .inl (cI, 81, .inl had)), (v0, .inr (3, [.ref a0, .ref v1, .ref v2, .ref v3, .int 0, .long lo, .long hi, .int on, .int ze])), (v1, .inl (cJ, 81, .inr (.inl kl))), (v2, .inl (cJ, 81, .inr (.inl kh))), (v3, .inl (cI, 81, .inl row)), (o0, .inl (cJ, 1, .inr (.inl of)))] ∧ gl (va_A [(m0, .inr (7, [.int ((nI N)), .int ((nI OU)), .ref b0, .ref t0, .ref f0, .ref g0, .ref k0, .ref v0, .ref d0, .int 0, .int 0])), (g0, .inr (0, [.int ((nI OU)), .ref g1, .ref g2, .ref g3, .ref g4, .ref g5, .int 0, .int 0, .long ((0 : Int64)), .long ((0 : Int64))])), (g1, .inl (cI, 81, .inl ((fun _ => 0)))), (g2, .inl (cI, 81, .inl ((fun _ => 0)))), (g3, .inl (cJ, 81, .inr (.inl ((fun _ => 0))))), (g4, .inl (cJ, 32, .inr (.inl ((fun _ => 0))))), (g5, .inl (cI, 32, .inl ((fun _ => 0)))), (t0, .inr (6, [.ref a0, .ref t1, .ref t2, .int 0])), (t1, .inl (cI, 81, .inl tp)), (t2, .inl (cI, 81, .inl to)), (k0, .inr (6, [.ref a0, .ref k1, .ref k2, .int 0])), (k1, .inl (cI, 81, .inl kp)), (k2, .inl (cI, 81, .inl ko)), (b0, .inr (1, [.ref a0, .int ((nI OU)), .ref b1, .ref b2, .int 0])), (b1, .inl (cI, 24, .inl prod)), (b2, .inl (cI, 48, .inl kind)), (a0, .inr (5, [.int ((nI N)), .int sz, .ref a1, .ref a2, .ref a3])), (a1, .inl (cI, 81, .inl care)), (a2, .inl (cI, 81, .inl bits)), (a3, .inl (cI, 81, .inl had)), (v0, .inr (3, [.ref a0, .ref v1, .ref v2, .ref v3, .int 0, .long lo, .long hi, .int on, .int ze])), (v1, .inl (cJ, 81, .inr (.inl kl))), (v2, .inl (cJ, 81, .inr (.inl kh))), (v3, .inl (cI, 81, .inl row)), (o0, .inl (cJ, 1, .inr (.inl of)))] sz0) U U.heap)) (va_Qi (fun (r : Int32) (_ : Unit) => r = 0) (fun _ => at_w dC dI cI cJ (va_A [(m0, .inr (7, [.int ((nI N)), .int ((nI OU)), .ref b0, .ref t0, .ref f0, .ref g0, .ref k0, .ref v0, .ref d0, .int 0, .int 0])), (g0, .inr (0, [.int ((nI OU)), .ref g1, .ref g2, .ref g3, .ref g4, .ref g5, .int 0, .int 0, .long ((0 : Int64)), .long ((0 : Int64))])), (g1, .inl (cI, 81, .inl ((fun _ => 0)))), (g2, .inl (cI, 81, .inl ((fun _ => 0)))), (g3, .inl (cJ, 81, .inr (.inl ((fun _ => 0))))), (g4, .inl (cJ, 32, .inr (.inl ((fun _ => 0))))), (g5, .inl (cI, 32, .inl ((fun _ => 0)))), (t0, .inr (6, [.ref a0, .ref t1, .ref t2, .int 0])), (t1, .inl (cI, 81, .inl tp)), (t2, .inl (cI, 81, .inl to)), (k0, .inr (6, [.ref a0, .ref k1, .ref k2, .int 0])), (k1, .inl (cI, 81, .inl kp)), (k2, .inl (cI, 81, .inl ko)), (b0, .inr (1, [.ref a0, .int ((nI OU)), .ref b1, .ref b2, .int 0])), (b1, .inl (cI, 24, .inl prod)), (b2, .inl (cI, 48, .inl kind)), (a0, .inr (5, [.int ((nI N)), .int sz, .ref a1, .ref a2, .ref a3])), (a1, .inl (cI, 81, .inl care)), (a2, .inl (cI, 81, .inl bits)), (a3, .inl (cI, 81, .inl had)), (v0, .inr (3, [.ref a0, .ref v1, .ref v2, .ref v3, .int 0, .long lo, .long hi, .int on, .int ze])), (v1, .inl (cJ, 81, .inr (.inl kl))), (v2, .inl (cJ, 81, .inr (.inl kh))), (v3, .inl (cI, 81, .inl row)), (o0, .inl (cJ, 1, .inr (.inl of)))] sz0) [(o0, .inl (cJ, 1, .inr (.inl ((vp_updL of 0 0)))))]) (va_A [(m0, .inr (7, [.int ((nI N)), .int ((nI OU)), .ref b0, .ref t0, .ref f0, .ref g0, .ref k0, .ref v0, .ref d0, .int 0, .int 0])), (g0, .inr (0, [.int ((nI OU)), .ref g1, .ref g2, .ref g3, .ref g4, .ref g5, .int 0, .int 0, .long ((0 : Int64)), .long ((0 : Int64))])), (g1, .inl (cI, 81, .inl ((fun _ => 0)))), (g2, .inl (cI, 81, .inl ((fun _ => 0)))), (g3, .inl (cJ, 81, .inr (.inl ((fun _ => 0))))), (g4, .inl (cJ, 32, .inr (.inl ((fun _ => 0))))), (g5, .inl (cI, 32, .inl ((fun _ => 0)))), (t0, .inr (6, [.ref a0, .ref t1, .ref t2, .int 0])), (t1, .inl (cI, 81, .inl tp)), (t2, .inl (cI, 81, .inl to)), (k0, .inr (6, [.ref a0, .ref k1, .ref k2, .int 0])), (k1, .inl (cI, 81, .inl kp)), (k2, .inl (cI, 81, .inl ko)), (b0, .inr (1, [.ref a0, .int ((nI OU)), .ref b1, .ref b2, .int 0])), (b1, .inl (cI, 24, .inl prod)), (b2, .inl (cI, 48, .inl kind)), (a0, .inr (5, [.int ((nI N)), .int sz, .ref a1, .ref a2, .ref a3])), (a1, .inl (cI, 81, .inl care)), (a2, .inl (cI, 81, .inl bits)), (a3, .inl (cI, 81, .inl had)), (v0, .inr (3, [.ref a0, .ref v1, .ref v2, .ref v3, .int 0, .long lo, .long hi, .int on, .int ze])), (v1, .inl (cJ, 81, .inr (.inl kl))), (v2, .inl (cJ, 81, .inr (.inl kh))), (v3, .inl (cI, 81, .inl row)), (o0, .inl (cJ, 1, .inr (.inl of)))] sz0)) 0 0 (va_A [(m0, .inr (7, [.int ((nI N)), .int ((nI OU)), .ref b0, .ref t0, .ref f0, .ref g0, .ref k0, .ref v0, .ref d0, .int 0, .int 0])), (g0, .inr (0, [.int ((nI OU)), .ref g1, .ref g2, .ref g3, .ref g4, .ref g5, .int 0, .int 0, .long ((0 : Int64)), .long ((0 : Int64))])), (g1, .inl (cI, 81, .inl ((fun _ => 0)))), (g2, .inl (cI, 81, .inl ((fun _ => 0)))), (g3, .inl (cJ, 81, .inr (.inl ((fun _ => 0))))), (g4, .inl (cJ, 32, .inr (.inl ((fun _ => 0))))), (g5, .inl (cI, 32, .inl ((fun _ => 0)))), (t0, .inr (6, [.ref a0, .ref t1, .ref t2, .int 0])), (t1, .inl (cI, 81, .inl tp)), (t2, .inl (cI, 81, .inl to)), (k0, .inr (6, [.ref a0, .ref k1, .ref k2, .int 0])), (k1, .inl (cI, 81, .inl kp)), (k2, .inl (cI, 81, .inl ko)), (b0, .inr (1, [.ref a0, .int ((nI OU)), .ref b1, .ref b2, .int 0])), (b1, .inl (cI, 24, .inl prod)), (b2, .inl (cI, 48, .inl kind)), (a0, .inr (5, [.int ((nI N)), .int sz, .ref a1, .ref a2, .ref a3])), (a1, .inl (cI, 81, .inl care)), (a2, .inl (cI, 81, .inl bits)), (a3, .inl (cI, 81, .inl had)), (v0, .inr (3, [.ref a0, .ref v1, .ref v2, .ref v3, .int 0, .long lo, .long hi, .int on, .int ze])), (v1, .inl (cJ, 81, .inr (.inl kl))), (v2, .inl (cJ, 81, .inr (.inl kh))), (v3, .inl (cI, 81, .inl row)), (o0, .inl (cJ, 1, .inr (.inl of)))] sz0) := by
  refine xh_ofW (cc := b_Law_run) (maxL := 6) (ret := some .int) (hs := [(0, 11, 14, 21)]) (by decide) rfl ?_
  intro p e s m args below meth c s₁ B hml htb hv
  obtain ⟨rfl, hsz, hP, hK, hD0, hG⟩ := hv
  have hx := B.exec
  have hb := B.bytes
  have hr := B.returns
  have hts : ∀ w ∈ lwg, w.before _ s = true := fun w h => atoms_spec (ws := cth y_Law_run b_Law_run 6 (some .int) [(0, 11, 14, 21)]) B.pre w (List.mem_cons_of_mem _ h)
  have hown : s.vm.findClass R_Law = some m.cls := findClass_of_methodNamed B.named
  have hlocks := B.notSynchronized
  subst hsz
  have hD := hD0.self (sz := s.heap.size)
  generalize hAe : va_A [(m0, .inr (7, [.int ((nI N)), .int ((nI OU)), .ref b0, .ref t0, .ref f0, .ref g0, .ref k0, .ref v0, .ref d0, .int 0, .int 0])), (g0, .inr (0, [.int ((nI OU)), .ref g1, .ref g2, .ref g3, .ref g4, .ref g5, .int 0, .int 0, .long ((0 : Int64)), .long ((0 : Int64))])), (g1, .inl (cI, 81, .inl ((fun _ => 0)))), (g2, .inl (cI, 81, .inl ((fun _ => 0)))), (g3, .inl (cJ, 81, .inr (.inl ((fun _ => 0))))), (g4, .inl (cJ, 32, .inr (.inl ((fun _ => 0))))), (g5, .inl (cI, 32, .inl ((fun _ => 0)))), (t0, .inr (6, [.ref a0, .ref t1, .ref t2, .int 0])), (t1, .inl (cI, 81, .inl tp)), (t2, .inl (cI, 81, .inl to)), (k0, .inr (6, [.ref a0, .ref k1, .ref k2, .int 0])), (k1, .inl (cI, 81, .inl kp)), (k2, .inl (cI, 81, .inl ko)), (b0, .inr (1, [.ref a0, .int ((nI OU)), .ref b1, .ref b2, .int 0])), (b1, .inl (cI, 24, .inl prod)), (b2, .inl (cI, 48, .inl kind)), (a0, .inr (5, [.int ((nI N)), .int sz, .ref a1, .ref a2, .ref a3])), (a1, .inl (cI, 81, .inl care)), (a2, .inl (cI, 81, .inl bits)), (a3, .inl (cI, 81, .inl had)), (v0, .inr (3, [.ref a0, .ref v1, .ref v2, .ref v3, .int 0, .long lo, .long hi, .int on, .int ze])), (v1, .inl (cJ, 81, .inr (.inl kl))), (v2, .inl (cJ, 81, .inr (.inl kh))), (v3, .inl (cI, 81, .inl row)), (o0, .inl (cJ, 1, .inr (.inl of)))] s.heap.size = A at hD hG ⊢
  have hA : ∀ q : Nat, s.heap.size ≤ q → A q := fun q h => by rw [← hAe]; exact Or.inr h
  have hS : va_S A s.heap s.heap [] := va_S.rf
  have hl := lv_entry ([.ref m0, .int ex, .long st, .ref o0]) (n := 6) (Nat.le_of_ble_eq_true rfl)
  rw [lg_entry_eq]
  generalize (lg_sl ([.ref m0, .int ex, .long st, .ref o0]) ++ List.replicate (6 - (lg_sl ([.ref m0, .int ex, .long st, .ref o0])).length) Slot.unset).toArray = ls at hl ⊢
  have hl : lv_has ls 6 [(0, .ref m0), (1, .int ex), (2, .long st), (4, .ref o0)] := hl
  have hP : va_P (dC, dI) classes [(m0, .inr (7, [.int ((nI N)), .int ((nI OU)), .ref b0, .ref t0, .ref f0, .ref g0, .ref k0, .ref v0, .ref d0, .int 0, .int 0])), (g0, .inr (0, [.int ((nI OU)), .ref g1, .ref g2, .ref g3, .ref g4, .ref g5, .int 0, .int 0, .long ((0 : Int64)), .long ((0 : Int64))])), (g1, .inl (cI, 81, .inl ((fun _ => 0)))), (g2, .inl (cI, 81, .inl ((fun _ => 0)))), (g3, .inl (cJ, 81, .inr (.inl ((fun _ => 0))))), (g4, .inl (cJ, 32, .inr (.inl ((fun _ => 0))))), (g5, .inl (cI, 32, .inl ((fun _ => 0)))), (t0, .inr (6, [.ref a0, .ref t1, .ref t2, .int 0])), (t1, .inl (cI, 81, .inl tp)), (t2, .inl (cI, 81, .inl to)), (k0, .inr (6, [.ref a0, .ref k1, .ref k2, .int 0])), (k1, .inl (cI, 81, .inl kp)), (k2, .inl (cI, 81, .inl ko)), (b0, .inr (1, [.ref a0, .int ((nI OU)), .ref b1, .ref b2, .int 0])), (b1, .inl (cI, 24, .inl prod)), (b2, .inl (cI, 48, .inl kind)), (a0, .inr (5, [.int ((nI N)), .int sz, .ref a1, .ref a2, .ref a3])), (a1, .inl (cI, 81, .inl care)), (a2, .inl (cI, 81, .inl bits)), (a3, .inl (cI, 81, .inl had)), (v0, .inr (3, [.ref a0, .ref v1, .ref v2, .ref v3, .int 0, .long lo, .long hi, .int on, .int ze])), (v1, .inl (cJ, 81, .inr (.inl kl))), (v2, .inl (cJ, 81, .inr (.inl kh))), (v3, .inl (cI, 81, .inl row)), (o0, .inl (cJ, 1, .inr (.inl of)))] s.heap := hP
  obtain ⟨⟨tF, hZF, hTF⟩, hGr⟩ := id hG
  refine lv_aload hx hb d_Law_run_0 (lv_at hl 3 rfl) ?_
  refine lv_iconst (v := 0) hx hb d_Law_run_2 (by decide) ?_
  refine lv_aload_n hx hb d_Law_run_3 rfl (lv_at hl 0 rfl) ?_
  refine lv_iload_n hx hb d_Law_run_4 rfl (lv_at hl 1 rfl) ?_
  refine lv_lload_n hx hb d_Law_run_5 rfl (lv_at hl 2 rfl) ?_
  have hPc := hP.sub (ws' := [(m0, .inr (7, [.int ((nI N)), .int ((nI OU)), .ref b0, .ref t0, .ref f0, .ref g0, .ref k0, .ref v0, .ref d0, .int 0, .int 0])), (g0, .inr (0, [.int ((nI OU)), .ref g1, .ref g2, .ref g3, .ref g4, .ref g5, .int 0, .int 0, .long ((0 : Int64)), .long ((0 : Int64))])), (g1, .inl (cI, 81, .inl ((fun _ => 0)))), (g2, .inl (cI, 81, .inl ((fun _ => 0)))), (g3, .inl (cJ, 81, .inr (.inl ((fun _ => 0))))), (g4, .inl (cJ, 32, .inr (.inl ((fun _ => 0))))), (g5, .inl (cI, 32, .inl ((fun _ => 0)))), (t0, .inr (6, [.ref a0, .ref t1, .ref t2, .int 0])), (t1, .inl (cI, 81, .inl tp)), (t2, .inl (cI, 81, .inl to)), (k0, .inr (6, [.ref a0, .ref k1, .ref k2, .int 0])), (k1, .inl (cI, 81, .inl kp)), (k2, .inl (cI, 81, .inl ko)), (b0, .inr (1, [.ref a0, .int ((nI OU)), .ref b1, .ref b2, .int 0])), (b1, .inl (cI, 24, .inl prod)), (b2, .inl (cI, 48, .inl kind)), (a0, .inr (5, [.int ((nI N)), .int sz, .ref a1, .ref a2, .ref a3])), (a1, .inl (cI, 81, .inl care)), (a2, .inl (cI, 81, .inl bits)), (a3, .inl (cI, 81, .inl had)), (v0, .inr (3, [.ref a0, .ref v1, .ref v2, .ref v3, .int 0, .long lo, .long hi, .int on, .int ze])), (v1, .inl (cJ, 81, .inr (.inl kl))), (v2, .inl (cJ, 81, .inr (.inl kh))), (v3, .inl (cI, 81, .inl row))]) [0, 1, 2, 3, 4, 5, 6, 7, 8, 9, 10, 11, 12, 13, 14, 15, 16, 17, 18, 19, 20, 21, 22, 23] rfl
  have hDc := hD.sub (ws' := [(m0, .inr (7, [.int ((nI N)), .int ((nI OU)), .ref b0, .ref t0, .ref f0, .ref g0, .ref k0, .ref v0, .ref d0, .int 0, .int 0])), (g0, .inr (0, [.int ((nI OU)), .ref g1, .ref g2, .ref g3, .ref g4, .ref g5, .int 0, .int 0, .long ((0 : Int64)), .long ((0 : Int64))])), (g1, .inl (cI, 81, .inl ((fun _ => 0)))), (g2, .inl (cI, 81, .inl ((fun _ => 0)))), (g3, .inl (cJ, 81, .inr (.inl ((fun _ => 0))))), (g4, .inl (cJ, 32, .inr (.inl ((fun _ => 0))))), (g5, .inl (cI, 32, .inl ((fun _ => 0)))), (t0, .inr (6, [.ref a0, .ref t1, .ref t2, .int 0])), (t1, .inl (cI, 81, .inl tp)), (t2, .inl (cI, 81, .inl to)), (k0, .inr (6, [.ref a0, .ref k1, .ref k2, .int 0])), (k1, .inl (cI, 81, .inl kp)), (k2, .inl (cI, 81, .inl ko)), (b0, .inr (1, [.ref a0, .int ((nI OU)), .ref b1, .ref b2, .int 0])), (b1, .inl (cI, 24, .inl prod)), (b2, .inl (cI, 48, .inl kind)), (a0, .inr (5, [.int ((nI N)), .int sz, .ref a1, .ref a2, .ref a3])), (a1, .inl (cI, 81, .inl care)), (a2, .inl (cI, 81, .inl bits)), (a3, .inl (cI, 81, .inl had)), (v0, .inr (3, [.ref a0, .ref v1, .ref v2, .ref v3, .int 0, .long lo, .long hi, .int on, .int ze])), (v1, .inl (cJ, 81, .inr (.inl kl))), (v2, .inl (cJ, 81, .inr (.inl kh))), (v3, .inl (cI, 81, .inl row))]) [0, 1, 2, 3, 4, 5, 6, 7, 8, 9, 10, 11, 12, 13, 14, 15, 16, 17, 18, 19, 20, 21, 22, 23] (by decide) rfl
  have hFc := va_free (wc := [(m0, .inr (7, [.int ((nI N)), .int ((nI OU)), .ref b0, .ref t0, .ref f0, .ref g0, .ref k0, .ref v0, .ref d0, .int 0, .int 0])), (g0, .inr (0, [.int ((nI OU)), .ref g1, .ref g2, .ref g3, .ref g4, .ref g5, .int 0, .int 0, .long ((0 : Int64)), .long ((0 : Int64))])), (g1, .inl (cI, 81, .inl ((fun _ => 0)))), (g2, .inl (cI, 81, .inl ((fun _ => 0)))), (g3, .inl (cJ, 81, .inr (.inl ((fun _ => 0))))), (g4, .inl (cJ, 32, .inr (.inl ((fun _ => 0))))), (g5, .inl (cI, 32, .inl ((fun _ => 0)))), (t0, .inr (6, [.ref a0, .ref t1, .ref t2, .int 0])), (t1, .inl (cI, 81, .inl tp)), (t2, .inl (cI, 81, .inl to)), (k0, .inr (6, [.ref a0, .ref k1, .ref k2, .int 0])), (k1, .inl (cI, 81, .inl kp)), (k2, .inl (cI, 81, .inl ko)), (b0, .inr (1, [.ref a0, .int ((nI OU)), .ref b1, .ref b2, .int 0])), (b1, .inl (cI, 24, .inl prod)), (b2, .inl (cI, 48, .inl kind)), (a0, .inr (5, [.int ((nI N)), .int sz, .ref a1, .ref a2, .ref a3])), (a1, .inl (cI, 81, .inl care)), (a2, .inl (cI, 81, .inl bits)), (a3, .inl (cI, 81, .inl had)), (v0, .inr (3, [.ref a0, .ref v1, .ref v2, .ref v3, .int 0, .long lo, .long hi, .int on, .int ze])), (v1, .inl (cJ, 81, .inr (.inl kl))), (v2, .inl (cJ, 81, .inr (.inl kh))), (v3, .inl (cI, 81, .inl row))]) hD hS hA [0, 1, 2, 3, 4, 5, 6, 7, 8, 9, 10, 11, 12, 13, 14, 15, 16, 17, 18, 19, 20, 21, 22, 23] rfl
  refine va_calli (va_runV (As := [.int ex, .long st]) (rest := [.int 0, .ref o0]) ⟨hx, hb, hml, hown, hts⟩ (c1_Main_run l dC dI cI cJ _ m0 N OU b0 t0 f0 g0 k0 v0 d0 g1 g2 g3 g4 g5 t1 t2 tp to k1 k2 kp ko b1 b2 prod kind a0 a1 a2 a3 sz care bits had v1 v2 v3 lo hi on ze kl kh row ex st hOU hst) (cwV 2 hts (ct_goodV mw_ml_Law_30 mw_im_Main_run mw_se_Main_run mw_ini_Main mw_code_Main_run) rfl rfl rfl (by decide +kernel) ⟨Nat.le_of_ble_eq_true rfl, Nat.le_of_ble_eq_true rfl⟩) ⟨fun a U g mk q => by obtain ⟨q0, q1, qP, qK, qD⟩ := q; exact ⟨q0, q1, qP, va_K.moved (u := U) (U := U.calling g mk a) (Vm.Alike.refl U.vm) qK, qD⟩, va_recv hK hPc (ci := 7) (q0 := 0) rfl rfl, fun U hU hW => ⟨rfl, by rw [hU], by rw [hU]; exact hPc, va_K.moved hW.alike hK, hDc.weaken (fun _ _ _ _ => trivial)⟩⟩ rfl rfl hl.1 rfl (lv_room (Nat.le_of_ble_eq_true rfl)) d_Law_run_6 ⟨Nat.le_of_ble_eq_true rfl, Nat.le_of_ble_eq_true rfl⟩) hS (fun q _ h => hFc q h) hFc (fun r_1 u t H1 locs ht hvm hw hB hz1 hk1 hS => ?_)
  obtain ⟨hP1, hK1, hD1⟩ := hB
  rw [ht] at hP1
  obtain ⟨hP, hD⟩ := va_join (wr := [(o0, .inl (cJ, 1, .inr (.inl of)))]) (w1 := []) hP hD [0, 1, 2, 3, 4, 5, 6, 7, 8, 9, 10, 11, 12, 13, 14, 15, 16, 17, 18, 19, 20, 21, 22, 23] [24] rfl rfl (by decide) (by decide) hk1 hFc hP1 hD1
  clear hPc hDc hFc hP1 hK1 hD1 hk1 hz1 hvm ht
  generalize H1 = H at hP hS ⊢
  have hP : va_P (dC, dI) classes [(o0, .inl (cJ, 1, .inr (.inl of)))] H := hP
  have hD : va_D A [(o0, .inl (cJ, 1, .inr (.inl of)))] := hD
  rw [hw]
  clear hw
  refine lv_i2l hx hb d_Law_run_9 rfl ?_
  refine w_tl (show _ = 0 from by decide) ?_
  refine va_last hx hb hK hP hD hS 0 1 rfl rfl (vp_in_nI (n := 0) (N := 1) (by omega) (by omega)) d_Law_run_10 (fun H locs hP hD hS => ?_)
  have hP : va_P (dC, dI) classes [(o0, .inl (cJ, 1, .inr (.inl ((vp_updL of (0 : Int32).toNatClampNeg ((0)))))))] H := hP
  have hD : va_D A [(o0, .inl (cJ, 1, .inr (.inl ((vp_updL of (0 : Int32).toNatClampNeg ((0)))))))] := hD
  rw [show vp_updL of (0 : Int32).toNatClampNeg ((0)) = vp_updL of 0 0 from rfl] at hP hD
  have hP : va_P (dC, dI) classes [(o0, .inl (cJ, 1, .inr (.inl ((vp_updL of 0 0)))))] H := hP
  have hD : va_D A [(o0, .inl (cJ, 1, .inr (.inl ((vp_updL of 0 0)))))] := hD
  refine lv_goto (tgt := 18) hx hb d_Law_run_11 (by decide) ?_
  refine lv_iconst (v := 0) hx hb d_Law_run_18 (by decide) ?_
  refine xt_imp (fun t h => xt_ofMQ t h) ?_
  have hP9 := hP.sub (ws' := [(o0, .inl (cJ, 1, .inr (.inl ((vp_updL of 0 0)))))]) [0] rfl
  have hD9 := hD.sub (ws' := [(o0, .inl (cJ, 1, .inr (.inl ((vp_updL of 0 0)))))]) [0] (by decide) rfl
  exact W.iret (v := 0) hx hb hr (fun t ht hW => ⟨⟨0, (), rfl, rfl, by rw [ht]; exact hP9, va_K.moved hW.alike hK, hD9⟩, hS.F ht⟩) hS.2.2 d_Law_run_19
set_option maxHeartbeats 1000000 in
set_option maxRecDepth 100000 in
theorem c1_Law_diagram (l : Launch) (hfl : l.flags = flags0) (dC : Nat → ClassId) (dI : Nat → Nat → Nat) (cI cJ : ClassId) (sz0 : Nat) (m0 : Nat) (N : Nat) (OU : Nat) (b0 : Nat) (t0 : Nat) (f0 : Nat) (g0 : Nat) (k0 : Nat) (v0 : Nat) (d0 : Nat) (d1 : Nat) (d2 : Nat) (d3 : Nat) (asked : Nat → Int32) (seen : Nat → Int32) (b1 : Nat) (b2 : Nat) (prod : Nat → Int32) (kind : Nat → Int32) (a0 : Nat) (a1 : Nat) (a2 : Nat) (a3 : Nat) (sz : Int32) (care : Nat → Int32) (bits : Nat → Int32) (had : Nat → Int32) (x : Int32) (o0 : Nat) (of : Nat → Int64) (hN : N ≤ 4) (hOU : OU ≤ 2) (h0 : ¬ x < 0) (h1 : ¬ fac N ≤ x) : xt_Met l y_Law_diagram (cth y_Law_diagram b_Law_diagram 4 (some .int) [(0, 9, 12, 21)]) ({ frames := 7, cells := 0, slots := 0, locals := 111 }) (va_Pc [.ref m0, .int x, .ref o0] (fun U => U.heap.size = sz0 ∧ va_P (dC, dI) classes [(m0, .inr (7, [.int ((nI N)), .int ((nI OU)), .ref b0, .ref t0, .ref f0, .ref g0, .ref k0, .ref v0, .ref d0, .int 0, .int 0])), (d0, .inr (2, [.int ((nI N)), .int ((nI OU)), .ref d1, .ref d2, .ref d3])), (d1, .inl (cI, 4, .inl asked)), (d2, .inl (cI, 2, .inl ((fun _ => 0)))), (d3, .inl (cI, 16, .inl seen)), (b0, .inr (1, [.ref a0, .int ((nI OU)), .ref b1, .ref b2, .int 0])), (b1, .inl (cI, 24, .inl prod)), (b2, .inl (cI, 48, .inl kind)), (a0, .inr (5, [.int ((nI N)), .int sz, .ref a1, .ref a2, .ref a3])), (a1, .inl (cI, 81, .inl care)), (a2, .inl (cI, 81, .inl bits)), (a3, .inl (cI, 81, .inl had)), (o0, .inl (cJ, 1, .inr (.inl of)))] U.heap ∧ va_K (dC, dI) classes [(cI, .int), (cJ, .long)] U ∧ va_D (fun _ => True) [(m0, .inr (7, [.int ((nI N)), .int ((nI OU)), .ref b0, .ref t0, .ref f0, .ref g0, .ref k0, .ref v0, .ref d0, .int 0, .int 0])), (d0, .inr (2, [.int ((nI N)), .int ((nI OU)), .ref d1, .ref d2, .ref d3])), (d1, .inl (cI, 4, .inl asked)), (d2, .inl (cI, 2, .inl ((fun _ => 0)))), (d3, .inl (cI, 16, .inl seen)), (b0, .inr (1, [.ref a0, .int ((nI OU)), .ref b1, .ref b2, .int 0])), (b1, .inl (cI, 24, .inl prod)), (b2, .inl (cI, 48, .inl kind)), (a0, .inr (5, [.int ((nI N)), .int sz, .ref a1, .ref a2, .ref a3])), (a1, .inl (cI, 81, .inl care)), (a2, .inl (cI, 81, .inl bits)), (a3, .inl (cI, 81, .inl had)), (o0, .inl (cJ, 1, .inr (.inl of)))] ∧ gl (va_A [(m0, .inr (7, [.int ((nI N)), .int ((nI OU)), .ref b0, .ref t0, .ref f0, .ref g0, .ref k0, .ref v0, .ref d0, .int 0, .int 0])), (d0, .inr (2, [.int ((nI N)), .int ((nI OU)), .ref d1, .ref d2, .ref d3])), (d1, .inl (cI, 4, .inl asked)), (d2, .inl (cI, 2, .inl ((fun _ => 0)))), (d3, .inl (cI, 16, .inl seen)), (b0, .inr (1, [.ref a0, .int ((nI OU)), .ref b1, .ref b2, .int 0])), (b1, .inl (cI, 24, .inl prod)), (b2, .inl (cI, 48, .inl kind)), (a0, .inr (5, [.int ((nI N)), .int sz, .ref a1, .ref a2, .ref a3])), (a1, .inl (cI, 81, .inl care)), (a2, .inl (cI, 81, .inl bits)), (a3, .inl (cI, 81, .inl had)), (o0, .inl (cJ, 1, .inr (.inl of)))] sz0) U U.heap)) (va_Qi (fun (r : Int32) (_ : Unit) => r = 0) (fun _ => at_w dC dI cI cJ (va_A [(m0, .inr (7, [.int ((nI N)), .int ((nI OU)), .ref b0, .ref t0, .ref f0, .ref g0, .ref k0, .ref v0, .ref d0, .int 0, .int 0])), (d0, .inr (2, [.int ((nI N)), .int ((nI OU)), .ref d1, .ref d2, .ref d3])), (d1, .inl (cI, 4, .inl asked)), (d2, .inl (cI, 2, .inl ((fun _ => 0)))), (d3, .inl (cI, 16, .inl seen)), (b0, .inr (1, [.ref a0, .int ((nI OU)), .ref b1, .ref b2, .int 0])), (b1, .inl (cI, 24, .inl prod)), (b2, .inl (cI, 48, .inl kind)), (a0, .inr (5, [.int ((nI N)), .int sz, .ref a1, .ref a2, .ref a3])), (a1, .inl (cI, 81, .inl care)), (a2, .inl (cI, 81, .inl bits)), (a3, .inl (cI, 81, .inl had)), (o0, .inl (cJ, 1, .inr (.inl of)))] sz0) [(o0, .inl (cJ, 1, .inr (.inl ((vp_updL of 0 0)))))]) (va_A [(m0, .inr (7, [.int ((nI N)), .int ((nI OU)), .ref b0, .ref t0, .ref f0, .ref g0, .ref k0, .ref v0, .ref d0, .int 0, .int 0])), (d0, .inr (2, [.int ((nI N)), .int ((nI OU)), .ref d1, .ref d2, .ref d3])), (d1, .inl (cI, 4, .inl asked)), (d2, .inl (cI, 2, .inl ((fun _ => 0)))), (d3, .inl (cI, 16, .inl seen)), (b0, .inr (1, [.ref a0, .int ((nI OU)), .ref b1, .ref b2, .int 0])), (b1, .inl (cI, 24, .inl prod)), (b2, .inl (cI, 48, .inl kind)), (a0, .inr (5, [.int ((nI N)), .int sz, .ref a1, .ref a2, .ref a3])), (a1, .inl (cI, 81, .inl care)), (a2, .inl (cI, 81, .inl bits)), (a3, .inl (cI, 81, .inl had)), (o0, .inl (cJ, 1, .inr (.inl of)))] sz0)) 0 0 (va_A [(m0, .inr (7, [.int ((nI N)), .int ((nI OU)), .ref b0, .ref t0, .ref f0, .ref g0, .ref k0, .ref v0, .ref d0, .int 0, .int 0])), (d0, .inr (2, [.int ((nI N)), .int ((nI OU)), .ref d1, .ref d2, .ref d3])), (d1, .inl (cI, 4, .inl asked)), (d2, .inl (cI, 2, .inl ((fun _ => 0)))), (d3, .inl (cI, 16, .inl seen)), (b0, .inr (1, [.ref a0, .int ((nI OU)), .ref b1, .ref b2, .int 0])), (b1, .inl (cI, 24, .inl prod)), (b2, .inl (cI, 48, .inl kind)), (a0, .inr (5, [.int ((nI N)), .int sz, .ref a1, .ref a2, .ref a3])), (a1, .inl (cI, 81, .inl care)), (a2, .inl (cI, 81, .inl bits)), (a3, .inl (cI, 81, .inl had)), (o0, .inl (cJ, 1, .inr (.inl of)))] sz0) := by
  refine xh_ofW (cc := b_Law_diagram) (maxL := 4) (ret := some .int) (hs := [(0, 9, 12, 21)]) (by decide) rfl ?_
  intro p e s m args below meth c s₁ B hml htb hv
  obtain ⟨rfl, hsz, hP, hK, hD0, hG⟩ := hv
  have hx := B.exec
  have hb := B.bytes
  have hr := B.returns
  have hts : ∀ w ∈ lwg, w.before _ s = true := fun w h => atoms_spec (ws := cth y_Law_diagram b_Law_diagram 4 (some .int) [(0, 9, 12, 21)]) B.pre w (List.mem_cons_of_mem _ h)
  have hown : s.vm.findClass R_Law = some m.cls := findClass_of_methodNamed B.named
  have hlocks := B.notSynchronized
  subst hsz
  have hD := hD0.self (sz := s.heap.size)
  generalize hAe : va_A [(m0, .inr (7, [.int ((nI N)), .int ((nI OU)), .ref b0, .ref t0, .ref f0, .ref g0, .ref k0, .ref v0, .ref d0, .int 0, .int 0])), (d0, .inr (2, [.int ((nI N)), .int ((nI OU)), .ref d1, .ref d2, .ref d3])), (d1, .inl (cI, 4, .inl asked)), (d2, .inl (cI, 2, .inl ((fun _ => 0)))), (d3, .inl (cI, 16, .inl seen)), (b0, .inr (1, [.ref a0, .int ((nI OU)), .ref b1, .ref b2, .int 0])), (b1, .inl (cI, 24, .inl prod)), (b2, .inl (cI, 48, .inl kind)), (a0, .inr (5, [.int ((nI N)), .int sz, .ref a1, .ref a2, .ref a3])), (a1, .inl (cI, 81, .inl care)), (a2, .inl (cI, 81, .inl bits)), (a3, .inl (cI, 81, .inl had)), (o0, .inl (cJ, 1, .inr (.inl of)))] s.heap.size = A at hD hG ⊢
  have hA : ∀ q : Nat, s.heap.size ≤ q → A q := fun q h => by rw [← hAe]; exact Or.inr h
  have hS : va_S A s.heap s.heap [] := va_S.rf
  have hl := lv_entry ([.ref m0, .int x, .ref o0]) (n := 4) (Nat.le_of_ble_eq_true rfl)
  rw [lg_entry_eq]
  generalize (lg_sl ([.ref m0, .int x, .ref o0]) ++ List.replicate (4 - (lg_sl ([.ref m0, .int x, .ref o0])).length) Slot.unset).toArray = ls at hl ⊢
  have hl : lv_has ls 4 [(0, .ref m0), (1, .int x), (2, .ref o0)] := hl
  have hP : va_P (dC, dI) classes [(m0, .inr (7, [.int ((nI N)), .int ((nI OU)), .ref b0, .ref t0, .ref f0, .ref g0, .ref k0, .ref v0, .ref d0, .int 0, .int 0])), (d0, .inr (2, [.int ((nI N)), .int ((nI OU)), .ref d1, .ref d2, .ref d3])), (d1, .inl (cI, 4, .inl asked)), (d2, .inl (cI, 2, .inl ((fun _ => 0)))), (d3, .inl (cI, 16, .inl seen)), (b0, .inr (1, [.ref a0, .int ((nI OU)), .ref b1, .ref b2, .int 0])), (b1, .inl (cI, 24, .inl prod)), (b2, .inl (cI, 48, .inl kind)), (a0, .inr (5, [.int ((nI N)), .int sz, .ref a1, .ref a2, .ref a3])), (a1, .inl (cI, 81, .inl care)), (a2, .inl (cI, 81, .inl bits)), (a3, .inl (cI, 81, .inl had)), (o0, .inl (cJ, 1, .inr (.inl of)))] s.heap := hP
  obtain ⟨⟨tF, hZF, hTF⟩, hGr⟩ := id hG
  refine lv_aload_n hx hb d_Law_diagram_0 rfl (lv_at hl 2 rfl) ?_
  refine lv_iconst (v := 0) hx hb d_Law_diagram_1 (by decide) ?_
  refine lv_aload_n hx hb d_Law_diagram_2 rfl (lv_at hl 0 rfl) ?_
  refine lv_iload_n hx hb d_Law_diagram_3 rfl (lv_at hl 1 rfl) ?_
  have hPc := hP.sub (ws' := [(m0, .inr (7, [.int ((nI N)), .int ((nI OU)), .ref b0, .ref t0, .ref f0, .ref g0, .ref k0, .ref v0, .ref d0, .int 0, .int 0])), (d0, .inr (2, [.int ((nI N)), .int ((nI OU)), .ref d1, .ref d2, .ref d3])), (d1, .inl (cI, 4, .inl asked)), (d2, .inl (cI, 2, .inl ((fun _ => 0)))), (d3, .inl (cI, 16, .inl seen)), (b0, .inr (1, [.ref a0, .int ((nI OU)), .ref b1, .ref b2, .int 0])), (b1, .inl (cI, 24, .inl prod)), (b2, .inl (cI, 48, .inl kind)), (a0, .inr (5, [.int ((nI N)), .int sz, .ref a1, .ref a2, .ref a3])), (a1, .inl (cI, 81, .inl care)), (a2, .inl (cI, 81, .inl bits)), (a3, .inl (cI, 81, .inl had))]) [0, 1, 2, 3, 4, 5, 6, 7, 8, 9, 10, 11] rfl
  have hDc := hD.sub (ws' := [(m0, .inr (7, [.int ((nI N)), .int ((nI OU)), .ref b0, .ref t0, .ref f0, .ref g0, .ref k0, .ref v0, .ref d0, .int 0, .int 0])), (d0, .inr (2, [.int ((nI N)), .int ((nI OU)), .ref d1, .ref d2, .ref d3])), (d1, .inl (cI, 4, .inl asked)), (d2, .inl (cI, 2, .inl ((fun _ => 0)))), (d3, .inl (cI, 16, .inl seen)), (b0, .inr (1, [.ref a0, .int ((nI OU)), .ref b1, .ref b2, .int 0])), (b1, .inl (cI, 24, .inl prod)), (b2, .inl (cI, 48, .inl kind)), (a0, .inr (5, [.int ((nI N)), .int sz, .ref a1, .ref a2, .ref a3])), (a1, .inl (cI, 81, .inl care)), (a2, .inl (cI, 81, .inl bits)), (a3, .inl (cI, 81, .inl had))]) [0, 1, 2, 3, 4, 5, 6, 7, 8, 9, 10, 11] (by decide) rfl
  have hFc := va_free (wc := [(m0, .inr (7, [.int ((nI N)), .int ((nI OU)), .ref b0, .ref t0, .ref f0, .ref g0, .ref k0, .ref v0, .ref d0, .int 0, .int 0])), (d0, .inr (2, [.int ((nI N)), .int ((nI OU)), .ref d1, .ref d2, .ref d3])), (d1, .inl (cI, 4, .inl asked)), (d2, .inl (cI, 2, .inl ((fun _ => 0)))), (d3, .inl (cI, 16, .inl seen)), (b0, .inr (1, [.ref a0, .int ((nI OU)), .ref b1, .ref b2, .int 0])), (b1, .inl (cI, 24, .inl prod)), (b2, .inl (cI, 48, .inl kind)), (a0, .inr (5, [.int ((nI N)), .int sz, .ref a1, .ref a2, .ref a3])), (a1, .inl (cI, 81, .inl care)), (a2, .inl (cI, 81, .inl bits)), (a3, .inl (cI, 81, .inl had))]) hD hS hA [0, 1, 2, 3, 4, 5, 6, 7, 8, 9, 10, 11] rfl
  refine va_calli (va_runV (As := [.int x]) (rest := [.int 0, .ref o0]) ⟨hx, hb, hml, hown, hts⟩ (c1_Main_diagram l dC dI cI cJ _ m0 N OU b0 t0 f0 g0 k0 v0 d0 d1 d2 d3 asked seen b1 b2 prod kind a0 a1 a2 a3 sz care bits had x hN hOU h0 h1) (cwV 1 hts (ct_goodV mw_ml_Law_53 mw_im_Main_diagram mw_se_Main_diagram mw_ini_Main mw_code_Main_diagram) rfl rfl rfl (by decide +kernel) ⟨Nat.le_of_ble_eq_true rfl, Nat.le_of_ble_eq_true rfl⟩) ⟨fun a U g mk q => by obtain ⟨q0, q1, qP, qK, qD, qG⟩ := q; exact ⟨q0, q1, qP, va_K.moved (u := U) (U := U.calling g mk a) (Vm.Alike.refl U.vm) qK, qD, gl.blind qG⟩, va_recv hK hPc (ci := 7) (q0 := 0) rfl rfl, fun U hU hW => ⟨rfl, by rw [hU], by rw [hU]; exact hPc, va_K.moved hW.alike hK, hDc.weaken (fun _ _ _ _ => trivial), by rw [hU]; exact ((hG.kept hS.2.1).narrow hFc).moved hW⟩⟩ rfl rfl hl.1 rfl (lv_room (Nat.le_of_ble_eq_true rfl)) d_Law_diagram_4 ⟨Nat.le_of_ble_eq_true rfl, Nat.le_of_ble_eq_true rfl⟩) hS (fun q _ h => hFc q h) hFc (fun r_1 u t H1 locs ht hvm hw hB hz1 hk1 hS => ?_)
  obtain ⟨hP1, hK1, hD1⟩ := hB
  rw [ht] at hP1
  obtain ⟨hP, hD⟩ := va_join (wr := [(o0, .inl (cJ, 1, .inr (.inl of)))]) (w1 := []) hP hD [0, 1, 2, 3, 4, 5, 6, 7, 8, 9, 10, 11] [12] rfl rfl (by decide) (by decide) hk1 hFc hP1 hD1
  clear hPc hDc hFc hP1 hK1 hD1 hk1 hz1 hvm ht
  generalize H1 = H at hP hS ⊢
  have hP : va_P (dC, dI) classes [(o0, .inl (cJ, 1, .inr (.inl of)))] H := hP
  have hD : va_D A [(o0, .inl (cJ, 1, .inr (.inl of)))] := hD
  rw [hw]
  clear hw
  refine lv_i2l hx hb d_Law_diagram_7 rfl ?_
  refine w_tl (show _ = 0 from by decide) ?_
  refine va_last hx hb hK hP hD hS 0 1 rfl rfl (vp_in_nI (n := 0) (N := 1) (by omega) (by omega)) d_Law_diagram_8 (fun H locs hP hD hS => ?_)
  have hP : va_P (dC, dI) classes [(o0, .inl (cJ, 1, .inr (.inl ((vp_updL of (0 : Int32).toNatClampNeg ((0)))))))] H := hP
  have hD : va_D A [(o0, .inl (cJ, 1, .inr (.inl ((vp_updL of (0 : Int32).toNatClampNeg ((0)))))))] := hD
  rw [show vp_updL of (0 : Int32).toNatClampNeg ((0)) = vp_updL of 0 0 from rfl] at hP hD
  have hP : va_P (dC, dI) classes [(o0, .inl (cJ, 1, .inr (.inl ((vp_updL of 0 0)))))] H := hP
  have hD : va_D A [(o0, .inl (cJ, 1, .inr (.inl ((vp_updL of 0 0)))))] := hD
  refine lv_goto (tgt := 15) hx hb d_Law_diagram_9 (by decide) ?_
  refine lv_iconst (v := 0) hx hb d_Law_diagram_15 (by decide) ?_
  refine xt_imp (fun t h => xt_ofMQ t h) ?_
  have hP9 := hP.sub (ws' := [(o0, .inl (cJ, 1, .inr (.inl ((vp_updL of 0 0)))))]) [0] rfl
  have hD9 := hD.sub (ws' := [(o0, .inl (cJ, 1, .inr (.inl ((vp_updL of 0 0)))))]) [0] (by decide) rfl
  exact W.iret (v := 0) hx hb hr (fun t ht hW => ⟨⟨0, (), rfl, rfl, by rw [ht]; exact hP9, va_K.moved hW.alike hK, hD9⟩, hS.F ht⟩) hS.2.2 d_Law_diagram_16
