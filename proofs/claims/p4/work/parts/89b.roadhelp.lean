/-! ===== the law's helpers by roads ===== -/
def qcI (k : Int32) (Bw : State → Prop) (A : Nat → Prop) : Array Value → State → Outcome → State → Prop := fun _ st o t => o = .returned (some (.int k)) ∧ Bw t ∧ va_F A st t
theorem rbl0 {c : Prop} [Decidable c] {r : Int32} (h : r = if c then 0 else 1) (h0 : r = 0) : (0 : Int64) = if c then 0 else 1 := by
  by_cases hc : c
  · rw [if_pos hc]
  · rw [if_neg hc] at h; rw [h] at h0; exact absurd h0 (by decide)
theorem rbl1 {c : Prop} [Decidable c] {r : Int32} (h : r = if c then 0 else 1) (h0 : ¬ r = 0) : (1 : Int64) = if c then 0 else 1 := by
  by_cases hc : c
  · rw [if_pos hc] at h; exact absurd h h0
  · rw [if_neg hc]
theorem cq0 {c d : Prop} [Decidable c] [Decidable d] (hcd : c ↔ d) (h : (if d then (0 : Int32) else 1) = 0) : lg_cmp (if c then (0 : Int64) else 1) 0 = 0 := by
  by_cases hc : c
  · rw [if_pos hc]; decide +kernel
  · rw [if_neg (fun g => hc (hcd.mpr g))] at h; exact absurd h (by decide)
theorem cq1 {c d : Prop} [Decidable c] [Decidable d] (hcd : c ↔ d) (h : ¬ (if d then (0 : Int32) else 1) = 0) : lg_cmp (if c then (0 : Int64) else 1) 1 = 0 := by
  by_cases hc : c
  · exact absurd (if_pos (hcd.mp hc)) h
  · rw [if_neg hc]; decide +kernel
set_option maxHeartbeats 1000000 in
set_option maxRecDepth 100000 in
theorem c0_Law_to (l : Launch) (hfl : l.flags = flags0) (dC : Nat → ClassId) (dI : Nat → Nat → Nat) (cI cJ : ClassId) (sz0 : Nat) (m0 : Nat) (N : Nat) (OU : Nat) (b0 : Nat) (t0 : Nat) (f0 : Nat) (g0 : Nat) (k0 : Nat) (v0 : Nat) (d0 : Nat) (hk : Int32) (po : Int32) (b1 : Nat) (b2 : Nat) (M : Nat) (prod : Nat → Int32) (kind : Nat → Int32) (a0 : Nat) (x : Int32) (y : Int32) (z : Int32) (o0 : Nat) (of : Nat → Int64) (hM : M ≤ 24) (hOU : OU ≤ 2) (hbad : x < 0 ∨ nI M ≤ x ∨ y < 0 ∨ nI OU ≤ y) : xt_Met l y_Law_to (cth y_Law_to b_Law_to 6 (some .int) [(0, 19, 22, 19), (0, 19, 26, 21)]) ({ frames := 10, cells := 2, slots := 12, locals := 200 }) (va_Pc [.ref m0, .int x, .int y, .int z, .ref o0] (fun U => U.heap.size = sz0 ∧ va_P (dC, dI) classes [(m0, .inr (7, [.int ((nI N)), .int ((nI OU)), .ref b0, .ref t0, .ref f0, .ref g0, .ref k0, .ref v0, .ref d0, .int hk, .int po])), (b0, .inr (1, [.ref a0, .int ((nI OU)), .ref b1, .ref b2, .int ((nI M))])), (b1, .inl (cI, 24, .inl prod)), (b2, .inl (cI, 48, .inl kind)), (o0, .inl (cJ, 1, .inr (.inl of)))] U.heap ∧ va_K (dC, dI) classes [(cI, .int), (cJ, .long)] U ∧ va_D (fun _ => True) [(m0, .inr (7, [.int ((nI N)), .int ((nI OU)), .ref b0, .ref t0, .ref f0, .ref g0, .ref k0, .ref v0, .ref d0, .int hk, .int po])), (b0, .inr (1, [.ref a0, .int ((nI OU)), .ref b1, .ref b2, .int ((nI M))])), (b1, .inl (cI, 24, .inl prod)), (b2, .inl (cI, 48, .inl kind)), (o0, .inl (cJ, 1, .inr (.inl of)))] ∧ gl (va_A [(m0, .inr (7, [.int ((nI N)), .int ((nI OU)), .ref b0, .ref t0, .ref f0, .ref g0, .ref k0, .ref v0, .ref d0, .int hk, .int po])), (b0, .inr (1, [.ref a0, .int ((nI OU)), .ref b1, .ref b2, .int ((nI M))])), (b1, .inl (cI, 24, .inl prod)), (b2, .inl (cI, 48, .inl kind)), (o0, .inl (cJ, 1, .inr (.inl of)))] sz0) U U.heap ∧ nca U)) (qcI 1 (fun t => ∃ (uu : Unit), (True) ∧ at_w dC dI cI cJ (va_A [(m0, .inr (7, [.int ((nI N)), .int ((nI OU)), .ref b0, .ref t0, .ref f0, .ref g0, .ref k0, .ref v0, .ref d0, .int hk, .int po])), (b0, .inr (1, [.ref a0, .int ((nI OU)), .ref b1, .ref b2, .int ((nI M))])), (b1, .inl (cI, 24, .inl prod)), (b2, .inl (cI, 48, .inl kind)), (o0, .inl (cJ, 1, .inr (.inl of)))] sz0) [(m0, .inr (7, [.int ((nI N)), .int ((nI OU)), .ref b0, .ref t0, .ref f0, .ref g0, .ref k0, .ref v0, .ref d0, .int hk, .int po])), (b0, .inr (1, [.ref a0, .int ((nI OU)), .ref b1, .ref b2, .int ((nI M))])), (b1, .inl (cI, 24, .inl prod)), (b2, .inl (cI, 48, .inl kind)), (o0, .inl (cJ, 1, .inr (.inl of)))] t) (va_A [(m0, .inr (7, [.int ((nI N)), .int ((nI OU)), .ref b0, .ref t0, .ref f0, .ref g0, .ref k0, .ref v0, .ref d0, .int hk, .int po])), (b0, .inr (1, [.ref a0, .int ((nI OU)), .ref b1, .ref b2, .int ((nI M))])), (b1, .inl (cI, 24, .inl prod)), (b2, .inl (cI, 48, .inl kind)), (o0, .inl (cJ, 1, .inr (.inl of)))] sz0)) 2 12 (va_A [(m0, .inr (7, [.int ((nI N)), .int ((nI OU)), .ref b0, .ref t0, .ref f0, .ref g0, .ref k0, .ref v0, .ref d0, .int hk, .int po])), (b0, .inr (1, [.ref a0, .int ((nI OU)), .ref b1, .ref b2, .int ((nI M))])), (b1, .inl (cI, 24, .inl prod)), (b2, .inl (cI, 48, .inl kind)), (o0, .inl (cJ, 1, .inr (.inl of)))] sz0) := by
  refine xh_ofW (cc := b_Law_to) (maxL := 6) (ret := some .int) (hs := [(0, 19, 22, 19), (0, 19, 26, 21)]) (by decide) rfl ?_
  intro p e s m args below meth c s₁ B hml htb hv
  obtain ⟨rfl, hsz, hP, hK, hD0, hG, hnc⟩ := hv
  have hx := B.exec
  have hb := B.bytes
  have hr := B.returns
  have hts : ∀ w ∈ lwg, w.before _ s = true := fun w h => atoms_spec (ws := cth y_Law_to b_Law_to 6 (some .int) [(0, 19, 22, 19), (0, 19, 26, 21)]) B.pre w (List.mem_cons_of_mem _ h)
  have hown : s.vm.findClass R_Law = some m.cls := findClass_of_methodNamed B.named
  have hlocks := B.notSynchronized
  subst hsz
  have hD := hD0.self (sz := s.heap.size)
  generalize hAe : va_A [(m0, .inr (7, [.int ((nI N)), .int ((nI OU)), .ref b0, .ref t0, .ref f0, .ref g0, .ref k0, .ref v0, .ref d0, .int hk, .int po])), (b0, .inr (1, [.ref a0, .int ((nI OU)), .ref b1, .ref b2, .int ((nI M))])), (b1, .inl (cI, 24, .inl prod)), (b2, .inl (cI, 48, .inl kind)), (o0, .inl (cJ, 1, .inr (.inl of)))] s.heap.size = A at hD hG ⊢
  have hA : ∀ q : Nat, s.heap.size ≤ q → A q := fun q h => by rw [← hAe]; exact Or.inr h
  have hS : va_S A s.heap s.heap [] := va_S.rf
  have hl := lv_entry ([.ref m0, .int x, .int y, .int z, .ref o0]) (n := 6) (Nat.le_of_ble_eq_true rfl)
  rw [lg_entry_eq]
  generalize (lg_sl ([.ref m0, .int x, .int y, .int z, .ref o0]) ++ List.replicate (6 - (lg_sl ([.ref m0, .int x, .int y, .int z, .ref o0])).length) Slot.unset).toArray = ls at hl ⊢
  have hl : lv_has ls 6 [(0, .ref m0), (1, .int x), (2, .int y), (3, .int z), (4, .ref o0)] := hl
  have hP : va_P (dC, dI) classes [(m0, .inr (7, [.int ((nI N)), .int ((nI OU)), .ref b0, .ref t0, .ref f0, .ref g0, .ref k0, .ref v0, .ref d0, .int hk, .int po])), (b0, .inr (1, [.ref a0, .int ((nI OU)), .ref b1, .ref b2, .int ((nI M))])), (b1, .inl (cI, 24, .inl prod)), (b2, .inl (cI, 48, .inl kind)), (o0, .inl (cJ, 1, .inr (.inl of)))] s.heap := hP
  obtain ⟨⟨tF, hZF, hTF⟩, hGr⟩ := id hG
  refine lv_aload hx hb d_Law_to_0 (lv_at hl 4 rfl) ?_
  refine lv_iconst (v := 0) hx hb d_Law_to_2 (by decide) ?_
  refine lv_aload_n hx hb d_Law_to_3 rfl (lv_at hl 0 rfl) ?_
  refine lv_iload_n hx hb d_Law_to_4 rfl (lv_at hl 1 rfl) ?_
  refine lv_iload_n hx hb d_Law_to_5 rfl (lv_at hl 2 rfl) ?_
  refine lv_iload_n hx hb d_Law_to_6 rfl (lv_at hl 3 rfl) ?_
  refine xt_callV (As := [.int x, .int y, .int z]) (rest := [.int 0, .ref o0]) ⟨hx, hb, hml, hown, hts⟩ (c0_Main_to l hfl dC dI cI cJ m0 N OU b0 t0 f0 g0 k0 v0 d0 hk po b1 b2 M prod kind a0 x y z hM hOU hbad) (cwV 3 hts (ct_goodV mw_ml_Law_23 mw_im_Main_to mw_se_Main_to mw_ini_Main mw_code_Main_to) rfl rfl rfl (by decide +kernel) ⟨Nat.le_of_ble_eq_true rfl, Nat.le_of_ble_eq_true rfl⟩) ⟨fun a U g mk q => by obtain ⟨q0, qP, qK, qG⟩ := q; exact ⟨q0, qP, va_K.moved (u := U) (U := U.calling g mk a) (Vm.Alike.refl U.vm) qK, gl.blind qG⟩, va_recv hK hP (ci := 7) (q0 := 0) rfl rfl, fun U hU hW => ⟨rfl, by rw [hU]; exact hP.sub (ws' := [(m0, .inr (7, [.int ((nI N)), .int ((nI OU)), .ref b0, .ref t0, .ref f0, .ref g0, .ref k0, .ref v0, .ref d0, .int hk, .int po])), (b0, .inr (1, [.ref a0, .int ((nI OU)), .ref b1, .ref b2, .int ((nI M))])), (b1, .inl (cI, 24, .inl prod)), (b2, .inl (cI, 48, .inl kind))]) [0, 1, 2, 3] rfl, va_K.moved hW.alike hK, by rw [hU]; exact ((hG.kept hS.2.1).narrow (fun _ h => h.elim)).moved hW⟩⟩ rfl hl.1 rfl (lv_room (Nat.le_of_ble_eq_true rfl)) d_Law_to_7 ⟨Nat.le_of_ble_eq_true rfl, Nat.le_of_ble_eq_true rfl⟩ (fun v st₀ t H1 L h0 h1 h2 hq hL => ?_) (fun xA st₀ t H1 L h0 h1 h2 hq hL => ?_)
  · obtain ⟨_, _, h9, _⟩ := hq
    cases h9
  obtain ⟨_, ce, h9, a1, a2, a3, a4, a5, a6⟩ := hq
  cases h9
  rw [h0] at a1 a2 a3
  rw [h1] at a2 a3 a4
  have hP := hP.kept (H1 := H1) (fun k q hk => a3 q.1 (hP k q hk).lt)
  have hS := xh_S hS a2 a3 hL
  refine xg_catch (pre := []) (rest := [(0, 19, 26, 21)]) B.admits hown htb (fun z hz => by cases hz) (by decide) (by decide) (by decide) (hts _ mw_cl_Law_19) a4 a5 (by rw [← h2.findClass]; exact a6) ?_
  have hP : va_P (dC, dI) classes [(m0, .inr (7, [.int ((nI N)), .int ((nI OU)), .ref b0, .ref t0, .ref f0, .ref g0, .ref k0, .ref v0, .ref d0, .int hk, .int po])), (b0, .inr (1, [.ref a0, .int ((nI OU)), .ref b1, .ref b2, .int ((nI M))])), (b1, .inl (cI, 24, .inl prod)), (b2, .inl (cI, 48, .inl kind)), (o0, .inl (cJ, 1, .inr (.inl of)))] H1 := hP
  refine lv_astore (lv' := [(5, .ref xA), (0, .ref m0), (1, .int x), (2, .int y), (3, .int z), (4, .ref o0)]) hx hb d_Law_to_22 hl (by decide) rfl (fun ls hl => ?_)
  refine lv_iconst (v := 1) hx hb d_Law_to_24 (by decide) ?_
  have hP9 := hP.sub (ws' := [(m0, .inr (7, [.int ((nI N)), .int ((nI OU)), .ref b0, .ref t0, .ref f0, .ref g0, .ref k0, .ref v0, .ref d0, .int hk, .int po])), (b0, .inr (1, [.ref a0, .int ((nI OU)), .ref b1, .ref b2, .int ((nI M))])), (b1, .inl (cI, 24, .inl prod)), (b2, .inl (cI, 48, .inl kind)), (o0, .inl (cJ, 1, .inr (.inl of)))]) [0, 1, 2, 3, 4] rfl
  have hD9 := hD.sub (ws' := [(m0, .inr (7, [.int ((nI N)), .int ((nI OU)), .ref b0, .ref t0, .ref f0, .ref g0, .ref k0, .ref v0, .ref d0, .int hk, .int po])), (b0, .inr (1, [.ref a0, .int ((nI OU)), .ref b1, .ref b2, .int ((nI M))])), (b1, .inl (cI, 24, .inl prod)), (b2, .inl (cI, 48, .inl kind)), (o0, .inl (cJ, 1, .inr (.inl of)))]) [0, 1, 2, 3, 4] (by decide) rfl
  refine W.widen (k := 2) (n := 12) (Nat.le_of_ble_eq_true rfl) (Nat.le_of_ble_eq_true rfl) ?_
  refine xt_imp (fun t h => xt_ofMQ t h) ?_
  exact W.iret (v := 1) hx hb hr (fun t ht hW => ⟨rfl, ⟨(), trivial, by rw [ht]; exact hP9, va_K.moved hW.alike hK, hD9⟩, hS.F ht⟩) hS.2.2 d_Law_to_25
set_option maxHeartbeats 1000000 in
set_option maxRecDepth 100000 in
theorem c1_Law_to (l : Launch) (hfl : l.flags = flags0) (dC : Nat → ClassId) (dI : Nat → Nat → Nat) (cI cJ : ClassId) (sz0 : Nat) (m0 : Nat) (N : Nat) (OU : Nat) (b0 : Nat) (t0 : Nat) (f0 : Nat) (g0 : Nat) (k0 : Nat) (v0 : Nat) (d0 : Nat) (hk : Int32) (po : Int32) (b1 : Nat) (b2 : Nat) (M : Nat) (prod : Nat → Int32) (kind : Nat → Int32) (a0 : Nat) (C : Nat) (J : Nat) (z : Int32) (o0 : Nat) (of : Nat → Int64) (hM : M ≤ 24) (hOU : OU ≤ 2) (hC : C < M) (hJ : J < OU) (hz : z < 0 ∨ 2 < z) : xt_Met l y_Law_to (cth y_Law_to b_Law_to 6 (some .int) [(0, 19, 22, 19), (0, 19, 26, 21)]) ({ frames := 10, cells := 2, slots := 12, locals := 200 }) (va_Pc [.ref m0, .int ((nI C)), .int ((nI J)), .int z, .ref o0] (fun U => U.heap.size = sz0 ∧ va_P (dC, dI) classes [(m0, .inr (7, [.int ((nI N)), .int ((nI OU)), .ref b0, .ref t0, .ref f0, .ref g0, .ref k0, .ref v0, .ref d0, .int hk, .int po])), (b0, .inr (1, [.ref a0, .int ((nI OU)), .ref b1, .ref b2, .int ((nI M))])), (b1, .inl (cI, 24, .inl prod)), (b2, .inl (cI, 48, .inl kind)), (o0, .inl (cJ, 1, .inr (.inl of)))] U.heap ∧ va_K (dC, dI) classes [(cI, .int), (cJ, .long)] U ∧ va_D (fun _ => True) [(m0, .inr (7, [.int ((nI N)), .int ((nI OU)), .ref b0, .ref t0, .ref f0, .ref g0, .ref k0, .ref v0, .ref d0, .int hk, .int po])), (b0, .inr (1, [.ref a0, .int ((nI OU)), .ref b1, .ref b2, .int ((nI M))])), (b1, .inl (cI, 24, .inl prod)), (b2, .inl (cI, 48, .inl kind)), (o0, .inl (cJ, 1, .inr (.inl of)))] ∧ gl (va_A [(m0, .inr (7, [.int ((nI N)), .int ((nI OU)), .ref b0, .ref t0, .ref f0, .ref g0, .ref k0, .ref v0, .ref d0, .int hk, .int po])), (b0, .inr (1, [.ref a0, .int ((nI OU)), .ref b1, .ref b2, .int ((nI M))])), (b1, .inl (cI, 24, .inl prod)), (b2, .inl (cI, 48, .inl kind)), (o0, .inl (cJ, 1, .inr (.inl of)))] sz0) U U.heap ∧ nca U)) (qcI 2 (fun t => ∃ (uu : Unit), (True) ∧ at_w dC dI cI cJ (va_A [(m0, .inr (7, [.int ((nI N)), .int ((nI OU)), .ref b0, .ref t0, .ref f0, .ref g0, .ref k0, .ref v0, .ref d0, .int hk, .int po])), (b0, .inr (1, [.ref a0, .int ((nI OU)), .ref b1, .ref b2, .int ((nI M))])), (b1, .inl (cI, 24, .inl prod)), (b2, .inl (cI, 48, .inl kind)), (o0, .inl (cJ, 1, .inr (.inl of)))] sz0) [(m0, .inr (7, [.int ((nI N)), .int ((nI OU)), .ref b0, .ref t0, .ref f0, .ref g0, .ref k0, .ref v0, .ref d0, .int hk, .int po])), (b0, .inr (1, [.ref a0, .int ((nI OU)), .ref b1, .ref b2, .int ((nI M))])), (b1, .inl (cI, 24, .inl prod)), (b2, .inl (cI, 48, .inl kind)), (o0, .inl (cJ, 1, .inr (.inl of)))] t) (va_A [(m0, .inr (7, [.int ((nI N)), .int ((nI OU)), .ref b0, .ref t0, .ref f0, .ref g0, .ref k0, .ref v0, .ref d0, .int hk, .int po])), (b0, .inr (1, [.ref a0, .int ((nI OU)), .ref b1, .ref b2, .int ((nI M))])), (b1, .inl (cI, 24, .inl prod)), (b2, .inl (cI, 48, .inl kind)), (o0, .inl (cJ, 1, .inr (.inl of)))] sz0)) 2 12 (va_A [(m0, .inr (7, [.int ((nI N)), .int ((nI OU)), .ref b0, .ref t0, .ref f0, .ref g0, .ref k0, .ref v0, .ref d0, .int hk, .int po])), (b0, .inr (1, [.ref a0, .int ((nI OU)), .ref b1, .ref b2, .int ((nI M))])), (b1, .inl (cI, 24, .inl prod)), (b2, .inl (cI, 48, .inl kind)), (o0, .inl (cJ, 1, .inr (.inl of)))] sz0) := by
  refine xh_ofW (cc := b_Law_to) (maxL := 6) (ret := some .int) (hs := [(0, 19, 22, 19), (0, 19, 26, 21)]) (by decide) rfl ?_
  intro p e s m args below meth c s₁ B hml htb hv
  obtain ⟨rfl, hsz, hP, hK, hD0, hG, hnc⟩ := hv
  have hx := B.exec
  have hb := B.bytes
  have hr := B.returns
  have hts : ∀ w ∈ lwg, w.before _ s = true := fun w h => atoms_spec (ws := cth y_Law_to b_Law_to 6 (some .int) [(0, 19, 22, 19), (0, 19, 26, 21)]) B.pre w (List.mem_cons_of_mem _ h)
  have hown : s.vm.findClass R_Law = some m.cls := findClass_of_methodNamed B.named
  have hlocks := B.notSynchronized
  subst hsz
  have hD := hD0.self (sz := s.heap.size)
  generalize hAe : va_A [(m0, .inr (7, [.int ((nI N)), .int ((nI OU)), .ref b0, .ref t0, .ref f0, .ref g0, .ref k0, .ref v0, .ref d0, .int hk, .int po])), (b0, .inr (1, [.ref a0, .int ((nI OU)), .ref b1, .ref b2, .int ((nI M))])), (b1, .inl (cI, 24, .inl prod)), (b2, .inl (cI, 48, .inl kind)), (o0, .inl (cJ, 1, .inr (.inl of)))] s.heap.size = A at hD hG ⊢
  have hA : ∀ q : Nat, s.heap.size ≤ q → A q := fun q h => by rw [← hAe]; exact Or.inr h
  have hS : va_S A s.heap s.heap [] := va_S.rf
  have hl := lv_entry ([.ref m0, .int ((nI C)), .int ((nI J)), .int z, .ref o0]) (n := 6) (Nat.le_of_ble_eq_true rfl)
  rw [lg_entry_eq]
  generalize (lg_sl ([.ref m0, .int ((nI C)), .int ((nI J)), .int z, .ref o0]) ++ List.replicate (6 - (lg_sl ([.ref m0, .int ((nI C)), .int ((nI J)), .int z, .ref o0])).length) Slot.unset).toArray = ls at hl ⊢
  have hl : lv_has ls 6 [(0, .ref m0), (1, .int ((nI C))), (2, .int ((nI J))), (3, .int z), (4, .ref o0)] := hl
  have hP : va_P (dC, dI) classes [(m0, .inr (7, [.int ((nI N)), .int ((nI OU)), .ref b0, .ref t0, .ref f0, .ref g0, .ref k0, .ref v0, .ref d0, .int hk, .int po])), (b0, .inr (1, [.ref a0, .int ((nI OU)), .ref b1, .ref b2, .int ((nI M))])), (b1, .inl (cI, 24, .inl prod)), (b2, .inl (cI, 48, .inl kind)), (o0, .inl (cJ, 1, .inr (.inl of)))] s.heap := hP
  obtain ⟨⟨tF, hZF, hTF⟩, hGr⟩ := id hG
  refine lv_aload hx hb d_Law_to_0 (lv_at hl 4 rfl) ?_
  refine lv_iconst (v := 0) hx hb d_Law_to_2 (by decide) ?_
  refine lv_aload_n hx hb d_Law_to_3 rfl (lv_at hl 0 rfl) ?_
  refine lv_iload_n hx hb d_Law_to_4 rfl (lv_at hl 1 rfl) ?_
  refine lv_iload_n hx hb d_Law_to_5 rfl (lv_at hl 2 rfl) ?_
  refine lv_iload_n hx hb d_Law_to_6 rfl (lv_at hl 3 rfl) ?_
  refine xt_callV (As := [.int ((nI C)), .int ((nI J)), .int z]) (rest := [.int 0, .ref o0]) ⟨hx, hb, hml, hown, hts⟩ (c1_Main_to l hfl dC dI cI cJ m0 N OU b0 t0 f0 g0 k0 v0 d0 hk po b1 b2 M prod kind a0 C J z hM hOU hC hJ hz) (cwV 3 hts (ct_goodV mw_ml_Law_23 mw_im_Main_to mw_se_Main_to mw_ini_Main mw_code_Main_to) rfl rfl rfl (by decide +kernel) ⟨Nat.le_of_ble_eq_true rfl, Nat.le_of_ble_eq_true rfl⟩) ⟨fun a U g mk q => by obtain ⟨q0, qP, qK, qG⟩ := q; exact ⟨q0, qP, va_K.moved (u := U) (U := U.calling g mk a) (Vm.Alike.refl U.vm) qK, gl.blind qG⟩, va_recv hK hP (ci := 7) (q0 := 0) rfl rfl, fun U hU hW => ⟨rfl, by rw [hU]; exact hP.sub (ws' := [(m0, .inr (7, [.int ((nI N)), .int ((nI OU)), .ref b0, .ref t0, .ref f0, .ref g0, .ref k0, .ref v0, .ref d0, .int hk, .int po])), (b0, .inr (1, [.ref a0, .int ((nI OU)), .ref b1, .ref b2, .int ((nI M))])), (b1, .inl (cI, 24, .inl prod)), (b2, .inl (cI, 48, .inl kind))]) [0, 1, 2, 3] rfl, va_K.moved hW.alike hK, by rw [hU]; exact ((hG.kept hS.2.1).narrow (fun _ h => h.elim)).moved hW⟩⟩ rfl hl.1 rfl (lv_room (Nat.le_of_ble_eq_true rfl)) d_Law_to_7 ⟨Nat.le_of_ble_eq_true rfl, Nat.le_of_ble_eq_true rfl⟩ (fun v st₀ t H1 L h0 h1 h2 hq hL => ?_) (fun xA st₀ t H1 L h0 h1 h2 hq hL => ?_)
  · obtain ⟨_, _, h9, _⟩ := hq
    cases h9
  obtain ⟨_, ce, h9, a1, a2, a3, a4, a5, a6⟩ := hq
  cases h9
  rw [h0] at a1 a2 a3
  rw [h1] at a2 a3 a4
  have hP := hP.kept (H1 := H1) (fun k q hk => a3 q.1 (hP k q hk).lt)
  have hS := xh_S hS a2 a3 hL
  refine xg_catch (pre := [(0, 19, 22, 19)]) (rest := []) B.admits hown htb (List.forall_mem_cons.mpr ⟨⟨by decide, by decide, by decide, "java/lang/IndexOutOfBoundsException", hts _ mw_cl_Law_19, hnc ("java/lang/IllegalArgumentException", "java/lang/IndexOutOfBoundsException") (by decide +kernel)⟩, fun z hz => by cases hz⟩) (by decide) (by decide) (by decide) (hts _ mw_cl_Law_21) a4 a5 (by rw [← h2.findClass]; exact a6) ?_
  have hP : va_P (dC, dI) classes [(m0, .inr (7, [.int ((nI N)), .int ((nI OU)), .ref b0, .ref t0, .ref f0, .ref g0, .ref k0, .ref v0, .ref d0, .int hk, .int po])), (b0, .inr (1, [.ref a0, .int ((nI OU)), .ref b1, .ref b2, .int ((nI M))])), (b1, .inl (cI, 24, .inl prod)), (b2, .inl (cI, 48, .inl kind)), (o0, .inl (cJ, 1, .inr (.inl of)))] H1 := hP
  refine lv_astore (lv' := [(5, .ref xA), (0, .ref m0), (1, .int ((nI C))), (2, .int ((nI J))), (3, .int z), (4, .ref o0)]) hx hb d_Law_to_26 hl (by decide) rfl (fun ls hl => ?_)
  refine lv_iconst (v := 2) hx hb d_Law_to_28 (by decide) ?_
  have hP9 := hP.sub (ws' := [(m0, .inr (7, [.int ((nI N)), .int ((nI OU)), .ref b0, .ref t0, .ref f0, .ref g0, .ref k0, .ref v0, .ref d0, .int hk, .int po])), (b0, .inr (1, [.ref a0, .int ((nI OU)), .ref b1, .ref b2, .int ((nI M))])), (b1, .inl (cI, 24, .inl prod)), (b2, .inl (cI, 48, .inl kind)), (o0, .inl (cJ, 1, .inr (.inl of)))]) [0, 1, 2, 3, 4] rfl
  have hD9 := hD.sub (ws' := [(m0, .inr (7, [.int ((nI N)), .int ((nI OU)), .ref b0, .ref t0, .ref f0, .ref g0, .ref k0, .ref v0, .ref d0, .int hk, .int po])), (b0, .inr (1, [.ref a0, .int ((nI OU)), .ref b1, .ref b2, .int ((nI M))])), (b1, .inl (cI, 24, .inl prod)), (b2, .inl (cI, 48, .inl kind)), (o0, .inl (cJ, 1, .inr (.inl of)))]) [0, 1, 2, 3, 4] (by decide) rfl
  refine W.widen (k := 2) (n := 12) (Nat.le_of_ble_eq_true rfl) (Nat.le_of_ble_eq_true rfl) ?_
  refine xt_imp (fun t h => xt_ofMQ t h) ?_
  exact W.iret (v := 2) hx hb hr (fun t ht hW => ⟨rfl, ⟨(), trivial, by rw [ht]; exact hP9, va_K.moved hW.alike hK, hD9⟩, hS.F ht⟩) hS.2.2 d_Law_to_29
set_option maxHeartbeats 1000000 in
set_option maxRecDepth 100000 in
theorem c2_Law_to (l : Launch) (hfl : l.flags = flags0) (dC : Nat → ClassId) (dI : Nat → Nat → Nat) (cI cJ : ClassId) (sz0 : Nat) (m0 : Nat) (N : Nat) (OU : Nat) (b0 : Nat) (t0 : Nat) (f0 : Nat) (g0 : Nat) (k0 : Nat) (v0 : Nat) (d0 : Nat) (hk : Int32) (po : Int32) (b1 : Nat) (b2 : Nat) (M : Nat) (prod : Nat → Int32) (kind : Nat → Int32) (a0 : Nat) (C : Nat) (J : Nat) (z : Int32) (o0 : Nat) (of : Nat → Int64) (hM : M ≤ 24) (hOU : OU ≤ 2) (hC : C < M) (hJ : J < OU) (hz0 : ¬ z < 0) (hz2 : ¬ 2 < z) (hpo : po = 0 ∨ po = 1) : xt_Met l y_Law_to (cth y_Law_to b_Law_to 6 (some .int) [(0, 19, 22, 19), (0, 19, 26, 21)]) ({ frames := 9, cells := 2, slots := 12, locals := 170 }) (va_Pc [.ref m0, .int ((nI C)), .int ((nI J)), .int z, .ref o0] (fun U => U.heap.size = sz0 ∧ va_P (dC, dI) classes [(m0, .inr (7, [.int ((nI N)), .int ((nI OU)), .ref b0, .ref t0, .ref f0, .ref g0, .ref k0, .ref v0, .ref d0, .int hk, .int po])), (b0, .inr (1, [.ref a0, .int ((nI OU)), .ref b1, .ref b2, .int ((nI M))])), (b1, .inl (cI, 24, .inl prod)), (b2, .inl (cI, 48, .inl kind)), (o0, .inl (cJ, 1, .inr (.inl of)))] U.heap ∧ va_K (dC, dI) classes [(cI, .int), (cJ, .long)] U ∧ va_D (fun _ => True) [(m0, .inr (7, [.int ((nI N)), .int ((nI OU)), .ref b0, .ref t0, .ref f0, .ref g0, .ref k0, .ref v0, .ref d0, .int hk, .int po])), (b0, .inr (1, [.ref a0, .int ((nI OU)), .ref b1, .ref b2, .int ((nI M))])), (b1, .inl (cI, 24, .inl prod)), (b2, .inl (cI, 48, .inl kind)), (o0, .inl (cJ, 1, .inr (.inl of)))] ∧ gl (va_A [(m0, .inr (7, [.int ((nI N)), .int ((nI OU)), .ref b0, .ref t0, .ref f0, .ref g0, .ref k0, .ref v0, .ref d0, .int hk, .int po])), (b0, .inr (1, [.ref a0, .int ((nI OU)), .ref b1, .ref b2, .int ((nI M))])), (b1, .inl (cI, 24, .inl prod)), (b2, .inl (cI, 48, .inl kind)), (o0, .inl (cJ, 1, .inr (.inl of)))] sz0) U U.heap ∧ nca U)) (qcI 0 (fun t => ∃ (pox : Int32) (ofx : Nat → Int64), ((pox = 0 ∨ pox = 1) ∧ ofx 0 = (if kind (C * 2 + J) = z then 0 else 1)) ∧ at_w dC dI cI cJ (va_A [(m0, .inr (7, [.int ((nI N)), .int ((nI OU)), .ref b0, .ref t0, .ref f0, .ref g0, .ref k0, .ref v0, .ref d0, .int hk, .int po])), (b0, .inr (1, [.ref a0, .int ((nI OU)), .ref b1, .ref b2, .int ((nI M))])), (b1, .inl (cI, 24, .inl prod)), (b2, .inl (cI, 48, .inl kind)), (o0, .inl (cJ, 1, .inr (.inl of)))] sz0) [(m0, .inr (7, [.int ((nI N)), .int ((nI OU)), .ref b0, .ref t0, .ref f0, .ref g0, .ref k0, .ref v0, .ref d0, .int hk, .int pox])), (b0, .inr (1, [.ref a0, .int ((nI OU)), .ref b1, .ref b2, .int ((nI M))])), (b1, .inl (cI, 24, .inl prod)), (b2, .inl (cI, 48, .inl ((upd kind (C * 2 + J) z)))), (o0, .inl (cJ, 1, .inr (.inl ofx)))] t) (va_A [(m0, .inr (7, [.int ((nI N)), .int ((nI OU)), .ref b0, .ref t0, .ref f0, .ref g0, .ref k0, .ref v0, .ref d0, .int hk, .int po])), (b0, .inr (1, [.ref a0, .int ((nI OU)), .ref b1, .ref b2, .int ((nI M))])), (b1, .inl (cI, 24, .inl prod)), (b2, .inl (cI, 48, .inl kind)), (o0, .inl (cJ, 1, .inr (.inl of)))] sz0)) 2 12 (va_A [(m0, .inr (7, [.int ((nI N)), .int ((nI OU)), .ref b0, .ref t0, .ref f0, .ref g0, .ref k0, .ref v0, .ref d0, .int hk, .int po])), (b0, .inr (1, [.ref a0, .int ((nI OU)), .ref b1, .ref b2, .int ((nI M))])), (b1, .inl (cI, 24, .inl prod)), (b2, .inl (cI, 48, .inl kind)), (o0, .inl (cJ, 1, .inr (.inl of)))] sz0) := by
  refine xh_ofW (cc := b_Law_to) (maxL := 6) (ret := some .int) (hs := [(0, 19, 22, 19), (0, 19, 26, 21)]) (by decide) rfl ?_
  intro p e s m args below meth c s₁ B hml htb hv
  obtain ⟨rfl, hsz, hP, hK, hD0, hG, hnc⟩ := hv
  have hx := B.exec
  have hb := B.bytes
  have hr := B.returns
  have hts : ∀ w ∈ lwg, w.before _ s = true := fun w h => atoms_spec (ws := cth y_Law_to b_Law_to 6 (some .int) [(0, 19, 22, 19), (0, 19, 26, 21)]) B.pre w (List.mem_cons_of_mem _ h)
  have hown : s.vm.findClass R_Law = some m.cls := findClass_of_methodNamed B.named
  have hlocks := B.notSynchronized
  subst hsz
  have hD := hD0.self (sz := s.heap.size)
  generalize hAe : va_A [(m0, .inr (7, [.int ((nI N)), .int ((nI OU)), .ref b0, .ref t0, .ref f0, .ref g0, .ref k0, .ref v0, .ref d0, .int hk, .int po])), (b0, .inr (1, [.ref a0, .int ((nI OU)), .ref b1, .ref b2, .int ((nI M))])), (b1, .inl (cI, 24, .inl prod)), (b2, .inl (cI, 48, .inl kind)), (o0, .inl (cJ, 1, .inr (.inl of)))] s.heap.size = A at hD hG ⊢
  have hA : ∀ q : Nat, s.heap.size ≤ q → A q := fun q h => by rw [← hAe]; exact Or.inr h
  have hS : va_S A s.heap s.heap [] := va_S.rf
  have hl := lv_entry ([.ref m0, .int ((nI C)), .int ((nI J)), .int z, .ref o0]) (n := 6) (Nat.le_of_ble_eq_true rfl)
  rw [lg_entry_eq]
  generalize (lg_sl ([.ref m0, .int ((nI C)), .int ((nI J)), .int z, .ref o0]) ++ List.replicate (6 - (lg_sl ([.ref m0, .int ((nI C)), .int ((nI J)), .int z, .ref o0])).length) Slot.unset).toArray = ls at hl ⊢
  have hl : lv_has ls 6 [(0, .ref m0), (1, .int ((nI C))), (2, .int ((nI J))), (3, .int z), (4, .ref o0)] := hl
  have hP : va_P (dC, dI) classes [(m0, .inr (7, [.int ((nI N)), .int ((nI OU)), .ref b0, .ref t0, .ref f0, .ref g0, .ref k0, .ref v0, .ref d0, .int hk, .int po])), (b0, .inr (1, [.ref a0, .int ((nI OU)), .ref b1, .ref b2, .int ((nI M))])), (b1, .inl (cI, 24, .inl prod)), (b2, .inl (cI, 48, .inl kind)), (o0, .inl (cJ, 1, .inr (.inl of)))] s.heap := hP
  obtain ⟨⟨tF, hZF, hTF⟩, hGr⟩ := id hG
  refine lv_aload hx hb d_Law_to_0 (lv_at hl 4 rfl) ?_
  refine lv_iconst (v := 0) hx hb d_Law_to_2 (by decide) ?_
  refine lv_aload_n hx hb d_Law_to_3 rfl (lv_at hl 0 rfl) ?_
  refine lv_iload_n hx hb d_Law_to_4 rfl (lv_at hl 1 rfl) ?_
  refine lv_iload_n hx hb d_Law_to_5 rfl (lv_at hl 2 rfl) ?_
  refine lv_iload_n hx hb d_Law_to_6 rfl (lv_at hl 3 rfl) ?_
  have hPc := hP.sub (ws' := [(m0, .inr (7, [.int ((nI N)), .int ((nI OU)), .ref b0, .ref t0, .ref f0, .ref g0, .ref k0, .ref v0, .ref d0, .int hk, .int po])), (b0, .inr (1, [.ref a0, .int ((nI OU)), .ref b1, .ref b2, .int ((nI M))])), (b1, .inl (cI, 24, .inl prod)), (b2, .inl (cI, 48, .inl kind))]) [0, 1, 2, 3] rfl
  have hDc := hD.sub (ws' := [(m0, .inr (7, [.int ((nI N)), .int ((nI OU)), .ref b0, .ref t0, .ref f0, .ref g0, .ref k0, .ref v0, .ref d0, .int hk, .int po])), (b0, .inr (1, [.ref a0, .int ((nI OU)), .ref b1, .ref b2, .int ((nI M))])), (b1, .inl (cI, 24, .inl prod)), (b2, .inl (cI, 48, .inl kind))]) [0, 1, 2, 3] (by decide) rfl
  have hFc := va_free (wc := [(m0, .inr (7, [.int ((nI N)), .int ((nI OU)), .ref b0, .ref t0, .ref f0, .ref g0, .ref k0, .ref v0, .ref d0, .int hk, .int po])), (b0, .inr (1, [.ref a0, .int ((nI OU)), .ref b1, .ref b2, .int ((nI M))])), (b1, .inl (cI, 24, .inl prod)), (b2, .inl (cI, 48, .inl kind))]) hD hS hA [0, 1, 2, 3] rfl
  refine va_calli (va_runV (As := [.int ((nI C)), .int ((nI J)), .int z]) (rest := [.int 0, .ref o0]) ⟨hx, hb, hml, hown, hts⟩ (c2_Main_to l dC dI cI cJ _ m0 N OU b0 t0 f0 g0 k0 v0 d0 hk po b1 b2 M prod kind a0 C J z hM hOU hC hJ hz0 hz2 hpo) (cwV 3 hts (ct_goodV mw_ml_Law_23 mw_im_Main_to mw_se_Main_to mw_ini_Main mw_code_Main_to) rfl rfl rfl (by decide +kernel) ⟨Nat.le_of_ble_eq_true rfl, Nat.le_of_ble_eq_true rfl⟩) ⟨fun a U g mk q => by obtain ⟨q0, q1, qP, qK, qD⟩ := q; exact ⟨q0, q1, qP, va_K.moved (u := U) (U := U.calling g mk a) (Vm.Alike.refl U.vm) qK, qD⟩, va_recv hK hPc (ci := 7) (q0 := 0) rfl rfl, fun U hU hW => ⟨rfl, by rw [hU], by rw [hU]; exact hPc, va_K.moved hW.alike hK, hDc.weaken (fun _ _ _ _ => trivial)⟩⟩ rfl rfl hl.1 rfl (lv_room (Nat.le_of_ble_eq_true rfl)) d_Law_to_7 ⟨Nat.le_of_ble_eq_true rfl, Nat.le_of_ble_eq_true rfl⟩) hS (fun q _ h => hFc q h) hFc (fun r_2 u t H1 locs ht hvm hw hB hz1 hk1 hS => ?_)
  obtain ⟨pox__1, rfl⟩ : ∃ z, z = u := ⟨_, rfl⟩
  try dsimp only at hw hB
  obtain ⟨hP1, hK1, hD1⟩ := hB
  rw [ht] at hP1
  obtain ⟨hP, hD⟩ := va_join (wr := [(o0, .inl (cJ, 1, .inr (.inl of)))]) (w1 := [(m0, .inr (7, [.int ((nI N)), .int ((nI OU)), .ref b0, .ref t0, .ref f0, .ref g0, .ref k0, .ref v0, .ref d0, .int hk, .int pox__1])), (b0, .inr (1, [.ref a0, .int ((nI OU)), .ref b1, .ref b2, .int ((nI M))])), (b1, .inl (cI, 24, .inl prod)), (b2, .inl (cI, 48, .inl ((upd kind (C * 2 + J) z))))]) hP hD [0, 1, 2, 3] [4] rfl rfl (by decide) (by decide) hk1 hFc hP1 hD1
  clear hPc hDc hFc hP1 hK1 hD1 hk1 hz1 hvm ht
  generalize H1 = H at hP hS ⊢
  have hP : va_P (dC, dI) classes [(o0, .inl (cJ, 1, .inr (.inl of))), (m0, .inr (7, [.int ((nI N)), .int ((nI OU)), .ref b0, .ref t0, .ref f0, .ref g0, .ref k0, .ref v0, .ref d0, .int hk, .int pox__1])), (b0, .inr (1, [.ref a0, .int ((nI OU)), .ref b1, .ref b2, .int ((nI M))])), (b1, .inl (cI, 24, .inl prod)), (b2, .inl (cI, 48, .inl ((upd kind (C * 2 + J) z))))] H := hP
  have hD : va_D A [(o0, .inl (cJ, 1, .inr (.inl of))), (m0, .inr (7, [.int ((nI N)), .int ((nI OU)), .ref b0, .ref t0, .ref f0, .ref g0, .ref k0, .ref v0, .ref d0, .int hk, .int pox__1])), (b0, .inr (1, [.ref a0, .int ((nI OU)), .ref b1, .ref b2, .int ((nI M))])), (b1, .inl (cI, 24, .inl prod)), (b2, .inl (cI, 48, .inl ((upd kind (C * 2 + J) z))))] := hD
  refine lv_if_eq (tgt := 17) hx hb d_Law_to_10 (by decide) (fun c_10 => ?_) (fun c_10 => ?_)
  · refine lv_lconst (v := 0) hx hb d_Law_to_17 (by decide) ?_
    refine va_last hx hb hK hP hD hS 0 1 rfl rfl (vp_in_nI (n := 0) (N := 1) (by omega) (by omega)) d_Law_to_18 (fun H locs hP hD hS => ?_)
    have hP : va_P (dC, dI) classes [(o0, .inl (cJ, 1, .inr (.inl ((vp_updL of (0 : Int32).toNatClampNeg ((0 : Int64))))))), (m0, .inr (7, [.int ((nI N)), .int ((nI OU)), .ref b0, .ref t0, .ref f0, .ref g0, .ref k0, .ref v0, .ref d0, .int hk, .int pox__1])), (b0, .inr (1, [.ref a0, .int ((nI OU)), .ref b1, .ref b2, .int ((nI M))])), (b1, .inl (cI, 24, .inl prod)), (b2, .inl (cI, 48, .inl ((upd kind (C * 2 + J) z))))] H := hP
    have hD : va_D A [(o0, .inl (cJ, 1, .inr (.inl ((vp_updL of (0 : Int32).toNatClampNeg ((0 : Int64))))))), (m0, .inr (7, [.int ((nI N)), .int ((nI OU)), .ref b0, .ref t0, .ref f0, .ref g0, .ref k0, .ref v0, .ref d0, .int hk, .int pox__1])), (b0, .inr (1, [.ref a0, .int ((nI OU)), .ref b1, .ref b2, .int ((nI M))])), (b1, .inl (cI, 24, .inl prod)), (b2, .inl (cI, 48, .inl ((upd kind (C * 2 + J) z))))] := hD
    refine lv_goto (tgt := 30) hx hb d_Law_to_19 (by decide) ?_
    refine lv_iconst (v := 0) hx hb d_Law_to_30 (by decide) ?_
    have hP9 := hP.sub (ws' := [(m0, .inr (7, [.int ((nI N)), .int ((nI OU)), .ref b0, .ref t0, .ref f0, .ref g0, .ref k0, .ref v0, .ref d0, .int hk, .int pox__1])), (b0, .inr (1, [.ref a0, .int ((nI OU)), .ref b1, .ref b2, .int ((nI M))])), (b1, .inl (cI, 24, .inl prod)), (b2, .inl (cI, 48, .inl ((upd kind (C * 2 + J) z)))), (o0, .inl (cJ, 1, .inr (.inl (((vp_updL of (0 : Int32).toNatClampNeg ((0 : Int64))))))))]) [1, 2, 3, 4, 0] rfl
    have hD9 := hD.sub (ws' := [(m0, .inr (7, [.int ((nI N)), .int ((nI OU)), .ref b0, .ref t0, .ref f0, .ref g0, .ref k0, .ref v0, .ref d0, .int hk, .int pox__1])), (b0, .inr (1, [.ref a0, .int ((nI OU)), .ref b1, .ref b2, .int ((nI M))])), (b1, .inl (cI, 24, .inl prod)), (b2, .inl (cI, 48, .inl ((upd kind (C * 2 + J) z)))), (o0, .inl (cJ, 1, .inr (.inl (((vp_updL of (0 : Int32).toNatClampNeg ((0 : Int64))))))))]) [1, 2, 3, 4, 0] (by decide) rfl
    refine W.widen (k := 2) (n := 12) (Nat.le_of_ble_eq_true rfl) (Nat.le_of_ble_eq_true rfl) ?_
    refine xt_imp (fun t h => xt_ofMQ t h) ?_
    exact W.iret (v := 0) hx hb hr (fun t ht hW => ⟨rfl, ⟨pox__1, (vp_updL of (0 : Int32).toNatClampNeg ((0 : Int64))), ⟨hw.2, rbl0 hw.1 c_10⟩, by rw [ht]; exact hP9, va_K.moved hW.alike hK, hD9⟩, hS.F ht⟩) hS.2.2 d_Law_to_31
  · refine lv_lconst (v := 1) hx hb d_Law_to_13 (by decide) ?_
    refine lv_goto (tgt := 18) hx hb d_Law_to_14 (by decide) ?_
    refine va_last hx hb hK hP hD hS 0 1 rfl rfl (vp_in_nI (n := 0) (N := 1) (by omega) (by omega)) d_Law_to_18 (fun H locs hP hD hS => ?_)
    have hP : va_P (dC, dI) classes [(o0, .inl (cJ, 1, .inr (.inl ((vp_updL of (0 : Int32).toNatClampNeg ((1 : Int64))))))), (m0, .inr (7, [.int ((nI N)), .int ((nI OU)), .ref b0, .ref t0, .ref f0, .ref g0, .ref k0, .ref v0, .ref d0, .int hk, .int pox__1])), (b0, .inr (1, [.ref a0, .int ((nI OU)), .ref b1, .ref b2, .int ((nI M))])), (b1, .inl (cI, 24, .inl prod)), (b2, .inl (cI, 48, .inl ((upd kind (C * 2 + J) z))))] H := hP
    have hD : va_D A [(o0, .inl (cJ, 1, .inr (.inl ((vp_updL of (0 : Int32).toNatClampNeg ((1 : Int64))))))), (m0, .inr (7, [.int ((nI N)), .int ((nI OU)), .ref b0, .ref t0, .ref f0, .ref g0, .ref k0, .ref v0, .ref d0, .int hk, .int pox__1])), (b0, .inr (1, [.ref a0, .int ((nI OU)), .ref b1, .ref b2, .int ((nI M))])), (b1, .inl (cI, 24, .inl prod)), (b2, .inl (cI, 48, .inl ((upd kind (C * 2 + J) z))))] := hD
    refine lv_goto (tgt := 30) hx hb d_Law_to_19 (by decide) ?_
    refine lv_iconst (v := 0) hx hb d_Law_to_30 (by decide) ?_
    have hP9 := hP.sub (ws' := [(m0, .inr (7, [.int ((nI N)), .int ((nI OU)), .ref b0, .ref t0, .ref f0, .ref g0, .ref k0, .ref v0, .ref d0, .int hk, .int pox__1])), (b0, .inr (1, [.ref a0, .int ((nI OU)), .ref b1, .ref b2, .int ((nI M))])), (b1, .inl (cI, 24, .inl prod)), (b2, .inl (cI, 48, .inl ((upd kind (C * 2 + J) z)))), (o0, .inl (cJ, 1, .inr (.inl (((vp_updL of (0 : Int32).toNatClampNeg ((1 : Int64))))))))]) [1, 2, 3, 4, 0] rfl
    have hD9 := hD.sub (ws' := [(m0, .inr (7, [.int ((nI N)), .int ((nI OU)), .ref b0, .ref t0, .ref f0, .ref g0, .ref k0, .ref v0, .ref d0, .int hk, .int pox__1])), (b0, .inr (1, [.ref a0, .int ((nI OU)), .ref b1, .ref b2, .int ((nI M))])), (b1, .inl (cI, 24, .inl prod)), (b2, .inl (cI, 48, .inl ((upd kind (C * 2 + J) z)))), (o0, .inl (cJ, 1, .inr (.inl (((vp_updL of (0 : Int32).toNatClampNeg ((1 : Int64))))))))]) [1, 2, 3, 4, 0] (by decide) rfl
    refine W.widen (k := 2) (n := 12) (Nat.le_of_ble_eq_true rfl) (Nat.le_of_ble_eq_true rfl) ?_
    refine xt_imp (fun t h => xt_ofMQ t h) ?_
    exact W.iret (v := 0) hx hb hr (fun t ht hW => ⟨rfl, ⟨pox__1, (vp_updL of (0 : Int32).toNatClampNeg ((1 : Int64))), ⟨hw.2, rbl1 hw.1 c_10⟩, by rw [ht]; exact hP9, va_K.moved hW.alike hK, hD9⟩, hS.F ht⟩) hS.2.2 d_Law_to_31
