/-! ===== constructors ===== -/
theorem pw_s (i : Nat) : nI (3 ^ i) * 3 = nI (3 ^ (i + 1)) := by rw [show (3 : Int32) = nI 3 from rfl, pk_mul, Nat.pow_succ]
theorem pw_m {Z : Nat} (h : Z ≤ 81) : (if 81 < nI Z then 81 else nI Z) = nI Z := if_neg (fun c => absurd ((nI_ltI (a := 81) (b := Z) (by omega) (by omega)).mp c) (by omega))
set_option maxHeartbeats 1000000 in
set_option maxRecDepth 100000 in
theorem lp_Products_init1 {p : Program} {e : Env} {s : State} {m : MethodId} {args : Array Value} {below : List Frame} {meth : Method} {c : Code} {Q : State → Prop} (l : Launch) (dC : Nat → ClassId) (dI : Nat → Nat → Nat) (cI cJ : ClassId) (h0 : Nat) (N : Nat) (Z : Nat) (PW : Nat) (hN : N ≤ 4) (hZ : 3 ^ N = Z) (hZ8 : Z ≤ 81) (hPW : (1 : Int32) <<< (nI N &&& 31) = nI PW ∧ PW ≤ 16) (x1 : Nat) (x2 : Nat) (x3 : Nat)  (hx : p.tables.exec = Jvm.exec) (hb : c.code = b_Products_init) (hts : ∀ w ∈ lwg, w.before args s = true) (hown : s.vm.findClass R_Products = some m.cls) (hml : c.maxLocals = 4) (hK : va_K (dC, dI) classes [(cI, .int), (cJ, .long)] s) {A : Nat → Prop} (hA : ∀ q : Nat, s.heap.size ≤ q → A q) (kk : ∀ (H : Heap) (locs : List Loc) (ls : Array Slot), va_P (dC, dI) classes [(h0, .inr (5, [.int ((nI N)), .int 0, .ref x1, .ref x2, .ref x3])), (x1, .inl (cI, 81, .inl ((fun _ => 0)))), (x2, .inl (cI, 81, .inl ((fun _ => 0)))), (x3, .inl (cI, 81, .inl ((fun _ => 0))))] H → va_D A [(h0, .inr (5, [.int ((nI N)), .int 0, .ref x1, .ref x2, .ref x3])), (x1, .inl (cI, 81, .inl ((fun _ => 0)))), (x2, .inl (cI, 81, .inl ((fun _ => 0)))), (x3, .inl (cI, 81, .inl ((fun _ => 0))))] → va_S A s.heap H locs → lv_has ls 4 [(0, .ref h0), (1, .int ((nI N))), (2, .int ((nI (3 ^ N))))] → W p l e ({ frames := 1, cells := 3, slots := 243, locals := 24 } : Room) s m args below meth c H locs 3 243 Q (F0 m 52 ls [])) : ∀ (fu i : Nat), N - i < fu → i ≤ N → ∀ (H : Heap) (locs : List Loc) (ls : Array Slot), va_P (dC, dI) classes [(h0, .inr (5, [.int ((nI N)), .int 0, .ref x1, .ref x2, .ref x3])), (x1, .inl (cI, 81, .inl ((fun _ => 0)))), (x2, .inl (cI, 81, .inl ((fun _ => 0)))), (x3, .inl (cI, 81, .inl ((fun _ => 0))))] H → va_D A [(h0, .inr (5, [.int ((nI N)), .int 0, .ref x1, .ref x2, .ref x3])), (x1, .inl (cI, 81, .inl ((fun _ => 0)))), (x2, .inl (cI, 81, .inl ((fun _ => 0)))), (x3, .inl (cI, 81, .inl ((fun _ => 0))))] → va_S A s.heap H locs → lv_has ls 4 [(0, .ref h0), (1, .int ((nI N))), (2, .int ((nI (3 ^ i)))), (3, .int ((nI i)))] → W p l e ({ frames := 1, cells := 3, slots := 243, locals := 24 } : Room) s m args below meth c H locs 3 243 Q (F0 m 37 ls []) := by
  intro fu
  induction fu with
  | zero => intro i h; omega
  | succ fu ih =>
    intro i hfu hle H locs ls hP hD hS hl
    refine lv_iload_n hx hb d_Products_init_37 rfl (lv_at hl 3 rfl) ?_
    refine lv_iload_n hx hb d_Products_init_38 rfl (lv_at hl 1 rfl) ?_
    refine lv_icmp_ge (tgt := 52) hx hb d_Products_init_39 (by decide) (fun c_39 => ?_) (fun c_39 => ?_)
    · have hE : i = N := Nat.le_antisymm hle ((nI_leI (a := N) (b := i) (by omega) (by omega)).mp c_39)
      exact kk _ _ ls (by subst hE; exact hP.sub [0, 1, 2, 3] rfl) (by subst hE; exact hD.sub [0, 1, 2, 3] (by decide) rfl) hS (by subst hE; exact lv_sub hl [0, 1, 2] rfl)
    · have hlt : i < N := Nat.lt_of_not_le (fun h => c_39 ((nI_leI (a := N) (b := i) (by omega) (by omega)).mpr h))
      refine lv_iload_n hx hb d_Products_init_42 rfl (lv_at hl 2 rfl) ?_
      refine lv_iconst (v := 3) hx hb d_Products_init_43 (by decide) ?_
      refine lv_imul hx hb d_Products_init_44 ?_
      refine w_ti (show _ = nI (3 ^ (i + 1)) from pw_s i) ?_
      refine lv_istore_n (lv' := [(2, .int ((nI (3 ^ (i + 1))))), (0, .ref h0), (1, .int ((nI N))), (3, .int ((nI i)))]) hx hb d_Products_init_45 rfl hl (by decide) rfl (fun ls hl => ?_)
      refine lv_iinc (v := (nI (i + 1))) (lv' := [(3, .int ((nI (i + 1)))), (2, .int ((nI (3 ^ (i + 1))))), (0, .ref h0), (1, .int ((nI N)))]) hx hb d_Products_init_46 hl (k := 3) rfl (show nI i + 1 = nI (i + 1) from nI_1 i) (by decide) rfl (fun ls hl => ?_)
      refine lv_goto (tgt := 37) hx hb d_Products_init_49 (by decide) ?_
      exact ih (i + 1) (by omega) (by omega) _ _ ls (hP.sub [0, 1, 2, 3] rfl) (hD.sub [0, 1, 2, 3] (by decide) rfl) hS (lv_sub hl [2, 3, 1, 0] rfl)
set_option maxHeartbeats 1000000 in
set_option maxRecDepth 100000 in
theorem lp_Products_init2 {p : Program} {e : Env} {s : State} {m : MethodId} {args : Array Value} {below : List Frame} {meth : Method} {c : Code} {Q : State → Prop} (l : Launch) (dC : Nat → ClassId) (dI : Nat → Nat → Nat) (cI cJ : ClassId) (h0 : Nat) (N : Nat) (Z : Nat) (PW : Nat) (hN : N ≤ 4) (hZ : 3 ^ N = Z) (hZ8 : Z ≤ 81) (hPW : (1 : Int32) <<< (nI N &&& 31) = nI PW ∧ PW ≤ 16) (x1 : Nat) (x2 : Nat) (x3 : Nat)  (hx : p.tables.exec = Jvm.exec) (hb : c.code = b_Products_init) (hts : ∀ w ∈ lwg, w.before args s = true) (hown : s.vm.findClass R_Products = some m.cls) (hml : c.maxLocals = 4) (hK : va_K (dC, dI) classes [(cI, .int), (cJ, .long)] s) {A : Nat → Prop} (hA : ∀ q : Nat, s.heap.size ≤ q → A q) (kk : ∀ (H : Heap) (locs : List Loc) (ls : Array Slot), va_P (dC, dI) classes [(h0, .inr (5, [.int ((nI N)), .int ((nI Z)), .ref x1, .ref x2, .ref x3])), (x1, .inl (cI, 81, .inl ((stPr N PW Z).1))), (x2, .inl (cI, 81, .inl ((stPr N PW Z).2.1))), (x3, .inl (cI, 81, .inl ((stPr N PW Z).2.2)))] H → va_D A [(h0, .inr (5, [.int ((nI N)), .int ((nI Z)), .ref x1, .ref x2, .ref x3])), (x1, .inl (cI, 81, .inl ((stPr N PW Z).1))), (x2, .inl (cI, 81, .inl ((stPr N PW Z).2.1))), (x3, .inl (cI, 81, .inl ((stPr N PW Z).2.2)))] → va_S A s.heap H locs → lv_has ls 4 [(0, .ref h0)] → W p l e ({ frames := 1, cells := 3, slots := 243, locals := 24 } : Room) s m args below meth c H locs 3 243 Q (F0 m 88 ls [])) : ∀ (fu i : Nat), Z - i < fu → i ≤ Z → ∀ (H : Heap) (locs : List Loc) (ls : Array Slot), va_P (dC, dI) classes [(h0, .inr (5, [.int ((nI N)), .int ((nI Z)), .ref x1, .ref x2, .ref x3])), (x1, .inl (cI, 81, .inl ((stPr N PW i).1))), (x2, .inl (cI, 81, .inl ((stPr N PW i).2.1))), (x3, .inl (cI, 81, .inl ((stPr N PW i).2.2)))] H → va_D A [(h0, .inr (5, [.int ((nI N)), .int ((nI Z)), .ref x1, .ref x2, .ref x3])), (x1, .inl (cI, 81, .inl ((stPr N PW i).1))), (x2, .inl (cI, 81, .inl ((stPr N PW i).2.1))), (x3, .inl (cI, 81, .inl ((stPr N PW i).2.2)))] → va_S A s.heap H locs → lv_has ls 4 [(0, .ref h0), (1, .int ((nI N))), (3, .int ((nI i)))] → W p l e ({ frames := 1, cells := 3, slots := 243, locals := 24 } : Room) s m args below meth c H locs 3 243 Q (F0 m 64 ls []) := by
  intro fu
  induction fu with
  | zero => intro i h; omega
  | succ fu ih =>
    intro i hfu hle H locs ls hP hD hS hl
    refine lv_iload_n hx hb d_Products_init_64 rfl (lv_at hl 2 rfl) ?_
    refine lv_aload_n hx hb d_Products_init_65 rfl (lv_at hl 0 rfl) ?_
    refine va_get (D := (dC, dI)) (ci := 5) (v := .int ((nI Z))) (C := R_Products) (T := F_Products) (N := 5) hx hb hts i_Products hown hK hP 0 rfl rfl 1 (by decide) (hts _ mw_fl_Products_31) (fun _ h9 => h9) rfl d_Products_init_66 ?_
    refine lv_icmp_ge (tgt := 88) hx hb d_Products_init_69 (by decide) (fun c_69 => ?_) (fun c_69 => ?_)
    · have hE : i = Z := Nat.le_antisymm hle ((nI_leI (a := Z) (b := i) (by omega) (by omega)).mp c_69)
      exact kk _ _ ls (by subst hE; exact hP.sub [0, 1, 2, 3] rfl) (by subst hE; exact hD.sub [0, 1, 2, 3] (by decide) rfl) hS (by subst hE; exact lv_sub hl [0] rfl)
    · have hlt : i < Z := Nat.lt_of_not_le (fun h => c_69 ((nI_leI (a := Z) (b := i) (by omega) (by omega)).mpr h))
      refine lv_aload_n hx hb d_Products_init_72 rfl (lv_at hl 0 rfl) ?_
      refine lv_iload_n hx hb d_Products_init_73 rfl (lv_at hl 2 rfl) ?_
      have hPc := hP.sub (ws' := [(h0, .inr (5, [.int ((nI N)), .int ((nI Z)), .ref x1, .ref x2, .ref x3])), (x1, .inl (cI, 81, .inl ((stPr N PW i).1))), (x2, .inl (cI, 81, .inl ((stPr N PW i).2.1))), (x3, .inl (cI, 81, .inl ((stPr N PW i).2.2)))]) [0, 1, 2, 3] rfl
      have hDc := hD.sub (ws' := [(h0, .inr (5, [.int ((nI N)), .int ((nI Z)), .ref x1, .ref x2, .ref x3])), (x1, .inl (cI, 81, .inl ((stPr N PW i).1))), (x2, .inl (cI, 81, .inl ((stPr N PW i).2.1))), (x3, .inl (cI, 81, .inl ((stPr N PW i).2.2)))]) [0, 1, 2, 3] (by decide) rfl
      have hFc := va_free (wc := [(h0, .inr (5, [.int ((nI N)), .int ((nI Z)), .ref x1, .ref x2, .ref x3])), (x1, .inl (cI, 81, .inl ((stPr N PW i).1))), (x2, .inl (cI, 81, .inl ((stPr N PW i).2.1))), (x3, .inl (cI, 81, .inl ((stPr N PW i).2.2)))]) hD hS hA [0, 1, 2, 3] rfl
      refine va_callv (va_runV (As := [.int ((nI i))]) (rest := []) ⟨hx, hb, hml, hown, hts⟩ (c_Products_fillDigits l dC dI cI cJ _ h0 x1 x2 x3 N (nI Z) ((stPr N PW i).1) ((stPr N PW i).2.1) ((stPr N PW i).2.2) i hN (by omega)) (cwV 1 hts (ct_goodV mw_ml_Products_34 mw_im_Products_fillDigits mw_se_Products_fillDigits mw_ini_Products mw_code_Products_fillDigits) rfl rfl rfl (by decide +kernel) ⟨Nat.le_of_ble_eq_true rfl, Nat.le_of_ble_eq_true rfl⟩) ⟨fun a U g mk q => by obtain ⟨q0, q1, qP, qK, qD⟩ := q; exact ⟨q0, q1, qP, va_K.moved (u := U) (U := U.calling g mk a) (Vm.Alike.refl U.vm) qK, qD⟩, va_recv hK hPc (ci := 5) (q0 := 0) rfl rfl, fun U hU hW => ⟨rfl, by rw [hU], by rw [hU]; exact hPc, va_K.moved hW.alike hK, hDc.weaken (fun _ _ _ _ => trivial)⟩⟩ rfl rfl hl.1 rfl (lv_room (Nat.le_of_ble_eq_true rfl)) d_Products_init_74 ⟨Nat.le_of_ble_eq_true rfl, Nat.le_of_ble_eq_true rfl⟩) hS (fun q _ h => hFc q h) hFc (fun u t H1 locs ht hvm hw hB hz1 hk1 hS => ?_)
      obtain ⟨hP1, hK1, hD1⟩ := hB
      rw [ht] at hP1
      obtain ⟨hP, hD⟩ := va_join (wr := []) (w1 := [(h0, .inr (5, [.int ((nI N)), .int ((nI Z)), .ref x1, .ref x2, .ref x3])), (x1, .inl (cI, 81, .inl ((stFd N i N (((stPr N PW i).1), ((stPr N PW i).2.1))).1))), (x2, .inl (cI, 81, .inl ((stFd N i N (((stPr N PW i).1), ((stPr N PW i).2.1))).2))), (x3, .inl (cI, 81, .inl (((stPr N PW i).2.2))))]) hP hD [0, 1, 2, 3] [] rfl rfl (by decide) (by decide) hk1 hFc hP1 hD1
      clear hPc hDc hFc hP1 hK1 hD1 hk1 hz1 hvm ht
      generalize H1 = H at hP hS ⊢
      have hP : va_P (dC, dI) classes [(h0, .inr (5, [.int ((nI N)), .int ((nI Z)), .ref x1, .ref x2, .ref x3])), (x1, .inl (cI, 81, .inl ((stFd N i N (((stPr N PW i).1), ((stPr N PW i).2.1))).1))), (x2, .inl (cI, 81, .inl ((stFd N i N (((stPr N PW i).1), ((stPr N PW i).2.1))).2))), (x3, .inl (cI, 81, .inl (((stPr N PW i).2.2))))] H := hP
      have hD : va_D A [(h0, .inr (5, [.int ((nI N)), .int ((nI Z)), .ref x1, .ref x2, .ref x3])), (x1, .inl (cI, 81, .inl ((stFd N i N (((stPr N PW i).1), ((stPr N PW i).2.1))).1))), (x2, .inl (cI, 81, .inl ((stFd N i N (((stPr N PW i).1), ((stPr N PW i).2.1))).2))), (x3, .inl (cI, 81, .inl (((stPr N PW i).2.2))))] := hD
      refine lv_aload_n hx hb d_Products_init_77 rfl (lv_at hl 0 rfl) ?_
      refine lv_iload_n hx hb d_Products_init_78 rfl (lv_at hl 2 rfl) ?_
      have hPc := hP.sub (ws' := [(h0, .inr (5, [.int ((nI N)), .int ((nI Z)), .ref x1, .ref x2, .ref x3])), (x1, .inl (cI, 81, .inl ((stFd N i N (((stPr N PW i).1), ((stPr N PW i).2.1))).1))), (x2, .inl (cI, 81, .inl ((stFd N i N (((stPr N PW i).1), ((stPr N PW i).2.1))).2))), (x3, .inl (cI, 81, .inl (((stPr N PW i).2.2))))]) [0, 1, 2, 3] rfl
      have hDc := hD.sub (ws' := [(h0, .inr (5, [.int ((nI N)), .int ((nI Z)), .ref x1, .ref x2, .ref x3])), (x1, .inl (cI, 81, .inl ((stFd N i N (((stPr N PW i).1), ((stPr N PW i).2.1))).1))), (x2, .inl (cI, 81, .inl ((stFd N i N (((stPr N PW i).1), ((stPr N PW i).2.1))).2))), (x3, .inl (cI, 81, .inl (((stPr N PW i).2.2))))]) [0, 1, 2, 3] (by decide) rfl
      have hFc := va_free (wc := [(h0, .inr (5, [.int ((nI N)), .int ((nI Z)), .ref x1, .ref x2, .ref x3])), (x1, .inl (cI, 81, .inl ((stFd N i N (((stPr N PW i).1), ((stPr N PW i).2.1))).1))), (x2, .inl (cI, 81, .inl ((stFd N i N (((stPr N PW i).1), ((stPr N PW i).2.1))).2))), (x3, .inl (cI, 81, .inl (((stPr N PW i).2.2))))]) hD hS hA [0, 1, 2, 3] rfl
      refine va_callv (va_runV (As := [.int ((nI i))]) (rest := []) ⟨hx, hb, hml, hown, hts⟩ (c_Products_fillHad l dC dI cI cJ _ h0 x1 x2 x3 N (nI Z) ((stFd N i N (((stPr N PW i).1), ((stPr N PW i).2.1))).1) ((stFd N i N (((stPr N PW i).1), ((stPr N PW i).2.1))).2) ((stPr N PW i).2.2) i PW hN (by omega) hPW) (cwV 1 hts (ct_goodV mw_ml_Products_38 mw_im_Products_fillHad mw_se_Products_fillHad mw_ini_Products mw_code_Products_fillHad) rfl rfl rfl (by decide +kernel) ⟨Nat.le_of_ble_eq_true rfl, Nat.le_of_ble_eq_true rfl⟩) ⟨fun a U g mk q => by obtain ⟨q0, q1, qP, qK, qD⟩ := q; exact ⟨q0, q1, qP, va_K.moved (u := U) (U := U.calling g mk a) (Vm.Alike.refl U.vm) qK, qD⟩, va_recv hK hPc (ci := 5) (q0 := 0) rfl rfl, fun U hU hW => ⟨rfl, by rw [hU], by rw [hU]; exact hPc, va_K.moved hW.alike hK, hDc.weaken (fun _ _ _ _ => trivial)⟩⟩ rfl rfl hl.1 rfl (lv_room (Nat.le_of_ble_eq_true rfl)) d_Products_init_79 ⟨Nat.le_of_ble_eq_true rfl, Nat.le_of_ble_eq_true rfl⟩) hS (fun q _ h => hFc q h) hFc (fun u t H1 locs ht hvm hw hB hz1 hk1 hS => ?_)
      obtain ⟨hP1, hK1, hD1⟩ := hB
      rw [ht] at hP1
      obtain ⟨hP, hD⟩ := va_join (wr := []) (w1 := [(h0, .inr (5, [.int ((nI N)), .int ((nI Z)), .ref x1, .ref x2, .ref x3])), (x1, .inl (cI, 81, .inl (((stFd N i N (((stPr N PW i).1), ((stPr N PW i).2.1))).1)))), (x2, .inl (cI, 81, .inl (((stFd N i N (((stPr N PW i).1), ((stPr N PW i).2.1))).2)))), (x3, .inl (cI, 81, .inl ((stHad ((stFd N i N (((stPr N PW i).1), ((stPr N PW i).2.1))).1) ((stFd N i N (((stPr N PW i).1), ((stPr N PW i).2.1))).2) i PW ((stPr N PW i).2.2)))))]) hP hD [0, 1, 2, 3] [] rfl rfl (by decide) (by decide) hk1 hFc hP1 hD1
      clear hPc hDc hFc hP1 hK1 hD1 hk1 hz1 hvm ht
      generalize H1 = H at hP hS ⊢
      have hP : va_P (dC, dI) classes [(h0, .inr (5, [.int ((nI N)), .int ((nI Z)), .ref x1, .ref x2, .ref x3])), (x1, .inl (cI, 81, .inl (((stFd N i N (((stPr N PW i).1), ((stPr N PW i).2.1))).1)))), (x2, .inl (cI, 81, .inl (((stFd N i N (((stPr N PW i).1), ((stPr N PW i).2.1))).2)))), (x3, .inl (cI, 81, .inl ((stHad ((stFd N i N (((stPr N PW i).1), ((stPr N PW i).2.1))).1) ((stFd N i N (((stPr N PW i).1), ((stPr N PW i).2.1))).2) i PW ((stPr N PW i).2.2)))))] H := hP
      have hD : va_D A [(h0, .inr (5, [.int ((nI N)), .int ((nI Z)), .ref x1, .ref x2, .ref x3])), (x1, .inl (cI, 81, .inl (((stFd N i N (((stPr N PW i).1), ((stPr N PW i).2.1))).1)))), (x2, .inl (cI, 81, .inl (((stFd N i N (((stPr N PW i).1), ((stPr N PW i).2.1))).2)))), (x3, .inl (cI, 81, .inl ((stHad ((stFd N i N (((stPr N PW i).1), ((stPr N PW i).2.1))).1) ((stFd N i N (((stPr N PW i).1), ((stPr N PW i).2.1))).2) i PW ((stPr N PW i).2.2)))))] := hD
      refine lv_iinc (v := (nI (i + 1))) (lv' := [(3, .int ((nI (i + 1)))), (0, .ref h0), (1, .int ((nI N)))]) hx hb d_Products_init_82 hl (k := 2) rfl (show nI i + 1 = nI (i + 1) from nI_1 i) (by decide) rfl (fun ls hl => ?_)
      refine lv_goto (tgt := 64) hx hb d_Products_init_85 (by decide) ?_
      exact ih (i + 1) (by omega) (by omega) _ _ ls (hP.sub [0, 1, 2, 3] rfl) (hD.sub [0, 1, 2, 3] (by decide) rfl) hS (lv_sub hl [1, 2, 0] rfl)
set_option maxHeartbeats 1000000 in
set_option maxRecDepth 100000 in
theorem c_Products_init (l : Launch) (dC : Nat → ClassId) (dI : Nat → Nat → Nat) (cI cJ : ClassId) (sz0 : Nat) (h0 : Nat) (N : Nat) (Z : Nat) (PW : Nat) (hN : N ≤ 4) (hZ : 3 ^ N = Z) (hZ8 : Z ≤ 81) (hPW : (1 : Int32) <<< (nI N &&& 31) = nI PW ∧ PW ≤ 16) : Met l y_Products_init (ct y_Products_init b_Products_init 4 (none)) ({ frames := 1, cells := 3, slots := 243, locals := 24 }) (va_Pc [.ref h0, .int ((nI N))] (fun U => U.heap.size = sz0 ∧ va_P (dC, dI) classes [(h0, .inr (5, [.int 0, .int 0, .null, .null, .null]))] U.heap ∧ va_K (dC, dI) classes [(cI, .int), (cJ, .long)] U ∧ va_D (fun _ => True) [(h0, .inr (5, [.int 0, .int 0, .null, .null, .null]))])) (va_Qv (fun _ : Unit => True) (fun _ t => ∃ x1 x2 x3 : Nat, at_w dC dI cI cJ (va_A [(h0, .inr (5, [.int 0, .int 0, .null, .null, .null]))] sz0) [(h0, .inr (5, [.int ((nI N)), .int ((nI Z)), .ref x1, .ref x2, .ref x3])), (x1, .inl (cI, 81, .inl ((tPr N PW Z).1))), (x2, .inl (cI, 81, .inl ((tPr N PW Z).2.1))), (x3, .inl (cI, 81, .inl ((tPr N PW Z).2.2)))] t) (va_A [(h0, .inr (5, [.int 0, .int 0, .null, .null, .null]))] sz0)) 3 243 (va_A [(h0, .inr (5, [.int 0, .int 0, .null, .null, .null]))] sz0) := by
  refine Met.ofW (cc := b_Products_init) (maxL := 4) (ret := none) (by decide) rfl ?_
  intro p e s m args below meth c s₁ B hml hv
  obtain ⟨rfl, hsz, hP, hK, hD0⟩ := hv
  have hx := B.exec
  have hb := B.bytes
  have hr := B.returns
  have hts : ∀ w ∈ lwg, w.before _ s = true := fun w h => atoms_spec (ws := ct y_Products_init b_Products_init 4 (none)) B.pre w (List.mem_cons_of_mem _ h)
  have hown : s.vm.findClass R_Products = some m.cls := findClass_of_methodNamed B.named
  have hlocks := B.notSynchronized
  have hin : meth.name = "<init>" := (name_of_methodNamed B.named B.method).1
  subst hsz
  have hD := hD0.self (sz := s.heap.size)
  generalize hAe : va_A [(h0, .inr (5, [.int 0, .int 0, .null, .null, .null]))] s.heap.size = A at hD ⊢
  have hA : ∀ q : Nat, s.heap.size ≤ q → A q := fun q h => by rw [← hAe]; exact Or.inr h
  have hS : va_S A s.heap s.heap [] := va_S.rf
  have hl := lv_entry ([.ref h0, .int ((nI N))]) (n := 4) (Nat.le_of_ble_eq_true rfl)
  rw [lg_entry_eq]
  generalize (lg_sl ([.ref h0, .int ((nI N))]) ++ List.replicate (4 - (lg_sl ([.ref h0, .int ((nI N))])).length) Slot.unset).toArray = ls at hl ⊢
  have hl : lv_has ls 4 [(0, .ref h0), (1, .int ((nI N)))] := hl
  have hP : va_P (dC, dI) classes [(h0, .inr (5, [.int 0, .int 0, .null, .null, .null]))] s.heap := hP
  refine lv_aload_n hx hb d_Products_init_0 rfl (lv_at hl 0 rfl) ?_
  refine W.objInit hx hb hown (hts _ mw_ml_Products_3) (hts _ mw_im_JObject_init_V) (hts _ mw_code_JObject_init_V) rfl (by rw [hml]; exact hl.1) rfl d_Products_init_1 (Nat.le_of_ble_eq_true rfl) (Nat.le_of_ble_eq_true rfl) ?_
  refine lv_aload_n hx hb d_Products_init_4 rfl (lv_at hl 0 rfl) ?_
  refine lv_bipush (v := 81) hx hb d_Products_init_5 (by decide) ?_
  refine va_newa (D := (dC, dI)) (atype := .int) (N' := 81) hx hb (hts _ mw_arr_int) (ty := .int) rfl hK hP hD hS hA (a0 := (81, .inl (fun _ => 0))) (fun _ => rfl) (by decide) rfl (by decide) (Nat.le_of_ble_eq_true rfl) (Nat.le_of_ble_eq_true rfl) d_Products_init_7 (fun q_1 cA H hK9 hP hD hS => ?_)
  have e9 := nw_I hK9
  subst e9
  clear hK9
  have hP : va_P (dC, dI) classes [(h0, .inr (5, [.int 0, .int 0, .null, .null, .null])), (q_1, .inl (cI, 81, .inl ((fun _ => 0))))] H := hP
  have hD : va_D A [(h0, .inr (5, [.int 0, .int 0, .null, .null, .null])), (q_1, .inl (cI, 81, .inl ((fun _ => 0))))] := hD
  refine va_putF (D := (dC, dI)) (ci := 5) (v := .ref q_1) (ty := .array .int) (C := R_Products) (T := F_Products) (N := 5) hx hb hts i_Products t_Products t_Products_ok n_Products hown hK hP hD hS 0 rfl rfl 2 (by decide) (hts _ mw_fl_Products_9) (fun _ h9 => h9) rfl hin rfl (by decide +kernel) rfl rfl (Nat.le_of_ble_eq_true rfl) d_Products_init_9 (fun H locs hP hD hS => ?_)
  have hP : va_P (dC, dI) classes [(h0, .inr (5, [.int 0, .int 0, .ref q_1, .null, .null])), (q_1, .inl (cI, 81, .inl ((fun _ => 0))))] H := hP
  have hD : va_D A [(h0, .inr (5, [.int 0, .int 0, .ref q_1, .null, .null])), (q_1, .inl (cI, 81, .inl ((fun _ => 0))))] := hD
  refine lv_aload_n hx hb d_Products_init_12 rfl (lv_at hl 0 rfl) ?_
  refine lv_bipush (v := 81) hx hb d_Products_init_13 (by decide) ?_
  refine va_newa (D := (dC, dI)) (atype := .int) (N' := 81) hx hb (hts _ mw_arr_int) (ty := .int) rfl hK hP hD hS hA (a0 := (81, .inl (fun _ => 0))) (fun _ => rfl) (by decide) rfl (by decide) (Nat.le_of_ble_eq_true rfl) (Nat.le_of_ble_eq_true rfl) d_Products_init_15 (fun q_2 cA H hK9 hP hD hS => ?_)
  have e9 := nw_I hK9
  subst e9
  clear hK9
  have hP : va_P (dC, dI) classes [(h0, .inr (5, [.int 0, .int 0, .ref q_1, .null, .null])), (q_1, .inl (cI, 81, .inl ((fun _ => 0)))), (q_2, .inl (cI, 81, .inl ((fun _ => 0))))] H := hP
  have hD : va_D A [(h0, .inr (5, [.int 0, .int 0, .ref q_1, .null, .null])), (q_1, .inl (cI, 81, .inl ((fun _ => 0)))), (q_2, .inl (cI, 81, .inl ((fun _ => 0))))] := hD
  refine va_putF (D := (dC, dI)) (ci := 5) (v := .ref q_2) (ty := .array .int) (C := R_Products) (T := F_Products) (N := 5) hx hb hts i_Products t_Products t_Products_ok n_Products hown hK hP hD hS 0 rfl rfl 3 (by decide) (hts _ mw_fl_Products_15) (fun _ h9 => h9) rfl hin rfl (by decide +kernel) rfl rfl (Nat.le_of_ble_eq_true rfl) d_Products_init_17 (fun H locs hP hD hS => ?_)
  have hP : va_P (dC, dI) classes [(h0, .inr (5, [.int 0, .int 0, .ref q_1, .ref q_2, .null])), (q_1, .inl (cI, 81, .inl ((fun _ => 0)))), (q_2, .inl (cI, 81, .inl ((fun _ => 0))))] H := hP
  have hD : va_D A [(h0, .inr (5, [.int 0, .int 0, .ref q_1, .ref q_2, .null])), (q_1, .inl (cI, 81, .inl ((fun _ => 0)))), (q_2, .inl (cI, 81, .inl ((fun _ => 0))))] := hD
  refine lv_aload_n hx hb d_Products_init_20 rfl (lv_at hl 0 rfl) ?_
  refine lv_bipush (v := 81) hx hb d_Products_init_21 (by decide) ?_
  refine va_newa (D := (dC, dI)) (atype := .int) (N' := 81) hx hb (hts _ mw_arr_int) (ty := .int) rfl hK hP hD hS hA (a0 := (81, .inl (fun _ => 0))) (fun _ => rfl) (by decide) rfl (by decide) (Nat.le_of_ble_eq_true rfl) (Nat.le_of_ble_eq_true rfl) d_Products_init_23 (fun q_3 cA H hK9 hP hD hS => ?_)
  have e9 := nw_I hK9
  subst e9
  clear hK9
  have hP : va_P (dC, dI) classes [(h0, .inr (5, [.int 0, .int 0, .ref q_1, .ref q_2, .null])), (q_1, .inl (cI, 81, .inl ((fun _ => 0)))), (q_2, .inl (cI, 81, .inl ((fun _ => 0)))), (q_3, .inl (cI, 81, .inl ((fun _ => 0))))] H := hP
  have hD : va_D A [(h0, .inr (5, [.int 0, .int 0, .ref q_1, .ref q_2, .null])), (q_1, .inl (cI, 81, .inl ((fun _ => 0)))), (q_2, .inl (cI, 81, .inl ((fun _ => 0)))), (q_3, .inl (cI, 81, .inl ((fun _ => 0))))] := hD
  refine va_putF (D := (dC, dI)) (ci := 5) (v := .ref q_3) (ty := .array .int) (C := R_Products) (T := F_Products) (N := 5) hx hb hts i_Products t_Products t_Products_ok n_Products hown hK hP hD hS 0 rfl rfl 4 (by decide) (hts _ mw_fl_Products_18) (fun _ h9 => h9) rfl hin rfl (by decide +kernel) rfl rfl (Nat.le_of_ble_eq_true rfl) d_Products_init_25 (fun H locs hP hD hS => ?_)
  have hP : va_P (dC, dI) classes [(h0, .inr (5, [.int 0, .int 0, .ref q_1, .ref q_2, .ref q_3])), (q_1, .inl (cI, 81, .inl ((fun _ => 0)))), (q_2, .inl (cI, 81, .inl ((fun _ => 0)))), (q_3, .inl (cI, 81, .inl ((fun _ => 0))))] H := hP
  have hD : va_D A [(h0, .inr (5, [.int 0, .int 0, .ref q_1, .ref q_2, .ref q_3])), (q_1, .inl (cI, 81, .inl ((fun _ => 0)))), (q_2, .inl (cI, 81, .inl ((fun _ => 0)))), (q_3, .inl (cI, 81, .inl ((fun _ => 0))))] := hD
  refine lv_aload_n hx hb d_Products_init_28 rfl (lv_at hl 0 rfl) ?_
  refine lv_iload_n hx hb d_Products_init_29 rfl (lv_at hl 1 rfl) ?_
  refine va_putF (D := (dC, dI)) (ci := 5) (v := .int ((nI N))) (ty := .int) (C := R_Products) (T := F_Products) (N := 5) hx hb hts i_Products t_Products t_Products_ok n_Products hown hK hP hD hS 0 rfl rfl 0 (by decide) (hts _ mw_fl_Products_21) (fun _ h9 => h9) rfl hin rfl (by decide +kernel) rfl rfl (Nat.le_of_ble_eq_true rfl) d_Products_init_30 (fun H locs hP hD hS => ?_)
  have hP : va_P (dC, dI) classes [(h0, .inr (5, [.int ((nI N)), .int 0, .ref q_1, .ref q_2, .ref q_3])), (q_1, .inl (cI, 81, .inl ((fun _ => 0)))), (q_2, .inl (cI, 81, .inl ((fun _ => 0)))), (q_3, .inl (cI, 81, .inl ((fun _ => 0))))] H := hP
  have hD : va_D A [(h0, .inr (5, [.int ((nI N)), .int 0, .ref q_1, .ref q_2, .ref q_3])), (q_1, .inl (cI, 81, .inl ((fun _ => 0)))), (q_2, .inl (cI, 81, .inl ((fun _ => 0)))), (q_3, .inl (cI, 81, .inl ((fun _ => 0))))] := hD
  refine lv_iconst (v := 1) hx hb d_Products_init_33 (by decide) ?_
  refine lv_istore_n (lv' := [(2, .int 1), (0, .ref h0), (1, .int ((nI N)))]) hx hb d_Products_init_34 rfl hl (by decide) rfl (fun ls hl => ?_)
  refine lv_iconst (v := 0) hx hb d_Products_init_35 (by decide) ?_
  refine lv_istore_n (lv' := [(3, .int 0), (2, .int 1), (0, .ref h0), (1, .int ((nI N)))]) hx hb d_Products_init_36 rfl hl (by decide) rfl (fun ls hl => ?_)
  refine lp_Products_init1 l dC dI cI cJ h0 N Z PW hN hZ hZ8 hPW q_1 q_2 q_3  hx hb hts hown hml hK hA (fun H locs ls hP hD hS hl => ?_) (N + 1) 0 (by omega) (Nat.zero_le _) _ _ ls (hP.sub [0, 1, 2, 3] rfl) (hD.sub [0, 1, 2, 3] (by decide) rfl) hS (lv_sub hl [2, 3, 1, 0] rfl)
  have hP : va_P (dC, dI) classes [(h0, .inr (5, [.int ((nI N)), .int 0, .ref q_1, .ref q_2, .ref q_3])), (q_1, .inl (cI, 81, .inl ((fun _ => 0)))), (q_2, .inl (cI, 81, .inl ((fun _ => 0)))), (q_3, .inl (cI, 81, .inl ((fun _ => 0))))] H := hP
  have hD : va_D A [(h0, .inr (5, [.int ((nI N)), .int 0, .ref q_1, .ref q_2, .ref q_3])), (q_1, .inl (cI, 81, .inl ((fun _ => 0)))), (q_2, .inl (cI, 81, .inl ((fun _ => 0)))), (q_3, .inl (cI, 81, .inl ((fun _ => 0))))] := hD
  have hl : lv_has ls 4 [(0, .ref h0), (1, .int ((nI N))), (2, .int ((nI (3 ^ N))))] := hl
  refine lv_aload_n hx hb d_Products_init_52 rfl (lv_at hl 0 rfl) ?_
  refine lv_iload_n hx hb d_Products_init_53 rfl (lv_at hl 2 rfl) ?_
  refine lv_bipush (v := 81) hx hb d_Products_init_54 (by decide) ?_
  refine va_mmin hx hb (hml.trans hl.1.symm) hown (hts _ mw_ml_Products_25) (hts _ mw_st_JMath_min_III) (hts _ mw_ini_JMath) (hts _ mw_code_JMath_min_III) (Nat.le_of_ble_eq_true rfl) (Nat.le_of_ble_eq_true rfl) (Nat.le_of_ble_eq_true rfl) (Nat.le_of_ble_eq_true rfl) d_Products_init_56 ?_
  refine w_ti (show _ = nI Z from by rw [hZ]; exact pw_m hZ8) ?_
  refine va_putF (D := (dC, dI)) (ci := 5) (v := .int ((nI Z))) (ty := .int) (C := R_Products) (T := F_Products) (N := 5) hx hb hts i_Products t_Products t_Products_ok n_Products hown hK hP hD hS 0 rfl rfl 1 (by decide) (hts _ mw_fl_Products_31) (fun _ h9 => h9) rfl hin rfl (by decide +kernel) rfl rfl (Nat.le_of_ble_eq_true rfl) d_Products_init_59 (fun H locs hP hD hS => ?_)
  have hP : va_P (dC, dI) classes [(h0, .inr (5, [.int ((nI N)), .int ((nI Z)), .ref q_1, .ref q_2, .ref q_3])), (q_1, .inl (cI, 81, .inl ((fun _ => 0)))), (q_2, .inl (cI, 81, .inl ((fun _ => 0)))), (q_3, .inl (cI, 81, .inl ((fun _ => 0))))] H := hP
  have hD : va_D A [(h0, .inr (5, [.int ((nI N)), .int ((nI Z)), .ref q_1, .ref q_2, .ref q_3])), (q_1, .inl (cI, 81, .inl ((fun _ => 0)))), (q_2, .inl (cI, 81, .inl ((fun _ => 0)))), (q_3, .inl (cI, 81, .inl ((fun _ => 0))))] := hD
  refine lv_iconst (v := 0) hx hb d_Products_init_62 (by decide) ?_
  refine lv_istore_n (lv' := [(3, .int 0), (0, .ref h0), (1, .int ((nI N))), (2, .int ((nI (3 ^ N))))]) hx hb d_Products_init_63 rfl hl (by decide) rfl (fun ls hl => ?_)
  refine lp_Products_init2 l dC dI cI cJ h0 N Z PW hN hZ hZ8 hPW q_1 q_2 q_3  hx hb hts hown hml hK hA (fun H locs ls hP hD hS hl => ?_) (Z + 1) 0 (by omega) (Nat.zero_le _) _ _ ls (hP.sub [0, 1, 2, 3] rfl) (hD.sub [0, 1, 2, 3] (by decide) rfl) hS (lv_sub hl [1, 2, 0] rfl)
  have hP : va_P (dC, dI) classes [(h0, .inr (5, [.int ((nI N)), .int ((nI Z)), .ref q_1, .ref q_2, .ref q_3])), (q_1, .inl (cI, 81, .inl ((stPr N PW Z).1))), (q_2, .inl (cI, 81, .inl ((stPr N PW Z).2.1))), (q_3, .inl (cI, 81, .inl ((stPr N PW Z).2.2)))] H := hP
  have hD : va_D A [(h0, .inr (5, [.int ((nI N)), .int ((nI Z)), .ref q_1, .ref q_2, .ref q_3])), (q_1, .inl (cI, 81, .inl ((stPr N PW Z).1))), (q_2, .inl (cI, 81, .inl ((stPr N PW Z).2.1))), (q_3, .inl (cI, 81, .inl ((stPr N PW Z).2.2)))] := hD
  have hl : lv_has ls 4 [(0, .ref h0)] := hl
  have hP9 := hP.sub (ws' := [(h0, .inr (5, [.int ((nI N)), .int ((nI Z)), .ref q_1, .ref q_2, .ref q_3])), (q_1, .inl (cI, 81, .inl ((tPr N PW Z).1))), (q_2, .inl (cI, 81, .inl ((tPr N PW Z).2.1))), (q_3, .inl (cI, 81, .inl ((tPr N PW Z).2.2)))]) [0, 1, 2, 3] rfl
  have hD9 := hD.sub (ws' := [(h0, .inr (5, [.int ((nI N)), .int ((nI Z)), .ref q_1, .ref q_2, .ref q_3])), (q_1, .inl (cI, 81, .inl ((tPr N PW Z).1))), (q_2, .inl (cI, 81, .inl ((tPr N PW Z).2.1))), (q_3, .inl (cI, 81, .inl ((tPr N PW Z).2.2)))]) [0, 1, 2, 3] (by decide) rfl
  exact W.vret hx hb hr (fun t ht hW => ⟨⟨(), rfl, trivial, q_1, q_2, q_3, by rw [ht]; exact hP9, va_K.moved hW.alike hK, hD9⟩, hS.F ht⟩) hS.2.2 d_Products_init_88
set_option maxHeartbeats 1000000 in
set_option maxRecDepth 100000 in
theorem c_Cubes_init (l : Launch) (dC : Nat → ClassId) (dI : Nat → Nat → Nat) (cI cJ : ClassId) (sz0 : Nat) (h0 : Nat) (p0 : Nat) (o : Int32) : Met l y_Cubes_init (ct y_Cubes_init b_Cubes_init 3 (none)) ({ frames := 1, cells := 2, slots := 72, locals := 20 }) (va_Pc [.ref h0, .ref p0, .int o] (fun U => U.heap.size = sz0 ∧ va_P (dC, dI) classes [(h0, .inr (1, [.null, .int 0, .null, .null, .int 0]))] U.heap ∧ va_K (dC, dI) classes [(cI, .int), (cJ, .long)] U ∧ va_D (fun _ => True) [(h0, .inr (1, [.null, .int 0, .null, .null, .int 0]))])) (va_Qv (fun _ : Unit => True) (fun _ t => ∃ x1 x2 : Nat, at_w dC dI cI cJ (va_A [(h0, .inr (1, [.null, .int 0, .null, .null, .int 0]))] sz0) [(h0, .inr (1, [.ref p0, .int o, .ref x1, .ref x2, .int ((nI 0))])), (x1, .inl (cI, 24, .inl ((fun _ => 0)))), (x2, .inl (cI, 48, .inl ((fun _ => 0))))] t) (va_A [(h0, .inr (1, [.null, .int 0, .null, .null, .int 0]))] sz0)) 2 72 (va_A [(h0, .inr (1, [.null, .int 0, .null, .null, .int 0]))] sz0) := by
  refine Met.ofW (cc := b_Cubes_init) (maxL := 3) (ret := none) (by decide) rfl ?_
  intro p e s m args below meth c s₁ B hml hv
  obtain ⟨rfl, hsz, hP, hK, hD0⟩ := hv
  have hx := B.exec
  have hb := B.bytes
  have hr := B.returns
  have hts : ∀ w ∈ lwg, w.before _ s = true := fun w h => atoms_spec (ws := ct y_Cubes_init b_Cubes_init 3 (none)) B.pre w (List.mem_cons_of_mem _ h)
  have hown : s.vm.findClass R_Cubes = some m.cls := findClass_of_methodNamed B.named
  have hlocks := B.notSynchronized
  have hin : meth.name = "<init>" := (name_of_methodNamed B.named B.method).1
  subst hsz
  have hD := hD0.self (sz := s.heap.size)
  generalize hAe : va_A [(h0, .inr (1, [.null, .int 0, .null, .null, .int 0]))] s.heap.size = A at hD ⊢
  have hA : ∀ q : Nat, s.heap.size ≤ q → A q := fun q h => by rw [← hAe]; exact Or.inr h
  have hS : va_S A s.heap s.heap [] := va_S.rf
  have hl := lv_entry ([.ref h0, .ref p0, .int o]) (n := 3) (Nat.le_of_ble_eq_true rfl)
  rw [lg_entry_eq]
  generalize (lg_sl ([.ref h0, .ref p0, .int o]) ++ List.replicate (3 - (lg_sl ([.ref h0, .ref p0, .int o])).length) Slot.unset).toArray = ls at hl ⊢
  have hl : lv_has ls 3 [(0, .ref h0), (1, .ref p0), (2, .int o)] := hl
  have hP : va_P (dC, dI) classes [(h0, .inr (1, [.null, .int 0, .null, .null, .int 0]))] s.heap := hP
  refine lv_aload_n hx hb d_Cubes_init_0 rfl (lv_at hl 0 rfl) ?_
  refine W.objInit hx hb hown (hts _ mw_ml_Cubes_3) (hts _ mw_im_JObject_init_V) (hts _ mw_code_JObject_init_V) rfl (by rw [hml]; exact hl.1) rfl d_Cubes_init_1 (Nat.le_of_ble_eq_true rfl) (Nat.le_of_ble_eq_true rfl) ?_
  refine lv_aload_n hx hb d_Cubes_init_4 rfl (lv_at hl 0 rfl) ?_
  refine lv_bipush (v := 24) hx hb d_Cubes_init_5 (by decide) ?_
  refine va_newa (D := (dC, dI)) (atype := .int) (N' := 24) hx hb (hts _ mw_arr_int) (ty := .int) rfl hK hP hD hS hA (a0 := (24, .inl (fun _ => 0))) (fun _ => rfl) (by decide) rfl (by decide) (Nat.le_of_ble_eq_true rfl) (Nat.le_of_ble_eq_true rfl) d_Cubes_init_7 (fun q_1 cA H hK9 hP hD hS => ?_)
  have e9 := nw_I hK9
  subst e9
  clear hK9
  have hP : va_P (dC, dI) classes [(h0, .inr (1, [.null, .int 0, .null, .null, .int 0])), (q_1, .inl (cI, 24, .inl ((fun _ => 0))))] H := hP
  have hD : va_D A [(h0, .inr (1, [.null, .int 0, .null, .null, .int 0])), (q_1, .inl (cI, 24, .inl ((fun _ => 0))))] := hD
  refine va_putF (D := (dC, dI)) (ci := 1) (v := .ref q_1) (ty := .array .int) (C := R_Cubes) (T := F_Cubes) (N := 5) hx hb hts i_Cubes t_Cubes t_Cubes_ok n_Cubes hown hK hP hD hS 0 rfl rfl 2 (by decide) (hts _ mw_fl_Cubes_9) (fun _ h9 => h9) rfl hin rfl (by decide +kernel) rfl rfl (Nat.le_of_ble_eq_true rfl) d_Cubes_init_9 (fun H locs hP hD hS => ?_)
  have hP : va_P (dC, dI) classes [(h0, .inr (1, [.null, .int 0, .ref q_1, .null, .int 0])), (q_1, .inl (cI, 24, .inl ((fun _ => 0))))] H := hP
  have hD : va_D A [(h0, .inr (1, [.null, .int 0, .ref q_1, .null, .int 0])), (q_1, .inl (cI, 24, .inl ((fun _ => 0))))] := hD
  refine lv_aload_n hx hb d_Cubes_init_12 rfl (lv_at hl 0 rfl) ?_
  refine lv_bipush (v := 48) hx hb d_Cubes_init_13 (by decide) ?_
  refine va_newa (D := (dC, dI)) (atype := .int) (N' := 48) hx hb (hts _ mw_arr_int) (ty := .int) rfl hK hP hD hS hA (a0 := (48, .inl (fun _ => 0))) (fun _ => rfl) (by decide) rfl (by decide) (Nat.le_of_ble_eq_true rfl) (Nat.le_of_ble_eq_true rfl) d_Cubes_init_15 (fun q_2 cA H hK9 hP hD hS => ?_)
  have e9 := nw_I hK9
  subst e9
  clear hK9
  have hP : va_P (dC, dI) classes [(h0, .inr (1, [.null, .int 0, .ref q_1, .null, .int 0])), (q_1, .inl (cI, 24, .inl ((fun _ => 0)))), (q_2, .inl (cI, 48, .inl ((fun _ => 0))))] H := hP
  have hD : va_D A [(h0, .inr (1, [.null, .int 0, .ref q_1, .null, .int 0])), (q_1, .inl (cI, 24, .inl ((fun _ => 0)))), (q_2, .inl (cI, 48, .inl ((fun _ => 0))))] := hD
  refine va_putF (D := (dC, dI)) (ci := 1) (v := .ref q_2) (ty := .array .int) (C := R_Cubes) (T := F_Cubes) (N := 5) hx hb hts i_Cubes t_Cubes t_Cubes_ok n_Cubes hown hK hP hD hS 0 rfl rfl 3 (by decide) (hts _ mw_fl_Cubes_15) (fun _ h9 => h9) rfl hin rfl (by decide +kernel) rfl rfl (Nat.le_of_ble_eq_true rfl) d_Cubes_init_17 (fun H locs hP hD hS => ?_)
  have hP : va_P (dC, dI) classes [(h0, .inr (1, [.null, .int 0, .ref q_1, .ref q_2, .int 0])), (q_1, .inl (cI, 24, .inl ((fun _ => 0)))), (q_2, .inl (cI, 48, .inl ((fun _ => 0))))] H := hP
  have hD : va_D A [(h0, .inr (1, [.null, .int 0, .ref q_1, .ref q_2, .int 0])), (q_1, .inl (cI, 24, .inl ((fun _ => 0)))), (q_2, .inl (cI, 48, .inl ((fun _ => 0))))] := hD
  refine lv_aload_n hx hb d_Cubes_init_20 rfl (lv_at hl 0 rfl) ?_
  refine lv_aload_n hx hb d_Cubes_init_21 rfl (lv_at hl 1 rfl) ?_
  refine va_putF (D := (dC, dI)) (ci := 1) (v := .ref p0) (ty := .object "CoverRows$Products") (C := R_Cubes) (T := F_Cubes) (N := 5) hx hb hts i_Cubes t_Cubes t_Cubes_ok n_Cubes hown hK hP hD hS 0 rfl rfl 0 (by decide) (hts _ mw_fl_Cubes_18) (fun _ h9 => h9) rfl hin rfl (by decide +kernel) rfl rfl (Nat.le_of_ble_eq_true rfl) d_Cubes_init_22 (fun H locs hP hD hS => ?_)
  have hP : va_P (dC, dI) classes [(h0, .inr (1, [.ref p0, .int 0, .ref q_1, .ref q_2, .int 0])), (q_1, .inl (cI, 24, .inl ((fun _ => 0)))), (q_2, .inl (cI, 48, .inl ((fun _ => 0))))] H := hP
  have hD : va_D A [(h0, .inr (1, [.ref p0, .int 0, .ref q_1, .ref q_2, .int 0])), (q_1, .inl (cI, 24, .inl ((fun _ => 0)))), (q_2, .inl (cI, 48, .inl ((fun _ => 0))))] := hD
  refine lv_aload_n hx hb d_Cubes_init_25 rfl (lv_at hl 0 rfl) ?_
  refine lv_iload_n hx hb d_Cubes_init_26 rfl (lv_at hl 2 rfl) ?_
  refine va_putF (D := (dC, dI)) (ci := 1) (v := .int o) (ty := .int) (C := R_Cubes) (T := F_Cubes) (N := 5) hx hb hts i_Cubes t_Cubes t_Cubes_ok n_Cubes hown hK hP hD hS 0 rfl rfl 1 (by decide) (hts _ mw_fl_Cubes_22) (fun _ h9 => h9) rfl hin rfl (by decide +kernel) rfl rfl (Nat.le_of_ble_eq_true rfl) d_Cubes_init_27 (fun H locs hP hD hS => ?_)
  have hP : va_P (dC, dI) classes [(h0, .inr (1, [.ref p0, .int o, .ref q_1, .ref q_2, .int 0])), (q_1, .inl (cI, 24, .inl ((fun _ => 0)))), (q_2, .inl (cI, 48, .inl ((fun _ => 0))))] H := hP
  have hD : va_D A [(h0, .inr (1, [.ref p0, .int o, .ref q_1, .ref q_2, .int 0])), (q_1, .inl (cI, 24, .inl ((fun _ => 0)))), (q_2, .inl (cI, 48, .inl ((fun _ => 0))))] := hD
  refine lv_aload_n hx hb d_Cubes_init_30 rfl (lv_at hl 0 rfl) ?_
  refine lv_iconst (v := 0) hx hb d_Cubes_init_31 (by decide) ?_
  refine va_put (D := (dC, dI)) (ci := 1) (v := .int 0) (ty := .int) (C := R_Cubes) (T := F_Cubes) (N := 5) hx hb hts i_Cubes t_Cubes t_Cubes_ok n_Cubes hown hK hP hD hS 0 rfl rfl 4 (by decide) (hts _ mw_fl_Cubes_26) (fun _ h9 => h9) rfl (by decide +kernel) rfl rfl (Nat.le_of_ble_eq_true rfl) d_Cubes_init_32 (fun H locs hP hD hS => ?_)
  have hP : va_P (dC, dI) classes [(h0, .inr (1, [.ref p0, .int o, .ref q_1, .ref q_2, .int 0])), (q_1, .inl (cI, 24, .inl ((fun _ => 0)))), (q_2, .inl (cI, 48, .inl ((fun _ => 0))))] H := hP
  have hD : va_D A [(h0, .inr (1, [.ref p0, .int o, .ref q_1, .ref q_2, .int 0])), (q_1, .inl (cI, 24, .inl ((fun _ => 0)))), (q_2, .inl (cI, 48, .inl ((fun _ => 0))))] := hD
  have hP9 := hP.sub (ws' := [(h0, .inr (1, [.ref p0, .int o, .ref q_1, .ref q_2, .int ((nI 0))])), (q_1, .inl (cI, 24, .inl ((fun _ => 0)))), (q_2, .inl (cI, 48, .inl ((fun _ => 0))))]) [0, 1, 2] rfl
  have hD9 := hD.sub (ws' := [(h0, .inr (1, [.ref p0, .int o, .ref q_1, .ref q_2, .int ((nI 0))])), (q_1, .inl (cI, 24, .inl ((fun _ => 0)))), (q_2, .inl (cI, 48, .inl ((fun _ => 0))))]) [0, 1, 2] (by decide) rfl
  exact W.vret hx hb hr (fun t ht hW => ⟨⟨(), rfl, trivial, q_1, q_2, by rw [ht]; exact hP9, va_K.moved hW.alike hK, hD9⟩, hS.F ht⟩) hS.2.2 d_Cubes_init_35
set_option maxHeartbeats 1000000 in
set_option maxRecDepth 100000 in
theorem c_Terms_init (l : Launch) (dC : Nat → ClassId) (dI : Nat → Nat → Nat) (cI cJ : ClassId) (sz0 : Nat) (h0 : Nat) (p0 : Nat) : Met l y_Terms_init (ct y_Terms_init b_Terms_init 2 (none)) ({ frames := 1, cells := 2, slots := 162, locals := 20 }) (va_Pc [.ref h0, .ref p0] (fun U => U.heap.size = sz0 ∧ va_P (dC, dI) classes [(h0, .inr (6, [.null, .null, .null, .int 0]))] U.heap ∧ va_K (dC, dI) classes [(cI, .int), (cJ, .long)] U ∧ va_D (fun _ => True) [(h0, .inr (6, [.null, .null, .null, .int 0]))])) (va_Qv (fun _ : Unit => True) (fun _ t => ∃ x1 x2 : Nat, at_w dC dI cI cJ (va_A [(h0, .inr (6, [.null, .null, .null, .int 0]))] sz0) [(h0, .inr (6, [.ref p0, .ref x1, .ref x2, .int ((nI 0))])), (x1, .inl (cI, 81, .inl ((fun _ => 0)))), (x2, .inl (cI, 81, .inl ((fun _ => 0))))] t) (va_A [(h0, .inr (6, [.null, .null, .null, .int 0]))] sz0)) 2 162 (va_A [(h0, .inr (6, [.null, .null, .null, .int 0]))] sz0) := by
  refine Met.ofW (cc := b_Terms_init) (maxL := 2) (ret := none) (by decide) rfl ?_
  intro p e s m args below meth c s₁ B hml hv
  obtain ⟨rfl, hsz, hP, hK, hD0⟩ := hv
  have hx := B.exec
  have hb := B.bytes
  have hr := B.returns
  have hts : ∀ w ∈ lwg, w.before _ s = true := fun w h => atoms_spec (ws := ct y_Terms_init b_Terms_init 2 (none)) B.pre w (List.mem_cons_of_mem _ h)
  have hown : s.vm.findClass R_Terms = some m.cls := findClass_of_methodNamed B.named
  have hlocks := B.notSynchronized
  have hin : meth.name = "<init>" := (name_of_methodNamed B.named B.method).1
  subst hsz
  have hD := hD0.self (sz := s.heap.size)
  generalize hAe : va_A [(h0, .inr (6, [.null, .null, .null, .int 0]))] s.heap.size = A at hD ⊢
  have hA : ∀ q : Nat, s.heap.size ≤ q → A q := fun q h => by rw [← hAe]; exact Or.inr h
  have hS : va_S A s.heap s.heap [] := va_S.rf
  have hl := lv_entry ([.ref h0, .ref p0]) (n := 2) (Nat.le_of_ble_eq_true rfl)
  rw [lg_entry_eq]
  generalize (lg_sl ([.ref h0, .ref p0]) ++ List.replicate (2 - (lg_sl ([.ref h0, .ref p0])).length) Slot.unset).toArray = ls at hl ⊢
  have hl : lv_has ls 2 [(0, .ref h0), (1, .ref p0)] := hl
  have hP : va_P (dC, dI) classes [(h0, .inr (6, [.null, .null, .null, .int 0]))] s.heap := hP
  refine lv_aload_n hx hb d_Terms_init_0 rfl (lv_at hl 0 rfl) ?_
  refine W.objInit hx hb hown (hts _ mw_ml_Terms_3) (hts _ mw_im_JObject_init_V) (hts _ mw_code_JObject_init_V) rfl (by rw [hml]; exact hl.1) rfl d_Terms_init_1 (Nat.le_of_ble_eq_true rfl) (Nat.le_of_ble_eq_true rfl) ?_
  refine lv_aload_n hx hb d_Terms_init_4 rfl (lv_at hl 0 rfl) ?_
  refine lv_bipush (v := 81) hx hb d_Terms_init_5 (by decide) ?_
  refine va_newa (D := (dC, dI)) (atype := .int) (N' := 81) hx hb (hts _ mw_arr_int) (ty := .int) rfl hK hP hD hS hA (a0 := (81, .inl (fun _ => 0))) (fun _ => rfl) (by decide) rfl (by decide) (Nat.le_of_ble_eq_true rfl) (Nat.le_of_ble_eq_true rfl) d_Terms_init_7 (fun q_1 cA H hK9 hP hD hS => ?_)
  have e9 := nw_I hK9
  subst e9
  clear hK9
  have hP : va_P (dC, dI) classes [(h0, .inr (6, [.null, .null, .null, .int 0])), (q_1, .inl (cI, 81, .inl ((fun _ => 0))))] H := hP
  have hD : va_D A [(h0, .inr (6, [.null, .null, .null, .int 0])), (q_1, .inl (cI, 81, .inl ((fun _ => 0))))] := hD
  refine va_putF (D := (dC, dI)) (ci := 6) (v := .ref q_1) (ty := .array .int) (C := R_Terms) (T := F_Terms) (N := 4) hx hb hts i_Terms t_Terms t_Terms_ok n_Terms hown hK hP hD hS 0 rfl rfl 1 (by decide) (hts _ mw_fl_Terms_9) (fun _ h9 => h9) rfl hin rfl (by decide +kernel) rfl rfl (Nat.le_of_ble_eq_true rfl) d_Terms_init_9 (fun H locs hP hD hS => ?_)
  have hP : va_P (dC, dI) classes [(h0, .inr (6, [.null, .ref q_1, .null, .int 0])), (q_1, .inl (cI, 81, .inl ((fun _ => 0))))] H := hP
  have hD : va_D A [(h0, .inr (6, [.null, .ref q_1, .null, .int 0])), (q_1, .inl (cI, 81, .inl ((fun _ => 0))))] := hD
  refine lv_aload_n hx hb d_Terms_init_12 rfl (lv_at hl 0 rfl) ?_
  refine lv_bipush (v := 81) hx hb d_Terms_init_13 (by decide) ?_
  refine va_newa (D := (dC, dI)) (atype := .int) (N' := 81) hx hb (hts _ mw_arr_int) (ty := .int) rfl hK hP hD hS hA (a0 := (81, .inl (fun _ => 0))) (fun _ => rfl) (by decide) rfl (by decide) (Nat.le_of_ble_eq_true rfl) (Nat.le_of_ble_eq_true rfl) d_Terms_init_15 (fun q_2 cA H hK9 hP hD hS => ?_)
  have e9 := nw_I hK9
  subst e9
  clear hK9
  have hP : va_P (dC, dI) classes [(h0, .inr (6, [.null, .ref q_1, .null, .int 0])), (q_1, .inl (cI, 81, .inl ((fun _ => 0)))), (q_2, .inl (cI, 81, .inl ((fun _ => 0))))] H := hP
  have hD : va_D A [(h0, .inr (6, [.null, .ref q_1, .null, .int 0])), (q_1, .inl (cI, 81, .inl ((fun _ => 0)))), (q_2, .inl (cI, 81, .inl ((fun _ => 0))))] := hD
  refine va_putF (D := (dC, dI)) (ci := 6) (v := .ref q_2) (ty := .array .int) (C := R_Terms) (T := F_Terms) (N := 4) hx hb hts i_Terms t_Terms t_Terms_ok n_Terms hown hK hP hD hS 0 rfl rfl 2 (by decide) (hts _ mw_fl_Terms_15) (fun _ h9 => h9) rfl hin rfl (by decide +kernel) rfl rfl (Nat.le_of_ble_eq_true rfl) d_Terms_init_17 (fun H locs hP hD hS => ?_)
  have hP : va_P (dC, dI) classes [(h0, .inr (6, [.null, .ref q_1, .ref q_2, .int 0])), (q_1, .inl (cI, 81, .inl ((fun _ => 0)))), (q_2, .inl (cI, 81, .inl ((fun _ => 0))))] H := hP
  have hD : va_D A [(h0, .inr (6, [.null, .ref q_1, .ref q_2, .int 0])), (q_1, .inl (cI, 81, .inl ((fun _ => 0)))), (q_2, .inl (cI, 81, .inl ((fun _ => 0))))] := hD
  refine lv_aload_n hx hb d_Terms_init_20 rfl (lv_at hl 0 rfl) ?_
  refine lv_aload_n hx hb d_Terms_init_21 rfl (lv_at hl 1 rfl) ?_
  refine va_putF (D := (dC, dI)) (ci := 6) (v := .ref p0) (ty := .object "CoverRows$Products") (C := R_Terms) (T := F_Terms) (N := 4) hx hb hts i_Terms t_Terms t_Terms_ok n_Terms hown hK hP hD hS 0 rfl rfl 0 (by decide) (hts _ mw_fl_Terms_18) (fun _ h9 => h9) rfl hin rfl (by decide +kernel) rfl rfl (Nat.le_of_ble_eq_true rfl) d_Terms_init_22 (fun H locs hP hD hS => ?_)
  have hP : va_P (dC, dI) classes [(h0, .inr (6, [.ref p0, .ref q_1, .ref q_2, .int 0])), (q_1, .inl (cI, 81, .inl ((fun _ => 0)))), (q_2, .inl (cI, 81, .inl ((fun _ => 0))))] H := hP
  have hD : va_D A [(h0, .inr (6, [.ref p0, .ref q_1, .ref q_2, .int 0])), (q_1, .inl (cI, 81, .inl ((fun _ => 0)))), (q_2, .inl (cI, 81, .inl ((fun _ => 0))))] := hD
  refine lv_aload_n hx hb d_Terms_init_25 rfl (lv_at hl 0 rfl) ?_
  refine lv_iconst (v := 0) hx hb d_Terms_init_26 (by decide) ?_
  refine va_put (D := (dC, dI)) (ci := 6) (v := .int 0) (ty := .int) (C := R_Terms) (T := F_Terms) (N := 4) hx hb hts i_Terms t_Terms t_Terms_ok n_Terms hown hK hP hD hS 0 rfl rfl 3 (by decide) (hts _ mw_fl_Terms_22) (fun _ h9 => h9) rfl (by decide +kernel) rfl rfl (Nat.le_of_ble_eq_true rfl) d_Terms_init_27 (fun H locs hP hD hS => ?_)
  have hP : va_P (dC, dI) classes [(h0, .inr (6, [.ref p0, .ref q_1, .ref q_2, .int 0])), (q_1, .inl (cI, 81, .inl ((fun _ => 0)))), (q_2, .inl (cI, 81, .inl ((fun _ => 0))))] H := hP
  have hD : va_D A [(h0, .inr (6, [.ref p0, .ref q_1, .ref q_2, .int 0])), (q_1, .inl (cI, 81, .inl ((fun _ => 0)))), (q_2, .inl (cI, 81, .inl ((fun _ => 0))))] := hD
  have hP9 := hP.sub (ws' := [(h0, .inr (6, [.ref p0, .ref q_1, .ref q_2, .int ((nI 0))])), (q_1, .inl (cI, 81, .inl ((fun _ => 0)))), (q_2, .inl (cI, 81, .inl ((fun _ => 0))))]) [0, 1, 2] rfl
  have hD9 := hD.sub (ws' := [(h0, .inr (6, [.ref p0, .ref q_1, .ref q_2, .int ((nI 0))])), (q_1, .inl (cI, 81, .inl ((fun _ => 0)))), (q_2, .inl (cI, 81, .inl ((fun _ => 0))))]) [0, 1, 2] (by decide) rfl
  exact W.vret hx hb hr (fun t ht hW => ⟨⟨(), rfl, trivial, q_1, q_2, by rw [ht]; exact hP9, va_K.moved hW.alike hK, hD9⟩, hS.F ht⟩) hS.2.2 d_Terms_init_30
set_option maxHeartbeats 1000000 in
set_option maxRecDepth 100000 in
theorem c_PrimeFinder_init (l : Launch) (dC : Nat → ClassId) (dI : Nat → Nat → Nat) (cI cJ : ClassId) (sz0 : Nat) (h0 : Nat) (p0 : Nat) (o : Int32) : Met l y_PrimeFinder_init (ct y_PrimeFinder_init b_PrimeFinder_init 3 (none)) ({ frames := 1, cells := 1, slots := 81, locals := 20 }) (va_Pc [.ref h0, .ref p0, .int o] (fun U => U.heap.size = sz0 ∧ va_P (dC, dI) classes [(h0, .inr (4, [.null, .int 0, .null]))] U.heap ∧ va_K (dC, dI) classes [(cI, .int), (cJ, .long)] U ∧ va_D (fun _ => True) [(h0, .inr (4, [.null, .int 0, .null]))])) (va_Qv (fun _ : Unit => True) (fun _ t => ∃ x1 : Nat, at_w dC dI cI cJ (va_A [(h0, .inr (4, [.null, .int 0, .null]))] sz0) [(h0, .inr (4, [.ref p0, .int o, .ref x1])), (x1, .inl (cI, 81, .inl ((fun _ => 0))))] t) (va_A [(h0, .inr (4, [.null, .int 0, .null]))] sz0)) 1 81 (va_A [(h0, .inr (4, [.null, .int 0, .null]))] sz0) := by
  refine Met.ofW (cc := b_PrimeFinder_init) (maxL := 3) (ret := none) (by decide) rfl ?_
  intro p e s m args below meth c s₁ B hml hv
  obtain ⟨rfl, hsz, hP, hK, hD0⟩ := hv
  have hx := B.exec
  have hb := B.bytes
  have hr := B.returns
  have hts : ∀ w ∈ lwg, w.before _ s = true := fun w h => atoms_spec (ws := ct y_PrimeFinder_init b_PrimeFinder_init 3 (none)) B.pre w (List.mem_cons_of_mem _ h)
  have hown : s.vm.findClass R_PrimeFinder = some m.cls := findClass_of_methodNamed B.named
  have hlocks := B.notSynchronized
  have hin : meth.name = "<init>" := (name_of_methodNamed B.named B.method).1
  subst hsz
  have hD := hD0.self (sz := s.heap.size)
  generalize hAe : va_A [(h0, .inr (4, [.null, .int 0, .null]))] s.heap.size = A at hD ⊢
  have hA : ∀ q : Nat, s.heap.size ≤ q → A q := fun q h => by rw [← hAe]; exact Or.inr h
  have hS : va_S A s.heap s.heap [] := va_S.rf
  have hl := lv_entry ([.ref h0, .ref p0, .int o]) (n := 3) (Nat.le_of_ble_eq_true rfl)
  rw [lg_entry_eq]
  generalize (lg_sl ([.ref h0, .ref p0, .int o]) ++ List.replicate (3 - (lg_sl ([.ref h0, .ref p0, .int o])).length) Slot.unset).toArray = ls at hl ⊢
  have hl : lv_has ls 3 [(0, .ref h0), (1, .ref p0), (2, .int o)] := hl
  have hP : va_P (dC, dI) classes [(h0, .inr (4, [.null, .int 0, .null]))] s.heap := hP
  refine lv_aload_n hx hb d_PrimeFinder_init_0 rfl (lv_at hl 0 rfl) ?_
  refine W.objInit hx hb hown (hts _ mw_ml_PrimeFinder_3) (hts _ mw_im_JObject_init_V) (hts _ mw_code_JObject_init_V) rfl (by rw [hml]; exact hl.1) rfl d_PrimeFinder_init_1 (Nat.le_of_ble_eq_true rfl) (Nat.le_of_ble_eq_true rfl) ?_
  refine lv_aload_n hx hb d_PrimeFinder_init_4 rfl (lv_at hl 0 rfl) ?_
  refine lv_bipush (v := 81) hx hb d_PrimeFinder_init_5 (by decide) ?_
  refine va_newa (D := (dC, dI)) (atype := .int) (N' := 81) hx hb (hts _ mw_arr_int) (ty := .int) rfl hK hP hD hS hA (a0 := (81, .inl (fun _ => 0))) (fun _ => rfl) (by decide) rfl (by decide) (Nat.le_of_ble_eq_true rfl) (Nat.le_of_ble_eq_true rfl) d_PrimeFinder_init_7 (fun q_1 cA H hK9 hP hD hS => ?_)
  have e9 := nw_I hK9
  subst e9
  clear hK9
  have hP : va_P (dC, dI) classes [(h0, .inr (4, [.null, .int 0, .null])), (q_1, .inl (cI, 81, .inl ((fun _ => 0))))] H := hP
  have hD : va_D A [(h0, .inr (4, [.null, .int 0, .null])), (q_1, .inl (cI, 81, .inl ((fun _ => 0))))] := hD
  refine va_putF (D := (dC, dI)) (ci := 4) (v := .ref q_1) (ty := .array .int) (C := R_PrimeFinder) (T := F_PrimeFinder) (N := 3) hx hb hts i_PrimeFinder t_PrimeFinder t_PrimeFinder_ok n_PrimeFinder hown hK hP hD hS 0 rfl rfl 2 (by decide) (hts _ mw_fl_PrimeFinder_9) (fun _ h9 => h9) rfl hin rfl (by decide +kernel) rfl rfl (Nat.le_of_ble_eq_true rfl) d_PrimeFinder_init_9 (fun H locs hP hD hS => ?_)
  have hP : va_P (dC, dI) classes [(h0, .inr (4, [.null, .int 0, .ref q_1])), (q_1, .inl (cI, 81, .inl ((fun _ => 0))))] H := hP
  have hD : va_D A [(h0, .inr (4, [.null, .int 0, .ref q_1])), (q_1, .inl (cI, 81, .inl ((fun _ => 0))))] := hD
  refine lv_aload_n hx hb d_PrimeFinder_init_12 rfl (lv_at hl 0 rfl) ?_
  refine lv_aload_n hx hb d_PrimeFinder_init_13 rfl (lv_at hl 1 rfl) ?_
  refine va_putF (D := (dC, dI)) (ci := 4) (v := .ref p0) (ty := .object "CoverRows$Products") (C := R_PrimeFinder) (T := F_PrimeFinder) (N := 3) hx hb hts i_PrimeFinder t_PrimeFinder t_PrimeFinder_ok n_PrimeFinder hown hK hP hD hS 0 rfl rfl 0 (by decide) (hts _ mw_fl_PrimeFinder_15) (fun _ h9 => h9) rfl hin rfl (by decide +kernel) rfl rfl (Nat.le_of_ble_eq_true rfl) d_PrimeFinder_init_14 (fun H locs hP hD hS => ?_)
  have hP : va_P (dC, dI) classes [(h0, .inr (4, [.ref p0, .int 0, .ref q_1])), (q_1, .inl (cI, 81, .inl ((fun _ => 0))))] H := hP
  have hD : va_D A [(h0, .inr (4, [.ref p0, .int 0, .ref q_1])), (q_1, .inl (cI, 81, .inl ((fun _ => 0))))] := hD
  refine lv_aload_n hx hb d_PrimeFinder_init_17 rfl (lv_at hl 0 rfl) ?_
  refine lv_iload_n hx hb d_PrimeFinder_init_18 rfl (lv_at hl 2 rfl) ?_
  refine va_putF (D := (dC, dI)) (ci := 4) (v := .int o) (ty := .int) (C := R_PrimeFinder) (T := F_PrimeFinder) (N := 3) hx hb hts i_PrimeFinder t_PrimeFinder t_PrimeFinder_ok n_PrimeFinder hown hK hP hD hS 0 rfl rfl 1 (by decide) (hts _ mw_fl_PrimeFinder_19) (fun _ h9 => h9) rfl hin rfl (by decide +kernel) rfl rfl (Nat.le_of_ble_eq_true rfl) d_PrimeFinder_init_19 (fun H locs hP hD hS => ?_)
  have hP : va_P (dC, dI) classes [(h0, .inr (4, [.ref p0, .int o, .ref q_1])), (q_1, .inl (cI, 81, .inl ((fun _ => 0))))] H := hP
  have hD : va_D A [(h0, .inr (4, [.ref p0, .int o, .ref q_1])), (q_1, .inl (cI, 81, .inl ((fun _ => 0))))] := hD
  have hP9 := hP.sub (ws' := [(h0, .inr (4, [.ref p0, .int o, .ref q_1])), (q_1, .inl (cI, 81, .inl ((fun _ => 0))))]) [0, 1] rfl
  have hD9 := hD.sub (ws' := [(h0, .inr (4, [.ref p0, .int o, .ref q_1])), (q_1, .inl (cI, 81, .inl ((fun _ => 0))))]) [0, 1] (by decide) rfl
  exact W.vret hx hb hr (fun t ht hW => ⟨⟨(), rfl, trivial, q_1, by rw [ht]; exact hP9, va_K.moved hW.alike hK, hD9⟩, hS.F ht⟩) hS.2.2 d_PrimeFinder_init_22
set_option maxHeartbeats 1000000 in
set_option maxRecDepth 100000 in
theorem c_CoverFinder_init (l : Launch) (dC : Nat → ClassId) (dI : Nat → Nat → Nat) (cI cJ : ClassId) (sz0 : Nat) (h0 : Nat) (o : Int32) : Met l y_CoverFinder_init (ct y_CoverFinder_init b_CoverFinder_init 2 (none)) ({ frames := 1, cells := 5, slots := 307, locals := 20 }) (va_Pc [.ref h0, .int o] (fun U => U.heap.size = sz0 ∧ va_P (dC, dI) classes [(h0, .inr (0, [.int 0, .null, .null, .null, .null, .null, .int 0, .int 0, .long 0, .long 0]))] U.heap ∧ va_K (dC, dI) classes [(cI, .int), (cJ, .long)] U ∧ va_D (fun _ => True) [(h0, .inr (0, [.int 0, .null, .null, .null, .null, .null, .int 0, .int 0, .long 0, .long 0]))])) (va_Qv (fun _ : Unit => True) (fun _ t => ∃ x1 x2 x3 x4 x5 : Nat, at_w dC dI cI cJ (va_A [(h0, .inr (0, [.int 0, .null, .null, .null, .null, .null, .int 0, .int 0, .long 0, .long 0]))] sz0) [(h0, .inr (0, [.int o, .ref x1, .ref x2, .ref x3, .ref x4, .ref x5, .int ((nI 0)), .int 0, .long 0, .long 0])), (x1, .inl (cI, 81, .inl ((fun _ => 0)))), (x2, .inl (cI, 81, .inl ((fun _ => 0)))), (x3, .inl (cJ, 81, .inr (.inl ((fun _ => 0))))), (x4, .inl (cJ, 32, .inr (.inl ((fun _ => 0))))), (x5, .inl (cI, 32, .inl ((fun _ => 0))))] t) (va_A [(h0, .inr (0, [.int 0, .null, .null, .null, .null, .null, .int 0, .int 0, .long 0, .long 0]))] sz0)) 5 307 (va_A [(h0, .inr (0, [.int 0, .null, .null, .null, .null, .null, .int 0, .int 0, .long 0, .long 0]))] sz0) := by
  refine Met.ofW (cc := b_CoverFinder_init) (maxL := 2) (ret := none) (by decide) rfl ?_
  intro p e s m args below meth c s₁ B hml hv
  obtain ⟨rfl, hsz, hP, hK, hD0⟩ := hv
  have hx := B.exec
  have hb := B.bytes
  have hr := B.returns
  have hts : ∀ w ∈ lwg, w.before _ s = true := fun w h => atoms_spec (ws := ct y_CoverFinder_init b_CoverFinder_init 2 (none)) B.pre w (List.mem_cons_of_mem _ h)
  have hown : s.vm.findClass R_CoverFinder = some m.cls := findClass_of_methodNamed B.named
  have hlocks := B.notSynchronized
  have hin : meth.name = "<init>" := (name_of_methodNamed B.named B.method).1
  subst hsz
  have hD := hD0.self (sz := s.heap.size)
  generalize hAe : va_A [(h0, .inr (0, [.int 0, .null, .null, .null, .null, .null, .int 0, .int 0, .long 0, .long 0]))] s.heap.size = A at hD ⊢
  have hA : ∀ q : Nat, s.heap.size ≤ q → A q := fun q h => by rw [← hAe]; exact Or.inr h
  have hS : va_S A s.heap s.heap [] := va_S.rf
  have hl := lv_entry ([.ref h0, .int o]) (n := 2) (Nat.le_of_ble_eq_true rfl)
  rw [lg_entry_eq]
  generalize (lg_sl ([.ref h0, .int o]) ++ List.replicate (2 - (lg_sl ([.ref h0, .int o])).length) Slot.unset).toArray = ls at hl ⊢
  have hl : lv_has ls 2 [(0, .ref h0), (1, .int o)] := hl
  have hP : va_P (dC, dI) classes [(h0, .inr (0, [.int 0, .null, .null, .null, .null, .null, .int 0, .int 0, .long 0, .long 0]))] s.heap := hP
  refine lv_aload_n hx hb d_CoverFinder_init_0 rfl (lv_at hl 0 rfl) ?_
  refine W.objInit hx hb hown (hts _ mw_ml_CoverFinder_3) (hts _ mw_im_JObject_init_V) (hts _ mw_code_JObject_init_V) rfl (by rw [hml]; exact hl.1) rfl d_CoverFinder_init_1 (Nat.le_of_ble_eq_true rfl) (Nat.le_of_ble_eq_true rfl) ?_
  refine lv_aload_n hx hb d_CoverFinder_init_4 rfl (lv_at hl 0 rfl) ?_
  refine lv_bipush (v := 81) hx hb d_CoverFinder_init_5 (by decide) ?_
  refine va_newa (D := (dC, dI)) (atype := .int) (N' := 81) hx hb (hts _ mw_arr_int) (ty := .int) rfl hK hP hD hS hA (a0 := (81, .inl (fun _ => 0))) (fun _ => rfl) (by decide) rfl (by decide) (Nat.le_of_ble_eq_true rfl) (Nat.le_of_ble_eq_true rfl) d_CoverFinder_init_7 (fun q_1 cA H hK9 hP hD hS => ?_)
  have e9 := nw_I hK9
  subst e9
  clear hK9
  have hP : va_P (dC, dI) classes [(h0, .inr (0, [.int 0, .null, .null, .null, .null, .null, .int 0, .int 0, .long 0, .long 0])), (q_1, .inl (cI, 81, .inl ((fun _ => 0))))] H := hP
  have hD : va_D A [(h0, .inr (0, [.int 0, .null, .null, .null, .null, .null, .int 0, .int 0, .long 0, .long 0])), (q_1, .inl (cI, 81, .inl ((fun _ => 0))))] := hD
  refine va_putF (D := (dC, dI)) (ci := 0) (v := .ref q_1) (ty := .array .int) (C := R_CoverFinder) (T := F_CoverFinder) (N := 10) hx hb hts i_CoverFinder t_CoverFinder t_CoverFinder_ok n_CoverFinder hown hK hP hD hS 0 rfl rfl 1 (by decide) (hts _ mw_fl_CoverFinder_9) (fun _ h9 => h9) rfl hin rfl (by decide +kernel) rfl rfl (Nat.le_of_ble_eq_true rfl) d_CoverFinder_init_9 (fun H locs hP hD hS => ?_)
  have hP : va_P (dC, dI) classes [(h0, .inr (0, [.int 0, .ref q_1, .null, .null, .null, .null, .int 0, .int 0, .long 0, .long 0])), (q_1, .inl (cI, 81, .inl ((fun _ => 0))))] H := hP
  have hD : va_D A [(h0, .inr (0, [.int 0, .ref q_1, .null, .null, .null, .null, .int 0, .int 0, .long 0, .long 0])), (q_1, .inl (cI, 81, .inl ((fun _ => 0))))] := hD
  refine lv_aload_n hx hb d_CoverFinder_init_12 rfl (lv_at hl 0 rfl) ?_
  refine lv_bipush (v := 81) hx hb d_CoverFinder_init_13 (by decide) ?_
  refine va_newa (D := (dC, dI)) (atype := .int) (N' := 81) hx hb (hts _ mw_arr_int) (ty := .int) rfl hK hP hD hS hA (a0 := (81, .inl (fun _ => 0))) (fun _ => rfl) (by decide) rfl (by decide) (Nat.le_of_ble_eq_true rfl) (Nat.le_of_ble_eq_true rfl) d_CoverFinder_init_15 (fun q_2 cA H hK9 hP hD hS => ?_)
  have e9 := nw_I hK9
  subst e9
  clear hK9
  have hP : va_P (dC, dI) classes [(h0, .inr (0, [.int 0, .ref q_1, .null, .null, .null, .null, .int 0, .int 0, .long 0, .long 0])), (q_1, .inl (cI, 81, .inl ((fun _ => 0)))), (q_2, .inl (cI, 81, .inl ((fun _ => 0))))] H := hP
  have hD : va_D A [(h0, .inr (0, [.int 0, .ref q_1, .null, .null, .null, .null, .int 0, .int 0, .long 0, .long 0])), (q_1, .inl (cI, 81, .inl ((fun _ => 0)))), (q_2, .inl (cI, 81, .inl ((fun _ => 0))))] := hD
  refine va_putF (D := (dC, dI)) (ci := 0) (v := .ref q_2) (ty := .array .int) (C := R_CoverFinder) (T := F_CoverFinder) (N := 10) hx hb hts i_CoverFinder t_CoverFinder t_CoverFinder_ok n_CoverFinder hown hK hP hD hS 0 rfl rfl 2 (by decide) (hts _ mw_fl_CoverFinder_15) (fun _ h9 => h9) rfl hin rfl (by decide +kernel) rfl rfl (Nat.le_of_ble_eq_true rfl) d_CoverFinder_init_17 (fun H locs hP hD hS => ?_)
  have hP : va_P (dC, dI) classes [(h0, .inr (0, [.int 0, .ref q_1, .ref q_2, .null, .null, .null, .int 0, .int 0, .long 0, .long 0])), (q_1, .inl (cI, 81, .inl ((fun _ => 0)))), (q_2, .inl (cI, 81, .inl ((fun _ => 0))))] H := hP
  have hD : va_D A [(h0, .inr (0, [.int 0, .ref q_1, .ref q_2, .null, .null, .null, .int 0, .int 0, .long 0, .long 0])), (q_1, .inl (cI, 81, .inl ((fun _ => 0)))), (q_2, .inl (cI, 81, .inl ((fun _ => 0))))] := hD
  refine lv_aload_n hx hb d_CoverFinder_init_20 rfl (lv_at hl 0 rfl) ?_
  refine lv_bipush (v := 81) hx hb d_CoverFinder_init_21 (by decide) ?_
  refine va_newa (D := (dC, dI)) (atype := .long) (N' := 81) hx hb (hts _ mw_arr_long) (ty := .long) rfl hK hP hD hS hA (a0 := (81, .inr (.inl (fun _ => 0)))) (fun _ => rfl) (by decide) rfl (by decide) (Nat.le_of_ble_eq_true rfl) (Nat.le_of_ble_eq_true rfl) d_CoverFinder_init_23 (fun q_3 cA H hK9 hP hD hS => ?_)
  have e9 := nw_J hK9
  subst e9
  clear hK9
  have hP : va_P (dC, dI) classes [(h0, .inr (0, [.int 0, .ref q_1, .ref q_2, .null, .null, .null, .int 0, .int 0, .long 0, .long 0])), (q_1, .inl (cI, 81, .inl ((fun _ => 0)))), (q_2, .inl (cI, 81, .inl ((fun _ => 0)))), (q_3, .inl (cJ, 81, .inr (.inl ((fun _ => 0)))))] H := hP
  have hD : va_D A [(h0, .inr (0, [.int 0, .ref q_1, .ref q_2, .null, .null, .null, .int 0, .int 0, .long 0, .long 0])), (q_1, .inl (cI, 81, .inl ((fun _ => 0)))), (q_2, .inl (cI, 81, .inl ((fun _ => 0)))), (q_3, .inl (cJ, 81, .inr (.inl ((fun _ => 0)))))] := hD
  refine va_putF (D := (dC, dI)) (ci := 0) (v := .ref q_3) (ty := .array .long) (C := R_CoverFinder) (T := F_CoverFinder) (N := 10) hx hb hts i_CoverFinder t_CoverFinder t_CoverFinder_ok n_CoverFinder hown hK hP hD hS 0 rfl rfl 3 (by decide) (hts _ mw_fl_CoverFinder_18) (fun _ h9 => h9) rfl hin rfl (by decide +kernel) rfl rfl (Nat.le_of_ble_eq_true rfl) d_CoverFinder_init_25 (fun H locs hP hD hS => ?_)
  have hP : va_P (dC, dI) classes [(h0, .inr (0, [.int 0, .ref q_1, .ref q_2, .ref q_3, .null, .null, .int 0, .int 0, .long 0, .long 0])), (q_1, .inl (cI, 81, .inl ((fun _ => 0)))), (q_2, .inl (cI, 81, .inl ((fun _ => 0)))), (q_3, .inl (cJ, 81, .inr (.inl ((fun _ => 0)))))] H := hP
  have hD : va_D A [(h0, .inr (0, [.int 0, .ref q_1, .ref q_2, .ref q_3, .null, .null, .int 0, .int 0, .long 0, .long 0])), (q_1, .inl (cI, 81, .inl ((fun _ => 0)))), (q_2, .inl (cI, 81, .inl ((fun _ => 0)))), (q_3, .inl (cJ, 81, .inr (.inl ((fun _ => 0)))))] := hD
  refine lv_aload_n hx hb d_CoverFinder_init_28 rfl (lv_at hl 0 rfl) ?_
  refine lv_bipush (v := 32) hx hb d_CoverFinder_init_29 (by decide) ?_
  refine va_newa (D := (dC, dI)) (atype := .long) (N' := 32) hx hb (hts _ mw_arr_long) (ty := .long) rfl hK hP hD hS hA (a0 := (32, .inr (.inl (fun _ => 0)))) (fun _ => rfl) (by decide) rfl (by decide) (Nat.le_of_ble_eq_true rfl) (Nat.le_of_ble_eq_true rfl) d_CoverFinder_init_31 (fun q_4 cA H hK9 hP hD hS => ?_)
  have e9 := nw_J hK9
  subst e9
  clear hK9
  have hP : va_P (dC, dI) classes [(h0, .inr (0, [.int 0, .ref q_1, .ref q_2, .ref q_3, .null, .null, .int 0, .int 0, .long 0, .long 0])), (q_1, .inl (cI, 81, .inl ((fun _ => 0)))), (q_2, .inl (cI, 81, .inl ((fun _ => 0)))), (q_3, .inl (cJ, 81, .inr (.inl ((fun _ => 0))))), (q_4, .inl (cJ, 32, .inr (.inl ((fun _ => 0)))))] H := hP
  have hD : va_D A [(h0, .inr (0, [.int 0, .ref q_1, .ref q_2, .ref q_3, .null, .null, .int 0, .int 0, .long 0, .long 0])), (q_1, .inl (cI, 81, .inl ((fun _ => 0)))), (q_2, .inl (cI, 81, .inl ((fun _ => 0)))), (q_3, .inl (cJ, 81, .inr (.inl ((fun _ => 0))))), (q_4, .inl (cJ, 32, .inr (.inl ((fun _ => 0)))))] := hD
  refine va_putF (D := (dC, dI)) (ci := 0) (v := .ref q_4) (ty := .array .long) (C := R_CoverFinder) (T := F_CoverFinder) (N := 10) hx hb hts i_CoverFinder t_CoverFinder t_CoverFinder_ok n_CoverFinder hown hK hP hD hS 0 rfl rfl 4 (by decide) (hts _ mw_fl_CoverFinder_22) (fun _ h9 => h9) rfl hin rfl (by decide +kernel) rfl rfl (Nat.le_of_ble_eq_true rfl) d_CoverFinder_init_33 (fun H locs hP hD hS => ?_)
  have hP : va_P (dC, dI) classes [(h0, .inr (0, [.int 0, .ref q_1, .ref q_2, .ref q_3, .ref q_4, .null, .int 0, .int 0, .long 0, .long 0])), (q_1, .inl (cI, 81, .inl ((fun _ => 0)))), (q_2, .inl (cI, 81, .inl ((fun _ => 0)))), (q_3, .inl (cJ, 81, .inr (.inl ((fun _ => 0))))), (q_4, .inl (cJ, 32, .inr (.inl ((fun _ => 0)))))] H := hP
  have hD : va_D A [(h0, .inr (0, [.int 0, .ref q_1, .ref q_2, .ref q_3, .ref q_4, .null, .int 0, .int 0, .long 0, .long 0])), (q_1, .inl (cI, 81, .inl ((fun _ => 0)))), (q_2, .inl (cI, 81, .inl ((fun _ => 0)))), (q_3, .inl (cJ, 81, .inr (.inl ((fun _ => 0))))), (q_4, .inl (cJ, 32, .inr (.inl ((fun _ => 0)))))] := hD
  refine lv_aload_n hx hb d_CoverFinder_init_36 rfl (lv_at hl 0 rfl) ?_
  refine lv_bipush (v := 32) hx hb d_CoverFinder_init_37 (by decide) ?_
  refine va_newa (D := (dC, dI)) (atype := .int) (N' := 32) hx hb (hts _ mw_arr_int) (ty := .int) rfl hK hP hD hS hA (a0 := (32, .inl (fun _ => 0))) (fun _ => rfl) (by decide) rfl (by decide) (Nat.le_of_ble_eq_true rfl) (Nat.le_of_ble_eq_true rfl) d_CoverFinder_init_39 (fun q_5 cA H hK9 hP hD hS => ?_)
  have e9 := nw_I hK9
  subst e9
  clear hK9
  have hP : va_P (dC, dI) classes [(h0, .inr (0, [.int 0, .ref q_1, .ref q_2, .ref q_3, .ref q_4, .null, .int 0, .int 0, .long 0, .long 0])), (q_1, .inl (cI, 81, .inl ((fun _ => 0)))), (q_2, .inl (cI, 81, .inl ((fun _ => 0)))), (q_3, .inl (cJ, 81, .inr (.inl ((fun _ => 0))))), (q_4, .inl (cJ, 32, .inr (.inl ((fun _ => 0))))), (q_5, .inl (cI, 32, .inl ((fun _ => 0))))] H := hP
  have hD : va_D A [(h0, .inr (0, [.int 0, .ref q_1, .ref q_2, .ref q_3, .ref q_4, .null, .int 0, .int 0, .long 0, .long 0])), (q_1, .inl (cI, 81, .inl ((fun _ => 0)))), (q_2, .inl (cI, 81, .inl ((fun _ => 0)))), (q_3, .inl (cJ, 81, .inr (.inl ((fun _ => 0))))), (q_4, .inl (cJ, 32, .inr (.inl ((fun _ => 0))))), (q_5, .inl (cI, 32, .inl ((fun _ => 0))))] := hD
  refine va_putF (D := (dC, dI)) (ci := 0) (v := .ref q_5) (ty := .array .int) (C := R_CoverFinder) (T := F_CoverFinder) (N := 10) hx hb hts i_CoverFinder t_CoverFinder t_CoverFinder_ok n_CoverFinder hown hK hP hD hS 0 rfl rfl 5 (by decide) (hts _ mw_fl_CoverFinder_25) (fun _ h9 => h9) rfl hin rfl (by decide +kernel) rfl rfl (Nat.le_of_ble_eq_true rfl) d_CoverFinder_init_41 (fun H locs hP hD hS => ?_)
  have hP : va_P (dC, dI) classes [(h0, .inr (0, [.int 0, .ref q_1, .ref q_2, .ref q_3, .ref q_4, .ref q_5, .int 0, .int 0, .long 0, .long 0])), (q_1, .inl (cI, 81, .inl ((fun _ => 0)))), (q_2, .inl (cI, 81, .inl ((fun _ => 0)))), (q_3, .inl (cJ, 81, .inr (.inl ((fun _ => 0))))), (q_4, .inl (cJ, 32, .inr (.inl ((fun _ => 0))))), (q_5, .inl (cI, 32, .inl ((fun _ => 0))))] H := hP
  have hD : va_D A [(h0, .inr (0, [.int 0, .ref q_1, .ref q_2, .ref q_3, .ref q_4, .ref q_5, .int 0, .int 0, .long 0, .long 0])), (q_1, .inl (cI, 81, .inl ((fun _ => 0)))), (q_2, .inl (cI, 81, .inl ((fun _ => 0)))), (q_3, .inl (cJ, 81, .inr (.inl ((fun _ => 0))))), (q_4, .inl (cJ, 32, .inr (.inl ((fun _ => 0))))), (q_5, .inl (cI, 32, .inl ((fun _ => 0))))] := hD
  refine lv_aload_n hx hb d_CoverFinder_init_44 rfl (lv_at hl 0 rfl) ?_
  refine lv_iload_n hx hb d_CoverFinder_init_45 rfl (lv_at hl 1 rfl) ?_
  refine va_putF (D := (dC, dI)) (ci := 0) (v := .int o) (ty := .int) (C := R_CoverFinder) (T := F_CoverFinder) (N := 10) hx hb hts i_CoverFinder t_CoverFinder t_CoverFinder_ok n_CoverFinder hown hK hP hD hS 0 rfl rfl 0 (by decide) (hts _ mw_fl_CoverFinder_28) (fun _ h9 => h9) rfl hin rfl (by decide +kernel) rfl rfl (Nat.le_of_ble_eq_true rfl) d_CoverFinder_init_46 (fun H locs hP hD hS => ?_)
  have hP : va_P (dC, dI) classes [(h0, .inr (0, [.int o, .ref q_1, .ref q_2, .ref q_3, .ref q_4, .ref q_5, .int 0, .int 0, .long 0, .long 0])), (q_1, .inl (cI, 81, .inl ((fun _ => 0)))), (q_2, .inl (cI, 81, .inl ((fun _ => 0)))), (q_3, .inl (cJ, 81, .inr (.inl ((fun _ => 0))))), (q_4, .inl (cJ, 32, .inr (.inl ((fun _ => 0))))), (q_5, .inl (cI, 32, .inl ((fun _ => 0))))] H := hP
  have hD : va_D A [(h0, .inr (0, [.int o, .ref q_1, .ref q_2, .ref q_3, .ref q_4, .ref q_5, .int 0, .int 0, .long 0, .long 0])), (q_1, .inl (cI, 81, .inl ((fun _ => 0)))), (q_2, .inl (cI, 81, .inl ((fun _ => 0)))), (q_3, .inl (cJ, 81, .inr (.inl ((fun _ => 0))))), (q_4, .inl (cJ, 32, .inr (.inl ((fun _ => 0))))), (q_5, .inl (cI, 32, .inl ((fun _ => 0))))] := hD
  have hP9 := hP.sub (ws' := [(h0, .inr (0, [.int o, .ref q_1, .ref q_2, .ref q_3, .ref q_4, .ref q_5, .int ((nI 0)), .int 0, .long 0, .long 0])), (q_1, .inl (cI, 81, .inl ((fun _ => 0)))), (q_2, .inl (cI, 81, .inl ((fun _ => 0)))), (q_3, .inl (cJ, 81, .inr (.inl ((fun _ => 0))))), (q_4, .inl (cJ, 32, .inr (.inl ((fun _ => 0))))), (q_5, .inl (cI, 32, .inl ((fun _ => 0))))]) [0, 1, 2, 3, 4, 5] rfl
  have hD9 := hD.sub (ws' := [(h0, .inr (0, [.int o, .ref q_1, .ref q_2, .ref q_3, .ref q_4, .ref q_5, .int ((nI 0)), .int 0, .long 0, .long 0])), (q_1, .inl (cI, 81, .inl ((fun _ => 0)))), (q_2, .inl (cI, 81, .inl ((fun _ => 0)))), (q_3, .inl (cJ, 81, .inr (.inl ((fun _ => 0))))), (q_4, .inl (cJ, 32, .inr (.inl ((fun _ => 0))))), (q_5, .inl (cI, 32, .inl ((fun _ => 0))))]) [0, 1, 2, 3, 4, 5] (by decide) rfl
  exact W.vret hx hb hr (fun t ht hW => ⟨⟨(), rfl, trivial, q_1, q_2, q_3, q_4, q_5, by rw [ht]; exact hP9, va_K.moved hW.alike hK, hD9⟩, hS.F ht⟩) hS.2.2 d_CoverFinder_init_49
set_option maxHeartbeats 1000000 in
set_option maxRecDepth 100000 in
theorem c_Division_init (l : Launch) (dC : Nat → ClassId) (dI : Nat → Nat → Nat) (cI cJ : ClassId) (sz0 : Nat) (h0 : Nat) (p0 : Nat) : Met l y_Division_init (ct y_Division_init b_Division_init 2 (none)) ({ frames := 1, cells := 3, slots := 243, locals := 20 }) (va_Pc [.ref h0, .ref p0] (fun U => U.heap.size = sz0 ∧ va_P (dC, dI) classes [(h0, .inr (3, [.null, .null, .null, .null, .int 0, .long 0, .long 0, .int 0, .int 0]))] U.heap ∧ va_K (dC, dI) classes [(cI, .int), (cJ, .long)] U ∧ va_D (fun _ => True) [(h0, .inr (3, [.null, .null, .null, .null, .int 0, .long 0, .long 0, .int 0, .int 0]))])) (va_Qv (fun _ : Unit => True) (fun _ t => ∃ x1 x2 x3 : Nat, at_w dC dI cI cJ (va_A [(h0, .inr (3, [.null, .null, .null, .null, .int 0, .long 0, .long 0, .int 0, .int 0]))] sz0) [(h0, .inr (3, [.ref p0, .ref x1, .ref x2, .ref x3, .int ((nI 0)), .long 0, .long 0, .int 0, .int 0])), (x1, .inl (cJ, 81, .inr (.inl ((fun _ => 0))))), (x2, .inl (cJ, 81, .inr (.inl ((fun _ => 0))))), (x3, .inl (cI, 81, .inl ((fun _ => 0))))] t) (va_A [(h0, .inr (3, [.null, .null, .null, .null, .int 0, .long 0, .long 0, .int 0, .int 0]))] sz0)) 3 243 (va_A [(h0, .inr (3, [.null, .null, .null, .null, .int 0, .long 0, .long 0, .int 0, .int 0]))] sz0) := by
  refine Met.ofW (cc := b_Division_init) (maxL := 2) (ret := none) (by decide) rfl ?_
  intro p e s m args below meth c s₁ B hml hv
  obtain ⟨rfl, hsz, hP, hK, hD0⟩ := hv
  have hx := B.exec
  have hb := B.bytes
  have hr := B.returns
  have hts : ∀ w ∈ lwg, w.before _ s = true := fun w h => atoms_spec (ws := ct y_Division_init b_Division_init 2 (none)) B.pre w (List.mem_cons_of_mem _ h)
  have hown : s.vm.findClass R_Division = some m.cls := findClass_of_methodNamed B.named
  have hlocks := B.notSynchronized
  have hin : meth.name = "<init>" := (name_of_methodNamed B.named B.method).1
  subst hsz
  have hD := hD0.self (sz := s.heap.size)
  generalize hAe : va_A [(h0, .inr (3, [.null, .null, .null, .null, .int 0, .long 0, .long 0, .int 0, .int 0]))] s.heap.size = A at hD ⊢
  have hA : ∀ q : Nat, s.heap.size ≤ q → A q := fun q h => by rw [← hAe]; exact Or.inr h
  have hS : va_S A s.heap s.heap [] := va_S.rf
  have hl := lv_entry ([.ref h0, .ref p0]) (n := 2) (Nat.le_of_ble_eq_true rfl)
  rw [lg_entry_eq]
  generalize (lg_sl ([.ref h0, .ref p0]) ++ List.replicate (2 - (lg_sl ([.ref h0, .ref p0])).length) Slot.unset).toArray = ls at hl ⊢
  have hl : lv_has ls 2 [(0, .ref h0), (1, .ref p0)] := hl
  have hP : va_P (dC, dI) classes [(h0, .inr (3, [.null, .null, .null, .null, .int 0, .long 0, .long 0, .int 0, .int 0]))] s.heap := hP
  refine lv_aload_n hx hb d_Division_init_0 rfl (lv_at hl 0 rfl) ?_
  refine W.objInit hx hb hown (hts _ mw_ml_Division_3) (hts _ mw_im_JObject_init_V) (hts _ mw_code_JObject_init_V) rfl (by rw [hml]; exact hl.1) rfl d_Division_init_1 (Nat.le_of_ble_eq_true rfl) (Nat.le_of_ble_eq_true rfl) ?_
  refine lv_aload_n hx hb d_Division_init_4 rfl (lv_at hl 0 rfl) ?_
  refine lv_bipush (v := 81) hx hb d_Division_init_5 (by decide) ?_
  refine va_newa (D := (dC, dI)) (atype := .long) (N' := 81) hx hb (hts _ mw_arr_long) (ty := .long) rfl hK hP hD hS hA (a0 := (81, .inr (.inl (fun _ => 0)))) (fun _ => rfl) (by decide) rfl (by decide) (Nat.le_of_ble_eq_true rfl) (Nat.le_of_ble_eq_true rfl) d_Division_init_7 (fun q_1 cA H hK9 hP hD hS => ?_)
  have e9 := nw_J hK9
  subst e9
  clear hK9
  have hP : va_P (dC, dI) classes [(h0, .inr (3, [.null, .null, .null, .null, .int 0, .long 0, .long 0, .int 0, .int 0])), (q_1, .inl (cJ, 81, .inr (.inl ((fun _ => 0)))))] H := hP
  have hD : va_D A [(h0, .inr (3, [.null, .null, .null, .null, .int 0, .long 0, .long 0, .int 0, .int 0])), (q_1, .inl (cJ, 81, .inr (.inl ((fun _ => 0)))))] := hD
  refine va_putF (D := (dC, dI)) (ci := 3) (v := .ref q_1) (ty := .array .long) (C := R_Division) (T := F_Division) (N := 9) hx hb hts i_Division t_Division t_Division_ok n_Division hown hK hP hD hS 0 rfl rfl 1 (by decide) (hts _ mw_fl_Division_9) (fun _ h9 => h9) rfl hin rfl (by decide +kernel) rfl rfl (Nat.le_of_ble_eq_true rfl) d_Division_init_9 (fun H locs hP hD hS => ?_)
  have hP : va_P (dC, dI) classes [(h0, .inr (3, [.null, .ref q_1, .null, .null, .int 0, .long 0, .long 0, .int 0, .int 0])), (q_1, .inl (cJ, 81, .inr (.inl ((fun _ => 0)))))] H := hP
  have hD : va_D A [(h0, .inr (3, [.null, .ref q_1, .null, .null, .int 0, .long 0, .long 0, .int 0, .int 0])), (q_1, .inl (cJ, 81, .inr (.inl ((fun _ => 0)))))] := hD
  refine lv_aload_n hx hb d_Division_init_12 rfl (lv_at hl 0 rfl) ?_
  refine lv_bipush (v := 81) hx hb d_Division_init_13 (by decide) ?_
  refine va_newa (D := (dC, dI)) (atype := .long) (N' := 81) hx hb (hts _ mw_arr_long) (ty := .long) rfl hK hP hD hS hA (a0 := (81, .inr (.inl (fun _ => 0)))) (fun _ => rfl) (by decide) rfl (by decide) (Nat.le_of_ble_eq_true rfl) (Nat.le_of_ble_eq_true rfl) d_Division_init_15 (fun q_2 cA H hK9 hP hD hS => ?_)
  have e9 := nw_J hK9
  subst e9
  clear hK9
  have hP : va_P (dC, dI) classes [(h0, .inr (3, [.null, .ref q_1, .null, .null, .int 0, .long 0, .long 0, .int 0, .int 0])), (q_1, .inl (cJ, 81, .inr (.inl ((fun _ => 0))))), (q_2, .inl (cJ, 81, .inr (.inl ((fun _ => 0)))))] H := hP
  have hD : va_D A [(h0, .inr (3, [.null, .ref q_1, .null, .null, .int 0, .long 0, .long 0, .int 0, .int 0])), (q_1, .inl (cJ, 81, .inr (.inl ((fun _ => 0))))), (q_2, .inl (cJ, 81, .inr (.inl ((fun _ => 0)))))] := hD
  refine va_putF (D := (dC, dI)) (ci := 3) (v := .ref q_2) (ty := .array .long) (C := R_Division) (T := F_Division) (N := 9) hx hb hts i_Division t_Division t_Division_ok n_Division hown hK hP hD hS 0 rfl rfl 2 (by decide) (hts _ mw_fl_Division_15) (fun _ h9 => h9) rfl hin rfl (by decide +kernel) rfl rfl (Nat.le_of_ble_eq_true rfl) d_Division_init_17 (fun H locs hP hD hS => ?_)
  have hP : va_P (dC, dI) classes [(h0, .inr (3, [.null, .ref q_1, .ref q_2, .null, .int 0, .long 0, .long 0, .int 0, .int 0])), (q_1, .inl (cJ, 81, .inr (.inl ((fun _ => 0))))), (q_2, .inl (cJ, 81, .inr (.inl ((fun _ => 0)))))] H := hP
  have hD : va_D A [(h0, .inr (3, [.null, .ref q_1, .ref q_2, .null, .int 0, .long 0, .long 0, .int 0, .int 0])), (q_1, .inl (cJ, 81, .inr (.inl ((fun _ => 0))))), (q_2, .inl (cJ, 81, .inr (.inl ((fun _ => 0)))))] := hD
  refine lv_aload_n hx hb d_Division_init_20 rfl (lv_at hl 0 rfl) ?_
  refine lv_bipush (v := 81) hx hb d_Division_init_21 (by decide) ?_
  refine va_newa (D := (dC, dI)) (atype := .int) (N' := 81) hx hb (hts _ mw_arr_int) (ty := .int) rfl hK hP hD hS hA (a0 := (81, .inl (fun _ => 0))) (fun _ => rfl) (by decide) rfl (by decide) (Nat.le_of_ble_eq_true rfl) (Nat.le_of_ble_eq_true rfl) d_Division_init_23 (fun q_3 cA H hK9 hP hD hS => ?_)
  have e9 := nw_I hK9
  subst e9
  clear hK9
  have hP : va_P (dC, dI) classes [(h0, .inr (3, [.null, .ref q_1, .ref q_2, .null, .int 0, .long 0, .long 0, .int 0, .int 0])), (q_1, .inl (cJ, 81, .inr (.inl ((fun _ => 0))))), (q_2, .inl (cJ, 81, .inr (.inl ((fun _ => 0))))), (q_3, .inl (cI, 81, .inl ((fun _ => 0))))] H := hP
  have hD : va_D A [(h0, .inr (3, [.null, .ref q_1, .ref q_2, .null, .int 0, .long 0, .long 0, .int 0, .int 0])), (q_1, .inl (cJ, 81, .inr (.inl ((fun _ => 0))))), (q_2, .inl (cJ, 81, .inr (.inl ((fun _ => 0))))), (q_3, .inl (cI, 81, .inl ((fun _ => 0))))] := hD
  refine va_putF (D := (dC, dI)) (ci := 3) (v := .ref q_3) (ty := .array .int) (C := R_Division) (T := F_Division) (N := 9) hx hb hts i_Division t_Division t_Division_ok n_Division hown hK hP hD hS 0 rfl rfl 3 (by decide) (hts _ mw_fl_Division_18) (fun _ h9 => h9) rfl hin rfl (by decide +kernel) rfl rfl (Nat.le_of_ble_eq_true rfl) d_Division_init_25 (fun H locs hP hD hS => ?_)
  have hP : va_P (dC, dI) classes [(h0, .inr (3, [.null, .ref q_1, .ref q_2, .ref q_3, .int 0, .long 0, .long 0, .int 0, .int 0])), (q_1, .inl (cJ, 81, .inr (.inl ((fun _ => 0))))), (q_2, .inl (cJ, 81, .inr (.inl ((fun _ => 0))))), (q_3, .inl (cI, 81, .inl ((fun _ => 0))))] H := hP
  have hD : va_D A [(h0, .inr (3, [.null, .ref q_1, .ref q_2, .ref q_3, .int 0, .long 0, .long 0, .int 0, .int 0])), (q_1, .inl (cJ, 81, .inr (.inl ((fun _ => 0))))), (q_2, .inl (cJ, 81, .inr (.inl ((fun _ => 0))))), (q_3, .inl (cI, 81, .inl ((fun _ => 0))))] := hD
  refine lv_aload_n hx hb d_Division_init_28 rfl (lv_at hl 0 rfl) ?_
  refine lv_aload_n hx hb d_Division_init_29 rfl (lv_at hl 1 rfl) ?_
  refine va_putF (D := (dC, dI)) (ci := 3) (v := .ref p0) (ty := .object "CoverRows$Products") (C := R_Division) (T := F_Division) (N := 9) hx hb hts i_Division t_Division t_Division_ok n_Division hown hK hP hD hS 0 rfl rfl 0 (by decide) (hts _ mw_fl_Division_22) (fun _ h9 => h9) rfl hin rfl (by decide +kernel) rfl rfl (Nat.le_of_ble_eq_true rfl) d_Division_init_30 (fun H locs hP hD hS => ?_)
  have hP : va_P (dC, dI) classes [(h0, .inr (3, [.ref p0, .ref q_1, .ref q_2, .ref q_3, .int 0, .long 0, .long 0, .int 0, .int 0])), (q_1, .inl (cJ, 81, .inr (.inl ((fun _ => 0))))), (q_2, .inl (cJ, 81, .inr (.inl ((fun _ => 0))))), (q_3, .inl (cI, 81, .inl ((fun _ => 0))))] H := hP
  have hD : va_D A [(h0, .inr (3, [.ref p0, .ref q_1, .ref q_2, .ref q_3, .int 0, .long 0, .long 0, .int 0, .int 0])), (q_1, .inl (cJ, 81, .inr (.inl ((fun _ => 0))))), (q_2, .inl (cJ, 81, .inr (.inl ((fun _ => 0))))), (q_3, .inl (cI, 81, .inl ((fun _ => 0))))] := hD
  refine lv_aload_n hx hb d_Division_init_33 rfl (lv_at hl 0 rfl) ?_
  refine lv_iconst (v := 0) hx hb d_Division_init_34 (by decide) ?_
  refine va_put (D := (dC, dI)) (ci := 3) (v := .int 0) (ty := .int) (C := R_Division) (T := F_Division) (N := 9) hx hb hts i_Division t_Division t_Division_ok n_Division hown hK hP hD hS 0 rfl rfl 4 (by decide) (hts _ mw_fl_Division_26) (fun _ h9 => h9) rfl (by decide +kernel) rfl rfl (Nat.le_of_ble_eq_true rfl) d_Division_init_35 (fun H locs hP hD hS => ?_)
  have hP : va_P (dC, dI) classes [(h0, .inr (3, [.ref p0, .ref q_1, .ref q_2, .ref q_3, .int 0, .long 0, .long 0, .int 0, .int 0])), (q_1, .inl (cJ, 81, .inr (.inl ((fun _ => 0))))), (q_2, .inl (cJ, 81, .inr (.inl ((fun _ => 0))))), (q_3, .inl (cI, 81, .inl ((fun _ => 0))))] H := hP
  have hD : va_D A [(h0, .inr (3, [.ref p0, .ref q_1, .ref q_2, .ref q_3, .int 0, .long 0, .long 0, .int 0, .int 0])), (q_1, .inl (cJ, 81, .inr (.inl ((fun _ => 0))))), (q_2, .inl (cJ, 81, .inr (.inl ((fun _ => 0))))), (q_3, .inl (cI, 81, .inl ((fun _ => 0))))] := hD
  have hP9 := hP.sub (ws' := [(h0, .inr (3, [.ref p0, .ref q_1, .ref q_2, .ref q_3, .int ((nI 0)), .long 0, .long 0, .int 0, .int 0])), (q_1, .inl (cJ, 81, .inr (.inl ((fun _ => 0))))), (q_2, .inl (cJ, 81, .inr (.inl ((fun _ => 0))))), (q_3, .inl (cI, 81, .inl ((fun _ => 0))))]) [0, 1, 2, 3] rfl
  have hD9 := hD.sub (ws' := [(h0, .inr (3, [.ref p0, .ref q_1, .ref q_2, .ref q_3, .int ((nI 0)), .long 0, .long 0, .int 0, .int 0])), (q_1, .inl (cJ, 81, .inr (.inl ((fun _ => 0))))), (q_2, .inl (cJ, 81, .inr (.inl ((fun _ => 0))))), (q_3, .inl (cI, 81, .inl ((fun _ => 0))))]) [0, 1, 2, 3] (by decide) rfl
  exact W.vret hx hb hr (fun t ht hW => ⟨⟨(), rfl, trivial, q_1, q_2, q_3, by rw [ht]; exact hP9, va_K.moved hW.alike hK, hD9⟩, hS.F ht⟩) hS.2.2 d_Division_init_38
set_option maxHeartbeats 1000000 in
set_option maxRecDepth 100000 in
theorem c_Diagrams_init (l : Launch) (dC : Nat → ClassId) (dI : Nat → Nat → Nat) (cI cJ : ClassId) (sz0 : Nat) (h0 : Nat) (n : Int32) (o : Int32) : Met l y_Diagrams_init (ct y_Diagrams_init b_Diagrams_init 3 (none)) ({ frames := 1, cells := 3, slots := 22, locals := 20 }) (va_Pc [.ref h0, .int n, .int o] (fun U => U.heap.size = sz0 ∧ va_P (dC, dI) classes [(h0, .inr (2, [.int 0, .int 0, .null, .null, .null]))] U.heap ∧ va_K (dC, dI) classes [(cI, .int), (cJ, .long)] U ∧ va_D (fun _ => True) [(h0, .inr (2, [.int 0, .int 0, .null, .null, .null]))])) (va_Qv (fun _ : Unit => True) (fun _ t => ∃ x1 x2 x3 : Nat, at_w dC dI cI cJ (va_A [(h0, .inr (2, [.int 0, .int 0, .null, .null, .null]))] sz0) [(h0, .inr (2, [.int n, .int o, .ref x1, .ref x2, .ref x3])), (x1, .inl (cI, 4, .inl ((fun _ => 0)))), (x2, .inl (cI, 2, .inl ((fun _ => 0)))), (x3, .inl (cI, 16, .inl ((fun _ => 0))))] t) (va_A [(h0, .inr (2, [.int 0, .int 0, .null, .null, .null]))] sz0)) 3 22 (va_A [(h0, .inr (2, [.int 0, .int 0, .null, .null, .null]))] sz0) := by
  refine Met.ofW (cc := b_Diagrams_init) (maxL := 3) (ret := none) (by decide) rfl ?_
  intro p e s m args below meth c s₁ B hml hv
  obtain ⟨rfl, hsz, hP, hK, hD0⟩ := hv
  have hx := B.exec
  have hb := B.bytes
  have hr := B.returns
  have hts : ∀ w ∈ lwg, w.before _ s = true := fun w h => atoms_spec (ws := ct y_Diagrams_init b_Diagrams_init 3 (none)) B.pre w (List.mem_cons_of_mem _ h)
  have hown : s.vm.findClass R_Diagrams = some m.cls := findClass_of_methodNamed B.named
  have hlocks := B.notSynchronized
  have hin : meth.name = "<init>" := (name_of_methodNamed B.named B.method).1
  subst hsz
  have hD := hD0.self (sz := s.heap.size)
  generalize hAe : va_A [(h0, .inr (2, [.int 0, .int 0, .null, .null, .null]))] s.heap.size = A at hD ⊢
  have hA : ∀ q : Nat, s.heap.size ≤ q → A q := fun q h => by rw [← hAe]; exact Or.inr h
  have hS : va_S A s.heap s.heap [] := va_S.rf
  have hl := lv_entry ([.ref h0, .int n, .int o]) (n := 3) (Nat.le_of_ble_eq_true rfl)
  rw [lg_entry_eq]
  generalize (lg_sl ([.ref h0, .int n, .int o]) ++ List.replicate (3 - (lg_sl ([.ref h0, .int n, .int o])).length) Slot.unset).toArray = ls at hl ⊢
  have hl : lv_has ls 3 [(0, .ref h0), (1, .int n), (2, .int o)] := hl
  have hP : va_P (dC, dI) classes [(h0, .inr (2, [.int 0, .int 0, .null, .null, .null]))] s.heap := hP
  refine lv_aload_n hx hb d_Diagrams_init_0 rfl (lv_at hl 0 rfl) ?_
  refine W.objInit hx hb hown (hts _ mw_ml_Diagrams_3) (hts _ mw_im_JObject_init_V) (hts _ mw_code_JObject_init_V) rfl (by rw [hml]; exact hl.1) rfl d_Diagrams_init_1 (Nat.le_of_ble_eq_true rfl) (Nat.le_of_ble_eq_true rfl) ?_
  refine lv_aload_n hx hb d_Diagrams_init_4 rfl (lv_at hl 0 rfl) ?_
  refine lv_iconst (v := 4) hx hb d_Diagrams_init_5 (by decide) ?_
  refine va_newa (D := (dC, dI)) (atype := .int) (N' := 4) hx hb (hts _ mw_arr_int) (ty := .int) rfl hK hP hD hS hA (a0 := (4, .inl (fun _ => 0))) (fun _ => rfl) (by decide) rfl (by decide) (Nat.le_of_ble_eq_true rfl) (Nat.le_of_ble_eq_true rfl) d_Diagrams_init_6 (fun q_1 cA H hK9 hP hD hS => ?_)
  have e9 := nw_I hK9
  subst e9
  clear hK9
  have hP : va_P (dC, dI) classes [(h0, .inr (2, [.int 0, .int 0, .null, .null, .null])), (q_1, .inl (cI, 4, .inl ((fun _ => 0))))] H := hP
  have hD : va_D A [(h0, .inr (2, [.int 0, .int 0, .null, .null, .null])), (q_1, .inl (cI, 4, .inl ((fun _ => 0))))] := hD
  refine va_putF (D := (dC, dI)) (ci := 2) (v := .ref q_1) (ty := .array .int) (C := R_Diagrams) (T := F_Diagrams) (N := 5) hx hb hts i_Diagrams t_Diagrams t_Diagrams_ok n_Diagrams hown hK hP hD hS 0 rfl rfl 2 (by decide) (hts _ mw_fl_Diagrams_9) (fun _ h9 => h9) rfl hin rfl (by decide +kernel) rfl rfl (Nat.le_of_ble_eq_true rfl) d_Diagrams_init_8 (fun H locs hP hD hS => ?_)
  have hP : va_P (dC, dI) classes [(h0, .inr (2, [.int 0, .int 0, .ref q_1, .null, .null])), (q_1, .inl (cI, 4, .inl ((fun _ => 0))))] H := hP
  have hD : va_D A [(h0, .inr (2, [.int 0, .int 0, .ref q_1, .null, .null])), (q_1, .inl (cI, 4, .inl ((fun _ => 0))))] := hD
  refine lv_aload_n hx hb d_Diagrams_init_11 rfl (lv_at hl 0 rfl) ?_
  refine lv_iconst (v := 2) hx hb d_Diagrams_init_12 (by decide) ?_
  refine va_newa (D := (dC, dI)) (atype := .int) (N' := 2) hx hb (hts _ mw_arr_int) (ty := .int) rfl hK hP hD hS hA (a0 := (2, .inl (fun _ => 0))) (fun _ => rfl) (by decide) rfl (by decide) (Nat.le_of_ble_eq_true rfl) (Nat.le_of_ble_eq_true rfl) d_Diagrams_init_13 (fun q_2 cA H hK9 hP hD hS => ?_)
  have e9 := nw_I hK9
  subst e9
  clear hK9
  have hP : va_P (dC, dI) classes [(h0, .inr (2, [.int 0, .int 0, .ref q_1, .null, .null])), (q_1, .inl (cI, 4, .inl ((fun _ => 0)))), (q_2, .inl (cI, 2, .inl ((fun _ => 0))))] H := hP
  have hD : va_D A [(h0, .inr (2, [.int 0, .int 0, .ref q_1, .null, .null])), (q_1, .inl (cI, 4, .inl ((fun _ => 0)))), (q_2, .inl (cI, 2, .inl ((fun _ => 0))))] := hD
  refine va_putF (D := (dC, dI)) (ci := 2) (v := .ref q_2) (ty := .array .int) (C := R_Diagrams) (T := F_Diagrams) (N := 5) hx hb hts i_Diagrams t_Diagrams t_Diagrams_ok n_Diagrams hown hK hP hD hS 0 rfl rfl 3 (by decide) (hts _ mw_fl_Diagrams_15) (fun _ h9 => h9) rfl hin rfl (by decide +kernel) rfl rfl (Nat.le_of_ble_eq_true rfl) d_Diagrams_init_15 (fun H locs hP hD hS => ?_)
  have hP : va_P (dC, dI) classes [(h0, .inr (2, [.int 0, .int 0, .ref q_1, .ref q_2, .null])), (q_1, .inl (cI, 4, .inl ((fun _ => 0)))), (q_2, .inl (cI, 2, .inl ((fun _ => 0))))] H := hP
  have hD : va_D A [(h0, .inr (2, [.int 0, .int 0, .ref q_1, .ref q_2, .null])), (q_1, .inl (cI, 4, .inl ((fun _ => 0)))), (q_2, .inl (cI, 2, .inl ((fun _ => 0))))] := hD
  refine lv_aload_n hx hb d_Diagrams_init_18 rfl (lv_at hl 0 rfl) ?_
  refine lv_bipush (v := 16) hx hb d_Diagrams_init_19 (by decide) ?_
  refine va_newa (D := (dC, dI)) (atype := .int) (N' := 16) hx hb (hts _ mw_arr_int) (ty := .int) rfl hK hP hD hS hA (a0 := (16, .inl (fun _ => 0))) (fun _ => rfl) (by decide) rfl (by decide) (Nat.le_of_ble_eq_true rfl) (Nat.le_of_ble_eq_true rfl) d_Diagrams_init_21 (fun q_3 cA H hK9 hP hD hS => ?_)
  have e9 := nw_I hK9
  subst e9
  clear hK9
  have hP : va_P (dC, dI) classes [(h0, .inr (2, [.int 0, .int 0, .ref q_1, .ref q_2, .null])), (q_1, .inl (cI, 4, .inl ((fun _ => 0)))), (q_2, .inl (cI, 2, .inl ((fun _ => 0)))), (q_3, .inl (cI, 16, .inl ((fun _ => 0))))] H := hP
  have hD : va_D A [(h0, .inr (2, [.int 0, .int 0, .ref q_1, .ref q_2, .null])), (q_1, .inl (cI, 4, .inl ((fun _ => 0)))), (q_2, .inl (cI, 2, .inl ((fun _ => 0)))), (q_3, .inl (cI, 16, .inl ((fun _ => 0))))] := hD
  refine va_putF (D := (dC, dI)) (ci := 2) (v := .ref q_3) (ty := .array .int) (C := R_Diagrams) (T := F_Diagrams) (N := 5) hx hb hts i_Diagrams t_Diagrams t_Diagrams_ok n_Diagrams hown hK hP hD hS 0 rfl rfl 4 (by decide) (hts _ mw_fl_Diagrams_18) (fun _ h9 => h9) rfl hin rfl (by decide +kernel) rfl rfl (Nat.le_of_ble_eq_true rfl) d_Diagrams_init_23 (fun H locs hP hD hS => ?_)
  have hP : va_P (dC, dI) classes [(h0, .inr (2, [.int 0, .int 0, .ref q_1, .ref q_2, .ref q_3])), (q_1, .inl (cI, 4, .inl ((fun _ => 0)))), (q_2, .inl (cI, 2, .inl ((fun _ => 0)))), (q_3, .inl (cI, 16, .inl ((fun _ => 0))))] H := hP
  have hD : va_D A [(h0, .inr (2, [.int 0, .int 0, .ref q_1, .ref q_2, .ref q_3])), (q_1, .inl (cI, 4, .inl ((fun _ => 0)))), (q_2, .inl (cI, 2, .inl ((fun _ => 0)))), (q_3, .inl (cI, 16, .inl ((fun _ => 0))))] := hD
  refine lv_aload_n hx hb d_Diagrams_init_26 rfl (lv_at hl 0 rfl) ?_
  refine lv_iload_n hx hb d_Diagrams_init_27 rfl (lv_at hl 1 rfl) ?_
  refine va_putF (D := (dC, dI)) (ci := 2) (v := .int n) (ty := .int) (C := R_Diagrams) (T := F_Diagrams) (N := 5) hx hb hts i_Diagrams t_Diagrams t_Diagrams_ok n_Diagrams hown hK hP hD hS 0 rfl rfl 0 (by decide) (hts _ mw_fl_Diagrams_21) (fun _ h9 => h9) rfl hin rfl (by decide +kernel) rfl rfl (Nat.le_of_ble_eq_true rfl) d_Diagrams_init_28 (fun H locs hP hD hS => ?_)
  have hP : va_P (dC, dI) classes [(h0, .inr (2, [.int n, .int 0, .ref q_1, .ref q_2, .ref q_3])), (q_1, .inl (cI, 4, .inl ((fun _ => 0)))), (q_2, .inl (cI, 2, .inl ((fun _ => 0)))), (q_3, .inl (cI, 16, .inl ((fun _ => 0))))] H := hP
  have hD : va_D A [(h0, .inr (2, [.int n, .int 0, .ref q_1, .ref q_2, .ref q_3])), (q_1, .inl (cI, 4, .inl ((fun _ => 0)))), (q_2, .inl (cI, 2, .inl ((fun _ => 0)))), (q_3, .inl (cI, 16, .inl ((fun _ => 0))))] := hD
  refine lv_aload_n hx hb d_Diagrams_init_31 rfl (lv_at hl 0 rfl) ?_
  refine lv_iload_n hx hb d_Diagrams_init_32 rfl (lv_at hl 2 rfl) ?_
  refine va_putF (D := (dC, dI)) (ci := 2) (v := .int o) (ty := .int) (C := R_Diagrams) (T := F_Diagrams) (N := 5) hx hb hts i_Diagrams t_Diagrams t_Diagrams_ok n_Diagrams hown hK hP hD hS 0 rfl rfl 1 (by decide) (hts _ mw_fl_Diagrams_25) (fun _ h9 => h9) rfl hin rfl (by decide +kernel) rfl rfl (Nat.le_of_ble_eq_true rfl) d_Diagrams_init_33 (fun H locs hP hD hS => ?_)
  have hP : va_P (dC, dI) classes [(h0, .inr (2, [.int n, .int o, .ref q_1, .ref q_2, .ref q_3])), (q_1, .inl (cI, 4, .inl ((fun _ => 0)))), (q_2, .inl (cI, 2, .inl ((fun _ => 0)))), (q_3, .inl (cI, 16, .inl ((fun _ => 0))))] H := hP
  have hD : va_D A [(h0, .inr (2, [.int n, .int o, .ref q_1, .ref q_2, .ref q_3])), (q_1, .inl (cI, 4, .inl ((fun _ => 0)))), (q_2, .inl (cI, 2, .inl ((fun _ => 0)))), (q_3, .inl (cI, 16, .inl ((fun _ => 0))))] := hD
  have hP9 := hP.sub (ws' := [(h0, .inr (2, [.int n, .int o, .ref q_1, .ref q_2, .ref q_3])), (q_1, .inl (cI, 4, .inl ((fun _ => 0)))), (q_2, .inl (cI, 2, .inl ((fun _ => 0)))), (q_3, .inl (cI, 16, .inl ((fun _ => 0))))]) [0, 1, 2, 3] rfl
  have hD9 := hD.sub (ws' := [(h0, .inr (2, [.int n, .int o, .ref q_1, .ref q_2, .ref q_3])), (q_1, .inl (cI, 4, .inl ((fun _ => 0)))), (q_2, .inl (cI, 2, .inl ((fun _ => 0)))), (q_3, .inl (cI, 16, .inl ((fun _ => 0))))]) [0, 1, 2, 3] (by decide) rfl
  exact W.vret hx hb hr (fun t ht hW => ⟨⟨(), rfl, trivial, q_1, q_2, q_3, by rw [ht]; exact hP9, va_K.moved hW.alike hK, hD9⟩, hS.F ht⟩) hS.2.2 d_Diagrams_init_36
