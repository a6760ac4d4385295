/-! ===== constructors of the inner classes ===== -/
theorem nw_I {D : va_G} {cl : List vw_C} {s : State} {cI cJ cA : ClassId} (h : va_K D cl ([(cI, .int), (cJ, .long)] ++ [(cA, .int)]) s) : cI = cA := by
  have h1 : va_RA s cI .int := (h.2 0 _ rfl).2
  have h2 : va_RA s cA .int := (h.2 2 _ rfl).2
  exact Option.some.inj (h1.symm.trans h2)
theorem nw_J {D : va_G} {cl : List vw_C} {s : State} {cI cJ cA : ClassId} (h : va_K D cl ([(cI, .int), (cJ, .long)] ++ [(cA, .long)]) s) : cJ = cA := by
  have h1 : va_RA s cJ .long := (h.2 1 _ rfl).2
  have h2 : va_RA s cA .long := (h.2 2 _ rfl).2
  exact Option.some.inj (h1.symm.trans h2)
theorem fs_CoverFinder : ∀ j, j < 10 → defaultValue (t_CoverFinder j) = vp_V [.int 0, .null, .null, .null, .null, .null, .int 0, .int 0, .long 0, .long 0] j := by
  intro j hj
  match j, hj with
  | 0, _ => rfl
  | 1, _ => rfl
  | 2, _ => rfl
  | 3, _ => rfl
  | 4, _ => rfl
  | 5, _ => rfl
  | 6, _ => rfl
  | 7, _ => rfl
  | 8, _ => rfl
  | 9, _ => rfl
  | j + 10, h => omega
theorem fs_Cubes : ∀ j, j < 5 → defaultValue (t_Cubes j) = vp_V [.null, .int 0, .null, .null, .int 0] j := by
  intro j hj
  match j, hj with
  | 0, _ => rfl
  | 1, _ => rfl
  | 2, _ => rfl
  | 3, _ => rfl
  | 4, _ => rfl
  | j + 5, h => omega
theorem fs_Diagrams : ∀ j, j < 5 → defaultValue (t_Diagrams j) = vp_V [.int 0, .int 0, .null, .null, .null] j := by
  intro j hj
  match j, hj with
  | 0, _ => rfl
  | 1, _ => rfl
  | 2, _ => rfl
  | 3, _ => rfl
  | 4, _ => rfl
  | j + 5, h => omega
theorem fs_Division : ∀ j, j < 9 → defaultValue (t_Division j) = vp_V [.null, .null, .null, .null, .int 0, .long 0, .long 0, .int 0, .int 0] j := by
  intro j hj
  match j, hj with
  | 0, _ => rfl
  | 1, _ => rfl
  | 2, _ => rfl
  | 3, _ => rfl
  | 4, _ => rfl
  | 5, _ => rfl
  | 6, _ => rfl
  | 7, _ => rfl
  | 8, _ => rfl
  | j + 9, h => omega
theorem fs_PrimeFinder : ∀ j, j < 3 → defaultValue (t_PrimeFinder j) = vp_V [.null, .int 0, .null] j := by
  intro j hj
  match j, hj with
  | 0, _ => rfl
  | 1, _ => rfl
  | 2, _ => rfl
  | j + 3, h => omega
theorem fs_Products : ∀ j, j < 5 → defaultValue (t_Products j) = vp_V [.int 0, .int 0, .null, .null, .null] j := by
  intro j hj
  match j, hj with
  | 0, _ => rfl
  | 1, _ => rfl
  | 2, _ => rfl
  | 3, _ => rfl
  | 4, _ => rfl
  | j + 5, h => omega
theorem fs_Terms : ∀ j, j < 4 → defaultValue (t_Terms j) = vp_V [.null, .null, .null, .int 0] j := by
  intro j hj
  match j, hj with
  | 0, _ => rfl
  | 1, _ => rfl
  | 2, _ => rfl
  | 3, _ => rfl
  | j + 4, h => omega
theorem fs_Main : ∀ j, j < 11 → defaultValue (t_Main j) = vp_V [.int 0, .int 0, .null, .null, .null, .null, .null, .null, .null, .int 0, .int 0] j := by
  intro j hj
  match j, hj with
  | 0, _ => rfl
  | 1, _ => rfl
  | 2, _ => rfl
  | 3, _ => rfl
  | 4, _ => rfl
  | 5, _ => rfl
  | 6, _ => rfl
  | 7, _ => rfl
  | 8, _ => rfl
  | 9, _ => rfl
  | 10, _ => rfl
  | j + 11, h => omega
theorem fs_Ref : ∀ j, j < 25 → defaultValue (t_Ref j) = vp_V [.int 0, .int 0, .int 0, .int 0, .null, .null, .int 0, .null, .null, .null, .null, .null, .null, .int 0, .null, .int 0, .null, .null, .int 0, .null, .int 0, .null, .null, .int 0, .null] j := by
  intro j hj
  match j, hj with
  | 0, _ => rfl
  | 1, _ => rfl
  | 2, _ => rfl
  | 3, _ => rfl
  | 4, _ => rfl
  | 5, _ => rfl
  | 6, _ => rfl
  | 7, _ => rfl
  | 8, _ => rfl
  | 9, _ => rfl
  | 10, _ => rfl
  | 11, _ => rfl
  | 12, _ => rfl
  | 13, _ => rfl
  | 14, _ => rfl
  | 15, _ => rfl
  | 16, _ => rfl
  | 17, _ => rfl
  | 18, _ => rfl
  | 19, _ => rfl
  | 20, _ => rfl
  | 21, _ => rfl
  | 22, _ => rfl
  | 23, _ => rfl
  | 24, _ => rfl
  | j + 25, h => omega
/-- the digits of product P, from the last input up: care and bits -/
def stFd (N P i : Nat) (x : (Nat → Int32) × (Nat → Int32)) : (Nat → Int32) × (Nat → Int32) := itr (fun k x => if P / 3 ^ k % 3 = 2 then x else (upd x.1 P (x.1 P ||| (1 <<< ((nI (N - k) - 1) &&& 31))), upd x.2 P (x.2 P ||| (nI (P / 3 ^ k % 3) <<< ((nI (N - k) - 1) &&& 31))))) i x
def stHad (care bits : Nat → Int32) (P i : Nat) (had : Nat → Int32) : Nat → Int32 := itr (fun a h => if nI a &&& care P = bits P then upd h P (h P ||| (1 <<< (nI a &&& 31))) else h) i had
def stPr (N PW i : Nat) : (Nat → Int32) × (Nat → Int32) × (Nat → Int32) := itr (fun p x => ((stFd N p N (x.1, x.2.1)).1, (stFd N p N (x.1, x.2.1)).2, stHad (stFd N p N (x.1, x.2.1)).1 (stFd N p N (x.1, x.2.1)).2 p PW x.2.2)) i (fun _ => 0, fun _ => 0, fun _ => 0)
abbrev tPr (N PW Z : Nat) : (Nat → Int32) × (Nat → Int32) × (Nat → Int32) := stPr N PW Z
theorem dw_t {i N : Nat} (hN : N ≤ 4) (h : i ≤ N) (c : nI (N - i) - 1 < 0) : i = N := by
  have h1 : N - i = 0 ∨ N - i = 1 ∨ N - i = 2 ∨ N - i = 3 ∨ N - i = 4 := by omega
  rcases h1 with h1 | h1 | h1 | h1 | h1 <;> rw [h1] at c <;> first | omega | exact absurd c (by decide)
theorem dw_f {i N : Nat} (hN : N ≤ 4) (h : i ≤ N) (c : ¬ nI (N - i) - 1 < 0) : i < N := by
  by_cases h0 : N - i = 0
  · rw [h0] at c; exact absurd (by decide) c
  · omega
theorem dw_s {i N : Nat} (h : i < N) : (nI (N - i) - 1) + (-1) = nI (N - (i + 1)) - 1 := by
  rw [show N - i = N - (i + 1) + 1 by omega, nI_pred]
  exact (Int32.sub_eq_add_neg _ _).symm
theorem r3 {a : Nat} (h : a < 2 ^ 31) : nI a - nI a / 3 * 3 = nI (a % 3) := by rw [show (3 : Int32) = nI 3 from rfl]; exact pk_rem h (by omega) (by omega)
theorem q3 {a : Nat} (h : a < 2 ^ 31) : nI a / 3 = nI (a / 3) := by rw [show (3 : Int32) = nI 3 from rfl]; exact pk_div h (by omega) (by omega)
theorem p3_lt {P i : Nat} (h : P < 81) : P / 3 ^ i < 2 ^ 31 := Nat.lt_of_le_of_lt (Nat.div_le_self _ _) (by omega)
theorem p3_s (P i : Nat) : P / 3 ^ i / 3 = P / 3 ^ (i + 1) := by rw [Nat.div_div_eq_div_mul, Nat.pow_succ]
set_option maxHeartbeats 1000000 in
set_option maxRecDepth 100000 in
theorem lp_Products_fillHad {p : Program} {e : Env} {s : State} {m : MethodId} {args : Array Value} {below : List Frame} {meth : Method} {c : Code} (l : Launch) (dC : Nat → ClassId) (dI : Nat → Nat → Nat) (cI cJ : ClassId) (a0 : Nat) (a1 : Nat) (a2 : Nat) (a3 : Nat) (N : Nat) (sz : Int32) (care : Nat → Int32) (bits : Nat → Int32) (had : Nat → Int32) (P : Nat) (PW : Nat) (hN : N ≤ 4) (hP8 : P < 81) (hPW : (1 : Int32) <<< (nI N &&& 31) = nI PW ∧ PW ≤ 16) (hx : p.tables.exec = Jvm.exec) (hb : c.code = b_Products_fillHad) (hr : meth.sig.returnType = none) (hts : ∀ w ∈ lwg, w.before args s = true) (hown : s.vm.findClass R_Products = some m.cls) (hlocks : meth.locks = false) (hml : c.maxLocals = 3) (hK : va_K (dC, dI) classes [(cI, .int), (cJ, .long)] s) {A : Nat → Prop} (hA : ∀ q : Nat, s.heap.size ≤ q → A q) : ∀ (fu i : Nat), PW - i < fu → i ≤ PW → ∀ (H : Heap) (locs : List Loc) (ls : Array Slot), va_P (dC, dI) classes [(a0, .inr (5, [.int ((nI N)), .int sz, .ref a1, .ref a2, .ref a3])), (a1, .inl (cI, 81, .inl care)), (a2, .inl (cI, 81, .inl bits)), (a3, .inl (cI, 81, .inl ((stHad care bits P i had))))] H → va_D A [(a0, .inr (5, [.int ((nI N)), .int sz, .ref a1, .ref a2, .ref a3])), (a1, .inl (cI, 81, .inl care)), (a2, .inl (cI, 81, .inl bits)), (a3, .inl (cI, 81, .inl ((stHad care bits P i had))))] → va_S A s.heap H locs → lv_has ls 3 [(0, .ref a0), (1, .int ((nI P))), (2, .int ((nI i)))] → W p l e ({ frames := 0, cells := 0, slots := 0, locals := 0 } : Room) s m args below meth c H locs 0 0 (MQ below (va_Qv (fun _ : Unit => True) (fun _ => at_w dC dI cI cJ A [(a0, .inr (5, [.int ((nI N)), .int sz, .ref a1, .ref a2, .ref a3])), (a1, .inl (cI, 81, .inl care)), (a2, .inl (cI, 81, .inl bits)), (a3, .inl (cI, 81, .inl ((stHad care bits P PW had))))]) A) args s 0 0 A) (F0 m 2 ls []) := by
  intro fu
  induction fu with
  | zero => intro i h; omega
  | succ fu ih =>
    intro i hfu hle H locs ls hP hD hS hl
    have hPW2 := hPW.2
    refine lv_iload_n hx hb d_Products_fillHad_2 rfl (lv_at hl 2 rfl) ?_
    refine lv_iconst (v := 1) hx hb d_Products_fillHad_3 (by decide) ?_
    refine lv_aload_n hx hb d_Products_fillHad_4 rfl (lv_at hl 0 rfl) ?_
    refine va_get (D := (dC, dI)) (ci := 5) (v := .int ((nI N))) (C := R_Products) (T := F_Products) (N := 5) hx hb hts i_Products hown hK hP 0 rfl rfl 0 (by decide) (hts _ mw_fl_Products_21) (fun _ h9 => h9) rfl d_Products_fillHad_5 ?_
    refine lv_ishl hx hb d_Products_fillHad_8 ?_
    refine w_ti (show _ = nI PW from hPW.1) ?_
    refine lv_icmp_ge (tgt := 47) hx hb d_Products_fillHad_9 (by decide) (fun c_9 => ?_) (fun c_9 => ?_)
    · have hE : i = PW := Nat.le_antisymm hle ((nI_leI (a := PW) (b := i) (by omega) (by omega)).mp c_9)
      have hP9 := hP.sub (ws' := [(a0, .inr (5, [.int ((nI N)), .int sz, .ref a1, .ref a2, .ref a3])), (a1, .inl (cI, 81, .inl care)), (a2, .inl (cI, 81, .inl bits)), (a3, .inl (cI, 81, .inl ((stHad care bits P PW had))))]) [0, 1, 2, 3] (by subst hE; rfl)
      have hD9 := hD.sub (ws' := [(a0, .inr (5, [.int ((nI N)), .int sz, .ref a1, .ref a2, .ref a3])), (a1, .inl (cI, 81, .inl care)), (a2, .inl (cI, 81, .inl bits)), (a3, .inl (cI, 81, .inl ((stHad care bits P PW had))))]) [0, 1, 2, 3] (by decide) (by subst hE; rfl)
      exact W.vret hx hb hr (fun t ht hW => ⟨⟨(), rfl, trivial, by rw [ht]; exact hP9, va_K.moved hW.alike hK, hD9⟩, hS.F ht⟩) hS.2.2 d_Products_fillHad_47
    · have hlt : i < PW := Nat.lt_of_not_le (fun h => c_9 ((nI_leI (a := PW) (b := i) (by omega) (by omega)).mpr h))
      refine lv_iload_n hx hb d_Products_fillHad_12 rfl (lv_at hl 2 rfl) ?_
      refine lv_aload_n hx hb d_Products_fillHad_13 rfl (lv_at hl 0 rfl) ?_
      refine va_get (D := (dC, dI)) (ci := 5) (v := .ref a1) (C := R_Products) (T := F_Products) (N := 5) hx hb hts i_Products hown hK hP 0 rfl rfl 2 (by decide) (hts _ mw_fl_Products_9) (fun _ h9 => h9) rfl d_Products_fillHad_14 ?_
      refine lv_iload_n hx hb d_Products_fillHad_17 rfl (lv_at hl 1 rfl) ?_
      refine va_iald hx hb hK hP 1 0 rfl rfl (vp_in_nI hP8 (by omega)) d_Products_fillHad_18 ?_
      refine w_ti (show _ = care P from by rw [nI_clamp (by omega)]) ?_
      refine lv_iand hx hb d_Products_fillHad_19 ?_
      refine lv_aload_n hx hb d_Products_fillHad_20 rfl (lv_at hl 0 rfl) ?_
      refine va_get (D := (dC, dI)) (ci := 5) (v := .ref a2) (C := R_Products) (T := F_Products) (N := 5) hx hb hts i_Products hown hK hP 0 rfl rfl 3 (by decide) (hts _ mw_fl_Products_15) (fun _ h9 => h9) rfl d_Products_fillHad_21 ?_
      refine lv_iload_n hx hb d_Products_fillHad_24 rfl (lv_at hl 1 rfl) ?_
      refine va_iald hx hb hK hP 2 0 rfl rfl (vp_in_nI hP8 (by omega)) d_Products_fillHad_25 ?_
      refine w_ti (show _ = bits P from by rw [nI_clamp (by omega)]) ?_
      refine lv_icmp_ne (tgt := 41) hx hb d_Products_fillHad_26 (by decide) (fun c_26 => ?_) (fun c_26 => ?_)
      · refine lv_iinc (v := (nI (i + 1))) (lv' := [(2, .int ((nI (i + 1)))), (0, .ref a0), (1, .int ((nI P)))]) hx hb d_Products_fillHad_41 hl (k := 2) rfl (show nI i + 1 = nI (i + 1) from nI_1 i) (by decide) rfl (fun ls hl => ?_)
        refine lv_goto (tgt := 2) hx hb d_Products_fillHad_44 (by decide) ?_
        have hs : stHad care bits P (i + 1) had = stHad care bits P i had := if_neg c_26
        exact ih (i + 1) (by omega) (by omega) _ _ ls (by rw [hs]; exact hP.sub [0, 1, 2, 3] rfl) (by rw [hs]; exact hD.sub [0, 1, 2, 3] (by decide) rfl) hS (lv_sub hl [1, 2, 0] rfl)
      · refine lv_aload_n hx hb d_Products_fillHad_29 rfl (lv_at hl 0 rfl) ?_
        refine va_get (D := (dC, dI)) (ci := 5) (v := .ref a3) (C := R_Products) (T := F_Products) (N := 5) hx hb hts i_Products hown hK hP 0 rfl rfl 4 (by decide) (hts _ mw_fl_Products_18) (fun _ h9 => h9) rfl d_Products_fillHad_30 ?_
        refine lv_iload_n hx hb d_Products_fillHad_33 rfl (lv_at hl 1 rfl) ?_
        refine lv_dup2_11 hx hb d_Products_fillHad_34 rfl rfl ?_
        refine va_iald hx hb hK hP 3 0 rfl rfl (vp_in_nI hP8 (by omega)) d_Products_fillHad_35 ?_
        refine w_ti (show _ = (stHad care bits P i had) P from by rw [nI_clamp (by omega)]) ?_
        refine lv_iconst (v := 1) hx hb d_Products_fillHad_36 (by decide) ?_
        refine lv_iload_n hx hb d_Products_fillHad_37 rfl (lv_at hl 2 rfl) ?_
        refine lv_ishl hx hb d_Products_fillHad_38 ?_
        refine lv_ior hx hb d_Products_fillHad_39 ?_
        refine va_iast hx hb hK hP hD hS 3 0 rfl rfl (vp_in_nI hP8 (by omega)) d_Products_fillHad_40 (fun H locs hP hD hS => ?_)
        have hP : va_P (dC, dI) classes [(a0, .inr (5, [.int ((nI N)), .int sz, .ref a1, .ref a2, .ref a3])), (a1, .inl (cI, 81, .inl care)), (a2, .inl (cI, 81, .inl bits)), (a3, .inl (cI, 81, .inl ((upd ((stHad care bits P i had)) (nI P).toNatClampNeg ((((stHad care bits P i had) P) ||| ((1 : Int32) <<< ((nI i) &&& 31))))))))] H := hP
        have hD : va_D A [(a0, .inr (5, [.int ((nI N)), .int sz, .ref a1, .ref a2, .ref a3])), (a1, .inl (cI, 81, .inl care)), (a2, .inl (cI, 81, .inl bits)), (a3, .inl (cI, 81, .inl ((upd ((stHad care bits P i had)) (nI P).toNatClampNeg ((((stHad care bits P i had) P) ||| ((1 : Int32) <<< ((nI i) &&& 31))))))))] := hD
        rw [show (nI P).toNatClampNeg = P from nI_clamp (by omega)] at hP hD
        refine lv_iinc (v := (nI (i + 1))) (lv' := [(2, .int ((nI (i + 1)))), (0, .ref a0), (1, .int ((nI P)))]) hx hb d_Products_fillHad_41 hl (k := 2) rfl (show nI i + 1 = nI (i + 1) from nI_1 i) (by decide) rfl (fun ls hl => ?_)
        refine lv_goto (tgt := 2) hx hb d_Products_fillHad_44 (by decide) ?_
        have hs : stHad care bits P (i + 1) had = upd (stHad care bits P i had) P ((stHad care bits P i had) P ||| (1 <<< (nI i &&& 31))) := if_pos c_26
        exact ih (i + 1) (by omega) (by omega) _ _ ls (by rw [hs]; exact hP.sub [0, 1, 2, 3] rfl) (by rw [hs]; exact hD.sub [0, 1, 2, 3] (by decide) rfl) hS (lv_sub hl [1, 2, 0] rfl)
set_option maxHeartbeats 1000000 in
set_option maxRecDepth 100000 in
theorem c_Products_fillHad (l : Launch) (dC : Nat → ClassId) (dI : Nat → Nat → Nat) (cI cJ : ClassId) (sz0 : Nat) (a0 : Nat) (a1 : Nat) (a2 : Nat) (a3 : Nat) (N : Nat) (sz : Int32) (care : Nat → Int32) (bits : Nat → Int32) (had : Nat → Int32) (P : Nat) (PW : Nat) (hN : N ≤ 4) (hP8 : P < 81) (hPW : (1 : Int32) <<< (nI N &&& 31) = nI PW ∧ PW ≤ 16) : Met l y_Products_fillHad (ct y_Products_fillHad b_Products_fillHad 3 (none)) ({ frames := 0, cells := 0, slots := 0, locals := 0 }) (va_Pc [.ref a0, .int ((nI P))] (fun U => U.heap.size = sz0 ∧ va_P (dC, dI) classes [(a0, .inr (5, [.int ((nI N)), .int sz, .ref a1, .ref a2, .ref a3])), (a1, .inl (cI, 81, .inl care)), (a2, .inl (cI, 81, .inl bits)), (a3, .inl (cI, 81, .inl had))] U.heap ∧ va_K (dC, dI) classes [(cI, .int), (cJ, .long)] U ∧ va_D (fun _ => True) [(a0, .inr (5, [.int ((nI N)), .int sz, .ref a1, .ref a2, .ref a3])), (a1, .inl (cI, 81, .inl care)), (a2, .inl (cI, 81, .inl bits)), (a3, .inl (cI, 81, .inl had))])) (va_Qv (fun _ : Unit => True) (fun _ => at_w dC dI cI cJ (va_A [(a0, .inr (5, [.int ((nI N)), .int sz, .ref a1, .ref a2, .ref a3])), (a1, .inl (cI, 81, .inl care)), (a2, .inl (cI, 81, .inl bits)), (a3, .inl (cI, 81, .inl had))] sz0) [(a0, .inr (5, [.int ((nI N)), .int sz, .ref a1, .ref a2, .ref a3])), (a1, .inl (cI, 81, .inl care)), (a2, .inl (cI, 81, .inl bits)), (a3, .inl (cI, 81, .inl ((stHad care bits P PW had))))]) (va_A [(a0, .inr (5, [.int ((nI N)), .int sz, .ref a1, .ref a2, .ref a3])), (a1, .inl (cI, 81, .inl care)), (a2, .inl (cI, 81, .inl bits)), (a3, .inl (cI, 81, .inl had))] sz0)) 0 0 (va_A [(a0, .inr (5, [.int ((nI N)), .int sz, .ref a1, .ref a2, .ref a3])), (a1, .inl (cI, 81, .inl care)), (a2, .inl (cI, 81, .inl bits)), (a3, .inl (cI, 81, .inl had))] sz0) := by
  refine Met.ofW (cc := b_Products_fillHad) (maxL := 3) (ret := none) (by decide) rfl ?_
  intro p e s m args below meth c s₁ B hml hv
  obtain ⟨rfl, hsz, hP, hK, hD0⟩ := hv
  have hx := B.exec
  have hb := B.bytes
  have hr := B.returns
  have hts : ∀ w ∈ lwg, w.before _ s = true := fun w h => atoms_spec (ws := ct y_Products_fillHad b_Products_fillHad 3 (none)) B.pre w (List.mem_cons_of_mem _ h)
  have hown : s.vm.findClass R_Products = some m.cls := findClass_of_methodNamed B.named
  have hlocks := B.notSynchronized
  subst hsz
  have hD := hD0.self (sz := s.heap.size)
  generalize hAe : va_A [(a0, .inr (5, [.int ((nI N)), .int sz, .ref a1, .ref a2, .ref a3])), (a1, .inl (cI, 81, .inl care)), (a2, .inl (cI, 81, .inl bits)), (a3, .inl (cI, 81, .inl had))] s.heap.size = A at hD ⊢
  have hA : ∀ q : Nat, s.heap.size ≤ q → A q := fun q h => by rw [← hAe]; exact Or.inr h
  have hS : va_S A s.heap s.heap [] := va_S.rf
  have hl := lv_entry ([.ref a0, .int ((nI P))]) (n := 3) (Nat.le_of_ble_eq_true rfl)
  rw [lg_entry_eq]
  generalize (lg_sl ([.ref a0, .int ((nI P))]) ++ List.replicate (3 - (lg_sl ([.ref a0, .int ((nI P))])).length) Slot.unset).toArray = ls at hl ⊢
  have hl : lv_has ls 3 [(0, .ref a0), (1, .int ((nI P)))] := hl
  have hP : va_P (dC, dI) classes [(a0, .inr (5, [.int ((nI N)), .int sz, .ref a1, .ref a2, .ref a3])), (a1, .inl (cI, 81, .inl care)), (a2, .inl (cI, 81, .inl bits)), (a3, .inl (cI, 81, .inl had))] s.heap := hP
  refine lv_iconst (v := 0) hx hb d_Products_fillHad_0 (by decide) ?_
  refine lv_istore_n (lv' := [(2, .int 0), (0, .ref a0), (1, .int ((nI P)))]) hx hb d_Products_fillHad_1 rfl hl (by decide) rfl (fun ls hl => ?_)
  exact lp_Products_fillHad l dC dI cI cJ a0 a1 a2 a3 N sz care bits had P PW hN hP8 hPW hx hb hr hts hown hlocks hml hK hA (PW + 1) 0 (by omega) (Nat.zero_le _) _ _ ls (hP.sub [0, 1, 2, 3] rfl) (hD.sub [0, 1, 2, 3] (by decide) rfl) hS (lv_sub hl [1, 2, 0] rfl)
set_option maxHeartbeats 1000000 in
set_option maxRecDepth 100000 in
theorem lp_Products_fillDigits {p : Program} {e : Env} {s : State} {m : MethodId} {args : Array Value} {below : List Frame} {meth : Method} {c : Code} (l : Launch) (dC : Nat → ClassId) (dI : Nat → Nat → Nat) (cI cJ : ClassId) (a0 : Nat) (a1 : Nat) (a2 : Nat) (a3 : Nat) (N : Nat) (sz : Int32) (care : Nat → Int32) (bits : Nat → Int32) (had : Nat → Int32) (P : Nat) (hN : N ≤ 4) (hP8 : P < 81) (hx : p.tables.exec = Jvm.exec) (hb : c.code = b_Products_fillDigits) (hr : meth.sig.returnType = none) (hts : ∀ w ∈ lwg, w.before args s = true) (hown : s.vm.findClass R_Products = some m.cls) (hlocks : meth.locks = false) (hml : c.maxLocals = 5) (hK : va_K (dC, dI) classes [(cI, .int), (cJ, .long)] s) {A : Nat → Prop} (hA : ∀ q : Nat, s.heap.size ≤ q → A q) : ∀ (fu i : Nat), N - i < fu → i ≤ N → ∀ (H : Heap) (locs : List Loc) (ls : Array Slot), va_P (dC, dI) classes [(a0, .inr (5, [.int ((nI N)), .int sz, .ref a1, .ref a2, .ref a3])), (a1, .inl (cI, 81, .inl ((stFd N P i (care, bits)).1))), (a2, .inl (cI, 81, .inl ((stFd N P i (care, bits)).2))), (a3, .inl (cI, 81, .inl had))] H → va_D A [(a0, .inr (5, [.int ((nI N)), .int sz, .ref a1, .ref a2, .ref a3])), (a1, .inl (cI, 81, .inl ((stFd N P i (care, bits)).1))), (a2, .inl (cI, 81, .inl ((stFd N P i (care, bits)).2))), (a3, .inl (cI, 81, .inl had))] → va_S A s.heap H locs → lv_has ls 5 [(0, .ref a0), (1, .int ((nI P))), (2, .int ((nI (P / 3 ^ i)))), (3, .int ((nI (N - i) - 1)))] → W p l e ({ frames := 0, cells := 0, slots := 0, locals := 0 } : Room) s m args below meth c H locs 0 0 (MQ below (va_Qv (fun _ : Unit => True) (fun _ => at_w dC dI cI cJ A [(a0, .inr (5, [.int ((nI N)), .int sz, .ref a1, .ref a2, .ref a3])), (a1, .inl (cI, 81, .inl ((stFd N P N (care, bits)).1))), (a2, .inl (cI, 81, .inl ((stFd N P N (care, bits)).2))), (a3, .inl (cI, 81, .inl had))]) A) args s 0 0 A) (F0 m 9 ls []) := by
  intro fu
  induction fu with
  | zero => intro i h; omega
  | succ fu ih =>
    intro i hfu hle H locs ls hP hD hS hl
    have hdg : P / 3 ^ i % 3 < 3 := Nat.mod_lt _ (by decide)
    refine lv_iload_n hx hb d_Products_fillDigits_9 rfl (lv_at hl 3 rfl) ?_
    refine lv_if_lt (tgt := 59) hx hb d_Products_fillDigits_10 (by decide) (fun c_10 => ?_) (fun c_10 => ?_)
    · have hE : i = N := dw_t hN hle c_10
      have hP9 := hP.sub (ws' := [(a0, .inr (5, [.int ((nI N)), .int sz, .ref a1, .ref a2, .ref a3])), (a1, .inl (cI, 81, .inl ((stFd N P N (care, bits)).1))), (a2, .inl (cI, 81, .inl ((stFd N P N (care, bits)).2))), (a3, .inl (cI, 81, .inl had))]) [0, 1, 2, 3] (by subst hE; rfl)
      have hD9 := hD.sub (ws' := [(a0, .inr (5, [.int ((nI N)), .int sz, .ref a1, .ref a2, .ref a3])), (a1, .inl (cI, 81, .inl ((stFd N P N (care, bits)).1))), (a2, .inl (cI, 81, .inl ((stFd N P N (care, bits)).2))), (a3, .inl (cI, 81, .inl had))]) [0, 1, 2, 3] (by decide) (by subst hE; rfl)
      exact W.vret hx hb hr (fun t ht hW => ⟨⟨(), rfl, trivial, by rw [ht]; exact hP9, va_K.moved hW.alike hK, hD9⟩, hS.F ht⟩) hS.2.2 d_Products_fillDigits_59
    · have hlt : i < N := dw_f hN hle c_10
      refine lv_iload_n hx hb d_Products_fillDigits_13 rfl (lv_at hl 2 rfl) ?_
      refine lv_iconst (v := 3) hx hb d_Products_fillDigits_14 (by decide) ?_
      refine lv_irem hx hb d_Products_fillDigits_15 (by decide) ?_
      refine w_ti (show _ = nI (P / 3 ^ i % 3) from r3 (p3_lt hP8)) ?_
      refine lv_istore (lv' := [(4, .int ((nI (P / 3 ^ i % 3)))), (0, .ref a0), (1, .int ((nI P))), (2, .int ((nI (P / 3 ^ i)))), (3, .int ((nI (N - i) - 1)))]) hx hb d_Products_fillDigits_16 hl (by decide) rfl (fun ls hl => ?_)
      refine lv_iload_n hx hb d_Products_fillDigits_18 rfl (lv_at hl 3 rfl) ?_
      refine lv_iconst (v := 3) hx hb d_Products_fillDigits_19 (by decide) ?_
      refine lv_idiv hx hb d_Products_fillDigits_20 (by decide) ?_
      refine w_ti (show _ = nI (P / 3 ^ (i + 1)) from (q3 (p3_lt hP8)).trans (by rw [p3_s])) ?_
      refine lv_istore_n (lv' := [(2, .int ((nI (P / 3 ^ (i + 1))))), (4, .int ((nI (P / 3 ^ i % 3)))), (0, .ref a0), (1, .int ((nI P))), (3, .int ((nI (N - i) - 1)))]) hx hb d_Products_fillDigits_21 rfl hl (by decide) rfl (fun ls hl => ?_)
      refine lv_iload hx hb d_Products_fillDigits_22 (lv_at hl 1 rfl) ?_
      refine lv_iconst (v := 2) hx hb d_Products_fillDigits_24 (by decide) ?_
      refine lv_icmp_eq (tgt := 53) hx hb d_Products_fillDigits_25 (by decide) (fun c_25 => ?_) (fun c_25 => ?_)
      · refine lv_iinc (v := (nI (N - (i + 1)) - 1)) (lv' := [(3, .int ((nI (N - (i + 1)) - 1))), (2, .int ((nI (P / 3 ^ (i + 1))))), (4, .int ((nI (P / 3 ^ i % 3)))), (0, .ref a0), (1, .int ((nI P)))]) hx hb d_Products_fillDigits_53 hl (k := 4) rfl (show (nI (N - i) - 1) + (-1) = nI (N - (i + 1)) - 1 from dw_s hlt) (by decide) rfl (fun ls hl => ?_)
        refine lv_goto (tgt := 9) hx hb d_Products_fillDigits_56 (by decide) ?_
        have hs : stFd N P (i + 1) (care, bits) = stFd N P i (care, bits) := if_pos ((nI_eq (a := P / 3 ^ i % 3) (b := 2) (by omega) (by omega)).mp c_25)
        exact ih (i + 1) (by omega) (by omega) _ _ ls (by rw [hs]; exact hP.sub [0, 1, 2, 3] rfl) (by rw [hs]; exact hD.sub [0, 1, 2, 3] (by decide) rfl) hS (lv_sub hl [3, 4, 1, 0] rfl)
      · refine lv_aload_n hx hb d_Products_fillDigits_28 rfl (lv_at hl 2 rfl) ?_
        refine va_get (D := (dC, dI)) (ci := 5) (v := .ref a1) (C := R_Products) (T := F_Products) (N := 5) hx hb hts i_Products hown hK hP 0 rfl rfl 2 (by decide) (hts _ mw_fl_Products_9) (fun _ h9 => h9) rfl d_Products_fillDigits_29 ?_
        refine lv_iload_n hx hb d_Products_fillDigits_32 rfl (lv_at hl 3 rfl) ?_
        refine lv_dup2_11 hx hb d_Products_fillDigits_33 rfl rfl ?_
        refine va_iald hx hb hK hP 1 0 rfl rfl (vp_in_nI hP8 (by omega)) d_Products_fillDigits_34 ?_
        refine w_ti (show _ = (stFd N P i (care, bits)).1 P from by rw [nI_clamp (by omega)]) ?_
        refine lv_iconst (v := 1) hx hb d_Products_fillDigits_35 (by decide) ?_
        refine lv_iload_n hx hb d_Products_fillDigits_36 rfl (lv_at hl 4 rfl) ?_
        refine lv_ishl hx hb d_Products_fillDigits_37 ?_
        refine lv_ior hx hb d_Products_fillDigits_38 ?_
        refine va_iast hx hb hK hP hD hS 1 0 rfl rfl (vp_in_nI hP8 (by omega)) d_Products_fillDigits_39 (fun H locs hP hD hS => ?_)
        have hP : va_P (dC, dI) classes [(a0, .inr (5, [.int ((nI N)), .int sz, .ref a1, .ref a2, .ref a3])), (a1, .inl (cI, 81, .inl ((upd ((stFd N P i (care, bits)).1) (nI P).toNatClampNeg ((((stFd N P i (care, bits)).1 P) ||| ((1 : Int32) <<< ((nI (N - i) - 1) &&& 31)))))))), (a2, .inl (cI, 81, .inl ((stFd N P i (care, bits)).2))), (a3, .inl (cI, 81, .inl had))] H := hP
        have hD : va_D A [(a0, .inr (5, [.int ((nI N)), .int sz, .ref a1, .ref a2, .ref a3])), (a1, .inl (cI, 81, .inl ((upd ((stFd N P i (care, bits)).1) (nI P).toNatClampNeg ((((stFd N P i (care, bits)).1 P) ||| ((1 : Int32) <<< ((nI (N - i) - 1) &&& 31)))))))), (a2, .inl (cI, 81, .inl ((stFd N P i (care, bits)).2))), (a3, .inl (cI, 81, .inl had))] := hD
        rw [show (nI P).toNatClampNeg = P from nI_clamp (by omega)] at hP hD
        refine lv_aload_n hx hb d_Products_fillDigits_40 rfl (lv_at hl 2 rfl) ?_
        refine va_get (D := (dC, dI)) (ci := 5) (v := .ref a2) (C := R_Products) (T := F_Products) (N := 5) hx hb hts i_Products hown hK hP 0 rfl rfl 3 (by decide) (hts _ mw_fl_Products_15) (fun _ h9 => h9) rfl d_Products_fillDigits_41 ?_
        refine lv_iload_n hx hb d_Products_fillDigits_44 rfl (lv_at hl 3 rfl) ?_
        refine lv_dup2_11 hx hb d_Products_fillDigits_45 rfl rfl ?_
        refine va_iald hx hb hK hP 2 0 rfl rfl (vp_in_nI hP8 (by omega)) d_Products_fillDigits_46 ?_
        refine w_ti (show _ = (stFd N P i (care, bits)).2 P from by rw [nI_clamp (by omega)]) ?_
        refine lv_iload hx hb d_Products_fillDigits_47 (lv_at hl 1 rfl) ?_
        refine lv_iload_n hx hb d_Products_fillDigits_49 rfl (lv_at hl 4 rfl) ?_
        refine lv_ishl hx hb d_Products_fillDigits_50 ?_
        refine lv_ior hx hb d_Products_fillDigits_51 ?_
        refine va_iast hx hb hK hP hD hS 2 0 rfl rfl (vp_in_nI hP8 (by omega)) d_Products_fillDigits_52 (fun H locs hP hD hS => ?_)
        have hP : va_P (dC, dI) classes [(a0, .inr (5, [.int ((nI N)), .int sz, .ref a1, .ref a2, .ref a3])), (a1, .inl (cI, 81, .inl ((upd ((stFd N P i (care, bits)).1) P ((((stFd N P i (care, bits)).1 P) ||| ((1 : Int32) <<< ((nI (N - i) - 1) &&& 31)))))))), (a2, .inl (cI, 81, .inl ((upd ((stFd N P i (care, bits)).2) (nI P).toNatClampNeg ((((stFd N P i (care, bits)).2 P) ||| ((nI (P / 3 ^ i % 3)) <<< ((nI (N - i) - 1) &&& 31)))))))), (a3, .inl (cI, 81, .inl had))] H := hP
        have hD : va_D A [(a0, .inr (5, [.int ((nI N)), .int sz, .ref a1, .ref a2, .ref a3])), (a1, .inl (cI, 81, .inl ((upd ((stFd N P i (care, bits)).1) P ((((stFd N P i (care, bits)).1 P) ||| ((1 : Int32) <<< ((nI (N - i) - 1) &&& 31)))))))), (a2, .inl (cI, 81, .inl ((upd ((stFd N P i (care, bits)).2) (nI P).toNatClampNeg ((((stFd N P i (care, bits)).2 P) ||| ((nI (P / 3 ^ i % 3)) <<< ((nI (N - i) - 1) &&& 31)))))))), (a3, .inl (cI, 81, .inl had))] := hD
        rw [show (nI P).toNatClampNeg = P from nI_clamp (by omega)] at hP hD
        refine lv_iinc (v := (nI (N - (i + 1)) - 1)) (lv' := [(3, .int ((nI (N - (i + 1)) - 1))), (2, .int ((nI (P / 3 ^ (i + 1))))), (4, .int ((nI (P / 3 ^ i % 3)))), (0, .ref a0), (1, .int ((nI P)))]) hx hb d_Products_fillDigits_53 hl (k := 4) rfl (show (nI (N - i) - 1) + (-1) = nI (N - (i + 1)) - 1 from dw_s hlt) (by decide) rfl (fun ls hl => ?_)
        refine lv_goto (tgt := 9) hx hb d_Products_fillDigits_56 (by decide) ?_
        have hs : stFd N P (i + 1) (care, bits) = (upd (stFd N P i (care, bits)).1 P ((stFd N P i (care, bits)).1 P ||| (1 <<< ((nI (N - i) - 1) &&& 31))), upd (stFd N P i (care, bits)).2 P ((stFd N P i (care, bits)).2 P ||| (nI (P / 3 ^ i % 3) <<< ((nI (N - i) - 1) &&& 31)))) := if_neg (fun h => c_25 ((nI_eq (a := P / 3 ^ i % 3) (b := 2) (by omega) (by omega)).mpr h))
        exact ih (i + 1) (by omega) (by omega) _ _ ls (by rw [hs]; exact hP.sub [0, 1, 2, 3] rfl) (by rw [hs]; exact hD.sub [0, 1, 2, 3] (by decide) rfl) hS (lv_sub hl [3, 4, 1, 0] rfl)
set_option maxHeartbeats 1000000 in
set_option maxRecDepth 100000 in
theorem c_Products_fillDigits (l : Launch) (dC : Nat → ClassId) (dI : Nat → Nat → Nat) (cI cJ : ClassId) (sz0 : Nat) (a0 : Nat) (a1 : Nat) (a2 : Nat) (a3 : Nat) (N : Nat) (sz : Int32) (care : Nat → Int32) (bits : Nat → Int32) (had : Nat → Int32) (P : Nat) (hN : N ≤ 4) (hP8 : P < 81) : Met l y_Products_fillDigits (ct y_Products_fillDigits b_Products_fillDigits 5 (none)) ({ frames := 0, cells := 0, slots := 0, locals := 0 }) (va_Pc [.ref a0, .int ((nI P))] (fun U => U.heap.size = sz0 ∧ va_P (dC, dI) classes [(a0, .inr (5, [.int ((nI N)), .int sz, .ref a1, .ref a2, .ref a3])), (a1, .inl (cI, 81, .inl care)), (a2, .inl (cI, 81, .inl bits)), (a3, .inl (cI, 81, .inl had))] U.heap ∧ va_K (dC, dI) classes [(cI, .int), (cJ, .long)] U ∧ va_D (fun _ => True) [(a0, .inr (5, [.int ((nI N)), .int sz, .ref a1, .ref a2, .ref a3])), (a1, .inl (cI, 81, .inl care)), (a2, .inl (cI, 81, .inl bits)), (a3, .inl (cI, 81, .inl had))])) (va_Qv (fun _ : Unit => True) (fun _ => at_w dC dI cI cJ (va_A [(a0, .inr (5, [.int ((nI N)), .int sz, .ref a1, .ref a2, .ref a3])), (a1, .inl (cI, 81, .inl care)), (a2, .inl (cI, 81, .inl bits)), (a3, .inl (cI, 81, .inl had))] sz0) [(a0, .inr (5, [.int ((nI N)), .int sz, .ref a1, .ref a2, .ref a3])), (a1, .inl (cI, 81, .inl ((stFd N P N (care, bits)).1))), (a2, .inl (cI, 81, .inl ((stFd N P N (care, bits)).2))), (a3, .inl (cI, 81, .inl had))]) (va_A [(a0, .inr (5, [.int ((nI N)), .int sz, .ref a1, .ref a2, .ref a3])), (a1, .inl (cI, 81, .inl care)), (a2, .inl (cI, 81, .inl bits)), (a3, .inl (cI, 81, .inl had))] sz0)) 0 0 (va_A [(a0, .inr (5, [.int ((nI N)), .int sz, .ref a1, .ref a2, .ref a3])), (a1, .inl (cI, 81, .inl care)), (a2, .inl (cI, 81, .inl bits)), (a3, .inl (cI, 81, .inl had))] sz0) := by
  refine Met.ofW (cc := b_Products_fillDigits) (maxL := 5) (ret := none) (by decide) rfl ?_
  intro p e s m args below meth c s₁ B hml hv
  obtain ⟨rfl, hsz, hP, hK, hD0⟩ := hv
  have hx := B.exec
  have hb := B.bytes
  have hr := B.returns
  have hts : ∀ w ∈ lwg, w.before _ s = true := fun w h => atoms_spec (ws := ct y_Products_fillDigits b_Products_fillDigits 5 (none)) B.pre w (List.mem_cons_of_mem _ h)
  have hown : s.vm.findClass R_Products = some m.cls := findClass_of_methodNamed B.named
  have hlocks := B.notSynchronized
  subst hsz
  have hD := hD0.self (sz := s.heap.size)
  generalize hAe : va_A [(a0, .inr (5, [.int ((nI N)), .int sz, .ref a1, .ref a2, .ref a3])), (a1, .inl (cI, 81, .inl care)), (a2, .inl (cI, 81, .inl bits)), (a3, .inl (cI, 81, .inl had))] s.heap.size = A at hD ⊢
  have hA : ∀ q : Nat, s.heap.size ≤ q → A q := fun q h => by rw [← hAe]; exact Or.inr h
  have hS : va_S A s.heap s.heap [] := va_S.rf
  have hl := lv_entry ([.ref a0, .int ((nI P))]) (n := 5) (Nat.le_of_ble_eq_true rfl)
  rw [lg_entry_eq]
  generalize (lg_sl ([.ref a0, .int ((nI P))]) ++ List.replicate (5 - (lg_sl ([.ref a0, .int ((nI P))])).length) Slot.unset).toArray = ls at hl ⊢
  have hl : lv_has ls 5 [(0, .ref a0), (1, .int ((nI P)))] := hl
  have hP : va_P (dC, dI) classes [(a0, .inr (5, [.int ((nI N)), .int sz, .ref a1, .ref a2, .ref a3])), (a1, .inl (cI, 81, .inl care)), (a2, .inl (cI, 81, .inl bits)), (a3, .inl (cI, 81, .inl had))] s.heap := hP
  refine lv_iload_n hx hb d_Products_fillDigits_0 rfl (lv_at hl 1 rfl) ?_
  refine lv_istore_n (lv' := [(2, .int ((nI P))), (0, .ref a0), (1, .int ((nI P)))]) hx hb d_Products_fillDigits_1 rfl hl (by decide) rfl (fun ls hl => ?_)
  refine lv_aload_n hx hb d_Products_fillDigits_2 rfl (lv_at hl 1 rfl) ?_
  refine va_get (D := (dC, dI)) (ci := 5) (v := .int ((nI N))) (C := R_Products) (T := F_Products) (N := 5) hx hb hts i_Products hown hK hP 0 rfl rfl 0 (by decide) (hts _ mw_fl_Products_21) (fun _ h9 => h9) rfl d_Products_fillDigits_3 ?_
  refine lv_iconst (v := 1) hx hb d_Products_fillDigits_6 (by decide) ?_
  refine lv_isub hx hb d_Products_fillDigits_7 ?_
  refine lv_istore_n (lv' := [(3, .int (((nI N) - 1))), (2, .int ((nI P))), (0, .ref a0), (1, .int ((nI P)))]) hx hb d_Products_fillDigits_8 rfl hl (by decide) rfl (fun ls hl => ?_)
  exact lp_Products_fillDigits l dC dI cI cJ a0 a1 a2 a3 N sz care bits had P hN hP8 hx hb hr hts hown hlocks hml hK hA (N + 1) 0 (by omega) (Nat.zero_le _) _ _ ls (hP.sub [0, 1, 2, 3] rfl) (hD.sub [0, 1, 2, 3] (by decide) rfl) hS (by rw [show P / 3 ^ 0 = P from Nat.div_one P]; exact lv_sub hl [2, 3, 1, 0] rfl)
