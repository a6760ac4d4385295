/-! ===== throw new E("text"): the heap that was there stays as it was ===== -/
section XTB
variable {p : Program} {l : Launch} {e : Env} {R : Room} {s : State} {m : MethodId} {args : Array Value} {below : List Frame} {meth : Method} {c : Code} {T : State} {locs : List Loc} {cells slots : Nat}
/-- the same walk, counted anew from the state at which it stands -/
theorem xt_base (X : Stand p l e R s m args below meth c T locs cells slots) (h1 : cells ≤ R.cells) (h2 : slots ≤ R.slots) :
    Stand p l e { R with cells := R.cells - cells, slots := R.slots - slots } (T.setFrames (.invoking m args :: below)) m args below meth c T [] 0 0 := by
  obtain ⟨g₀, hfr⟩ := X.frames_eq
  have hcur : T.cur < T.threads.size := State.cur_lt_of_frames hfr
  have hfb : (T.setFrames (.invoking m args :: below)).frames = .invoking m args :: below := State.frames_setFrames _ hcur
  have hloc : (T.setFrames (.invoking m args :: below)).localsInUse = s.localsInUse := by
    rw [State.localsInUse_invoking hfb X.method' X.code, State.localsInUse_invoking X.frames X.method X.code]
  have hlim : e.platform.stackLimits (T.setFrames (.invoking m args :: below)).me = e.platform.stackLimits s.me := (State.stackLimits_setFrames _ _ _).trans X.limits
  have hbyt : (T.setFrames (.invoking m args :: below)).me.stackBytes = s.me.stackBytes := (State.stackBytes_setFrames _ _).trans X.bytes
  have hroom := X.room
  have hsz := X.heapSize
  have hus := X.used
  have hbk : (T.setFrames (.invoking m args :: below)).slotsTrue = true := X.book
  refine ⟨X.admits, X.cas, X.clock, hfb, ?_, ?_, X.method', X.code, X.here, X.tail, State.WarmedH.refl _, (State.stackLimits_setFrames _ _ _).symm, (State.stackBytes_setFrames _ _).symm, ?_⟩
  · simp only [State.hasRoom, Bool.and_eq_true, decide_eq_true_eq] at hroom ⊢
    rw [hloc, hfb, hlim, hbyt]
    rw [X.frames] at hroom
    have hh : (T.setFrames (.invoking m args :: below)).heap.size = T.heap.size := rfl
    have hu : (T.setFrames (.invoking m args :: below)).slotsUsed = T.slotsUsed := rfl
    obtain ⟨⟨⟨⟨r1, r2⟩, r3⟩, r4⟩, r5⟩ := hroom
    exact ⟨⟨⟨⟨r1, r2⟩, by rw [hh]; show T.heap.size + (R.cells - cells) ≤ _; omega⟩, by rw [hu]; show T.slotsUsed + (R.slots - slots) ≤ _; omega⟩, hbk⟩
  · have hh := X.hears
    cases below with
    | nil =>
      simp only [State.hears] at hh ⊢
      rw [show (T.setFrames [.invoking m args]).vm.method? m = some meth from X.method']
      rw [X.method] at hh
      exact hh
    | cons fr rs =>
      cases fr with
      | java g =>
        simp only [State.hears] at hh ⊢
        rw [State.code?_eq] at hh ⊢
        rw [show (T.setFrames (.invoking m args :: .java g :: rs)).vm.method? g.method = s.vm.method? g.method from X.warmed.alike.method? _]
        exact hh
      | _ =>
        first
          | rfl
          | (simp only [State.hears] at hh ⊢
             first
               | exact hh
               | (rw [show (T.setFrames _).vm.method? m = some meth from X.method']; rw [X.method] at hh; exact hh))
  · have hself : (T.setFrames (.invoking m args :: below)).setFrames T.frames = T := by
      obtain ⟨th, hth, -⟩ := State.frames_cons hfr
      rw [State.setFrames_setFrames, State.setFrames_self hth]
    have hdrop : T.heap.toList.drop T.heap.size = [] := List.drop_eq_nil_of_le (by simp)
    refine ⟨?_, Nat.le_refl _, Nat.le_refl _, ?_, ?_, ?_⟩
    · show T = _
      rw [show (T.setVm (T.setFrames (.invoking m args :: below)).vm).frames = T.frames from rfl, hself]
      rfl
    · show T.slotsUsed = T.slotsUsed + ((T.heap.toList.drop T.heap.size).map (·.slots.size)).sum
      rw [hdrop]; rfl
    · show ((T.heap.toList.drop T.heap.size).map (·.slots.size)).sum ≤ 0
      rw [hdrop]; exact Nat.le_refl _
    · intro a cl h
      exact ⟨cl, h, rfl, rfl, fun _ _ => rfl⟩
end XTB
/-- a static that holds a reference or null, in a cell that is not written -/
def xt_Z (C n d : String) (A : Nat → Prop) (U : State) (H : Heap) : Prop := ∃ (cf : ClassId) (kf : Class) (fi : Nat) (f : Field) (a : Nat) (cell : Cell) (v : Value), U.vm.findClass C = some cf ∧ U.fieldFound? C n d = some (cf, kf, fi, f) ∧ f.isStatic = true ∧ kf.statics = some a ∧ H[a]? = some cell ∧ cell.vm.isStatics = true ∧ cell.cls = cf ∧ cell.slots[f.slot]? = some v ∧ (v = .null ∨ ∃ t, v = .ref t) ∧ kf.staticTypes[f.slot]? = some f.type ∧ ¬ A a
theorem xt_Z.moved {C n d : String} {A : Nat → Prop} {u U : State} {H : Heap} (hvm : u.vm.Alike U.vm) (h : xt_Z C n d A u H) : xt_Z C n d A U H := by
  obtain ⟨cf, kf, fi, f, a, cell, v, h0, h1, h2, h4, h5, h6, h7, h8, h9, h10, h11⟩ := h
  obtain ⟨k', hi', he⟩ := State.fieldFound?_setVm hvm h1
  exact ⟨cf, k', fi, f, a, cell, v, by rw [hvm.findClass]; exact h0, hi', h2, by rw [he]; exact h4, h5, h6, h7, h8, h9, by rw [he]; exact h10, h11⟩
theorem xt_Z.kept {C n d : String} {A : Nat → Prop} {U : State} {H H1 : Heap} (h : xt_Z C n d A U H) (hq : ∀ a : Nat, a < H.size → ¬ A a → H1[a]? = H[a]?) : xt_Z C n d A U H1 := by
  obtain ⟨cf, kf, fi, f, a, cell, v, h0, h1, h2, h4, h5, h6, h7, h8, h9, h10, h11⟩ := h
  exact ⟨cf, kf, fi, f, a, cell, v, h0, h1, h2, h4, by rw [hq a (Array.getElem?_eq_some_iff.mp h5).1 h11]; exact h5, h6, h7, h8, h9, h10, h11⟩
theorem xt_Z.narrow {C n d : String} {A B : Nat → Prop} {U : State} {H : Heap} (h : xt_Z C n d A U H) (hAB : ∀ q, B q → A q) : xt_Z C n d B U H := by
  obtain ⟨cf, kf, fi, f, a, cell, v, h0, h1, h2, h4, h5, h6, h7, h8, h9, h10, h11⟩ := h
  exact ⟨cf, kf, fi, f, a, cell, v, h0, h1, h2, h4, h5, h6, h7, h8, h9, h10, fun z => h11 (hAB a z)⟩
theorem xt_isRef {C n d : String} {A : Nat → Prop} {U : State} {a : Array Value} (h : xt_Z C n d A U U.heap) : (Cond.isRef (.static C n d)).before a U = true := by
  obtain ⟨cf, kf, fi, f, ad, cell, v, h0, h1, h2, h4, h5, h6, h7, h8, h9, h10, h11⟩ := h
  rcases h9 with rfl | ⟨t, rfl⟩ <;> simp [Cond.before, Cond.holds, Cond.value, Term.eval, State.fieldNamed?, h1, h2, h4, h5, h6, h8]
theorem xt_lays {C n d : String} {A : Nat → Prop} {U : State} {a : Array Value} (h : xt_Z C n d A U U.heap) : (Cond.laysStatic C n d).before a U = true := by
  obtain ⟨cf, kf, fi, f, ad, cell, v, h0, h1, h2, h4, h5, h6, h7, h8, h9, h10, h11⟩ := h
  have hlt : f.slot < cell.slots.size := (Array.getElem?_eq_some_iff.mp h8).1
  simp [Cond.before, Cond.holds, Cond.value, h0, h1, h2, h4, h5, h6, h7, hlt, h10]
theorem xt_Zof {args : Array Value} {s : State} {C n d : String} {A : Nat → Prop} (hl : (Cond.laysStatic C n d).before args s = true) (h : (Cond.isRef (.static C n d)).before args s = true) (hA : ∀ a : Nat, a < s.heap.size → ¬ A a) : xt_Z C n d A s s.heap := by
  obtain ⟨c, k, i, f, a, cell, hc, hi, hst, ha, hcell, hs, hcls, hlt, hty⟩ := Cond.laysStatic_spec hl
  have hv : ∃ v, cell.slots[f.slot]? = some v := ⟨_, Array.getElem?_eq_getElem hlt⟩
  obtain ⟨v, hv⟩ := hv
  refine ⟨c, k, i, f, a, cell, v, hc, hi, hst, ha, hcell, hs, hcls, hv, ?_, hty, hA a (Array.getElem?_eq_some_iff.mp hcell).1⟩
  simp only [Cond.before, Cond.holds, Cond.value, Term.eval, State.fieldNamed?, hi, hst, ha, hcell, hs, hv] at h
  cases v <;> simp_all
/-- what a method that throws new E("text") asks of the tables -/
def xt_isR : Cond → Bool
  | .isRef _ => true
  | .laysStatic _ _ _ => true
  | _ => false
def xt_ws (own : String) (ix ic : Nat) (cls : String) (names : List String) : List Cond := [.classLink own ix cls, .initialized cls] ++ (Bundle.ownAtoms own ic cls names).filter (fun w => !xt_isR w)
theorem xt_noR1 : ∀ a ∈ Bundle.throwableAtoms, xt_isR a = true → a = .laysStatic Bundle.tN "UNASSIGNED_STACK" Bundle.steD ∨ a = .laysStatic Bundle.tN "SUPPRESSED_SENTINEL" Bundle.listD := by decide +kernel
theorem xt_noR2 : ∀ a ∈ Bundle.throwableSAtoms, xt_isR a = false := by decide +kernel
theorem xt_noR3 : ∀ (names : List String) (X : String), ∀ a ∈ Bundle.chainSAtoms X names, xt_isR a = false := by
  intro names
  induction names with
  | nil =>
    intro X a ha
    simp only [Bundle.chainSAtoms, Bundle.passSAtoms, List.mem_cons, List.not_mem_nil, or_false] at ha
    rcases ha with rfl | rfl | rfl | rfl | rfl <;> rfl
  | cons n ns ih =>
    intro X a ha
    simp only [Bundle.chainSAtoms, Bundle.passSAtoms, List.mem_append, List.mem_cons, List.not_mem_nil, or_false] at ha
    rcases ha with (rfl | rfl | rfl | rfl | rfl) | h
    · rfl
    · rfl
    · rfl
    · rfl
    · rfl
    · exact ih n a h
theorem xt_noTrace {l : Launch} {e : Env} (h : l.admits e) (hfl : l.flags = flags0) : e.platform.stackTraces = false := by
  rw [h.platform]
  show l.stackTraces = false
  unfold Launch.stackTraces
  rw [hfl]
  decide +kernel
/-- words of the tables that last, but are not among the kit's lasting kinds -/
def xt_isS : Cond → Bool
  | .declares _ => true
  | .castable _ _ => true
  | _ => false
theorem xt_isS_moved {w : Cond} (hw : xt_isS w = true) {A A' : Array Value} {u U : State} (hvm : u.vm.Alike U.vm) (h : w.before A u = true) : w.before A' U = true := by
  cases w with
  | declares x => exact va_tabs (A := A) (u := u.setVm U.vm) rfl rfl (by rw [Cond.declares_setVm hvm]; exact h)
  | castable a b => exact va_tabs (A := A) (u := u.setVm U.vm) rfl rfl (by rw [Cond.castable_setVm hvm]; exact h)
  | _ => simp [xt_isS] at hw
section XTN
variable {p : Program} {l : Launch} {e : Env} {R : Room} {s : State} {m : MethodId} {args : Array Value} {below : List Frame} {meth : Method} {c : Code} {H : Heap} {locs : List Loc} {cells slots : Nat}
set_option maxHeartbeats 4000000 in
theorem xt_throwNew {cc : ByteArray} {Qc : Array Value → State → Outcome → State → Prop} {free : Addr → Prop} (hx : p.tables.exec = Jvm.exec) (hb : c.code = cc) (hfl : l.flags = flags0) {own cls tx : String} {names : List String} {ix ik ic q pc : Nat} {ls : Array Slot} {st : List Value} {Ts : List Cond}
    {Sd : List Cond} (hts : ∀ w ∈ Ts, w.before args s = true) (hSd : ∀ w ∈ Sd, w.before #[] s = true) (hG : ∀ w ∈ xt_ws own ix ic cls names, (w ∈ Ts ∧ goodWord w = true) ∨ (w ∈ Sd ∧ xt_isS w = true)) (hown : s.vm.findClass own = some m.cls) (hcls : Bundle.fit cls = true) (hnames : ∀ n ∈ names, Bundle.fit n = true) (hno : ∀ x ∈ c.exceptionTable.toList, False) (hlocks : meth.locks = false)
    (hS : vk_R own ik tx q s) {A : Nat → Prop} (hz1 : xt_Z "java/lang/Throwable" "UNASSIGNED_STACK" "[Ljava/lang/StackTraceElement;" A s H) (hz2 : xt_Z "java/lang/Throwable" "SUPPRESSED_SENTINEL" "Ljava/util/List;" A s H)
    (hsize : ls.size = c.maxLocals) (hcells : cells + 1 ≤ R.cells) (hslots : slots + 6 ≤ R.slots) (hRf : names.length + 3 < R.frames) (hRl : (st.map fun v => v.category).sum + 1 + (13 * (names.length + 1) + 42) ≤ R.locals)
    (hd0 : decode cc pc = .ok (.new ix, 3)) (hd3 : decode cc (pc + 3) = .ok (.dup, 1)) (hd4 : decode cc (pc + 3 + 1) = .ok (.ldc ik, 2)) (hd6 : decode cc (pc + 3 + 1 + 2) = .ok (.invokespecial ic, 3)) (hd9 : decode cc (pc + 3 + 1 + 2 + 3) = .ok (.athrow, 1))
    (hq : ∀ (x : Addr) (t : State) (ce : Cell), H.size ≤ x → s.WarmedH t.vm → H.size ≤ t.heap.size → (∀ q : Nat, q < H.size → t.heap[q]? = H[q]?) → t.heap[x]? = some ce → ce.vm = .none → s.vm.findClass cls = some ce.cls → Qc args s (.threw x) t) (hf : ∀ q ∈ locs, free q.base) :
    W p l e R s m args below meth c H locs cells slots (xt_MQ below Qc args s (cells + 1) (slots + 6) free) (F0 m pc ls st) := by
  intro T hT X
  have htr := xt_noTrace X.admits hfl
  have X0 := xt_base X (by omega) (by omega)
  have hW0 : s.WarmedH (T.setFrames (.invoking m args :: below)).vm := X.warmed
  have hw : ∀ w ∈ xt_ws own ix ic cls names, w.before args (T.setFrames (.invoking m args :: below)) = true := fun w h => (hG w h).elim (fun q => word_at hW0 (good_of_word q.2) (hts w q.1)) (fun q => xt_isS_moved q.2 hW0.alike (hSd w q.1))
  have hown' : (T.setFrames (.invoking m args :: below)).vm.findClass own = some m.cls := by rw [hW0.alike.findClass]; exact hown
  have hat : ∀ a ∈ Bundle.ownAtoms own ic cls names, a.before args (T.setFrames (.invoking m args :: below)) = true := by
    intro a ha
    cases hr : xt_isR a with
    | false => exact hw a (List.mem_append_right _ (List.mem_filter.mpr ⟨ha, by rw [hr]; rfl⟩))
    | true =>
      have hZ1 : xt_Z "java/lang/Throwable" "UNASSIGNED_STACK" "[Ljava/lang/StackTraceElement;" A (T.setFrames (.invoking m args :: below)) (T.setFrames (.invoking m args :: below)).heap := by
        have h9 := hz1.moved (U := T.setFrames (.invoking m args :: below)) hW0.alike
        rw [← hT] at h9
        exact h9
      have hZ2 : xt_Z "java/lang/Throwable" "SUPPRESSED_SENTINEL" "Ljava/util/List;" A (T.setFrames (.invoking m args :: below)) (T.setFrames (.invoking m args :: below)).heap := by
        have h9 := hz2.moved (U := T.setFrames (.invoking m args :: below)) hW0.alike
        rw [← hT] at h9
        exact h9
      have hmem : (a = .isRef (.static Bundle.tN "UNASSIGNED_STACK" Bundle.steD) ∨ a = .isRef (.static Bundle.tN "SUPPRESSED_SENTINEL" Bundle.listD)) ∨ a = .laysStatic Bundle.tN "UNASSIGNED_STACK" Bundle.steD ∨ a = .laysStatic Bundle.tN "SUPPRESSED_SENTINEL" Bundle.listD := by
        unfold Bundle.ownAtoms at ha
        rcases List.mem_append.mp ha with h1 | h1
        · rcases List.mem_append.mp h1 with h2 | h2
          · rcases List.mem_append.mp h2 with h3 | h3
            · exact Or.inr (xt_noR1 a h3 hr)
            · rw [xt_noR2 a h3] at hr; cases hr
          · rw [xt_noR3 names cls a h2] at hr; cases hr
        · simp only [List.mem_cons, List.not_mem_nil, or_false] at h1
          rcases h1 with rfl | rfl | rfl | rfl | rfl | rfl | rfl | rfl | rfl | rfl | rfl | rfl | rfl | rfl <;> first | exact Or.inl (Or.inl rfl) | exact Or.inl (Or.inr rfl) | (cases hr)
      rcases hmem with (rfl | rfl) | rfl | rfl
      · exact xt_isRef hZ1
      · exact xt_isRef hZ2
      · exact xt_lays hZ1
      · exact xt_lays hZ2
  obtain ⟨cX, kX, hfc, hkX0, -, -, -, hn6⟩ := Cond.instantiable_spec (hat (.instantiable cls 6) (by simp [Bundle.ownAtoms]))
  have hS' : vk_R own ik tx q (T.setFrames (.invoking m args :: below)) := vk_R.warm hW0 hS
  have key : W p l e { R with cells := R.cells - cells, slots := R.slots - slots } (T.setFrames (.invoking m args :: below)) m args below meth c T.heap [] 0 0 (xt_MQ below Qc args s (cells + 1) (slots + 6) free) (F0 m pc ls st) := by
    refine W.newcK (n := 6) hx hb hown' (hw (.classLink own ix cls) (by simp [xt_ws])) (hat (.instantiable cls 6) (by simp [Bundle.ownAtoms])) (hw (.initialized cls) (by simp [xt_ws])) rfl hd0 (by show 0 + 1 ≤ R.cells - cells; omega) (by show 0 + 6 ≤ R.slots - slots; omega) hfc rfl (fun H1 kY hkY e1 z1 o1 => ?_)
    refine lv_dup hx hb hd3 rfl ?_
    refine va_ldcS hx hb hown' hS' hd4 ?_
    intro W1 hW1 X1
    subst hb
    obtain ⟨U, hst, hrun, hend, hWU, hsame, ce, hce, hO⟩ := X1.ctorThrowS hx htr hown' hcls hnames hat (fun _ h => by cases h) hfc hkY (by rw [hW1]; exact e1) (Nat.le_refl _) (msg := .ref q) rfl (g := F0 m (pc + 3 + 1 + 2) ls (.ref q :: .ref T.heap.size :: .ref T.heap.size :: st)) rfl hsize rfl rfl rfl hd6 hd9 (fun y hy => (hno y hy).elim) hRf (by show 2 * 0 + (1 + (st.map fun v => v.category).sum) + _ ≤ R.locals; omega) hlocks
    have hkeep : ∀ z : Nat, z < H.size → U.heap[z]? = H[z]? := by
      intro z hz
      rw [← hT] at hz ⊢
      have h1 : (T.setFrames (.invoking m args :: below)).heap[z]? = some T.heap[z] := Array.getElem?_eq_getElem hz
      obtain ⟨c', h2, h3, h4, h5⟩ := hsame.2.2.2.2.2 z _ h1
      have h6 : c'.slots = T.heap[z].slots := Array.ext_getElem? (fun i => h5 i (fun h => by cases h))
      rw [h6] at h3
      rw [show U.heap[z]? = some c' from h2, h3, Array.getElem?_eq_getElem hz]
    have hsz : H.size ≤ U.heap.size := by rw [← hT]; exact hsame.2.1
    have hsT : T.sameButNew ({ U with vm := T.vm } : State) [] 1 6 := by
      refine ⟨?_, hsame.2⟩
      have h1 := hsame.1
      rw [State.setFrames_setFrames] at h1
      exact h1
    have hfin : s.sameButNew ({ U with vm := s.vm } : State) locs (cells + 1) (slots + 6) := by
      have h1 := X.same.trans (hsT.setVm s.vm)
      rw [List.append_nil] at h1
      exact h1
    refine ⟨U, hst, .threw T.heap.size, hrun, hend, hq _ U ce (by rw [← hT]; exact Nat.le_refl _) (State.WarmedH.trans X.warmed hWU) hsz hkeep hce hO.vm ?_, locs, ⟨State.WarmedH.trans X.warmed hWU, hfin⟩, hf⟩
    have h1 := hO.cls
    rw [hW0.alike.findClass] at h1
    exact h1
  exact key T rfl X0
end XTN
