/-! ===== a call (invokevirtual) of a method that may throw; a catch, the caught classes linked cold or warm ===== -/
section XTV
variable {p : Program} {l : Launch} {e : Env} {R : Room} {s : State} {m : MethodId} {args : Array Value} {below : List Frame} {meth : Method} {c : Code} {H : Heap} {locs : List Loc} {cells slots : Nat} {Q : State → Prop}
theorem xt_callV {y : MethodName} {bytes cc : ByteArray} {maxL nL mc ms n index : Nat} {ret : Option FieldType} {ws : List Cond} {rm : Room} {Pc : Array Value → State → Prop} {Qc : Array Value → State → Outcome → State → Prop} {free : Addr → Prop} {Ts : List Cond} {own C : String} {b : Addr} {As rest st0 : List Value} {pc : Nat} {ls : Array Slot}
    (S : CallFix p m c cc nL s args Ts own) (hM : xt_Met l y ws rm Pc Qc mc ms free) (cw : CallW R s args own C index y bytes maxL ret ws rm mc ms n) (hp : PreV s H C b Pc As)
    (hn : As.length = n) (hsize : ls.size = nL) (hstack : st0 = As.reverse ++ .ref b :: rest) (hW : 2 * (F0 m pc ls rest).monitorRoom + (rest.map fun v => v.category).sum ≤ 8) (hdg : decode cc pc = .ok (.invokevirtual index, 3)) (hf : cells + mc ≤ R.cells ∧ slots + ms ≤ R.slots)
    (kr : ∀ (v : Option Value) (st₀ t : State) (H1 : Heap) (L : List Loc), st₀.heap = H → t.heap = H1 → s.vm.Alike t.vm → Qc (Value.ref b :: As).toArray st₀ (.returned v) t → (∀ q ∈ L, free q.base) → W p l e R s m args below meth c H1 (locs ++ L) (cells + mc) (slots + ms) Q (F0 m (pc + 3) ls (v.toList ++ rest)))
    (kx : ∀ (x : Addr) (st₀ t : State) (H1 : Heap) (L : List Loc), st₀.heap = H → t.heap = H1 → s.vm.Alike t.vm → Qc (Value.ref b :: As).toArray st₀ (.threw x) t → (∀ q ∈ L, free q.base) → xt_W p l e R s m args below meth c H1 (locs ++ L) (cells + mc) (slots + ms) Q x (F0 m pc ls rest)) :
    W p l e R s m args below meth c H locs cells slots Q (F0 m pc ls st0) := by
  intro T hT X
  obtain ⟨⟨hrc, hrs, hfr, hlo, hws, hcw, hcode, hini, hy, hlen, hl⟩, hin, hse⟩ := cw
  obtain ⟨hx, hb, hml, ho, -⟩ := S
  obtain ⟨hbl, ⟨cellB, hcB, hoB, hclB⟩, hPc⟩ := hp
  obtain ⟨mk, methM, hnamed, hmethM, hstM, habM⟩ := Cond.instanceMethod_spec hin
  obtain ⟨methM', cM, hmethM', -, -, -, -, -, -, hsigM⟩ := Cond.code_spec hnamed hcode
  cases hmethM.symm.trans hmethM'
  obtain ⟨c2, r2, m2, q1, q2, q3, q4, kP, hkP, hkPi⟩ := Cond.selects_spec hse
  cases hclB.symm.trans q1
  cases (State.methodFound?_of_named hnamed hy).symm.trans q2
  cases hnamed.symm.trans q3
  have hselP : selectMethod e.platform s.vm cellB.cls mk = .method mk := by rw [Launch.admits_selectMethod X.admits]; exact q4
  obtain ⟨vm₁, X₁, hstep₁⟩ := X.invokevirtual hx ho hl hnamed hmethM hstM hkP hkPi hy (a := b) (cell := cellB) (by rw [hT]; exact hcB)
    (fun z h => by rw [h] at hoB; cases hoB) hselP hmethM habM hkP hkPi (g := F0 m pc ls st0) rfl (argsL := As) (rest := rest) (hn.trans (hlen _ hsigM)) hstack (by rw [hb]; exact hdg)
  obtain ⟨o, t, T', L, X', hL, e1, e2, hq, hst, hor⟩ := xt_call X₁ hM hbl hrc hrs hfr hlo (a := (Value.ref b :: As).toArray) (fun w hw => hws w hw _ _ X₁.warmed) (hws _ hcw _ _ X₁.warmed)
    (word_at X₁.warmed (Or.inl (by first | rfl | simp [Cond.onTables, Cond.keeps, Cond.steady])) hini) hf.1 hf.2 (hPc _ hT X₁.warmed) (g := F0 m pc ls rest) rfl (hsize.trans hml.symm) (ig := .invokevirtual index) (by rw [hb]; exact hdg) hW (X₁.named hnamed)
  have hal : s.vm.Alike t.vm := by rw [← e2]; exact X'.warmed.alike
  rcases hor with ⟨v, rfl, ht⟩ | ⟨x, rfl, ht⟩
  · obtain ⟨u, a1, b1⟩ := kr v ((T.setVm vm₁).calling (F0 m pc ls rest) mk (Value.ref b :: As).toArray) t T'.heap L hT e1.symm hal hq hL T' rfl X'
    refine ⟨u, hstep₁ _ fun acts => ?_, b1⟩
    rw [doInvoke_state]
    exact hst.trans (by rw [ht]; exact a1)
  · obtain ⟨u, a1, b1⟩ := kx x ((T.setVm vm₁).calling (F0 m pc ls rest) mk (Value.ref b :: As).toArray) t T'.heap L hT e1.symm hal hq hL T' rfl X'
    refine ⟨u, hstep₁ _ fun acts => ?_, b1⟩
    rw [doInvoke_state]
    exact hst.trans (by rw [ht]; exact a1)
end XTV
section XTH
variable {e : Env} {s : State} {f : JFrame} {a : Addr}
/-- one entry of the table, its class linked: resolved and noted; then caught, or the search goes on -/
theorem xt_entry {S : State} {x : ExceptionTableEntry} {t : List ExceptionTableEntry} {c : ClassId} {cell : Cell} {Q : Handler → Pre} {E : CtlPost} {d : Bool} {acts : List Action} (hx : covers x f.pc = true) (h0 : x.catchType ≠ 0)
    (hl : S.vm.ClassLinks e.platform f.method.cls x.catchType c) (hcell : S.heap[a]? = some cell) (hobj : ∀ k, cell.vm ≠ .statics k)
    (hk : ∃ k, S.vm.classes[cell.cls]? = some k) (hc : ∃ k, S.vm.classes[c]? = some k) {vm' : Vm} (hvm : vm' = S.vm.noted f.method.cls x.catchType (.cls c)) :
    wp (findHandler.go f a (x :: t)) Q E e d acts S ↔
      if S.vm.assignable cell.cls c = true then Q (.found x.handlerPc) d acts (S.setVm vm') else wp (findHandler.go f a t) Q E e d acts (S.setVm vm') := by
  subst hvm
  simp only [covers] at hx
  have hg := (resolveClass_links e.toSetting hl).op (op := VmOp.resolveClass f.method.cls x.catchType) rfl
  have hal := (Vm.Alike.refl S.vm).noted f.method.cls x.catchType (.cls c)
  obtain ⟨k1, hk1⟩ := hk
  obtain ⟨k2, hk2⟩ := hc
  obtain ⟨k3, hk3, -⟩ := hal.2.2 _ _ hk1
  obtain ⟨k4, hk4, -⟩ := hal.2.2 _ _ hk2
  have has : (S.vm.noted f.method.cls x.catchType (.cls c)).assignable cell.cls c = S.vm.assignable cell.cls c := by rw [hal.assignable]
  cases hfit : S.vm.assignable cell.cls c <;> rw [hfit] at has <;> simp [findHandler.go, hx, h0, hg.1, hg.2, hcell, hobj, hk3, hk4, has, VmOp.dirties, VmOp.acts]
end XTH
section XTG
variable {e : Env} {s : State} {f : JFrame} {a : Addr}
/-- an entry whose class is linked (at the invocation's state); whether the thrown object is of that class -/
def xt_link (e : Env) (s : State) (f : JFrame) (cell : Cell) (fits : Bool) (x : ExceptionTableEntry) : Prop :=
  covers x f.pc = true ∧ x.catchType ≠ 0 ∧ ∃ c : ClassId, s.vm.ClassLinks e.platform f.method.cls x.catchType c ∧ s.vm.assignable cell.cls c = fits
/-- the search through a table: entries that don't fit, then one that does -/
theorem xt_search {cell : Cell} {x : ExceptionTableEntry} {rest : List ExceptionTableEntry} (hobj : ∀ k, cell.vm ≠ .statics k) (hk : ∃ k, s.vm.classes[cell.cls]? = some k) (hx : xt_link e s f cell true x) :
    ∀ (pre : List ExceptionTableEntry), (∀ y ∈ pre, xt_link e s f cell false y) → ∀ S : State, S.heap[a]? = some cell → s.WarmedH S.vm →
      ∃ vm', s.WarmedH vm' ∧ ∀ (Q : Handler → Pre) (E : CtlPost) (d : Bool) (acts : List Action), wp (findHandler.go f a (pre ++ x :: rest)) Q E e d acts S ↔ Q (.found x.handlerPc) d acts (S.setVm vm') := by
  intro pre
  induction pre with
  | nil =>
    intro _ S hcell hW
    obtain ⟨h1, h2, c, hl, hfit⟩ := hx
    obtain ⟨dk, _, _, ck, hd, _, _, _, _, hck, _, hopen⟩ := hl.here
    obtain ⟨k1, hk1⟩ := hk
    obtain ⟨k2, hk2, -⟩ := hW.alike.2.2 _ _ hk1
    obtain ⟨k3, hk3, -⟩ := hW.alike.2.2 _ _ hck
    refine ⟨_, hW.noted hd hopen (State.rightAt_cls hl), fun Q E d acts => ?_⟩
    rw [List.nil_append, xt_entry h1 h2 (hW.classLinks hl) hcell hobj ⟨k2, hk2⟩ ⟨k3, hk3⟩ rfl, if_pos (by rw [hW.alike.assignable]; exact hfit)]
  | cons y ys ih =>
    intro hp S hcell hW
    obtain ⟨h1, h2, c, hl, hfit⟩ := hp y List.mem_cons_self
    obtain ⟨dk, _, _, ck, hd, _, _, _, _, hck, _, hopen⟩ := hl.here
    obtain ⟨k1, hk1⟩ := hk
    obtain ⟨k2, hk2, -⟩ := hW.alike.2.2 _ _ hk1
    obtain ⟨k3, hk3, -⟩ := hW.alike.2.2 _ _ hck
    have hW1 := hW.noted hd hopen (State.rightAt_cls hl)
    obtain ⟨vm', hW', hq⟩ := ih (fun z hz => hp z (List.mem_cons_of_mem _ hz)) (S.setVm (S.vm.noted f.method.cls y.catchType (.cls c))) hcell hW1
    refine ⟨vm', hW', fun Q E d acts => ?_⟩
    rw [List.cons_append, xt_entry h1 h2 (hW.classLinks hl) hcell hobj ⟨k2, hk2⟩ ⟨k3, hk3⟩ rfl, if_neg (by rw [hW.alike.assignable, hfit]; decide), hq]
    exact Iff.rfl
/-- a search that ends in a handler, the tables warmer: the step -/
theorem xt_step {S : State} {r : List Frame} {pc : Nat} {vm' : Vm} (hfind : ∀ (Q : Handler → Pre) (E : CtlPost) (d : Bool) (acts : List Action), wp (findHandler f a) Q E e d acts S ↔ Q (.found pc) d acts (S.setVm vm')) :
    (stepThrowing e S a (.java f :: r)).Is ((S.setVm vm').setFrames (.java { f with pc := pc, stack := [.ref a] } :: r)) [] := by
  simp only [stepThrowing, searchFrame, vmDo]
  generalize hr : Sem.go _ e false [] S = res
  obtain ⟨as, rfl, ha⟩ := Sem.eq_ok_of hr (a := Handler.found pc) (s' := S.setVm vm') (acts' := []) (by simp [hfind _ _ _ _])
  exact ⟨rfl, ha⟩
theorem xt_caught {tb : Tables} {target S : State} {g : JFrame} {c : Code} {below : List Frame} (h : At S g.method c below) {pc : Nat} {vm' : Vm}
    (hfind : ∀ (Q : Handler → Pre) (E : CtlPost) (d : Bool) (acts : List Action), wp (findHandler g a) Q E e d acts ((S.setTop g).pushFrame (.throwing a)) ↔ Q (.found pc) d acts (((S.setTop g).pushFrame (.throwing a)).setVm vm'))
    (hrest : Steps tb e below ((S.setVm vm').setTop { g with pc := pc, stack := [.ref a] }) target) : Steps tb e below ((S.setTop g).pushFrame (.throwing a)) target := by
  obtain ⟨hgo, hw⟩ := h.throwing a
  refine Steps.head hgo hw ?_
  rw [stepThread_throwing (frames_entered h.top _), (xt_step hfind).1]
  obtain ⟨g₀, hg⟩ := Option.isSome_iff_exists.mp h.top
  obtain ⟨r, hr⟩ := State.topJava?_eq_some.mp hg
  have hr' : (S.setVm vm').frames = .java g₀ :: r := hr
  rw [State.setTop_of_frames _ hr'] at hrest
  have key : ((((S.setTop g).pushFrame (.throwing a)).setVm vm').setFrames (.java { g with pc := pc, stack := [.ref a] } :: S.frames.tail)) = (S.setVm vm').setFrames (.java { g with pc := pc, stack := [.ref a] } :: r) := by
    rw [State.pushFrame, State.setTop_of_frames _ hr, hr, List.tail_cons, State.setFrames_setFrames]
    show ((S.setVm vm').setFrames _).setFrames _ = _
    rw [State.setFrames_setFrames]
  rw [key]
  exact hrest
end XTG
section XTK
variable {p : Program} {l : Launch} {e : Env} {R : Room} {s : State} {m : MethodId} {args : Array Value} {below : List Frame} {meth : Method} {c : Code} {H : Heap} {locs : List Loc} {cells slots : Nat} {Q : State → Prop}
/-- a throw over the frame is caught at a handler of the method's own -/
theorem xt_catch {x : Addr} {pc hpc : Nat} {ls : Array Slot} {st : List Value} {cell : Cell} (pre : List ExceptionTableEntry) (y : ExceptionTableEntry) (rest : List ExceptionTableEntry) (htab : c.exceptionTable.toList = pre ++ y :: rest) (hy : y.handlerPc = hpc)
    (hcell : H[x]? = some cell) (hobj : ∀ k, cell.vm ≠ .statics k) (hk : ∃ k, s.vm.classes[cell.cls]? = some k)
    (hpre : ∀ z ∈ pre, xt_link e s (F0 m pc ls st) cell false z) (hfit : xt_link e s (F0 m pc ls st) cell true y)
    (kk : W p l e R s m args below meth c H locs cells slots Q (F0 m hpc ls [.ref x])) : xt_W p l e R s m args below meth c H locs cells slots Q x (F0 m pc ls st) := by
  intro T hT X
  subst hy
  have hU : (((T.setTop (F0 m pc ls st)).pushFrame (.throwing x))).heap[x]? = some cell := by rw [throwing_heap, hT]; exact hcell
  have hW : s.WarmedH ((T.setTop (F0 m pc ls st)).pushFrame (.throwing x)).vm := by rw [throwing_vm]; exact X.warmed
  obtain ⟨vm', hW', hq⟩ := xt_search (e := e) (f := F0 m pc ls st) (a := x) (rest := rest) hobj hk hfit pre hpre _ hU hW
  obtain ⟨t, a1, b1⟩ := kk (T.setVm vm') hT (X.noted hW')
  refine ⟨t, xt_caught (c := c) X.here (vm' := vm') (pc := y.handlerPc) (fun Q E d acts => ?_) a1, b1⟩
  rw [Jvm.W.findHandler_eq (meth := meth) (code := c) (by rw [throwing_vm]; exact X.method') X.code, htab]
  exact hq Q E d acts
end XTK
