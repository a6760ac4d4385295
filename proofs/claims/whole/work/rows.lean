section
/-! ===== calls that may throw, throws, catches: rows of the walking judgement W ===== -/
section XT
variable {p : Program} {l : Launch} {e : Env} {R : Room} {s : State} {m : MethodId} {args : Array Value} {below : List Frame} {meth : Method} {c : Code} {H : Heap} {locs : List Loc} {cells slots : Nat} {Q : State → Prop}
/-- a method's end by a return or by a throw: the tables warmer, the frame -/
def xt_F (st t : State) (L : List Loc) (k n : Nat) : Prop := st.WarmedH t.vm ∧ st.sameButNew ({ t with vm := st.vm } : State) L k n
/-- a contract whose end is a return or a throw -/
def xt_Met (l : Launch) (y : MethodName) (ws : List Cond) (rm : Room) (Pc : Array Value → State → Prop) (Qc : Array Value → State → Outcome → State → Prop) (mc ms : Nat) (free : Addr → Prop) : Prop :=
  MetFree l y (headSpec ws rm) Pc (fun _ _ _ _ _ => True) (fun a st o t => Qc a st o t ∧ ∃ L, xt_F st t L mc ms ∧ ∀ q ∈ L, free q.base)
def xt_MQ (below : List Frame) (Qc : Array Value → State → Outcome → State → Prop) (a : Array Value) (s : State) (mc ms : Nat) (free : Addr → Prop) : State → Prop := fun t =>
  ∃ o, t.status = .running ∧ Ended t below o ∧ Qc a s o t ∧ ∃ L, xt_F s t L mc ms ∧ ∀ q ∈ L, free q.base
/-- the walk with a throw under way over the frame g -/
def xt_W (p : Program) (l : Launch) (e : Env) (R : Room) (s : State) (m : MethodId) (args : Array Value) (below : List Frame) (meth : Method) (c : Code) (H : Heap) (locs : List Loc) (cells slots : Nat) (Q : State → Prop) (x : Addr) (g : JFrame) : Prop :=
  ∀ T : State, T.heap = H → Stand p l e R s m args below meth c T locs cells slots → ∃ t, Steps p.tables e below ((T.setTop g).pushFrame (.throwing x)) t ∧ Q t
theorem xt_imp {Q' : State → Prop} {g : JFrame} (h : ∀ t, Q t → Q' t) (k : W p l e R s m args below meth c H locs cells slots Q g) : W p l e R s m args below meth c H locs cells slots Q' g := by
  intro T hT X
  obtain ⟨t, a, b⟩ := k T hT X
  exact ⟨t, a, h t b⟩
theorem xt_ofMQ {Qc : Array Value → State → Outcome → State → Prop} {a : Array Value} {mc ms : Nat} {free : Addr → Prop} (t : State) (h : MQ below Qc a s mc ms free t) : xt_MQ below Qc a s mc ms free t := by
  obtain ⟨o, h1, h2, h3, L, hF, hL⟩ := h
  exact ⟨o, h1, h2, h3, L, ⟨hF.2.1, hF.2.2⟩, hL⟩
theorem xt_ofW {y : MethodName} {ws ws' : List Cond} {rm : Room} {Pc : Array Value → State → Prop} {Qc : Array Value → State → Outcome → State → Prop} {mc ms : Nat} {free : Addr → Prop} {cc : ByteArray} {maxL : Nat} {ret : Option FieldType}
    (hy : plainName y.cls = true) (hw : ws = Cond.code y cc maxL ret :: ws')
    (body : ∀ p e s m args below meth c s₁, BodyLoose p l y (headSpec ws rm) cc maxL ret e s m args below meth c s₁ → c.maxLocals = maxL → (∀ x ∈ c.exceptionTable.toList, False) → Pc args s →
      W p l e (headSpec ws rm).room s m args below meth c s.heap [] 0 0 (xt_MQ below Qc args s mc ms free) (entryFrame m args maxL)) : xt_Met l y ws rm Pc Qc mc ms free := by
  refine MetFree.of_bodyS (code := cc) (maxLocals := maxL) (ret := ret) hy ?_ ?_
  · intro args s m h hn
    obtain ⟨meth, c, h1, h2, h3, h4, h5, h6, -, -⟩ := Cond.code_spec hn (atoms_spec (ws := ws) h _ (by rw [hw]; exact List.mem_cons_self))
    exact ⟨meth, c, h1, h2, h3, h4, h5, h6⟩
  · intro p e s m args below meth c s₁ B hml hP _
    have hh0 : s₁.heap = s.heap := by rw [B.state]; rfl
    have hcw : (Cond.code y cc maxL ret).before args s = true := atoms_spec (ws := ws) B.pre _ (by rw [hw]; exact List.mem_cons_self)
    have hnh := BodyLoose.noHandlers B hcw
    have hno : ∀ x ∈ c.exceptionTable.toList, False := by
      intro x hx
      have hz : c.exceptionTable = #[] := by simpa using hnh
      rw [hz] at hx
      simp at hx
    obtain ⟨t, a1, o, b1, b2, b3⟩ := body p e s m args below meth c s₁ B hml hno hP s₁ hh0 (Stand.of_body B)
    exact ⟨t, o, a1, b1, b2, ⟨b3.1, b3.2⟩⟩
/-- a contract that only returns is one of the wider kind -/
theorem xt_ofMet {y : MethodName} {ws : List Cond} {rm : Room} {Pc : Array Value → State → Prop} {Qc : Array Value → State → Outcome → State → Prop} {mc ms : Nat} {free : Addr → Prop} (h : Met l y ws rm Pc Qc mc ms free) : xt_Met l y ws rm Pc Qc mc ms free := by
  intro p e ha hc hk s m args below hf happ hP hK
  obtain ⟨n, o, h1, h2, h3, hq, L, hF, hL⟩ := h p e ha hc hk s m args below hf happ hP hK
  exact ⟨n, o, h1, h2, h3, hq, L, ⟨hF.2.1, hF.2.2⟩, hL⟩
/-- a throw leaves a method that has no handler there -/
theorem xt_leave {Qc : Array Value → State → Outcome → State → Prop} {free : Addr → Prop} {x : Addr} {pc : Nat} {ls : Array Slot} {st : List Value} (hno : ∀ x ∈ c.exceptionTable.toList, False) (hlocks : meth.locks = false)
    (hq : ∀ t : State, t.heap = H → s.WarmedH t.vm → Qc args s (.threw x) t) (hf : ∀ q ∈ locs, free q.base) :
    xt_W p l e R s m args below meth c H locs cells slots (xt_MQ below Qc args s cells slots free) x (F0 m pc ls st) := by
  intro T hT X
  obtain ⟨h1, h2, h3, h4, h5⟩ := X.leaveThrown x (g := F0 m pc ls st) rfl rfl rfl (fun y hy => (hno y hy).elim) hlocks
  exact ⟨_, h1, _, h2, h3, hq _ hT h4, locs, ⟨h4, h5⟩, hf⟩
end XT
section XTC
variable {p : Program} {l : Launch} {e : Env} {R : Room} {s : State} {m : MethodId} {args : Array Value} {below : List Frame} {meth : Method} {c : Code} {T : State} {locs : List Loc} {cells slots : Nat}
/-- behind the invoking instruction: the callee comes back, or its throw lies over the caller's frame -/
theorem xt_call {y : MethodName} {ws : List Cond} {rm : Room} {Pc : Array Value → State → Prop} {Qc : Array Value → State → Outcome → State → Prop} {mc ms : Nat} {free : Addr → Prop} {bytes : ByteArray} {maxL : Nat} {ret : Option FieldType}
    (X : Stand p l e R s m args below meth c T locs cells slots) (hM : xt_Met l y ws rm Pc Qc mc ms free) (hbl : FrameBlind Pc) (hrc : rm.cells = mc) (hrs : rm.slots = ms) (hfr : rm.frames + 1 ≤ R.frames) (hlo : 8 + (maxL + 11) + rm.locals ≤ R.locals)
    {a : Array Value} (hws : ∀ w ∈ ws, w.before a T = true) (hcode : (Cond.code y bytes maxL ret).before a T = true) (hini : (Cond.initialized y.cls).before a T = true) (hcells : cells + mc ≤ R.cells) (hslots : slots + ms ≤ R.slots) (hPc : Pc a T)
    {g : JFrame} (hg : g.method = m) (hsize : g.locals.size = c.maxLocals) {ig : Instr} (hdg : decode c.code g.pc = .ok (ig, 3)) (hW : 2 * g.monitorRoom + (g.stack.map fun v => v.category).sum ≤ 8) {mk : MethodId} (hn : T.methodNamed? y = some mk) :
    ∃ (o : Outcome) (t T' : State) (L : List Loc), Stand p l e R s m args below meth c T' (locs ++ L) (cells + mc) (slots + ms) ∧ (∀ q ∈ L, free q.base) ∧ T'.heap = t.heap ∧ T'.vm = t.vm ∧ Qc a (T.calling g mk a) o t ∧
      Steps p.tables e below (doInvoke e (T.setTop g) [] mk a).1 t ∧
      ((∃ v, o = .returned v ∧ t = T'.setTop { g with pc := g.pc + 3, stack := v.toList ++ g.stack }) ∨ (∃ x, o = .threw x ∧ t = (T'.setTop g).pushFrame (.throwing x))) := by
  obtain ⟨methY, cY, hmY, hcY, -, hlY, -, -, -, -⟩ := Cond.code_spec hn hcode
  obtain ⟨kY, hkY, -⟩ := className_of_methodNamed hn
  have hinitY : kY.init = .initialized := Cond.initialized_spec (findClass_of_methodNamed hn) hkY hini
  have h : At T g.method c below := by rw [hg]; exact X.here
  have happ : (headSpec ws rm).appliesLoose y e.platform (T.calling g mk a) = true :=
    Spec.appliesLoose_calling (g := g) h hdg hn hkY hinitY
      (X.room_calling (g := g) (R' := (headSpec ws rm).room) hsize hmY hcY hfr (by rw [hlY]; show _ + (maxL + 11) + rm.locals ≤ R.locals; omega) (by show cells + rm.cells ≤ _; omega) (by show slots + rm.slots ≤ _; omega)) (atoms_intro hws)
  obtain ⟨mid, hmid⟩ := h.above
  have hfr2 : (T.setTop g).frames = (.java g :: mid) ++ below := by rw [State.frames_setTop' g h.top, hmid]; rfl
  obtain ⟨o, s₂, hsteps, -, hend, hq, L, ⟨hW2, hsame⟩, hL⟩ := Steps.callFree hM p X.admits X.cas X.clock (acts := []) hfr2 happ (hbl a T g mk hPc) trivial
  rw [State.frames_setTop' g h.top, X.tail] at hend
  cases o with
  | returned v =>
    obtain ⟨T', X', -, -, ht⟩ := X.outOf hg hdg (mk := mk) (a := a) hend hW2 hsame
    exact ⟨_, s₂, T', L, X', hL, by rw [ht]; simp [State.setTop, State.modifyTopJava], by rw [ht]; simp [State.setTop, State.modifyTopJava], hq, hsteps, Or.inl ⟨v, rfl, ht⟩⟩
  | threw x =>
    obtain ⟨T', X', -, -, ht⟩ := X.outOfThrown hg (mk := mk) (a := a) hend hW2 hsame
    exact ⟨_, s₂, T', L, X', hL, by rw [ht, throwing_heap], by rw [ht, throwing_vm], hq, hsteps, Or.inr ⟨x, rfl, ht⟩⟩
end XTC
end
section
/-! ===== a call (invokevirtual) of a method that may throw; a catch, the caught classes linked cold or warm ===== -/
section XTV
variable {p : Program} {l : Launch} {e : Env} {R : Room} {s : State} {m : MethodId} {args : Array Value} {below : List Frame} {meth : Method} {c : Code} {H : Heap} {locs : List Loc} {cells slots : Nat} {Q : State → Prop}
theorem xt_callV {y : MethodName} {bytes cc : ByteArray} {maxL nL mc ms n index : Nat} {ret : Option FieldType} {ws : List Cond} {rm : Room} {Pc : Array Value → State → Prop} {Qc : Array Value → State → Outcome → State → Prop} {free : Addr → Prop} {Ts : List Cond} {own C : String} {b : Addr} {As rest st0 : List Value} {pc : Nat} {ls : Array Slot}
    (S : CallFix p m c cc nL s args Ts own) (hM : xt_Met l y ws rm Pc Qc mc ms free) (cw : CallW R s args own C index y bytes maxL ret ws rm mc ms n) (hp : PreV s H C b Pc As)
    (hn : As.length = n) (hsize : ls.size = nL) (hstack : st0 = As.reverse ++ .ref b :: rest) (hW : 2 * (F0 m pc ls rest).monitorRoom + (rest.map fun v => v.category).sum ≤ 8) (hdg : decode cc pc = .ok (.invokevirtual index, 3)) (hf : cells + mc ≤ R.cells ∧ slots + ms ≤ R.slots)
    (kr : ∀ (v : Option Value) (st₀ t : State) (H1 : Heap) (L : List Loc), st₀.heap = H → t.heap = H1 → s.vm.Alike t.vm → Qc (Value.ref b :: As).toArray st₀ (.returned v) t → (∀ q ∈ L, free q.base) → W p l e R s m args below meth c H1 (locs ++ L) (cells + mc) (slots + ms) Q (F0 m (pc + 3) ls (v.toList ++ rest)))
    (kx : ∀ (x : Addr) (st₀ t : State) (H1 : Heap) (L : List Loc), st₀.heap = H → t.heap = H1 → s.vm.Alike t.vm → Qc (Value.ref b :: As).toArray st₀ (.threw x) t → (∀ q ∈ L, free q.base) → xt_W p l e R s m args below meth c H1 (locs ++ L) (cells + mc) (slots + ms) Q x (F0 m pc ls rest)) :
    W p l e R s m args below meth c H locs cells slots Q (F0 m pc ls st0) := by
  intro T hT X
  obtain ⟨⟨hrc, hrs, hfr, hlo, hws, hcw, hcode, hini, hy, hlen, hl⟩, hin, hse⟩ := cw
  obtain ⟨hx, hb, hml, ho, -⟩ := S
  obtain ⟨hbl, ⟨cellB, hcB, hoB, hclB⟩, hPc⟩ := hp
  obtain ⟨mk, methM, hnamed, hmethM, hstM, habM⟩ := Cond.instanceMethod_spec hin
  obtain ⟨methM', cM, hmethM', -, -, -, -, -, -, hsigM⟩ := Cond.code_spec hnamed hcode
  cases hmethM.symm.trans hmethM'
  obtain ⟨c2, r2, m2, q1, q2, q3, q4, kP, hkP, hkPi⟩ := Cond.selects_spec hse
  cases hclB.symm.trans q1
  cases (State.methodFound?_of_named hnamed hy).symm.trans q2
  cases hnamed.symm.trans q3
  have hselP : selectMethod e.platform s.vm cellB.cls mk = .method mk := by rw [Launch.admits_selectMethod X.admits]; exact q4
  obtain ⟨vm₁, X₁, hstep₁⟩ := X.invokevirtual hx ho hl hnamed hmethM hstM hkP hkPi hy (a := b) (cell := cellB) (by rw [hT]; exact hcB)
    (fun z h => by rw [h] at hoB; cases hoB) hselP hmethM habM hkP hkPi (g := F0 m pc ls st0) rfl (argsL := As) (rest := rest) (hn.trans (hlen _ hsigM)) hstack (by rw [hb]; exact hdg)
  obtain ⟨o, t, T', L, X', hL, e1, e2, hq, hst, hor⟩ := xt_call X₁ hM hbl hrc hrs hfr hlo (a := (Value.ref b :: As).toArray) (fun w hw => hws w hw _ _ X₁.warmed) (hws _ hcw _ _ X₁.warmed)
    (word_at X₁.warmed (Or.inl (by first | rfl | simp [Cond.onTables, Cond.keeps, Cond.steady])) hini) hf.1 hf.2 (hPc _ hT X₁.warmed) (g := F0 m pc ls rest) rfl (hsize.trans hml.symm) (ig := .invokevirtual index) (by rw [hb]; exact hdg) hW (X₁.named hnamed)
  have hal : s.vm.Alike t.vm := by rw [← e2]; exact X'.warmed.alike
  rcases hor with ⟨v, rfl, ht⟩ | ⟨x, rfl, ht⟩
  · obtain ⟨u, a1, b1⟩ := kr v ((T.setVm vm₁).calling (F0 m pc ls rest) mk (Value.ref b :: As).toArray) t T'.heap L hT e1.symm hal hq hL T' rfl X'
    refine ⟨u, hstep₁ _ fun acts => ?_, b1⟩
    rw [doInvoke_state]
    exact hst.trans (by rw [ht]; exact a1)
  · obtain ⟨u, a1, b1⟩ := kx x ((T.setVm vm₁).calling (F0 m pc ls rest) mk (Value.ref b :: As).toArray) t T'.heap L hT e1.symm hal hq hL T' rfl X'
    refine ⟨u, hstep₁ _ fun acts => ?_, b1⟩
    rw [doInvoke_state]
    exact hst.trans (by rw [ht]; exact a1)
end XTV
section XTH
variable {e : Env} {s : State} {f : JFrame} {a : Addr}
/-- one entry of the table, its class linked: resolved and noted; then caught, or the search goes on -/
theorem xt_entry {S : State} {x : ExceptionTableEntry} {t : List ExceptionTableEntry} {c : ClassId} {cell : Cell} {Q : Handler → Pre} {E : CtlPost} {d : Bool} {acts : List Action} (hx : covers x f.pc = true) (h0 : x.catchType ≠ 0)
    (hl : S.vm.ClassLinks e.platform f.method.cls x.catchType c) (hcell : S.heap[a]? = some cell) (hobj : ∀ k, cell.vm ≠ .statics k)
    (hk : ∃ k, S.vm.classes[cell.cls]? = some k) (hc : ∃ k, S.vm.classes[c]? = some k) {vm' : Vm} (hvm : vm' = S.vm.noted f.method.cls x.catchType (.cls c)) :
    wp (findHandler.go f a (x :: t)) Q E e d acts S ↔
      if S.vm.assignable cell.cls c = true then Q (.found x.handlerPc) d acts (S.setVm vm') else wp (findHandler.go f a t) Q E e d acts (S.setVm vm') := by
  subst hvm
  simp only [covers] at hx
  have hg := (resolveClass_links e.toSetting hl).op (op := VmOp.resolveClass f.method.cls x.catchType) rfl
  have hal := (Vm.Alike.refl S.vm).noted f.method.cls x.catchType (.cls c)
  obtain ⟨k1, hk1⟩ := hk
  obtain ⟨k2, hk2⟩ := hc
  obtain ⟨k3, hk3, -⟩ := hal.2.2 _ _ hk1
  obtain ⟨k4, hk4, -⟩ := hal.2.2 _ _ hk2
  have has : (S.vm.noted f.method.cls x.catchType (.cls c)).assignable cell.cls c = S.vm.assignable cell.cls c := by rw [hal.assignable]
  cases hfit : S.vm.assignable cell.cls c <;> rw [hfit] at has <;> simp [findHandler.go, hx, h0, hg.1, hg.2, hcell, hobj, hk3, hk4, has, VmOp.dirties, VmOp.acts]
end XTH
section XTG
variable {e : Env} {s : State} {f : JFrame} {a : Addr}
/-- an entry whose class is linked (at the invocation's state); whether the thrown object is of that class -/
def xt_link (e : Env) (s : State) (f : JFrame) (cell : Cell) (fits : Bool) (x : ExceptionTableEntry) : Prop :=
  covers x f.pc = true ∧ x.catchType ≠ 0 ∧ ∃ c : ClassId, s.vm.ClassLinks e.platform f.method.cls x.catchType c ∧ s.vm.assignable cell.cls c = fits
/-- the search through a table: entries that don't fit, then one that does -/
theorem xt_search {cell : Cell} {x : ExceptionTableEntry} {rest : List ExceptionTableEntry} (hobj : ∀ k, cell.vm ≠ .statics k) (hk : ∃ k, s.vm.classes[cell.cls]? = some k) (hx : xt_link e s f cell true x) :
    ∀ (pre : List ExceptionTableEntry), (∀ y ∈ pre, xt_link e s f cell false y) → ∀ S : State, S.heap[a]? = some cell → s.WarmedH S.vm →
      ∃ vm', s.WarmedH vm' ∧ ∀ (Q : Handler → Pre) (E : CtlPost) (d : Bool) (acts : List Action), wp (findHandler.go f a (pre ++ x :: rest)) Q E e d acts S ↔ Q (.found x.handlerPc) d acts (S.setVm vm') := by
  intro pre
  induction pre with
  | nil =>
    intro _ S hcell hW
    obtain ⟨h1, h2, c, hl, hfit⟩ := hx
    obtain ⟨dk, _, _, ck, hd, _, _, _, _, hck, _, hopen⟩ := hl.here
    obtain ⟨k1, hk1⟩ := hk
    obtain ⟨k2, hk2, -⟩ := hW.alike.2.2 _ _ hk1
    obtain ⟨k3, hk3, -⟩ := hW.alike.2.2 _ _ hck
    refine ⟨_, hW.noted hd hopen (State.rightAt_cls hl), fun Q E d acts => ?_⟩
    rw [List.nil_append, xt_entry h1 h2 (hW.classLinks hl) hcell hobj ⟨k2, hk2⟩ ⟨k3, hk3⟩ rfl, if_pos (by rw [hW.alike.assignable]; exact hfit)]
  | cons y ys ih =>
    intro hp S hcell hW
    obtain ⟨h1, h2, c, hl, hfit⟩ := hp y List.mem_cons_self
    obtain ⟨dk, _, _, ck, hd, _, _, _, _, hck, _, hopen⟩ := hl.here
    obtain ⟨k1, hk1⟩ := hk
    obtain ⟨k2, hk2, -⟩ := hW.alike.2.2 _ _ hk1
    obtain ⟨k3, hk3, -⟩ := hW.alike.2.2 _ _ hck
    have hW1 := hW.noted hd hopen (State.rightAt_cls hl)
    obtain ⟨vm', hW', hq⟩ := ih (fun z hz => hp z (List.mem_cons_of_mem _ hz)) (S.setVm (S.vm.noted f.method.cls y.catchType (.cls c))) hcell hW1
    refine ⟨vm', hW', fun Q E d acts => ?_⟩
    rw [List.cons_append, xt_entry h1 h2 (hW.classLinks hl) hcell hobj ⟨k2, hk2⟩ ⟨k3, hk3⟩ rfl, if_neg (by rw [hW.alike.assignable, hfit]; decide), hq]
    exact Iff.rfl
/-- a search that ends in a handler, the tables warmer: the step -/
theorem xt_step {S : State} {r : List Frame} {pc : Nat} {vm' : Vm} (hfind : ∀ (Q : Handler → Pre) (E : CtlPost) (d : Bool) (acts : List Action), wp (findHandler f a) Q E e d acts S ↔ Q (.found pc) d acts (S.setVm vm')) :
    (stepThrowing e S a (.java f :: r)).Is ((S.setVm vm').setFrames (.java { f with pc := pc, stack := [.ref a] } :: r)) [] := by
  simp only [stepThrowing, searchFrame, vmDo]
  generalize hr : Sem.go _ e false [] S = res
  obtain ⟨as, rfl, ha⟩ := Sem.eq_ok_of hr (a := Handler.found pc) (s' := S.setVm vm') (acts' := []) (by simp [hfind _ _ _ _])
  exact ⟨rfl, ha⟩
theorem xt_caught {tb : Tables} {target S : State} {g : JFrame} {c : Code} {below : List Frame} (h : At S g.method c below) {pc : Nat} {vm' : Vm}
    (hfind : ∀ (Q : Handler → Pre) (E : CtlPost) (d : Bool) (acts : List Action), wp (findHandler g a) Q E e d acts ((S.setTop g).pushFrame (.throwing a)) ↔ Q (.found pc) d acts (((S.setTop g).pushFrame (.throwing a)).setVm vm'))
    (hrest : Steps tb e below ((S.setVm vm').setTop { g with pc := pc, stack := [.ref a] }) target) : Steps tb e below ((S.setTop g).pushFrame (.throwing a)) target := by
  obtain ⟨hgo, hw⟩ := h.throwing a
  refine Steps.head hgo hw ?_
  rw [stepThread_throwing (frames_entered h.top _), (xt_step hfind).1]
  obtain ⟨g₀, hg⟩ := Option.isSome_iff_exists.mp h.top
  obtain ⟨r, hr⟩ := State.topJava?_eq_some.mp hg
  have hr' : (S.setVm vm').frames = .java g₀ :: r := hr
  rw [State.setTop_of_frames _ hr'] at hrest
  have key : ((((S.setTop g).pushFrame (.throwing a)).setVm vm').setFrames (.java { g with pc := pc, stack := [.ref a] } :: S.frames.tail)) = (S.setVm vm').setFrames (.java { g with pc := pc, stack := [.ref a] } :: r) := by
    rw [State.pushFrame, State.setTop_of_frames _ hr, hr, List.tail_cons, State.setFrames_setFrames]
    show ((S.setVm vm').setFrames _).setFrames _ = _
    rw [State.setFrames_setFrames]
  rw [key]
  exact hrest
end XTG
section XTK
variable {p : Program} {l : Launch} {e : Env} {R : Room} {s : State} {m : MethodId} {args : Array Value} {below : List Frame} {meth : Method} {c : Code} {H : Heap} {locs : List Loc} {cells slots : Nat} {Q : State → Prop}
/-- a throw over the frame is caught at a handler of the method's own -/
theorem xt_catch {x : Addr} {pc hpc : Nat} {ls : Array Slot} {st : List Value} {cell : Cell} (pre : List ExceptionTableEntry) (y : ExceptionTableEntry) (rest : List ExceptionTableEntry) (htab : c.exceptionTable.toList = pre ++ y :: rest) (hy : y.handlerPc = hpc)
    (hcell : H[x]? = some cell) (hobj : ∀ k, cell.vm ≠ .statics k) (hk : ∃ k, s.vm.classes[cell.cls]? = some k)
    (hpre : ∀ z ∈ pre, xt_link e s (F0 m pc ls st) cell false z) (hfit : xt_link e s (F0 m pc ls st) cell true y)
    (kk : W p l e R s m args below meth c H locs cells slots Q (F0 m hpc ls [.ref x])) : xt_W p l e R s m args below meth c H locs cells slots Q x (F0 m pc ls st) := by
  intro T hT X
  subst hy
  have hU : (((T.setTop (F0 m pc ls st)).pushFrame (.throwing x))).heap[x]? = some cell := by rw [throwing_heap, hT]; exact hcell
  have hW : s.WarmedH ((T.setTop (F0 m pc ls st)).pushFrame (.throwing x)).vm := by rw [throwing_vm]; exact X.warmed
  obtain ⟨vm', hW', hq⟩ := xt_search (e := e) (f := F0 m pc ls st) (a := x) (rest := rest) hobj hk hfit pre hpre _ hU hW
  obtain ⟨t, a1, b1⟩ := kk (T.setVm vm') hT (X.noted hW')
  refine ⟨t, xt_caught (c := c) X.here (vm' := vm') (pc := y.handlerPc) (fun Q E d acts => ?_) a1, b1⟩
  rw [Jvm.W.findHandler_eq (meth := meth) (code := c) (by rw [throwing_vm]; exact X.method') X.code, htab]
  exact hq Q E d acts
end XTK
end
section
/-! ===== throw new E("text"): the heap that was there stays as it was ===== -/
section XTB
variable {p : Program} {l : Launch} {e : Env} {R : Room} {s : State} {m : MethodId} {args : Array Value} {below : List Frame} {meth : Method} {c : Code} {T : State} {locs : List Loc} {cells slots : Nat}
/-- the same walk, counted anew from the state at which it stands -/
theorem xt_base (X : Stand p l e R s m args below meth c T locs cells slots) (h1 : cells ≤ R.cells) (h2 : slots ≤ R.slots) :
    Stand p l e { R with cells := R.cells - cells, slots := R.slots - slots } (T.setFrames (.invoking m args :: below)) m args below meth c T [] 0 0 := by
  obtain ⟨g₀, hfr⟩ := X.frames_eq
  have hcur : T.cur < T.threads.size := State.cur_lt_of_frames hfr
  have hfb : (T.setFrames (.invoking m args :: below)).frames = .invoking m args :: below := State.frames_setFrames _ hcur
  have hloc : (T.setFrames (.invoking m args :: below)).localsInUse = s.localsInUse := by
    rw [State.localsInUse_invoking hfb X.method' X.code, State.localsInUse_invoking X.frames X.method X.code]
  have hlim : e.platform.stackLimits (T.setFrames (.invoking m args :: below)).me = e.platform.stackLimits s.me := (State.stackLimits_setFrames _ _ _).trans X.limits
  have hbyt : (T.setFrames (.invoking m args :: below)).me.stackBytes = s.me.stackBytes := (State.stackBytes_setFrames _ _).trans X.bytes
  have hroom := X.room
  have hsz := X.heapSize
  have hus := X.used
  have hbk : (T.setFrames (.invoking m args :: below)).slotsTrue = true := X.book
  refine ⟨X.admits, X.cas, X.clock, hfb, ?_, ?_, X.method', X.code, X.here, X.tail, State.WarmedH.refl _, (State.stackLimits_setFrames _ _ _).symm, (State.stackBytes_setFrames _ _).symm, ?_⟩
  · simp only [State.hasRoom, Bool.and_eq_true, decide_eq_true_eq] at hroom ⊢
    rw [hloc, hfb, hlim, hbyt]
    rw [X.frames] at hroom
    have hh : (T.setFrames (.invoking m args :: below)).heap.size = T.heap.size := rfl
    have hu : (T.setFrames (.invoking m args :: below)).slotsUsed = T.slotsUsed := rfl
    obtain ⟨⟨⟨⟨r1, r2⟩, r3⟩, r4⟩, r5⟩ := hroom
    exact ⟨⟨⟨⟨r1, r2⟩, by rw [hh]; show T.heap.size + (R.cells - cells) ≤ _; omega⟩, by rw [hu]; show T.slotsUsed + (R.slots - slots) ≤ _; omega⟩, hbk⟩
  · have hh := X.hears
    cases below with
    | nil =>
      simp only [State.hears] at hh ⊢
      rw [show (T.setFrames [.invoking m args]).vm.method? m = some meth from X.method']
      rw [X.method] at hh
      exact hh
    | cons fr rs =>
      cases fr with
      | java g =>
        simp only [State.hears] at hh ⊢
        rw [State.code?_eq] at hh ⊢
        rw [show (T.setFrames (.invoking m args :: .java g :: rs)).vm.method? g.method = s.vm.method? g.method from X.warmed.alike.method? _]
        exact hh
      | _ =>
        first
          | rfl
          | (simp only [State.hears] at hh ⊢
             first
               | exact hh
               | (rw [show (T.setFrames _).vm.method? m = some meth from X.method']; rw [X.method] at hh; exact hh))
  · have hself : (T.setFrames (.invoking m args :: below)).setFrames T.frames = T := by
      obtain ⟨th, hth, -⟩ := State.frames_cons hfr
      rw [State.setFrames_setFrames, State.setFrames_self hth]
    have hdrop : T.heap.toList.drop T.heap.size = [] := List.drop_eq_nil_of_le (by simp)
    refine ⟨?_, Nat.le_refl _, Nat.le_refl _, ?_, ?_, ?_⟩
    · show T = _
      rw [show (T.setVm (T.setFrames (.invoking m args :: below)).vm).frames = T.frames from rfl, hself]
      rfl
    · show T.slotsUsed = T.slotsUsed + ((T.heap.toList.drop T.heap.size).map (·.slots.size)).sum
      rw [hdrop]; rfl
    · show ((T.heap.toList.drop T.heap.size).map (·.slots.size)).sum ≤ 0
      rw [hdrop]; exact Nat.le_refl _
    · intro a cl h
      exact ⟨cl, h, rfl, rfl, fun _ _ => rfl⟩
end XTB
theorem xt_isRef {C n d : String} {A : Nat → Prop} {U : State} {a : Array Value} (h : va_Zq C n d A U U.heap) : (Cond.isRef (.static C n d)).before a U = true := by
  rcases h with ⟨cf, kf, fi, f, ad, cell, h1, h2, h3, h4, h5, h6, h7, -⟩ | ⟨t, cf, kf, fi, f, ad, cell, h1, h2, h3, h4, h5, h6, h7, -⟩ <;> simp [Cond.before, Cond.holds, Cond.value, Term.eval, State.fieldNamed?, h1, h2, h4, h5, h6, h7]
/-- what a method that throws new E("text") asks of the tables -/
def xt_isR : Cond → Bool
  | .isRef _ => true
  | _ => false
def xt_ws (own : String) (ix ic : Nat) (cls : String) (names : List String) : List Cond := [.classLink own ix cls, .initialized cls] ++ (Bundle.ownAtoms own ic cls names).filter (fun w => !xt_isR w)
theorem xt_noR1 : ∀ a ∈ Bundle.throwableAtoms, xt_isR a = false := by decide +kernel
theorem xt_noR2 : ∀ a ∈ Bundle.throwableSAtoms, xt_isR a = false := by decide +kernel
theorem xt_noR3 : ∀ (names : List String) (X : String), ∀ a ∈ Bundle.chainSAtoms X names, xt_isR a = false := by
  intro names
  induction names with
  | nil =>
    intro X a ha
    simp only [Bundle.chainSAtoms, Bundle.passSAtoms, List.mem_cons, List.not_mem_nil, or_false] at ha
    rcases ha with rfl | rfl | rfl | rfl | rfl <;> rfl
  | cons n ns ih =>
    intro X a ha
    simp only [Bundle.chainSAtoms, Bundle.passSAtoms, List.mem_append, List.mem_cons, List.not_mem_nil, or_false] at ha
    rcases ha with (rfl | rfl | rfl | rfl | rfl) | h
    · rfl
    · rfl
    · rfl
    · rfl
    · rfl
    · exact ih n a h
theorem xt_noTrace {l : Launch} {e : Env} (h : l.admits e) (hfl : l.flags = flags0) : e.platform.stackTraces = false := by
  rw [h.platform]
  show l.stackTraces = false
  unfold Launch.stackTraces
  rw [hfl]
  decide +kernel
section XTN
variable {p : Program} {l : Launch} {e : Env} {R : Room} {s : State} {m : MethodId} {args : Array Value} {below : List Frame} {meth : Method} {c : Code} {H : Heap} {locs : List Loc} {cells slots : Nat}
set_option maxHeartbeats 4000000 in
theorem xt_throwNew {cc : ByteArray} {Qc : Array Value → State → Outcome → State → Prop} {free : Addr → Prop} (hx : p.tables.exec = Jvm.exec) (hb : c.code = cc) (hfl : l.flags = flags0) {own cls tx : String} {names : List String} {ix ik ic q pc : Nat} {ls : Array Slot} {st : List Value} {Ts : List Cond}
    (hts : ∀ w ∈ Ts, w.before args s = true) (hG : GoodIn Ts (xt_ws own ix ic cls names)) (hown : s.vm.findClass own = some m.cls) (hcls : Bundle.fit cls = true) (hnames : ∀ n ∈ names, Bundle.fit n = true) (hno : ∀ x ∈ c.exceptionTable.toList, False) (hlocks : meth.locks = false)
    (hS : vk_R own ik tx q s) {A : Nat → Prop} (hz1 : va_Zq "java/lang/Throwable" "UNASSIGNED_STACK" "[Ljava/lang/StackTraceElement;" A s H) (hz2 : va_Zq "java/lang/Throwable" "SUPPRESSED_SENTINEL" "Ljava/util/List;" A s H)
    (hsize : ls.size = c.maxLocals) (hcells : cells + 1 ≤ R.cells) (hslots : slots + 6 ≤ R.slots) (hRf : names.length + 3 < R.frames) (hRl : (st.map fun v => v.category).sum + 1 + (13 * (names.length + 1) + 42) ≤ R.locals)
    (hd0 : decode cc pc = .ok (.new ix, 3)) (hd3 : decode cc (pc + 3) = .ok (.dup, 1)) (hd4 : decode cc (pc + 3 + 1) = .ok (.ldc ik, 2)) (hd6 : decode cc (pc + 3 + 1 + 2) = .ok (.invokespecial ic, 3)) (hd9 : decode cc (pc + 3 + 1 + 2 + 3) = .ok (.athrow, 1))
    (hq : ∀ (x : Addr) (t : State) (ce : Cell), H.size ≤ x → s.WarmedH t.vm → H.size ≤ t.heap.size → (∀ q : Nat, q < H.size → t.heap[q]? = H[q]?) → t.heap[x]? = some ce → ce.vm = .none → s.vm.findClass cls = some ce.cls → Qc args s (.threw x) t) (hf : ∀ q ∈ locs, free q.base) :
    W p l e R s m args below meth c H locs cells slots (xt_MQ below Qc args s (cells + 1) (slots + 6) free) (F0 m pc ls st) := by
  intro T hT X
  have htr := xt_noTrace X.admits hfl
  have X0 := xt_base X (by omega) (by omega)
  have hW0 : s.WarmedH (T.setFrames (.invoking m args :: below)).vm := X.warmed
  have hw : ∀ w ∈ xt_ws own ix ic cls names, w.before args (T.setFrames (.invoking m args :: below)) = true := fun w h => word_at hW0 (hG w h).2 (hts w (hG w h).1)
  have hown' : (T.setFrames (.invoking m args :: below)).vm.findClass own = some m.cls := by rw [hW0.alike.findClass]; exact hown
  have hat : ∀ a ∈ Bundle.ownAtoms own ic cls names, a.before args (T.setFrames (.invoking m args :: below)) = true := by
    intro a ha
    cases hr : xt_isR a with
    | false => exact hw a (List.mem_append_right _ (List.mem_filter.mpr ⟨ha, by rw [hr]; rfl⟩))
    | true =>
      have hZ1 : va_Zq "java/lang/Throwable" "UNASSIGNED_STACK" "[Ljava/lang/StackTraceElement;" A (T.setFrames (.invoking m args :: below)) (T.setFrames (.invoking m args :: below)).heap := by
        have h9 := hz1.moved (U := T.setFrames (.invoking m args :: below)) hW0.alike
        rw [← hT] at h9
        exact h9
      have hZ2 : va_Zq "java/lang/Throwable" "SUPPRESSED_SENTINEL" "Ljava/util/List;" A (T.setFrames (.invoking m args :: below)) (T.setFrames (.invoking m args :: below)).heap := by
        have h9 := hz2.moved (U := T.setFrames (.invoking m args :: below)) hW0.alike
        rw [← hT] at h9
        exact h9
      have hmem : a = .isRef (.static Bundle.tN "UNASSIGNED_STACK" Bundle.steD) ∨ a = .isRef (.static Bundle.tN "SUPPRESSED_SENTINEL" Bundle.listD) := by
        unfold Bundle.ownAtoms at ha
        rcases List.mem_append.mp ha with h1 | h1
        · rcases List.mem_append.mp h1 with h2 | h2
          · rcases List.mem_append.mp h2 with h3 | h3
            · rw [xt_noR1 a h3] at hr; cases hr
            · rw [xt_noR2 a h3] at hr; cases hr
          · rw [xt_noR3 names cls a h2] at hr; cases hr
        · simp only [List.mem_cons, List.not_mem_nil, or_false] at h1
          rcases h1 with rfl | rfl | rfl | rfl | rfl | rfl | rfl | rfl | rfl | rfl | rfl | rfl | rfl | rfl <;> first | exact Or.inl rfl | exact Or.inr rfl | (cases hr)
      rcases hmem with rfl | rfl
      · exact xt_isRef hZ1
      · exact xt_isRef hZ2
  obtain ⟨cX, kX, hfc, hkX0, -, -, -, hn6⟩ := Cond.instantiable_spec (hat (.instantiable cls 6) (by simp [Bundle.ownAtoms]))
  have hS' : vk_R own ik tx q (T.setFrames (.invoking m args :: below)) := vk_R.warm hW0 hS
  have key : W p l e { R with cells := R.cells - cells, slots := R.slots - slots } (T.setFrames (.invoking m args :: below)) m args below meth c T.heap [] 0 0 (xt_MQ below Qc args s (cells + 1) (slots + 6) free) (F0 m pc ls st) := by
    refine W.newcK (n := 6) hx hb hown' (hw (.classLink own ix cls) (by simp [xt_ws])) (hat (.instantiable cls 6) (by simp [Bundle.ownAtoms])) (hw (.initialized cls) (by simp [xt_ws])) rfl hd0 (by show 0 + 1 ≤ R.cells - cells; omega) (by show 0 + 6 ≤ R.slots - slots; omega) hfc rfl (fun H1 kY hkY e1 z1 o1 => ?_)
    refine lv_dup hx hb hd3 rfl ?_
    refine va_ldcS hx hb hown' hS' hd4 ?_
    intro W1 hW1 X1
    subst hb
    obtain ⟨U, hst, hrun, hend, hWU, hsame, ce, hce, hO⟩ := X1.ctorThrowS hx htr hown' hcls hnames hat (fun _ h => by cases h) hfc hkY (by rw [hW1]; exact e1) (Nat.le_refl _) (msg := .ref q) rfl (g := F0 m (pc + 3 + 1 + 2) ls (.ref q :: .ref T.heap.size :: .ref T.heap.size :: st)) rfl hsize rfl rfl rfl hd6 hd9 (fun y hy => (hno y hy).elim) hRf (by show 2 * 0 + (1 + (st.map fun v => v.category).sum) + _ ≤ R.locals; omega) hlocks
    have hkeep : ∀ z : Nat, z < H.size → U.heap[z]? = H[z]? := by
      intro z hz
      rw [← hT] at hz ⊢
      have h1 : (T.setFrames (.invoking m args :: below)).heap[z]? = some T.heap[z] := Array.getElem?_eq_getElem hz
      obtain ⟨c', h2, h3, h4, h5⟩ := hsame.2.2.2.2.2 z _ h1
      have h6 : c'.slots = T.heap[z].slots := Array.ext_getElem? (fun i => h5 i (fun h => by cases h))
      rw [h6] at h3
      rw [show U.heap[z]? = some c' from h2, h3, Array.getElem?_eq_getElem hz]
    have hsz : H.size ≤ U.heap.size := by rw [← hT]; exact hsame.2.1
    have hsT : T.sameButNew ({ U with vm := T.vm } : State) [] 1 6 := by
      refine ⟨?_, hsame.2⟩
      have h1 := hsame.1
      rw [State.setFrames_setFrames] at h1
      exact h1
    have hfin : s.sameButNew ({ U with vm := s.vm } : State) locs (cells + 1) (slots + 6) := by
      have h1 := X.same.trans (hsT.setVm s.vm)
      rw [List.append_nil] at h1
      exact h1
    refine ⟨U, hst, .threw T.heap.size, hrun, hend, hq _ U ce (by rw [← hT]; exact Nat.le_refl _) (State.WarmedH.trans X.warmed hWU) hsz hkeep hce hO.vm ?_, locs, ⟨State.WarmedH.trans X.warmed hWU, hfin⟩, hf⟩
    have h1 := hO.cls
    rw [hW0.alike.findClass] at h1
    exact h1
  exact key T rfl X0
end XTN
end
