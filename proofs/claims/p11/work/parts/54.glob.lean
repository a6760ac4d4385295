/-! ===== what the class's methods find outside their objects: the table of factorials, Throwable's statics, strings ===== -/
def fac : Nat → Int32 | 0 => 1 | 1 => 1 | 2 => 2 | 3 => 6 | _ => 24
def strs : List (Nat × String) := [(94, "there are 24 cubes"), (109, "no such cube or input"), (114, "no such digit"), (121, "no such cube or output"), (123, "no such kind"), (138, "no such prime, input or output"), (143, "steps are below 0"), (163, "no such term, input or output"), (180, "no term, or one that is not kept"), (187, "no such product, or no quotient"), (195, "no such order"), (207, "no such output"), (209, "no such assignment"), (217, "no cover is kept")]
def gl (A : Nat → Prop) (U : State) (H : Heap) : Prop :=
  (∃ tF : Nat, va_Z "CoverRows$Diagrams" "FACTORIALS" "[I" (.ref tF) A U H ∧ va_T .int tF 5 (fun j => .int (fac j)) A U H) ∧
  xt_Z "java/lang/Throwable" "UNASSIGNED_STACK" "[Ljava/lang/StackTraceElement;" A U H ∧ xt_Z "java/lang/Throwable" "SUPPRESSED_SENTINEL" "Ljava/util/List;" A U H ∧
  (∀ w ∈ lws, w.before #[] U = true) ∧ (∀ x ∈ strs, ∃ q : Nat, vk_R "CoverRows" x.1 x.2 q U)
theorem gl.moved {A : Nat → Prop} {u U : State} {H : Heap} (h : gl A u H) (hW : u.WarmedH U.vm) : gl A U H := by
  obtain ⟨⟨t, h1, h2⟩, h3, h4, h5, h6⟩ := h
  exact ⟨⟨t, va_Z.moved hW.alike h1, va_T.moved hW.alike h2⟩, xt_Z.moved hW.alike h3, xt_Z.moved hW.alike h4, fun w hw => xt_isS_moved (lws_s w hw) hW.alike (h5 w hw), fun x hx => (h6 x hx).elim fun q hq => ⟨q, vk_R.warm hW hq⟩⟩
theorem gl.kept {A : Nat → Prop} {U : State} {H H1 : Heap} (h : gl A U H) (hq : ∀ a : Nat, a < H.size → ¬ A a → H1[a]? = H[a]?) : gl A U H1 := by
  obtain ⟨⟨t, h1, h2⟩, h3, h4, h5, h6⟩ := h
  exact ⟨⟨t, h1.kept hq, h2.kept hq⟩, h3.kept hq, h4.kept hq, h5, h6⟩
theorem gl.narrow {A B : Nat → Prop} {U : State} {H : Heap} (h : gl A U H) (hAB : ∀ q, B q → A q) : gl B U H := by
  obtain ⟨⟨t, h1, h2⟩, h3, h4, h5, h6⟩ := h
  exact ⟨⟨t, h1.narrow hAB, h2.narrow hAB⟩, h3.narrow hAB, h4.narrow hAB, h5, h6⟩
theorem gl.blind {A : Nat → Prop} {U : State} {g : JFrame} {mk : MethodId} {a : Array Value} (h : gl A U U.heap) : gl A (U.calling g mk a) (U.calling g mk a).heap := gl.moved (U := U.calling g mk a) h (State.WarmedH.refl U)
/-- the end by a throw of a new object of class E, the heap that was there as it was -/
def xQ (E : String) : Array Value → State → Outcome → State → Prop := fun _ st o t => ∃ (x : Addr) (ce : Cell), o = .threw x ∧ st.heap.size ≤ x ∧ st.heap.size ≤ t.heap.size ∧ (∀ q : Nat, q < st.heap.size → t.heap[q]? = st.heap[q]?) ∧ t.heap[x]? = some ce ∧ ce.vm = .none ∧ t.vm.findClass E = some ce.cls
/-! ===== methods with handlers ===== -/
section XH
variable {p : Program} {l : Launch} {e : Env} {R : Room} {s : State} {m : MethodId} {args : Array Value} {below : List Frame} {meth : Method} {c : Code}
theorem xh_ofW {y : MethodName} {ws ws' : List Cond} {rm : Room} {Pc : Array Value → State → Prop} {Qc : Array Value → State → Outcome → State → Prop} {mc ms : Nat} {free : Addr → Prop} {cc : ByteArray} {maxL : Nat} {ret : Option FieldType} {hs : List (Nat × Nat × Nat × Nat)}
    (hy : plainName y.cls = true) (hw : ws = Cond.codeWith y cc maxL ret hs :: ws')
    (body : ∀ p e s m args below meth c s₁, BodyLoose p l y (headSpec ws rm) cc maxL ret e s m args below meth c s₁ → c.maxLocals = maxL → c.exceptionTable.toList.map (fun h => (h.startPc, h.endPc, h.handlerPc, h.catchType)) = hs → Pc args s →
      W p l e (headSpec ws rm).room s m args below meth c s.heap [] 0 0 (xt_MQ below Qc args s mc ms free) (entryFrame m args maxL)) : xt_Met l y ws rm Pc Qc mc ms free := by
  refine MetFree.of_bodyS (code := cc) (maxLocals := maxL) (ret := ret) hy ?_ ?_
  · intro args s m h hn
    obtain ⟨m', meth, c, hn', h1, h2, h3, h4, -, h5, h6, -⟩ := Cond.codeWith_spec (atoms_spec (ws := ws) h _ (by rw [hw]; exact List.mem_cons_self))
    cases hn.symm.trans hn'
    exact ⟨meth, c, h1, h2, h3, h4, h5, h6⟩
  · intro p e s m args below meth c s₁ B hml hP _
    have hh0 : s₁.heap = s.heap := by rw [B.state]; rfl
    have X := Stand.of_body B
    obtain ⟨m', meth', c', hn', h1, h2, h3, h4, ht, -⟩ := Cond.codeWith_spec (atoms_spec (ws := ws) B.pre _ (by rw [hw]; exact List.mem_cons_self))
    cases B.named.symm.trans hn'
    cases B.method.symm.trans h1
    cases X.code.symm.trans h2
    obtain ⟨t, a1, o, b1, b2, b3⟩ := body p e s m args below meth c s₁ B hml ht hP s₁ hh0 X
    exact ⟨t, o, a1, b1, b2, ⟨b3.1, b3.2⟩⟩
end XH
section XHC
variable {p : Program} {l : Launch} {e : Env} {R : Room} {s : State} {m : MethodId} {args : Array Value} {below : List Frame} {meth : Method} {c : Code} {T : State} {locs : List Loc} {cells slots : Nat}
theorem xh_call {y : MethodName} {ws : List Cond} {rm : Room} {Pc : Array Value → State → Prop} {Qc : Array Value → State → Outcome → State → Prop} {mc ms : Nat} {free : Addr → Prop} {maxL : Nat}
    (X : Stand p l e R s m args below meth c T locs cells slots) (hM : xt_Met l y ws rm Pc Qc mc ms free) (hbl : FrameBlind Pc) (hrc : rm.cells = mc) (hrs : rm.slots = ms) (hfr : rm.frames + 1 ≤ R.frames) (hlo : 8 + (maxL + 11) + rm.locals ≤ R.locals)
    {a : Array Value} (hws : ∀ w ∈ ws, w.before a T = true) (hini : (Cond.initialized y.cls).before a T = true) (hcells : cells + mc ≤ R.cells) (hslots : slots + ms ≤ R.slots) (hPc : Pc a T)
    {g : JFrame} (hg : g.method = m) (hsize : g.locals.size = c.maxLocals) {ig : Instr} (hdg : decode c.code g.pc = .ok (ig, 3)) (hW : 2 * g.monitorRoom + (g.stack.map fun v => v.category).sum ≤ 8) {mk : MethodId} (hn : T.methodNamed? y = some mk)
    {methY : Method} {cY : Code} (hmY : T.vm.method? mk = some methY) (hcY : methY.code = some cY) (hlY : cY.maxLocals = maxL) :
    ∃ (o : Outcome) (t T' : State) (L : List Loc), Stand p l e R s m args below meth c T' (locs ++ L) (cells + mc) (slots + ms) ∧ (∀ q ∈ L, free q.base) ∧ T'.heap = t.heap ∧ T'.vm = t.vm ∧ Qc a (T.calling g mk a) o t ∧
      Steps p.tables e below (doInvoke e (T.setTop g) [] mk a).1 t ∧
      ((∃ v, o = .returned v ∧ t = T'.setTop { g with pc := g.pc + 3, stack := v.toList ++ g.stack }) ∨ (∃ x, o = .threw x ∧ t = (T'.setTop g).pushFrame (.throwing x))) := by
  obtain ⟨kY, hkY, -⟩ := className_of_methodNamed hn
  have hinitY : kY.init = .initialized := Cond.initialized_spec (findClass_of_methodNamed hn) hkY hini
  have h : At T g.method c below := by rw [hg]; exact X.here
  have happ : (headSpec ws rm).appliesLoose y e.platform (T.calling g mk a) = true :=
    Spec.appliesLoose_calling (g := g) h hdg hn hkY hinitY
      (X.room_calling (g := g) (R' := (headSpec ws rm).room) hsize hmY hcY hfr (by rw [hlY]; show _ + (maxL + 11) + rm.locals ≤ R.locals; omega) (by show cells + rm.cells ≤ _; omega) (by show slots + rm.slots ≤ _; omega)) (atoms_intro hws)
  obtain ⟨mid, hmid⟩ := h.above
  have hfr2 : (T.setTop g).frames = (.java g :: mid) ++ below := by rw [State.frames_setTop' g h.top, hmid]; rfl
  obtain ⟨o, s₂, hsteps, -, hend, hq, L, ⟨hW2, hsame⟩, hL⟩ := Steps.callFree hM p X.admits X.cas X.clock (acts := []) hfr2 happ (hbl a T g mk hPc) trivial
  rw [State.frames_setTop' g h.top, X.tail] at hend
  cases o with
  | returned v =>
    obtain ⟨T', X', -, -, ht⟩ := X.outOf hg hdg (mk := mk) (a := a) hend hW2 hsame
    exact ⟨_, s₂, T', L, X', hL, by rw [ht]; simp [State.setTop, State.modifyTopJava], by rw [ht]; simp [State.setTop, State.modifyTopJava], hq, hsteps, Or.inl ⟨v, rfl, ht⟩⟩
  | threw x =>
    obtain ⟨T', X', -, -, ht⟩ := X.outOfThrown hg (mk := mk) (a := a) hend hW2 hsame
    exact ⟨_, s₂, T', L, X', hL, by rw [ht, throwing_heap], by rw [ht, throwing_vm], hq, hsteps, Or.inr ⟨x, rfl, ht⟩⟩
end XHC
section XHS
variable {p : Program} {l : Launch} {e : Env} {R : Room} {s : State} {m : MethodId} {args : Array Value} {below : List Frame} {meth : Method} {c : Code} {H : Heap} {locs : List Loc} {cells slots : Nat} {Q : State → Prop}
/-- a call (invokestatic) of a method with handlers that only returns -/
theorem xh_callS {y : MethodName} {bytes cc : ByteArray} {maxL nL mc ms n index : Nat} {ret : Option FieldType} {hs : List (Nat × Nat × Nat × Nat)} {ws : List Cond} {rm : Room} {Pc : Array Value → State → Prop} {Qc : Array Value → State → Outcome → State → Prop} {free : Addr → Prop} {Ts : List Cond} {own : String} {As rest st0 : List Value} {pc : Nat} {ls : Array Slot}
    (S : CallFix p m c cc nL s args Ts own) (hM : xt_Met l y ws rm Pc Qc mc ms free) (hG : GoodIn Ts ws) (hcw : Cond.codeWith y bytes maxL ret hs ∈ ws) (hrc : rm.cells = mc) (hrs : rm.slots = ms) (hfr : rm.frames + 1 ≤ R.frames) (hlo : 8 + (maxL + 11) + rm.locals ≤ R.locals)
    (hl : (Cond.methodLink own index y).before args s = true) (hst : (Cond.static y).before args s = true) (hini : (Cond.initialized y.cls).before args s = true) (hy : y.cls ≠ "java/lang/invoke/MethodHandle" ∧ y.cls ≠ "java/lang/invoke/VarHandle") (hlen : (parseMethodDescriptor y.desc).map (fun d => d.parameters.length) = some n) (hp : PreS s H Pc As)
    (hn : As.length = n) (hsize : ls.size = nL) (hstack : st0 = As.reverse ++ rest) (hW : 2 * (F0 m pc ls rest).monitorRoom + (rest.map fun v => v.category).sum ≤ 8) (hdg : decode cc pc = .ok (.invokestatic index, 3)) (hf : cells + mc ≤ R.cells ∧ slots + ms ≤ R.slots)
    (hret : ∀ a st o t, Qc a st o t → ∃ v, o = .returned v)
    (kr : ∀ (v : Option Value) (st₀ t : State) (H1 : Heap) (L : List Loc), st₀.heap = H → t.heap = H1 → s.vm.Alike t.vm → Qc As.toArray st₀ (.returned v) t → (∀ q ∈ L, free q.base) → W p l e R s m args below meth c H1 (locs ++ L) (cells + mc) (slots + ms) Q (F0 m (pc + 3) ls (v.toList ++ rest))) :
    W p l e R s m args below meth c H locs cells slots Q (F0 m pc ls st0) := by
  intro T hT X
  obtain ⟨hx, hb, hml, ho, hts⟩ := S
  obtain ⟨hbl, hPc⟩ := hp
  obtain ⟨mk, methM, cM, hnamed, hmethM, hcM, -, hlM, -, -, -, hsigM⟩ := Cond.codeWith_spec (hts _ (hG _ hcw).1)
  have hstatic : methM.isStatic = true := Cond.static_spec hnamed hmethM hst
  obtain ⟨kP, hkP, -⟩ := className_of_methodNamed hnamed
  have hinitP : kP.init = .initialized := Cond.initialized_spec (findClass_of_methodNamed hnamed) hkP hini
  have hln : As.length = methM.sig.parameters.length := by
    rw [hsigM] at hlen
    exact hn.trans (Option.some.inj hlen).symm
  obtain ⟨vm₁, X₁, hstep₁⟩ := X.invokestatic hx ho hl hnamed hmethM hstatic hkP hinitP hy (g := F0 m pc ls st0) rfl (argsL := As) (rest := rest) hln hstack (by rw [hb]; exact hdg)
  obtain ⟨mk2, meth2, c2, hnamed2, hmeth2, hc2, -, hl2, -⟩ := Cond.codeWith_spec (pay_in hts hG _ hcw As.toArray (T.setVm vm₁) X₁.warmed)
  cases (X₁.named hnamed).symm.trans hnamed2
  obtain ⟨o, t, T', L, X', hL, e1, e2, hq, hst', hor⟩ := xh_call X₁ hM hbl hrc hrs hfr hlo (a := As.toArray) (fun w hw => pay_in hts hG w hw _ _ X₁.warmed)
    (word_at X₁.warmed (Or.inl (by first | rfl | simp [Cond.onTables, Cond.keeps, Cond.steady])) hini) hf.1 hf.2 (hPc _ hT X₁.warmed) (g := F0 m pc ls rest) rfl (hsize.trans hml.symm) (ig := .invokestatic index) (by rw [hb]; exact hdg) hW (X₁.named hnamed) hmeth2 hc2 hl2
  have hal : s.vm.Alike t.vm := by rw [← e2]; exact X'.warmed.alike
  rcases hor with ⟨v, rfl, ht⟩ | ⟨x, rfl, ht⟩
  · obtain ⟨u, a1, b1⟩ := kr v ((T.setVm vm₁).calling (F0 m pc ls rest) mk As.toArray) t T'.heap L hT e1.symm hal hq hL T' rfl X'
    refine ⟨u, hstep₁ _ fun acts => ?_, b1⟩
    rw [doInvoke_state]
    exact hst'.trans (by rw [ht]; exact a1)
  · obtain ⟨v, hv⟩ := hret _ _ _ _ hq
    cases hv
end XHS
theorem xh_self (vm : Vm) (c : ClassId) : vm.assignable c c = true := by
  show vm.assignableAux (255 + 1) c c = true
  rw [Vm.assignableAux]
  simp only [beq_self_eq_true, Bool.true_or]
/-- the first entry of a table catches what was thrown: its class is the entry's -/
theorem xh_link {e : Env} {l : Launch} {s : State} {m : MethodId} {args : Array Value} {pc : Nat} {ls : Array Slot} {st : List Value} {cell : Cell} {x : ExceptionTableEntry} {own E : String} (ha : l.admits e) (hown : s.vm.findClass own = some m.cls) (hcl : (Cond.classLink own x.catchType E).before args s = true) (hc : covers x pc = true) (h0 : x.catchType ≠ 0) (hE : s.vm.findClass E = some cell.cls) : xt_link e s (F0 m pc ls st) cell true x := by
  obtain ⟨c, h1, h2⟩ := Cond.classLink_spec hown hcl e.platform (by rw [ha.platform])
  have e1 : c = cell.cls := Option.some.inj (h1.symm.trans hE)
  subst e1
  exact ⟨hc, h0, cell.cls, h2, xh_self _ _⟩
theorem xc_92 : ∀ w ∈ xt_ws "CoverRows" 92 96 "java/lang/UnsupportedOperationException" ["java/lang/RuntimeException", "java/lang/Exception"], (w ∈ lwg ∧ goodWord w = true) ∨ (w ∈ lws ∧ xt_isS w = true) := by decide +kernel
theorem xc_107 : ∀ w ∈ xt_ws "CoverRows" 107 111 "java/lang/IndexOutOfBoundsException" ["java/lang/RuntimeException", "java/lang/Exception"], (w ∈ lwg ∧ goodWord w = true) ∨ (w ∈ lws ∧ xt_isS w = true) := by decide +kernel
theorem xc_112 : ∀ w ∈ xt_ws "CoverRows" 112 116 "java/lang/IllegalArgumentException" ["java/lang/RuntimeException", "java/lang/Exception"], (w ∈ lwg ∧ goodWord w = true) ∨ (w ∈ lws ∧ xt_isS w = true) := by decide +kernel
theorem xc_215 : ∀ w ∈ xt_ws "CoverRows" 215 219 "java/lang/IllegalStateException" ["java/lang/RuntimeException", "java/lang/Exception"], (w ∈ lwg ∧ goodWord w = true) ∨ (w ∈ lws ∧ xt_isS w = true) := by decide +kernel
