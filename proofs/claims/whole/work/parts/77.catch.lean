/-! CAUGHT. A row of a method's table that names a class: the class is linked, then the thrown cell's class is asked. (The same facts stand in the library's shelf 42, which a round has not.) -/
section Hd
variable {p : Program} {l : Launch} {e : Env} {R : Room} {s : State} {m : MethodId} {args : Array Value} {below : List Frame} {meth : Method} {c : Code} {H : Heap} {locs : List Loc} {cells slots : Nat} {Q : State → Prop} {pc : Nat} {ls : Array Slot} {rest : List Value}
theorem h_row {S s0 : State} {f : JFrame} {a : Addr} {x : ExceptionTableEntry} (t : List ExceptionTableEntry) {k : ClassId} {cell : Cell} (hW : s0.WarmedH S.vm) (hl : s0.vm.ClassLinks e.platform f.method.cls x.catchType k) (hx : covers x f.pc = true) (h0 : x.catchType ≠ 0) (hcell : S.heap[a]? = some cell) (hv : cell.vm = .none) (hk : ∃ k0, s0.vm.classes[cell.cls]? = some k0) :
    ∃ vm', s0.WarmedH vm' ∧ ∀ (Q : Handler → Pre) (E : CtlPost) (d : Bool) (acts : List Action), wp (findHandler.go f a (x :: t)) Q E e d acts S ↔ (if s0.vm.assignable cell.cls k = true then Q (.found x.handlerPc) d acts (S.setVm vm') else wp (findHandler.go f a t) Q E e d acts (S.setVm vm')) := by
  obtain ⟨kd, _, _, kt, hd, _, _, _, _, hkt, _, hopen⟩ := hl.here
  obtain ⟨k0, hk0⟩ := hk
  obtain ⟨k0', hk0', -⟩ := hW.alike.2.2 _ _ hk0
  obtain ⟨kt', hkt', -⟩ := hW.alike.2.2 _ _ hkt
  have hl' := hW.classLinks hl
  have hal : S.vm.Alike (S.vm.noted f.method.cls x.catchType (.cls k)) := (Vm.Alike.refl S.vm).noted _ _ _
  obtain ⟨k1, hk1, -⟩ := hal.2.2 _ _ hk0'
  obtain ⟨k2, hk2, -⟩ := hal.2.2 _ _ hkt'
  have hobj : ∀ z, cell.vm ≠ .statics z := fun z h9 => by rw [hv] at h9; cases h9
  obtain ⟨ha, ht⟩ := (resolveClass_links e.toSetting hl').op (op := VmOp.resolveClass f.method.cls x.catchType) rfl
  have hasg : (S.vm.noted f.method.cls x.catchType (.cls k)).assignable cell.cls k = s0.vm.assignable cell.cls k := by rw [hal.assignable, hW.alike.assignable]
  refine ⟨_, hW.noted hd hopen (State.rightAt_cls hl), fun Q E d acts => ?_⟩
  simp only [covers] at hx
  cases hq : s0.vm.assignable cell.cls k <;> rw [hq] at hasg <;> simp [findHandler.go, hx, h0, ha, ht, hcell, hobj, hk1, hk2, hasg, VmOp.dirties, VmOp.acts]
/-- the search ends at a handler, with the tables vm': so the machine stands there, the thrown cell alone on the stack -/
theorem h_steps {T : State} (X : Stand p l e R s m args below meth c T locs cells slots) {g : JFrame} (hg : g.method = m) {q : Addr} {to : Nat} {vm' : Vm} (hto : ∀ (Q : Handler → Pre) (E : CtlPost) (d : Bool) (acts : List Action), wp (findHandler.go g q c.exceptionTable.toList) Q E e d acts ((T.setTop g).pushFrame (.throwing q)) ↔ Q (.found to) d acts (((T.setTop g).pushFrame (.throwing q)).setVm vm')) {t : State} (hr : Steps p.tables e below ((T.setVm vm').setTop { g with pc := to, stack := [.ref q] }) t) : Steps p.tables e below ((T.setTop g).pushFrame (.throwing q)) t := by
  have h : At T g.method c below := by rw [hg]; exact X.here
  obtain ⟨hgo, hw⟩ := h.throwing q
  obtain ⟨g0, hfr⟩ := X.frames_eq
  have hm : ((T.setTop g).pushFrame (.throwing q)).vm.method? g.method = some meth := by rw [hg]; exact X.method'
  have hstep : (stepThrowing e ((T.setTop g).pushFrame (.throwing q)) q (.java g :: T.frames.tail)).Is ((((T.setTop g).pushFrame (.throwing q)).setVm vm').setFrames (.java { g with pc := to, stack := [.ref q] } :: T.frames.tail)) [] := by
    simp only [stepThrowing, searchFrame, vmDo]
    generalize hres : Sem.go _ e false [] ((T.setTop g).pushFrame (.throwing q)) = res
    obtain ⟨as, rfl, ha⟩ := Sem.eq_ok_of hres (a := Handler.found to) (s' := ((T.setTop g).pushFrame (.throwing q)).setVm vm') (acts' := []) (by simp [Jvm.W.findHandler_eq hm X.code, hto])
    exact ⟨rfl, ha⟩
  refine Steps.head hgo hw ?_
  rw [stepThread_throwing (frames_entered h.top _), hstep.1]
  have e1 : ∀ (u : State) (F F' : List Frame), ((u.setFrames F).setVm vm').setFrames F' = (u.setVm vm').setFrames F' := fun u F F' => by
    rw [show (u.setFrames F).setVm vm' = (u.setVm vm').setFrames F from rfl, State.setFrames_setFrames]
  have hfr' : (T.setVm vm').frames = .java g0 :: below := hfr
  rw [State.setTop_of_frames _ hfr'] at hr
  rw [hfr, List.tail_cons, State.pushFrame, e1, State.setTop_of_frames _ hfr, e1]
  exact hr
/-- the first row takes it -/
theorem h_catch1 {own name E : String} {ce : Cell} {q : Addr} (hown : s.vm.findClass own = some m.cls) (x : ExceptionTableEntry) (suf : List ExceptionTableEntry) (hsplit : c.exceptionTable.toList = x :: suf) (hx : covers x pc = true) (h0 : x.catchType ≠ 0) (hlink : (Cond.classLink own x.catchType name).before args s = true) (hcast : (Cond.castable E name).before args s = true) (hcell : H[q]? = some ce) (hv : ce.vm = .none) (hcl : s.vm.findClass E = some ce.cls)
    (kk : W p l e R s m args below meth c H locs cells slots Q (F0 m x.handlerPc ls [.ref q])) : vx_W p l e R s m args below meth c H locs cells slots Q (F0 m pc ls rest) q := by
  intro T hT X
  have hpl : e.platform.magicAccessors = ({} : Platform).magicAccessors := by rw [X.admits.platform]
  obtain ⟨c3, c4, hc3, hc4, hasg⟩ := Cond.castable_spec hcast
  cases Option.some.inj (hc3.symm.trans hcl)
  obtain ⟨c5, hc5, hl5⟩ := Cond.classLink_spec hown hlink e.platform hpl
  cases Option.some.inj (hc4.symm.trans hc5)
  obtain ⟨k9, h9, -⟩ := Vm.findClass_spec hcl
  obtain ⟨vm', hW', hq⟩ := h_row (e := e) (S := (T.setTop (F0 m pc ls rest)).pushFrame (.throwing q)) (s0 := s) (f := F0 m pc ls rest) (a := q) (x := x) suf X.warmed hl5 hx h0 (cell := ce) (by show T.heap[q]? = _; rw [hT]; exact hcell) hv ⟨k9, h9⟩
  obtain ⟨t, a1, b1⟩ := kk (T.setVm vm') hT (X.noted hW')
  exact ⟨t, h_steps X rfl (to := x.handlerPc) (vm' := vm') (fun Q E d acts => by rw [hsplit, hq, if_pos hasg]) a1, b1⟩
/-- the first row lets it pass, the second takes it -/
theorem h_catch2 {own name nm E : String} {ce : Cell} {q : Addr} (hown : s.vm.findClass own = some m.cls) (z x : ExceptionTableEntry) (suf : List ExceptionTableEntry) (hsplit : c.exceptionTable.toList = z :: x :: suf) (hz : covers z pc = true) (hz0 : z.catchType ≠ 0) (hzl : (Cond.classLink own z.catchType nm).before args s = true) (hno : va_Nc E nm s) (hx : covers x pc = true) (h0 : x.catchType ≠ 0) (hlink : (Cond.classLink own x.catchType name).before args s = true) (hcast : (Cond.castable E name).before args s = true) (hcell : H[q]? = some ce) (hv : ce.vm = .none) (hcl : s.vm.findClass E = some ce.cls)
    (kk : W p l e R s m args below meth c H locs cells slots Q (F0 m x.handlerPc ls [.ref q])) : vx_W p l e R s m args below meth c H locs cells slots Q (F0 m pc ls rest) q := by
  intro T hT X
  have hpl : e.platform.magicAccessors = ({} : Platform).magicAccessors := by rw [X.admits.platform]
  obtain ⟨c3, c4, hc3, hc4, hasg⟩ := Cond.castable_spec hcast
  cases Option.some.inj (hc3.symm.trans hcl)
  obtain ⟨c5, hc5, hl5⟩ := Cond.classLink_spec hown hlink e.platform hpl
  cases Option.some.inj (hc4.symm.trans hc5)
  obtain ⟨c6, hc6, hl6⟩ := Cond.classLink_spec hown hzl e.platform hpl
  obtain ⟨a8, b8, g1, g2, g3⟩ := hno
  cases Option.some.inj (g1.symm.trans hcl)
  cases Option.some.inj (g2.symm.trans hc6)
  obtain ⟨k9, h9, -⟩ := Vm.findClass_spec hcl
  have hce : ((T.setTop (F0 m pc ls rest)).pushFrame (.throwing q)).heap[q]? = some ce := by show T.heap[q]? = _; rw [hT]; exact hcell
  obtain ⟨vm1, hW1, hq1⟩ := h_row (e := e) (S := (T.setTop (F0 m pc ls rest)).pushFrame (.throwing q)) (s0 := s) (f := F0 m pc ls rest) (a := q) (x := z) (x :: suf) X.warmed hl6 hz hz0 (cell := ce) hce hv ⟨k9, h9⟩
  obtain ⟨vm2, hW2, hq2⟩ := h_row (e := e) (S := ((T.setTop (F0 m pc ls rest)).pushFrame (.throwing q)).setVm vm1) (s0 := s) (f := F0 m pc ls rest) (a := q) (x := x) suf hW1 hl5 hx h0 (cell := ce) hce hv ⟨k9, h9⟩
  obtain ⟨t, a1, b1⟩ := kk (T.setVm vm2) hT (X.noted hW2)
  have hng : ¬ s.vm.assignable ce.cls c6 = true := by rw [g3]; decide
  exact ⟨t, h_steps X rfl (to := x.handlerPc) (vm' := vm2) (fun Q E d acts => by rw [hsplit, hq1, if_neg hng, hq2, if_pos hasg]; rfl) a1, b1⟩
end Hd
/-- words that neither the arguments nor a link decide: they hold in every alike state -/
theorem fw_mv {w : Cond} (hf : w.faceAtom = true) (ho : w.onTables = true) {a a' : Array Value} {s U : State} (h : s.vm.Alike U.vm) (hw : w.before a s = true) : w.before a' U = true := by
  have h1 := Cond.faceAtom_setVm h w hf hw
  rw [Cond.onTables_vm (A' := a') (U' := U) U.vm w ho, State.setVm_self] at h1
  exact h1
