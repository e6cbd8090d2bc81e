/-! A THROW THAT THIS METHOD'S TABLE CATCHES, behind rows that name other classes -/
def cx_pass (pl : Platform) (s0 : State) (d : ClassId) (pc : Nat) (tc : ClassId) (y : ExceptionTableEntry) : Prop :=
  covers y pc = false ∨ (y.catchType ≠ 0 ∧ ∃ k, s0.vm.ClassLinks pl d y.catchType k ∧ s0.vm.assignable tc k = false)
def cx_take (pl : Platform) (s0 : State) (d : ClassId) (tc : ClassId) (y : ExceptionTableEntry) : Prop :=
  y.catchType = 0 ∨ (y.catchType ≠ 0 ∧ ∃ k, s0.vm.ClassLinks pl d y.catchType k ∧ s0.vm.assignable tc k = true)
section CX
variable {Q : Handler → Pre} {E : CtlPost} {e : Env} {d : Bool} {acts : List Action} {s : State} {f : JFrame} {a : Addr}
/-- one row whose class is linked: it takes the thing, or the next row is asked -/
theorem cx_row {x : ExceptionTableEntry} {t : List ExceptionTableEntry} {k : ClassId} {cell : Cell} (hx : covers x f.pc = true) (h0 : x.catchType ≠ 0) (hl : s.vm.ClassLinks e.platform f.method.cls x.catchType k) (hcell : s.heap[a]? = some cell) (hobj : ∀ z, cell.vm ≠ .statics z)
    (hk : ∃ z, s.vm.classes[cell.cls]? = some z) (hc : ∃ z, s.vm.classes[k]? = some z) :
    (s.vm.assignable cell.cls k = true → (wp (findHandler.go f a (x :: t)) Q E e d acts s ↔ Q (.found x.handlerPc) d acts (s.setVm (s.vm.noted f.method.cls x.catchType (.cls k))))) ∧
    (s.vm.assignable cell.cls k = false → (wp (findHandler.go f a (x :: t)) Q E e d acts s ↔ wp (findHandler.go f a t) Q E e d acts (s.setVm (s.vm.noted f.method.cls x.catchType (.cls k))))) := by
  simp only [covers] at hx
  obtain ⟨ha, ht⟩ := (resolveClass_links e.toSetting hl).op (op := VmOp.resolveClass f.method.cls x.catchType) rfl
  have hal : s.vm.Alike (s.vm.noted f.method.cls x.catchType (.cls k)) := (Vm.Alike.refl s.vm).noted _ _ _
  obtain ⟨z1, hz1⟩ := hk
  obtain ⟨z2, hz2⟩ := hc
  obtain ⟨y1, hy1, -⟩ := hal.2.2 _ _ hz1
  obtain ⟨y2, hy2, -⟩ := hal.2.2 _ _ hz2
  refine ⟨fun hf => ?_, fun hf => ?_⟩
  · have hf' : (s.vm.noted f.method.cls x.catchType (.cls k)).assignable cell.cls k = true := by rw [hal.assignable]; exact hf
    simp [findHandler.go, hx, h0, ha, ht, hcell, hobj, hy1, hy2, hf', VmOp.dirties, VmOp.acts]
  · have hf' : (s.vm.noted f.method.cls x.catchType (.cls k)).assignable cell.cls k = false := by rw [hal.assignable]; exact hf
    simp [findHandler.go, hx, h0, ha, ht, hcell, hobj, hy1, hy2, hf', VmOp.dirties, VmOp.acts]
end CX
theorem cx_go {e : Env} {s0 : State} {f : JFrame} {a : Addr} {cell : Cell} (hobj : ∀ z, cell.vm ≠ .statics z) (hk0 : ∃ z, s0.vm.classes[cell.cls]? = some z) (x : ExceptionTableEntry) (suf : List ExceptionTableEntry) (hx : covers x f.pc = true) (hend : cx_take e.platform s0 f.method.cls cell.cls x) :
    ∀ (pre : List ExceptionTableEntry) (S : State), s0.WarmedH S.vm → S.heap[a]? = some cell → (∀ y ∈ pre, cx_pass e.platform s0 f.method.cls f.pc cell.cls y) →
      ∃ vm', s0.WarmedH vm' ∧ ∀ (Q : Handler → Pre) (E : CtlPost) (d : Bool) (acts : List Action), wp (findHandler.go f a (pre ++ x :: suf)) Q E e d acts S ↔ Q (.found x.handlerPc) d acts (S.setVm vm') := by
  obtain ⟨z0, hz0⟩ := hk0
  intro pre
  induction pre with
  | nil =>
    intro S hW hcell _
    obtain ⟨z1, hz1, -⟩ := hW.alike.2.2 _ _ hz0
    rcases hend with h0 | ⟨h0, k, hl, hfit⟩
    · refine ⟨S.vm, hW, fun Q E d acts => ?_⟩
      rw [List.nil_append, Jvm.W.findHandler_go_any hx h0, State.setVm_self]
    · obtain ⟨dk, _, _, kt, hd, _, _, _, _, hkt, _, hopen⟩ := hl.here
      obtain ⟨kt', hkt', -⟩ := hW.alike.2.2 _ _ hkt
      refine ⟨_, hW.noted hd hopen (State.rightAt_cls hl), fun Q E d acts => ?_⟩
      rw [List.nil_append]
      exact (cx_row hx h0 (hW.classLinks hl) hcell hobj ⟨z1, hz1⟩ ⟨kt', hkt'⟩).1 (by rw [hW.alike.assignable]; exact hfit)
  | cons y ys ih =>
    intro S hW hcell hpass
    obtain ⟨z1, hz1, -⟩ := hW.alike.2.2 _ _ hz0
    have hrest : ∀ z ∈ ys, cx_pass e.platform s0 f.method.cls f.pc cell.cls z := fun z hz => hpass z (List.mem_cons_of_mem _ hz)
    cases hcov : covers y f.pc with
    | false =>
      obtain ⟨vm', hW', hq⟩ := ih S hW hcell hrest
      refine ⟨vm', hW', fun Q E d acts => ?_⟩
      rw [List.cons_append, Jvm.W.findHandler_go_skip hcov]
      exact hq Q E d acts
    | true =>
      rcases hpass y List.mem_cons_self with h | ⟨h0, k, hl, hno⟩
      · rw [h] at hcov; cases hcov
      · obtain ⟨dk, _, _, kt, hd, _, _, _, _, hkt, _, hopen⟩ := hl.here
        obtain ⟨kt', hkt', -⟩ := hW.alike.2.2 _ _ hkt
        obtain ⟨vm', hW', hq⟩ := ih (S.setVm (S.vm.noted f.method.cls y.catchType (.cls k))) (hW.noted hd hopen (State.rightAt_cls hl)) hcell hrest
        refine ⟨vm', hW', fun Q E d acts => ?_⟩
        rw [List.cons_append, (cx_row hcov h0 (hW.classLinks hl) hcell hobj ⟨z1, hz1⟩ ⟨kt', hkt'⟩).2 (by rw [hW.alike.assignable]; exact hno)]
        exact hq Q E d acts
theorem cx_step {tb : Tables} {e : Env} {s target : State} {g : JFrame} {c : Code} {below : List Frame} {a : Addr} (h : At s g.method c below) {pc : Nat} {vm' : Vm}
    (hfind : ∀ (Q : Handler → Pre) (E : CtlPost) (d : Bool) (acts : List Action), wp (findHandler g a) Q E e d acts ((s.setTop g).pushFrame (.throwing a)) ↔ Q (.found pc) d acts (((s.setTop g).pushFrame (.throwing a)).setVm vm'))
    (hrest : Steps tb e below ((s.setVm vm').setTop { g with pc := pc, stack := [.ref a] }) target) : Steps tb e below ((s.setTop g).pushFrame (.throwing a)) target := by
  obtain ⟨hgo, hw⟩ := h.throwing a
  refine Steps.head hgo hw ?_
  have hstep : ∀ (S : State) (r : List Frame), (∀ (Q : Handler → Pre) (E : CtlPost) (d : Bool) (acts : List Action), wp (findHandler g a) Q E e d acts S ↔ Q (.found pc) d acts (S.setVm vm')) →
      (stepThrowing e S a (.java g :: r)).Is ((S.setVm vm').setFrames (.java { g with pc := pc, stack := [.ref a] } :: r)) [] := by
    intro S r hf
    simp only [stepThrowing, searchFrame, vmDo]
    generalize hr : Sem.go _ e false [] S = res
    obtain ⟨as, rfl, ha⟩ := Sem.eq_ok_of hr (a := Handler.found pc) (s' := S.setVm vm') (acts' := []) (by simp [hf _ _ _ _])
    exact ⟨rfl, ha⟩
  have hset : ∀ (u : State) (F F' : List Frame), ((u.setFrames F).setVm vm').setFrames F' = (u.setVm vm').setFrames F' := by
    intro u F F'
    have h1 : (u.setFrames F).setVm vm' = (u.setVm vm').setFrames F := rfl
    rw [h1, State.setFrames_setFrames]
  rw [stepThread_throwing (frames_entered h.top _), (hstep ((s.setTop g).pushFrame (.throwing a)) _ hfind).1]
  obtain ⟨g₀, hg⟩ := Option.isSome_iff_exists.mp h.top
  obtain ⟨r, hr⟩ := State.topJava?_eq_some.mp hg
  have hr' : (s.setVm vm').frames = .java g₀ :: r := hr
  rw [State.setTop_of_frames _ hr'] at hrest
  rw [hr, List.tail_cons, State.pushFrame, hset, State.setTop_of_frames _ hr, hset]
  exact hrest
theorem cx_caught {p : Program} {l : Launch} {e : Env} {R : Room} {s : State} {m : MethodId} {args : Array Value} {below : List Frame} {meth : Method} {c : Code} {T : State} {locs : List Loc} {cells slots : Nat} (X : Stand p l e R s m args below meth c T locs cells slots) (a : Addr) {g : JFrame} (hg : g.method = m)
    {s₀ : State} (hcome : Steps p.tables e below s₀ ((T.setTop g).pushFrame (.throwing a))) {cell : Cell} (hcell : T.heap[a]? = some cell) (hobj : cell.vm.isStatics = false) (hk0 : ∃ k, s.vm.classes[cell.cls]? = some k)
    (pre : List ExceptionTableEntry) (x : ExceptionTableEntry) (suf : List ExceptionTableEntry) (hsplit : c.exceptionTable.toList = pre ++ x :: suf) (hpass : ∀ y ∈ pre, cx_pass e.platform s m.cls g.pc cell.cls y) (hx : covers x g.pc = true) (hend : cx_take e.platform s m.cls cell.cls x) :
    ∃ vm', Stand p l e R s m args below meth c (T.setVm vm') locs cells slots ∧ Steps p.tables e below s₀ ((T.setVm vm').setTop { g with pc := x.handlerPc, stack := [.ref a] }) := by
  subst hg
  obtain ⟨vm', hW', hq⟩ := cx_go (e := e) (s0 := s) (f := g) (a := a) (cell := cell) (VmData.ne_statics_of hobj) hk0 x suf hx hend pre ((T.setTop g).pushFrame (.throwing a)) X.warmed hcell hpass
  refine ⟨vm', X.noted hW', hcome.trans (cx_step X.here (fun Q E d acts => ?_) (Steps.refl _))⟩
  rw [Jvm.W.findHandler_eq (s := (T.setTop g).pushFrame (.throwing a)) (meth := meth) (code := c) X.method' X.code, hsplit]
  exact hq Q E d acts
