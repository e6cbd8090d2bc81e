/-! THE LAW'S HELPERS: they call the class and catch what it throws; one cell of six slots may come -/
def CLi (l : Launch) (y : MethodName) (ws : List Cond) (rm : Room) (av : List Value) (G : GG) (σ : St) (sz : Nat) (Q : Int32 → St → Prop) : Prop :=
  Met l y ws rm (va_Pc av (PRE G σ sz)) (va_Qi Q (POST G) (AD G sz)) 1 6 (AD G sz)
abbrev MLi (below : List Frame) (G : GG) (args : Array Value) (s : State) (Q : Int32 → St → Prop) : State → Prop := MQ below (va_Qi Q (POST G) (AD G s.heap.size)) args s 1 6 (AD G s.heap.size)
section QL
variable {p : Program} {l : Launch} {e : Env} {R : Room} {s : State} {m : MethodId} {args : Array Value} {below : List Frame} {meth : Method} {c : Code} {H : Heap} {locs : List Loc} {cells slots : Nat} {Q : State → Prop}
variable {cc : ByteArray} {nL pc : Nat} {Ts : List Cond} {own : String} {G : GG} {A : Nat → Prop} {ls : Array Slot} {rest st0 : List Value} {σ : St} {a : Nat} {X : Nat → St → Prop}
theorem ql_iret (E : EV p s m args c cc nL Ts own G (AD G s.heap.size)) (h : HH G (AD G s.heap.size) s σ H locs) {Qp : Int32 → St → Prop} {v : Int32} (hr : meth.sig.returnType = some .int) (hlocks : meth.locks = false) (hq : Qp v σ) (hdg : decode cc pc = .ok (.ireturn, 1)) :
    W p l e R s m args below meth c H locs 1 6 (MLi below G args s Qp) (F0 m pc ls [.int v]) :=
  W.iret (v := v) E.1.1 E.1.2.1 hr (fun t ht _ => ⟨⟨v, σ, rfl, hq, by rw [POST, ht]; exact h.1⟩, h.2.F ht⟩) h.2.2.2 hdg
theorem ql_iret0 (E : EV p s m args c cc nL Ts own G (AD G s.heap.size)) (h : HH G (AD G s.heap.size) s σ H locs) {Qp : Int32 → St → Prop} {v : Int32} (hr : meth.sig.returnType = some .int) (hlocks : meth.locks = false) (hq : Qp v σ) (hdg : decode cc pc = .ok (.ireturn, 1)) :
    W p l e R s m args below meth c H locs 0 0 (MLi below G args s Qp) (F0 m pc ls [.int v]) :=
  W.widen (k := 1) (n := 6) (by omega) (by omega) (ql_iret E h hr hlocks hq hdg)
/-- what the callee threw lies over this frame -/
theorem q_Lxi (E : EV p s m args c cc nL Ts own G (AD G s.heap.size)) (h : HH G (AD G s.heap.size) s σ H locs) {y : MethodName} {ws : List Cond} {rm : Room} {b : Nat} {As : List Value} {post : Int32 → St → Prop} (hM : CXi l y ws rm (.ref b :: As) G σ H.size post X) {C : String} {index maxL n : Nat} {bytes : ByteArray} {ret : Option FieldType} (cw : CallW R s args own C index y bytes maxL ret ws rm 1 6 n)
    (hrec : ∃ cell : Cell, H[b]? = some cell ∧ cell.vm.isStatics = false ∧ s.vm.findClass C = some cell.cls) (hn : As.length = n) (hsz : ls.size = nL) (hst : st0 = As.reverse ++ .ref b :: rest) (hW : (rest.map fun v => v.category).sum ≤ 8) (hdg : decode cc pc = .ok (.invokevirtual index, 3)) (hcs : 1 ≤ R.cells ∧ 6 ≤ R.slots)
    (kx : ∀ (k : Nat) (σ' : St) (H1 : Heap) (locs1 : List Loc) (ce : Cell) (q9 : Addr), X k σ' → HH G (AD G s.heap.size) s σ' H1 locs1 → H1[q9]? = some ce → ce.vm = .none → s.vm.findClass (EXN k) = some ce.cls → vx_W p l e R s m args below meth c H1 locs1 1 6 Q (F0 m pc ls rest) q9)
    (kk : ∀ (r : Int32) (σ' : St) (H1 : Heap) (locs1 : List Loc), post r σ' → HH G (AD G s.heap.size) s σ' H1 locs1 → W p l e R s m args below meth c H1 locs1 0 0 Q (F0 m (pc + 3) ls (.int r :: rest))) : W p l e R s m args below meth c H locs 0 0 Q (F0 m pc ls st0) := by
  refine vx_calli (mc := 1) (ms := 6) (vx_runV E.1 hM cw ⟨PRE.blind _ _ _ _, hrec, fun U hU hW => ⟨rfl, E.pre h hU hW⟩⟩ rfl hn hsz hst (lv_room hW) hdg (by simpa using hcs)) h.2 (fun q _ hq => E.sub h hq) (fun q hq => E.sub h hq) (fun q _ hq => E.sub h hq) (fun Es ce q9 u t H1 locs1 ht _ hp hB _ _ hS hce hv hcl => ?_) (fun r u t H1 locs1 ht _ hw hB _ _ hS => ?_)
  · exact kx u.1 u.2 H1 locs1 ce q9 hp ⟨by rw [← ht]; exact hB.2, hS⟩ hce hv (by rw [← hB.1]; exact hcl)
  · exact kk r u H1 locs1 hw ⟨by rw [← ht]; exact hB, hS⟩
/-- the first row catches -/
theorem q_catch1 (E : EV p s m args c cc nL Ts own G A) {x : ExceptionTableEntry} {suf : List ExceptionTableEntry} {name Es : String} {ce : Cell} {q9 : Addr} (htab : c.exceptionTable.toList = x :: suf) (hx : covers x pc = true) (h0 : x.catchType ≠ 0) (hl : Cond.classLink own x.catchType name ∈ Ts) (hn : Es = name) (hc : (name, name) ∈ xwC)
    (hce : H[q9]? = some ce) (hv : ce.vm = .none) (hcl : s.vm.findClass Es = some ce.cls) (kk : W p l e R s m args below meth c H locs cells slots Q (F0 m x.handlerPc ls [.ref q9])) : vx_W p l e R s m args below meth c H locs cells slots Q (F0 m pc ls rest) q9 := by
  subst hn
  exact vx_catch E.1.2.2.2.1 [] x suf (by simpa using htab) (fun z hz => nomatch hz) hx h0 (E.1.2.2.2.2 _ hl) (va_Nw.use rfl (E.2.2.2.1.1.2.2.2.1 (Es, Es) hc)) hce hv hcl kk
/-- the first row names another class, the second one catches -/
theorem q_catch2 (E : EV p s m args c cc nL Ts own G A) {y x : ExceptionTableEntry} {suf : List ExceptionTableEntry} {name nm1 Es : String} {ce : Cell} {q9 : Addr} (htab : c.exceptionTable.toList = y :: x :: suf) (hy0 : y.catchType ≠ 0) (hly : Cond.classLink own y.catchType nm1 ∈ Ts) (hnc : (name, nm1) ∈ xwN) (hx : covers x pc = true) (h0 : x.catchType ≠ 0) (hl : Cond.classLink own x.catchType name ∈ Ts) (hn : Es = name) (hc : (name, name) ∈ xwC)
    (hce : H[q9]? = some ce) (hv : ce.vm = .none) (hcl : s.vm.findClass Es = some ce.cls) (kk : W p l e R s m args below meth c H locs cells slots Q (F0 m x.handlerPc ls [.ref q9])) : vx_W p l e R s m args below meth c H locs cells slots Q (F0 m pc ls rest) q9 := by
  subst hn
  refine vx_catch E.1.2.2.2.1 [y] x suf (by simpa using htab) (fun z hz => ?_) hx h0 (E.1.2.2.2.2 _ hl) (va_Nw.use rfl (E.2.2.2.1.1.2.2.2.1 (Es, Es) hc)) hce hv hcl kk
  cases List.mem_singleton.mp hz
  exact Or.inr ⟨hy0, nm1, E.1.2.2.2.2 _ hly, E.2.2.2.1.1.2.2.2.2.2 (Es, nm1) hnc⟩
/-- the law calls one of its helpers -/
theorem q_SL (E : EV p s m args c cc nL Ts own G A) (h : HH G A s σ H locs) {y : MethodName} {ws : List Cond} {rm : Room} {As : List Value} {post : Int32 → St → Prop} (hM : CLi l y ws rm As G σ H.size post) {index maxL n : Nat} {bytes : ByteArray} {ret : Option FieldType} {hd : List (Nat × Nat × Nat × Nat)} (cw : vx_CSW R s args own index y bytes maxL ret hd ws rm 1 6 n)
    (hn : As.length = n) (hsz : ls.size = nL) (hst : st0 = As.reverse ++ rest) (hW : (rest.map fun v => v.category).sum ≤ 8) (hdg : decode cc pc = .ok (.invokestatic index, 3)) (hcs : cells + 1 ≤ R.cells ∧ slots + 6 ≤ R.slots)
    (kk : ∀ (r : Int32) (σ' : St) (H1 : Heap) (locs1 : List Loc), post r σ' → HH G A s σ' H1 locs1 → W p l e R s m args below meth c H1 locs1 (cells + 1) (slots + 6) Q (F0 m (pc + 3) ls (.int r :: rest))) : W p l e R s m args below meth c H locs cells slots Q (F0 m pc ls st0) := by
  refine va_calli (mc := 1) (ms := 6) (vx_runSW E.1 hM cw ⟨PRE.blind _ _ _ _, fun U hU hW => ⟨rfl, E.pre h hU hW⟩⟩ rfl hn hsz hst (lv_room hW) hdg hcs) h.2 (fun q _ hq => E.sub h hq) (fun q hq => E.sub h hq) (fun r u t H1 locs1 ht _ hw hB _ _ hS => ?_)
  exact kk r u H1 locs1 hw ⟨by rw [← ht]; exact hB, hS⟩
end QL
