/-! NEW OBJECTS: a constructor takes one fresh cell and gives back that cell and those that it made -/
abbrev TY3 (G : GG) : List (ClassId × FieldType) := [(G.2.2 0, .int), (G.2.2 1, .boolean), (G.2.2 2, .byte)]
def NWM (U : State) : Prop := ∀ q ∈ nwM, va_Nw (.methodLinkNest q.1 q.2.1 q.2.2.1 q.2.2.2) U
def NA (h0 sz : Nat) : Nat → Prop := fun q => q = h0 ∨ sz ≤ q
def NP (G : GG) (h0 : Nat) (e0 : va_E) (sz : Nat) (U : State) : Prop := U.heap.size = sz ∧ va_P G.1 vwCl [(h0, e0)] U.heap ∧ va_K G.1 vwCl (TY3 G) U ∧ NWM U
def KC (l : Launch) (y : MethodName) (ws : List Cond) (rm : Room) (h0 : Nat) (e0 : va_E) (G : GG) (sz : Nat) (C : (Nat → Nat) → va_W) (mc ms : Nat) : Prop :=
  Met l y ws rm (va_Pc [.ref h0] (NP G h0 e0 sz)) (va_Qv (fun _ : Nat → Nat => True) (fun b t => va_P G.1 vwCl (C b) t.heap ∧ va_D (NA h0 sz) (C b)) (NA h0 sz)) mc ms (NA h0 sz)
theorem NP.blind (av : List Value) (G : GG) (h0 : Nat) (e0 : va_E) (sz : Nat) : FrameBlind (va_Pc av (NP G h0 e0 sz)) := by
  intro a U g mk h
  obtain ⟨q0, q1, q2, q3, q4⟩ := h
  exact ⟨q0, q1, q2, va_K.moved (u := U) (U := U.calling g mk a) (Vm.Alike.refl U.vm) q3, fun q hq => va_Nw.warmM (s := U) (U := U.calling g mk a) (State.WarmedH.refl U) (q4 q hq)⟩
def HF (n : Nat) : Nat → Int32 := fun j => if j < n then 5000 else 0
theorem HF_up (n : Nat) : upd (HF n) n 5000 = HF (n + 1) := by
  funext j
  unfold upd HF
  by_cases h : j = n
  · rw [if_pos h, if_pos (by omega)]
  · rw [if_neg h]
    by_cases h2 : j < n
    · rw [if_pos h2, if_pos (by omega)]
    · rw [if_neg h2, if_neg (by omega)]
theorem HF_0 : HF 0 = fun _ => 0 := by
  funext j
  simp [HF]
theorem n_join {G : GG} {A : Nat → Prop} {w w1 : va_W} {q sz : Nat} {e0 : va_E} {H H1 : Heap} (hP : va_P G.1 vwCl (w ++ [(q, e0)]) H) (hD : va_D A (w ++ [(q, e0)])) (hsz : H.size = sz) (hA : ∀ z, sz ≤ z → A z) (hk : ∀ z : Nat, z < H.size → ¬ NA q sz z → H1[z]? = H[z]?) (hP1 : va_P G.1 vwCl w1 H1) (hD1 : va_D (NA q sz) w1) : va_P G.1 vwCl (w ++ w1) H1 ∧ va_D A (w ++ w1) := by
  subst hsz
  have hat : ∀ (k : Nat) (z : Nat × va_E), w[k]? = some z → (w ++ [(q, e0)])[k]? = some z := fun k z hz => by
    rw [List.getElem?_append_left (List.getElem?_eq_some_iff.mp hz).1]; exact hz
  have hne : ∀ (k : Nat) (z : Nat × va_E), w[k]? = some z → z.1 < H.size ∧ z.1 ≠ q := by
    intro k z hz
    refine ⟨(hP k z (hat k z hz)).lt, fun e => ?_⟩
    have hlast : (w ++ [(q, e0)])[w.length]? = some (q, e0) := by simp
    have := hD.1 k w.length z (q, e0) (hat k z hz) hlast e
    have := (List.getElem?_eq_some_iff.mp hz).1
    omega
  have hq : A q := hD.2 w.length (q, e0) (by simp)
  have hw : va_P G.1 vwCl w H1 := fun k z hz => (hP k z (hat k z hz)).kept (hk z.1 (hne k z hz).1 (fun hn => hn.elim (hne k z hz).2 (fun h => by have := (hne k z hz).1; omega)))
  have hcross : ∀ (i j : Nat) (x y : Nat × va_E), w[i]? = some x → w1[j]? = some y → x.1 ≠ y.1 := by
    intro i j x y hx hy e
    rcases hD1.2 j y hy with h | h
    · exact (hne i x hx).2 (e.trans h)
    · have := (hne i x hx).1
      omega
  refine ⟨fun k z hz => ?_, fun i j x y hx hy e => ?_, fun k z hz => ?_⟩
  · rcases Nat.lt_or_ge k w.length with h | h
    · rw [List.getElem?_append_left h] at hz; exact hw k z hz
    · rw [List.getElem?_append_right h] at hz; exact hP1 _ z hz
  · rcases Nat.lt_or_ge i w.length with h | h <;> rcases Nat.lt_or_ge j w.length with h' | h'
    · rw [List.getElem?_append_left h] at hx; rw [List.getElem?_append_left h'] at hy
      exact hD.1 i j x y (hat i x hx) (hat j y hy) e
    · rw [List.getElem?_append_left h] at hx; rw [List.getElem?_append_right h'] at hy
      exact absurd e (hcross _ _ x y hx hy)
    · rw [List.getElem?_append_right h] at hx; rw [List.getElem?_append_left h'] at hy
      exact absurd e.symm (hcross _ _ y x hy hx)
    · rw [List.getElem?_append_right h] at hx; rw [List.getElem?_append_right h'] at hy
      have := hD1.1 _ _ x y hx hy e
      omega
  · rcases Nat.lt_or_ge k w.length with h | h
    · rw [List.getElem?_append_left h] at hz; exact hD.2 k z (hat k z hz)
    · rw [List.getElem?_append_right h] at hz
      rcases hD1.2 _ z hz with h9 | h9
      · rw [h9]; exact hq
      · exact hA _ h9
section QN
variable {p : Program} {l : Launch} {e : Env} {R : Room} {s : State} {m : MethodId} {args : Array Value} {below : List Frame} {meth : Method} {c : Code} {H : Heap} {locs : List Loc} {cells slots : Nat} {Q : State → Prop}
variable {cc : ByteArray} {pc : Nat} {ls : Array Slot} {rest st0 : List Value} {G : GG} {A : Nat → Prop} {ws : va_W}
theorem n_newa (hexec : p.tables.exec = Jvm.exec) (hb : c.code = cc) {atype : ArrayType} (harr : (Cond.arrayClass (newarray.typeOf atype)).before args s = true) {ty : FieldType} (hty : newarray.typeOf atype = ty) (t : Nat) {cT : ClassId} (hT : (TY3 G)[t]? = some (cT, ty)) (hpr : ∀ k : ClassId, va_RA s k ty → s.vm.findClass ("[" ++ ty.toString) = some k)
    (hK : va_K G.1 vwCl (TY3 G) s) (hP : va_P G.1 vwCl ws H) (hD : va_D A ws) {H0 : Heap} (hS : va_S A H0 H locs) (hA : ∀ q, H0.size ≤ q → A q) {n : Int32} {N' : Nat} {a0 : vp_A} (ha : ∀ cA : ClassId, vp_cell cA a0 = arrV cA N' (fun _ => defaultValue ty)) (hn : ¬ n < 0) (hN : n.toNatClampNeg = N') (hbytes : N' * componentBytes ty ≤ 536870912) (hcells : cells + 1 ≤ R.cells) (hslots : slots + N' ≤ R.slots) (hdg : decode cc pc = .ok (.newarray atype, 2))
    (kk : ∀ (q : Nat) (H1 : Heap), va_P G.1 vwCl (ws ++ [(q, .inl (cT, a0))]) H1 → va_D A (ws ++ [(q, .inl (cT, a0))]) → va_S A H0 H1 locs → W p l e R s m args below meth c H1 locs (cells + 1) (slots + N') Q (F0 m (pc + 2) ls (.ref q :: rest))) : W p l e R s m args below meth c H locs cells slots Q (F0 m pc ls (.int n :: rest)) := by
  refine va_newa hexec hb harr hty hK hP hD hS hA ha hn hN hbytes hcells hslots hdg (fun q cA H1 hK1 hP1 hD1 hS1 => ?_)
  have e1 := hpr _ (hK1.2 3 (cA, ty) rfl).2
  have e2 := hpr _ (hK.2 t (cT, ty) hT).2
  cases Option.some.inj (e1.symm.trans e2)
  exact kk q H1 hP1 hD1 hS1
theorem n_after {mc ms q : Nat} {e0 : va_E} {C : (Nat → Nat) → va_W} {a : Array Value} (hr : va_Run p l e R s m args below meth c H locs cells slots mc ms (F0 m pc ls st0) rest (va_Qv (fun _ : Nat → Nat => True) (fun b t => va_P G.1 vwCl (C b) t.heap ∧ va_D (NA q H.size) (C b)) (NA q H.size) a) (NA q H.size)) (hP : va_P G.1 vwCl (ws ++ [(q, e0)]) H) (hD : va_D A (ws ++ [(q, e0)])) (hS : va_S A s.heap H locs) (hA : ∀ z, s.heap.size ≤ z → A z)
    (kk : ∀ (b : Nat → Nat) (H1 : Heap) (locs1 : List Loc), va_P G.1 vwCl (ws ++ C b) H1 → va_D A (ws ++ C b) → va_S A s.heap H1 locs1 → W p l e R s m args below meth c H1 locs1 (cells + mc) (slots + ms) Q (F0 m (pc + 3) ls rest)) : W p l e R s m args below meth c H locs cells slots Q (F0 m pc ls st0) := by
  have hq : A q := hD.2 ws.length (q, e0) (by simp)
  have hsub : ∀ z, NA q H.size z → A z := fun z hz => hz.elim (fun h => h ▸ hq) (fun h => hA z (Nat.le_trans hS.1 h))
  refine va_callv hr hS (fun z _ hz => hsub z hz) hsub (fun u t H1 locs1 ht _ _ hB _ hk1 hS1 => ?_)
  obtain ⟨j1, j2⟩ := n_join hP hD rfl (fun z hz => hA z (Nat.le_trans hS.1 hz)) hk1 (by rw [← ht]; exact hB.1) hB.2
  exact kk u H1 locs1 j1 j2 hS1
theorem NP.at {q : Nat} {e0 : va_E} (hK : va_K G.1 vwCl (TY3 G) s) (hN : NWM s) (hP : va_P G.1 vwCl (ws ++ [(q, e0)]) H) {U : State} (hU : U.heap = H) (hW : s.WarmedH U.vm) : NP G q e0 H.size U := by
  subst hU
  refine ⟨rfl, fun k z hz => ?_, va_K.moved hW.alike hK, fun w hw => va_Nw.warmM hW (hN w hw)⟩
  cases k with
  | zero => cases hz; exact hP ws.length (q, e0) (by simp)
  | succ k => simp at hz
end QN
