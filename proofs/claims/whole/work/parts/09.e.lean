def f_X9_points_31 (Q : Int32 → St → Prop)  (σ : St) (l1 : Int32) (l2 : Int32) (t1 : Int32) : Prop :=
  f_X9_bad σ t1 (1 : Int32) (fun r32 s32 => ((r32 = 0 → (vp_in (((16 : Int32) * l2) + l1) 320 ∧ Q (ga s32 38 (((16 : Int32) * l2) + l1).toNatClampNeg) s32)) ∧ (¬ r32 = 0 → Q (0 : Int32) s32)))
set_option maxHeartbeats 4000000 in
set_option maxRecDepth 100000 in
theorem w_X9_points_31 {p : Program} {l : Launch} {e : Env} {s : State} {m : MethodId} {args : Array Value} {below : List Frame} {meth : Method} {c : Code} {G : GG} (E : EV p s m args c cX9_points 3 wsX9_points RX9 G (AD G s.heap.size)) (hr : meth.sig.returnType = (some .int)) (hlocks : meth.locks = false) {Q : Int32 → St → Prop}  : ∀ (σ : St) (l1 : Int32) (l2 : Int32) (t1 : Int32) (H : Heap) (locs : List Loc) (ls : Array Slot), f_X9_points_31 Q  σ l1 l2 t1 → HH G (AD G s.heap.size) s σ H locs → lv_has ls 3 [(0, .ref (G.2.1 28)), (1, .int l1), (2, .int l2)] → W p l e ({ frames := 1, cells := 0, slots := 0, locals := 22 }) s m args below meth c H locs 0 0 (MQi below G args s Q) (F0 m 31 ls [.int t1, .ref (G.2.1 28)]) := by
  have hx := E.1.1
  have hb := E.1.2.1
  have hown := E.1.2.2.2.1
  have hts := E.1.2.2.2.2
  have h_inX9 : ∀ w ∈ wsX90, w ∈ wsX9_points := (fun _ h9 => (List.mem_cons_of_mem _ (List.mem_append_right _ h9)))
  intro σ l1 l2 t1 H locs ls h hh hl
  unfold f_X9_points_31 at h
  refine lv_iconst (v := (1 : Int32)) hx hb dX9_points_31 (by decide) ?_
  refine q_Vi (As := [.int t1, .int (1 : Int32)]) (rest := []) E hh (c_X9_bad l G _ _ _ _ _ h) (cwV 2 hts gX9_points_X9_bad rfl rfl rfl (by decide +kernel) ⟨Nat.le_of_ble_eq_true rfl, Nat.le_of_ble_eq_true rfl⟩) (va_recv (ci := 9) E.2.1 hh.1 rfl (WW_at_28 G σ)) rfl hl.1 rfl (Nat.le_of_ble_eq_true rfl) dX9_points_32 ⟨Nat.zero_le _, Nat.zero_le _⟩ (fun r32 s32 H locs h hh => ?_)
  refine lv_if_eq (tgt := 40) hx hb dX9_points_35 (by decide) (fun c9 => ?_) (fun c9 => ?_)
  · have h := h.1 c9
    refine lv_aload_n hx hb dX9_points_40 rfl (lv_at hl 0 rfl) ?_
    refine q_get (T := TX9) (v := .ref (G.2.1 38)) E hh h_inX9 28 (WW_at_28 G s32) rfl 28 (by decide) (List.mem_cons_of_mem _ (List.mem_append_left _ (List.mem_of_getElem? (i := 2) rfl))) rfl rfl dX9_points_41 ?_
    refine lv_bipush (v := (16 : Int32)) hx hb dX9_points_44 (by decide) ?_
    refine lv_iload_n hx hb dX9_points_46 rfl (lv_at hl 2 rfl) ?_
    refine lv_imul hx hb dX9_points_47 ?_
    refine lv_iload_n hx hb dX9_points_48 rfl (lv_at hl 1 rfl) ?_
    refine lv_iadd hx hb dX9_points_49 ?_
    obtain ⟨h0, h⟩ := h
    refine q_iald E hh 38 (WW_at_38 G s32) h0 dX9_points_50 ?_
    exact q_iret E hh hr hlocks h dX9_points_51
  · have h := h.2 c9
    refine lv_iconst (v := (0 : Int32)) hx hb dX9_points_38 (by decide) ?_
    exact q_iret E hh hr hlocks h dX9_points_39
def f_X9_points (σ : St) (p1 : Int32) (p2 : Int32) (Q : Int32 → St → Prop) : Prop :=
  f_X9_isBoat (si σ 23 (0 : Int32)) p1 (fun r8 s8 => ((r8 = 0 → f_X9_points_31 Q s8 p1 p2 (1 : Int32)) ∧ (¬ r8 = 0 → ((p2 < 0 → f_X9_points_31 Q s8 p1 p2 (1 : Int32)) ∧ (¬ p2 < 0 → ((p2 < (gi s8 42) → f_X9_points_31 Q s8 p1 p2 (0 : Int32)) ∧ (¬ p2 < (gi s8 42) → f_X9_points_31 Q s8 p1 p2 (1 : Int32))))))))
set_option maxHeartbeats 4000000 in
set_option maxRecDepth 100000 in
theorem c_X9_points (l : Launch) (G : GG) (σ : St) (sz : Nat) (p1 : Int32) (p2 : Int32) (Q : Int32 → St → Prop) (h : f_X9_points σ p1 p2 Q) : CTi l yX9_points wsX9_points ({ frames := 1, cells := 0, slots := 0, locals := 22 }) [.ref (G.2.1 28), .int p1, .int p2] G σ sz Q := by
  refine Met.ofW (cc := cX9_points) (maxL := 3) (ret := (some .int)) (by decide) rfl ?_
  intro p e s m args below meth c s₁ B hml hv
  obtain ⟨rfl, hpre⟩ := hv
  have hr := B.returns
  have hlocks := B.notSynchronized
  obtain ⟨hsz, -⟩ := id hpre
  subst hsz
  obtain ⟨E, hh⟩ := EV.ofPre (⟨B.exec, B.bytes, hml, findClass_of_methodNamed B.named, atoms_spec (ws := wsX9_points) B.pre⟩ : CallFix p m c cX9_points 3 s _ wsX9_points RX9) hpre
  have hx := E.1.1
  have hb := E.1.2.1
  have hown := E.1.2.2.2.1
  have hts := E.1.2.2.2.2
  have h_inX9 : ∀ w ∈ wsX90, w ∈ wsX9_points := (fun _ h9 => (List.mem_cons_of_mem _ (List.mem_append_right _ h9)))
  have hl := lv_entry ([.ref (G.2.1 28), .int p1, .int p2]) (n := 3) (Nat.le_of_ble_eq_true rfl)
  rw [lg_entry_eq]
  generalize (lg_sl ([.ref (G.2.1 28), .int p1, .int p2]) ++ List.replicate (3 - (lg_sl ([.ref (G.2.1 28), .int p1, .int p2])).length) Slot.unset).toArray = ls at hl ⊢
  have hl : lv_has ls 3 [(0, .ref (G.2.1 28)), (1, .int p1), (2, .int p2)] := hl
  unfold f_X9_points at h
  refine lv_aload_n hx hb dX9_points_0 rfl (lv_at hl 0 rfl) ?_
  refine lv_iconst (v := (0 : Int32)) hx hb dX9_points_1 (by decide) ?_
  refine q_put (T := TX9) E hh h_inX9 tyX9 tyX9_ok nmX9 28 (WW_at_28 G σ) rfl 0 (by decide) (List.mem_cons_of_mem _ (List.mem_append_left _ (List.mem_of_getElem? (i := 0) rfl))) rfl rfl (by decide +kernel) (Nat.le_of_ble_eq_true rfl) dX9_points_2 (WW_si_23 G σ (0 : Int32)) (fun H locs hh => ?_)
  refine lv_aload_n hx hb dX9_points_5 rfl (lv_at hl 0 rfl) ?_
  refine lv_aload_n hx hb dX9_points_6 rfl (lv_at hl 0 rfl) ?_
  refine lv_iload_n hx hb dX9_points_7 rfl (lv_at hl 1 rfl) ?_
  refine q_Vi (As := [.int p1]) (rest := [.ref (G.2.1 28)]) E hh (c_X9_isBoat l G _ _ _ _ h) (cwV 1 hts gX9_points_X9_isBoat rfl rfl rfl (by decide +kernel) ⟨Nat.le_of_ble_eq_true rfl, Nat.le_of_ble_eq_true rfl⟩) (va_recv (ci := 9) E.2.1 hh.1 rfl (WW_at_28 G (si σ 23 (0 : Int32)))) rfl hl.1 rfl (Nat.le_of_ble_eq_true rfl) dX9_points_8 ⟨Nat.zero_le _, Nat.zero_le _⟩ (fun r8 s8 H locs h hh => ?_)
  refine lv_if_eq (tgt := 26) hx hb dX9_points_11 (by decide) (fun c9 => ?_) (fun c9 => ?_)
  · have h := h.1 c9
    refine lv_iconst (v := (1 : Int32)) hx hb dX9_points_26 (by decide) ?_
    refine lv_goto (tgt := 31) hx hb dX9_points_27 (by decide) ?_
    exact w_X9_points_31 E hr hlocks  _ _ _ _ _ _ _ h hh (lv_sub hl [0, 1, 2] rfl)
  · have h := h.2 c9
    refine lv_iload_n hx hb dX9_points_14 rfl (lv_at hl 2 rfl) ?_
    refine lv_if_lt (tgt := 26) hx hb dX9_points_15 (by decide) (fun c9 => ?_) (fun c9 => ?_)
    · have h := h.1 c9
      refine lv_iconst (v := (1 : Int32)) hx hb dX9_points_26 (by decide) ?_
      refine lv_goto (tgt := 31) hx hb dX9_points_27 (by decide) ?_
      exact w_X9_points_31 E hr hlocks  _ _ _ _ _ _ _ h hh (lv_sub hl [0, 1, 2] rfl)
    · have h := h.2 c9
      refine lv_iload_n hx hb dX9_points_18 rfl (lv_at hl 2 rfl) ?_
      refine lv_aload_n hx hb dX9_points_19 rfl (lv_at hl 0 rfl) ?_
      refine q_get (T := TX9) (v := .int (gi s8 42)) E hh h_inX9 28 (WW_at_28 G s8) rfl 30 (by decide) (List.mem_cons_of_mem _ (List.mem_append_left _ (List.mem_of_getElem? (i := 1) rfl))) rfl rfl dX9_points_20 ?_
      refine lv_icmp_lt (tgt := 30) hx hb dX9_points_23 (by decide) (fun c9 => ?_) (fun c9 => ?_)
      · have h := h.1 c9
        refine lv_iconst (v := (0 : Int32)) hx hb dX9_points_30 (by decide) ?_
        exact w_X9_points_31 E hr hlocks  _ _ _ _ _ _ _ h hh (lv_sub hl [0, 1, 2] rfl)
      · have h := h.2 c9
        refine lv_iconst (v := (1 : Int32)) hx hb dX9_points_26 (by decide) ?_
        refine lv_goto (tgt := 31) hx hb dX9_points_27 (by decide) ?_
        exact w_X9_points_31 E hr hlocks  _ _ _ _ _ _ _ h hh (lv_sub hl [0, 1, 2] rfl)
def f_X9_scoreOf_133 (Q : Int32 → St → Prop) (K4 : St → Int32 → Int32 → Int32 → Prop) (σ : St) (l1 : Int32) (l2 : Int32) (l3 : Int32) (t0 : Int32) : Prop :=
  ((t0 = 0 → (vp_in (((16 : Int32) * l3) + l1) 320 ∧ K4 σ l1 (l2 + (ga σ 38 (((16 : Int32) * l3) + l1).toNatClampNeg)) (l3 + 1))) ∧ (¬ t0 = 0 → K4 σ l1 (l2 + (0 : Int32)) (l3 + 1)))
set_option maxHeartbeats 4000000 in
set_option maxRecDepth 100000 in
theorem w_X9_scoreOf_133 {p : Program} {l : Launch} {e : Env} {s : State} {m : MethodId} {args : Array Value} {below : List Frame} {meth : Method} {c : Code} {G : GG} (E : EV p s m args c cX9_scoreOf 6 wsX9_scoreOf RX9 G (AD G s.heap.size)) (hr : meth.sig.returnType = (some .int)) (hlocks : meth.locks = false) {Q : Int32 → St → Prop} {K4 : St → Int32 → Int32 → Int32 → Prop} (hK4 : ∀ (σ : St) (l1 : Int32) (l2 : Int32) (l3 : Int32) (H : Heap) (locs : List Loc) (ls : Array Slot), K4 σ l1 l2 l3 → HH G (AD G s.heap.size) s σ H locs → lv_has ls 6 [(0, .ref (G.2.1 28)), (1, .int l1), (2, .int l2), (3, .int l3)] → W p l e ({ frames := 0, cells := 0, slots := 0, locals := 0 }) s m args below meth c H locs 0 0 (MQi below G args s Q) (F0 m 4 ls [])) : ∀ (σ : St) (l1 : Int32) (l2 : Int32) (l3 : Int32) (t0 : Int32) (H : Heap) (locs : List Loc) (ls : Array Slot), f_X9_scoreOf_133 Q K4 σ l1 l2 l3 t0 → HH G (AD G s.heap.size) s σ H locs → lv_has ls 6 [(0, .ref (G.2.1 28)), (1, .int l1), (2, .int l2), (3, .int l3)] → W p l e ({ frames := 0, cells := 0, slots := 0, locals := 0 }) s m args below meth c H locs 0 0 (MQi below G args s Q) (F0 m 133 ls [.int t0]) := by
  have hx := E.1.1
  have hb := E.1.2.1
  have hown := E.1.2.2.2.1
  have hts := E.1.2.2.2.2
  have h_inX9 : ∀ w ∈ wsX90, w ∈ wsX9_scoreOf := (fun _ h9 => (List.mem_cons_of_mem _ (List.mem_append_right _ h9)))
  intro σ l1 l2 l3 t0 H locs ls h hh hl
  unfold f_X9_scoreOf_133 at h
  refine lv_istore (lv' := [(5, .int t0), (0, .ref (G.2.1 28)), (1, .int l1), (2, .int l2), (3, .int l3)]) hx hb dX9_scoreOf_133 hl (by decide) rfl (fun ls hl => ?_)
  refine lv_iload_n hx hb dX9_scoreOf_135 rfl (lv_at hl 3 rfl) ?_
  refine lv_iload hx hb dX9_scoreOf_136 (lv_at hl 0 rfl) ?_
  refine lv_if_eq (tgt := 145) hx hb dX9_scoreOf_138 (by decide) (fun c9 => ?_) (fun c9 => ?_)
  · have h := h.1 c9
    refine lv_aload_n hx hb dX9_scoreOf_145 rfl (lv_at hl 1 rfl) ?_
    refine q_get (T := TX9) (v := .ref (G.2.1 38)) E hh h_inX9 28 (WW_at_28 G σ) rfl 28 (by decide) (List.mem_cons_of_mem _ (List.mem_append_left _ (List.mem_of_getElem? (i := 1) rfl))) rfl rfl dX9_scoreOf_146 ?_
    refine lv_bipush (v := (16 : Int32)) hx hb dX9_scoreOf_149 (by decide) ?_
    refine lv_iload_n hx hb dX9_scoreOf_151 rfl (lv_at hl 4 rfl) ?_
    refine lv_imul hx hb dX9_scoreOf_152 ?_
    refine lv_iload_n hx hb dX9_scoreOf_153 rfl (lv_at hl 2 rfl) ?_
    refine lv_iadd hx hb dX9_scoreOf_154 ?_
    obtain ⟨h0, h⟩ := h
    refine q_iald E hh 38 (WW_at_38 G σ) h0 dX9_scoreOf_155 ?_
    refine lv_iadd hx hb dX9_scoreOf_156 ?_
    refine lv_istore_n (lv' := [(2, .int (l2 + (ga σ 38 (((16 : Int32) * l3) + l1).toNatClampNeg))), (5, .int t0), (0, .ref (G.2.1 28)), (1, .int l1), (3, .int l3)]) hx hb dX9_scoreOf_157 rfl hl (by decide) rfl (fun ls hl => ?_)
    refine lv_iinc (v := (l3 + 1)) (lv' := [(3, .int (l3 + 1)), (2, .int (l2 + (ga σ 38 (((16 : Int32) * l3) + l1).toNatClampNeg))), (5, .int t0), (0, .ref (G.2.1 28)), (1, .int l1)]) hx hb dX9_scoreOf_158 hl (k := 4) rfl rfl (by decide) rfl (fun ls hl => ?_)
    refine lv_goto (tgt := 4) hx hb dX9_scoreOf_161 (by decide) ?_
    exact hK4 _ _ _ _ _ _ _ h hh (lv_sub hl [3, 4, 1, 0] rfl)
  · have h := h.2 c9
    refine lv_iconst (v := (0 : Int32)) hx hb dX9_scoreOf_141 (by decide) ?_
    refine lv_goto (tgt := 156) hx hb dX9_scoreOf_142 (by decide) ?_
    refine lv_iadd hx hb dX9_scoreOf_156 ?_
    refine lv_istore_n (lv' := [(2, .int (l2 + (0 : Int32))), (5, .int t0), (0, .ref (G.2.1 28)), (1, .int l1), (3, .int l3)]) hx hb dX9_scoreOf_157 rfl hl (by decide) rfl (fun ls hl => ?_)
    refine lv_iinc (v := (l3 + 1)) (lv' := [(3, .int (l3 + 1)), (2, .int (l2 + (0 : Int32))), (5, .int t0), (0, .ref (G.2.1 28)), (1, .int l1)]) hx hb dX9_scoreOf_158 hl (k := 4) rfl rfl (by decide) rfl (fun ls hl => ?_)
    refine lv_goto (tgt := 4) hx hb dX9_scoreOf_161 (by decide) ?_
    exact hK4 _ _ _ _ _ _ _ h hh (lv_sub hl [3, 4, 1, 0] rfl)
def f_X9_scoreOf_18 (Q : Int32 → St → Prop) (K4 : St → Int32 → Int32 → Int32 → Prop) (rec : St → Int32 → Int32 → Int32 → Int32 → Int32 → Prop) (σ : St) (l1 : Int32) (l2 : Int32) (l3 : Int32) (l4 : Int32) (l5 : Int32) : Prop :=
  (((gi σ 42) ≤ l5 → (((gi σ 35) < 0 → f_X9_scoreOf_133 Q K4 σ l1 l2 l3 (0 : Int32)) ∧ (¬ (gi σ 35) < 0 → (((gi σ 42) < (gi σ 35) → f_X9_scoreOf_133 Q K4 σ l1 l2 l3 (0 : Int32)) ∧ (¬ (gi σ 42) < (gi σ 35) → (((gi σ 34) ≤ l4 → f_X9_scoreOf_133 Q K4 σ l1 l2 l3 (0 : Int32)) ∧ (¬ (gi σ 34) ≤ l4 → f_X9_scoreOf_133 Q K4 σ l1 l2 l3 (1 : Int32)))))))) ∧ (¬ (gi σ 42) ≤ l5 → (vp_in (((16 : Int32) * l5) + l1) 320 ∧ (vp_in (((16 : Int32) * l3) + l1) 320 ∧ (((ga σ 38 (((16 : Int32) * l3) + l1).toNatClampNeg) < (ga σ 38 (((16 : Int32) * l5) + l1).toNatClampNeg) → rec σ l1 l2 l3 (l4 + (1 : Int32)) (l5 + 1)) ∧ (¬ (ga σ 38 (((16 : Int32) * l3) + l1).toNatClampNeg) < (ga σ 38 (((16 : Int32) * l5) + l1).toNatClampNeg) → (vp_in (((16 : Int32) * l5) + l1) 320 ∧ (vp_in (((16 : Int32) * l3) + l1) 320 ∧ ((¬ (ga σ 38 (((16 : Int32) * l5) + l1).toNatClampNeg) = (ga σ 38 (((16 : Int32) * l3) + l1).toNatClampNeg) → rec σ l1 l2 l3 (l4 + (0 : Int32)) (l5 + 1)) ∧ ((ga σ 38 (((16 : Int32) * l5) + l1).toNatClampNeg) = (ga σ 38 (((16 : Int32) * l3) + l1).toNatClampNeg) → ((l3 ≤ l5 → rec σ l1 l2 l3 (l4 + (0 : Int32)) (l5 + 1)) ∧ (¬ l3 ≤ l5 → rec σ l1 l2 l3 (l4 + (1 : Int32)) (l5 + 1)))))))))))))
def f_X9_scoreOf_18L (Q : Int32 → St → Prop) (K4 : St → Int32 → Int32 → Int32 → Prop) : Nat → St → Int32 → Int32 → Int32 → Int32 → Int32 → Prop
  | 0, _, _, _, _, _, _ => False
  | n + 1, σ, l1, l2, l3, l4, l5 => f_X9_scoreOf_18 Q K4 (f_X9_scoreOf_18L Q K4 n) σ l1 l2 l3 l4 l5
set_option maxHeartbeats 4000000 in
set_option maxRecDepth 100000 in
theorem w_X9_scoreOf_18 {p : Program} {l : Launch} {e : Env} {s : State} {m : MethodId} {args : Array Value} {below : List Frame} {meth : Method} {c : Code} {G : GG} (E : EV p s m args c cX9_scoreOf 6 wsX9_scoreOf RX9 G (AD G s.heap.size)) (hr : meth.sig.returnType = (some .int)) (hlocks : meth.locks = false) {Q : Int32 → St → Prop} {K4 : St → Int32 → Int32 → Int32 → Prop} (hK4 : ∀ (σ : St) (l1 : Int32) (l2 : Int32) (l3 : Int32) (H : Heap) (locs : List Loc) (ls : Array Slot), K4 σ l1 l2 l3 → HH G (AD G s.heap.size) s σ H locs → lv_has ls 6 [(0, .ref (G.2.1 28)), (1, .int l1), (2, .int l2), (3, .int l3)] → W p l e ({ frames := 0, cells := 0, slots := 0, locals := 0 }) s m args below meth c H locs 0 0 (MQi below G args s Q) (F0 m 4 ls [])) : ∀ (n : Nat) (σ : St) (l1 : Int32) (l2 : Int32) (l3 : Int32) (l4 : Int32) (l5 : Int32) (H : Heap) (locs : List Loc) (ls : Array Slot), f_X9_scoreOf_18L Q K4 n σ l1 l2 l3 l4 l5 → HH G (AD G s.heap.size) s σ H locs → lv_has ls 6 [(0, .ref (G.2.1 28)), (1, .int l1), (2, .int l2), (3, .int l3), (4, .int l4), (5, .int l5)] → W p l e ({ frames := 0, cells := 0, slots := 0, locals := 0 }) s m args below meth c H locs 0 0 (MQi below G args s Q) (F0 m 18 ls []) := by
  have hx := E.1.1
  have hb := E.1.2.1
  have hown := E.1.2.2.2.1
  have hts := E.1.2.2.2.2
  have h_inX9 : ∀ w ∈ wsX90, w ∈ wsX9_scoreOf := (fun _ h9 => (List.mem_cons_of_mem _ (List.mem_append_right _ h9)))
  intro n
  induction n with
  | zero =>
    intro σ l1 l2 l3 l4 l5 H locs ls h
    exact h.elim
  | succ n ih =>
    intro σ l1 l2 l3 l4 l5 H locs ls h hh hl
    have h : f_X9_scoreOf_18 Q K4 (f_X9_scoreOf_18L Q K4 n) σ l1 l2 l3 l4 l5 := h
    unfold f_X9_scoreOf_18 at h
    refine lv_iload hx hb dX9_scoreOf_18 (lv_at hl 5 rfl) ?_
    refine lv_aload_n hx hb dX9_scoreOf_20 rfl (lv_at hl 0 rfl) ?_
    refine q_get (T := TX9) (v := .int (gi σ 42)) E hh h_inX9 28 (WW_at_28 G σ) rfl 30 (by decide) (List.mem_cons_of_mem _ (List.mem_append_left _ (List.mem_of_getElem? (i := 0) rfl))) rfl rfl dX9_scoreOf_21 ?_
    refine lv_icmp_ge (tgt := 101) hx hb dX9_scoreOf_24 (by decide) (fun c9 => ?_) (fun c9 => ?_)
    · have h := h.1 c9
      refine lv_aload_n hx hb dX9_scoreOf_101 rfl (lv_at hl 0 rfl) ?_
      refine q_get (T := TX9) (v := .int (gi σ 35)) E hh h_inX9 28 (WW_at_28 G σ) rfl 16 (by decide) (List.mem_cons_of_mem _ (List.mem_append_left _ (List.mem_of_getElem? (i := 2) rfl))) rfl rfl dX9_scoreOf_102 ?_
      refine lv_if_lt (tgt := 132) hx hb dX9_scoreOf_105 (by decide) (fun c9 => ?_) (fun c9 => ?_)
      · have h := h.1 c9
        refine lv_iconst (v := (0 : Int32)) hx hb dX9_scoreOf_132 (by decide) ?_
        exact w_X9_scoreOf_133 E hr hlocks hK4 _ _ _ _ _ _ _ _ h hh (lv_sub hl [0, 1, 2, 3] rfl)
      · have h := h.2 c9
        refine lv_aload_n hx hb dX9_scoreOf_108 rfl (lv_at hl 0 rfl) ?_
        refine q_get (T := TX9) (v := .int (gi σ 42)) E hh h_inX9 28 (WW_at_28 G σ) rfl 30 (by decide) (List.mem_cons_of_mem _ (List.mem_append_left _ (List.mem_of_getElem? (i := 0) rfl))) rfl rfl dX9_scoreOf_109 ?_
        refine lv_aload_n hx hb dX9_scoreOf_112 rfl (lv_at hl 0 rfl) ?_
        refine q_get (T := TX9) (v := .int (gi σ 35)) E hh h_inX9 28 (WW_at_28 G σ) rfl 16 (by decide) (List.mem_cons_of_mem _ (List.mem_append_left _ (List.mem_of_getElem? (i := 2) rfl))) rfl rfl dX9_scoreOf_113 ?_
        refine lv_icmp_lt (tgt := 132) hx hb dX9_scoreOf_116 (by decide) (fun c9 => ?_) (fun c9 => ?_)
        · have h := h.1 c9
          refine lv_iconst (v := (0 : Int32)) hx hb dX9_scoreOf_132 (by decide) ?_
          exact w_X9_scoreOf_133 E hr hlocks hK4 _ _ _ _ _ _ _ _ h hh (lv_sub hl [0, 1, 2, 3] rfl)
        · have h := h.2 c9
          refine lv_iload hx hb dX9_scoreOf_119 (lv_at hl 4 rfl) ?_
          refine lv_aload_n hx hb dX9_scoreOf_121 rfl (lv_at hl 0 rfl) ?_
          refine q_get (T := TX9) (v := .int (gi σ 34)) E hh h_inX9 28 (WW_at_28 G σ) rfl 15 (by decide) (List.mem_cons_of_mem _ (List.mem_append_left _ (List.mem_of_getElem? (i := 3) rfl))) rfl rfl dX9_scoreOf_122 ?_
          refine lv_icmp_ge (tgt := 132) hx hb dX9_scoreOf_125 (by decide) (fun c9 => ?_) (fun c9 => ?_)
          · have h := h.1 c9
            refine lv_iconst (v := (0 : Int32)) hx hb dX9_scoreOf_132 (by decide) ?_
            exact w_X9_scoreOf_133 E hr hlocks hK4 _ _ _ _ _ _ _ _ h hh (lv_sub hl [0, 1, 2, 3] rfl)
          · have h := h.2 c9
            refine lv_iconst (v := (1 : Int32)) hx hb dX9_scoreOf_128 (by decide) ?_
            refine lv_goto (tgt := 133) hx hb dX9_scoreOf_129 (by decide) ?_
            exact w_X9_scoreOf_133 E hr hlocks hK4 _ _ _ _ _ _ _ _ h hh (lv_sub hl [0, 1, 2, 3] rfl)
    · have h := h.2 c9
      refine lv_iload hx hb dX9_scoreOf_27 (lv_at hl 4 rfl) ?_
      refine lv_aload_n hx hb dX9_scoreOf_29 rfl (lv_at hl 0 rfl) ?_
      refine q_get (T := TX9) (v := .ref (G.2.1 38)) E hh h_inX9 28 (WW_at_28 G σ) rfl 28 (by decide) (List.mem_cons_of_mem _ (List.mem_append_left _ (List.mem_of_getElem? (i := 1) rfl))) rfl rfl dX9_scoreOf_30 ?_
      refine lv_bipush (v := (16 : Int32)) hx hb dX9_scoreOf_33 (by decide) ?_
      refine lv_iload hx hb dX9_scoreOf_35 (lv_at hl 5 rfl) ?_
      refine lv_imul hx hb dX9_scoreOf_37 ?_
      refine lv_iload_n hx hb dX9_scoreOf_38 rfl (lv_at hl 1 rfl) ?_
      refine lv_iadd hx hb dX9_scoreOf_39 ?_
      obtain ⟨h0, h⟩ := h
      refine q_iald E hh 38 (WW_at_38 G σ) h0 dX9_scoreOf_40 ?_
      refine lv_aload_n hx hb dX9_scoreOf_41 rfl (lv_at hl 0 rfl) ?_
      refine q_get (T := TX9) (v := .ref (G.2.1 38)) E hh h_inX9 28 (WW_at_28 G σ) rfl 28 (by decide) (List.mem_cons_of_mem _ (List.mem_append_left _ (List.mem_of_getElem? (i := 1) rfl))) rfl rfl dX9_scoreOf_42 ?_
      refine lv_bipush (v := (16 : Int32)) hx hb dX9_scoreOf_45 (by decide) ?_
      refine lv_iload_n hx hb dX9_scoreOf_47 rfl (lv_at hl 3 rfl) ?_
      refine lv_imul hx hb dX9_scoreOf_48 ?_
      refine lv_iload_n hx hb dX9_scoreOf_49 rfl (lv_at hl 1 rfl) ?_
      refine lv_iadd hx hb dX9_scoreOf_50 ?_
      obtain ⟨h0, h⟩ := h
      refine q_iald E hh 38 (WW_at_38 G σ) h0 dX9_scoreOf_51 ?_
      refine lv_icmp_gt (tgt := 87) hx hb dX9_scoreOf_52 (by decide) (fun c9 => ?_) (fun c9 => ?_)
      · have h := h.1 c9
        refine lv_iconst (v := (1 : Int32)) hx hb dX9_scoreOf_87 (by decide) ?_
        refine lv_goto (tgt := 92) hx hb dX9_scoreOf_88 (by decide) ?_
        refine lv_iadd hx hb dX9_scoreOf_92 ?_
        refine lv_istore (lv' := [(4, .int (l4 + (1 : Int32))), (0, .ref (G.2.1 28)), (1, .int l1), (2, .int l2), (3, .int l3), (5, .int l5)]) hx hb dX9_scoreOf_93 hl (by decide) rfl (fun ls hl => ?_)
        refine lv_iinc (v := (l5 + 1)) (lv' := [(5, .int (l5 + 1)), (4, .int (l4 + (1 : Int32))), (0, .ref (G.2.1 28)), (1, .int l1), (2, .int l2), (3, .int l3)]) hx hb dX9_scoreOf_95 hl (k := 5) rfl rfl (by decide) rfl (fun ls hl => ?_)
        refine lv_goto (tgt := 18) hx hb dX9_scoreOf_98 (by decide) ?_
        exact ih _ _ _ _ _ _ _ _ _ h hh (lv_sub hl [2, 3, 4, 5, 1, 0] rfl)
      · have h := h.2 c9
        refine lv_aload_n hx hb dX9_scoreOf_55 rfl (lv_at hl 0 rfl) ?_
        refine q_get (T := TX9) (v := .ref (G.2.1 38)) E hh h_inX9 28 (WW_at_28 G σ) rfl 28 (by decide) (List.mem_cons_of_mem _ (List.mem_append_left _ (List.mem_of_getElem? (i := 1) rfl))) rfl rfl dX9_scoreOf_56 ?_
        refine lv_bipush (v := (16 : Int32)) hx hb dX9_scoreOf_59 (by decide) ?_
        refine lv_iload hx hb dX9_scoreOf_61 (lv_at hl 5 rfl) ?_
        refine lv_imul hx hb dX9_scoreOf_63 ?_
        refine lv_iload_n hx hb dX9_scoreOf_64 rfl (lv_at hl 1 rfl) ?_
        refine lv_iadd hx hb dX9_scoreOf_65 ?_
        obtain ⟨h0, h⟩ := h
        refine q_iald E hh 38 (WW_at_38 G σ) h0 dX9_scoreOf_66 ?_
        refine lv_aload_n hx hb dX9_scoreOf_67 rfl (lv_at hl 0 rfl) ?_
        refine q_get (T := TX9) (v := .ref (G.2.1 38)) E hh h_inX9 28 (WW_at_28 G σ) rfl 28 (by decide) (List.mem_cons_of_mem _ (List.mem_append_left _ (List.mem_of_getElem? (i := 1) rfl))) rfl rfl dX9_scoreOf_68 ?_
        refine lv_bipush (v := (16 : Int32)) hx hb dX9_scoreOf_71 (by decide) ?_
        refine lv_iload_n hx hb dX9_scoreOf_73 rfl (lv_at hl 3 rfl) ?_
        refine lv_imul hx hb dX9_scoreOf_74 ?_
        refine lv_iload_n hx hb dX9_scoreOf_75 rfl (lv_at hl 1 rfl) ?_
        refine lv_iadd hx hb dX9_scoreOf_76 ?_
        obtain ⟨h0, h⟩ := h
        refine q_iald E hh 38 (WW_at_38 G σ) h0 dX9_scoreOf_77 ?_
        refine lv_icmp_ne (tgt := 91) hx hb dX9_scoreOf_78 (by decide) (fun c9 => ?_) (fun c9 => ?_)
        · have h := h.1 c9
          refine lv_iconst (v := (0 : Int32)) hx hb dX9_scoreOf_91 (by decide) ?_
          refine lv_iadd hx hb dX9_scoreOf_92 ?_
          refine lv_istore (lv' := [(4, .int (l4 + (0 : Int32))), (0, .ref (G.2.1 28)), (1, .int l1), (2, .int l2), (3, .int l3), (5, .int l5)]) hx hb dX9_scoreOf_93 hl (by decide) rfl (fun ls hl => ?_)
          refine lv_iinc (v := (l5 + 1)) (lv' := [(5, .int (l5 + 1)), (4, .int (l4 + (0 : Int32))), (0, .ref (G.2.1 28)), (1, .int l1), (2, .int l2), (3, .int l3)]) hx hb dX9_scoreOf_95 hl (k := 5) rfl rfl (by decide) rfl (fun ls hl => ?_)
          refine lv_goto (tgt := 18) hx hb dX9_scoreOf_98 (by decide) ?_
          exact ih _ _ _ _ _ _ _ _ _ h hh (lv_sub hl [2, 3, 4, 5, 1, 0] rfl)
        · have h := h.2 c9
          refine lv_iload hx hb dX9_scoreOf_81 (lv_at hl 5 rfl) ?_
          refine lv_iload_n hx hb dX9_scoreOf_83 rfl (lv_at hl 3 rfl) ?_
          refine lv_icmp_ge (tgt := 91) hx hb dX9_scoreOf_84 (by decide) (fun c9 => ?_) (fun c9 => ?_)
          · have h := h.1 c9
            refine lv_iconst (v := (0 : Int32)) hx hb dX9_scoreOf_91 (by decide) ?_
            refine lv_iadd hx hb dX9_scoreOf_92 ?_
            refine lv_istore (lv' := [(4, .int (l4 + (0 : Int32))), (0, .ref (G.2.1 28)), (1, .int l1), (2, .int l2), (3, .int l3), (5, .int l5)]) hx hb dX9_scoreOf_93 hl (by decide) rfl (fun ls hl => ?_)
            refine lv_iinc (v := (l5 + 1)) (lv' := [(5, .int (l5 + 1)), (4, .int (l4 + (0 : Int32))), (0, .ref (G.2.1 28)), (1, .int l1), (2, .int l2), (3, .int l3)]) hx hb dX9_scoreOf_95 hl (k := 5) rfl rfl (by decide) rfl (fun ls hl => ?_)
            refine lv_goto (tgt := 18) hx hb dX9_scoreOf_98 (by decide) ?_
            exact ih _ _ _ _ _ _ _ _ _ h hh (lv_sub hl [2, 3, 4, 5, 1, 0] rfl)
          · have h := h.2 c9
            refine lv_iconst (v := (1 : Int32)) hx hb dX9_scoreOf_87 (by decide) ?_
            refine lv_goto (tgt := 92) hx hb dX9_scoreOf_88 (by decide) ?_
            refine lv_iadd hx hb dX9_scoreOf_92 ?_
            refine lv_istore (lv' := [(4, .int (l4 + (1 : Int32))), (0, .ref (G.2.1 28)), (1, .int l1), (2, .int l2), (3, .int l3), (5, .int l5)]) hx hb dX9_scoreOf_93 hl (by decide) rfl (fun ls hl => ?_)
            refine lv_iinc (v := (l5 + 1)) (lv' := [(5, .int (l5 + 1)), (4, .int (l4 + (1 : Int32))), (0, .ref (G.2.1 28)), (1, .int l1), (2, .int l2), (3, .int l3)]) hx hb dX9_scoreOf_95 hl (k := 5) rfl rfl (by decide) rfl (fun ls hl => ?_)
            refine lv_goto (tgt := 18) hx hb dX9_scoreOf_98 (by decide) ?_
            exact ih _ _ _ _ _ _ _ _ _ h hh (lv_sub hl [2, 3, 4, 5, 1, 0] rfl)
def f_X9_scoreOf_4 (Q : Int32 → St → Prop)  (rec : St → Int32 → Int32 → Int32 → Prop) (σ : St) (l1 : Int32) (l2 : Int32) (l3 : Int32) : Prop :=
  (((gi σ 42) ≤ l3 → Q l2 σ) ∧ (¬ (gi σ 42) ≤ l3 → f_X9_scoreOf_18L Q rec FU σ l1 l2 l3 (0 : Int32) (0 : Int32)))
def f_X9_scoreOf_4L (Q : Int32 → St → Prop)  : Nat → St → Int32 → Int32 → Int32 → Prop
  | 0, _, _, _, _ => False
  | n + 1, σ, l1, l2, l3 => f_X9_scoreOf_4 Q  (f_X9_scoreOf_4L Q  n) σ l1 l2 l3
set_option maxHeartbeats 4000000 in
set_option maxRecDepth 100000 in
theorem w_X9_scoreOf_4 {p : Program} {l : Launch} {e : Env} {s : State} {m : MethodId} {args : Array Value} {below : List Frame} {meth : Method} {c : Code} {G : GG} (E : EV p s m args c cX9_scoreOf 6 wsX9_scoreOf RX9 G (AD G s.heap.size)) (hr : meth.sig.returnType = (some .int)) (hlocks : meth.locks = false) {Q : Int32 → St → Prop}  : ∀ (n : Nat) (σ : St) (l1 : Int32) (l2 : Int32) (l3 : Int32) (H : Heap) (locs : List Loc) (ls : Array Slot), f_X9_scoreOf_4L Q  n σ l1 l2 l3 → HH G (AD G s.heap.size) s σ H locs → lv_has ls 6 [(0, .ref (G.2.1 28)), (1, .int l1), (2, .int l2), (3, .int l3)] → W p l e ({ frames := 0, cells := 0, slots := 0, locals := 0 }) s m args below meth c H locs 0 0 (MQi below G args s Q) (F0 m 4 ls []) := by
  have hx := E.1.1
  have hb := E.1.2.1
  have hown := E.1.2.2.2.1
  have hts := E.1.2.2.2.2
  have h_inX9 : ∀ w ∈ wsX90, w ∈ wsX9_scoreOf := (fun _ h9 => (List.mem_cons_of_mem _ (List.mem_append_right _ h9)))
  intro n
  induction n with
  | zero =>
    intro σ l1 l2 l3 H locs ls h
    exact h.elim
  | succ n ih =>
    intro σ l1 l2 l3 H locs ls h hh hl
    have h : f_X9_scoreOf_4 Q  (f_X9_scoreOf_4L Q  n) σ l1 l2 l3 := h
    unfold f_X9_scoreOf_4 at h
    refine lv_iload_n hx hb dX9_scoreOf_4 rfl (lv_at hl 3 rfl) ?_
    refine lv_aload_n hx hb dX9_scoreOf_5 rfl (lv_at hl 0 rfl) ?_
    refine q_get (T := TX9) (v := .int (gi σ 42)) E hh h_inX9 28 (WW_at_28 G σ) rfl 30 (by decide) (List.mem_cons_of_mem _ (List.mem_append_left _ (List.mem_of_getElem? (i := 0) rfl))) rfl rfl dX9_scoreOf_6 ?_
    refine lv_icmp_ge (tgt := 164) hx hb dX9_scoreOf_9 (by decide) (fun c9 => ?_) (fun c9 => ?_)
    · have h := h.1 c9
      refine lv_iload_n hx hb dX9_scoreOf_164 rfl (lv_at hl 2 rfl) ?_
      exact q_iret E hh hr hlocks h dX9_scoreOf_165
    · have h := h.2 c9
      refine lv_iconst (v := (0 : Int32)) hx hb dX9_scoreOf_12 (by decide) ?_
      refine lv_istore (lv' := [(4, .int (0 : Int32)), (0, .ref (G.2.1 28)), (1, .int l1), (2, .int l2), (3, .int l3)]) hx hb dX9_scoreOf_13 hl (by decide) rfl (fun ls hl => ?_)
      refine lv_iconst (v := (0 : Int32)) hx hb dX9_scoreOf_15 (by decide) ?_
      refine lv_istore (lv' := [(5, .int (0 : Int32)), (4, .int (0 : Int32)), (0, .ref (G.2.1 28)), (1, .int l1), (2, .int l2), (3, .int l3)]) hx hb dX9_scoreOf_16 hl (by decide) rfl (fun ls hl => ?_)
      exact w_X9_scoreOf_18 E hr hlocks ih FU _ _ _ _ _ _ _ _ _ h hh (lv_sub hl [2, 3, 4, 5, 1, 0] rfl)
def f_X9_scoreOf (σ : St) (p1 : Int32) (Q : Int32 → St → Prop) : Prop :=
  f_X9_scoreOf_4L Q FU σ p1 (0 : Int32) (0 : Int32)
set_option maxHeartbeats 4000000 in
set_option maxRecDepth 100000 in
theorem c_X9_scoreOf (l : Launch) (G : GG) (σ : St) (sz : Nat) (p1 : Int32) (Q : Int32 → St → Prop) (h : f_X9_scoreOf σ p1 Q) : CTi l yX9_scoreOf wsX9_scoreOf ({ frames := 0, cells := 0, slots := 0, locals := 0 }) [.ref (G.2.1 28), .int p1] G σ sz Q := by
  refine Met.ofW (cc := cX9_scoreOf) (maxL := 6) (ret := (some .int)) (by decide) rfl ?_
  intro p e s m args below meth c s₁ B hml hv
  obtain ⟨rfl, hpre⟩ := hv
  have hr := B.returns
  have hlocks := B.notSynchronized
  obtain ⟨hsz, -⟩ := id hpre
  subst hsz
  obtain ⟨E, hh⟩ := EV.ofPre (⟨B.exec, B.bytes, hml, findClass_of_methodNamed B.named, atoms_spec (ws := wsX9_scoreOf) B.pre⟩ : CallFix p m c cX9_scoreOf 6 s _ wsX9_scoreOf RX9) hpre
  have hx := E.1.1
  have hb := E.1.2.1
  have hown := E.1.2.2.2.1
  have hts := E.1.2.2.2.2
  have h_inX9 : ∀ w ∈ wsX90, w ∈ wsX9_scoreOf := (fun _ h9 => (List.mem_cons_of_mem _ (List.mem_append_right _ h9)))
  have hl := lv_entry ([.ref (G.2.1 28), .int p1]) (n := 6) (Nat.le_of_ble_eq_true rfl)
  rw [lg_entry_eq]
  generalize (lg_sl ([.ref (G.2.1 28), .int p1]) ++ List.replicate (6 - (lg_sl ([.ref (G.2.1 28), .int p1])).length) Slot.unset).toArray = ls at hl ⊢
  have hl : lv_has ls 6 [(0, .ref (G.2.1 28)), (1, .int p1)] := hl
  unfold f_X9_scoreOf at h
  refine lv_iconst (v := (0 : Int32)) hx hb dX9_scoreOf_0 (by decide) ?_
  refine lv_istore_n (lv' := [(2, .int (0 : Int32)), (0, .ref (G.2.1 28)), (1, .int p1)]) hx hb dX9_scoreOf_1 rfl hl (by decide) rfl (fun ls hl => ?_)
  refine lv_iconst (v := (0 : Int32)) hx hb dX9_scoreOf_2 (by decide) ?_
  refine lv_istore_n (lv' := [(3, .int (0 : Int32)), (2, .int (0 : Int32)), (0, .ref (G.2.1 28)), (1, .int p1)]) hx hb dX9_scoreOf_3 rfl hl (by decide) rfl (fun ls hl => ?_)
  exact w_X9_scoreOf_4 E hr hlocks  FU _ _ _ _ _ _ _ h hh (lv_sub hl [2, 3, 1, 0] rfl)
def f_X9_score (σ : St) (p1 : Int32) (Q : Int32 → St → Prop) : Prop :=
  f_X9_isBoat (si σ 23 (0 : Int32)) p1 (fun r8 s8 => ((¬ r8 = 0 → f_X9_bad s8 (0 : Int32) (1 : Int32) (fun r20 s20 => ((r20 = 0 → f_X9_scoreOf s20 p1 (fun r32 s32 => Q r32 s32)) ∧ (¬ r20 = 0 → Q (0 : Int32) s20)))) ∧ (r8 = 0 → f_X9_bad s8 (1 : Int32) (1 : Int32) (fun r20 s20 => ((r20 = 0 → f_X9_scoreOf s20 p1 (fun r32 s32 => Q r32 s32)) ∧ (¬ r20 = 0 → Q (0 : Int32) s20))))))
set_option maxHeartbeats 4000000 in
set_option maxRecDepth 100000 in
theorem c_X9_score (l : Launch) (G : GG) (σ : St) (sz : Nat) (p1 : Int32) (Q : Int32 → St → Prop) (h : f_X9_score σ p1 Q) : CTi l yX9_score wsX9_score ({ frames := 1, cells := 0, slots := 0, locals := 25 }) [.ref (G.2.1 28), .int p1] G σ sz Q := by
  refine Met.ofW (cc := cX9_score) (maxL := 2) (ret := (some .int)) (by decide) rfl ?_
  intro p e s m args below meth c s₁ B hml hv
  obtain ⟨rfl, hpre⟩ := hv
  have hr := B.returns
  have hlocks := B.notSynchronized
  obtain ⟨hsz, -⟩ := id hpre
  subst hsz
  obtain ⟨E, hh⟩ := EV.ofPre (⟨B.exec, B.bytes, hml, findClass_of_methodNamed B.named, atoms_spec (ws := wsX9_score) B.pre⟩ : CallFix p m c cX9_score 2 s _ wsX9_score RX9) hpre
  have hx := E.1.1
  have hb := E.1.2.1
  have hown := E.1.2.2.2.1
  have hts := E.1.2.2.2.2
  have h_inX9 : ∀ w ∈ wsX90, w ∈ wsX9_score := (fun _ h9 => (List.mem_cons_of_mem _ (List.mem_append_right _ h9)))
  have hl := lv_entry ([.ref (G.2.1 28), .int p1]) (n := 2) (Nat.le_of_ble_eq_true rfl)
  rw [lg_entry_eq]
  generalize (lg_sl ([.ref (G.2.1 28), .int p1]) ++ List.replicate (2 - (lg_sl ([.ref (G.2.1 28), .int p1])).length) Slot.unset).toArray = ls at hl ⊢
  have hl : lv_has ls 2 [(0, .ref (G.2.1 28)), (1, .int p1)] := hl
  unfold f_X9_score at h
  refine lv_aload_n hx hb dX9_score_0 rfl (lv_at hl 0 rfl) ?_
  refine lv_iconst (v := (0 : Int32)) hx hb dX9_score_1 (by decide) ?_
  refine q_put (T := TX9) E hh h_inX9 tyX9 tyX9_ok nmX9 28 (WW_at_28 G σ) rfl 0 (by decide) (List.mem_cons_of_mem _ (List.mem_append_left _ (List.mem_of_getElem? (i := 0) rfl))) rfl rfl (by decide +kernel) (Nat.le_of_ble_eq_true rfl) dX9_score_2 (WW_si_23 G σ (0 : Int32)) (fun H locs hh => ?_)
  refine lv_aload_n hx hb dX9_score_5 rfl (lv_at hl 0 rfl) ?_
  refine lv_aload_n hx hb dX9_score_6 rfl (lv_at hl 0 rfl) ?_
  refine lv_iload_n hx hb dX9_score_7 rfl (lv_at hl 1 rfl) ?_
  refine q_Vi (As := [.int p1]) (rest := [.ref (G.2.1 28)]) E hh (c_X9_isBoat l G _ _ _ _ h) (cwV 1 hts gX9_score_X9_isBoat rfl rfl rfl (by decide +kernel) ⟨Nat.le_of_ble_eq_true rfl, Nat.le_of_ble_eq_true rfl⟩) (va_recv (ci := 9) E.2.1 hh.1 rfl (WW_at_28 G (si σ 23 (0 : Int32)))) rfl hl.1 rfl (Nat.le_of_ble_eq_true rfl) dX9_score_8 ⟨Nat.zero_le _, Nat.zero_le _⟩ (fun r8 s8 H locs h hh => ?_)
  refine lv_if_ne (tgt := 18) hx hb dX9_score_11 (by decide) (fun c9 => ?_) (fun c9 => ?_)
  · have h := h.1 c9
    refine lv_iconst (v := (0 : Int32)) hx hb dX9_score_18 (by decide) ?_
    refine lv_iconst (v := (1 : Int32)) hx hb dX9_score_19 (by decide) ?_
    refine q_Vi (As := [.int (0 : Int32), .int (1 : Int32)]) (rest := []) E hh (c_X9_bad l G _ _ _ _ _ h) (cwV 2 hts gX9_score_X9_bad rfl rfl rfl (by decide +kernel) ⟨Nat.le_of_ble_eq_true rfl, Nat.le_of_ble_eq_true rfl⟩) (va_recv (ci := 9) E.2.1 hh.1 rfl (WW_at_28 G s8)) rfl hl.1 rfl (Nat.le_of_ble_eq_true rfl) dX9_score_20 ⟨Nat.zero_le _, Nat.zero_le _⟩ (fun r20 s20 H locs h hh => ?_)
    refine lv_if_eq (tgt := 30) hx hb dX9_score_23 (by decide) (fun c9 => ?_) (fun c9 => ?_)
    · have h := h.1 c9
      refine lv_aload_n hx hb dX9_score_30 rfl (lv_at hl 0 rfl) ?_
      refine lv_iload_n hx hb dX9_score_31 rfl (lv_at hl 1 rfl) ?_
      refine q_Vi (As := [.int p1]) (rest := []) E hh (c_X9_scoreOf l G _ _ _ _ h) (cwV 1 hts gX9_score_X9_scoreOf rfl rfl rfl (by decide +kernel) ⟨Nat.le_of_ble_eq_true rfl, Nat.le_of_ble_eq_true rfl⟩) (va_recv (ci := 9) E.2.1 hh.1 rfl (WW_at_28 G s20)) rfl hl.1 rfl (Nat.le_of_ble_eq_true rfl) dX9_score_32 ⟨Nat.zero_le _, Nat.zero_le _⟩ (fun r32 s32 H locs h hh => ?_)
      exact q_iret E hh hr hlocks h dX9_score_35
    · have h := h.2 c9
      refine lv_iconst (v := (0 : Int32)) hx hb dX9_score_26 (by decide) ?_
      refine lv_goto (tgt := 35) hx hb dX9_score_27 (by decide) ?_
      exact q_iret E hh hr hlocks h dX9_score_35
  · have h := h.2 c9
    refine lv_iconst (v := (1 : Int32)) hx hb dX9_score_14 (by decide) ?_
    refine lv_goto (tgt := 19) hx hb dX9_score_15 (by decide) ?_
    refine lv_iconst (v := (1 : Int32)) hx hb dX9_score_19 (by decide) ?_
    refine q_Vi (As := [.int (1 : Int32), .int (1 : Int32)]) (rest := []) E hh (c_X9_bad l G _ _ _ _ _ h) (cwV 2 hts gX9_score_X9_bad rfl rfl rfl (by decide +kernel) ⟨Nat.le_of_ble_eq_true rfl, Nat.le_of_ble_eq_true rfl⟩) (va_recv (ci := 9) E.2.1 hh.1 rfl (WW_at_28 G s8)) rfl hl.1 rfl (Nat.le_of_ble_eq_true rfl) dX9_score_20 ⟨Nat.zero_le _, Nat.zero_le _⟩ (fun r20 s20 H locs h hh => ?_)
    refine lv_if_eq (tgt := 30) hx hb dX9_score_23 (by decide) (fun c9 => ?_) (fun c9 => ?_)
    · have h := h.1 c9
      refine lv_aload_n hx hb dX9_score_30 rfl (lv_at hl 0 rfl) ?_
      refine lv_iload_n hx hb dX9_score_31 rfl (lv_at hl 1 rfl) ?_
      refine q_Vi (As := [.int p1]) (rest := []) E hh (c_X9_scoreOf l G _ _ _ _ h) (cwV 1 hts gX9_score_X9_scoreOf rfl rfl rfl (by decide +kernel) ⟨Nat.le_of_ble_eq_true rfl, Nat.le_of_ble_eq_true rfl⟩) (va_recv (ci := 9) E.2.1 hh.1 rfl (WW_at_28 G s20)) rfl hl.1 rfl (Nat.le_of_ble_eq_true rfl) dX9_score_32 ⟨Nat.zero_le _, Nat.zero_le _⟩ (fun r32 s32 H locs h hh => ?_)
      exact q_iret E hh hr hlocks h dX9_score_35
    · have h := h.2 c9
      refine lv_iconst (v := (0 : Int32)) hx hb dX9_score_26 (by decide) ?_
      refine lv_goto (tgt := 35) hx hb dX9_score_27 (by decide) ?_
      exact q_iret E hh hr hlocks h dX9_score_35
def f_X9_isAhead_43 (Q : Int32 → St → Prop)  (rec : St → Int32 → Int32 → Int32 → Prop) (σ : St) (l1 : Int32) (l2 : Int32) (l3 : Int32) : Prop :=
  ((l3 < 0 → ((l2 ≤ l1 → Q (0 : Int32) σ) ∧ (¬ l2 ≤ l1 → Q (1 : Int32) σ))) ∧ (¬ l3 < 0 → (vp_in (((16 : Int32) * l3) + l1) 320 ∧ (vp_in (((16 : Int32) * l3) + l2) 320 ∧ (((ga σ 38 (((16 : Int32) * l3) + l1).toNatClampNeg) = (ga σ 38 (((16 : Int32) * l3) + l2).toNatClampNeg) → rec σ l1 l2 (l3 + (-1))) ∧ (¬ (ga σ 38 (((16 : Int32) * l3) + l1).toNatClampNeg) = (ga σ 38 (((16 : Int32) * l3) + l2).toNatClampNeg) → (((ga σ 38 (((16 : Int32) * l3) + l2).toNatClampNeg) ≤ (ga σ 38 (((16 : Int32) * l3) + l1).toNatClampNeg) → Q (0 : Int32) σ) ∧ (¬ (ga σ 38 (((16 : Int32) * l3) + l2).toNatClampNeg) ≤ (ga σ 38 (((16 : Int32) * l3) + l1).toNatClampNeg) → Q (1 : Int32) σ))))))))
def f_X9_isAhead_43L (Q : Int32 → St → Prop)  : Nat → St → Int32 → Int32 → Int32 → Prop
  | 0, _, _, _, _ => False
  | n + 1, σ, l1, l2, l3 => f_X9_isAhead_43 Q  (f_X9_isAhead_43L Q  n) σ l1 l2 l3
set_option maxHeartbeats 4000000 in
set_option maxRecDepth 100000 in
theorem w_X9_isAhead_43 {p : Program} {l : Launch} {e : Env} {s : State} {m : MethodId} {args : Array Value} {below : List Frame} {meth : Method} {c : Code} {G : GG} (E : EV p s m args c cX9_isAhead 6 wsX9_isAhead RX9 G (AD G s.heap.size)) (hr : meth.sig.returnType = (some .boolean)) (hlocks : meth.locks = false) {Q : Int32 → St → Prop}  : ∀ (n : Nat) (σ : St) (l1 : Int32) (l2 : Int32) (l3 : Int32) (H : Heap) (locs : List Loc) (ls : Array Slot), f_X9_isAhead_43L Q  n σ l1 l2 l3 → HH G (AD G s.heap.size) s σ H locs → lv_has ls 6 [(0, .ref (G.2.1 28)), (1, .int l1), (2, .int l2), (3, .int l3)] → W p l e ({ frames := 0, cells := 0, slots := 0, locals := 0 }) s m args below meth c H locs 0 0 (MQi below G args s Q) (F0 m 43 ls []) := by
  have hx := E.1.1
  have hb := E.1.2.1
  have hown := E.1.2.2.2.1
  have hts := E.1.2.2.2.2
  have h_inX9 : ∀ w ∈ wsX90, w ∈ wsX9_isAhead := (fun _ h9 => (List.mem_cons_of_mem _ (List.mem_append_right _ h9)))
  intro n
  induction n with
  | zero =>
    intro σ l1 l2 l3 H locs ls h
    exact h.elim
  | succ n ih =>
    intro σ l1 l2 l3 H locs ls h hh hl
    have h : f_X9_isAhead_43 Q  (f_X9_isAhead_43L Q  n) σ l1 l2 l3 := h
    unfold f_X9_isAhead_43 at h
    refine lv_iload_n hx hb dX9_isAhead_43 rfl (lv_at hl 3 rfl) ?_
    refine lv_if_lt (tgt := 99) hx hb dX9_isAhead_44 (by decide) (fun c9 => ?_) (fun c9 => ?_)
    · have h := h.1 c9
      refine lv_iload_n hx hb dX9_isAhead_99 rfl (lv_at hl 1 rfl) ?_
      refine lv_iload_n hx hb dX9_isAhead_100 rfl (lv_at hl 2 rfl) ?_
      refine lv_icmp_ge (tgt := 108) hx hb dX9_isAhead_101 (by decide) (fun c9 => ?_) (fun c9 => ?_)
      · have h := h.1 c9
        refine lv_iconst (v := (0 : Int32)) hx hb dX9_isAhead_108 (by decide) ?_
        exact q_zret (ty := .boolean) E hh hr hlocks rfl h dX9_isAhead_109
      · have h := h.2 c9
        refine lv_iconst (v := (1 : Int32)) hx hb dX9_isAhead_104 (by decide) ?_
        refine lv_goto (tgt := 109) hx hb dX9_isAhead_105 (by decide) ?_
        exact q_zret (ty := .boolean) E hh hr hlocks rfl h dX9_isAhead_109
    · have h := h.2 c9
      refine lv_aload_n hx hb dX9_isAhead_47 rfl (lv_at hl 0 rfl) ?_
      refine q_get (T := TX9) (v := .ref (G.2.1 38)) E hh h_inX9 28 (WW_at_28 G σ) rfl 28 (by decide) (List.mem_cons_of_mem _ (List.mem_append_left _ (List.mem_of_getElem? (i := 2) rfl))) rfl rfl dX9_isAhead_48 ?_
      refine lv_bipush (v := (16 : Int32)) hx hb dX9_isAhead_51 (by decide) ?_
      refine lv_iload_n hx hb dX9_isAhead_53 rfl (lv_at hl 3 rfl) ?_
      refine lv_imul hx hb dX9_isAhead_54 ?_
      refine lv_iload_n hx hb dX9_isAhead_55 rfl (lv_at hl 1 rfl) ?_
      refine lv_iadd hx hb dX9_isAhead_56 ?_
      obtain ⟨h0, h⟩ := h
      refine q_iald E hh 38 (WW_at_38 G σ) h0 dX9_isAhead_57 ?_
      refine lv_istore (lv' := [(4, .int (ga σ 38 (((16 : Int32) * l3) + l1).toNatClampNeg)), (0, .ref (G.2.1 28)), (1, .int l1), (2, .int l2), (3, .int l3)]) hx hb dX9_isAhead_58 hl (by decide) rfl (fun ls hl => ?_)
      refine lv_aload_n hx hb dX9_isAhead_60 rfl (lv_at hl 1 rfl) ?_
      refine q_get (T := TX9) (v := .ref (G.2.1 38)) E hh h_inX9 28 (WW_at_28 G σ) rfl 28 (by decide) (List.mem_cons_of_mem _ (List.mem_append_left _ (List.mem_of_getElem? (i := 2) rfl))) rfl rfl dX9_isAhead_61 ?_
      refine lv_bipush (v := (16 : Int32)) hx hb dX9_isAhead_64 (by decide) ?_
      refine lv_iload_n hx hb dX9_isAhead_66 rfl (lv_at hl 4 rfl) ?_
      refine lv_imul hx hb dX9_isAhead_67 ?_
      refine lv_iload_n hx hb dX9_isAhead_68 rfl (lv_at hl 3 rfl) ?_
      refine lv_iadd hx hb dX9_isAhead_69 ?_
      obtain ⟨h0, h⟩ := h
      refine q_iald E hh 38 (WW_at_38 G σ) h0 dX9_isAhead_70 ?_
      refine lv_istore (lv' := [(5, .int (ga σ 38 (((16 : Int32) * l3) + l2).toNatClampNeg)), (4, .int (ga σ 38 (((16 : Int32) * l3) + l1).toNatClampNeg)), (0, .ref (G.2.1 28)), (1, .int l1), (2, .int l2), (3, .int l3)]) hx hb dX9_isAhead_71 hl (by decide) rfl (fun ls hl => ?_)
      refine lv_iload hx hb dX9_isAhead_73 (lv_at hl 1 rfl) ?_
      refine lv_iload hx hb dX9_isAhead_75 (lv_at hl 0 rfl) ?_
      refine lv_icmp_eq (tgt := 93) hx hb dX9_isAhead_77 (by decide) (fun c9 => ?_) (fun c9 => ?_)
      · have h := h.1 c9
        refine lv_iinc (v := (l3 + (-1))) (lv' := [(3, .int (l3 + (-1))), (5, .int (ga σ 38 (((16 : Int32) * l3) + l2).toNatClampNeg)), (4, .int (ga σ 38 (((16 : Int32) * l3) + l1).toNatClampNeg)), (0, .ref (G.2.1 28)), (1, .int l1), (2, .int l2)]) hx hb dX9_isAhead_93 hl (k := 5) rfl rfl (by decide) rfl (fun ls hl => ?_)
        refine lv_goto (tgt := 43) hx hb dX9_isAhead_96 (by decide) ?_
        exact ih _ _ _ _ _ _ _ h hh (lv_sub hl [3, 4, 5, 0] rfl)
      · have h := h.2 c9
        refine lv_iload hx hb dX9_isAhead_80 (lv_at hl 1 rfl) ?_
        refine lv_iload hx hb dX9_isAhead_82 (lv_at hl 0 rfl) ?_
        refine lv_icmp_ge (tgt := 91) hx hb dX9_isAhead_84 (by decide) (fun c9 => ?_) (fun c9 => ?_)
        · have h := h.1 c9
          refine lv_iconst (v := (0 : Int32)) hx hb dX9_isAhead_91 (by decide) ?_
          exact q_zret (ty := .boolean) E hh hr hlocks rfl h dX9_isAhead_92
        · have h := h.2 c9
          refine lv_iconst (v := (1 : Int32)) hx hb dX9_isAhead_87 (by decide) ?_
          refine lv_goto (tgt := 92) hx hb dX9_isAhead_88 (by decide) ?_
          exact q_zret (ty := .boolean) E hh hr hlocks rfl h dX9_isAhead_92
def f_X9_isAhead (σ : St) (p1 : Int32) (p2 : Int32) (Q : Int32 → St → Prop) : Prop :=
  (vp_in p1 16 ∧ (vp_in p2 16 ∧ (((ga σ 41 p1.toNatClampNeg) = (ga σ 41 p2.toNatClampNeg) → f_X9_isAhead_43L Q FU σ p1 p2 ((gi σ 42) - (1 : Int32))) ∧ (¬ (ga σ 41 p1.toNatClampNeg) = (ga σ 41 p2.toNatClampNeg) → (vp_in p1 16 ∧ (vp_in p2 16 ∧ (((ga σ 41 p2.toNatClampNeg) ≤ (ga σ 41 p1.toNatClampNeg) → Q (0 : Int32) σ) ∧ (¬ (ga σ 41 p2.toNatClampNeg) ≤ (ga σ 41 p1.toNatClampNeg) → Q (1 : Int32) σ))))))))
set_option maxHeartbeats 4000000 in
set_option maxRecDepth 100000 in
theorem c_X9_isAhead (l : Launch) (G : GG) (σ : St) (sz : Nat) (p1 : Int32) (p2 : Int32) (Q : Int32 → St → Prop) (h : f_X9_isAhead σ p1 p2 Q) : CTi l yX9_isAhead wsX9_isAhead ({ frames := 0, cells := 0, slots := 0, locals := 0 }) [.ref (G.2.1 28), .int p1, .int p2] G σ sz Q := by
  refine Met.ofW (cc := cX9_isAhead) (maxL := 6) (ret := (some .boolean)) (by decide) rfl ?_
  intro p e s m args below meth c s₁ B hml hv
  obtain ⟨rfl, hpre⟩ := hv
  have hr := B.returns
  have hlocks := B.notSynchronized
  obtain ⟨hsz, -⟩ := id hpre
  subst hsz
  obtain ⟨E, hh⟩ := EV.ofPre (⟨B.exec, B.bytes, hml, findClass_of_methodNamed B.named, atoms_spec (ws := wsX9_isAhead) B.pre⟩ : CallFix p m c cX9_isAhead 6 s _ wsX9_isAhead RX9) hpre
  have hx := E.1.1
  have hb := E.1.2.1
  have hown := E.1.2.2.2.1
  have hts := E.1.2.2.2.2
  have h_inX9 : ∀ w ∈ wsX90, w ∈ wsX9_isAhead := (fun _ h9 => (List.mem_cons_of_mem _ (List.mem_append_right _ h9)))
  have hl := lv_entry ([.ref (G.2.1 28), .int p1, .int p2]) (n := 6) (Nat.le_of_ble_eq_true rfl)
  rw [lg_entry_eq]
  generalize (lg_sl ([.ref (G.2.1 28), .int p1, .int p2]) ++ List.replicate (6 - (lg_sl ([.ref (G.2.1 28), .int p1, .int p2])).length) Slot.unset).toArray = ls at hl ⊢
  have hl : lv_has ls 6 [(0, .ref (G.2.1 28)), (1, .int p1), (2, .int p2)] := hl
  unfold f_X9_isAhead at h
  refine lv_aload_n hx hb dX9_isAhead_0 rfl (lv_at hl 0 rfl) ?_
  refine q_get (T := TX9) (v := .ref (G.2.1 41)) E hh h_inX9 28 (WW_at_28 G σ) rfl 33 (by decide) (List.mem_cons_of_mem _ (List.mem_append_left _ (List.mem_of_getElem? (i := 0) rfl))) rfl rfl dX9_isAhead_1 ?_
  refine lv_iload_n hx hb dX9_isAhead_4 rfl (lv_at hl 1 rfl) ?_
  obtain ⟨h0, h⟩ := h
  refine q_iald E hh 41 (WW_at_41 G σ) h0 dX9_isAhead_5 ?_
  refine lv_aload_n hx hb dX9_isAhead_6 rfl (lv_at hl 0 rfl) ?_
  refine q_get (T := TX9) (v := .ref (G.2.1 41)) E hh h_inX9 28 (WW_at_28 G σ) rfl 33 (by decide) (List.mem_cons_of_mem _ (List.mem_append_left _ (List.mem_of_getElem? (i := 0) rfl))) rfl rfl dX9_isAhead_7 ?_
  refine lv_iload_n hx hb dX9_isAhead_10 rfl (lv_at hl 2 rfl) ?_
  obtain ⟨h0, h⟩ := h
  refine q_iald E hh 41 (WW_at_41 G σ) h0 dX9_isAhead_11 ?_
  refine lv_icmp_eq (tgt := 36) hx hb dX9_isAhead_12 (by decide) (fun c9 => ?_) (fun c9 => ?_)
  · have h := h.1 c9
    refine lv_aload_n hx hb dX9_isAhead_36 rfl (lv_at hl 0 rfl) ?_
    refine q_get (T := TX9) (v := .int (gi σ 42)) E hh h_inX9 28 (WW_at_28 G σ) rfl 30 (by decide) (List.mem_cons_of_mem _ (List.mem_append_left _ (List.mem_of_getElem? (i := 1) rfl))) rfl rfl dX9_isAhead_37 ?_
    refine lv_iconst (v := (1 : Int32)) hx hb dX9_isAhead_40 (by decide) ?_
    refine lv_isub hx hb dX9_isAhead_41 ?_
    refine lv_istore_n (lv' := [(3, .int ((gi σ 42) - (1 : Int32))), (0, .ref (G.2.1 28)), (1, .int p1), (2, .int p2)]) hx hb dX9_isAhead_42 rfl hl (by decide) rfl (fun ls hl => ?_)
    exact w_X9_isAhead_43 E hr hlocks  FU _ _ _ _ _ _ _ h hh (lv_sub hl [1, 2, 3, 0] rfl)
  · have h := h.2 c9
    refine lv_aload_n hx hb dX9_isAhead_15 rfl (lv_at hl 0 rfl) ?_
    refine q_get (T := TX9) (v := .ref (G.2.1 41)) E hh h_inX9 28 (WW_at_28 G σ) rfl 33 (by decide) (List.mem_cons_of_mem _ (List.mem_append_left _ (List.mem_of_getElem? (i := 0) rfl))) rfl rfl dX9_isAhead_16 ?_
    refine lv_iload_n hx hb dX9_isAhead_19 rfl (lv_at hl 1 rfl) ?_
    obtain ⟨h0, h⟩ := h
    refine q_iald E hh 41 (WW_at_41 G σ) h0 dX9_isAhead_20 ?_
    refine lv_aload_n hx hb dX9_isAhead_21 rfl (lv_at hl 0 rfl) ?_
    refine q_get (T := TX9) (v := .ref (G.2.1 41)) E hh h_inX9 28 (WW_at_28 G σ) rfl 33 (by decide) (List.mem_cons_of_mem _ (List.mem_append_left _ (List.mem_of_getElem? (i := 0) rfl))) rfl rfl dX9_isAhead_22 ?_
    refine lv_iload_n hx hb dX9_isAhead_25 rfl (lv_at hl 2 rfl) ?_
    obtain ⟨h0, h⟩ := h
    refine q_iald E hh 41 (WW_at_41 G σ) h0 dX9_isAhead_26 ?_
    refine lv_icmp_ge (tgt := 34) hx hb dX9_isAhead_27 (by decide) (fun c9 => ?_) (fun c9 => ?_)
    · have h := h.1 c9
      refine lv_iconst (v := (0 : Int32)) hx hb dX9_isAhead_34 (by decide) ?_
      exact q_zret (ty := .boolean) E hh hr hlocks rfl h dX9_isAhead_35
    · have h := h.2 c9
      refine lv_iconst (v := (1 : Int32)) hx hb dX9_isAhead_30 (by decide) ?_
      refine lv_goto (tgt := 35) hx hb dX9_isAhead_31 (by decide) ?_
      exact q_zret (ty := .boolean) E hh hr hlocks rfl h dX9_isAhead_35
def f_X9_ranked_41 (Q : St → Prop) (K29 : St → Int32 → Prop) (rec : St → Int32 → Int32 → Int32 → Prop) (σ : St) (l1 : Int32) (l2 : Int32) (l3 : Int32) : Prop :=
  (((gi σ 41) ≤ l3 → (vp_in l2 16 ∧ K29 (sa σ 42 (upd (ga σ 42) l2.toNatClampNeg l1)) (l1 + 1))) ∧ (¬ (gi σ 41) ≤ l3 → ((l3 = l1 → rec σ l1 (l2 + (0 : Int32)) (l3 + 1)) ∧ (¬ l3 = l1 → f_X9_isAhead σ l3 l1 (fun r58 s58 => ((r58 = 0 → rec s58 l1 (l2 + (0 : Int32)) (l3 + 1)) ∧ (¬ r58 = 0 → rec s58 l1 (l2 + (1 : Int32)) (l3 + 1))))))))
def f_X9_ranked_41L (Q : St → Prop) (K29 : St → Int32 → Prop) : Nat → St → Int32 → Int32 → Int32 → Prop
  | 0, _, _, _, _ => False
  | n + 1, σ, l1, l2, l3 => f_X9_ranked_41 Q K29 (f_X9_ranked_41L Q K29 n) σ l1 l2 l3
set_option maxHeartbeats 4000000 in
set_option maxRecDepth 100000 in
theorem w_X9_ranked_41 {p : Program} {l : Launch} {e : Env} {s : State} {m : MethodId} {args : Array Value} {below : List Frame} {meth : Method} {c : Code} {G : GG} (E : EV p s m args c cX9_ranked 4 wsX9_ranked RX9 G (AD G s.heap.size)) (hr : meth.sig.returnType = none) (hlocks : meth.locks = false) {Q : St → Prop} {K29 : St → Int32 → Prop} (hK29 : ∀ (σ : St) (l1 : Int32) (H : Heap) (locs : List Loc) (ls : Array Slot), K29 σ l1 → HH G (AD G s.heap.size) s σ H locs → lv_has ls 4 [(0, .ref (G.2.1 28)), (1, .int l1)] → W p l e ({ frames := 1, cells := 0, slots := 0, locals := 25 }) s m args below meth c H locs 0 0 (MQv below G args s Q) (F0 m 29 ls [])) : ∀ (n : Nat) (σ : St) (l1 : Int32) (l2 : Int32) (l3 : Int32) (H : Heap) (locs : List Loc) (ls : Array Slot), f_X9_ranked_41L Q K29 n σ l1 l2 l3 → HH G (AD G s.heap.size) s σ H locs → lv_has ls 4 [(0, .ref (G.2.1 28)), (1, .int l1), (2, .int l2), (3, .int l3)] → W p l e ({ frames := 1, cells := 0, slots := 0, locals := 25 }) s m args below meth c H locs 0 0 (MQv below G args s Q) (F0 m 41 ls []) := by
  have hx := E.1.1
  have hb := E.1.2.1
  have hown := E.1.2.2.2.1
  have hts := E.1.2.2.2.2
  have h_inX9 : ∀ w ∈ wsX90, w ∈ wsX9_ranked := (fun _ h9 => (List.mem_cons_of_mem _ (List.mem_append_right _ h9)))
  intro n
  induction n with
  | zero =>
    intro σ l1 l2 l3 H locs ls h
    exact h.elim
  | succ n ih =>
    intro σ l1 l2 l3 H locs ls h hh hl
    have h : f_X9_ranked_41 Q K29 (f_X9_ranked_41L Q K29 n) σ l1 l2 l3 := h
    unfold f_X9_ranked_41 at h
    refine lv_iload_n hx hb dX9_ranked_41 rfl (lv_at hl 3 rfl) ?_
    refine lv_aload_n hx hb dX9_ranked_42 rfl (lv_at hl 0 rfl) ?_
    refine q_get (T := TX9) (v := .int (gi σ 41)) E hh h_inX9 28 (WW_at_28 G σ) rfl 27 (by decide) (List.mem_cons_of_mem _ (List.mem_append_left _ (List.mem_of_getElem? (i := 0) rfl))) rfl rfl dX9_ranked_43 ?_
    refine lv_icmp_ge (tgt := 77) hx hb dX9_ranked_46 (by decide) (fun c9 => ?_) (fun c9 => ?_)
    · have h := h.1 c9
      refine lv_aload_n hx hb dX9_ranked_77 rfl (lv_at hl 0 rfl) ?_
      refine q_get (T := TX9) (v := .ref (G.2.1 42)) E hh h_inX9 28 (WW_at_28 G σ) rfl 34 (by decide) (List.mem_cons_of_mem _ (List.mem_append_left _ (List.mem_of_getElem? (i := 2) rfl))) rfl rfl dX9_ranked_78 ?_
      refine lv_iload_n hx hb dX9_ranked_81 rfl (lv_at hl 2 rfl) ?_
      refine lv_iload_n hx hb dX9_ranked_82 rfl (lv_at hl 1 rfl) ?_
      obtain ⟨h0, h⟩ := h
      refine q_iast E hh 42 (WW_at_42 G σ) h0 dX9_ranked_83 (WW_sa_42 G σ (upd (ga σ 42) l2.toNatClampNeg l1)) (fun H locs hh => ?_)
      refine lv_iinc (v := (l1 + 1)) (lv' := [(1, .int (l1 + 1)), (0, .ref (G.2.1 28)), (2, .int l2), (3, .int l3)]) hx hb dX9_ranked_84 hl (k := 1) rfl rfl (by decide) rfl (fun ls hl => ?_)
      refine lv_goto (tgt := 29) hx hb dX9_ranked_87 (by decide) ?_
      exact hK29 _ _ _ _ _ h hh (lv_sub hl [1, 0] rfl)
    · have h := h.2 c9
      refine lv_iload_n hx hb dX9_ranked_49 rfl (lv_at hl 2 rfl) ?_
      refine lv_iload_n hx hb dX9_ranked_50 rfl (lv_at hl 3 rfl) ?_
      refine lv_iload_n hx hb dX9_ranked_51 rfl (lv_at hl 1 rfl) ?_
      refine lv_icmp_eq (tgt := 68) hx hb dX9_ranked_52 (by decide) (fun c9 => ?_) (fun c9 => ?_)
      · have h := h.1 c9
        refine lv_iconst (v := (0 : Int32)) hx hb dX9_ranked_68 (by decide) ?_
        refine lv_iadd hx hb dX9_ranked_69 ?_
        refine lv_istore_n (lv' := [(2, .int (l2 + (0 : Int32))), (0, .ref (G.2.1 28)), (1, .int l1), (3, .int l3)]) hx hb dX9_ranked_70 rfl hl (by decide) rfl (fun ls hl => ?_)
        refine lv_iinc (v := (l3 + 1)) (lv' := [(3, .int (l3 + 1)), (2, .int (l2 + (0 : Int32))), (0, .ref (G.2.1 28)), (1, .int l1)]) hx hb dX9_ranked_71 hl (k := 3) rfl rfl (by decide) rfl (fun ls hl => ?_)
        refine lv_goto (tgt := 41) hx hb dX9_ranked_74 (by decide) ?_
        exact ih _ _ _ _ _ _ _ h hh (lv_sub hl [2, 3, 1, 0] rfl)
      · have h := h.2 c9
        refine lv_aload_n hx hb dX9_ranked_55 rfl (lv_at hl 0 rfl) ?_
        refine lv_iload_n hx hb dX9_ranked_56 rfl (lv_at hl 3 rfl) ?_
        refine lv_iload_n hx hb dX9_ranked_57 rfl (lv_at hl 1 rfl) ?_
        refine q_Vi (As := [.int l3, .int l1]) (rest := [.int l2]) E hh (c_X9_isAhead l G _ _ _ _ _ h) (cwV 2 hts gX9_ranked_X9_isAhead rfl rfl rfl (by decide +kernel) ⟨Nat.le_of_ble_eq_true rfl, Nat.le_of_ble_eq_true rfl⟩) (va_recv (ci := 9) E.2.1 hh.1 rfl (WW_at_28 G σ)) rfl hl.1 rfl (Nat.le_of_ble_eq_true rfl) dX9_ranked_58 ⟨Nat.zero_le _, Nat.zero_le _⟩ (fun r58 s58 H locs h hh => ?_)
        refine lv_if_eq (tgt := 68) hx hb dX9_ranked_61 (by decide) (fun c9 => ?_) (fun c9 => ?_)
        · have h := h.1 c9
          refine lv_iconst (v := (0 : Int32)) hx hb dX9_ranked_68 (by decide) ?_
          refine lv_iadd hx hb dX9_ranked_69 ?_
          refine lv_istore_n (lv' := [(2, .int (l2 + (0 : Int32))), (0, .ref (G.2.1 28)), (1, .int l1), (3, .int l3)]) hx hb dX9_ranked_70 rfl hl (by decide) rfl (fun ls hl => ?_)
          refine lv_iinc (v := (l3 + 1)) (lv' := [(3, .int (l3 + 1)), (2, .int (l2 + (0 : Int32))), (0, .ref (G.2.1 28)), (1, .int l1)]) hx hb dX9_ranked_71 hl (k := 3) rfl rfl (by decide) rfl (fun ls hl => ?_)
          refine lv_goto (tgt := 41) hx hb dX9_ranked_74 (by decide) ?_
          exact ih _ _ _ _ _ _ _ h hh (lv_sub hl [2, 3, 1, 0] rfl)
        · have h := h.2 c9
          refine lv_iconst (v := (1 : Int32)) hx hb dX9_ranked_64 (by decide) ?_
          refine lv_goto (tgt := 69) hx hb dX9_ranked_65 (by decide) ?_
          refine lv_iadd hx hb dX9_ranked_69 ?_
          refine lv_istore_n (lv' := [(2, .int (l2 + (1 : Int32))), (0, .ref (G.2.1 28)), (1, .int l1), (3, .int l3)]) hx hb dX9_ranked_70 rfl hl (by decide) rfl (fun ls hl => ?_)
          refine lv_iinc (v := (l3 + 1)) (lv' := [(3, .int (l3 + 1)), (2, .int (l2 + (1 : Int32))), (0, .ref (G.2.1 28)), (1, .int l1)]) hx hb dX9_ranked_71 hl (k := 3) rfl rfl (by decide) rfl (fun ls hl => ?_)
          refine lv_goto (tgt := 41) hx hb dX9_ranked_74 (by decide) ?_
          exact ih _ _ _ _ _ _ _ h hh (lv_sub hl [2, 3, 1, 0] rfl)
def f_X9_ranked_29 (Q : St → Prop)  (rec : St → Int32 → Prop) (σ : St) (l1 : Int32) : Prop :=
  (((gi σ 41) ≤ l1 → Q σ) ∧ (¬ (gi σ 41) ≤ l1 → f_X9_ranked_41L Q rec FU σ l1 (0 : Int32) (0 : Int32)))
def f_X9_ranked_29L (Q : St → Prop)  : Nat → St → Int32 → Prop
  | 0, _, _ => False
  | n + 1, σ, l1 => f_X9_ranked_29 Q  (f_X9_ranked_29L Q  n) σ l1
set_option maxHeartbeats 4000000 in
set_option maxRecDepth 100000 in
theorem w_X9_ranked_29 {p : Program} {l : Launch} {e : Env} {s : State} {m : MethodId} {args : Array Value} {below : List Frame} {meth : Method} {c : Code} {G : GG} (E : EV p s m args c cX9_ranked 4 wsX9_ranked RX9 G (AD G s.heap.size)) (hr : meth.sig.returnType = none) (hlocks : meth.locks = false) {Q : St → Prop}  : ∀ (n : Nat) (σ : St) (l1 : Int32) (H : Heap) (locs : List Loc) (ls : Array Slot), f_X9_ranked_29L Q  n σ l1 → HH G (AD G s.heap.size) s σ H locs → lv_has ls 4 [(0, .ref (G.2.1 28)), (1, .int l1)] → W p l e ({ frames := 1, cells := 0, slots := 0, locals := 25 }) s m args below meth c H locs 0 0 (MQv below G args s Q) (F0 m 29 ls []) := by
  have hx := E.1.1
  have hb := E.1.2.1
  have hown := E.1.2.2.2.1
  have hts := E.1.2.2.2.2
  have h_inX9 : ∀ w ∈ wsX90, w ∈ wsX9_ranked := (fun _ h9 => (List.mem_cons_of_mem _ (List.mem_append_right _ h9)))
  intro n
  induction n with
  | zero =>
    intro σ l1 H locs ls h
    exact h.elim
  | succ n ih =>
    intro σ l1 H locs ls h hh hl
    have h : f_X9_ranked_29 Q  (f_X9_ranked_29L Q  n) σ l1 := h
    unfold f_X9_ranked_29 at h
    refine lv_iload_n hx hb dX9_ranked_29 rfl (lv_at hl 1 rfl) ?_
    refine lv_aload_n hx hb dX9_ranked_30 rfl (lv_at hl 0 rfl) ?_
    refine q_get (T := TX9) (v := .int (gi σ 41)) E hh h_inX9 28 (WW_at_28 G σ) rfl 27 (by decide) (List.mem_cons_of_mem _ (List.mem_append_left _ (List.mem_of_getElem? (i := 0) rfl))) rfl rfl dX9_ranked_31 ?_
    refine lv_icmp_ge (tgt := 90) hx hb dX9_ranked_34 (by decide) (fun c9 => ?_) (fun c9 => ?_)
    · have h := h.1 c9
      exact q_vret E hh hr hlocks h dX9_ranked_90
    · have h := h.2 c9
      refine lv_iconst (v := (0 : Int32)) hx hb dX9_ranked_37 (by decide) ?_
      refine lv_istore_n (lv' := [(2, .int (0 : Int32)), (0, .ref (G.2.1 28)), (1, .int l1)]) hx hb dX9_ranked_38 rfl hl (by decide) rfl (fun ls hl => ?_)
      refine lv_iconst (v := (0 : Int32)) hx hb dX9_ranked_39 (by decide) ?_
      refine lv_istore_n (lv' := [(3, .int (0 : Int32)), (2, .int (0 : Int32)), (0, .ref (G.2.1 28)), (1, .int l1)]) hx hb dX9_ranked_40 rfl hl (by decide) rfl (fun ls hl => ?_)
      exact w_X9_ranked_41 E hr hlocks ih FU _ _ _ _ _ _ _ h hh (lv_sub hl [2, 3, 1, 0] rfl)
def f_X9_ranked_2 (Q : St → Prop)  (rec : St → Int32 → Prop) (σ : St) (l1 : Int32) : Prop :=
  (((gi σ 41) ≤ l1 → f_X9_ranked_29L Q FU σ (0 : Int32)) ∧ (¬ (gi σ 41) ≤ l1 → f_X9_scoreOf σ l1 (fun r17 s17 => (vp_in l1 16 ∧ rec (sa s17 41 (upd (ga s17 41) l1.toNatClampNeg r17)) (l1 + 1)))))
def f_X9_ranked_2L (Q : St → Prop)  : Nat → St → Int32 → Prop
  | 0, _, _ => False
  | n + 1, σ, l1 => f_X9_ranked_2 Q  (f_X9_ranked_2L Q  n) σ l1
set_option maxHeartbeats 4000000 in
set_option maxRecDepth 100000 in
theorem w_X9_ranked_2 {p : Program} {l : Launch} {e : Env} {s : State} {m : MethodId} {args : Array Value} {below : List Frame} {meth : Method} {c : Code} {G : GG} (E : EV p s m args c cX9_ranked 4 wsX9_ranked RX9 G (AD G s.heap.size)) (hr : meth.sig.returnType = none) (hlocks : meth.locks = false) {Q : St → Prop}  : ∀ (n : Nat) (σ : St) (l1 : Int32) (H : Heap) (locs : List Loc) (ls : Array Slot), f_X9_ranked_2L Q  n σ l1 → HH G (AD G s.heap.size) s σ H locs → lv_has ls 4 [(0, .ref (G.2.1 28)), (1, .int l1)] → W p l e ({ frames := 1, cells := 0, slots := 0, locals := 25 }) s m args below meth c H locs 0 0 (MQv below G args s Q) (F0 m 2 ls []) := by
  have hx := E.1.1
  have hb := E.1.2.1
  have hown := E.1.2.2.2.1
  have hts := E.1.2.2.2.2
  have h_inX9 : ∀ w ∈ wsX90, w ∈ wsX9_ranked := (fun _ h9 => (List.mem_cons_of_mem _ (List.mem_append_right _ h9)))
  intro n
  induction n with
  | zero =>
    intro σ l1 H locs ls h
    exact h.elim
  | succ n ih =>
    intro σ l1 H locs ls h hh hl
    have h : f_X9_ranked_2 Q  (f_X9_ranked_2L Q  n) σ l1 := h
    unfold f_X9_ranked_2 at h
    refine lv_iload_n hx hb dX9_ranked_2 rfl (lv_at hl 1 rfl) ?_
    refine lv_aload_n hx hb dX9_ranked_3 rfl (lv_at hl 0 rfl) ?_
    refine q_get (T := TX9) (v := .int (gi σ 41)) E hh h_inX9 28 (WW_at_28 G σ) rfl 27 (by decide) (List.mem_cons_of_mem _ (List.mem_append_left _ (List.mem_of_getElem? (i := 0) rfl))) rfl rfl dX9_ranked_4 ?_
    refine lv_icmp_ge (tgt := 27) hx hb dX9_ranked_7 (by decide) (fun c9 => ?_) (fun c9 => ?_)
    · have h := h.1 c9
      refine lv_iconst (v := (0 : Int32)) hx hb dX9_ranked_27 (by decide) ?_
      refine lv_istore_n (lv' := [(1, .int (0 : Int32)), (0, .ref (G.2.1 28))]) hx hb dX9_ranked_28 rfl hl (by decide) rfl (fun ls hl => ?_)
      exact w_X9_ranked_29 E hr hlocks  FU _ _ _ _ _ h hh (lv_sub hl [1, 0] rfl)
    · have h := h.2 c9
      refine lv_aload_n hx hb dX9_ranked_10 rfl (lv_at hl 0 rfl) ?_
      refine q_get (T := TX9) (v := .ref (G.2.1 41)) E hh h_inX9 28 (WW_at_28 G σ) rfl 33 (by decide) (List.mem_cons_of_mem _ (List.mem_append_left _ (List.mem_of_getElem? (i := 1) rfl))) rfl rfl dX9_ranked_11 ?_
      refine lv_iload_n hx hb dX9_ranked_14 rfl (lv_at hl 1 rfl) ?_
      refine lv_aload_n hx hb dX9_ranked_15 rfl (lv_at hl 0 rfl) ?_
      refine lv_iload_n hx hb dX9_ranked_16 rfl (lv_at hl 1 rfl) ?_
      refine q_Vi (As := [.int l1]) (rest := [.int l1, .ref (G.2.1 41)]) E hh (c_X9_scoreOf l G _ _ _ _ h) (cwV 1 hts gX9_ranked_X9_scoreOf rfl rfl rfl (by decide +kernel) ⟨Nat.le_of_ble_eq_true rfl, Nat.le_of_ble_eq_true rfl⟩) (va_recv (ci := 9) E.2.1 hh.1 rfl (WW_at_28 G σ)) rfl hl.1 rfl (Nat.le_of_ble_eq_true rfl) dX9_ranked_17 ⟨Nat.zero_le _, Nat.zero_le _⟩ (fun r17 s17 H locs h hh => ?_)
      obtain ⟨h0, h⟩ := h
      refine q_iast E hh 41 (WW_at_41 G s17) h0 dX9_ranked_20 (WW_sa_41 G s17 (upd (ga s17 41) l1.toNatClampNeg r17)) (fun H locs hh => ?_)
      refine lv_iinc (v := (l1 + 1)) (lv' := [(1, .int (l1 + 1)), (0, .ref (G.2.1 28))]) hx hb dX9_ranked_21 hl (k := 1) rfl rfl (by decide) rfl (fun ls hl => ?_)
      refine lv_goto (tgt := 2) hx hb dX9_ranked_24 (by decide) ?_
      exact ih _ _ _ _ _ h hh (lv_sub hl [1, 0] rfl)
def f_X9_ranked (σ : St)  (Q : St → Prop) : Prop :=
  f_X9_ranked_2L Q FU σ (0 : Int32)
set_option maxHeartbeats 4000000 in
set_option maxRecDepth 100000 in
theorem c_X9_ranked (l : Launch) (G : GG) (σ : St) (sz : Nat)  (Q : St → Prop) (h : f_X9_ranked σ  Q) : CTv l yX9_ranked wsX9_ranked ({ frames := 1, cells := 0, slots := 0, locals := 25 }) [.ref (G.2.1 28)] G σ sz Q := by
  refine Met.ofW (cc := cX9_ranked) (maxL := 4) (ret := none) (by decide) rfl ?_
  intro p e s m args below meth c s₁ B hml hv
  obtain ⟨rfl, hpre⟩ := hv
  have hr := B.returns
  have hlocks := B.notSynchronized
  obtain ⟨hsz, -⟩ := id hpre
  subst hsz
  obtain ⟨E, hh⟩ := EV.ofPre (⟨B.exec, B.bytes, hml, findClass_of_methodNamed B.named, atoms_spec (ws := wsX9_ranked) B.pre⟩ : CallFix p m c cX9_ranked 4 s _ wsX9_ranked RX9) hpre
  have hx := E.1.1
  have hb := E.1.2.1
  have hown := E.1.2.2.2.1
  have hts := E.1.2.2.2.2
  have h_inX9 : ∀ w ∈ wsX90, w ∈ wsX9_ranked := (fun _ h9 => (List.mem_cons_of_mem _ (List.mem_append_right _ h9)))
  have hl := lv_entry ([.ref (G.2.1 28)]) (n := 4) (Nat.le_of_ble_eq_true rfl)
  rw [lg_entry_eq]
  generalize (lg_sl ([.ref (G.2.1 28)]) ++ List.replicate (4 - (lg_sl ([.ref (G.2.1 28)])).length) Slot.unset).toArray = ls at hl ⊢
  have hl : lv_has ls 4 [(0, .ref (G.2.1 28))] := hl
  unfold f_X9_ranked at h
  refine lv_iconst (v := (0 : Int32)) hx hb dX9_ranked_0 (by decide) ?_
  refine lv_istore_n (lv' := [(1, .int (0 : Int32)), (0, .ref (G.2.1 28))]) hx hb dX9_ranked_1 rfl hl (by decide) rfl (fun ls hl => ?_)
  exact w_X9_ranked_2 E hr hlocks  FU _ _ _ _ _ h hh (lv_sub hl [1, 0] rfl)
def f_X9_rank (σ : St) (p1 : Int32) (Q : Int32 → St → Prop) : Prop :=
  f_X9_ranked (si σ 23 (0 : Int32)) (fun s6 => f_X9_isBoat s6 p1 (fun r11 s11 => ((r11 = 0 → Q (-1 : Int32) s11) ∧ (¬ r11 = 0 → (vp_in p1 16 ∧ Q (ga s11 42 p1.toNatClampNeg) s11)))))
set_option maxHeartbeats 4000000 in
set_option maxRecDepth 100000 in
theorem c_X9_rank (l : Launch) (G : GG) (σ : St) (sz : Nat) (p1 : Int32) (Q : Int32 → St → Prop) (h : f_X9_rank σ p1 Q) : CTi l yX9_rank wsX9_rank ({ frames := 2, cells := 0, slots := 0, locals := 48 }) [.ref (G.2.1 28), .int p1] G σ sz Q := by
  refine Met.ofW (cc := cX9_rank) (maxL := 2) (ret := (some .int)) (by decide) rfl ?_
  intro p e s m args below meth c s₁ B hml hv
  obtain ⟨rfl, hpre⟩ := hv
  have hr := B.returns
  have hlocks := B.notSynchronized
  obtain ⟨hsz, -⟩ := id hpre
  subst hsz
  obtain ⟨E, hh⟩ := EV.ofPre (⟨B.exec, B.bytes, hml, findClass_of_methodNamed B.named, atoms_spec (ws := wsX9_rank) B.pre⟩ : CallFix p m c cX9_rank 2 s _ wsX9_rank RX9) hpre
  have hx := E.1.1
  have hb := E.1.2.1
  have hown := E.1.2.2.2.1
  have hts := E.1.2.2.2.2
  have h_inX9 : ∀ w ∈ wsX90, w ∈ wsX9_rank := (fun _ h9 => (List.mem_cons_of_mem _ (List.mem_append_right _ h9)))
  have hl := lv_entry ([.ref (G.2.1 28), .int p1]) (n := 2) (Nat.le_of_ble_eq_true rfl)
  rw [lg_entry_eq]
  generalize (lg_sl ([.ref (G.2.1 28), .int p1]) ++ List.replicate (2 - (lg_sl ([.ref (G.2.1 28), .int p1])).length) Slot.unset).toArray = ls at hl ⊢
  have hl : lv_has ls 2 [(0, .ref (G.2.1 28)), (1, .int p1)] := hl
  unfold f_X9_rank at h
  refine lv_aload_n hx hb dX9_rank_0 rfl (lv_at hl 0 rfl) ?_
  refine lv_iconst (v := (0 : Int32)) hx hb dX9_rank_1 (by decide) ?_
  refine q_put (T := TX9) E hh h_inX9 tyX9 tyX9_ok nmX9 28 (WW_at_28 G σ) rfl 0 (by decide) (List.mem_cons_of_mem _ (List.mem_append_left _ (List.mem_append_left _ (List.mem_of_getElem? (i := 0) rfl)))) rfl rfl (by decide +kernel) (Nat.le_of_ble_eq_true rfl) dX9_rank_2 (WW_si_23 G σ (0 : Int32)) (fun H locs hh => ?_)
  refine lv_aload_n hx hb dX9_rank_5 rfl (lv_at hl 0 rfl) ?_
  refine q_Vv (As := []) (rest := []) E hh (c_X9_ranked l G _ _  _ h) (cwV 0 hts gX9_rank_X9_ranked rfl rfl rfl (by decide +kernel) ⟨Nat.le_of_ble_eq_true rfl, Nat.le_of_ble_eq_true rfl⟩) (va_recv (ci := 9) E.2.1 hh.1 rfl (WW_at_28 G (si σ 23 (0 : Int32)))) rfl hl.1 rfl (Nat.le_of_ble_eq_true rfl) dX9_rank_6 ⟨Nat.zero_le _, Nat.zero_le _⟩ (fun s6 H locs h hh => ?_)
  refine lv_aload_n hx hb dX9_rank_9 rfl (lv_at hl 0 rfl) ?_
  refine lv_iload_n hx hb dX9_rank_10 rfl (lv_at hl 1 rfl) ?_
  refine q_Vi (As := [.int p1]) (rest := []) E hh (c_X9_isBoat l G _ _ _ _ h) (cwV 1 hts gX9_rank_X9_isBoat rfl rfl rfl (by decide +kernel) ⟨Nat.le_of_ble_eq_true rfl, Nat.le_of_ble_eq_true rfl⟩) (va_recv (ci := 9) E.2.1 hh.1 rfl (WW_at_28 G s6)) rfl hl.1 rfl (Nat.le_of_ble_eq_true rfl) dX9_rank_11 ⟨Nat.zero_le _, Nat.zero_le _⟩ (fun r11 s11 H locs h hh => ?_)
  refine lv_if_eq (tgt := 26) hx hb dX9_rank_14 (by decide) (fun c9 => ?_) (fun c9 => ?_)
  · have h := h.1 c9
    refine lv_iconst (v := (-1 : Int32)) hx hb dX9_rank_26 (by decide) ?_
    exact q_iret E hh hr hlocks h dX9_rank_27
  · have h := h.2 c9
    refine lv_aload_n hx hb dX9_rank_17 rfl (lv_at hl 0 rfl) ?_
    refine q_get (T := TX9) (v := .ref (G.2.1 42)) E hh h_inX9 28 (WW_at_28 G s11) rfl 34 (by decide) (List.mem_cons_of_mem _ (List.mem_append_left _ (List.mem_append_left _ (List.mem_of_getElem? (i := 1) rfl)))) rfl rfl dX9_rank_18 ?_
    refine lv_iload_n hx hb dX9_rank_21 rfl (lv_at hl 1 rfl) ?_
    obtain ⟨h0, h⟩ := h
    refine q_iald E hh 42 (WW_at_42 G s11) h0 dX9_rank_22 ?_
    refine lv_goto (tgt := 27) hx hb dX9_rank_23 (by decide) ?_
    exact q_iret E hh hr hlocks h dX9_rank_27
def f_X9_part_36 (Q : Int32 → St → Prop)  (rec : St → Int32 → Int32 → Prop) (σ : St) (l1 : Int32) (l2 : Int32) : Prop :=
  (((gi σ 41) ≤ l2 → (((gi σ 41) ≤ l1 → Q (gi σ 41) σ) ∧ (¬ (gi σ 41) ≤ l1 → Q l1 σ))) ∧ (¬ (gi σ 41) ≤ l2 → (vp_in l2 16 ∧ ((l1 ≤ l2 → (vp_in (ga σ 42 l2.toNatClampNeg) 16 ∧ rec (sa σ 43 (upd (ga σ 43) (ga σ 42 l2.toNatClampNeg).toNatClampNeg (1 : Int32))) l1 (l2 + 1))) ∧ (¬ l1 ≤ l2 → (vp_in (ga σ 42 l2.toNatClampNeg) 16 ∧ rec (sa σ 43 (upd (ga σ 43) (ga σ 42 l2.toNatClampNeg).toNatClampNeg (0 : Int32))) l1 (l2 + 1)))))))
def f_X9_part_36L (Q : Int32 → St → Prop)  : Nat → St → Int32 → Int32 → Prop
  | 0, _, _, _ => False
  | n + 1, σ, l1, l2 => f_X9_part_36 Q  (f_X9_part_36L Q  n) σ l1 l2
set_option maxHeartbeats 4000000 in
set_option maxRecDepth 100000 in
theorem w_X9_part_36 {p : Program} {l : Launch} {e : Env} {s : State} {m : MethodId} {args : Array Value} {below : List Frame} {meth : Method} {c : Code} {G : GG} (E : EV p s m args c cX9_part 3 wsX9_part RX9 G (AD G s.heap.size)) (hr : meth.sig.returnType = (some .int)) (hlocks : meth.locks = false) {Q : Int32 → St → Prop}  : ∀ (n : Nat) (σ : St) (l1 : Int32) (l2 : Int32) (H : Heap) (locs : List Loc) (ls : Array Slot), f_X9_part_36L Q  n σ l1 l2 → HH G (AD G s.heap.size) s σ H locs → lv_has ls 3 [(0, .ref (G.2.1 28)), (1, .int l1), (2, .int l2)] → W p l e ({ frames := 2, cells := 0, slots := 0, locals := 48 }) s m args below meth c H locs 0 0 (MQi below G args s Q) (F0 m 36 ls []) := by
  have hx := E.1.1
  have hb := E.1.2.1
  have hown := E.1.2.2.2.1
  have hts := E.1.2.2.2.2
  have h_inX9 : ∀ w ∈ wsX90, w ∈ wsX9_part := (fun _ h9 => (List.mem_cons_of_mem _ (List.mem_append_right _ h9)))
  intro n
  induction n with
  | zero =>
    intro σ l1 l2 H locs ls h
    exact h.elim
  | succ n ih =>
    intro σ l1 l2 H locs ls h hh hl
    have h : f_X9_part_36 Q  (f_X9_part_36L Q  n) σ l1 l2 := h
    unfold f_X9_part_36 at h
    refine lv_iload_n hx hb dX9_part_36 rfl (lv_at hl 2 rfl) ?_
    refine lv_aload_n hx hb dX9_part_37 rfl (lv_at hl 0 rfl) ?_
    refine q_get (T := TX9) (v := .int (gi σ 41)) E hh h_inX9 28 (WW_at_28 G σ) rfl 27 (by decide) (List.mem_cons_of_mem _ (List.mem_append_left _ (List.mem_append_left _ (List.mem_of_getElem? (i := 1) rfl)))) rfl rfl dX9_part_38 ?_
    refine lv_icmp_ge (tgt := 71) hx hb dX9_part_41 (by decide) (fun c9 => ?_) (fun c9 => ?_)
    · have h := h.1 c9
      refine lv_iload_n hx hb dX9_part_71 rfl (lv_at hl 1 rfl) ?_
      refine lv_aload_n hx hb dX9_part_72 rfl (lv_at hl 0 rfl) ?_
      refine q_get (T := TX9) (v := .int (gi σ 41)) E hh h_inX9 28 (WW_at_28 G σ) rfl 27 (by decide) (List.mem_cons_of_mem _ (List.mem_append_left _ (List.mem_append_left _ (List.mem_of_getElem? (i := 1) rfl)))) rfl rfl dX9_part_73 ?_
      refine lv_icmp_ge (tgt := 83) hx hb dX9_part_76 (by decide) (fun c9 => ?_) (fun c9 => ?_)
      · have h := h.1 c9
        refine lv_aload_n hx hb dX9_part_83 rfl (lv_at hl 0 rfl) ?_
        refine q_get (T := TX9) (v := .int (gi σ 41)) E hh h_inX9 28 (WW_at_28 G σ) rfl 27 (by decide) (List.mem_cons_of_mem _ (List.mem_append_left _ (List.mem_append_left _ (List.mem_of_getElem? (i := 1) rfl)))) rfl rfl dX9_part_84 ?_
        exact q_iret E hh hr hlocks h dX9_part_87
      · have h := h.2 c9
        refine lv_iload_n hx hb dX9_part_79 rfl (lv_at hl 1 rfl) ?_
        refine lv_goto (tgt := 87) hx hb dX9_part_80 (by decide) ?_
        exact q_iret E hh hr hlocks h dX9_part_87
    · have h := h.2 c9
      refine lv_aload_n hx hb dX9_part_44 rfl (lv_at hl 0 rfl) ?_
      refine q_get (T := TX9) (v := .ref (G.2.1 43)) E hh h_inX9 28 (WW_at_28 G σ) rfl 35 (by decide) (List.mem_cons_of_mem _ (List.mem_append_left _ (List.mem_append_left _ (List.mem_of_getElem? (i := 2) rfl)))) rfl rfl dX9_part_45 ?_
      refine lv_aload_n hx hb dX9_part_48 rfl (lv_at hl 0 rfl) ?_
      refine q_get (T := TX9) (v := .ref (G.2.1 42)) E hh h_inX9 28 (WW_at_28 G σ) rfl 34 (by decide) (List.mem_cons_of_mem _ (List.mem_append_left _ (List.mem_append_left _ (List.mem_of_getElem? (i := 3) rfl)))) rfl rfl dX9_part_49 ?_
      refine lv_iload_n hx hb dX9_part_52 rfl (lv_at hl 2 rfl) ?_
      obtain ⟨h0, h⟩ := h
      refine q_iald E hh 42 (WW_at_42 G σ) h0 dX9_part_53 ?_
      refine lv_iload_n hx hb dX9_part_54 rfl (lv_at hl 2 rfl) ?_
      refine lv_iload_n hx hb dX9_part_55 rfl (lv_at hl 1 rfl) ?_
      refine lv_icmp_ge (tgt := 63) hx hb dX9_part_56 (by decide) (fun c9 => ?_) (fun c9 => ?_)
      · have h := h.1 c9
        refine lv_iconst (v := (1 : Int32)) hx hb dX9_part_63 (by decide) ?_
        obtain ⟨h0, h⟩ := h
        refine q_iast E hh 43 (WW_at_43 G σ) h0 dX9_part_64 (WW_sa_43 G σ (upd (ga σ 43) (ga σ 42 l2.toNatClampNeg).toNatClampNeg (1 : Int32))) (fun H locs hh => ?_)
        refine lv_iinc (v := (l2 + 1)) (lv' := [(2, .int (l2 + 1)), (0, .ref (G.2.1 28)), (1, .int l1)]) hx hb dX9_part_65 hl (k := 2) rfl rfl (by decide) rfl (fun ls hl => ?_)
        refine lv_goto (tgt := 36) hx hb dX9_part_68 (by decide) ?_
        exact ih _ _ _ _ _ _ h hh (lv_sub hl [1, 2, 0] rfl)
      · have h := h.2 c9
        refine lv_iconst (v := (0 : Int32)) hx hb dX9_part_59 (by decide) ?_
        refine lv_goto (tgt := 64) hx hb dX9_part_60 (by decide) ?_
        obtain ⟨h0, h⟩ := h
        refine q_iast E hh 43 (WW_at_43 G σ) h0 dX9_part_64 (WW_sa_43 G σ (upd (ga σ 43) (ga σ 42 l2.toNatClampNeg).toNatClampNeg (0 : Int32))) (fun H locs hh => ?_)
        refine lv_iinc (v := (l2 + 1)) (lv' := [(2, .int (l2 + 1)), (0, .ref (G.2.1 28)), (1, .int l1)]) hx hb dX9_part_65 hl (k := 2) rfl rfl (by decide) rfl (fun ls hl => ?_)
        refine lv_goto (tgt := 36) hx hb dX9_part_68 (by decide) ?_
        exact ih _ _ _ _ _ _ h hh (lv_sub hl [1, 2, 0] rfl)
def f_X9_part (σ : St) (p1 : Int32) (Q : Int32 → St → Prop) : Prop :=
  ((p1 < 0 → f_X9_bad (si σ 23 (0 : Int32)) (1 : Int32) (1 : Int32) (fun r22 s22 => ((r22 = 0 → f_X9_ranked s22 (fun s31 => f_X9_part_36L Q FU s31 p1 (0 : Int32))) ∧ (¬ r22 = 0 → Q (0 : Int32) s22)))) ∧ (¬ p1 < 0 → ((p1 ≤ (16 : Int32) → f_X9_bad (si σ 23 (0 : Int32)) (0 : Int32) (1 : Int32) (fun r22 s22 => ((r22 = 0 → f_X9_ranked s22 (fun s31 => f_X9_part_36L Q FU s31 p1 (0 : Int32))) ∧ (¬ r22 = 0 → Q (0 : Int32) s22)))) ∧ (¬ p1 ≤ (16 : Int32) → f_X9_bad (si σ 23 (0 : Int32)) (1 : Int32) (1 : Int32) (fun r22 s22 => ((r22 = 0 → f_X9_ranked s22 (fun s31 => f_X9_part_36L Q FU s31 p1 (0 : Int32))) ∧ (¬ r22 = 0 → Q (0 : Int32) s22)))))))
set_option maxHeartbeats 4000000 in
set_option maxRecDepth 100000 in
theorem c_X9_part (l : Launch) (G : GG) (σ : St) (sz : Nat) (p1 : Int32) (Q : Int32 → St → Prop) (h : f_X9_part σ p1 Q) : CTi l yX9_part wsX9_part ({ frames := 2, cells := 0, slots := 0, locals := 48 }) [.ref (G.2.1 28), .int p1] G σ sz Q := by
  refine Met.ofW (cc := cX9_part) (maxL := 3) (ret := (some .int)) (by decide) rfl ?_
  intro p e s m args below meth c s₁ B hml hv
  obtain ⟨rfl, hpre⟩ := hv
  have hr := B.returns
  have hlocks := B.notSynchronized
  obtain ⟨hsz, -⟩ := id hpre
  subst hsz
  obtain ⟨E, hh⟩ := EV.ofPre (⟨B.exec, B.bytes, hml, findClass_of_methodNamed B.named, atoms_spec (ws := wsX9_part) B.pre⟩ : CallFix p m c cX9_part 3 s _ wsX9_part RX9) hpre
  have hx := E.1.1
  have hb := E.1.2.1
  have hown := E.1.2.2.2.1
  have hts := E.1.2.2.2.2
  have h_inX9 : ∀ w ∈ wsX90, w ∈ wsX9_part := (fun _ h9 => (List.mem_cons_of_mem _ (List.mem_append_right _ h9)))
  have hl := lv_entry ([.ref (G.2.1 28), .int p1]) (n := 3) (Nat.le_of_ble_eq_true rfl)
  rw [lg_entry_eq]
  generalize (lg_sl ([.ref (G.2.1 28), .int p1]) ++ List.replicate (3 - (lg_sl ([.ref (G.2.1 28), .int p1])).length) Slot.unset).toArray = ls at hl ⊢
  have hl : lv_has ls 3 [(0, .ref (G.2.1 28)), (1, .int p1)] := hl
  unfold f_X9_part at h
  refine lv_aload_n hx hb dX9_part_0 rfl (lv_at hl 0 rfl) ?_
  refine lv_iconst (v := (0 : Int32)) hx hb dX9_part_1 (by decide) ?_
  refine q_put (T := TX9) E hh h_inX9 tyX9 tyX9_ok nmX9 28 (WW_at_28 G σ) rfl 0 (by decide) (List.mem_cons_of_mem _ (List.mem_append_left _ (List.mem_append_left _ (List.mem_of_getElem? (i := 0) rfl)))) rfl rfl (by decide +kernel) (Nat.le_of_ble_eq_true rfl) dX9_part_2 (WW_si_23 G σ (0 : Int32)) (fun H locs hh => ?_)
  refine lv_aload_n hx hb dX9_part_5 rfl (lv_at hl 0 rfl) ?_
  refine lv_iload_n hx hb dX9_part_6 rfl (lv_at hl 1 rfl) ?_
  refine lv_if_lt (tgt := 16) hx hb dX9_part_7 (by decide) (fun c9 => ?_) (fun c9 => ?_)
  · have h := h.1 c9
    refine lv_iconst (v := (1 : Int32)) hx hb dX9_part_16 (by decide) ?_
    refine lv_goto (tgt := 21) hx hb dX9_part_17 (by decide) ?_
    refine lv_iconst (v := (1 : Int32)) hx hb dX9_part_21 (by decide) ?_
    refine q_Vi (As := [.int (1 : Int32), .int (1 : Int32)]) (rest := []) E hh (c_X9_bad l G _ _ _ _ _ h) (cwV 2 hts gX9_part_X9_bad rfl rfl rfl (by decide +kernel) ⟨Nat.le_of_ble_eq_true rfl, Nat.le_of_ble_eq_true rfl⟩) (va_recv (ci := 9) E.2.1 hh.1 rfl (WW_at_28 G (si σ 23 (0 : Int32)))) rfl hl.1 rfl (Nat.le_of_ble_eq_true rfl) dX9_part_22 ⟨Nat.zero_le _, Nat.zero_le _⟩ (fun r22 s22 H locs h hh => ?_)
    refine lv_if_eq (tgt := 30) hx hb dX9_part_25 (by decide) (fun c9 => ?_) (fun c9 => ?_)
    · have h := h.1 c9
      refine lv_aload_n hx hb dX9_part_30 rfl (lv_at hl 0 rfl) ?_
      refine q_Vv (As := []) (rest := []) E hh (c_X9_ranked l G _ _  _ h) (cwV 0 hts gX9_part_X9_ranked rfl rfl rfl (by decide +kernel) ⟨Nat.le_of_ble_eq_true rfl, Nat.le_of_ble_eq_true rfl⟩) (va_recv (ci := 9) E.2.1 hh.1 rfl (WW_at_28 G s22)) rfl hl.1 rfl (Nat.le_of_ble_eq_true rfl) dX9_part_31 ⟨Nat.zero_le _, Nat.zero_le _⟩ (fun s31 H locs h hh => ?_)
      refine lv_iconst (v := (0 : Int32)) hx hb dX9_part_34 (by decide) ?_
      refine lv_istore_n (lv' := [(2, .int (0 : Int32)), (0, .ref (G.2.1 28)), (1, .int p1)]) hx hb dX9_part_35 rfl hl (by decide) rfl (fun ls hl => ?_)
      exact w_X9_part_36 E hr hlocks  FU _ _ _ _ _ _ h hh (lv_sub hl [1, 2, 0] rfl)
    · have h := h.2 c9
      refine lv_iconst (v := (0 : Int32)) hx hb dX9_part_28 (by decide) ?_
      exact q_iret E hh hr hlocks h dX9_part_29
  · have h := h.2 c9
    refine lv_iload_n hx hb dX9_part_10 rfl (lv_at hl 1 rfl) ?_
    refine lv_bipush (v := (16 : Int32)) hx hb dX9_part_11 (by decide) ?_
    refine lv_icmp_le (tgt := 20) hx hb dX9_part_13 (by decide) (fun c9 => ?_) (fun c9 => ?_)
    · have h := h.1 c9
      refine lv_iconst (v := (0 : Int32)) hx hb dX9_part_20 (by decide) ?_
      refine lv_iconst (v := (1 : Int32)) hx hb dX9_part_21 (by decide) ?_
      refine q_Vi (As := [.int (0 : Int32), .int (1 : Int32)]) (rest := []) E hh (c_X9_bad l G _ _ _ _ _ h) (cwV 2 hts gX9_part_X9_bad rfl rfl rfl (by decide +kernel) ⟨Nat.le_of_ble_eq_true rfl, Nat.le_of_ble_eq_true rfl⟩) (va_recv (ci := 9) E.2.1 hh.1 rfl (WW_at_28 G (si σ 23 (0 : Int32)))) rfl hl.1 rfl (Nat.le_of_ble_eq_true rfl) dX9_part_22 ⟨Nat.zero_le _, Nat.zero_le _⟩ (fun r22 s22 H locs h hh => ?_)
      refine lv_if_eq (tgt := 30) hx hb dX9_part_25 (by decide) (fun c9 => ?_) (fun c9 => ?_)
      · have h := h.1 c9
        refine lv_aload_n hx hb dX9_part_30 rfl (lv_at hl 0 rfl) ?_
        refine q_Vv (As := []) (rest := []) E hh (c_X9_ranked l G _ _  _ h) (cwV 0 hts gX9_part_X9_ranked rfl rfl rfl (by decide +kernel) ⟨Nat.le_of_ble_eq_true rfl, Nat.le_of_ble_eq_true rfl⟩) (va_recv (ci := 9) E.2.1 hh.1 rfl (WW_at_28 G s22)) rfl hl.1 rfl (Nat.le_of_ble_eq_true rfl) dX9_part_31 ⟨Nat.zero_le _, Nat.zero_le _⟩ (fun s31 H locs h hh => ?_)
        refine lv_iconst (v := (0 : Int32)) hx hb dX9_part_34 (by decide) ?_
        refine lv_istore_n (lv' := [(2, .int (0 : Int32)), (0, .ref (G.2.1 28)), (1, .int p1)]) hx hb dX9_part_35 rfl hl (by decide) rfl (fun ls hl => ?_)
        exact w_X9_part_36 E hr hlocks  FU _ _ _ _ _ _ h hh (lv_sub hl [1, 2, 0] rfl)
      · have h := h.2 c9
        refine lv_iconst (v := (0 : Int32)) hx hb dX9_part_28 (by decide) ?_
        exact q_iret E hh hr hlocks h dX9_part_29
    · have h := h.2 c9
      refine lv_iconst (v := (1 : Int32)) hx hb dX9_part_16 (by decide) ?_
      refine lv_goto (tgt := 21) hx hb dX9_part_17 (by decide) ?_
      refine lv_iconst (v := (1 : Int32)) hx hb dX9_part_21 (by decide) ?_
      refine q_Vi (As := [.int (1 : Int32), .int (1 : Int32)]) (rest := []) E hh (c_X9_bad l G _ _ _ _ _ h) (cwV 2 hts gX9_part_X9_bad rfl rfl rfl (by decide +kernel) ⟨Nat.le_of_ble_eq_true rfl, Nat.le_of_ble_eq_true rfl⟩) (va_recv (ci := 9) E.2.1 hh.1 rfl (WW_at_28 G (si σ 23 (0 : Int32)))) rfl hl.1 rfl (Nat.le_of_ble_eq_true rfl) dX9_part_22 ⟨Nat.zero_le _, Nat.zero_le _⟩ (fun r22 s22 H locs h hh => ?_)
      refine lv_if_eq (tgt := 30) hx hb dX9_part_25 (by decide) (fun c9 => ?_) (fun c9 => ?_)
      · have h := h.1 c9
        refine lv_aload_n hx hb dX9_part_30 rfl (lv_at hl 0 rfl) ?_
        refine q_Vv (As := []) (rest := []) E hh (c_X9_ranked l G _ _  _ h) (cwV 0 hts gX9_part_X9_ranked rfl rfl rfl (by decide +kernel) ⟨Nat.le_of_ble_eq_true rfl, Nat.le_of_ble_eq_true rfl⟩) (va_recv (ci := 9) E.2.1 hh.1 rfl (WW_at_28 G s22)) rfl hl.1 rfl (Nat.le_of_ble_eq_true rfl) dX9_part_31 ⟨Nat.zero_le _, Nat.zero_le _⟩ (fun s31 H locs h hh => ?_)
        refine lv_iconst (v := (0 : Int32)) hx hb dX9_part_34 (by decide) ?_
        refine lv_istore_n (lv' := [(2, .int (0 : Int32)), (0, .ref (G.2.1 28)), (1, .int p1)]) hx hb dX9_part_35 rfl hl (by decide) rfl (fun ls hl => ?_)
        exact w_X9_part_36 E hr hlocks  FU _ _ _ _ _ _ h hh (lv_sub hl [1, 2, 0] rfl)
      · have h := h.2 c9
        refine lv_iconst (v := (0 : Int32)) hx hb dX9_part_28 (by decide) ?_
        exact q_iret E hh hr hlocks h dX9_part_29
def f_X9_promote_192 (Q : Int32 → St → Prop)  (rec : St → Int32 → Int32 → Int32 → Prop) (σ : St) (l3 : Int32) (l5 : Int32) (l6 : Int32) : Prop :=
  (((gi σ 41) ≤ l6 → Q l3 σ) ∧ (¬ (gi σ 41) ≤ l6 → ((l5 ≤ 0 → Q l3 σ) ∧ (¬ l5 ≤ 0 → (vp_in l6 16 ∧ (vp_in (ga σ 42 l6.toNatClampNeg) 16 ∧ (((ga σ 44 (ga σ 42 l6.toNatClampNeg).toNatClampNeg) = (1 : Int32) → (vp_in l6 16 ∧ (vp_in (ga σ 42 l6.toNatClampNeg) 16 ∧ rec (sa σ 43 (upd (ga σ 43) (ga σ 42 l6.toNatClampNeg).toNatClampNeg (0 : Int32))) l3 (l5 + (-1)) (l6 + 1)))) ∧ (¬ (ga σ 44 (ga σ 42 l6.toNatClampNeg).toNatClampNeg) = (1 : Int32) → rec σ l3 l5 (l6 + 1)))))))))
def f_X9_promote_192L (Q : Int32 → St → Prop)  : Nat → St → Int32 → Int32 → Int32 → Prop
  | 0, _, _, _, _ => False
  | n + 1, σ, l3, l5, l6 => f_X9_promote_192 Q  (f_X9_promote_192L Q  n) σ l3 l5 l6
set_option maxHeartbeats 4000000 in
set_option maxRecDepth 100000 in
theorem w_X9_promote_192 {p : Program} {l : Launch} {e : Env} {s : State} {m : MethodId} {args : Array Value} {below : List Frame} {meth : Method} {c : Code} {G : GG} (E : EV p s m args c cX9_promote 7 wsX9_promote RX9 G (AD G s.heap.size)) (hr : meth.sig.returnType = (some .int)) (hlocks : meth.locks = false) {Q : Int32 → St → Prop}  : ∀ (n : Nat) (σ : St) (l3 : Int32) (l5 : Int32) (l6 : Int32) (H : Heap) (locs : List Loc) (ls : Array Slot), f_X9_promote_192L Q  n σ l3 l5 l6 → HH G (AD G s.heap.size) s σ H locs → lv_has ls 7 [(0, .ref (G.2.1 28)), (3, .int l3), (5, .int l5), (6, .int l6)] → W p l e ({ frames := 2, cells := 0, slots := 0, locals := 48 }) s m args below meth c H locs 0 0 (MQi below G args s Q) (F0 m 192 ls []) := by
  have hx := E.1.1
  have hb := E.1.2.1
  have hown := E.1.2.2.2.1
  have hts := E.1.2.2.2.2
  have h_inX9 : ∀ w ∈ wsX90, w ∈ wsX9_promote := (fun _ h9 => (List.mem_cons_of_mem _ (List.mem_append_right _ h9)))
  intro n
  induction n with
  | zero =>
    intro σ l3 l5 l6 H locs ls h
    exact h.elim
  | succ n ih =>
    intro σ l3 l5 l6 H locs ls h hh hl
    have h : f_X9_promote_192 Q  (f_X9_promote_192L Q  n) σ l3 l5 l6 := h
    unfold f_X9_promote_192 at h
    refine lv_iload hx hb dX9_promote_192 (lv_at hl 3 rfl) ?_
    refine lv_aload_n hx hb dX9_promote_194 rfl (lv_at hl 0 rfl) ?_
    refine q_get (T := TX9) (v := .int (gi σ 41)) E hh h_inX9 28 (WW_at_28 G σ) rfl 27 (by decide) (List.mem_cons_of_mem _ (List.mem_append_left _ (List.mem_append_left _ (List.mem_of_getElem? (i := 1) rfl)))) rfl rfl dX9_promote_195 ?_
    refine lv_icmp_ge (tgt := 247) hx hb dX9_promote_198 (by decide) (fun c9 => ?_) (fun c9 => ?_)
    · have h := h.1 c9
      refine lv_iload_n hx hb dX9_promote_247 rfl (lv_at hl 1 rfl) ?_
      exact q_iret E hh hr hlocks h dX9_promote_248
    · have h := h.2 c9
      refine lv_iload hx hb dX9_promote_201 (lv_at hl 2 rfl) ?_
      refine lv_if_le (tgt := 247) hx hb dX9_promote_203 (by decide) (fun c9 => ?_) (fun c9 => ?_)
      · have h := h.1 c9
        refine lv_iload_n hx hb dX9_promote_247 rfl (lv_at hl 1 rfl) ?_
        exact q_iret E hh hr hlocks h dX9_promote_248
      · have h := h.2 c9
        refine lv_aload_n hx hb dX9_promote_206 rfl (lv_at hl 0 rfl) ?_
        refine q_get (T := TX9) (v := .ref (G.2.1 44)) E hh h_inX9 28 (WW_at_28 G σ) rfl 36 (by decide) (List.mem_cons_of_mem _ (List.mem_append_left _ (List.mem_append_left _ (List.mem_of_getElem? (i := 3) rfl)))) rfl rfl dX9_promote_207 ?_
        refine lv_aload_n hx hb dX9_promote_210 rfl (lv_at hl 0 rfl) ?_
        refine q_get (T := TX9) (v := .ref (G.2.1 42)) E hh h_inX9 28 (WW_at_28 G σ) rfl 34 (by decide) (List.mem_cons_of_mem _ (List.mem_append_left _ (List.mem_append_left _ (List.mem_of_getElem? (i := 4) rfl)))) rfl rfl dX9_promote_211 ?_
        refine lv_iload hx hb dX9_promote_214 (lv_at hl 3 rfl) ?_
        obtain ⟨h0, h⟩ := h
        refine q_iald E hh 42 (WW_at_42 G σ) h0 dX9_promote_216 ?_
        obtain ⟨h0, h⟩ := h
        refine q_iald E hh 44 (WW_at_44 G σ) h0 dX9_promote_217 ?_
        refine lv_iconst (v := (1 : Int32)) hx hb dX9_promote_218 (by decide) ?_
        refine lv_icmp_eq (tgt := 225) hx hb dX9_promote_219 (by decide) (fun c9 => ?_) (fun c9 => ?_)
        · have h := h.1 c9
          refine lv_aload_n hx hb dX9_promote_225 rfl (lv_at hl 0 rfl) ?_
          refine q_get (T := TX9) (v := .ref (G.2.1 43)) E hh h_inX9 28 (WW_at_28 G σ) rfl 35 (by decide) (List.mem_cons_of_mem _ (List.mem_append_left _ (List.mem_append_left _ (List.mem_of_getElem? (i := 2) rfl)))) rfl rfl dX9_promote_226 ?_
          refine lv_aload_n hx hb dX9_promote_229 rfl (lv_at hl 0 rfl) ?_
          refine q_get (T := TX9) (v := .ref (G.2.1 42)) E hh h_inX9 28 (WW_at_28 G σ) rfl 34 (by decide) (List.mem_cons_of_mem _ (List.mem_append_left _ (List.mem_append_left _ (List.mem_of_getElem? (i := 4) rfl)))) rfl rfl dX9_promote_230 ?_
          refine lv_iload hx hb dX9_promote_233 (lv_at hl 3 rfl) ?_
          obtain ⟨h0, h⟩ := h
          refine q_iald E hh 42 (WW_at_42 G σ) h0 dX9_promote_235 ?_
          refine lv_iconst (v := (0 : Int32)) hx hb dX9_promote_236 (by decide) ?_
          obtain ⟨h0, h⟩ := h
          refine q_iast E hh 43 (WW_at_43 G σ) h0 dX9_promote_237 (WW_sa_43 G σ (upd (ga σ 43) (ga σ 42 l6.toNatClampNeg).toNatClampNeg (0 : Int32))) (fun H locs hh => ?_)
          refine lv_iinc (v := (l5 + (-1))) (lv' := [(5, .int (l5 + (-1))), (0, .ref (G.2.1 28)), (3, .int l3), (6, .int l6)]) hx hb dX9_promote_238 hl (k := 2) rfl rfl (by decide) rfl (fun ls hl => ?_)
          refine lv_iinc (v := (l6 + 1)) (lv' := [(6, .int (l6 + 1)), (5, .int (l5 + (-1))), (0, .ref (G.2.1 28)), (3, .int l3)]) hx hb dX9_promote_241 hl (k := 3) rfl rfl (by decide) rfl (fun ls hl => ?_)
          refine lv_goto (tgt := 192) hx hb dX9_promote_244 (by decide) ?_
          exact ih _ _ _ _ _ _ _ h hh (lv_sub hl [2, 3, 1, 0] rfl)
        · have h := h.2 c9
          refine lv_goto (tgt := 241) hx hb dX9_promote_222 (by decide) ?_
          refine lv_iinc (v := (l6 + 1)) (lv' := [(6, .int (l6 + 1)), (0, .ref (G.2.1 28)), (3, .int l3), (5, .int l5)]) hx hb dX9_promote_241 hl (k := 3) rfl rfl (by decide) rfl (fun ls hl => ?_)
          refine lv_goto (tgt := 192) hx hb dX9_promote_244 (by decide) ?_
          exact ih _ _ _ _ _ _ _ h hh (lv_sub hl [1, 2, 3, 0] rfl)
def f_X9_promote_139 (Q : Int32 → St → Prop)  (rec : St → Int32 → Int32 → Int32 → Int32 → Prop) (σ : St) (l3 : Int32) (l4 : Int32) (l5 : Int32) (l6 : Int32) : Prop :=
  ((l6 < 0 → f_X9_promote_192L Q FU σ l3 l5 (0 : Int32)) ∧ (¬ l6 < 0 → ((l4 ≤ 0 → f_X9_promote_192L Q FU σ l3 l5 (0 : Int32)) ∧ (¬ l4 ≤ 0 → (vp_in l6 16 ∧ (vp_in (ga σ 42 l6.toNatClampNeg) 16 ∧ (((ga σ 44 (ga σ 42 l6.toNatClampNeg).toNatClampNeg) = 0 → (vp_in l6 16 ∧ (vp_in (ga σ 42 l6.toNatClampNeg) 16 ∧ rec (sa σ 43 (upd (ga σ 43) (ga σ 42 l6.toNatClampNeg).toNatClampNeg (1 : Int32))) l3 (l4 + (-1)) l5 (l6 + (-1))))) ∧ (¬ (ga σ 44 (ga σ 42 l6.toNatClampNeg).toNatClampNeg) = 0 → rec σ l3 l4 l5 (l6 + (-1))))))))))
def f_X9_promote_139L (Q : Int32 → St → Prop)  : Nat → St → Int32 → Int32 → Int32 → Int32 → Prop
  | 0, _, _, _, _, _ => False
  | n + 1, σ, l3, l4, l5, l6 => f_X9_promote_139 Q  (f_X9_promote_139L Q  n) σ l3 l4 l5 l6
set_option maxHeartbeats 4000000 in
set_option maxRecDepth 100000 in
theorem w_X9_promote_139 {p : Program} {l : Launch} {e : Env} {s : State} {m : MethodId} {args : Array Value} {below : List Frame} {meth : Method} {c : Code} {G : GG} (E : EV p s m args c cX9_promote 7 wsX9_promote RX9 G (AD G s.heap.size)) (hr : meth.sig.returnType = (some .int)) (hlocks : meth.locks = false) {Q : Int32 → St → Prop}  : ∀ (n : Nat) (σ : St) (l3 : Int32) (l4 : Int32) (l5 : Int32) (l6 : Int32) (H : Heap) (locs : List Loc) (ls : Array Slot), f_X9_promote_139L Q  n σ l3 l4 l5 l6 → HH G (AD G s.heap.size) s σ H locs → lv_has ls 7 [(0, .ref (G.2.1 28)), (3, .int l3), (4, .int l4), (5, .int l5), (6, .int l6)] → W p l e ({ frames := 2, cells := 0, slots := 0, locals := 48 }) s m args below meth c H locs 0 0 (MQi below G args s Q) (F0 m 139 ls []) := by
  have hx := E.1.1
  have hb := E.1.2.1
  have hown := E.1.2.2.2.1
  have hts := E.1.2.2.2.2
  have h_inX9 : ∀ w ∈ wsX90, w ∈ wsX9_promote := (fun _ h9 => (List.mem_cons_of_mem _ (List.mem_append_right _ h9)))
  intro n
  induction n with
  | zero =>
    intro σ l3 l4 l5 l6 H locs ls h
    exact h.elim
  | succ n ih =>
    intro σ l3 l4 l5 l6 H locs ls h hh hl
    have h : f_X9_promote_139 Q  (f_X9_promote_139L Q  n) σ l3 l4 l5 l6 := h
    unfold f_X9_promote_139 at h
    refine lv_iload hx hb dX9_promote_139 (lv_at hl 4 rfl) ?_
    refine lv_if_lt (tgt := 189) hx hb dX9_promote_141 (by decide) (fun c9 => ?_) (fun c9 => ?_)
    · have h := h.1 c9
      refine lv_iconst (v := (0 : Int32)) hx hb dX9_promote_189 (by decide) ?_
      refine lv_istore (lv' := [(6, .int (0 : Int32)), (0, .ref (G.2.1 28)), (3, .int l3), (4, .int l4), (5, .int l5)]) hx hb dX9_promote_190 hl (by decide) rfl (fun ls hl => ?_)
      exact w_X9_promote_192 E hr hlocks  FU _ _ _ _ _ _ _ h hh (lv_sub hl [1, 2, 4, 0] rfl)
    · have h := h.2 c9
      refine lv_iload hx hb dX9_promote_144 (lv_at hl 2 rfl) ?_
      refine lv_if_le (tgt := 189) hx hb dX9_promote_146 (by decide) (fun c9 => ?_) (fun c9 => ?_)
      · have h := h.1 c9
        refine lv_iconst (v := (0 : Int32)) hx hb dX9_promote_189 (by decide) ?_
        refine lv_istore (lv' := [(6, .int (0 : Int32)), (0, .ref (G.2.1 28)), (3, .int l3), (4, .int l4), (5, .int l5)]) hx hb dX9_promote_190 hl (by decide) rfl (fun ls hl => ?_)
        exact w_X9_promote_192 E hr hlocks  FU _ _ _ _ _ _ _ h hh (lv_sub hl [1, 2, 4, 0] rfl)
      · have h := h.2 c9
        refine lv_aload_n hx hb dX9_promote_149 rfl (lv_at hl 0 rfl) ?_
        refine q_get (T := TX9) (v := .ref (G.2.1 44)) E hh h_inX9 28 (WW_at_28 G σ) rfl 36 (by decide) (List.mem_cons_of_mem _ (List.mem_append_left _ (List.mem_append_left _ (List.mem_of_getElem? (i := 3) rfl)))) rfl rfl dX9_promote_150 ?_
        refine lv_aload_n hx hb dX9_promote_153 rfl (lv_at hl 0 rfl) ?_
        refine q_get (T := TX9) (v := .ref (G.2.1 42)) E hh h_inX9 28 (WW_at_28 G σ) rfl 34 (by decide) (List.mem_cons_of_mem _ (List.mem_append_left _ (List.mem_append_left _ (List.mem_of_getElem? (i := 4) rfl)))) rfl rfl dX9_promote_154 ?_
        refine lv_iload hx hb dX9_promote_157 (lv_at hl 4 rfl) ?_
        obtain ⟨h0, h⟩ := h
        refine q_iald E hh 42 (WW_at_42 G σ) h0 dX9_promote_159 ?_
        obtain ⟨h0, h⟩ := h
        refine q_iald E hh 44 (WW_at_44 G σ) h0 dX9_promote_160 ?_
        refine lv_if_eq (tgt := 167) hx hb dX9_promote_161 (by decide) (fun c9 => ?_) (fun c9 => ?_)
        · have h := h.1 c9
          refine lv_aload_n hx hb dX9_promote_167 rfl (lv_at hl 0 rfl) ?_
          refine q_get (T := TX9) (v := .ref (G.2.1 43)) E hh h_inX9 28 (WW_at_28 G σ) rfl 35 (by decide) (List.mem_cons_of_mem _ (List.mem_append_left _ (List.mem_append_left _ (List.mem_of_getElem? (i := 2) rfl)))) rfl rfl dX9_promote_168 ?_
          refine lv_aload_n hx hb dX9_promote_171 rfl (lv_at hl 0 rfl) ?_
          refine q_get (T := TX9) (v := .ref (G.2.1 42)) E hh h_inX9 28 (WW_at_28 G σ) rfl 34 (by decide) (List.mem_cons_of_mem _ (List.mem_append_left _ (List.mem_append_left _ (List.mem_of_getElem? (i := 4) rfl)))) rfl rfl dX9_promote_172 ?_
          refine lv_iload hx hb dX9_promote_175 (lv_at hl 4 rfl) ?_
          obtain ⟨h0, h⟩ := h
          refine q_iald E hh 42 (WW_at_42 G σ) h0 dX9_promote_177 ?_
          refine lv_iconst (v := (1 : Int32)) hx hb dX9_promote_178 (by decide) ?_
          obtain ⟨h0, h⟩ := h
          refine q_iast E hh 43 (WW_at_43 G σ) h0 dX9_promote_179 (WW_sa_43 G σ (upd (ga σ 43) (ga σ 42 l6.toNatClampNeg).toNatClampNeg (1 : Int32))) (fun H locs hh => ?_)
          refine lv_iinc (v := (l4 + (-1))) (lv' := [(4, .int (l4 + (-1))), (0, .ref (G.2.1 28)), (3, .int l3), (5, .int l5), (6, .int l6)]) hx hb dX9_promote_180 hl (k := 2) rfl rfl (by decide) rfl (fun ls hl => ?_)
          refine lv_iinc (v := (l6 + (-1))) (lv' := [(6, .int (l6 + (-1))), (4, .int (l4 + (-1))), (0, .ref (G.2.1 28)), (3, .int l3), (5, .int l5)]) hx hb dX9_promote_183 hl (k := 4) rfl rfl (by decide) rfl (fun ls hl => ?_)
          refine lv_goto (tgt := 139) hx hb dX9_promote_186 (by decide) ?_
          exact ih _ _ _ _ _ _ _ _ h hh (lv_sub hl [2, 3, 1, 4, 0] rfl)
        · have h := h.2 c9
          refine lv_goto (tgt := 183) hx hb dX9_promote_164 (by decide) ?_
          refine lv_iinc (v := (l6 + (-1))) (lv' := [(6, .int (l6 + (-1))), (0, .ref (G.2.1 28)), (3, .int l3), (4, .int l4), (5, .int l5)]) hx hb dX9_promote_183 hl (k := 4) rfl rfl (by decide) rfl (fun ls hl => ?_)
          refine lv_goto (tgt := 139) hx hb dX9_promote_186 (by decide) ?_
          exact ih _ _ _ _ _ _ _ _ h hh (lv_sub hl [1, 2, 3, 4, 0] rfl)
def f_X9_promote_102 (Q : Int32 → St → Prop)  (rec : St → Int32 → Int32 → Int32 → Int32 → Prop) (σ : St) (l3 : Int32) (l4 : Int32) (l5 : Int32) (l6 : Int32) : Prop :=
  (((gi σ 41) ≤ l6 → f_X9_promote_139L Q FU σ l3 l4 l5 ((gi σ 41) - (1 : Int32))) ∧ (¬ (gi σ 41) ≤ l6 → (vp_in l6 16 ∧ (vp_in l6 16 ∧ rec (sa σ 44 (upd (ga σ 44) l6.toNatClampNeg (ga σ 43 l6.toNatClampNeg))) l3 l4 l5 (l6 + 1)))))
def f_X9_promote_102L (Q : Int32 → St → Prop)  : Nat → St → Int32 → Int32 → Int32 → Int32 → Prop
  | 0, _, _, _, _, _ => False
  | n + 1, σ, l3, l4, l5, l6 => f_X9_promote_102 Q  (f_X9_promote_102L Q  n) σ l3 l4 l5 l6
set_option maxHeartbeats 4000000 in
set_option maxRecDepth 100000 in
theorem w_X9_promote_102 {p : Program} {l : Launch} {e : Env} {s : State} {m : MethodId} {args : Array Value} {below : List Frame} {meth : Method} {c : Code} {G : GG} (E : EV p s m args c cX9_promote 7 wsX9_promote RX9 G (AD G s.heap.size)) (hr : meth.sig.returnType = (some .int)) (hlocks : meth.locks = false) {Q : Int32 → St → Prop}  : ∀ (n : Nat) (σ : St) (l3 : Int32) (l4 : Int32) (l5 : Int32) (l6 : Int32) (H : Heap) (locs : List Loc) (ls : Array Slot), f_X9_promote_102L Q  n σ l3 l4 l5 l6 → HH G (AD G s.heap.size) s σ H locs → lv_has ls 7 [(0, .ref (G.2.1 28)), (3, .int l3), (4, .int l4), (5, .int l5), (6, .int l6)] → W p l e ({ frames := 2, cells := 0, slots := 0, locals := 48 }) s m args below meth c H locs 0 0 (MQi below G args s Q) (F0 m 102 ls []) := by
  have hx := E.1.1
  have hb := E.1.2.1
  have hown := E.1.2.2.2.1
  have hts := E.1.2.2.2.2
  have h_inX9 : ∀ w ∈ wsX90, w ∈ wsX9_promote := (fun _ h9 => (List.mem_cons_of_mem _ (List.mem_append_right _ h9)))
  intro n
  induction n with
  | zero =>
    intro σ l3 l4 l5 l6 H locs ls h
    exact h.elim
  | succ n ih =>
    intro σ l3 l4 l5 l6 H locs ls h hh hl
    have h : f_X9_promote_102 Q  (f_X9_promote_102L Q  n) σ l3 l4 l5 l6 := h
    unfold f_X9_promote_102 at h
    refine lv_iload hx hb dX9_promote_102 (lv_at hl 4 rfl) ?_
    refine lv_aload_n hx hb dX9_promote_104 rfl (lv_at hl 0 rfl) ?_
    refine q_get (T := TX9) (v := .int (gi σ 41)) E hh h_inX9 28 (WW_at_28 G σ) rfl 27 (by decide) (List.mem_cons_of_mem _ (List.mem_append_left _ (List.mem_append_left _ (List.mem_of_getElem? (i := 1) rfl)))) rfl rfl dX9_promote_105 ?_
    refine lv_icmp_ge (tgt := 131) hx hb dX9_promote_108 (by decide) (fun c9 => ?_) (fun c9 => ?_)
    · have h := h.1 c9
      refine lv_aload_n hx hb dX9_promote_131 rfl (lv_at hl 0 rfl) ?_
      refine q_get (T := TX9) (v := .int (gi σ 41)) E hh h_inX9 28 (WW_at_28 G σ) rfl 27 (by decide) (List.mem_cons_of_mem _ (List.mem_append_left _ (List.mem_append_left _ (List.mem_of_getElem? (i := 1) rfl)))) rfl rfl dX9_promote_132 ?_
      refine lv_iconst (v := (1 : Int32)) hx hb dX9_promote_135 (by decide) ?_
      refine lv_isub hx hb dX9_promote_136 ?_
      refine lv_istore (lv' := [(6, .int ((gi σ 41) - (1 : Int32))), (0, .ref (G.2.1 28)), (3, .int l3), (4, .int l4), (5, .int l5)]) hx hb dX9_promote_137 hl (by decide) rfl (fun ls hl => ?_)
      exact w_X9_promote_139 E hr hlocks  FU _ _ _ _ _ _ _ _ h hh (lv_sub hl [1, 2, 3, 4, 0] rfl)
    · have h := h.2 c9
      refine lv_aload_n hx hb dX9_promote_111 rfl (lv_at hl 0 rfl) ?_
      refine q_get (T := TX9) (v := .ref (G.2.1 44)) E hh h_inX9 28 (WW_at_28 G σ) rfl 36 (by decide) (List.mem_cons_of_mem _ (List.mem_append_left _ (List.mem_append_left _ (List.mem_of_getElem? (i := 3) rfl)))) rfl rfl dX9_promote_112 ?_
      refine lv_iload hx hb dX9_promote_115 (lv_at hl 4 rfl) ?_
      refine lv_aload_n hx hb dX9_promote_117 rfl (lv_at hl 0 rfl) ?_
      refine q_get (T := TX9) (v := .ref (G.2.1 43)) E hh h_inX9 28 (WW_at_28 G σ) rfl 35 (by decide) (List.mem_cons_of_mem _ (List.mem_append_left _ (List.mem_append_left _ (List.mem_of_getElem? (i := 2) rfl)))) rfl rfl dX9_promote_118 ?_
      refine lv_iload hx hb dX9_promote_121 (lv_at hl 4 rfl) ?_
      obtain ⟨h0, h⟩ := h
      refine q_iald E hh 43 (WW_at_43 G σ) h0 dX9_promote_123 ?_
      obtain ⟨h0, h⟩ := h
      refine q_iast E hh 44 (WW_at_44 G σ) h0 dX9_promote_124 (WW_sa_44 G σ (upd (ga σ 44) l6.toNatClampNeg (ga σ 43 l6.toNatClampNeg))) (fun H locs hh => ?_)
      refine lv_iinc (v := (l6 + 1)) (lv' := [(6, .int (l6 + 1)), (0, .ref (G.2.1 28)), (3, .int l3), (4, .int l4), (5, .int l5)]) hx hb dX9_promote_125 hl (k := 4) rfl rfl (by decide) rfl (fun ls hl => ?_)
      refine lv_goto (tgt := 102) hx hb dX9_promote_128 (by decide) ?_
      exact ih _ _ _ _ _ _ _ _ h hh (lv_sub hl [1, 2, 3, 4, 0] rfl)
def f_X9_promote_71 (Q : Int32 → St → Prop)  (σ : St) (l2 : Int32) (t0 : Int32) : Prop :=
  ((((gi σ 41) - l2) ≤ t0 → f_X9_promote_102L Q FU σ ((gi σ 41) - l2) ((gi σ 41) - l2) ((gi σ 41) - l2) (0 : Int32)) ∧ (¬ ((gi σ 41) - l2) ≤ t0 → f_X9_promote_102L Q FU σ t0 t0 t0 (0 : Int32)))
set_option maxHeartbeats 4000000 in
set_option maxRecDepth 100000 in
theorem w_X9_promote_71 {p : Program} {l : Launch} {e : Env} {s : State} {m : MethodId} {args : Array Value} {below : List Frame} {meth : Method} {c : Code} {G : GG} (E : EV p s m args c cX9_promote 7 wsX9_promote RX9 G (AD G s.heap.size)) (hr : meth.sig.returnType = (some .int)) (hlocks : meth.locks = false) {Q : Int32 → St → Prop}  : ∀ (σ : St) (l2 : Int32) (t0 : Int32) (H : Heap) (locs : List Loc) (ls : Array Slot), f_X9_promote_71 Q  σ l2 t0 → HH G (AD G s.heap.size) s σ H locs → lv_has ls 7 [(0, .ref (G.2.1 28)), (2, .int l2)] → W p l e ({ frames := 2, cells := 0, slots := 0, locals := 48 }) s m args below meth c H locs 0 0 (MQi below G args s Q) (F0 m 71 ls [.int t0]) := by
  have hx := E.1.1
  have hb := E.1.2.1
  have hown := E.1.2.2.2.1
  have hts := E.1.2.2.2.2
  have h_inX9 : ∀ w ∈ wsX90, w ∈ wsX9_promote := (fun _ h9 => (List.mem_cons_of_mem _ (List.mem_append_right _ h9)))
  intro σ l2 t0 H locs ls h hh hl
  unfold f_X9_promote_71 at h
  refine lv_istore_n (lv' := [(3, .int t0), (0, .ref (G.2.1 28)), (2, .int l2)]) hx hb dX9_promote_71 rfl hl (by decide) rfl (fun ls hl => ?_)
  refine lv_iload_n hx hb dX9_promote_72 rfl (lv_at hl 0 rfl) ?_
  refine lv_aload_n hx hb dX9_promote_73 rfl (lv_at hl 1 rfl) ?_
  refine q_get (T := TX9) (v := .int (gi σ 41)) E hh h_inX9 28 (WW_at_28 G σ) rfl 27 (by decide) (List.mem_cons_of_mem _ (List.mem_append_left _ (List.mem_append_left _ (List.mem_of_getElem? (i := 1) rfl)))) rfl rfl dX9_promote_74 ?_
  refine lv_iload_n hx hb dX9_promote_77 rfl (lv_at hl 2 rfl) ?_
  refine lv_isub hx hb dX9_promote_78 ?_
  refine lv_icmp_ge (tgt := 86) hx hb dX9_promote_79 (by decide) (fun c9 => ?_) (fun c9 => ?_)
  · have h := h.1 c9
    refine lv_aload_n hx hb dX9_promote_86 rfl (lv_at hl 1 rfl) ?_
    refine q_get (T := TX9) (v := .int (gi σ 41)) E hh h_inX9 28 (WW_at_28 G σ) rfl 27 (by decide) (List.mem_cons_of_mem _ (List.mem_append_left _ (List.mem_append_left _ (List.mem_of_getElem? (i := 1) rfl)))) rfl rfl dX9_promote_87 ?_
    refine lv_iload_n hx hb dX9_promote_90 rfl (lv_at hl 2 rfl) ?_
    refine lv_isub hx hb dX9_promote_91 ?_
    refine lv_istore_n (lv' := [(3, .int ((gi σ 41) - l2)), (0, .ref (G.2.1 28)), (2, .int l2)]) hx hb dX9_promote_92 rfl hl (by decide) rfl (fun ls hl => ?_)
    refine lv_iload_n hx hb dX9_promote_93 rfl (lv_at hl 0 rfl) ?_
    refine lv_istore (lv' := [(4, .int ((gi σ 41) - l2)), (3, .int ((gi σ 41) - l2)), (0, .ref (G.2.1 28)), (2, .int l2)]) hx hb dX9_promote_94 hl (by decide) rfl (fun ls hl => ?_)
    refine lv_iload_n hx hb dX9_promote_96 rfl (lv_at hl 1 rfl) ?_
    refine lv_istore (lv' := [(5, .int ((gi σ 41) - l2)), (4, .int ((gi σ 41) - l2)), (3, .int ((gi σ 41) - l2)), (0, .ref (G.2.1 28)), (2, .int l2)]) hx hb dX9_promote_97 hl (by decide) rfl (fun ls hl => ?_)
    refine lv_iconst (v := (0 : Int32)) hx hb dX9_promote_99 (by decide) ?_
    refine lv_istore (lv' := [(6, .int (0 : Int32)), (5, .int ((gi σ 41) - l2)), (4, .int ((gi σ 41) - l2)), (3, .int ((gi σ 41) - l2)), (0, .ref (G.2.1 28)), (2, .int l2)]) hx hb dX9_promote_100 hl (by decide) rfl (fun ls hl => ?_)
    exact w_X9_promote_102 E hr hlocks  FU _ _ _ _ _ _ _ _ h hh (lv_sub hl [4, 3, 2, 1, 0] rfl)
  · have h := h.2 c9
    refine lv_iload_n hx hb dX9_promote_82 rfl (lv_at hl 0 rfl) ?_
    refine lv_goto (tgt := 92) hx hb dX9_promote_83 (by decide) ?_
    refine lv_istore_n (lv' := [(3, .int t0), (0, .ref (G.2.1 28)), (2, .int l2)]) hx hb dX9_promote_92 rfl hl (by decide) rfl (fun ls hl => ?_)
    refine lv_iload_n hx hb dX9_promote_93 rfl (lv_at hl 0 rfl) ?_
    refine lv_istore (lv' := [(4, .int t0), (3, .int t0), (0, .ref (G.2.1 28)), (2, .int l2)]) hx hb dX9_promote_94 hl (by decide) rfl (fun ls hl => ?_)
    refine lv_iload_n hx hb dX9_promote_96 rfl (lv_at hl 1 rfl) ?_
    refine lv_istore (lv' := [(5, .int t0), (4, .int t0), (3, .int t0), (0, .ref (G.2.1 28)), (2, .int l2)]) hx hb dX9_promote_97 hl (by decide) rfl (fun ls hl => ?_)
    refine lv_iconst (v := (0 : Int32)) hx hb dX9_promote_99 (by decide) ?_
    refine lv_istore (lv' := [(6, .int (0 : Int32)), (5, .int t0), (4, .int t0), (3, .int t0), (0, .ref (G.2.1 28)), (2, .int l2)]) hx hb dX9_promote_100 hl (by decide) rfl (fun ls hl => ?_)
    exact w_X9_promote_102 E hr hlocks  FU _ _ _ _ _ _ _ _ h hh (lv_sub hl [4, 3, 2, 1, 0] rfl)
def f_X9_promote_38 (Q : Int32 → St → Prop)  (rec : St → Int32 → Int32 → Int32 → Prop) (σ : St) (l1 : Int32) (l2 : Int32) (l3 : Int32) : Prop :=
  (((gi σ 41) ≤ l3 → ((l2 ≤ l1 → f_X9_promote_71 Q σ l2 l2) ∧ (¬ l2 ≤ l1 → f_X9_promote_71 Q σ l2 l1))) ∧ (¬ (gi σ 41) ≤ l3 → (vp_in l3 16 ∧ rec σ l1 (l2 + (ga σ 43 l3.toNatClampNeg)) (l3 + 1))))
def f_X9_promote_38L (Q : Int32 → St → Prop)  : Nat → St → Int32 → Int32 → Int32 → Prop
  | 0, _, _, _, _ => False
  | n + 1, σ, l1, l2, l3 => f_X9_promote_38 Q  (f_X9_promote_38L Q  n) σ l1 l2 l3
set_option maxHeartbeats 4000000 in
set_option maxRecDepth 100000 in
theorem w_X9_promote_38 {p : Program} {l : Launch} {e : Env} {s : State} {m : MethodId} {args : Array Value} {below : List Frame} {meth : Method} {c : Code} {G : GG} (E : EV p s m args c cX9_promote 7 wsX9_promote RX9 G (AD G s.heap.size)) (hr : meth.sig.returnType = (some .int)) (hlocks : meth.locks = false) {Q : Int32 → St → Prop}  : ∀ (n : Nat) (σ : St) (l1 : Int32) (l2 : Int32) (l3 : Int32) (H : Heap) (locs : List Loc) (ls : Array Slot), f_X9_promote_38L Q  n σ l1 l2 l3 → HH G (AD G s.heap.size) s σ H locs → lv_has ls 7 [(0, .ref (G.2.1 28)), (1, .int l1), (2, .int l2), (3, .int l3)] → W p l e ({ frames := 2, cells := 0, slots := 0, locals := 48 }) s m args below meth c H locs 0 0 (MQi below G args s Q) (F0 m 38 ls []) := by
  have hx := E.1.1
  have hb := E.1.2.1
  have hown := E.1.2.2.2.1
  have hts := E.1.2.2.2.2
  have h_inX9 : ∀ w ∈ wsX90, w ∈ wsX9_promote := (fun _ h9 => (List.mem_cons_of_mem _ (List.mem_append_right _ h9)))
  intro n
  induction n with
  | zero =>
    intro σ l1 l2 l3 H locs ls h
    exact h.elim
  | succ n ih =>
    intro σ l1 l2 l3 H locs ls h hh hl
    have h : f_X9_promote_38 Q  (f_X9_promote_38L Q  n) σ l1 l2 l3 := h
    unfold f_X9_promote_38 at h
    refine lv_iload_n hx hb dX9_promote_38 rfl (lv_at hl 3 rfl) ?_
    refine lv_aload_n hx hb dX9_promote_39 rfl (lv_at hl 0 rfl) ?_
    refine q_get (T := TX9) (v := .int (gi σ 41)) E hh h_inX9 28 (WW_at_28 G σ) rfl 27 (by decide) (List.mem_cons_of_mem _ (List.mem_append_left _ (List.mem_append_left _ (List.mem_of_getElem? (i := 1) rfl)))) rfl rfl dX9_promote_40 ?_
    refine lv_icmp_ge (tgt := 61) hx hb dX9_promote_43 (by decide) (fun c9 => ?_) (fun c9 => ?_)
    · have h := h.1 c9
      refine lv_iload_n hx hb dX9_promote_61 rfl (lv_at hl 1 rfl) ?_
      refine lv_iload_n hx hb dX9_promote_62 rfl (lv_at hl 2 rfl) ?_
      refine lv_icmp_ge (tgt := 70) hx hb dX9_promote_63 (by decide) (fun c9 => ?_) (fun c9 => ?_)
      · have h := h.1 c9
        refine lv_iload_n hx hb dX9_promote_70 rfl (lv_at hl 2 rfl) ?_
        exact w_X9_promote_71 E hr hlocks  _ _ _ _ _ _ h hh (lv_sub hl [0, 2] rfl)
      · have h := h.2 c9
        refine lv_iload_n hx hb dX9_promote_66 rfl (lv_at hl 1 rfl) ?_
        refine lv_goto (tgt := 71) hx hb dX9_promote_67 (by decide) ?_
        exact w_X9_promote_71 E hr hlocks  _ _ _ _ _ _ h hh (lv_sub hl [0, 2] rfl)
    · have h := h.2 c9
      refine lv_iload_n hx hb dX9_promote_46 rfl (lv_at hl 2 rfl) ?_
      refine lv_aload_n hx hb dX9_promote_47 rfl (lv_at hl 0 rfl) ?_
      refine q_get (T := TX9) (v := .ref (G.2.1 43)) E hh h_inX9 28 (WW_at_28 G σ) rfl 35 (by decide) (List.mem_cons_of_mem _ (List.mem_append_left _ (List.mem_append_left _ (List.mem_of_getElem? (i := 2) rfl)))) rfl rfl dX9_promote_48 ?_
      refine lv_iload_n hx hb dX9_promote_51 rfl (lv_at hl 3 rfl) ?_
      obtain ⟨h0, h⟩ := h
      refine q_iald E hh 43 (WW_at_43 G σ) h0 dX9_promote_52 ?_
      refine lv_iadd hx hb dX9_promote_53 ?_
      refine lv_istore_n (lv' := [(2, .int (l2 + (ga σ 43 l3.toNatClampNeg))), (0, .ref (G.2.1 28)), (1, .int l1), (3, .int l3)]) hx hb dX9_promote_54 rfl hl (by decide) rfl (fun ls hl => ?_)
      refine lv_iinc (v := (l3 + 1)) (lv' := [(3, .int (l3 + 1)), (2, .int (l2 + (ga σ 43 l3.toNatClampNeg))), (0, .ref (G.2.1 28)), (1, .int l1)]) hx hb dX9_promote_55 hl (k := 3) rfl rfl (by decide) rfl (fun ls hl => ?_)
      refine lv_goto (tgt := 38) hx hb dX9_promote_58 (by decide) ?_
      exact ih _ _ _ _ _ _ _ h hh (lv_sub hl [2, 3, 1, 0] rfl)
def f_X9_promote_16 (Q : Int32 → St → Prop)  (σ : St) (l1 : Int32) : Prop :=
  f_X9_bad σ (1 : Int32) (1 : Int32) (fun r22 s22 => ((r22 = 0 → f_X9_ranked s22 (fun s31 => f_X9_promote_38L Q FU s31 l1 (0 : Int32) (0 : Int32))) ∧ (¬ r22 = 0 → Q (0 : Int32) s22)))
set_option maxHeartbeats 4000000 in
set_option maxRecDepth 100000 in
theorem w_X9_promote_16 {p : Program} {l : Launch} {e : Env} {s : State} {m : MethodId} {args : Array Value} {below : List Frame} {meth : Method} {c : Code} {G : GG} (E : EV p s m args c cX9_promote 7 wsX9_promote RX9 G (AD G s.heap.size)) (hr : meth.sig.returnType = (some .int)) (hlocks : meth.locks = false) {Q : Int32 → St → Prop}  : ∀ (σ : St) (l1 : Int32) (H : Heap) (locs : List Loc) (ls : Array Slot), f_X9_promote_16 Q  σ l1 → HH G (AD G s.heap.size) s σ H locs → lv_has ls 7 [(0, .ref (G.2.1 28)), (1, .int l1)] → W p l e ({ frames := 2, cells := 0, slots := 0, locals := 48 }) s m args below meth c H locs 0 0 (MQi below G args s Q) (F0 m 16 ls [.ref (G.2.1 28)]) := by
  have hx := E.1.1
  have hb := E.1.2.1
  have hown := E.1.2.2.2.1
  have hts := E.1.2.2.2.2
  have h_inX9 : ∀ w ∈ wsX90, w ∈ wsX9_promote := (fun _ h9 => (List.mem_cons_of_mem _ (List.mem_append_right _ h9)))
  intro σ l1 H locs ls h hh hl
  unfold f_X9_promote_16 at h
  refine lv_iconst (v := (1 : Int32)) hx hb dX9_promote_16 (by decide) ?_
  refine lv_goto (tgt := 21) hx hb dX9_promote_17 (by decide) ?_
  refine lv_iconst (v := (1 : Int32)) hx hb dX9_promote_21 (by decide) ?_
  refine q_Vi (As := [.int (1 : Int32), .int (1 : Int32)]) (rest := []) E hh (c_X9_bad l G _ _ _ _ _ h) (cwV 2 hts gX9_promote_X9_bad rfl rfl rfl (by decide +kernel) ⟨Nat.le_of_ble_eq_true rfl, Nat.le_of_ble_eq_true rfl⟩) (va_recv (ci := 9) E.2.1 hh.1 rfl (WW_at_28 G σ)) rfl hl.1 rfl (Nat.le_of_ble_eq_true rfl) dX9_promote_22 ⟨Nat.zero_le _, Nat.zero_le _⟩ (fun r22 s22 H locs h hh => ?_)
  refine lv_if_eq (tgt := 30) hx hb dX9_promote_25 (by decide) (fun c9 => ?_) (fun c9 => ?_)
  · have h := h.1 c9
    refine lv_aload_n hx hb dX9_promote_30 rfl (lv_at hl 0 rfl) ?_
    refine q_Vv (As := []) (rest := []) E hh (c_X9_ranked l G _ _  _ h) (cwV 0 hts gX9_promote_X9_ranked rfl rfl rfl (by decide +kernel) ⟨Nat.le_of_ble_eq_true rfl, Nat.le_of_ble_eq_true rfl⟩) (va_recv (ci := 9) E.2.1 hh.1 rfl (WW_at_28 G s22)) rfl hl.1 rfl (Nat.le_of_ble_eq_true rfl) dX9_promote_31 ⟨Nat.zero_le _, Nat.zero_le _⟩ (fun s31 H locs h hh => ?_)
    refine lv_iconst (v := (0 : Int32)) hx hb dX9_promote_34 (by decide) ?_
    refine lv_istore_n (lv' := [(2, .int (0 : Int32)), (0, .ref (G.2.1 28)), (1, .int l1)]) hx hb dX9_promote_35 rfl hl (by decide) rfl (fun ls hl => ?_)
    refine lv_iconst (v := (0 : Int32)) hx hb dX9_promote_36 (by decide) ?_
    refine lv_istore_n (lv' := [(3, .int (0 : Int32)), (2, .int (0 : Int32)), (0, .ref (G.2.1 28)), (1, .int l1)]) hx hb dX9_promote_37 rfl hl (by decide) rfl (fun ls hl => ?_)
    exact w_X9_promote_38 E hr hlocks  FU _ _ _ _ _ _ _ h hh (lv_sub hl [2, 3, 1, 0] rfl)
  · have h := h.2 c9
    refine lv_iconst (v := (0 : Int32)) hx hb dX9_promote_28 (by decide) ?_
    exact q_iret E hh hr hlocks h dX9_promote_29
def f_X9_promote (σ : St) (p1 : Int32) (Q : Int32 → St → Prop) : Prop :=
  ((p1 < 0 → f_X9_promote_16 Q (si σ 23 (0 : Int32)) p1) ∧ (¬ p1 < 0 → ((p1 ≤ (16 : Int32) → f_X9_bad (si σ 23 (0 : Int32)) (0 : Int32) (1 : Int32) (fun r22 s22 => ((r22 = 0 → f_X9_ranked s22 (fun s31 => f_X9_promote_38L Q FU s31 p1 (0 : Int32) (0 : Int32))) ∧ (¬ r22 = 0 → Q (0 : Int32) s22)))) ∧ (¬ p1 ≤ (16 : Int32) → f_X9_promote_16 Q (si σ 23 (0 : Int32)) p1))))
set_option maxHeartbeats 4000000 in
set_option maxRecDepth 100000 in
theorem c_X9_promote (l : Launch) (G : GG) (σ : St) (sz : Nat) (p1 : Int32) (Q : Int32 → St → Prop) (h : f_X9_promote σ p1 Q) : CTi l yX9_promote wsX9_promote ({ frames := 2, cells := 0, slots := 0, locals := 48 }) [.ref (G.2.1 28), .int p1] G σ sz Q := by
  refine Met.ofW (cc := cX9_promote) (maxL := 7) (ret := (some .int)) (by decide) rfl ?_
  intro p e s m args below meth c s₁ B hml hv
  obtain ⟨rfl, hpre⟩ := hv
  have hr := B.returns
  have hlocks := B.notSynchronized
  obtain ⟨hsz, -⟩ := id hpre
  subst hsz
  obtain ⟨E, hh⟩ := EV.ofPre (⟨B.exec, B.bytes, hml, findClass_of_methodNamed B.named, atoms_spec (ws := wsX9_promote) B.pre⟩ : CallFix p m c cX9_promote 7 s _ wsX9_promote RX9) hpre
  have hx := E.1.1
  have hb := E.1.2.1
  have hown := E.1.2.2.2.1
  have hts := E.1.2.2.2.2
  have h_inX9 : ∀ w ∈ wsX90, w ∈ wsX9_promote := (fun _ h9 => (List.mem_cons_of_mem _ (List.mem_append_right _ h9)))
  have hl := lv_entry ([.ref (G.2.1 28), .int p1]) (n := 7) (Nat.le_of_ble_eq_true rfl)
  rw [lg_entry_eq]
  generalize (lg_sl ([.ref (G.2.1 28), .int p1]) ++ List.replicate (7 - (lg_sl ([.ref (G.2.1 28), .int p1])).length) Slot.unset).toArray = ls at hl ⊢
  have hl : lv_has ls 7 [(0, .ref (G.2.1 28)), (1, .int p1)] := hl
  unfold f_X9_promote at h
  refine lv_aload_n hx hb dX9_promote_0 rfl (lv_at hl 0 rfl) ?_
  refine lv_iconst (v := (0 : Int32)) hx hb dX9_promote_1 (by decide) ?_
  refine q_put (T := TX9) E hh h_inX9 tyX9 tyX9_ok nmX9 28 (WW_at_28 G σ) rfl 0 (by decide) (List.mem_cons_of_mem _ (List.mem_append_left _ (List.mem_append_left _ (List.mem_of_getElem? (i := 0) rfl)))) rfl rfl (by decide +kernel) (Nat.le_of_ble_eq_true rfl) dX9_promote_2 (WW_si_23 G σ (0 : Int32)) (fun H locs hh => ?_)
  refine lv_aload_n hx hb dX9_promote_5 rfl (lv_at hl 0 rfl) ?_
  refine lv_iload_n hx hb dX9_promote_6 rfl (lv_at hl 1 rfl) ?_
  refine lv_if_lt (tgt := 16) hx hb dX9_promote_7 (by decide) (fun c9 => ?_) (fun c9 => ?_)
  · have h := h.1 c9
    exact w_X9_promote_16 E hr hlocks  _ _ _ _ _ h hh (lv_sub hl [0, 1] rfl)
  · have h := h.2 c9
    refine lv_iload_n hx hb dX9_promote_10 rfl (lv_at hl 1 rfl) ?_
    refine lv_bipush (v := (16 : Int32)) hx hb dX9_promote_11 (by decide) ?_
    refine lv_icmp_le (tgt := 20) hx hb dX9_promote_13 (by decide) (fun c9 => ?_) (fun c9 => ?_)
    · have h := h.1 c9
      refine lv_iconst (v := (0 : Int32)) hx hb dX9_promote_20 (by decide) ?_
      refine lv_iconst (v := (1 : Int32)) hx hb dX9_promote_21 (by decide) ?_
      refine q_Vi (As := [.int (0 : Int32), .int (1 : Int32)]) (rest := []) E hh (c_X9_bad l G _ _ _ _ _ h) (cwV 2 hts gX9_promote_X9_bad rfl rfl rfl (by decide +kernel) ⟨Nat.le_of_ble_eq_true rfl, Nat.le_of_ble_eq_true rfl⟩) (va_recv (ci := 9) E.2.1 hh.1 rfl (WW_at_28 G (si σ 23 (0 : Int32)))) rfl hl.1 rfl (Nat.le_of_ble_eq_true rfl) dX9_promote_22 ⟨Nat.zero_le _, Nat.zero_le _⟩ (fun r22 s22 H locs h hh => ?_)
      refine lv_if_eq (tgt := 30) hx hb dX9_promote_25 (by decide) (fun c9 => ?_) (fun c9 => ?_)
      · have h := h.1 c9
        refine lv_aload_n hx hb dX9_promote_30 rfl (lv_at hl 0 rfl) ?_
        refine q_Vv (As := []) (rest := []) E hh (c_X9_ranked l G _ _  _ h) (cwV 0 hts gX9_promote_X9_ranked rfl rfl rfl (by decide +kernel) ⟨Nat.le_of_ble_eq_true rfl, Nat.le_of_ble_eq_true rfl⟩) (va_recv (ci := 9) E.2.1 hh.1 rfl (WW_at_28 G s22)) rfl hl.1 rfl (Nat.le_of_ble_eq_true rfl) dX9_promote_31 ⟨Nat.zero_le _, Nat.zero_le _⟩ (fun s31 H locs h hh => ?_)
        refine lv_iconst (v := (0 : Int32)) hx hb dX9_promote_34 (by decide) ?_
        refine lv_istore_n (lv' := [(2, .int (0 : Int32)), (0, .ref (G.2.1 28)), (1, .int p1)]) hx hb dX9_promote_35 rfl hl (by decide) rfl (fun ls hl => ?_)
        refine lv_iconst (v := (0 : Int32)) hx hb dX9_promote_36 (by decide) ?_
        refine lv_istore_n (lv' := [(3, .int (0 : Int32)), (2, .int (0 : Int32)), (0, .ref (G.2.1 28)), (1, .int p1)]) hx hb dX9_promote_37 rfl hl (by decide) rfl (fun ls hl => ?_)
        exact w_X9_promote_38 E hr hlocks  FU _ _ _ _ _ _ _ h hh (lv_sub hl [2, 3, 1, 0] rfl)
      · have h := h.2 c9
        refine lv_iconst (v := (0 : Int32)) hx hb dX9_promote_28 (by decide) ?_
        exact q_iret E hh hr hlocks h dX9_promote_29
    · have h := h.2 c9
      exact w_X9_promote_16 E hr hlocks  _ _ _ _ _ h hh (lv_sub hl [0, 1] rfl)
