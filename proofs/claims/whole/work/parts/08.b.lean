def f_X1_layLeg (σ : St) (p1 : Int32) (p2 : Int32) (p3 : Int32) (Q : St → Prop) : Prop :=
  f_X8_cellBeyond (si σ 1 p1) p1 p2 p3 (fun r9 s9 => Q (si s9 2 r9))
set_option maxHeartbeats 4000000 in
set_option maxRecDepth 100000 in
theorem c_X1_layLeg (l : Launch) (G : GG) (σ : St) (sz : Nat) (p1 : Int32) (p2 : Int32) (p3 : Int32) (Q : St → Prop) (h : f_X1_layLeg σ p1 p2 p3 Q) : CTv l yX1_layLeg wsX1_layLeg ({ frames := 3, cells := 0, slots := 0, locals := 64 }) [.ref (G.2.1 2), .int p1, .int p2, .int p3] G σ sz Q := by
  refine Met.ofW (cc := cX1_layLeg) (maxL := 4) (ret := none) (by decide) rfl ?_
  intro p e s m args below meth c s₁ B hml hv
  obtain ⟨rfl, hpre⟩ := hv
  have hr := B.returns
  have hlocks := B.notSynchronized
  obtain ⟨hsz, -⟩ := id hpre
  subst hsz
  obtain ⟨E, hh⟩ := EV.ofPre (⟨B.exec, B.bytes, hml, findClass_of_methodNamed B.named, atoms_spec (ws := wsX1_layLeg) B.pre⟩ : CallFix p m c cX1_layLeg 4 s _ wsX1_layLeg RX1) hpre
  have hx := E.1.1
  have hb := E.1.2.1
  have hown := E.1.2.2.2.1
  have hts := E.1.2.2.2.2
  have h_inX1 : ∀ w ∈ wsX10, w ∈ wsX1_layLeg := (fun _ h9 => (List.mem_cons_of_mem _ (List.mem_append_right _ h9)))
  have hl := lv_entry ([.ref (G.2.1 2), .int p1, .int p2, .int p3]) (n := 4) (Nat.le_of_ble_eq_true rfl)
  rw [lg_entry_eq]
  generalize (lg_sl ([.ref (G.2.1 2), .int p1, .int p2, .int p3]) ++ List.replicate (4 - (lg_sl ([.ref (G.2.1 2), .int p1, .int p2, .int p3])).length) Slot.unset).toArray = ls at hl ⊢
  have hl : lv_has ls 4 [(0, .ref (G.2.1 2)), (1, .int p1), (2, .int p2), (3, .int p3)] := hl
  unfold f_X1_layLeg at h
  refine lv_aload_n hx hb dX1_layLeg_0 rfl (lv_at hl 0 rfl) ?_
  refine lv_iload_n hx hb dX1_layLeg_1 rfl (lv_at hl 1 rfl) ?_
  refine q_put (T := TX1) E hh h_inX1 tyX1 tyX1_ok nmX1 2 (WW_at_2 G σ) rfl 0 (by decide) (List.mem_cons_of_mem _ (List.mem_append_left _ (List.mem_of_getElem? (i := 0) rfl))) rfl rfl (by decide +kernel) (Nat.le_of_ble_eq_true rfl) dX1_layLeg_2 (WW_si_1 G σ p1) (fun H locs hh => ?_)
  refine lv_aload_n hx hb dX1_layLeg_5 rfl (lv_at hl 0 rfl) ?_
  refine lv_iload_n hx hb dX1_layLeg_6 rfl (lv_at hl 1 rfl) ?_
  refine lv_iload_n hx hb dX1_layLeg_7 rfl (lv_at hl 2 rfl) ?_
  refine lv_iload_n hx hb dX1_layLeg_8 rfl (lv_at hl 3 rfl) ?_
  refine q_Ni (As := [.int p1, .int p2, .int p3]) (rest := [.ref (G.2.1 2)]) E hh (c_X8_cellBeyond l G _ _ _ _ _ _ h) (va_cnB 3 hts gX1_layLeg_X8_cellBeyond_n28 rfl rfl rfl (E.2.2.2.1.1.2.1 (RX1, 28, (⟨RX8, "cellBeyond", "(III)I"⟩ : MethodName), "IceRegatta") (List.mem_of_getElem? (i := 10) rfl)) (hts _ (List.mem_cons_of_mem _ (List.mem_append_left _ (List.mem_of_getElem? (i := 3) rfl)))) (by decide +kernel) ⟨Nat.le_of_ble_eq_true rfl, Nat.le_of_ble_eq_true rfl⟩) (List.mem_cons_of_mem _ (List.mem_append_left _ (List.mem_of_getElem? (i := 2) rfl))) rfl hl.1 rfl (Nat.le_of_ble_eq_true rfl) dX1_layLeg_9 ⟨Nat.zero_le _, Nat.zero_le _⟩ (fun r9 s9 H locs h hh => ?_)
  refine q_put (T := TX1) E hh h_inX1 tyX1 tyX1_ok nmX1 2 (WW_at_2 G s9) rfl 1 (by decide) (List.mem_cons_of_mem _ (List.mem_append_left _ (List.mem_of_getElem? (i := 1) rfl))) rfl rfl (by decide +kernel) (Nat.le_of_ble_eq_true rfl) dX1_layLeg_12 (WW_si_2 G s9 r9) (fun H locs hh => ?_)
  exact q_vret E hh hr hlocks h dX1_layLeg_15
def f_X1_takeLongest_9 (Q : Int32 → St → Prop)  (rec : St → Int32 → Int32 → Int32 → Int32 → Int32 → Prop) (σ : St) (l2 : Int32) (l3 : Int32) (l4 : Int32) (l5 : Int32) (l6 : Int32) : Prop :=
  (((144 : Int32) ≤ l6 → ((¬ l5 = (-1 : Int32) → f_X1_layLeg σ l5 l2 l4 (fun s62 => Q l4 s62)) ∧ (l5 = (-1 : Int32) → Q (-1 : Int32) σ))) ∧ (¬ (144 : Int32) ≤ l6 → f_X3_reach σ l6 l2 l3 (fun r22 s22 => ((r22 ≤ l4 → rec s22 l2 l3 l4 l5 (l6 + 1)) ∧ (¬ r22 ≤ l4 → rec s22 l2 l3 r22 l6 (l6 + 1))))))
def f_X1_takeLongest_9L (Q : Int32 → St → Prop)  : Nat → St → Int32 → Int32 → Int32 → Int32 → Int32 → Prop
  | 0, _, _, _, _, _, _ => False
  | n + 1, σ, l2, l3, l4, l5, l6 => f_X1_takeLongest_9 Q  (f_X1_takeLongest_9L Q  n) σ l2 l3 l4 l5 l6
set_option maxHeartbeats 4000000 in
set_option maxRecDepth 100000 in
theorem w_X1_takeLongest_9 {p : Program} {l : Launch} {e : Env} {s : State} {m : MethodId} {args : Array Value} {below : List Frame} {meth : Method} {c : Code} {G : GG} (E : EV p s m args c cX1_takeLongest 8 wsX1_takeLongest RX1 G (AD G s.heap.size)) (hr : meth.sig.returnType = (some .int)) (hlocks : meth.locks = false) {Q : Int32 → St → Prop}  : ∀ (n : Nat) (σ : St) (l2 : Int32) (l3 : Int32) (l4 : Int32) (l5 : Int32) (l6 : Int32) (H : Heap) (locs : List Loc) (ls : Array Slot), f_X1_takeLongest_9L Q  n σ l2 l3 l4 l5 l6 → HH G (AD G s.heap.size) s σ H locs → lv_has ls 8 [(0, .ref (G.2.1 2)), (1, .ref (G.2.1 1)), (2, .int l2), (3, .int l3), (4, .int l4), (5, .int l5), (6, .int l6)] → W p l e ({ frames := 4, cells := 0, slots := 0, locals := 89 }) s m args below meth c H locs 0 0 (MQi below G args s Q) (F0 m 9 ls []) := by
  have hx := E.1.1
  have hb := E.1.2.1
  have hown := E.1.2.2.2.1
  have hts := E.1.2.2.2.2
  intro n
  induction n with
  | zero =>
    intro σ l2 l3 l4 l5 l6 H locs ls h
    exact h.elim
  | succ n ih =>
    intro σ l2 l3 l4 l5 l6 H locs ls h hh hl
    have h : f_X1_takeLongest_9 Q  (f_X1_takeLongest_9L Q  n) σ l2 l3 l4 l5 l6 := h
    unfold f_X1_takeLongest_9 at h
    refine lv_iload hx hb dX1_takeLongest_9 (lv_at hl 6 rfl) ?_
    refine lv_sipush (v := (144 : Int32)) hx hb dX1_takeLongest_11 (by decide) ?_
    refine lv_icmp_ge (tgt := 48) hx hb dX1_takeLongest_14 (by decide) (fun c9 => ?_) (fun c9 => ?_)
    · have h := h.1 c9
      refine lv_iload hx hb dX1_takeLongest_48 (lv_at hl 5 rfl) ?_
      refine lv_iconst (v := (-1 : Int32)) hx hb dX1_takeLongest_50 (by decide) ?_
      refine lv_icmp_ne (tgt := 56) hx hb dX1_takeLongest_51 (by decide) (fun c9 => ?_) (fun c9 => ?_)
      · have h := h.1 c9
        refine lv_aload_n hx hb dX1_takeLongest_56 rfl (lv_at hl 0 rfl) ?_
        refine lv_iload hx hb dX1_takeLongest_57 (lv_at hl 5 rfl) ?_
        refine lv_iload_n hx hb dX1_takeLongest_59 rfl (lv_at hl 2 rfl) ?_
        refine lv_iload hx hb dX1_takeLongest_60 (lv_at hl 4 rfl) ?_
        refine q_Vv (As := [.int l5, .int l2, .int l4]) (rest := []) E hh (c_X1_layLeg l G _ _ _ _ _ _ h) (cwV 3 hts gX1_takeLongest_X1_layLeg rfl rfl rfl (by decide +kernel) ⟨Nat.le_of_ble_eq_true rfl, Nat.le_of_ble_eq_true rfl⟩) (va_recv (ci := 1) E.2.1 hh.1 rfl (WW_at_2 G σ)) rfl hl.1 rfl (Nat.le_of_ble_eq_true rfl) dX1_takeLongest_62 ⟨Nat.zero_le _, Nat.zero_le _⟩ (fun s62 H locs h hh => ?_)
        refine lv_iload hx hb dX1_takeLongest_65 (lv_at hl 4 rfl) ?_
        exact q_iret E hh hr hlocks h dX1_takeLongest_67
      · have h := h.2 c9
        refine lv_iconst (v := (-1 : Int32)) hx hb dX1_takeLongest_54 (by decide) ?_
        exact q_iret E hh hr hlocks h dX1_takeLongest_55
    · have h := h.2 c9
      refine lv_aload_n hx hb dX1_takeLongest_17 rfl (lv_at hl 1 rfl) ?_
      refine lv_iload hx hb dX1_takeLongest_18 (lv_at hl 6 rfl) ?_
      refine lv_iload_n hx hb dX1_takeLongest_20 rfl (lv_at hl 2 rfl) ?_
      refine lv_iload_n hx hb dX1_takeLongest_21 rfl (lv_at hl 3 rfl) ?_
      refine q_Vi (As := [.int l6, .int l2, .int l3]) (rest := []) E hh (c_X3_reach l G _ _ _ _ _ _ h) (cwV 3 hts gX1_takeLongest_X3_reach rfl rfl rfl (by decide +kernel) ⟨Nat.le_of_ble_eq_true rfl, Nat.le_of_ble_eq_true rfl⟩) (va_recv (ci := 3) E.2.1 hh.1 rfl (WW_at_1 G σ)) rfl hl.1 rfl (Nat.le_of_ble_eq_true rfl) dX1_takeLongest_22 ⟨Nat.zero_le _, Nat.zero_le _⟩ (fun r22 s22 H locs h hh => ?_)
      refine lv_istore (lv' := [(7, .int r22), (0, .ref (G.2.1 2)), (1, .ref (G.2.1 1)), (2, .int l2), (3, .int l3), (4, .int l4), (5, .int l5), (6, .int l6)]) hx hb dX1_takeLongest_25 hl (by decide) rfl (fun ls hl => ?_)
      refine lv_iload hx hb dX1_takeLongest_27 (lv_at hl 0 rfl) ?_
      refine lv_iload hx hb dX1_takeLongest_29 (lv_at hl 5 rfl) ?_
      refine lv_icmp_le (tgt := 42) hx hb dX1_takeLongest_31 (by decide) (fun c9 => ?_) (fun c9 => ?_)
      · have h := h.1 c9
        refine lv_iinc (v := (l6 + 1)) (lv' := [(6, .int (l6 + 1)), (7, .int r22), (0, .ref (G.2.1 2)), (1, .ref (G.2.1 1)), (2, .int l2), (3, .int l3), (4, .int l4), (5, .int l5)]) hx hb dX1_takeLongest_42 hl (k := 7) rfl rfl (by decide) rfl (fun ls hl => ?_)
        refine lv_goto (tgt := 9) hx hb dX1_takeLongest_45 (by decide) ?_
        exact ih _ _ _ _ _ _ _ _ _ h hh (lv_sub hl [2, 3, 4, 5, 6, 7, 0] rfl)
      · have h := h.2 c9
        refine lv_iload hx hb dX1_takeLongest_34 (lv_at hl 0 rfl) ?_
        refine lv_istore (lv' := [(4, .int r22), (7, .int r22), (0, .ref (G.2.1 2)), (1, .ref (G.2.1 1)), (2, .int l2), (3, .int l3), (5, .int l5), (6, .int l6)]) hx hb dX1_takeLongest_36 hl (by decide) rfl (fun ls hl => ?_)
        refine lv_iload hx hb dX1_takeLongest_38 (lv_at hl 7 rfl) ?_
        refine lv_istore (lv' := [(5, .int l6), (4, .int r22), (7, .int r22), (0, .ref (G.2.1 2)), (1, .ref (G.2.1 1)), (2, .int l2), (3, .int l3), (6, .int l6)]) hx hb dX1_takeLongest_40 hl (by decide) rfl (fun ls hl => ?_)
        refine lv_iinc (v := (l6 + 1)) (lv' := [(6, .int (l6 + 1)), (5, .int l6), (4, .int r22), (7, .int r22), (0, .ref (G.2.1 2)), (1, .ref (G.2.1 1)), (2, .int l2), (3, .int l3)]) hx hb dX1_takeLongest_42 hl (k := 7) rfl rfl (by decide) rfl (fun ls hl => ?_)
        refine lv_goto (tgt := 9) hx hb dX1_takeLongest_45 (by decide) ?_
        exact ih _ _ _ _ _ _ _ _ _ h hh (lv_sub hl [4, 5, 6, 7, 2, 1, 0] rfl)
def f_X1_takeLongest (σ : St) (p2 : Int32) (p3 : Int32) (Q : Int32 → St → Prop) : Prop :=
  f_X1_takeLongest_9L Q FU σ p2 p3 (0 : Int32) (-1 : Int32) (0 : Int32)
set_option maxHeartbeats 4000000 in
set_option maxRecDepth 100000 in
theorem c_X1_takeLongest (l : Launch) (G : GG) (σ : St) (sz : Nat) (p2 : Int32) (p3 : Int32) (Q : Int32 → St → Prop) (h : f_X1_takeLongest σ p2 p3 Q) : CTi l yX1_takeLongest wsX1_takeLongest ({ frames := 4, cells := 0, slots := 0, locals := 89 }) [.ref (G.2.1 2), .ref (G.2.1 1), .int p2, .int p3] G σ sz Q := by
  refine Met.ofW (cc := cX1_takeLongest) (maxL := 8) (ret := (some .int)) (by decide) rfl ?_
  intro p e s m args below meth c s₁ B hml hv
  obtain ⟨rfl, hpre⟩ := hv
  have hr := B.returns
  have hlocks := B.notSynchronized
  obtain ⟨hsz, -⟩ := id hpre
  subst hsz
  obtain ⟨E, hh⟩ := EV.ofPre (⟨B.exec, B.bytes, hml, findClass_of_methodNamed B.named, atoms_spec (ws := wsX1_takeLongest) B.pre⟩ : CallFix p m c cX1_takeLongest 8 s _ wsX1_takeLongest RX1) hpre
  have hx := E.1.1
  have hb := E.1.2.1
  have hown := E.1.2.2.2.1
  have hts := E.1.2.2.2.2
  have hl := lv_entry ([.ref (G.2.1 2), .ref (G.2.1 1), .int p2, .int p3]) (n := 8) (Nat.le_of_ble_eq_true rfl)
  rw [lg_entry_eq]
  generalize (lg_sl ([.ref (G.2.1 2), .ref (G.2.1 1), .int p2, .int p3]) ++ List.replicate (8 - (lg_sl ([.ref (G.2.1 2), .ref (G.2.1 1), .int p2, .int p3])).length) Slot.unset).toArray = ls at hl ⊢
  have hl : lv_has ls 8 [(0, .ref (G.2.1 2)), (1, .ref (G.2.1 1)), (2, .int p2), (3, .int p3)] := hl
  unfold f_X1_takeLongest at h
  refine lv_iconst (v := (0 : Int32)) hx hb dX1_takeLongest_0 (by decide) ?_
  refine lv_istore (lv' := [(4, .int (0 : Int32)), (0, .ref (G.2.1 2)), (1, .ref (G.2.1 1)), (2, .int p2), (3, .int p3)]) hx hb dX1_takeLongest_1 hl (by decide) rfl (fun ls hl => ?_)
  refine lv_iconst (v := (-1 : Int32)) hx hb dX1_takeLongest_3 (by decide) ?_
  refine lv_istore (lv' := [(5, .int (-1 : Int32)), (4, .int (0 : Int32)), (0, .ref (G.2.1 2)), (1, .ref (G.2.1 1)), (2, .int p2), (3, .int p3)]) hx hb dX1_takeLongest_4 hl (by decide) rfl (fun ls hl => ?_)
  refine lv_iconst (v := (0 : Int32)) hx hb dX1_takeLongest_6 (by decide) ?_
  refine lv_istore (lv' := [(6, .int (0 : Int32)), (5, .int (-1 : Int32)), (4, .int (0 : Int32)), (0, .ref (G.2.1 2)), (1, .ref (G.2.1 1)), (2, .int p2), (3, .int p3)]) hx hb dX1_takeLongest_7 hl (by decide) rfl (fun ls hl => ?_)
  exact w_X1_takeLongest_9 E hr hlocks  FU _ _ _ _ _ _ _ _ _ h hh (lv_sub hl [3, 4, 5, 6, 2, 1, 0] rfl)
def f_X1_unlikeMarks (σ : St) (p1 : Int32) (p2 : Int32) (Q : Int32 → St → Prop) : Prop :=
  ((¬ p1 = (gi σ 1) → ((¬ p2 = (gi σ 2) → Q ((1 : Int32) + (1 : Int32)) σ) ∧ (p2 = (gi σ 2) → Q ((1 : Int32) + (0 : Int32)) σ))) ∧ (p1 = (gi σ 1) → ((¬ p2 = (gi σ 2) → Q ((0 : Int32) + (1 : Int32)) σ) ∧ (p2 = (gi σ 2) → Q ((0 : Int32) + (0 : Int32)) σ))))
set_option maxHeartbeats 4000000 in
set_option maxRecDepth 100000 in
theorem c_X1_unlikeMarks (l : Launch) (G : GG) (σ : St) (sz : Nat) (p1 : Int32) (p2 : Int32) (Q : Int32 → St → Prop) (h : f_X1_unlikeMarks σ p1 p2 Q) : CTi l yX1_unlikeMarks wsX1_unlikeMarks ({ frames := 0, cells := 0, slots := 0, locals := 0 }) [.ref (G.2.1 2), .int p1, .int p2] G σ sz Q := by
  refine Met.ofW (cc := cX1_unlikeMarks) (maxL := 3) (ret := (some .int)) (by decide) rfl ?_
  intro p e s m args below meth c s₁ B hml hv
  obtain ⟨rfl, hpre⟩ := hv
  have hr := B.returns
  have hlocks := B.notSynchronized
  obtain ⟨hsz, -⟩ := id hpre
  subst hsz
  obtain ⟨E, hh⟩ := EV.ofPre (⟨B.exec, B.bytes, hml, findClass_of_methodNamed B.named, atoms_spec (ws := wsX1_unlikeMarks) B.pre⟩ : CallFix p m c cX1_unlikeMarks 3 s _ wsX1_unlikeMarks RX1) hpre
  have hx := E.1.1
  have hb := E.1.2.1
  have hown := E.1.2.2.2.1
  have hts := E.1.2.2.2.2
  have h_inX1 : ∀ w ∈ wsX10, w ∈ wsX1_unlikeMarks := (fun _ h9 => (List.mem_cons_of_mem _ (List.mem_append_right _ h9)))
  have hl := lv_entry ([.ref (G.2.1 2), .int p1, .int p2]) (n := 3) (Nat.le_of_ble_eq_true rfl)
  rw [lg_entry_eq]
  generalize (lg_sl ([.ref (G.2.1 2), .int p1, .int p2]) ++ List.replicate (3 - (lg_sl ([.ref (G.2.1 2), .int p1, .int p2])).length) Slot.unset).toArray = ls at hl ⊢
  have hl : lv_has ls 3 [(0, .ref (G.2.1 2)), (1, .int p1), (2, .int p2)] := hl
  unfold f_X1_unlikeMarks at h
  refine lv_iload_n hx hb dX1_unlikeMarks_0 rfl (lv_at hl 1 rfl) ?_
  refine lv_aload_n hx hb dX1_unlikeMarks_1 rfl (lv_at hl 0 rfl) ?_
  refine q_get (T := TX1) (v := .int (gi σ 1)) E hh h_inX1 2 (WW_at_2 G σ) rfl 0 (by decide) (List.mem_cons_of_mem _ (List.mem_append_left _ (List.mem_of_getElem? (i := 0) rfl))) rfl rfl dX1_unlikeMarks_2 ?_
  refine lv_icmp_ne (tgt := 12) hx hb dX1_unlikeMarks_5 (by decide) (fun c9 => ?_) (fun c9 => ?_)
  · have h := h.1 c9
    refine lv_iconst (v := (1 : Int32)) hx hb dX1_unlikeMarks_12 (by decide) ?_
    refine lv_iload_n hx hb dX1_unlikeMarks_13 rfl (lv_at hl 2 rfl) ?_
    refine lv_aload_n hx hb dX1_unlikeMarks_14 rfl (lv_at hl 0 rfl) ?_
    refine q_get (T := TX1) (v := .int (gi σ 2)) E hh h_inX1 2 (WW_at_2 G σ) rfl 1 (by decide) (List.mem_cons_of_mem _ (List.mem_append_left _ (List.mem_of_getElem? (i := 1) rfl))) rfl rfl dX1_unlikeMarks_15 ?_
    refine lv_icmp_ne (tgt := 25) hx hb dX1_unlikeMarks_18 (by decide) (fun c9 => ?_) (fun c9 => ?_)
    · have h := h.1 c9
      refine lv_iconst (v := (1 : Int32)) hx hb dX1_unlikeMarks_25 (by decide) ?_
      refine lv_iadd hx hb dX1_unlikeMarks_26 ?_
      exact q_iret E hh hr hlocks h dX1_unlikeMarks_27
    · have h := h.2 c9
      refine lv_iconst (v := (0 : Int32)) hx hb dX1_unlikeMarks_21 (by decide) ?_
      refine lv_goto (tgt := 26) hx hb dX1_unlikeMarks_22 (by decide) ?_
      refine lv_iadd hx hb dX1_unlikeMarks_26 ?_
      exact q_iret E hh hr hlocks h dX1_unlikeMarks_27
  · have h := h.2 c9
    refine lv_iconst (v := (0 : Int32)) hx hb dX1_unlikeMarks_8 (by decide) ?_
    refine lv_goto (tgt := 13) hx hb dX1_unlikeMarks_9 (by decide) ?_
    refine lv_iload_n hx hb dX1_unlikeMarks_13 rfl (lv_at hl 2 rfl) ?_
    refine lv_aload_n hx hb dX1_unlikeMarks_14 rfl (lv_at hl 0 rfl) ?_
    refine q_get (T := TX1) (v := .int (gi σ 2)) E hh h_inX1 2 (WW_at_2 G σ) rfl 1 (by decide) (List.mem_cons_of_mem _ (List.mem_append_left _ (List.mem_of_getElem? (i := 1) rfl))) rfl rfl dX1_unlikeMarks_15 ?_
    refine lv_icmp_ne (tgt := 25) hx hb dX1_unlikeMarks_18 (by decide) (fun c9 => ?_) (fun c9 => ?_)
    · have h := h.1 c9
      refine lv_iconst (v := (1 : Int32)) hx hb dX1_unlikeMarks_25 (by decide) ?_
      refine lv_iadd hx hb dX1_unlikeMarks_26 ?_
      exact q_iret E hh hr hlocks h dX1_unlikeMarks_27
    · have h := h.2 c9
      refine lv_iconst (v := (0 : Int32)) hx hb dX1_unlikeMarks_21 (by decide) ?_
      refine lv_goto (tgt := 26) hx hb dX1_unlikeMarks_22 (by decide) ?_
      refine lv_iadd hx hb dX1_unlikeMarks_26 ?_
      exact q_iret E hh hr hlocks h dX1_unlikeMarks_27
def f_X1_takeNearest_44 (Q : Int32 → St → Prop) (K22 : St → Int32 → Int32 → Int32 → Int32 → Int32 → Int32 → Int32 → Prop) (rec : St → Int32 → Int32 → Int32 → Int32 → Int32 → Int32 → Int32 → Int32 → Int32 → Prop) (σ : St) (l2 : Int32) (l3 : Int32) (l4 : Int32) (l5 : Int32) (l6 : Int32) (l7 : Int32) (l8 : Int32) (l9 : Int32) (l10 : Int32) : Prop :=
  ((l9 < l10 → K22 σ l2 l3 l4 l5 l6 l7 (l8 + 1)) ∧ (¬ l9 < l10 → f_X8_cellBeyond σ l8 l2 l10 (fun r59 s59 => f_X1_unlikeMarks s59 l8 r59 (fun r62 s62 => ((r62 < l5 → rec s62 l2 l3 l4 r62 l10 l8 l8 l9 (l10 + 1)) ∧ (¬ r62 < l5 → ((¬ r62 = l5 → rec s62 l2 l3 l4 l5 l6 l7 l8 l9 (l10 + 1)) ∧ (r62 = l5 → ((l10 ≤ l6 → rec s62 l2 l3 l4 l5 l6 l7 l8 l9 (l10 + 1)) ∧ (¬ l10 ≤ l6 → rec s62 l2 l3 l4 r62 l10 l8 l8 l9 (l10 + 1)))))))))))
def f_X1_takeNearest_44L (Q : Int32 → St → Prop) (K22 : St → Int32 → Int32 → Int32 → Int32 → Int32 → Int32 → Int32 → Prop) : Nat → St → Int32 → Int32 → Int32 → Int32 → Int32 → Int32 → Int32 → Int32 → Int32 → Prop
  | 0, _, _, _, _, _, _, _, _, _, _ => False
  | n + 1, σ, l2, l3, l4, l5, l6, l7, l8, l9, l10 => f_X1_takeNearest_44 Q K22 (f_X1_takeNearest_44L Q K22 n) σ l2 l3 l4 l5 l6 l7 l8 l9 l10
set_option maxHeartbeats 4000000 in
set_option maxRecDepth 100000 in
theorem w_X1_takeNearest_44 {p : Program} {l : Launch} {e : Env} {s : State} {m : MethodId} {args : Array Value} {below : List Frame} {meth : Method} {c : Code} {G : GG} (E : EV p s m args c cX1_takeNearest 12 wsX1_takeNearest RX1 G (AD G s.heap.size)) (hr : meth.sig.returnType = (some .int)) (hlocks : meth.locks = false) {Q : Int32 → St → Prop} {K22 : St → Int32 → Int32 → Int32 → Int32 → Int32 → Int32 → Int32 → Prop} (hK22 : ∀ (σ : St) (l2 : Int32) (l3 : Int32) (l4 : Int32) (l5 : Int32) (l6 : Int32) (l7 : Int32) (l8 : Int32) (H : Heap) (locs : List Loc) (ls : Array Slot), K22 σ l2 l3 l4 l5 l6 l7 l8 → HH G (AD G s.heap.size) s σ H locs → lv_has ls 12 [(0, .ref (G.2.1 2)), (1, .ref (G.2.1 1)), (2, .int l2), (3, .int l3), (4, .int l4), (5, .int l5), (6, .int l6), (7, .int l7), (8, .int l8)] → W p l e ({ frames := 4, cells := 0, slots := 0, locals := 89 }) s m args below meth c H locs 0 0 (MQi below G args s Q) (F0 m 22 ls [])) : ∀ (n : Nat) (σ : St) (l2 : Int32) (l3 : Int32) (l4 : Int32) (l5 : Int32) (l6 : Int32) (l7 : Int32) (l8 : Int32) (l9 : Int32) (l10 : Int32) (H : Heap) (locs : List Loc) (ls : Array Slot), f_X1_takeNearest_44L Q K22 n σ l2 l3 l4 l5 l6 l7 l8 l9 l10 → HH G (AD G s.heap.size) s σ H locs → lv_has ls 12 [(0, .ref (G.2.1 2)), (1, .ref (G.2.1 1)), (2, .int l2), (3, .int l3), (4, .int l4), (5, .int l5), (6, .int l6), (7, .int l7), (8, .int l8), (9, .int l9), (10, .int l10)] → W p l e ({ frames := 4, cells := 0, slots := 0, locals := 89 }) s m args below meth c H locs 0 0 (MQi below G args s Q) (F0 m 44 ls []) := by
  have hx := E.1.1
  have hb := E.1.2.1
  have hown := E.1.2.2.2.1
  have hts := E.1.2.2.2.2
  have h_inX1 : ∀ w ∈ wsX10, w ∈ wsX1_takeNearest := (fun _ h9 => (List.mem_cons_of_mem _ (List.mem_append_left _ (List.mem_append_right _ h9))))
  intro n
  induction n with
  | zero =>
    intro σ l2 l3 l4 l5 l6 l7 l8 l9 l10 H locs ls h
    exact h.elim
  | succ n ih =>
    intro σ l2 l3 l4 l5 l6 l7 l8 l9 l10 H locs ls h hh hl
    have h : f_X1_takeNearest_44 Q K22 (f_X1_takeNearest_44L Q K22 n) σ l2 l3 l4 l5 l6 l7 l8 l9 l10 := h
    unfold f_X1_takeNearest_44 at h
    refine lv_iload hx hb dX1_takeNearest_44 (lv_at hl 10 rfl) ?_
    refine lv_iload hx hb dX1_takeNearest_46 (lv_at hl 9 rfl) ?_
    refine lv_icmp_gt (tgt := 106) hx hb dX1_takeNearest_48 (by decide) (fun c9 => ?_) (fun c9 => ?_)
    · have h := h.1 c9
      refine lv_iinc (v := (l8 + 1)) (lv' := [(8, .int (l8 + 1)), (0, .ref (G.2.1 2)), (1, .ref (G.2.1 1)), (2, .int l2), (3, .int l3), (4, .int l4), (5, .int l5), (6, .int l6), (7, .int l7), (9, .int l9), (10, .int l10)]) hx hb dX1_takeNearest_106 hl (k := 8) rfl rfl (by decide) rfl (fun ls hl => ?_)
      refine lv_goto (tgt := 22) hx hb dX1_takeNearest_109 (by decide) ?_
      exact hK22 _ _ _ _ _ _ _ _ _ _ _ h hh (lv_sub hl [1, 2, 3, 4, 5, 6, 7, 8, 0] rfl)
    · have h := h.2 c9
      refine lv_aload_n hx hb dX1_takeNearest_51 rfl (lv_at hl 0 rfl) ?_
      refine lv_iload hx hb dX1_takeNearest_52 (lv_at hl 8 rfl) ?_
      refine lv_iload hx hb dX1_takeNearest_54 (lv_at hl 8 rfl) ?_
      refine lv_iload_n hx hb dX1_takeNearest_56 rfl (lv_at hl 2 rfl) ?_
      refine lv_iload hx hb dX1_takeNearest_57 (lv_at hl 10 rfl) ?_
      refine q_Ni (As := [.int l8, .int l2, .int l10]) (rest := [.int l8, .ref (G.2.1 2)]) E hh (c_X8_cellBeyond l G _ _ _ _ _ _ h) (va_cnB 3 hts gX1_takeNearest_X8_cellBeyond_n28 rfl rfl rfl (E.2.2.2.1.1.2.1 (RX1, 28, (⟨RX8, "cellBeyond", "(III)I"⟩ : MethodName), "IceRegatta") (List.mem_of_getElem? (i := 10) rfl)) (hts _ (List.mem_cons_of_mem _ (List.mem_append_left _ (List.mem_append_left _ (List.mem_append_left _ (List.mem_of_getElem? (i := 7) rfl)))))) (by decide +kernel) ⟨Nat.le_of_ble_eq_true rfl, Nat.le_of_ble_eq_true rfl⟩) (List.mem_cons_of_mem _ (List.mem_append_left _ (List.mem_append_left _ (List.mem_append_left _ (List.mem_of_getElem? (i := 6) rfl))))) rfl hl.1 rfl (Nat.le_of_ble_eq_true rfl) dX1_takeNearest_59 ⟨Nat.zero_le _, Nat.zero_le _⟩ (fun r59 s59 H locs h hh => ?_)
      refine q_Vi (As := [.int l8, .int r59]) (rest := []) E hh (c_X1_unlikeMarks l G _ _ _ _ _ h) (cwV 2 hts gX1_takeNearest_X1_unlikeMarks rfl rfl rfl (by decide +kernel) ⟨Nat.le_of_ble_eq_true rfl, Nat.le_of_ble_eq_true rfl⟩) (va_recv (ci := 1) E.2.1 hh.1 rfl (WW_at_2 G s59)) rfl hl.1 rfl (Nat.le_of_ble_eq_true rfl) dX1_takeNearest_62 ⟨Nat.zero_le _, Nat.zero_le _⟩ (fun r62 s62 H locs h hh => ?_)
      refine lv_istore (lv' := [(11, .int r62), (0, .ref (G.2.1 2)), (1, .ref (G.2.1 1)), (2, .int l2), (3, .int l3), (4, .int l4), (5, .int l5), (6, .int l6), (7, .int l7), (8, .int l8), (9, .int l9), (10, .int l10)]) hx hb dX1_takeNearest_65 hl (by decide) rfl (fun ls hl => ?_)
      refine lv_iload hx hb dX1_takeNearest_67 (lv_at hl 0 rfl) ?_
      refine lv_iload hx hb dX1_takeNearest_69 (lv_at hl 6 rfl) ?_
      refine lv_icmp_lt (tgt := 88) hx hb dX1_takeNearest_71 (by decide) (fun c9 => ?_) (fun c9 => ?_)
      · have h := h.1 c9
        refine lv_iload hx hb dX1_takeNearest_88 (lv_at hl 0 rfl) ?_
        refine lv_istore (lv' := [(5, .int r62), (11, .int r62), (0, .ref (G.2.1 2)), (1, .ref (G.2.1 1)), (2, .int l2), (3, .int l3), (4, .int l4), (6, .int l6), (7, .int l7), (8, .int l8), (9, .int l9), (10, .int l10)]) hx hb dX1_takeNearest_90 hl (by decide) rfl (fun ls hl => ?_)
        refine lv_iload hx hb dX1_takeNearest_92 (lv_at hl 11 rfl) ?_
        refine lv_istore (lv' := [(6, .int l10), (5, .int r62), (11, .int r62), (0, .ref (G.2.1 2)), (1, .ref (G.2.1 1)), (2, .int l2), (3, .int l3), (4, .int l4), (7, .int l7), (8, .int l8), (9, .int l9), (10, .int l10)]) hx hb dX1_takeNearest_94 hl (by decide) rfl (fun ls hl => ?_)
        refine lv_iload hx hb dX1_takeNearest_96 (lv_at hl 9 rfl) ?_
        refine lv_istore (lv' := [(7, .int l8), (6, .int l10), (5, .int r62), (11, .int r62), (0, .ref (G.2.1 2)), (1, .ref (G.2.1 1)), (2, .int l2), (3, .int l3), (4, .int l4), (8, .int l8), (9, .int l9), (10, .int l10)]) hx hb dX1_takeNearest_98 hl (by decide) rfl (fun ls hl => ?_)
        refine lv_iinc (v := (l10 + 1)) (lv' := [(10, .int (l10 + 1)), (7, .int l8), (6, .int l10), (5, .int r62), (11, .int r62), (0, .ref (G.2.1 2)), (1, .ref (G.2.1 1)), (2, .int l2), (3, .int l3), (4, .int l4), (8, .int l8), (9, .int l9)]) hx hb dX1_takeNearest_100 hl (k := 11) rfl rfl (by decide) rfl (fun ls hl => ?_)
        refine lv_goto (tgt := 44) hx hb dX1_takeNearest_103 (by decide) ?_
        exact ih _ _ _ _ _ _ _ _ _ _ _ _ _ h hh (lv_sub hl [5, 6, 7, 8, 9, 3, 2, 1, 10, 11, 0] rfl)
      · have h := h.2 c9
        refine lv_iload hx hb dX1_takeNearest_74 (lv_at hl 0 rfl) ?_
        refine lv_iload hx hb dX1_takeNearest_76 (lv_at hl 6 rfl) ?_
        refine lv_icmp_ne (tgt := 100) hx hb dX1_takeNearest_78 (by decide) (fun c9 => ?_) (fun c9 => ?_)
        · have h := h.1 c9
          refine lv_iinc (v := (l10 + 1)) (lv' := [(10, .int (l10 + 1)), (11, .int r62), (0, .ref (G.2.1 2)), (1, .ref (G.2.1 1)), (2, .int l2), (3, .int l3), (4, .int l4), (5, .int l5), (6, .int l6), (7, .int l7), (8, .int l8), (9, .int l9)]) hx hb dX1_takeNearest_100 hl (k := 11) rfl rfl (by decide) rfl (fun ls hl => ?_)
          refine lv_goto (tgt := 44) hx hb dX1_takeNearest_103 (by decide) ?_
          exact ih _ _ _ _ _ _ _ _ _ _ _ _ _ h hh (lv_sub hl [2, 3, 4, 5, 6, 7, 8, 9, 10, 11, 0] rfl)
        · have h := h.2 c9
          refine lv_iload hx hb dX1_takeNearest_81 (lv_at hl 11 rfl) ?_
          refine lv_iload hx hb dX1_takeNearest_83 (lv_at hl 7 rfl) ?_
          refine lv_icmp_le (tgt := 100) hx hb dX1_takeNearest_85 (by decide) (fun c9 => ?_) (fun c9 => ?_)
          · have h := h.1 c9
            refine lv_iinc (v := (l10 + 1)) (lv' := [(10, .int (l10 + 1)), (11, .int r62), (0, .ref (G.2.1 2)), (1, .ref (G.2.1 1)), (2, .int l2), (3, .int l3), (4, .int l4), (5, .int l5), (6, .int l6), (7, .int l7), (8, .int l8), (9, .int l9)]) hx hb dX1_takeNearest_100 hl (k := 11) rfl rfl (by decide) rfl (fun ls hl => ?_)
            refine lv_goto (tgt := 44) hx hb dX1_takeNearest_103 (by decide) ?_
            exact ih _ _ _ _ _ _ _ _ _ _ _ _ _ h hh (lv_sub hl [2, 3, 4, 5, 6, 7, 8, 9, 10, 11, 0] rfl)
          · have h := h.2 c9
            refine lv_iload hx hb dX1_takeNearest_88 (lv_at hl 0 rfl) ?_
            refine lv_istore (lv' := [(5, .int r62), (11, .int r62), (0, .ref (G.2.1 2)), (1, .ref (G.2.1 1)), (2, .int l2), (3, .int l3), (4, .int l4), (6, .int l6), (7, .int l7), (8, .int l8), (9, .int l9), (10, .int l10)]) hx hb dX1_takeNearest_90 hl (by decide) rfl (fun ls hl => ?_)
            refine lv_iload hx hb dX1_takeNearest_92 (lv_at hl 11 rfl) ?_
            refine lv_istore (lv' := [(6, .int l10), (5, .int r62), (11, .int r62), (0, .ref (G.2.1 2)), (1, .ref (G.2.1 1)), (2, .int l2), (3, .int l3), (4, .int l4), (7, .int l7), (8, .int l8), (9, .int l9), (10, .int l10)]) hx hb dX1_takeNearest_94 hl (by decide) rfl (fun ls hl => ?_)
            refine lv_iload hx hb dX1_takeNearest_96 (lv_at hl 9 rfl) ?_
            refine lv_istore (lv' := [(7, .int l8), (6, .int l10), (5, .int r62), (11, .int r62), (0, .ref (G.2.1 2)), (1, .ref (G.2.1 1)), (2, .int l2), (3, .int l3), (4, .int l4), (8, .int l8), (9, .int l9), (10, .int l10)]) hx hb dX1_takeNearest_98 hl (by decide) rfl (fun ls hl => ?_)
            refine lv_iinc (v := (l10 + 1)) (lv' := [(10, .int (l10 + 1)), (7, .int l8), (6, .int l10), (5, .int r62), (11, .int r62), (0, .ref (G.2.1 2)), (1, .ref (G.2.1 1)), (2, .int l2), (3, .int l3), (4, .int l4), (8, .int l8), (9, .int l9)]) hx hb dX1_takeNearest_100 hl (k := 11) rfl rfl (by decide) rfl (fun ls hl => ?_)
            refine lv_goto (tgt := 44) hx hb dX1_takeNearest_103 (by decide) ?_
            exact ih _ _ _ _ _ _ _ _ _ _ _ _ _ h hh (lv_sub hl [5, 6, 7, 8, 9, 3, 2, 1, 10, 11, 0] rfl)
def f_X1_takeNearest_22 (Q : Int32 → St → Prop)  (rec : St → Int32 → Int32 → Int32 → Int32 → Int32 → Int32 → Int32 → Prop) (σ : St) (l2 : Int32) (l3 : Int32) (l4 : Int32) (l5 : Int32) (l6 : Int32) (l7 : Int32) (l8 : Int32) : Prop :=
  (((144 : Int32) ≤ l8 → ((¬ l7 = (-1 : Int32) → f_X1_layLeg σ l7 l2 l6 (fun s126 => Q l5 s126)) ∧ (l7 = (-1 : Int32) → Q (-1 : Int32) σ))) ∧ (¬ (144 : Int32) ≤ l8 → f_X3_reach σ l8 l2 l3 (fun r35 s35 => f_X1_takeNearest_44L Q rec FU s35 l2 l3 l4 l5 l6 l7 l8 r35 l4)))
def f_X1_takeNearest_22L (Q : Int32 → St → Prop)  : Nat → St → Int32 → Int32 → Int32 → Int32 → Int32 → Int32 → Int32 → Prop
  | 0, _, _, _, _, _, _, _, _ => False
  | n + 1, σ, l2, l3, l4, l5, l6, l7, l8 => f_X1_takeNearest_22 Q  (f_X1_takeNearest_22L Q  n) σ l2 l3 l4 l5 l6 l7 l8
set_option maxHeartbeats 4000000 in
set_option maxRecDepth 100000 in
theorem w_X1_takeNearest_22 {p : Program} {l : Launch} {e : Env} {s : State} {m : MethodId} {args : Array Value} {below : List Frame} {meth : Method} {c : Code} {G : GG} (E : EV p s m args c cX1_takeNearest 12 wsX1_takeNearest RX1 G (AD G s.heap.size)) (hr : meth.sig.returnType = (some .int)) (hlocks : meth.locks = false) {Q : Int32 → St → Prop}  : ∀ (n : Nat) (σ : St) (l2 : Int32) (l3 : Int32) (l4 : Int32) (l5 : Int32) (l6 : Int32) (l7 : Int32) (l8 : Int32) (H : Heap) (locs : List Loc) (ls : Array Slot), f_X1_takeNearest_22L Q  n σ l2 l3 l4 l5 l6 l7 l8 → HH G (AD G s.heap.size) s σ H locs → lv_has ls 12 [(0, .ref (G.2.1 2)), (1, .ref (G.2.1 1)), (2, .int l2), (3, .int l3), (4, .int l4), (5, .int l5), (6, .int l6), (7, .int l7), (8, .int l8)] → W p l e ({ frames := 4, cells := 0, slots := 0, locals := 89 }) s m args below meth c H locs 0 0 (MQi below G args s Q) (F0 m 22 ls []) := by
  have hx := E.1.1
  have hb := E.1.2.1
  have hown := E.1.2.2.2.1
  have hts := E.1.2.2.2.2
  have h_inX1 : ∀ w ∈ wsX10, w ∈ wsX1_takeNearest := (fun _ h9 => (List.mem_cons_of_mem _ (List.mem_append_left _ (List.mem_append_right _ h9))))
  intro n
  induction n with
  | zero =>
    intro σ l2 l3 l4 l5 l6 l7 l8 H locs ls h
    exact h.elim
  | succ n ih =>
    intro σ l2 l3 l4 l5 l6 l7 l8 H locs ls h hh hl
    have h : f_X1_takeNearest_22 Q  (f_X1_takeNearest_22L Q  n) σ l2 l3 l4 l5 l6 l7 l8 := h
    unfold f_X1_takeNearest_22 at h
    refine lv_iload hx hb dX1_takeNearest_22 (lv_at hl 8 rfl) ?_
    refine lv_sipush (v := (144 : Int32)) hx hb dX1_takeNearest_24 (by decide) ?_
    refine lv_icmp_ge (tgt := 112) hx hb dX1_takeNearest_27 (by decide) (fun c9 => ?_) (fun c9 => ?_)
    · have h := h.1 c9
      refine lv_iload hx hb dX1_takeNearest_112 (lv_at hl 7 rfl) ?_
      refine lv_iconst (v := (-1 : Int32)) hx hb dX1_takeNearest_114 (by decide) ?_
      refine lv_icmp_ne (tgt := 120) hx hb dX1_takeNearest_115 (by decide) (fun c9 => ?_) (fun c9 => ?_)
      · have h := h.1 c9
        refine lv_aload_n hx hb dX1_takeNearest_120 rfl (lv_at hl 0 rfl) ?_
        refine lv_iload hx hb dX1_takeNearest_121 (lv_at hl 7 rfl) ?_
        refine lv_iload_n hx hb dX1_takeNearest_123 rfl (lv_at hl 2 rfl) ?_
        refine lv_iload hx hb dX1_takeNearest_124 (lv_at hl 6 rfl) ?_
        refine q_Vv (As := [.int l7, .int l2, .int l6]) (rest := []) E hh (c_X1_layLeg l G _ _ _ _ _ _ h) (cwV 3 hts gX1_takeNearest_X1_layLeg rfl rfl rfl (by decide +kernel) ⟨Nat.le_of_ble_eq_true rfl, Nat.le_of_ble_eq_true rfl⟩) (va_recv (ci := 1) E.2.1 hh.1 rfl (WW_at_2 G σ)) rfl hl.1 rfl (Nat.le_of_ble_eq_true rfl) dX1_takeNearest_126 ⟨Nat.zero_le _, Nat.zero_le _⟩ (fun s126 H locs h hh => ?_)
        refine lv_iload hx hb dX1_takeNearest_129 (lv_at hl 5 rfl) ?_
        exact q_iret E hh hr hlocks h dX1_takeNearest_131
      · have h := h.2 c9
        refine lv_iconst (v := (-1 : Int32)) hx hb dX1_takeNearest_118 (by decide) ?_
        exact q_iret E hh hr hlocks h dX1_takeNearest_119
    · have h := h.2 c9
      refine lv_aload_n hx hb dX1_takeNearest_30 rfl (lv_at hl 1 rfl) ?_
      refine lv_iload hx hb dX1_takeNearest_31 (lv_at hl 8 rfl) ?_
      refine lv_iload_n hx hb dX1_takeNearest_33 rfl (lv_at hl 2 rfl) ?_
      refine lv_iload_n hx hb dX1_takeNearest_34 rfl (lv_at hl 3 rfl) ?_
      refine q_Vi (As := [.int l8, .int l2, .int l3]) (rest := []) E hh (c_X3_reach l G _ _ _ _ _ _ h) (cwV 3 hts gX1_takeNearest_X3_reach rfl rfl rfl (by decide +kernel) ⟨Nat.le_of_ble_eq_true rfl, Nat.le_of_ble_eq_true rfl⟩) (va_recv (ci := 3) E.2.1 hh.1 rfl (WW_at_1 G σ)) rfl hl.1 rfl (Nat.le_of_ble_eq_true rfl) dX1_takeNearest_35 ⟨Nat.zero_le _, Nat.zero_le _⟩ (fun r35 s35 H locs h hh => ?_)
      refine lv_istore (lv' := [(9, .int r35), (0, .ref (G.2.1 2)), (1, .ref (G.2.1 1)), (2, .int l2), (3, .int l3), (4, .int l4), (5, .int l5), (6, .int l6), (7, .int l7), (8, .int l8)]) hx hb dX1_takeNearest_38 hl (by decide) rfl (fun ls hl => ?_)
      refine lv_iload hx hb dX1_takeNearest_40 (lv_at hl 5 rfl) ?_
      refine lv_istore (lv' := [(10, .int l4), (9, .int r35), (0, .ref (G.2.1 2)), (1, .ref (G.2.1 1)), (2, .int l2), (3, .int l3), (4, .int l4), (5, .int l5), (6, .int l6), (7, .int l7), (8, .int l8)]) hx hb dX1_takeNearest_42 hl (by decide) rfl (fun ls hl => ?_)
      exact w_X1_takeNearest_44 E hr hlocks ih FU _ _ _ _ _ _ _ _ _ _ _ _ _ h hh (lv_sub hl [2, 3, 4, 5, 6, 7, 8, 9, 10, 1, 0] rfl)
def f_X1_takeNearest (σ : St) (p2 : Int32) (p3 : Int32) (p4 : Int32) (Q : Int32 → St → Prop) : Prop :=
  ((¬ (gi σ 1) = (-1 : Int32) → f_X1_takeNearest_22L Q FU σ p2 p3 p4 (3 : Int32) (0 : Int32) (-1 : Int32) (0 : Int32)) ∧ ((gi σ 1) = (-1 : Int32) → Q (-1 : Int32) σ))
set_option maxHeartbeats 4000000 in
set_option maxRecDepth 100000 in
theorem c_X1_takeNearest (l : Launch) (G : GG) (σ : St) (sz : Nat) (p2 : Int32) (p3 : Int32) (p4 : Int32) (Q : Int32 → St → Prop) (h : f_X1_takeNearest σ p2 p3 p4 Q) : CTi l yX1_takeNearest wsX1_takeNearest ({ frames := 4, cells := 0, slots := 0, locals := 89 }) [.ref (G.2.1 2), .ref (G.2.1 1), .int p2, .int p3, .int p4] G σ sz Q := by
  refine Met.ofW (cc := cX1_takeNearest) (maxL := 12) (ret := (some .int)) (by decide) rfl ?_
  intro p e s m args below meth c s₁ B hml hv
  obtain ⟨rfl, hpre⟩ := hv
  have hr := B.returns
  have hlocks := B.notSynchronized
  obtain ⟨hsz, -⟩ := id hpre
  subst hsz
  obtain ⟨E, hh⟩ := EV.ofPre (⟨B.exec, B.bytes, hml, findClass_of_methodNamed B.named, atoms_spec (ws := wsX1_takeNearest) B.pre⟩ : CallFix p m c cX1_takeNearest 12 s _ wsX1_takeNearest RX1) hpre
  have hx := E.1.1
  have hb := E.1.2.1
  have hown := E.1.2.2.2.1
  have hts := E.1.2.2.2.2
  have h_inX1 : ∀ w ∈ wsX10, w ∈ wsX1_takeNearest := (fun _ h9 => (List.mem_cons_of_mem _ (List.mem_append_left _ (List.mem_append_right _ h9))))
  have hl := lv_entry ([.ref (G.2.1 2), .ref (G.2.1 1), .int p2, .int p3, .int p4]) (n := 12) (Nat.le_of_ble_eq_true rfl)
  rw [lg_entry_eq]
  generalize (lg_sl ([.ref (G.2.1 2), .ref (G.2.1 1), .int p2, .int p3, .int p4]) ++ List.replicate (12 - (lg_sl ([.ref (G.2.1 2), .ref (G.2.1 1), .int p2, .int p3, .int p4])).length) Slot.unset).toArray = ls at hl ⊢
  have hl : lv_has ls 12 [(0, .ref (G.2.1 2)), (1, .ref (G.2.1 1)), (2, .int p2), (3, .int p3), (4, .int p4)] := hl
  unfold f_X1_takeNearest at h
  refine lv_aload_n hx hb dX1_takeNearest_0 rfl (lv_at hl 0 rfl) ?_
  refine q_get (T := TX1) (v := .int (gi σ 1)) E hh h_inX1 2 (WW_at_2 G σ) rfl 0 (by decide) (List.mem_cons_of_mem _ (List.mem_append_left _ (List.mem_append_left _ (List.mem_append_left _ (List.mem_of_getElem? (i := 0) rfl))))) rfl rfl dX1_takeNearest_1 ?_
  refine lv_iconst (v := (-1 : Int32)) hx hb dX1_takeNearest_4 (by decide) ?_
  refine lv_icmp_ne (tgt := 10) hx hb dX1_takeNearest_5 (by decide) (fun c9 => ?_) (fun c9 => ?_)
  · have h := h.1 c9
    refine lv_iconst (v := (3 : Int32)) hx hb dX1_takeNearest_10 (by decide) ?_
    refine lv_istore (lv' := [(5, .int (3 : Int32)), (0, .ref (G.2.1 2)), (1, .ref (G.2.1 1)), (2, .int p2), (3, .int p3), (4, .int p4)]) hx hb dX1_takeNearest_11 hl (by decide) rfl (fun ls hl => ?_)
    refine lv_iconst (v := (0 : Int32)) hx hb dX1_takeNearest_13 (by decide) ?_
    refine lv_istore (lv' := [(6, .int (0 : Int32)), (5, .int (3 : Int32)), (0, .ref (G.2.1 2)), (1, .ref (G.2.1 1)), (2, .int p2), (3, .int p3), (4, .int p4)]) hx hb dX1_takeNearest_14 hl (by decide) rfl (fun ls hl => ?_)
    refine lv_iconst (v := (-1 : Int32)) hx hb dX1_takeNearest_16 (by decide) ?_
    refine lv_istore (lv' := [(7, .int (-1 : Int32)), (6, .int (0 : Int32)), (5, .int (3 : Int32)), (0, .ref (G.2.1 2)), (1, .ref (G.2.1 1)), (2, .int p2), (3, .int p3), (4, .int p4)]) hx hb dX1_takeNearest_17 hl (by decide) rfl (fun ls hl => ?_)
    refine lv_iconst (v := (0 : Int32)) hx hb dX1_takeNearest_19 (by decide) ?_
    refine lv_istore (lv' := [(8, .int (0 : Int32)), (7, .int (-1 : Int32)), (6, .int (0 : Int32)), (5, .int (3 : Int32)), (0, .ref (G.2.1 2)), (1, .ref (G.2.1 1)), (2, .int p2), (3, .int p3), (4, .int p4)]) hx hb dX1_takeNearest_20 hl (by decide) rfl (fun ls hl => ?_)
    exact w_X1_takeNearest_22 E hr hlocks  FU _ _ _ _ _ _ _ _ _ _ _ h hh (lv_sub hl [4, 5, 6, 7, 8, 3, 2, 1, 0] rfl)
  · have h := h.2 c9
    refine lv_iconst (v := (-1 : Int32)) hx hb dX1_takeNearest_8 (by decide) ?_
    exact q_iret E hh hr hlocks h dX1_takeNearest_9
def f_X1_isLeg_25 (Q : Int32 → St → Prop)  (rec : St → Int32 → Int32 → Int32 → Prop) (σ : St) (l2 : Int32) (l4 : Int32) (l5 : Int32) : Prop :=
  ((l4 < l5 → Q (0 : Int32) σ) ∧ (¬ l4 < l5 → f_X8_cellBeyond σ (gi σ 1) l2 l5 (fun r39 s39 => ((¬ r39 = (gi s39 2) → rec s39 l2 l4 (l5 + 1)) ∧ (r39 = (gi s39 2) → Q (1 : Int32) s39)))))
def f_X1_isLeg_25L (Q : Int32 → St → Prop)  : Nat → St → Int32 → Int32 → Int32 → Prop
  | 0, _, _, _, _ => False
  | n + 1, σ, l2, l4, l5 => f_X1_isLeg_25 Q  (f_X1_isLeg_25L Q  n) σ l2 l4 l5
set_option maxHeartbeats 4000000 in
set_option maxRecDepth 100000 in
theorem w_X1_isLeg_25 {p : Program} {l : Launch} {e : Env} {s : State} {m : MethodId} {args : Array Value} {below : List Frame} {meth : Method} {c : Code} {G : GG} (E : EV p s m args c cX1_isLeg 6 wsX1_isLeg RX1 G (AD G s.heap.size)) (hr : meth.sig.returnType = (some .boolean)) (hlocks : meth.locks = false) {Q : Int32 → St → Prop}  : ∀ (n : Nat) (σ : St) (l2 : Int32) (l4 : Int32) (l5 : Int32) (H : Heap) (locs : List Loc) (ls : Array Slot), f_X1_isLeg_25L Q  n σ l2 l4 l5 → HH G (AD G s.heap.size) s σ H locs → lv_has ls 6 [(0, .ref (G.2.1 2)), (2, .int l2), (4, .int l4), (5, .int l5)] → W p l e ({ frames := 4, cells := 0, slots := 0, locals := 89 }) s m args below meth c H locs 0 0 (MQi below G args s Q) (F0 m 25 ls []) := by
  have hx := E.1.1
  have hb := E.1.2.1
  have hown := E.1.2.2.2.1
  have hts := E.1.2.2.2.2
  have h_inX1 : ∀ w ∈ wsX10, w ∈ wsX1_isLeg := (fun _ h9 => (List.mem_cons_of_mem _ (List.mem_append_left _ (List.mem_append_right _ h9))))
  intro n
  induction n with
  | zero =>
    intro σ l2 l4 l5 H locs ls h
    exact h.elim
  | succ n ih =>
    intro σ l2 l4 l5 H locs ls h hh hl
    have h : f_X1_isLeg_25 Q  (f_X1_isLeg_25L Q  n) σ l2 l4 l5 := h
    unfold f_X1_isLeg_25 at h
    refine lv_iload hx hb dX1_isLeg_25 (lv_at hl 3 rfl) ?_
    refine lv_iload hx hb dX1_isLeg_27 (lv_at hl 2 rfl) ?_
    refine lv_icmp_gt (tgt := 57) hx hb dX1_isLeg_29 (by decide) (fun c9 => ?_) (fun c9 => ?_)
    · have h := h.1 c9
      refine lv_iconst (v := (0 : Int32)) hx hb dX1_isLeg_57 (by decide) ?_
      exact q_zret (ty := .boolean) E hh hr hlocks rfl h dX1_isLeg_58
    · have h := h.2 c9
      refine lv_aload_n hx hb dX1_isLeg_32 rfl (lv_at hl 0 rfl) ?_
      refine q_get (T := TX1) (v := .int (gi σ 1)) E hh h_inX1 2 (WW_at_2 G σ) rfl 0 (by decide) (List.mem_cons_of_mem _ (List.mem_append_left _ (List.mem_append_left _ (List.mem_append_left _ (List.mem_of_getElem? (i := 0) rfl))))) rfl rfl dX1_isLeg_33 ?_
      refine lv_iload_n hx hb dX1_isLeg_36 rfl (lv_at hl 1 rfl) ?_
      refine lv_iload hx hb dX1_isLeg_37 (lv_at hl 3 rfl) ?_
      refine q_Ni (As := [.int (gi σ 1), .int l2, .int l5]) (rest := []) E hh (c_X8_cellBeyond l G _ _ _ _ _ _ h) (va_cnB 3 hts gX1_isLeg_X8_cellBeyond_n28 rfl rfl rfl (E.2.2.2.1.1.2.1 (RX1, 28, (⟨RX8, "cellBeyond", "(III)I"⟩ : MethodName), "IceRegatta") (List.mem_of_getElem? (i := 10) rfl)) (hts _ (List.mem_cons_of_mem _ (List.mem_append_left _ (List.mem_append_left _ (List.mem_append_left _ (List.mem_of_getElem? (i := 8) rfl)))))) (by decide +kernel) ⟨Nat.le_of_ble_eq_true rfl, Nat.le_of_ble_eq_true rfl⟩) (List.mem_cons_of_mem _ (List.mem_append_left _ (List.mem_append_left _ (List.mem_append_left _ (List.mem_of_getElem? (i := 7) rfl))))) rfl hl.1 rfl (Nat.le_of_ble_eq_true rfl) dX1_isLeg_39 ⟨Nat.zero_le _, Nat.zero_le _⟩ (fun r39 s39 H locs h hh => ?_)
      refine lv_aload_n hx hb dX1_isLeg_42 rfl (lv_at hl 0 rfl) ?_
      refine q_get (T := TX1) (v := .int (gi s39 2)) E hh h_inX1 2 (WW_at_2 G s39) rfl 1 (by decide) (List.mem_cons_of_mem _ (List.mem_append_left _ (List.mem_append_left _ (List.mem_append_left _ (List.mem_of_getElem? (i := 1) rfl))))) rfl rfl dX1_isLeg_43 ?_
      refine lv_icmp_ne (tgt := 51) hx hb dX1_isLeg_46 (by decide) (fun c9 => ?_) (fun c9 => ?_)
      · have h := h.1 c9
        refine lv_iinc (v := (l5 + 1)) (lv' := [(5, .int (l5 + 1)), (0, .ref (G.2.1 2)), (2, .int l2), (4, .int l4)]) hx hb dX1_isLeg_51 hl (k := 3) rfl rfl (by decide) rfl (fun ls hl => ?_)
        refine lv_goto (tgt := 25) hx hb dX1_isLeg_54 (by decide) ?_
        exact ih _ _ _ _ _ _ _ h hh (lv_sub hl [1, 2, 3, 0] rfl)
      · have h := h.2 c9
        refine lv_iconst (v := (1 : Int32)) hx hb dX1_isLeg_49 (by decide) ?_
        exact q_zret (ty := .boolean) E hh hr hlocks rfl h dX1_isLeg_50
def f_X1_isLeg (σ : St) (p2 : Int32) (p3 : Int32) (Q : Int32 → St → Prop) : Prop :=
  ((¬ (gi σ 1) = (-1 : Int32) → f_X3_reach σ (gi σ 1) p2 p3 (fun r17 s17 => f_X1_isLeg_25L Q FU s17 p2 r17 (1 : Int32))) ∧ ((gi σ 1) = (-1 : Int32) → Q (0 : Int32) σ))
set_option maxHeartbeats 4000000 in
set_option maxRecDepth 100000 in
theorem c_X1_isLeg (l : Launch) (G : GG) (σ : St) (sz : Nat) (p2 : Int32) (p3 : Int32) (Q : Int32 → St → Prop) (h : f_X1_isLeg σ p2 p3 Q) : CTi l yX1_isLeg wsX1_isLeg ({ frames := 4, cells := 0, slots := 0, locals := 89 }) [.ref (G.2.1 2), .ref (G.2.1 1), .int p2, .int p3] G σ sz Q := by
  refine Met.ofW (cc := cX1_isLeg) (maxL := 6) (ret := (some .boolean)) (by decide) rfl ?_
  intro p e s m args below meth c s₁ B hml hv
  obtain ⟨rfl, hpre⟩ := hv
  have hr := B.returns
  have hlocks := B.notSynchronized
  obtain ⟨hsz, -⟩ := id hpre
  subst hsz
  obtain ⟨E, hh⟩ := EV.ofPre (⟨B.exec, B.bytes, hml, findClass_of_methodNamed B.named, atoms_spec (ws := wsX1_isLeg) B.pre⟩ : CallFix p m c cX1_isLeg 6 s _ wsX1_isLeg RX1) hpre
  have hx := E.1.1
  have hb := E.1.2.1
  have hown := E.1.2.2.2.1
  have hts := E.1.2.2.2.2
  have h_inX1 : ∀ w ∈ wsX10, w ∈ wsX1_isLeg := (fun _ h9 => (List.mem_cons_of_mem _ (List.mem_append_left _ (List.mem_append_right _ h9))))
  have hl := lv_entry ([.ref (G.2.1 2), .ref (G.2.1 1), .int p2, .int p3]) (n := 6) (Nat.le_of_ble_eq_true rfl)
  rw [lg_entry_eq]
  generalize (lg_sl ([.ref (G.2.1 2), .ref (G.2.1 1), .int p2, .int p3]) ++ List.replicate (6 - (lg_sl ([.ref (G.2.1 2), .ref (G.2.1 1), .int p2, .int p3])).length) Slot.unset).toArray = ls at hl ⊢
  have hl : lv_has ls 6 [(0, .ref (G.2.1 2)), (1, .ref (G.2.1 1)), (2, .int p2), (3, .int p3)] := hl
  unfold f_X1_isLeg at h
  refine lv_aload_n hx hb dX1_isLeg_0 rfl (lv_at hl 0 rfl) ?_
  refine q_get (T := TX1) (v := .int (gi σ 1)) E hh h_inX1 2 (WW_at_2 G σ) rfl 0 (by decide) (List.mem_cons_of_mem _ (List.mem_append_left _ (List.mem_append_left _ (List.mem_append_left _ (List.mem_of_getElem? (i := 0) rfl))))) rfl rfl dX1_isLeg_1 ?_
  refine lv_iconst (v := (-1 : Int32)) hx hb dX1_isLeg_4 (by decide) ?_
  refine lv_icmp_ne (tgt := 10) hx hb dX1_isLeg_5 (by decide) (fun c9 => ?_) (fun c9 => ?_)
  · have h := h.1 c9
    refine lv_aload_n hx hb dX1_isLeg_10 rfl (lv_at hl 1 rfl) ?_
    refine lv_aload_n hx hb dX1_isLeg_11 rfl (lv_at hl 0 rfl) ?_
    refine q_get (T := TX1) (v := .int (gi σ 1)) E hh h_inX1 2 (WW_at_2 G σ) rfl 0 (by decide) (List.mem_cons_of_mem _ (List.mem_append_left _ (List.mem_append_left _ (List.mem_append_left _ (List.mem_of_getElem? (i := 0) rfl))))) rfl rfl dX1_isLeg_12 ?_
    refine lv_iload_n hx hb dX1_isLeg_15 rfl (lv_at hl 2 rfl) ?_
    refine lv_iload_n hx hb dX1_isLeg_16 rfl (lv_at hl 3 rfl) ?_
    refine q_Vi (As := [.int (gi σ 1), .int p2, .int p3]) (rest := []) E hh (c_X3_reach l G _ _ _ _ _ _ h) (cwV 3 hts gX1_isLeg_X3_reach rfl rfl rfl (by decide +kernel) ⟨Nat.le_of_ble_eq_true rfl, Nat.le_of_ble_eq_true rfl⟩) (va_recv (ci := 3) E.2.1 hh.1 rfl (WW_at_1 G σ)) rfl hl.1 rfl (Nat.le_of_ble_eq_true rfl) dX1_isLeg_17 ⟨Nat.zero_le _, Nat.zero_le _⟩ (fun r17 s17 H locs h hh => ?_)
    refine lv_istore (lv' := [(4, .int r17), (0, .ref (G.2.1 2)), (1, .ref (G.2.1 1)), (2, .int p2), (3, .int p3)]) hx hb dX1_isLeg_20 hl (by decide) rfl (fun ls hl => ?_)
    refine lv_iconst (v := (1 : Int32)) hx hb dX1_isLeg_22 (by decide) ?_
    refine lv_istore (lv' := [(5, .int (1 : Int32)), (4, .int r17), (0, .ref (G.2.1 2)), (1, .ref (G.2.1 1)), (2, .int p2), (3, .int p3)]) hx hb dX1_isLeg_23 hl (by decide) rfl (fun ls hl => ?_)
    exact w_X1_isLeg_25 E hr hlocks  FU _ _ _ _ _ _ _ h hh (lv_sub hl [2, 4, 1, 0] rfl)
  · have h := h.2 c9
    refine lv_iconst (v := (0 : Int32)) hx hb dX1_isLeg_8 (by decide) ?_
    exact q_zret (ty := .boolean) E hh hr hlocks rfl h dX1_isLeg_9
def f_X6_dropsAfter (σ : St) (p1 : Int32) (Q : Int32 → St → Prop) : Prop :=
  ((p1 < (gi σ 11) → Q (0 : Int32) σ) ∧ (¬ p1 < (gi σ 11) → Q (if p1 < (gi σ 10) then p1 else (gi σ 10)) σ))
set_option maxHeartbeats 4000000 in
set_option maxRecDepth 100000 in
theorem c_X6_dropsAfter (l : Launch) (G : GG) (σ : St) (sz : Nat) (p1 : Int32) (Q : Int32 → St → Prop) (h : f_X6_dropsAfter σ p1 Q) : CTi l yX6_dropsAfter wsX6_dropsAfter ({ frames := 1, cells := 0, slots := 0, locals := 21 }) [.ref (G.2.1 4), .int p1] G σ sz Q := by
  refine Met.ofW (cc := cX6_dropsAfter) (maxL := 2) (ret := (some .int)) (by decide) rfl ?_
  intro p e s m args below meth c s₁ B hml hv
  obtain ⟨rfl, hpre⟩ := hv
  have hr := B.returns
  have hlocks := B.notSynchronized
  obtain ⟨hsz, -⟩ := id hpre
  subst hsz
  obtain ⟨E, hh⟩ := EV.ofPre (⟨B.exec, B.bytes, hml, findClass_of_methodNamed B.named, atoms_spec (ws := wsX6_dropsAfter) B.pre⟩ : CallFix p m c cX6_dropsAfter 2 s _ wsX6_dropsAfter RX6) hpre
  have hx := E.1.1
  have hb := E.1.2.1
  have hown := E.1.2.2.2.1
  have hts := E.1.2.2.2.2
  have h_inX6 : ∀ w ∈ wsX60, w ∈ wsX6_dropsAfter := (fun _ h9 => (List.mem_cons_of_mem _ (List.mem_append_right _ h9)))
  have hl := lv_entry ([.ref (G.2.1 4), .int p1]) (n := 2) (Nat.le_of_ble_eq_true rfl)
  rw [lg_entry_eq]
  generalize (lg_sl ([.ref (G.2.1 4), .int p1]) ++ List.replicate (2 - (lg_sl ([.ref (G.2.1 4), .int p1])).length) Slot.unset).toArray = ls at hl ⊢
  have hl : lv_has ls 2 [(0, .ref (G.2.1 4)), (1, .int p1)] := hl
  unfold f_X6_dropsAfter at h
  refine lv_iload_n hx hb dX6_dropsAfter_0 rfl (lv_at hl 1 rfl) ?_
  refine lv_aload_n hx hb dX6_dropsAfter_1 rfl (lv_at hl 0 rfl) ?_
  refine q_get (T := TX6) (v := .int (gi σ 11)) E hh h_inX6 4 (WW_at_4 G σ) rfl 3 (by decide) (List.mem_cons_of_mem _ (List.mem_append_left _ (List.mem_of_getElem? (i := 0) rfl))) rfl rfl dX6_dropsAfter_2 ?_
  refine lv_icmp_lt (tgt := 19) hx hb dX6_dropsAfter_5 (by decide) (fun c9 => ?_) (fun c9 => ?_)
  · have h := h.1 c9
    refine lv_iconst (v := (0 : Int32)) hx hb dX6_dropsAfter_19 (by decide) ?_
    exact q_iret E hh hr hlocks h dX6_dropsAfter_20
  · have h := h.2 c9
    refine lv_aload_n hx hb dX6_dropsAfter_8 rfl (lv_at hl 0 rfl) ?_
    refine q_get (T := TX6) (v := .int (gi σ 10)) E hh h_inX6 4 (WW_at_4 G σ) rfl 2 (by decide) (List.mem_cons_of_mem _ (List.mem_append_left _ (List.mem_of_getElem? (i := 1) rfl))) rfl rfl dX6_dropsAfter_9 ?_
    refine lv_iload_n hx hb dX6_dropsAfter_12 rfl (lv_at hl 1 rfl) ?_
    refine va_mmin (own := RX6) hx hb (by rw [E.1.2.2.1]; exact hl.1.symm) hown (hts _ (List.mem_cons_of_mem _ (List.mem_append_left _ (List.mem_of_getElem? (i := 2) rfl)))) (hts _ (List.mem_cons_of_mem _ (List.mem_append_left _ (List.mem_of_getElem? (i := 3) rfl)))) (hts _ (List.mem_cons_of_mem _ (List.mem_append_left _ (List.mem_of_getElem? (i := 4) rfl)))) (hts _ (List.mem_cons_of_mem _ (List.mem_append_left _ (List.mem_of_getElem? (i := 5) rfl)))) (Nat.le_of_ble_eq_true rfl) (Nat.le_of_ble_eq_true rfl) (Nat.zero_le _) (Nat.zero_le _) dX6_dropsAfter_13 ?_
    refine lv_goto (tgt := 20) hx hb dX6_dropsAfter_16 (by decide) ?_
    exact q_iret E hh hr hlocks h dX6_dropsAfter_20
def f_X6_forget (σ : St)  (Q : St → Prop) : Prop :=
  Q (si (si (si (si (si σ 13 (0 : Int32)) 14 (150 : Int32)) 15 (0 : Int32)) 16 (0 : Int32)) 17 (0 : Int32))
set_option maxHeartbeats 4000000 in
set_option maxRecDepth 100000 in
theorem c_X6_forget (l : Launch) (G : GG) (σ : St) (sz : Nat)  (Q : St → Prop) (h : f_X6_forget σ  Q) : CTv l yX6_forget wsX6_forget ({ frames := 0, cells := 0, slots := 0, locals := 0 }) [.ref (G.2.1 5)] G σ sz Q := by
  refine Met.ofW (cc := cX6_forget) (maxL := 1) (ret := none) (by decide) rfl ?_
  intro p e s m args below meth c s₁ B hml hv
  obtain ⟨rfl, hpre⟩ := hv
  have hr := B.returns
  have hlocks := B.notSynchronized
  obtain ⟨hsz, -⟩ := id hpre
  subst hsz
  obtain ⟨E, hh⟩ := EV.ofPre (⟨B.exec, B.bytes, hml, findClass_of_methodNamed B.named, atoms_spec (ws := wsX6_forget) B.pre⟩ : CallFix p m c cX6_forget 1 s _ wsX6_forget RX6) hpre
  have hx := E.1.1
  have hb := E.1.2.1
  have hown := E.1.2.2.2.1
  have hts := E.1.2.2.2.2
  have h_inX6 : ∀ w ∈ wsX60, w ∈ wsX6_forget := (fun _ h9 => (List.mem_cons_of_mem _ (List.mem_append_right _ h9)))
  have hl := lv_entry ([.ref (G.2.1 5)]) (n := 1) (Nat.le_of_ble_eq_true rfl)
  rw [lg_entry_eq]
  generalize (lg_sl ([.ref (G.2.1 5)]) ++ List.replicate (1 - (lg_sl ([.ref (G.2.1 5)])).length) Slot.unset).toArray = ls at hl ⊢
  have hl : lv_has ls 1 [(0, .ref (G.2.1 5))] := hl
  unfold f_X6_forget at h
  refine lv_aload_n hx hb dX6_forget_0 rfl (lv_at hl 0 rfl) ?_
  refine lv_iconst (v := (0 : Int32)) hx hb dX6_forget_1 (by decide) ?_
  refine q_put (T := TX6) E hh h_inX6 tyX6 tyX6_ok nmX6 5 (WW_at_5 G σ) rfl 0 (by decide) (List.mem_cons_of_mem _ (List.mem_append_left _ (List.mem_of_getElem? (i := 0) rfl))) rfl rfl (by decide +kernel) (Nat.le_of_ble_eq_true rfl) dX6_forget_2 (WW_si_13 G σ (0 : Int32)) (fun H locs hh => ?_)
  refine lv_aload_n hx hb dX6_forget_5 rfl (lv_at hl 0 rfl) ?_
  refine lv_sipush (v := (150 : Int32)) hx hb dX6_forget_6 (by decide) ?_
  refine q_put (T := TX6) E hh h_inX6 tyX6 tyX6_ok nmX6 5 (WW_at_5 G (si σ 13 (0 : Int32))) rfl 1 (by decide) (List.mem_cons_of_mem _ (List.mem_append_left _ (List.mem_of_getElem? (i := 1) rfl))) rfl rfl (by decide +kernel) (Nat.le_of_ble_eq_true rfl) dX6_forget_9 (WW_si_14 G (si σ 13 (0 : Int32)) (150 : Int32)) (fun H locs hh => ?_)
  refine lv_aload_n hx hb dX6_forget_12 rfl (lv_at hl 0 rfl) ?_
  refine lv_iconst (v := (0 : Int32)) hx hb dX6_forget_13 (by decide) ?_
  refine q_put (T := TX6) E hh h_inX6 tyX6 tyX6_ok nmX6 5 (WW_at_5 G (si (si σ 13 (0 : Int32)) 14 (150 : Int32))) rfl 2 (by decide) (List.mem_cons_of_mem _ (List.mem_append_left _ (List.mem_of_getElem? (i := 2) rfl))) rfl rfl (by decide +kernel) (Nat.le_of_ble_eq_true rfl) dX6_forget_14 (WW_si_15 G (si (si σ 13 (0 : Int32)) 14 (150 : Int32)) (0 : Int32)) (fun H locs hh => ?_)
  refine lv_aload_n hx hb dX6_forget_17 rfl (lv_at hl 0 rfl) ?_
  refine lv_iconst (v := (0 : Int32)) hx hb dX6_forget_18 (by decide) ?_
  refine q_put (T := TX6) E hh h_inX6 tyX6 tyX6_ok nmX6 5 (WW_at_5 G (si (si (si σ 13 (0 : Int32)) 14 (150 : Int32)) 15 (0 : Int32))) rfl 3 (by decide) (List.mem_cons_of_mem _ (List.mem_append_left _ (List.mem_of_getElem? (i := 3) rfl))) rfl rfl (by decide +kernel) (Nat.le_of_ble_eq_true rfl) dX6_forget_19 (WW_si_16 G (si (si (si σ 13 (0 : Int32)) 14 (150 : Int32)) 15 (0 : Int32)) (0 : Int32)) (fun H locs hh => ?_)
  refine lv_aload_n hx hb dX6_forget_22 rfl (lv_at hl 0 rfl) ?_
  refine lv_iconst (v := (0 : Int32)) hx hb dX6_forget_23 (by decide) ?_
  refine q_put (T := TX6) E hh h_inX6 tyX6 tyX6_ok nmX6 5 (WW_at_5 G (si (si (si (si σ 13 (0 : Int32)) 14 (150 : Int32)) 15 (0 : Int32)) 16 (0 : Int32))) rfl 5 (by decide) (List.mem_cons_of_mem _ (List.mem_append_left _ (List.mem_of_getElem? (i := 4) rfl))) rfl rfl (by decide +kernel) (Nat.le_of_ble_eq_true rfl) dX6_forget_24 (WW_si_17 G (si (si (si (si σ 13 (0 : Int32)) 14 (150 : Int32)) 15 (0 : Int32)) 16 (0 : Int32)) (0 : Int32)) (fun H locs hh => ?_)
  exact q_vret E hh hr hlocks h dX6_forget_27
def f_X6_takeOver_42 (Q : St → Prop)  (rec : St → Int32 → Prop) (σ : St) (l2 : Int32) : Prop :=
  (((3 : Int32) ≤ l2 → Q σ) ∧ (¬ (3 : Int32) ≤ l2 → (vp_in l2 3 ∧ (vp_in l2 3 ∧ rec (sa σ 14 (upd (ga σ 14) l2.toNatClampNeg (ga σ 15 l2.toNatClampNeg))) (l2 + 1)))))
def f_X6_takeOver_42L (Q : St → Prop)  : Nat → St → Int32 → Prop
  | 0, _, _ => False
  | n + 1, σ, l2 => f_X6_takeOver_42 Q  (f_X6_takeOver_42L Q  n) σ l2
set_option maxHeartbeats 4000000 in
set_option maxRecDepth 100000 in
theorem w_X6_takeOver_42 {p : Program} {l : Launch} {e : Env} {s : State} {m : MethodId} {args : Array Value} {below : List Frame} {meth : Method} {c : Code} {G : GG} (E : EV p s m args c cX6_takeOver 3 wsX6_takeOver RX6 G (AD G s.heap.size)) (hr : meth.sig.returnType = none) (hlocks : meth.locks = false) {Q : St → Prop}  : ∀ (n : Nat) (σ : St) (l2 : Int32) (H : Heap) (locs : List Loc) (ls : Array Slot), f_X6_takeOver_42L Q  n σ l2 → HH G (AD G s.heap.size) s σ H locs → lv_has ls 3 [(0, .ref (G.2.1 4)), (1, .ref (G.2.1 5)), (2, .int l2)] → W p l e ({ frames := 0, cells := 0, slots := 0, locals := 0 }) s m args below meth c H locs 0 0 (MQv below G args s Q) (F0 m 42 ls []) := by
  have hx := E.1.1
  have hb := E.1.2.1
  have hown := E.1.2.2.2.1
  have hts := E.1.2.2.2.2
  have h_inX6 : ∀ w ∈ wsX60, w ∈ wsX6_takeOver := (fun _ h9 => (List.mem_cons_of_mem _ (List.mem_append_right _ h9)))
  intro n
  induction n with
  | zero =>
    intro σ l2 H locs ls h
    exact h.elim
  | succ n ih =>
    intro σ l2 H locs ls h hh hl
    have h : f_X6_takeOver_42 Q  (f_X6_takeOver_42L Q  n) σ l2 := h
    unfold f_X6_takeOver_42 at h
    refine lv_iload_n hx hb dX6_takeOver_42 rfl (lv_at hl 2 rfl) ?_
    refine lv_iconst (v := (3 : Int32)) hx hb dX6_takeOver_43 (by decide) ?_
    refine lv_icmp_ge (tgt := 65) hx hb dX6_takeOver_44 (by decide) (fun c9 => ?_) (fun c9 => ?_)
    · have h := h.1 c9
      exact q_vret E hh hr hlocks h dX6_takeOver_65
    · have h := h.2 c9
      refine lv_aload_n hx hb dX6_takeOver_47 rfl (lv_at hl 0 rfl) ?_
      refine q_get (T := TX6) (v := .ref (G.2.1 14)) E hh h_inX6 4 (WW_at_4 G σ) rfl 4 (by decide) (List.mem_cons_of_mem _ (List.mem_append_left _ (List.mem_of_getElem? (i := 5) rfl))) rfl rfl dX6_takeOver_48 ?_
      refine lv_iload_n hx hb dX6_takeOver_51 rfl (lv_at hl 2 rfl) ?_
      refine lv_aload_n hx hb dX6_takeOver_52 rfl (lv_at hl 1 rfl) ?_
      refine q_get (T := TX6) (v := .ref (G.2.1 15)) E hh h_inX6 5 (WW_at_5 G σ) rfl 4 (by decide) (List.mem_cons_of_mem _ (List.mem_append_left _ (List.mem_of_getElem? (i := 5) rfl))) rfl rfl dX6_takeOver_53 ?_
      refine lv_iload_n hx hb dX6_takeOver_56 rfl (lv_at hl 2 rfl) ?_
      obtain ⟨h0, h⟩ := h
      refine q_iald E hh 15 (WW_at_15 G σ) h0 dX6_takeOver_57 ?_
      obtain ⟨h0, h⟩ := h
      refine q_iast E hh 14 (WW_at_14 G σ) h0 dX6_takeOver_58 (WW_sa_14 G σ (upd (ga σ 14) l2.toNatClampNeg (ga σ 15 l2.toNatClampNeg))) (fun H locs hh => ?_)
      refine lv_iinc (v := (l2 + 1)) (lv' := [(2, .int (l2 + 1)), (0, .ref (G.2.1 4)), (1, .ref (G.2.1 5))]) hx hb dX6_takeOver_59 hl (k := 2) rfl rfl (by decide) rfl (fun ls hl => ?_)
      refine lv_goto (tgt := 42) hx hb dX6_takeOver_62 (by decide) ?_
      exact ih _ _ _ _ _ h hh (lv_sub hl [1, 2, 0] rfl)
def f_X6_takeOver (σ : St)  (Q : St → Prop) : Prop :=
  f_X6_takeOver_42L Q FU (si (si (si (si (si σ 8 (gi σ 13)) 9 (gi (si σ 8 (gi σ 13)) 14)) 10 (gi (si (si σ 8 (gi σ 13)) 9 (gi (si σ 8 (gi σ 13)) 14)) 15)) 11 (gi (si (si (si σ 8 (gi σ 13)) 9 (gi (si σ 8 (gi σ 13)) 14)) 10 (gi (si (si σ 8 (gi σ 13)) 9 (gi (si σ 8 (gi σ 13)) 14)) 15)) 16)) 12 (gi (si (si (si (si σ 8 (gi σ 13)) 9 (gi (si σ 8 (gi σ 13)) 14)) 10 (gi (si (si σ 8 (gi σ 13)) 9 (gi (si σ 8 (gi σ 13)) 14)) 15)) 11 (gi (si (si (si σ 8 (gi σ 13)) 9 (gi (si σ 8 (gi σ 13)) 14)) 10 (gi (si (si σ 8 (gi σ 13)) 9 (gi (si σ 8 (gi σ 13)) 14)) 15)) 16)) 17)) (0 : Int32)
set_option maxHeartbeats 4000000 in
set_option maxRecDepth 100000 in
theorem c_X6_takeOver (l : Launch) (G : GG) (σ : St) (sz : Nat)  (Q : St → Prop) (h : f_X6_takeOver σ  Q) : CTv l yX6_takeOver wsX6_takeOver ({ frames := 0, cells := 0, slots := 0, locals := 0 }) [.ref (G.2.1 4), .ref (G.2.1 5)] G σ sz Q := by
  refine Met.ofW (cc := cX6_takeOver) (maxL := 3) (ret := none) (by decide) rfl ?_
  intro p e s m args below meth c s₁ B hml hv
  obtain ⟨rfl, hpre⟩ := hv
  have hr := B.returns
  have hlocks := B.notSynchronized
  obtain ⟨hsz, -⟩ := id hpre
  subst hsz
  obtain ⟨E, hh⟩ := EV.ofPre (⟨B.exec, B.bytes, hml, findClass_of_methodNamed B.named, atoms_spec (ws := wsX6_takeOver) B.pre⟩ : CallFix p m c cX6_takeOver 3 s _ wsX6_takeOver RX6) hpre
  have hx := E.1.1
  have hb := E.1.2.1
  have hown := E.1.2.2.2.1
  have hts := E.1.2.2.2.2
  have h_inX6 : ∀ w ∈ wsX60, w ∈ wsX6_takeOver := (fun _ h9 => (List.mem_cons_of_mem _ (List.mem_append_right _ h9)))
  have hl := lv_entry ([.ref (G.2.1 4), .ref (G.2.1 5)]) (n := 3) (Nat.le_of_ble_eq_true rfl)
  rw [lg_entry_eq]
  generalize (lg_sl ([.ref (G.2.1 4), .ref (G.2.1 5)]) ++ List.replicate (3 - (lg_sl ([.ref (G.2.1 4), .ref (G.2.1 5)])).length) Slot.unset).toArray = ls at hl ⊢
  have hl : lv_has ls 3 [(0, .ref (G.2.1 4)), (1, .ref (G.2.1 5))] := hl
  unfold f_X6_takeOver at h
  refine lv_aload_n hx hb dX6_takeOver_0 rfl (lv_at hl 0 rfl) ?_
  refine lv_aload_n hx hb dX6_takeOver_1 rfl (lv_at hl 1 rfl) ?_
  refine q_get (T := TX6) (v := .int (gi σ 13)) E hh h_inX6 5 (WW_at_5 G σ) rfl 0 (by decide) (List.mem_cons_of_mem _ (List.mem_append_left _ (List.mem_of_getElem? (i := 0) rfl))) rfl rfl dX6_takeOver_2 ?_
  refine q_put (T := TX6) E hh h_inX6 tyX6 tyX6_ok nmX6 4 (WW_at_4 G σ) rfl 0 (by decide) (List.mem_cons_of_mem _ (List.mem_append_left _ (List.mem_of_getElem? (i := 0) rfl))) rfl rfl (by decide +kernel) (Nat.le_of_ble_eq_true rfl) dX6_takeOver_5 (WW_si_8 G σ (gi σ 13)) (fun H locs hh => ?_)
  refine lv_aload_n hx hb dX6_takeOver_8 rfl (lv_at hl 0 rfl) ?_
  refine lv_aload_n hx hb dX6_takeOver_9 rfl (lv_at hl 1 rfl) ?_
  refine q_get (T := TX6) (v := .int (gi (si σ 8 (gi σ 13)) 14)) E hh h_inX6 5 (WW_at_5 G (si σ 8 (gi σ 13))) rfl 1 (by decide) (List.mem_cons_of_mem _ (List.mem_append_left _ (List.mem_of_getElem? (i := 1) rfl))) rfl rfl dX6_takeOver_10 ?_
  refine q_put (T := TX6) E hh h_inX6 tyX6 tyX6_ok nmX6 4 (WW_at_4 G (si σ 8 (gi σ 13))) rfl 1 (by decide) (List.mem_cons_of_mem _ (List.mem_append_left _ (List.mem_of_getElem? (i := 1) rfl))) rfl rfl (by decide +kernel) (Nat.le_of_ble_eq_true rfl) dX6_takeOver_13 (WW_si_9 G (si σ 8 (gi σ 13)) (gi (si σ 8 (gi σ 13)) 14)) (fun H locs hh => ?_)
  refine lv_aload_n hx hb dX6_takeOver_16 rfl (lv_at hl 0 rfl) ?_
  refine lv_aload_n hx hb dX6_takeOver_17 rfl (lv_at hl 1 rfl) ?_
  refine q_get (T := TX6) (v := .int (gi (si (si σ 8 (gi σ 13)) 9 (gi (si σ 8 (gi σ 13)) 14)) 15)) E hh h_inX6 5 (WW_at_5 G (si (si σ 8 (gi σ 13)) 9 (gi (si σ 8 (gi σ 13)) 14))) rfl 2 (by decide) (List.mem_cons_of_mem _ (List.mem_append_left _ (List.mem_of_getElem? (i := 2) rfl))) rfl rfl dX6_takeOver_18 ?_
  refine q_put (T := TX6) E hh h_inX6 tyX6 tyX6_ok nmX6 4 (WW_at_4 G (si (si σ 8 (gi σ 13)) 9 (gi (si σ 8 (gi σ 13)) 14))) rfl 2 (by decide) (List.mem_cons_of_mem _ (List.mem_append_left _ (List.mem_of_getElem? (i := 2) rfl))) rfl rfl (by decide +kernel) (Nat.le_of_ble_eq_true rfl) dX6_takeOver_21 (WW_si_10 G (si (si σ 8 (gi σ 13)) 9 (gi (si σ 8 (gi σ 13)) 14)) (gi (si (si σ 8 (gi σ 13)) 9 (gi (si σ 8 (gi σ 13)) 14)) 15)) (fun H locs hh => ?_)
  refine lv_aload_n hx hb dX6_takeOver_24 rfl (lv_at hl 0 rfl) ?_
  refine lv_aload_n hx hb dX6_takeOver_25 rfl (lv_at hl 1 rfl) ?_
  refine q_get (T := TX6) (v := .int (gi (si (si (si σ 8 (gi σ 13)) 9 (gi (si σ 8 (gi σ 13)) 14)) 10 (gi (si (si σ 8 (gi σ 13)) 9 (gi (si σ 8 (gi σ 13)) 14)) 15)) 16)) E hh h_inX6 5 (WW_at_5 G (si (si (si σ 8 (gi σ 13)) 9 (gi (si σ 8 (gi σ 13)) 14)) 10 (gi (si (si σ 8 (gi σ 13)) 9 (gi (si σ 8 (gi σ 13)) 14)) 15))) rfl 3 (by decide) (List.mem_cons_of_mem _ (List.mem_append_left _ (List.mem_of_getElem? (i := 3) rfl))) rfl rfl dX6_takeOver_26 ?_
  refine q_put (T := TX6) E hh h_inX6 tyX6 tyX6_ok nmX6 4 (WW_at_4 G (si (si (si σ 8 (gi σ 13)) 9 (gi (si σ 8 (gi σ 13)) 14)) 10 (gi (si (si σ 8 (gi σ 13)) 9 (gi (si σ 8 (gi σ 13)) 14)) 15))) rfl 3 (by decide) (List.mem_cons_of_mem _ (List.mem_append_left _ (List.mem_of_getElem? (i := 3) rfl))) rfl rfl (by decide +kernel) (Nat.le_of_ble_eq_true rfl) dX6_takeOver_29 (WW_si_11 G (si (si (si σ 8 (gi σ 13)) 9 (gi (si σ 8 (gi σ 13)) 14)) 10 (gi (si (si σ 8 (gi σ 13)) 9 (gi (si σ 8 (gi σ 13)) 14)) 15)) (gi (si (si (si σ 8 (gi σ 13)) 9 (gi (si σ 8 (gi σ 13)) 14)) 10 (gi (si (si σ 8 (gi σ 13)) 9 (gi (si σ 8 (gi σ 13)) 14)) 15)) 16)) (fun H locs hh => ?_)
  refine lv_aload_n hx hb dX6_takeOver_32 rfl (lv_at hl 0 rfl) ?_
  refine lv_aload_n hx hb dX6_takeOver_33 rfl (lv_at hl 1 rfl) ?_
  refine q_get (T := TX6) (v := .int (gi (si (si (si (si σ 8 (gi σ 13)) 9 (gi (si σ 8 (gi σ 13)) 14)) 10 (gi (si (si σ 8 (gi σ 13)) 9 (gi (si σ 8 (gi σ 13)) 14)) 15)) 11 (gi (si (si (si σ 8 (gi σ 13)) 9 (gi (si σ 8 (gi σ 13)) 14)) 10 (gi (si (si σ 8 (gi σ 13)) 9 (gi (si σ 8 (gi σ 13)) 14)) 15)) 16)) 17)) E hh h_inX6 5 (WW_at_5 G (si (si (si (si σ 8 (gi σ 13)) 9 (gi (si σ 8 (gi σ 13)) 14)) 10 (gi (si (si σ 8 (gi σ 13)) 9 (gi (si σ 8 (gi σ 13)) 14)) 15)) 11 (gi (si (si (si σ 8 (gi σ 13)) 9 (gi (si σ 8 (gi σ 13)) 14)) 10 (gi (si (si σ 8 (gi σ 13)) 9 (gi (si σ 8 (gi σ 13)) 14)) 15)) 16))) rfl 5 (by decide) (List.mem_cons_of_mem _ (List.mem_append_left _ (List.mem_of_getElem? (i := 4) rfl))) rfl rfl dX6_takeOver_34 ?_
  refine q_put (T := TX6) E hh h_inX6 tyX6 tyX6_ok nmX6 4 (WW_at_4 G (si (si (si (si σ 8 (gi σ 13)) 9 (gi (si σ 8 (gi σ 13)) 14)) 10 (gi (si (si σ 8 (gi σ 13)) 9 (gi (si σ 8 (gi σ 13)) 14)) 15)) 11 (gi (si (si (si σ 8 (gi σ 13)) 9 (gi (si σ 8 (gi σ 13)) 14)) 10 (gi (si (si σ 8 (gi σ 13)) 9 (gi (si σ 8 (gi σ 13)) 14)) 15)) 16))) rfl 5 (by decide) (List.mem_cons_of_mem _ (List.mem_append_left _ (List.mem_of_getElem? (i := 4) rfl))) rfl rfl (by decide +kernel) (Nat.le_of_ble_eq_true rfl) dX6_takeOver_37 (WW_si_12 G (si (si (si (si σ 8 (gi σ 13)) 9 (gi (si σ 8 (gi σ 13)) 14)) 10 (gi (si (si σ 8 (gi σ 13)) 9 (gi (si σ 8 (gi σ 13)) 14)) 15)) 11 (gi (si (si (si σ 8 (gi σ 13)) 9 (gi (si σ 8 (gi σ 13)) 14)) 10 (gi (si (si σ 8 (gi σ 13)) 9 (gi (si σ 8 (gi σ 13)) 14)) 15)) 16)) (gi (si (si (si (si σ 8 (gi σ 13)) 9 (gi (si σ 8 (gi σ 13)) 14)) 10 (gi (si (si σ 8 (gi σ 13)) 9 (gi (si σ 8 (gi σ 13)) 14)) 15)) 11 (gi (si (si (si σ 8 (gi σ 13)) 9 (gi (si σ 8 (gi σ 13)) 14)) 10 (gi (si (si σ 8 (gi σ 13)) 9 (gi (si σ 8 (gi σ 13)) 14)) 15)) 16)) 17)) (fun H locs hh => ?_)
  refine lv_iconst (v := (0 : Int32)) hx hb dX6_takeOver_40 (by decide) ?_
  refine lv_istore_n (lv' := [(2, .int (0 : Int32)), (0, .ref (G.2.1 4)), (1, .ref (G.2.1 5))]) hx hb dX6_takeOver_41 rfl hl (by decide) rfl (fun ls hl => ?_)
  exact w_X6_takeOver_42 E hr hlocks  FU _ _ _ _ _ h hh (lv_sub hl [1, 2, 0] rfl)
def f_X6_addRight_2 (Q : Int32 → St → Prop)  (rec : St → Int32 → Int32 → Prop) (σ : St) (l1 : Int32) (l2 : Int32) : Prop :=
  (((gi σ 17) ≤ l2 → (((gi σ 17) < (3 : Int32) → (vp_in (gi σ 17) 3 ∧ Q (1 : Int32) (si (sa σ 15 (upd (ga σ 15) (gi σ 17).toNatClampNeg l1)) 17 ((gi (sa σ 15 (upd (ga σ 15) (gi σ 17).toNatClampNeg l1)) 17) + (1 : Int32))))) ∧ (¬ (gi σ 17) < (3 : Int32) → Q (0 : Int32) σ))) ∧ (¬ (gi σ 17) ≤ l2 → (vp_in l2 3 ∧ ((¬ (ga σ 15 l2.toNatClampNeg) = l1 → rec σ l1 (l2 + 1)) ∧ ((ga σ 15 l2.toNatClampNeg) = l1 → Q (0 : Int32) σ)))))
def f_X6_addRight_2L (Q : Int32 → St → Prop)  : Nat → St → Int32 → Int32 → Prop
  | 0, _, _, _ => False
  | n + 1, σ, l1, l2 => f_X6_addRight_2 Q  (f_X6_addRight_2L Q  n) σ l1 l2
set_option maxHeartbeats 4000000 in
set_option maxRecDepth 100000 in
theorem w_X6_addRight_2 {p : Program} {l : Launch} {e : Env} {s : State} {m : MethodId} {args : Array Value} {below : List Frame} {meth : Method} {c : Code} {G : GG} (E : EV p s m args c cX6_addRight 3 wsX6_addRight RX6 G (AD G s.heap.size)) (hr : meth.sig.returnType = (some .boolean)) (hlocks : meth.locks = false) {Q : Int32 → St → Prop}  : ∀ (n : Nat) (σ : St) (l1 : Int32) (l2 : Int32) (H : Heap) (locs : List Loc) (ls : Array Slot), f_X6_addRight_2L Q  n σ l1 l2 → HH G (AD G s.heap.size) s σ H locs → lv_has ls 3 [(0, .ref (G.2.1 5)), (1, .int l1), (2, .int l2)] → W p l e ({ frames := 0, cells := 0, slots := 0, locals := 0 }) s m args below meth c H locs 0 0 (MQi below G args s Q) (F0 m 2 ls []) := by
  have hx := E.1.1
  have hb := E.1.2.1
  have hown := E.1.2.2.2.1
  have hts := E.1.2.2.2.2
  have h_inX6 : ∀ w ∈ wsX60, w ∈ wsX6_addRight := (fun _ h9 => (List.mem_cons_of_mem _ (List.mem_append_right _ h9)))
  intro n
  induction n with
  | zero =>
    intro σ l1 l2 H locs ls h
    exact h.elim
  | succ n ih =>
    intro σ l1 l2 H locs ls h hh hl
    have h : f_X6_addRight_2 Q  (f_X6_addRight_2L Q  n) σ l1 l2 := h
    unfold f_X6_addRight_2 at h
    refine lv_iload_n hx hb dX6_addRight_2 rfl (lv_at hl 2 rfl) ?_
    refine lv_aload_n hx hb dX6_addRight_3 rfl (lv_at hl 0 rfl) ?_
    refine q_get (T := TX6) (v := .int (gi σ 17)) E hh h_inX6 5 (WW_at_5 G σ) rfl 5 (by decide) (List.mem_cons_of_mem _ (List.mem_append_left _ (List.mem_of_getElem? (i := 0) rfl))) rfl rfl dX6_addRight_4 ?_
    refine lv_icmp_ge (tgt := 28) hx hb dX6_addRight_7 (by decide) (fun c9 => ?_) (fun c9 => ?_)
    · have h := h.1 c9
      refine lv_aload_n hx hb dX6_addRight_28 rfl (lv_at hl 0 rfl) ?_
      refine q_get (T := TX6) (v := .int (gi σ 17)) E hh h_inX6 5 (WW_at_5 G σ) rfl 5 (by decide) (List.mem_cons_of_mem _ (List.mem_append_left _ (List.mem_of_getElem? (i := 0) rfl))) rfl rfl dX6_addRight_29 ?_
      refine lv_iconst (v := (3 : Int32)) hx hb dX6_addRight_32 (by decide) ?_
      refine lv_icmp_lt (tgt := 38) hx hb dX6_addRight_33 (by decide) (fun c9 => ?_) (fun c9 => ?_)
      · have h := h.1 c9
        refine lv_aload_n hx hb dX6_addRight_38 rfl (lv_at hl 0 rfl) ?_
        refine q_get (T := TX6) (v := .ref (G.2.1 15)) E hh h_inX6 5 (WW_at_5 G σ) rfl 4 (by decide) (List.mem_cons_of_mem _ (List.mem_append_left _ (List.mem_of_getElem? (i := 1) rfl))) rfl rfl dX6_addRight_39 ?_
        refine lv_aload_n hx hb dX6_addRight_42 rfl (lv_at hl 0 rfl) ?_
        refine q_get (T := TX6) (v := .int (gi σ 17)) E hh h_inX6 5 (WW_at_5 G σ) rfl 5 (by decide) (List.mem_cons_of_mem _ (List.mem_append_left _ (List.mem_of_getElem? (i := 0) rfl))) rfl rfl dX6_addRight_43 ?_
        refine lv_iload_n hx hb dX6_addRight_46 rfl (lv_at hl 1 rfl) ?_
        obtain ⟨h0, h⟩ := h
        refine q_iast E hh 15 (WW_at_15 G σ) h0 dX6_addRight_47 (WW_sa_15 G σ (upd (ga σ 15) (gi σ 17).toNatClampNeg l1)) (fun H locs hh => ?_)
        refine lv_aload_n hx hb dX6_addRight_48 rfl (lv_at hl 0 rfl) ?_
        refine lv_dup hx hb dX6_addRight_49 rfl ?_
        refine q_get (T := TX6) (v := .int (gi (sa σ 15 (upd (ga σ 15) (gi σ 17).toNatClampNeg l1)) 17)) E hh h_inX6 5 (WW_at_5 G (sa σ 15 (upd (ga σ 15) (gi σ 17).toNatClampNeg l1))) rfl 5 (by decide) (List.mem_cons_of_mem _ (List.mem_append_left _ (List.mem_of_getElem? (i := 0) rfl))) rfl rfl dX6_addRight_50 ?_
        refine lv_iconst (v := (1 : Int32)) hx hb dX6_addRight_53 (by decide) ?_
        refine lv_iadd hx hb dX6_addRight_54 ?_
        refine q_put (T := TX6) E hh h_inX6 tyX6 tyX6_ok nmX6 5 (WW_at_5 G (sa σ 15 (upd (ga σ 15) (gi σ 17).toNatClampNeg l1))) rfl 5 (by decide) (List.mem_cons_of_mem _ (List.mem_append_left _ (List.mem_of_getElem? (i := 0) rfl))) rfl rfl (by decide +kernel) (Nat.le_of_ble_eq_true rfl) dX6_addRight_55 (WW_si_17 G (sa σ 15 (upd (ga σ 15) (gi σ 17).toNatClampNeg l1)) ((gi (sa σ 15 (upd (ga σ 15) (gi σ 17).toNatClampNeg l1)) 17) + (1 : Int32))) (fun H locs hh => ?_)
        refine lv_iconst (v := (1 : Int32)) hx hb dX6_addRight_58 (by decide) ?_
        exact q_zret (ty := .boolean) E hh hr hlocks rfl h dX6_addRight_59
      · have h := h.2 c9
        refine lv_iconst (v := (0 : Int32)) hx hb dX6_addRight_36 (by decide) ?_
        exact q_zret (ty := .boolean) E hh hr hlocks rfl h dX6_addRight_37
    · have h := h.2 c9
      refine lv_aload_n hx hb dX6_addRight_10 rfl (lv_at hl 0 rfl) ?_
      refine q_get (T := TX6) (v := .ref (G.2.1 15)) E hh h_inX6 5 (WW_at_5 G σ) rfl 4 (by decide) (List.mem_cons_of_mem _ (List.mem_append_left _ (List.mem_of_getElem? (i := 1) rfl))) rfl rfl dX6_addRight_11 ?_
      refine lv_iload_n hx hb dX6_addRight_14 rfl (lv_at hl 2 rfl) ?_
      obtain ⟨h0, h⟩ := h
      refine q_iald E hh 15 (WW_at_15 G σ) h0 dX6_addRight_15 ?_
      refine lv_iload_n hx hb dX6_addRight_16 rfl (lv_at hl 1 rfl) ?_
      refine lv_icmp_ne (tgt := 22) hx hb dX6_addRight_17 (by decide) (fun c9 => ?_) (fun c9 => ?_)
      · have h := h.1 c9
        refine lv_iinc (v := (l2 + 1)) (lv' := [(2, .int (l2 + 1)), (0, .ref (G.2.1 5)), (1, .int l1)]) hx hb dX6_addRight_22 hl (k := 2) rfl rfl (by decide) rfl (fun ls hl => ?_)
        refine lv_goto (tgt := 2) hx hb dX6_addRight_25 (by decide) ?_
        exact ih _ _ _ _ _ _ h hh (lv_sub hl [1, 2, 0] rfl)
      · have h := h.2 c9
        refine lv_iconst (v := (0 : Int32)) hx hb dX6_addRight_20 (by decide) ?_
        exact q_zret (ty := .boolean) E hh hr hlocks rfl h dX6_addRight_21
def f_X6_addRight (σ : St) (p1 : Int32) (Q : Int32 → St → Prop) : Prop :=
  f_X6_addRight_2L Q FU σ p1 (0 : Int32)
set_option maxHeartbeats 4000000 in
set_option maxRecDepth 100000 in
theorem c_X6_addRight (l : Launch) (G : GG) (σ : St) (sz : Nat) (p1 : Int32) (Q : Int32 → St → Prop) (h : f_X6_addRight σ p1 Q) : CTi l yX6_addRight wsX6_addRight ({ frames := 0, cells := 0, slots := 0, locals := 0 }) [.ref (G.2.1 5), .int p1] G σ sz Q := by
  refine Met.ofW (cc := cX6_addRight) (maxL := 3) (ret := (some .boolean)) (by decide) rfl ?_
  intro p e s m args below meth c s₁ B hml hv
  obtain ⟨rfl, hpre⟩ := hv
  have hr := B.returns
  have hlocks := B.notSynchronized
  obtain ⟨hsz, -⟩ := id hpre
  subst hsz
  obtain ⟨E, hh⟩ := EV.ofPre (⟨B.exec, B.bytes, hml, findClass_of_methodNamed B.named, atoms_spec (ws := wsX6_addRight) B.pre⟩ : CallFix p m c cX6_addRight 3 s _ wsX6_addRight RX6) hpre
  have hx := E.1.1
  have hb := E.1.2.1
  have hown := E.1.2.2.2.1
  have hts := E.1.2.2.2.2
  have h_inX6 : ∀ w ∈ wsX60, w ∈ wsX6_addRight := (fun _ h9 => (List.mem_cons_of_mem _ (List.mem_append_right _ h9)))
  have hl := lv_entry ([.ref (G.2.1 5), .int p1]) (n := 3) (Nat.le_of_ble_eq_true rfl)
  rw [lg_entry_eq]
  generalize (lg_sl ([.ref (G.2.1 5), .int p1]) ++ List.replicate (3 - (lg_sl ([.ref (G.2.1 5), .int p1])).length) Slot.unset).toArray = ls at hl ⊢
  have hl : lv_has ls 3 [(0, .ref (G.2.1 5)), (1, .int p1)] := hl
  unfold f_X6_addRight at h
  refine lv_iconst (v := (0 : Int32)) hx hb dX6_addRight_0 (by decide) ?_
  refine lv_istore_n (lv' := [(2, .int (0 : Int32)), (0, .ref (G.2.1 5)), (1, .int p1)]) hx hb dX6_addRight_1 rfl hl (by decide) rfl (fun ls hl => ?_)
  exact w_X6_addRight_2 E hr hlocks  FU _ _ _ _ _ _ h hh (lv_sub hl [1, 2, 0] rfl)
def f_X7_hasRoom (σ : St)  (Q : Int32 → St → Prop) : Prop :=
  (((200 : Int32) < ((gi σ 3) + (20 : Int32)) → Q (0 : Int32) σ) ∧ (¬ (200 : Int32) < ((gi σ 3) + (20 : Int32)) → Q (1 : Int32) σ))
set_option maxHeartbeats 4000000 in
set_option maxRecDepth 100000 in
theorem c_X7_hasRoom (l : Launch) (G : GG) (σ : St) (sz : Nat)  (Q : Int32 → St → Prop) (h : f_X7_hasRoom σ  Q) : CTi l yX7_hasRoom wsX7_hasRoom ({ frames := 0, cells := 0, slots := 0, locals := 0 }) [.ref (G.2.1 3)] G σ sz Q := by
  refine Met.ofW (cc := cX7_hasRoom) (maxL := 1) (ret := (some .boolean)) (by decide) rfl ?_
  intro p e s m args below meth c s₁ B hml hv
  obtain ⟨rfl, hpre⟩ := hv
  have hr := B.returns
  have hlocks := B.notSynchronized
  obtain ⟨hsz, -⟩ := id hpre
  subst hsz
  obtain ⟨E, hh⟩ := EV.ofPre (⟨B.exec, B.bytes, hml, findClass_of_methodNamed B.named, atoms_spec (ws := wsX7_hasRoom) B.pre⟩ : CallFix p m c cX7_hasRoom 1 s _ wsX7_hasRoom RX7) hpre
  have hx := E.1.1
  have hb := E.1.2.1
  have hown := E.1.2.2.2.1
  have hts := E.1.2.2.2.2
  have h_inX7 : ∀ w ∈ wsX70, w ∈ wsX7_hasRoom := (fun _ h9 => (List.mem_cons_of_mem _ (List.mem_append_right _ h9)))
  have hl := lv_entry ([.ref (G.2.1 3)]) (n := 1) (Nat.le_of_ble_eq_true rfl)
  rw [lg_entry_eq]
  generalize (lg_sl ([.ref (G.2.1 3)]) ++ List.replicate (1 - (lg_sl ([.ref (G.2.1 3)])).length) Slot.unset).toArray = ls at hl ⊢
  have hl : lv_has ls 1 [(0, .ref (G.2.1 3))] := hl
  unfold f_X7_hasRoom at h
  refine lv_aload_n hx hb dX7_hasRoom_0 rfl (lv_at hl 0 rfl) ?_
  refine q_get (T := TX7) (v := .int (gi σ 3)) E hh h_inX7 3 (WW_at_3 G σ) rfl 1 (by decide) (List.mem_cons_of_mem _ (List.mem_append_left _ (List.mem_of_getElem? (i := 0) rfl))) rfl rfl dX7_hasRoom_1 ?_
  refine lv_bipush (v := (20 : Int32)) hx hb dX7_hasRoom_4 (by decide) ?_
  refine lv_iadd hx hb dX7_hasRoom_6 ?_
  refine lv_sipush (v := (200 : Int32)) hx hb dX7_hasRoom_7 (by decide) ?_
  refine lv_icmp_gt (tgt := 17) hx hb dX7_hasRoom_10 (by decide) (fun c9 => ?_) (fun c9 => ?_)
  · have h := h.1 c9
    refine lv_iconst (v := (0 : Int32)) hx hb dX7_hasRoom_17 (by decide) ?_
    exact q_zret (ty := .boolean) E hh hr hlocks rfl h dX7_hasRoom_18
  · have h := h.2 c9
    refine lv_iconst (v := (1 : Int32)) hx hb dX7_hasRoom_13 (by decide) ?_
    refine lv_goto (tgt := 18) hx hb dX7_hasRoom_14 (by decide) ?_
    exact q_zret (ty := .boolean) E hh hr hlocks rfl h dX7_hasRoom_18
def f_X7_addNumber_3 (Q : St → Prop)  (rec : St → Int32 → Int32 → Prop) (σ : St) (l1 : Int32) (l2 : Int32) : Prop :=
  ((l2 < 0 → Q σ) ∧ (¬ l2 < 0 → (((200 : Int32) ≤ (gi σ 3) → rec σ l1 (l2 + (-8))) ∧ (¬ (200 : Int32) ≤ (gi σ 3) → (vp_in (gi σ 3) 200 ∧ rec (si (sa σ 13 (upd (ga σ 13) (gi σ 3).toNatClampNeg ((l1.toUInt32 >>> (l2.toUInt32 &&& Int32.toUInt32 31)).toInt32 &&& (255 : Int32)))) 3 ((gi (sa σ 13 (upd (ga σ 13) (gi σ 3).toNatClampNeg ((l1.toUInt32 >>> (l2.toUInt32 &&& Int32.toUInt32 31)).toInt32 &&& (255 : Int32)))) 3) + (1 : Int32))) l1 (l2 + (-8)))))))
def f_X7_addNumber_3L (Q : St → Prop)  : Nat → St → Int32 → Int32 → Prop
  | 0, _, _, _ => False
  | n + 1, σ, l1, l2 => f_X7_addNumber_3 Q  (f_X7_addNumber_3L Q  n) σ l1 l2
set_option maxHeartbeats 4000000 in
set_option maxRecDepth 100000 in
theorem w_X7_addNumber_3 {p : Program} {l : Launch} {e : Env} {s : State} {m : MethodId} {args : Array Value} {below : List Frame} {meth : Method} {c : Code} {G : GG} (E : EV p s m args c cX7_addNumber 3 wsX7_addNumber RX7 G (AD G s.heap.size)) (hr : meth.sig.returnType = none) (hlocks : meth.locks = false) {Q : St → Prop}  : ∀ (n : Nat) (σ : St) (l1 : Int32) (l2 : Int32) (H : Heap) (locs : List Loc) (ls : Array Slot), f_X7_addNumber_3L Q  n σ l1 l2 → HH G (AD G s.heap.size) s σ H locs → lv_has ls 3 [(0, .ref (G.2.1 3)), (1, .int l1), (2, .int l2)] → W p l e ({ frames := 0, cells := 0, slots := 0, locals := 0 }) s m args below meth c H locs 0 0 (MQv below G args s Q) (F0 m 3 ls []) := by
  have hx := E.1.1
  have hb := E.1.2.1
  have hown := E.1.2.2.2.1
  have hts := E.1.2.2.2.2
  have h_inX7 : ∀ w ∈ wsX70, w ∈ wsX7_addNumber := (fun _ h9 => (List.mem_cons_of_mem _ (List.mem_append_right _ h9)))
  intro n
  induction n with
  | zero =>
    intro σ l1 l2 H locs ls h
    exact h.elim
  | succ n ih =>
    intro σ l1 l2 H locs ls h hh hl
    have h : f_X7_addNumber_3 Q  (f_X7_addNumber_3L Q  n) σ l1 l2 := h
    unfold f_X7_addNumber_3 at h
    refine lv_iload_n hx hb dX7_addNumber_3 rfl (lv_at hl 2 rfl) ?_
    refine lv_if_lt (tgt := 49) hx hb dX7_addNumber_4 (by decide) (fun c9 => ?_) (fun c9 => ?_)
    · have h := h.1 c9
      exact q_vret E hh hr hlocks h dX7_addNumber_49
    · have h := h.2 c9
      refine lv_aload_n hx hb dX7_addNumber_7 rfl (lv_at hl 0 rfl) ?_
      refine q_get (T := TX7) (v := .int (gi σ 3)) E hh h_inX7 3 (WW_at_3 G σ) rfl 1 (by decide) (List.mem_cons_of_mem _ (List.mem_append_left _ (List.mem_of_getElem? (i := 0) rfl))) rfl rfl dX7_addNumber_8 ?_
      refine lv_sipush (v := (200 : Int32)) hx hb dX7_addNumber_11 (by decide) ?_
      refine lv_icmp_ge (tgt := 43) hx hb dX7_addNumber_14 (by decide) (fun c9 => ?_) (fun c9 => ?_)
      · have h := h.1 c9
        refine lv_iinc (v := (l2 + (-8))) (lv' := [(2, .int (l2 + (-8))), (0, .ref (G.2.1 3)), (1, .int l1)]) hx hb dX7_addNumber_43 hl (k := 2) rfl rfl (by decide) rfl (fun ls hl => ?_)
        refine lv_goto (tgt := 3) hx hb dX7_addNumber_46 (by decide) ?_
        exact ih _ _ _ _ _ _ h hh (lv_sub hl [1, 2, 0] rfl)
      · have h := h.2 c9
        refine lv_aload_n hx hb dX7_addNumber_17 rfl (lv_at hl 0 rfl) ?_
        refine q_get (T := TX7) (v := .ref (G.2.1 13)) E hh h_inX7 3 (WW_at_3 G σ) rfl 0 (by decide) (List.mem_cons_of_mem _ (List.mem_append_left _ (List.mem_of_getElem? (i := 1) rfl))) rfl rfl dX7_addNumber_18 ?_
        refine lv_aload_n hx hb dX7_addNumber_21 rfl (lv_at hl 0 rfl) ?_
        refine q_get (T := TX7) (v := .int (gi σ 3)) E hh h_inX7 3 (WW_at_3 G σ) rfl 1 (by decide) (List.mem_cons_of_mem _ (List.mem_append_left _ (List.mem_of_getElem? (i := 0) rfl))) rfl rfl dX7_addNumber_22 ?_
        refine lv_iload_n hx hb dX7_addNumber_25 rfl (lv_at hl 1 rfl) ?_
        refine lv_iload_n hx hb dX7_addNumber_26 rfl (lv_at hl 2 rfl) ?_
        refine lv_iushr (v := (l1.toUInt32 >>> (l2.toUInt32 &&& Int32.toUInt32 31)).toInt32) hx hb dX7_addNumber_27 rfl ?_
        refine lv_sipush (v := (255 : Int32)) hx hb dX7_addNumber_28 (by decide) ?_
        refine lv_iand hx hb dX7_addNumber_31 ?_
        obtain ⟨h0, h⟩ := h
        refine q_iast E hh 13 (WW_at_13 G σ) h0 dX7_addNumber_32 (WW_sa_13 G σ (upd (ga σ 13) (gi σ 3).toNatClampNeg ((l1.toUInt32 >>> (l2.toUInt32 &&& Int32.toUInt32 31)).toInt32 &&& (255 : Int32)))) (fun H locs hh => ?_)
        refine lv_aload_n hx hb dX7_addNumber_33 rfl (lv_at hl 0 rfl) ?_
        refine lv_dup hx hb dX7_addNumber_34 rfl ?_
        refine q_get (T := TX7) (v := .int (gi (sa σ 13 (upd (ga σ 13) (gi σ 3).toNatClampNeg ((l1.toUInt32 >>> (l2.toUInt32 &&& Int32.toUInt32 31)).toInt32 &&& (255 : Int32)))) 3)) E hh h_inX7 3 (WW_at_3 G (sa σ 13 (upd (ga σ 13) (gi σ 3).toNatClampNeg ((l1.toUInt32 >>> (l2.toUInt32 &&& Int32.toUInt32 31)).toInt32 &&& (255 : Int32))))) rfl 1 (by decide) (List.mem_cons_of_mem _ (List.mem_append_left _ (List.mem_of_getElem? (i := 0) rfl))) rfl rfl dX7_addNumber_35 ?_
        refine lv_iconst (v := (1 : Int32)) hx hb dX7_addNumber_38 (by decide) ?_
        refine lv_iadd hx hb dX7_addNumber_39 ?_
        refine q_put (T := TX7) E hh h_inX7 tyX7 tyX7_ok nmX7 3 (WW_at_3 G (sa σ 13 (upd (ga σ 13) (gi σ 3).toNatClampNeg ((l1.toUInt32 >>> (l2.toUInt32 &&& Int32.toUInt32 31)).toInt32 &&& (255 : Int32))))) rfl 1 (by decide) (List.mem_cons_of_mem _ (List.mem_append_left _ (List.mem_of_getElem? (i := 0) rfl))) rfl rfl (by decide +kernel) (Nat.le_of_ble_eq_true rfl) dX7_addNumber_40 (WW_si_3 G (sa σ 13 (upd (ga σ 13) (gi σ 3).toNatClampNeg ((l1.toUInt32 >>> (l2.toUInt32 &&& Int32.toUInt32 31)).toInt32 &&& (255 : Int32)))) ((gi (sa σ 13 (upd (ga σ 13) (gi σ 3).toNatClampNeg ((l1.toUInt32 >>> (l2.toUInt32 &&& Int32.toUInt32 31)).toInt32 &&& (255 : Int32)))) 3) + (1 : Int32))) (fun H locs hh => ?_)
        refine lv_iinc (v := (l2 + (-8))) (lv' := [(2, .int (l2 + (-8))), (0, .ref (G.2.1 3)), (1, .int l1)]) hx hb dX7_addNumber_43 hl (k := 2) rfl rfl (by decide) rfl (fun ls hl => ?_)
        refine lv_goto (tgt := 3) hx hb dX7_addNumber_46 (by decide) ?_
        exact ih _ _ _ _ _ _ h hh (lv_sub hl [1, 2, 0] rfl)
def f_X7_addNumber (σ : St) (p1 : Int32) (Q : St → Prop) : Prop :=
  f_X7_addNumber_3L Q FU σ p1 (24 : Int32)
set_option maxHeartbeats 4000000 in
set_option maxRecDepth 100000 in
theorem c_X7_addNumber (l : Launch) (G : GG) (σ : St) (sz : Nat) (p1 : Int32) (Q : St → Prop) (h : f_X7_addNumber σ p1 Q) : CTv l yX7_addNumber wsX7_addNumber ({ frames := 0, cells := 0, slots := 0, locals := 0 }) [.ref (G.2.1 3), .int p1] G σ sz Q := by
  refine Met.ofW (cc := cX7_addNumber) (maxL := 3) (ret := none) (by decide) rfl ?_
  intro p e s m args below meth c s₁ B hml hv
  obtain ⟨rfl, hpre⟩ := hv
  have hr := B.returns
  have hlocks := B.notSynchronized
  obtain ⟨hsz, -⟩ := id hpre
  subst hsz
  obtain ⟨E, hh⟩ := EV.ofPre (⟨B.exec, B.bytes, hml, findClass_of_methodNamed B.named, atoms_spec (ws := wsX7_addNumber) B.pre⟩ : CallFix p m c cX7_addNumber 3 s _ wsX7_addNumber RX7) hpre
  have hx := E.1.1
  have hb := E.1.2.1
  have hown := E.1.2.2.2.1
  have hts := E.1.2.2.2.2
  have h_inX7 : ∀ w ∈ wsX70, w ∈ wsX7_addNumber := (fun _ h9 => (List.mem_cons_of_mem _ (List.mem_append_right _ h9)))
  have hl := lv_entry ([.ref (G.2.1 3), .int p1]) (n := 3) (Nat.le_of_ble_eq_true rfl)
  rw [lg_entry_eq]
  generalize (lg_sl ([.ref (G.2.1 3), .int p1]) ++ List.replicate (3 - (lg_sl ([.ref (G.2.1 3), .int p1])).length) Slot.unset).toArray = ls at hl ⊢
  have hl : lv_has ls 3 [(0, .ref (G.2.1 3)), (1, .int p1)] := hl
  unfold f_X7_addNumber at h
  refine lv_bipush (v := (24 : Int32)) hx hb dX7_addNumber_0 (by decide) ?_
  refine lv_istore_n (lv' := [(2, .int (24 : Int32)), (0, .ref (G.2.1 3)), (1, .int p1)]) hx hb dX7_addNumber_2 rfl hl (by decide) rfl (fun ls hl => ?_)
  exact w_X7_addNumber_3 E hr hlocks  FU _ _ _ _ _ _ h hh (lv_sub hl [1, 2, 0] rfl)
def f_X7_byteAt (σ : St) (p1 : Int32) (Q : Int32 → St → Prop) : Prop :=
  ((p1 < 0 → Q (-1 : Int32) σ) ∧ (¬ p1 < 0 → (((gi σ 4) ≤ p1 → Q (-1 : Int32) σ) ∧ (¬ (gi σ 4) ≤ p1 → ((p1 < (200 : Int32) → (vp_in p1 200 ∧ Q (ga σ 13 p1.toNatClampNeg) σ)) ∧ (¬ p1 < (200 : Int32) → Q (-1 : Int32) σ))))))
set_option maxHeartbeats 4000000 in
set_option maxRecDepth 100000 in
theorem c_X7_byteAt (l : Launch) (G : GG) (σ : St) (sz : Nat) (p1 : Int32) (Q : Int32 → St → Prop) (h : f_X7_byteAt σ p1 Q) : CTi l yX7_byteAt wsX7_byteAt ({ frames := 0, cells := 0, slots := 0, locals := 0 }) [.ref (G.2.1 3), .int p1] G σ sz Q := by
  refine Met.ofW (cc := cX7_byteAt) (maxL := 2) (ret := (some .int)) (by decide) rfl ?_
  intro p e s m args below meth c s₁ B hml hv
  obtain ⟨rfl, hpre⟩ := hv
  have hr := B.returns
  have hlocks := B.notSynchronized
  obtain ⟨hsz, -⟩ := id hpre
  subst hsz
  obtain ⟨E, hh⟩ := EV.ofPre (⟨B.exec, B.bytes, hml, findClass_of_methodNamed B.named, atoms_spec (ws := wsX7_byteAt) B.pre⟩ : CallFix p m c cX7_byteAt 2 s _ wsX7_byteAt RX7) hpre
  have hx := E.1.1
  have hb := E.1.2.1
  have hown := E.1.2.2.2.1
  have hts := E.1.2.2.2.2
  have h_inX7 : ∀ w ∈ wsX70, w ∈ wsX7_byteAt := (fun _ h9 => (List.mem_cons_of_mem _ (List.mem_append_right _ h9)))
  have hl := lv_entry ([.ref (G.2.1 3), .int p1]) (n := 2) (Nat.le_of_ble_eq_true rfl)
  rw [lg_entry_eq]
  generalize (lg_sl ([.ref (G.2.1 3), .int p1]) ++ List.replicate (2 - (lg_sl ([.ref (G.2.1 3), .int p1])).length) Slot.unset).toArray = ls at hl ⊢
  have hl : lv_has ls 2 [(0, .ref (G.2.1 3)), (1, .int p1)] := hl
  unfold f_X7_byteAt at h
  refine lv_iload_n hx hb dX7_byteAt_0 rfl (lv_at hl 1 rfl) ?_
  refine lv_if_lt (tgt := 19) hx hb dX7_byteAt_1 (by decide) (fun c9 => ?_) (fun c9 => ?_)
  · have h := h.1 c9
    refine lv_iconst (v := (-1 : Int32)) hx hb dX7_byteAt_19 (by decide) ?_
    refine lv_goto (tgt := 29) hx hb dX7_byteAt_20 (by decide) ?_
    exact q_iret E hh hr hlocks h dX7_byteAt_29
  · have h := h.2 c9
    refine lv_iload_n hx hb dX7_byteAt_4 rfl (lv_at hl 1 rfl) ?_
    refine lv_aload_n hx hb dX7_byteAt_5 rfl (lv_at hl 0 rfl) ?_
    refine q_get (T := TX7) (v := .int (gi σ 4)) E hh h_inX7 3 (WW_at_3 G σ) rfl 3 (by decide) (List.mem_cons_of_mem _ (List.mem_append_left _ (List.mem_of_getElem? (i := 0) rfl))) rfl rfl dX7_byteAt_6 ?_
    refine lv_icmp_ge (tgt := 19) hx hb dX7_byteAt_9 (by decide) (fun c9 => ?_) (fun c9 => ?_)
    · have h := h.1 c9
      refine lv_iconst (v := (-1 : Int32)) hx hb dX7_byteAt_19 (by decide) ?_
      refine lv_goto (tgt := 29) hx hb dX7_byteAt_20 (by decide) ?_
      exact q_iret E hh hr hlocks h dX7_byteAt_29
    · have h := h.2 c9
      refine lv_iload_n hx hb dX7_byteAt_12 rfl (lv_at hl 1 rfl) ?_
      refine lv_sipush (v := (200 : Int32)) hx hb dX7_byteAt_13 (by decide) ?_
      refine lv_icmp_lt (tgt := 23) hx hb dX7_byteAt_16 (by decide) (fun c9 => ?_) (fun c9 => ?_)
      · have h := h.1 c9
        refine lv_aload_n hx hb dX7_byteAt_23 rfl (lv_at hl 0 rfl) ?_
        refine q_get (T := TX7) (v := .ref (G.2.1 13)) E hh h_inX7 3 (WW_at_3 G σ) rfl 0 (by decide) (List.mem_cons_of_mem _ (List.mem_append_left _ (List.mem_of_getElem? (i := 1) rfl))) rfl rfl dX7_byteAt_24 ?_
        refine lv_iload_n hx hb dX7_byteAt_27 rfl (lv_at hl 1 rfl) ?_
        obtain ⟨h0, h⟩ := h
        refine q_iald E hh 13 (WW_at_13 G σ) h0 dX7_byteAt_28 ?_
        exact q_iret E hh hr hlocks h dX7_byteAt_29
      · have h := h.2 c9
        refine lv_iconst (v := (-1 : Int32)) hx hb dX7_byteAt_19 (by decide) ?_
        refine lv_goto (tgt := 29) hx hb dX7_byteAt_20 (by decide) ?_
        exact q_iret E hh hr hlocks h dX7_byteAt_29
def f_X7_skipBlanks_0 (Q : St → Prop)  (rec : St → Prop) (σ : St)  : Prop :=
  (((gi σ 4) ≤ (gi σ 5) → Q σ) ∧ (¬ (gi σ 4) ≤ (gi σ 5) → f_X7_byteAt σ (gi σ 5) (fun r16 s16 => ((¬ r16 = (32 : Int32) → Q s16) ∧ (r16 = (32 : Int32) → rec (si s16 5 ((gi s16 5) + (1 : Int32))))))))
def f_X7_skipBlanks_0L (Q : St → Prop)  : Nat → St → Prop
  | 0, _ => False
  | n + 1, σ => f_X7_skipBlanks_0 Q  (f_X7_skipBlanks_0L Q  n) σ 
set_option maxHeartbeats 4000000 in
set_option maxRecDepth 100000 in
theorem w_X7_skipBlanks_0 {p : Program} {l : Launch} {e : Env} {s : State} {m : MethodId} {args : Array Value} {below : List Frame} {meth : Method} {c : Code} {G : GG} (E : EV p s m args c cX7_skipBlanks 1 wsX7_skipBlanks RX7 G (AD G s.heap.size)) (hr : meth.sig.returnType = none) (hlocks : meth.locks = false) {Q : St → Prop}  : ∀ (n : Nat) (σ : St)  (H : Heap) (locs : List Loc) (ls : Array Slot), f_X7_skipBlanks_0L Q  n σ  → HH G (AD G s.heap.size) s σ H locs → lv_has ls 1 [(0, .ref (G.2.1 3))] → W p l e ({ frames := 1, cells := 0, slots := 0, locals := 21 }) s m args below meth c H locs 0 0 (MQv below G args s Q) (F0 m 0 ls []) := by
  have hx := E.1.1
  have hb := E.1.2.1
  have hown := E.1.2.2.2.1
  have hts := E.1.2.2.2.2
  have h_inX7 : ∀ w ∈ wsX70, w ∈ wsX7_skipBlanks := (fun _ h9 => (List.mem_cons_of_mem _ (List.mem_append_right _ h9)))
  intro n
  induction n with
  | zero =>
    intro σ  H locs ls h
    exact h.elim
  | succ n ih =>
    intro σ  H locs ls h hh hl
    have h : f_X7_skipBlanks_0 Q  (f_X7_skipBlanks_0L Q  n) σ  := h
    unfold f_X7_skipBlanks_0 at h
    refine lv_aload_n hx hb dX7_skipBlanks_0 rfl (lv_at hl 0 rfl) ?_
    refine q_get (T := TX7) (v := .int (gi σ 5)) E hh h_inX7 3 (WW_at_3 G σ) rfl 4 (by decide) (List.mem_cons_of_mem _ (List.mem_append_left _ (List.mem_of_getElem? (i := 0) rfl))) rfl rfl dX7_skipBlanks_1 ?_
    refine lv_aload_n hx hb dX7_skipBlanks_4 rfl (lv_at hl 0 rfl) ?_
    refine q_get (T := TX7) (v := .int (gi σ 4)) E hh h_inX7 3 (WW_at_3 G σ) rfl 3 (by decide) (List.mem_cons_of_mem _ (List.mem_append_left _ (List.mem_of_getElem? (i := 1) rfl))) rfl rfl dX7_skipBlanks_5 ?_
    refine lv_icmp_ge (tgt := 37) hx hb dX7_skipBlanks_8 (by decide) (fun c9 => ?_) (fun c9 => ?_)
    · have h := h.1 c9
      exact q_vret E hh hr hlocks h dX7_skipBlanks_37
    · have h := h.2 c9
      refine lv_aload_n hx hb dX7_skipBlanks_11 rfl (lv_at hl 0 rfl) ?_
      refine lv_aload_n hx hb dX7_skipBlanks_12 rfl (lv_at hl 0 rfl) ?_
      refine q_get (T := TX7) (v := .int (gi σ 5)) E hh h_inX7 3 (WW_at_3 G σ) rfl 4 (by decide) (List.mem_cons_of_mem _ (List.mem_append_left _ (List.mem_of_getElem? (i := 0) rfl))) rfl rfl dX7_skipBlanks_13 ?_
      refine q_Vi (As := [.int (gi σ 5)]) (rest := []) E hh (c_X7_byteAt l G _ _ _ _ h) (cwV 1 hts gX7_skipBlanks_X7_byteAt rfl rfl rfl (by decide +kernel) ⟨Nat.le_of_ble_eq_true rfl, Nat.le_of_ble_eq_true rfl⟩) (va_recv (ci := 7) E.2.1 hh.1 rfl (WW_at_3 G σ)) rfl hl.1 rfl (Nat.le_of_ble_eq_true rfl) dX7_skipBlanks_16 ⟨Nat.zero_le _, Nat.zero_le _⟩ (fun r16 s16 H locs h hh => ?_)
      refine lv_bipush (v := (32 : Int32)) hx hb dX7_skipBlanks_19 (by decide) ?_
      refine lv_icmp_ne (tgt := 37) hx hb dX7_skipBlanks_21 (by decide) (fun c9 => ?_) (fun c9 => ?_)
      · have h := h.1 c9
        exact q_vret E hh hr hlocks h dX7_skipBlanks_37
      · have h := h.2 c9
        refine lv_aload_n hx hb dX7_skipBlanks_24 rfl (lv_at hl 0 rfl) ?_
        refine lv_dup hx hb dX7_skipBlanks_25 rfl ?_
        refine q_get (T := TX7) (v := .int (gi s16 5)) E hh h_inX7 3 (WW_at_3 G s16) rfl 4 (by decide) (List.mem_cons_of_mem _ (List.mem_append_left _ (List.mem_of_getElem? (i := 0) rfl))) rfl rfl dX7_skipBlanks_26 ?_
        refine lv_iconst (v := (1 : Int32)) hx hb dX7_skipBlanks_29 (by decide) ?_
        refine lv_iadd hx hb dX7_skipBlanks_30 ?_
        refine q_put (T := TX7) E hh h_inX7 tyX7 tyX7_ok nmX7 3 (WW_at_3 G s16) rfl 4 (by decide) (List.mem_cons_of_mem _ (List.mem_append_left _ (List.mem_of_getElem? (i := 0) rfl))) rfl rfl (by decide +kernel) (Nat.le_of_ble_eq_true rfl) dX7_skipBlanks_31 (WW_si_5 G s16 ((gi s16 5) + (1 : Int32))) (fun H locs hh => ?_)
        refine lv_goto (tgt := 0) hx hb dX7_skipBlanks_34 (by decide) ?_
        exact ih _ _ _ _ h hh (lv_sub hl [0] rfl)
def f_X7_skipBlanks (σ : St)  (Q : St → Prop) : Prop :=
  f_X7_skipBlanks_0L Q FU σ
set_option maxHeartbeats 4000000 in
set_option maxRecDepth 100000 in
theorem c_X7_skipBlanks (l : Launch) (G : GG) (σ : St) (sz : Nat)  (Q : St → Prop) (h : f_X7_skipBlanks σ  Q) : CTv l yX7_skipBlanks wsX7_skipBlanks ({ frames := 1, cells := 0, slots := 0, locals := 21 }) [.ref (G.2.1 3)] G σ sz Q := by
  refine Met.ofW (cc := cX7_skipBlanks) (maxL := 1) (ret := none) (by decide) rfl ?_
  intro p e s m args below meth c s₁ B hml hv
  obtain ⟨rfl, hpre⟩ := hv
  have hr := B.returns
  have hlocks := B.notSynchronized
  obtain ⟨hsz, -⟩ := id hpre
  subst hsz
  obtain ⟨E, hh⟩ := EV.ofPre (⟨B.exec, B.bytes, hml, findClass_of_methodNamed B.named, atoms_spec (ws := wsX7_skipBlanks) B.pre⟩ : CallFix p m c cX7_skipBlanks 1 s _ wsX7_skipBlanks RX7) hpre
  have hx := E.1.1
  have hb := E.1.2.1
  have hown := E.1.2.2.2.1
  have hts := E.1.2.2.2.2
  have h_inX7 : ∀ w ∈ wsX70, w ∈ wsX7_skipBlanks := (fun _ h9 => (List.mem_cons_of_mem _ (List.mem_append_right _ h9)))
  have hl := lv_entry ([.ref (G.2.1 3)]) (n := 1) (Nat.le_of_ble_eq_true rfl)
  rw [lg_entry_eq]
  generalize (lg_sl ([.ref (G.2.1 3)]) ++ List.replicate (1 - (lg_sl ([.ref (G.2.1 3)])).length) Slot.unset).toArray = ls at hl ⊢
  have hl : lv_has ls 1 [(0, .ref (G.2.1 3))] := hl
  unfold f_X7_skipBlanks at h
  exact w_X7_skipBlanks_0 E hr hlocks  FU _ _ _ _ h hh (lv_sub hl [0] rfl)
def f_X7_readWord_9 (Q : Int32 → St → Prop)  (rec : St → Int32 → Prop) (σ : St) (l1 : Int32) : Prop :=
  (((gi σ 4) ≤ (gi σ 5) → Q l1 σ) ∧ (¬ (gi σ 4) ≤ (gi σ 5) → f_X7_byteAt σ (gi σ 5) (fun r25 s25 => ((r25 < (97 : Int32) → Q l1 s25) ∧ (¬ r25 < (97 : Int32) → f_X7_byteAt s25 (gi s25 5) (fun r38 s38 => (((122 : Int32) < r38 → Q l1 s38) ∧ (¬ (122 : Int32) < r38 → rec (si s38 5 ((gi s38 5) + (1 : Int32))) l1))))))))
def f_X7_readWord_9L (Q : Int32 → St → Prop)  : Nat → St → Int32 → Prop
  | 0, _, _ => False
  | n + 1, σ, l1 => f_X7_readWord_9 Q  (f_X7_readWord_9L Q  n) σ l1
set_option maxHeartbeats 4000000 in
set_option maxRecDepth 100000 in
theorem w_X7_readWord_9 {p : Program} {l : Launch} {e : Env} {s : State} {m : MethodId} {args : Array Value} {below : List Frame} {meth : Method} {c : Code} {G : GG} (E : EV p s m args c cX7_readWord 2 wsX7_readWord RX7 G (AD G s.heap.size)) (hr : meth.sig.returnType = (some .int)) (hlocks : meth.locks = false) {Q : Int32 → St → Prop}  : ∀ (n : Nat) (σ : St) (l1 : Int32) (H : Heap) (locs : List Loc) (ls : Array Slot), f_X7_readWord_9L Q  n σ l1 → HH G (AD G s.heap.size) s σ H locs → lv_has ls 2 [(0, .ref (G.2.1 3)), (1, .int l1)] → W p l e ({ frames := 2, cells := 0, slots := 0, locals := 41 }) s m args below meth c H locs 0 0 (MQi below G args s Q) (F0 m 9 ls []) := by
  have hx := E.1.1
  have hb := E.1.2.1
  have hown := E.1.2.2.2.1
  have hts := E.1.2.2.2.2
  have h_inX7 : ∀ w ∈ wsX70, w ∈ wsX7_readWord := (fun _ h9 => (List.mem_cons_of_mem _ (List.mem_append_right _ h9)))
  intro n
  induction n with
  | zero =>
    intro σ l1 H locs ls h
    exact h.elim
  | succ n ih =>
    intro σ l1 H locs ls h hh hl
    have h : f_X7_readWord_9 Q  (f_X7_readWord_9L Q  n) σ l1 := h
    unfold f_X7_readWord_9 at h
    refine lv_aload_n hx hb dX7_readWord_9 rfl (lv_at hl 0 rfl) ?_
    refine q_get (T := TX7) (v := .int (gi σ 5)) E hh h_inX7 3 (WW_at_3 G σ) rfl 4 (by decide) (List.mem_cons_of_mem _ (List.mem_append_left _ (List.mem_of_getElem? (i := 0) rfl))) rfl rfl dX7_readWord_10 ?_
    refine lv_aload_n hx hb dX7_readWord_13 rfl (lv_at hl 0 rfl) ?_
    refine q_get (T := TX7) (v := .int (gi σ 4)) E hh h_inX7 3 (WW_at_3 G σ) rfl 3 (by decide) (List.mem_cons_of_mem _ (List.mem_append_left _ (List.mem_of_getElem? (i := 1) rfl))) rfl rfl dX7_readWord_14 ?_
    refine lv_icmp_ge (tgt := 59) hx hb dX7_readWord_17 (by decide) (fun c9 => ?_) (fun c9 => ?_)
    · have h := h.1 c9
      refine lv_iload_n hx hb dX7_readWord_59 rfl (lv_at hl 1 rfl) ?_
      exact q_iret E hh hr hlocks h dX7_readWord_60
    · have h := h.2 c9
      refine lv_aload_n hx hb dX7_readWord_20 rfl (lv_at hl 0 rfl) ?_
      refine lv_aload_n hx hb dX7_readWord_21 rfl (lv_at hl 0 rfl) ?_
      refine q_get (T := TX7) (v := .int (gi σ 5)) E hh h_inX7 3 (WW_at_3 G σ) rfl 4 (by decide) (List.mem_cons_of_mem _ (List.mem_append_left _ (List.mem_of_getElem? (i := 0) rfl))) rfl rfl dX7_readWord_22 ?_
      refine q_Vi (As := [.int (gi σ 5)]) (rest := []) E hh (c_X7_byteAt l G _ _ _ _ h) (cwV 1 hts gX7_readWord_X7_byteAt rfl rfl rfl (by decide +kernel) ⟨Nat.le_of_ble_eq_true rfl, Nat.le_of_ble_eq_true rfl⟩) (va_recv (ci := 7) E.2.1 hh.1 rfl (WW_at_3 G σ)) rfl hl.1 rfl (Nat.le_of_ble_eq_true rfl) dX7_readWord_25 ⟨Nat.zero_le _, Nat.zero_le _⟩ (fun r25 s25 H locs h hh => ?_)
      refine lv_bipush (v := (97 : Int32)) hx hb dX7_readWord_28 (by decide) ?_
      refine lv_icmp_lt (tgt := 59) hx hb dX7_readWord_30 (by decide) (fun c9 => ?_) (fun c9 => ?_)
      · have h := h.1 c9
        refine lv_iload_n hx hb dX7_readWord_59 rfl (lv_at hl 1 rfl) ?_
        exact q_iret E hh hr hlocks h dX7_readWord_60
      · have h := h.2 c9
        refine lv_aload_n hx hb dX7_readWord_33 rfl (lv_at hl 0 rfl) ?_
        refine lv_aload_n hx hb dX7_readWord_34 rfl (lv_at hl 0 rfl) ?_
        refine q_get (T := TX7) (v := .int (gi s25 5)) E hh h_inX7 3 (WW_at_3 G s25) rfl 4 (by decide) (List.mem_cons_of_mem _ (List.mem_append_left _ (List.mem_of_getElem? (i := 0) rfl))) rfl rfl dX7_readWord_35 ?_
        refine q_Vi (As := [.int (gi s25 5)]) (rest := []) E hh (c_X7_byteAt l G _ _ _ _ h) (cwV 1 hts gX7_readWord_X7_byteAt rfl rfl rfl (by decide +kernel) ⟨Nat.le_of_ble_eq_true rfl, Nat.le_of_ble_eq_true rfl⟩) (va_recv (ci := 7) E.2.1 hh.1 rfl (WW_at_3 G s25)) rfl hl.1 rfl (Nat.le_of_ble_eq_true rfl) dX7_readWord_38 ⟨Nat.zero_le _, Nat.zero_le _⟩ (fun r38 s38 H locs h hh => ?_)
        refine lv_bipush (v := (122 : Int32)) hx hb dX7_readWord_41 (by decide) ?_
        refine lv_icmp_gt (tgt := 59) hx hb dX7_readWord_43 (by decide) (fun c9 => ?_) (fun c9 => ?_)
        · have h := h.1 c9
          refine lv_iload_n hx hb dX7_readWord_59 rfl (lv_at hl 1 rfl) ?_
          exact q_iret E hh hr hlocks h dX7_readWord_60
        · have h := h.2 c9
          refine lv_aload_n hx hb dX7_readWord_46 rfl (lv_at hl 0 rfl) ?_
          refine lv_dup hx hb dX7_readWord_47 rfl ?_
          refine q_get (T := TX7) (v := .int (gi s38 5)) E hh h_inX7 3 (WW_at_3 G s38) rfl 4 (by decide) (List.mem_cons_of_mem _ (List.mem_append_left _ (List.mem_of_getElem? (i := 0) rfl))) rfl rfl dX7_readWord_48 ?_
          refine lv_iconst (v := (1 : Int32)) hx hb dX7_readWord_51 (by decide) ?_
          refine lv_iadd hx hb dX7_readWord_52 ?_
          refine q_put (T := TX7) E hh h_inX7 tyX7 tyX7_ok nmX7 3 (WW_at_3 G s38) rfl 4 (by decide) (List.mem_cons_of_mem _ (List.mem_append_left _ (List.mem_of_getElem? (i := 0) rfl))) rfl rfl (by decide +kernel) (Nat.le_of_ble_eq_true rfl) dX7_readWord_53 (WW_si_5 G s38 ((gi s38 5) + (1 : Int32))) (fun H locs hh => ?_)
          refine lv_goto (tgt := 9) hx hb dX7_readWord_56 (by decide) ?_
          exact ih _ _ _ _ _ h hh (lv_sub hl [0, 1] rfl)
def f_X7_readWord (σ : St)  (Q : Int32 → St → Prop) : Prop :=
  f_X7_skipBlanks σ (fun s1 => f_X7_readWord_9L Q FU s1 (gi s1 5))
set_option maxHeartbeats 4000000 in
set_option maxRecDepth 100000 in
theorem c_X7_readWord (l : Launch) (G : GG) (σ : St) (sz : Nat)  (Q : Int32 → St → Prop) (h : f_X7_readWord σ  Q) : CTi l yX7_readWord wsX7_readWord ({ frames := 2, cells := 0, slots := 0, locals := 41 }) [.ref (G.2.1 3)] G σ sz Q := by
  refine Met.ofW (cc := cX7_readWord) (maxL := 2) (ret := (some .int)) (by decide) rfl ?_
  intro p e s m args below meth c s₁ B hml hv
  obtain ⟨rfl, hpre⟩ := hv
  have hr := B.returns
  have hlocks := B.notSynchronized
  obtain ⟨hsz, -⟩ := id hpre
  subst hsz
  obtain ⟨E, hh⟩ := EV.ofPre (⟨B.exec, B.bytes, hml, findClass_of_methodNamed B.named, atoms_spec (ws := wsX7_readWord) B.pre⟩ : CallFix p m c cX7_readWord 2 s _ wsX7_readWord RX7) hpre
  have hx := E.1.1
  have hb := E.1.2.1
  have hown := E.1.2.2.2.1
  have hts := E.1.2.2.2.2
  have h_inX7 : ∀ w ∈ wsX70, w ∈ wsX7_readWord := (fun _ h9 => (List.mem_cons_of_mem _ (List.mem_append_right _ h9)))
  have hl := lv_entry ([.ref (G.2.1 3)]) (n := 2) (Nat.le_of_ble_eq_true rfl)
  rw [lg_entry_eq]
  generalize (lg_sl ([.ref (G.2.1 3)]) ++ List.replicate (2 - (lg_sl ([.ref (G.2.1 3)])).length) Slot.unset).toArray = ls at hl ⊢
  have hl : lv_has ls 2 [(0, .ref (G.2.1 3))] := hl
  unfold f_X7_readWord at h
  refine lv_aload_n hx hb dX7_readWord_0 rfl (lv_at hl 0 rfl) ?_
  refine q_Vv (As := []) (rest := []) E hh (c_X7_skipBlanks l G _ _  _ h) (cwV 0 hts gX7_readWord_X7_skipBlanks rfl rfl rfl (by decide +kernel) ⟨Nat.le_of_ble_eq_true rfl, Nat.le_of_ble_eq_true rfl⟩) (va_recv (ci := 7) E.2.1 hh.1 rfl (WW_at_3 G σ)) rfl hl.1 rfl (Nat.le_of_ble_eq_true rfl) dX7_readWord_1 ⟨Nat.zero_le _, Nat.zero_le _⟩ (fun s1 H locs h hh => ?_)
  refine lv_aload_n hx hb dX7_readWord_4 rfl (lv_at hl 0 rfl) ?_
  refine q_get (T := TX7) (v := .int (gi s1 5)) E hh h_inX7 3 (WW_at_3 G s1) rfl 4 (by decide) (List.mem_cons_of_mem _ (List.mem_append_left _ (List.mem_of_getElem? (i := 0) rfl))) rfl rfl dX7_readWord_5 ?_
  refine lv_istore_n (lv' := [(1, .int (gi s1 5)), (0, .ref (G.2.1 3))]) hx hb dX7_readWord_8 rfl hl (by decide) rfl (fun ls hl => ?_)
  exact w_X7_readWord_9 E hr hlocks  FU _ _ _ _ _ h hh (lv_sub hl [1, 0] rfl)
def f_X7_isWord_17 (Q : Int32 → St → Prop)  (rec : St → Int32 → Nat → Int32 → Prop) (σ : St) (l1 : Int32) (l2 : Nat) (l3 : Int32) : Prop :=
  (l2 < 7 ∧ f_J0_length_8abf5 σ l2 (fun r19 s19 => ((r19 ≤ l3 → Q (1 : Int32) s19) ∧ (¬ r19 ≤ l3 → f_X7_byteAt s19 (l1 + l3) (fun r29 s29 => (l2 < 7 ∧ f_J0_charAt_5068e s29 l2 l3 (fun r34 s34 => ((r29 = r34 → rec s34 l1 l2 (l3 + 1)) ∧ (¬ r29 = r34 → Q (0 : Int32) s34)))))))))
def f_X7_isWord_17L (Q : Int32 → St → Prop)  : Nat → St → Int32 → Nat → Int32 → Prop
  | 0, _, _, _, _ => False
  | n + 1, σ, l1, l2, l3 => f_X7_isWord_17 Q  (f_X7_isWord_17L Q  n) σ l1 l2 l3
set_option maxHeartbeats 4000000 in
set_option maxRecDepth 100000 in
theorem w_X7_isWord_17 {p : Program} {l : Launch} {e : Env} {s : State} {m : MethodId} {args : Array Value} {below : List Frame} {meth : Method} {c : Code} {G : GG} (E : EV p s m args c cX7_isWord 4 wsX7_isWord RX7 G (AD G s.heap.size)) (hr : meth.sig.returnType = (some .boolean)) (hlocks : meth.locks = false) {Q : Int32 → St → Prop}  : ∀ (n : Nat) (σ : St) (l1 : Int32) (l2 : Nat) (l3 : Int32) (H : Heap) (locs : List Loc) (ls : Array Slot), f_X7_isWord_17L Q  n σ l1 l2 l3 → HH G (AD G s.heap.size) s σ H locs → lv_has ls 4 [(0, .ref (G.2.1 3)), (1, .int l1), (2, .ref (G.2.2 (20 + l2))), (3, .int l3)] → W p l e ({ frames := 4, cells := 0, slots := 0, locals := 85 }) s m args below meth c H locs 0 0 (MQi below G args s Q) (F0 m 17 ls []) := by
  have hx := E.1.1
  have hb := E.1.2.1
  have hown := E.1.2.2.2.1
  have hts := E.1.2.2.2.2
  have h_inX7 : ∀ w ∈ wsX70, w ∈ wsX7_isWord := (fun _ h9 => (List.mem_cons_of_mem _ (List.mem_append_right _ h9)))
  intro n
  induction n with
  | zero =>
    intro σ l1 l2 l3 H locs ls h
    exact h.elim
  | succ n ih =>
    intro σ l1 l2 l3 H locs ls h hh hl
    have h : f_X7_isWord_17 Q  (f_X7_isWord_17L Q  n) σ l1 l2 l3 := h
    unfold f_X7_isWord_17 at h
    refine lv_iload_n hx hb dX7_isWord_17 rfl (lv_at hl 3 rfl) ?_
    refine lv_aload_n hx hb dX7_isWord_18 rfl (lv_at hl 2 rfl) ?_
    obtain ⟨h0, h⟩ := h
    refine q_Vi (As := []) (rest := [.int l3]) E hh (c_J0_length_8abf5 l G _ _ _ _ h) (cwV 0 hts gX7_isWord_J0_length_8abf5 rfl rfl rfl (by decide +kernel) ⟨Nat.le_of_ble_eq_true rfl, Nat.le_of_ble_eq_true rfl⟩) (vk_recv (adK := fun i => G.2.2 (20 + i)) (i := l2) E.2.2.2.1.2.2.2.2.2.2.2.1 h0 hh.2) rfl hl.1 rfl (Nat.le_of_ble_eq_true rfl) dX7_isWord_19 ⟨Nat.zero_le _, Nat.zero_le _⟩ (fun r19 s19 H locs h hh => ?_)
    refine lv_icmp_ge (tgt := 48) hx hb dX7_isWord_22 (by decide) (fun c9 => ?_) (fun c9 => ?_)
    · have h := h.1 c9
      refine lv_iconst (v := (1 : Int32)) hx hb dX7_isWord_48 (by decide) ?_
      exact q_zret (ty := .boolean) E hh hr hlocks rfl h dX7_isWord_49
    · have h := h.2 c9
      refine lv_aload_n hx hb dX7_isWord_25 rfl (lv_at hl 0 rfl) ?_
      refine lv_iload_n hx hb dX7_isWord_26 rfl (lv_at hl 1 rfl) ?_
      refine lv_iload_n hx hb dX7_isWord_27 rfl (lv_at hl 3 rfl) ?_
      refine lv_iadd hx hb dX7_isWord_28 ?_
      refine q_Vi (As := [.int (l1 + l3)]) (rest := []) E hh (c_X7_byteAt l G _ _ _ _ h) (cwV 1 hts gX7_isWord_X7_byteAt rfl rfl rfl (by decide +kernel) ⟨Nat.le_of_ble_eq_true rfl, Nat.le_of_ble_eq_true rfl⟩) (va_recv (ci := 7) E.2.1 hh.1 rfl (WW_at_3 G s19)) rfl hl.1 rfl (Nat.le_of_ble_eq_true rfl) dX7_isWord_29 ⟨Nat.zero_le _, Nat.zero_le _⟩ (fun r29 s29 H locs h hh => ?_)
      refine lv_aload_n hx hb dX7_isWord_32 rfl (lv_at hl 2 rfl) ?_
      refine lv_iload_n hx hb dX7_isWord_33 rfl (lv_at hl 3 rfl) ?_
      obtain ⟨h0, h⟩ := h
      refine q_Vi (As := [.int l3]) (rest := [.int r29]) E hh (c_J0_charAt_5068e l G _ _ _ _ _ h) (cwV 1 hts gX7_isWord_J0_charAt_5068e rfl rfl rfl (by decide +kernel) ⟨Nat.le_of_ble_eq_true rfl, Nat.le_of_ble_eq_true rfl⟩) (vk_recv (adK := fun i => G.2.2 (20 + i)) (i := l2) E.2.2.2.1.2.2.2.2.2.2.2.1 h0 hh.2) rfl hl.1 rfl (Nat.le_of_ble_eq_true rfl) dX7_isWord_34 ⟨Nat.zero_le _, Nat.zero_le _⟩ (fun r34 s34 H locs h hh => ?_)
      refine lv_icmp_eq (tgt := 42) hx hb dX7_isWord_37 (by decide) (fun c9 => ?_) (fun c9 => ?_)
      · have h := h.1 c9
        refine lv_iinc (v := (l3 + 1)) (lv' := [(3, .int (l3 + 1)), (0, .ref (G.2.1 3)), (1, .int l1), (2, .ref (G.2.2 (20 + l2)))]) hx hb dX7_isWord_42 hl (k := 3) rfl rfl (by decide) rfl (fun ls hl => ?_)
        refine lv_goto (tgt := 17) hx hb dX7_isWord_45 (by decide) ?_
        exact ih _ _ _ _ _ _ _ h hh (lv_sub hl [1, 2, 3, 0] rfl)
      · have h := h.2 c9
        refine lv_iconst (v := (0 : Int32)) hx hb dX7_isWord_40 (by decide) ?_
        exact q_zret (ty := .boolean) E hh hr hlocks rfl h dX7_isWord_41
def f_X7_isWord (σ : St) (p1 : Int32) (p2 : Nat) (Q : Int32 → St → Prop) : Prop :=
  (p2 < 7 ∧ f_J0_length_8abf5 σ p2 (fun r7 s7 => ((((gi σ 5) - p1) = r7 → f_X7_isWord_17L Q FU s7 p1 p2 (0 : Int32)) ∧ (¬ ((gi σ 5) - p1) = r7 → Q (0 : Int32) s7))))
set_option maxHeartbeats 4000000 in
set_option maxRecDepth 100000 in
theorem c_X7_isWord (l : Launch) (G : GG) (σ : St) (sz : Nat) (p1 : Int32) (p2 : Nat) (Q : Int32 → St → Prop) (h : f_X7_isWord σ p1 p2 Q) : CTi l yX7_isWord wsX7_isWord ({ frames := 4, cells := 0, slots := 0, locals := 85 }) [.ref (G.2.1 3), .int p1, .ref (G.2.2 (20 + p2))] G σ sz Q := by
  refine Met.ofW (cc := cX7_isWord) (maxL := 4) (ret := (some .boolean)) (by decide) rfl ?_
  intro p e s m args below meth c s₁ B hml hv
  obtain ⟨rfl, hpre⟩ := hv
  have hr := B.returns
  have hlocks := B.notSynchronized
  obtain ⟨hsz, -⟩ := id hpre
  subst hsz
  obtain ⟨E, hh⟩ := EV.ofPre (⟨B.exec, B.bytes, hml, findClass_of_methodNamed B.named, atoms_spec (ws := wsX7_isWord) B.pre⟩ : CallFix p m c cX7_isWord 4 s _ wsX7_isWord RX7) hpre
  have hx := E.1.1
  have hb := E.1.2.1
  have hown := E.1.2.2.2.1
  have hts := E.1.2.2.2.2
  have h_inX7 : ∀ w ∈ wsX70, w ∈ wsX7_isWord := (fun _ h9 => (List.mem_cons_of_mem _ (List.mem_append_right _ h9)))
  have hl := lv_entry ([.ref (G.2.1 3), .int p1, .ref (G.2.2 (20 + p2))]) (n := 4) (Nat.le_of_ble_eq_true rfl)
  rw [lg_entry_eq]
  generalize (lg_sl ([.ref (G.2.1 3), .int p1, .ref (G.2.2 (20 + p2))]) ++ List.replicate (4 - (lg_sl ([.ref (G.2.1 3), .int p1, .ref (G.2.2 (20 + p2))])).length) Slot.unset).toArray = ls at hl ⊢
  have hl : lv_has ls 4 [(0, .ref (G.2.1 3)), (1, .int p1), (2, .ref (G.2.2 (20 + p2)))] := hl
  unfold f_X7_isWord at h
  refine lv_aload_n hx hb dX7_isWord_0 rfl (lv_at hl 0 rfl) ?_
  refine q_get (T := TX7) (v := .int (gi σ 5)) E hh h_inX7 3 (WW_at_3 G σ) rfl 4 (by decide) (List.mem_cons_of_mem _ (List.mem_append_left _ (List.mem_append_left _ (List.mem_of_getElem? (i := 0) rfl)))) rfl rfl dX7_isWord_1 ?_
  refine lv_iload_n hx hb dX7_isWord_4 rfl (lv_at hl 1 rfl) ?_
  refine lv_isub hx hb dX7_isWord_5 ?_
  refine lv_aload_n hx hb dX7_isWord_6 rfl (lv_at hl 2 rfl) ?_
  obtain ⟨h0, h⟩ := h
  refine q_Vi (As := []) (rest := [.int ((gi σ 5) - p1)]) E hh (c_J0_length_8abf5 l G _ _ _ _ h) (cwV 0 hts gX7_isWord_J0_length_8abf5 rfl rfl rfl (by decide +kernel) ⟨Nat.le_of_ble_eq_true rfl, Nat.le_of_ble_eq_true rfl⟩) (vk_recv (adK := fun i => G.2.2 (20 + i)) (i := p2) E.2.2.2.1.2.2.2.2.2.2.2.1 h0 hh.2) rfl hl.1 rfl (Nat.le_of_ble_eq_true rfl) dX7_isWord_7 ⟨Nat.zero_le _, Nat.zero_le _⟩ (fun r7 s7 H locs h hh => ?_)
  refine lv_icmp_eq (tgt := 15) hx hb dX7_isWord_10 (by decide) (fun c9 => ?_) (fun c9 => ?_)
  · have h := h.1 c9
    refine lv_iconst (v := (0 : Int32)) hx hb dX7_isWord_15 (by decide) ?_
    refine lv_istore_n (lv' := [(3, .int (0 : Int32)), (0, .ref (G.2.1 3)), (1, .int p1), (2, .ref (G.2.2 (20 + p2)))]) hx hb dX7_isWord_16 rfl hl (by decide) rfl (fun ls hl => ?_)
    exact w_X7_isWord_17 E hr hlocks  FU _ _ _ _ _ _ _ h hh (lv_sub hl [1, 2, 3, 0] rfl)
  · have h := h.2 c9
    refine lv_iconst (v := (0 : Int32)) hx hb dX7_isWord_13 (by decide) ?_
    exact q_zret (ty := .boolean) E hh hr hlocks rfl h dX7_isWord_14
def f_X7_refuse (σ : St) (p1 : Int32) (p2 : Int32) (Q : Int32 → St → Prop) : Prop :=
  Q (0 : Int32) (si (si σ 6 p1) 7 p2)
set_option maxHeartbeats 4000000 in
set_option maxRecDepth 100000 in
theorem c_X7_refuse (l : Launch) (G : GG) (σ : St) (sz : Nat) (p1 : Int32) (p2 : Int32) (Q : Int32 → St → Prop) (h : f_X7_refuse σ p1 p2 Q) : CTi l yX7_refuse wsX7_refuse ({ frames := 0, cells := 0, slots := 0, locals := 0 }) [.ref (G.2.1 3), .int p1, .int p2] G σ sz Q := by
  refine Met.ofW (cc := cX7_refuse) (maxL := 3) (ret := (some .boolean)) (by decide) rfl ?_
  intro p e s m args below meth c s₁ B hml hv
  obtain ⟨rfl, hpre⟩ := hv
  have hr := B.returns
  have hlocks := B.notSynchronized
  obtain ⟨hsz, -⟩ := id hpre
  subst hsz
  obtain ⟨E, hh⟩ := EV.ofPre (⟨B.exec, B.bytes, hml, findClass_of_methodNamed B.named, atoms_spec (ws := wsX7_refuse) B.pre⟩ : CallFix p m c cX7_refuse 3 s _ wsX7_refuse RX7) hpre
  have hx := E.1.1
  have hb := E.1.2.1
  have hown := E.1.2.2.2.1
  have hts := E.1.2.2.2.2
  have h_inX7 : ∀ w ∈ wsX70, w ∈ wsX7_refuse := (fun _ h9 => (List.mem_cons_of_mem _ (List.mem_append_right _ h9)))
  have hl := lv_entry ([.ref (G.2.1 3), .int p1, .int p2]) (n := 3) (Nat.le_of_ble_eq_true rfl)
  rw [lg_entry_eq]
  generalize (lg_sl ([.ref (G.2.1 3), .int p1, .int p2]) ++ List.replicate (3 - (lg_sl ([.ref (G.2.1 3), .int p1, .int p2])).length) Slot.unset).toArray = ls at hl ⊢
  have hl : lv_has ls 3 [(0, .ref (G.2.1 3)), (1, .int p1), (2, .int p2)] := hl
  unfold f_X7_refuse at h
  refine lv_aload_n hx hb dX7_refuse_0 rfl (lv_at hl 0 rfl) ?_
  refine lv_iload_n hx hb dX7_refuse_1 rfl (lv_at hl 1 rfl) ?_
  refine q_put (T := TX7) E hh h_inX7 tyX7 tyX7_ok nmX7 3 (WW_at_3 G σ) rfl 5 (by decide) (List.mem_cons_of_mem _ (List.mem_append_left _ (List.mem_of_getElem? (i := 0) rfl))) rfl rfl (by decide +kernel) (Nat.le_of_ble_eq_true rfl) dX7_refuse_2 (WW_si_6 G σ p1) (fun H locs hh => ?_)
  refine lv_aload_n hx hb dX7_refuse_5 rfl (lv_at hl 0 rfl) ?_
  refine lv_iload_n hx hb dX7_refuse_6 rfl (lv_at hl 2 rfl) ?_
  refine q_put (T := TX7) E hh h_inX7 tyX7 tyX7_ok nmX7 3 (WW_at_3 G (si σ 6 p1)) rfl 6 (by decide) (List.mem_cons_of_mem _ (List.mem_append_left _ (List.mem_of_getElem? (i := 1) rfl))) rfl rfl (by decide +kernel) (Nat.le_of_ble_eq_true rfl) dX7_refuse_7 (WW_si_7 G (si σ 6 p1) p2) (fun H locs hh => ?_)
  refine lv_iconst (v := (0 : Int32)) hx hb dX7_refuse_10 (by decide) ?_
  exact q_zret (ty := .boolean) E hh hr hlocks rfl h dX7_refuse_11
def f_X7_readNumber_84 (Q : Int32 → St → Prop)  (σ : St) (l1 : Int32) (l2 : Int32) : Prop :=
  ((¬ (gi σ 5) = l1 → ((l2 ≤ (5000 : Int32) → Q l2 σ) ∧ (¬ l2 ≤ (5000 : Int32) → f_X7_refuse σ (2 : Int32) l1 (fun r111 s111 => Q (-1 : Int32) s111)))) ∧ ((gi σ 5) = l1 → f_X7_refuse σ (1 : Int32) l1 (fun r95 s95 => Q (-1 : Int32) s95)))
set_option maxHeartbeats 4000000 in
set_option maxRecDepth 100000 in
theorem w_X7_readNumber_84 {p : Program} {l : Launch} {e : Env} {s : State} {m : MethodId} {args : Array Value} {below : List Frame} {meth : Method} {c : Code} {G : GG} (E : EV p s m args c cX7_readNumber 3 wsX7_readNumber RX7 G (AD G s.heap.size)) (hr : meth.sig.returnType = (some .int)) (hlocks : meth.locks = false) {Q : Int32 → St → Prop}  : ∀ (σ : St) (l1 : Int32) (l2 : Int32) (H : Heap) (locs : List Loc) (ls : Array Slot), f_X7_readNumber_84 Q  σ l1 l2 → HH G (AD G s.heap.size) s σ H locs → lv_has ls 3 [(0, .ref (G.2.1 3)), (1, .int l1), (2, .int l2)] → W p l e ({ frames := 2, cells := 0, slots := 0, locals := 41 }) s m args below meth c H locs 0 0 (MQi below G args s Q) (F0 m 84 ls []) := by
  have hx := E.1.1
  have hb := E.1.2.1
  have hown := E.1.2.2.2.1
  have hts := E.1.2.2.2.2
  have h_inX7 : ∀ w ∈ wsX70, w ∈ wsX7_readNumber := (fun _ h9 => (List.mem_cons_of_mem _ (List.mem_append_right _ h9)))
  intro σ l1 l2 H locs ls h hh hl
  unfold f_X7_readNumber_84 at h
  refine lv_aload_n hx hb dX7_readNumber_84 rfl (lv_at hl 0 rfl) ?_
  refine q_get (T := TX7) (v := .int (gi σ 5)) E hh h_inX7 3 (WW_at_3 G σ) rfl 4 (by decide) (List.mem_cons_of_mem _ (List.mem_append_left _ (List.mem_of_getElem? (i := 0) rfl))) rfl rfl dX7_readNumber_85 ?_
  refine lv_iload_n hx hb dX7_readNumber_88 rfl (lv_at hl 1 rfl) ?_
  refine lv_icmp_ne (tgt := 101) hx hb dX7_readNumber_89 (by decide) (fun c9 => ?_) (fun c9 => ?_)
  · have h := h.1 c9
    refine lv_iload_n hx hb dX7_readNumber_101 rfl (lv_at hl 2 rfl) ?_
    refine lv_sipush (v := (5000 : Int32)) hx hb dX7_readNumber_102 (by decide) ?_
    refine lv_icmp_le (tgt := 117) hx hb dX7_readNumber_105 (by decide) (fun c9 => ?_) (fun c9 => ?_)
    · have h := h.1 c9
      refine lv_iload_n hx hb dX7_readNumber_117 rfl (lv_at hl 2 rfl) ?_
      exact q_iret E hh hr hlocks h dX7_readNumber_118
    · have h := h.2 c9
      refine lv_aload_n hx hb dX7_readNumber_108 rfl (lv_at hl 0 rfl) ?_
      refine lv_iconst (v := (2 : Int32)) hx hb dX7_readNumber_109 (by decide) ?_
      refine lv_iload_n hx hb dX7_readNumber_110 rfl (lv_at hl 1 rfl) ?_
      refine q_Vi (As := [.int (2 : Int32), .int l1]) (rest := []) E hh (c_X7_refuse l G _ _ _ _ _ h) (cwV 2 hts gX7_readNumber_X7_refuse rfl rfl rfl (by decide +kernel) ⟨Nat.le_of_ble_eq_true rfl, Nat.le_of_ble_eq_true rfl⟩) (va_recv (ci := 7) E.2.1 hh.1 rfl (WW_at_3 G σ)) rfl hl.1 rfl (Nat.le_of_ble_eq_true rfl) dX7_readNumber_111 ⟨Nat.zero_le _, Nat.zero_le _⟩ (fun r111 s111 H locs h hh => ?_)
      refine lv_pop hx hb dX7_readNumber_114 rfl ?_
      refine lv_iconst (v := (-1 : Int32)) hx hb dX7_readNumber_115 (by decide) ?_
      exact q_iret E hh hr hlocks h dX7_readNumber_116
  · have h := h.2 c9
    refine lv_aload_n hx hb dX7_readNumber_92 rfl (lv_at hl 0 rfl) ?_
    refine lv_iconst (v := (1 : Int32)) hx hb dX7_readNumber_93 (by decide) ?_
    refine lv_iload_n hx hb dX7_readNumber_94 rfl (lv_at hl 1 rfl) ?_
    refine q_Vi (As := [.int (1 : Int32), .int l1]) (rest := []) E hh (c_X7_refuse l G _ _ _ _ _ h) (cwV 2 hts gX7_readNumber_X7_refuse rfl rfl rfl (by decide +kernel) ⟨Nat.le_of_ble_eq_true rfl, Nat.le_of_ble_eq_true rfl⟩) (va_recv (ci := 7) E.2.1 hh.1 rfl (WW_at_3 G σ)) rfl hl.1 rfl (Nat.le_of_ble_eq_true rfl) dX7_readNumber_95 ⟨Nat.zero_le _, Nat.zero_le _⟩ (fun r95 s95 H locs h hh => ?_)
    refine lv_pop hx hb dX7_readNumber_98 rfl ?_
    refine lv_iconst (v := (-1 : Int32)) hx hb dX7_readNumber_99 (by decide) ?_
    exact q_iret E hh hr hlocks h dX7_readNumber_100
def f_X7_readNumber_11 (Q : Int32 → St → Prop)  (rec : St → Int32 → Int32 → Prop) (σ : St) (l1 : Int32) (l2 : Int32) : Prop :=
  (((gi σ 4) ≤ (gi σ 5) → f_X7_readNumber_84 Q σ l1 l2) ∧ (¬ (gi σ 4) ≤ (gi σ 5) → f_X7_byteAt σ (gi σ 5) (fun r27 s27 => ((r27 < (48 : Int32) → f_X7_readNumber_84 Q s27 l1 l2) ∧ (¬ r27 < (48 : Int32) → f_X7_byteAt s27 (gi s27 5) (fun r40 s40 => (((57 : Int32) < r40 → f_X7_readNumber_84 Q s40 l1 l2) ∧ (¬ (57 : Int32) < r40 → f_X7_byteAt s40 (gi s40 5) (fun r60 s60 => rec (si s60 5 ((gi s60 5) + (1 : Int32))) l1 (if ((((10 : Int32) * l2) + r60) - (48 : Int32)) < (5001 : Int32) then ((((10 : Int32) * l2) + r60) - (48 : Int32)) else (5001 : Int32)))))))))))
def f_X7_readNumber_11L (Q : Int32 → St → Prop)  : Nat → St → Int32 → Int32 → Prop
  | 0, _, _, _ => False
  | n + 1, σ, l1, l2 => f_X7_readNumber_11 Q  (f_X7_readNumber_11L Q  n) σ l1 l2
set_option maxHeartbeats 4000000 in
set_option maxRecDepth 100000 in
theorem w_X7_readNumber_11 {p : Program} {l : Launch} {e : Env} {s : State} {m : MethodId} {args : Array Value} {below : List Frame} {meth : Method} {c : Code} {G : GG} (E : EV p s m args c cX7_readNumber 3 wsX7_readNumber RX7 G (AD G s.heap.size)) (hr : meth.sig.returnType = (some .int)) (hlocks : meth.locks = false) {Q : Int32 → St → Prop}  : ∀ (n : Nat) (σ : St) (l1 : Int32) (l2 : Int32) (H : Heap) (locs : List Loc) (ls : Array Slot), f_X7_readNumber_11L Q  n σ l1 l2 → HH G (AD G s.heap.size) s σ H locs → lv_has ls 3 [(0, .ref (G.2.1 3)), (1, .int l1), (2, .int l2)] → W p l e ({ frames := 2, cells := 0, slots := 0, locals := 41 }) s m args below meth c H locs 0 0 (MQi below G args s Q) (F0 m 11 ls []) := by
  have hx := E.1.1
  have hb := E.1.2.1
  have hown := E.1.2.2.2.1
  have hts := E.1.2.2.2.2
  have h_inX7 : ∀ w ∈ wsX70, w ∈ wsX7_readNumber := (fun _ h9 => (List.mem_cons_of_mem _ (List.mem_append_right _ h9)))
  intro n
  induction n with
  | zero =>
    intro σ l1 l2 H locs ls h
    exact h.elim
  | succ n ih =>
    intro σ l1 l2 H locs ls h hh hl
    have h : f_X7_readNumber_11 Q  (f_X7_readNumber_11L Q  n) σ l1 l2 := h
    unfold f_X7_readNumber_11 at h
    refine lv_aload_n hx hb dX7_readNumber_11 rfl (lv_at hl 0 rfl) ?_
    refine q_get (T := TX7) (v := .int (gi σ 5)) E hh h_inX7 3 (WW_at_3 G σ) rfl 4 (by decide) (List.mem_cons_of_mem _ (List.mem_append_left _ (List.mem_of_getElem? (i := 0) rfl))) rfl rfl dX7_readNumber_12 ?_
    refine lv_aload_n hx hb dX7_readNumber_15 rfl (lv_at hl 0 rfl) ?_
    refine q_get (T := TX7) (v := .int (gi σ 4)) E hh h_inX7 3 (WW_at_3 G σ) rfl 3 (by decide) (List.mem_cons_of_mem _ (List.mem_append_left _ (List.mem_of_getElem? (i := 1) rfl))) rfl rfl dX7_readNumber_16 ?_
    refine lv_icmp_ge (tgt := 84) hx hb dX7_readNumber_19 (by decide) (fun c9 => ?_) (fun c9 => ?_)
    · have h := h.1 c9
      exact w_X7_readNumber_84 E hr hlocks  _ _ _ _ _ _ h hh (lv_sub hl [0, 1, 2] rfl)
    · have h := h.2 c9
      refine lv_aload_n hx hb dX7_readNumber_22 rfl (lv_at hl 0 rfl) ?_
      refine lv_aload_n hx hb dX7_readNumber_23 rfl (lv_at hl 0 rfl) ?_
      refine q_get (T := TX7) (v := .int (gi σ 5)) E hh h_inX7 3 (WW_at_3 G σ) rfl 4 (by decide) (List.mem_cons_of_mem _ (List.mem_append_left _ (List.mem_of_getElem? (i := 0) rfl))) rfl rfl dX7_readNumber_24 ?_
      refine q_Vi (As := [.int (gi σ 5)]) (rest := []) E hh (c_X7_byteAt l G _ _ _ _ h) (cwV 1 hts gX7_readNumber_X7_byteAt rfl rfl rfl (by decide +kernel) ⟨Nat.le_of_ble_eq_true rfl, Nat.le_of_ble_eq_true rfl⟩) (va_recv (ci := 7) E.2.1 hh.1 rfl (WW_at_3 G σ)) rfl hl.1 rfl (Nat.le_of_ble_eq_true rfl) dX7_readNumber_27 ⟨Nat.zero_le _, Nat.zero_le _⟩ (fun r27 s27 H locs h hh => ?_)
      refine lv_bipush (v := (48 : Int32)) hx hb dX7_readNumber_30 (by decide) ?_
      refine lv_icmp_lt (tgt := 84) hx hb dX7_readNumber_32 (by decide) (fun c9 => ?_) (fun c9 => ?_)
      · have h := h.1 c9
        exact w_X7_readNumber_84 E hr hlocks  _ _ _ _ _ _ h hh (lv_sub hl [0, 1, 2] rfl)
      · have h := h.2 c9
        refine lv_aload_n hx hb dX7_readNumber_35 rfl (lv_at hl 0 rfl) ?_
        refine lv_aload_n hx hb dX7_readNumber_36 rfl (lv_at hl 0 rfl) ?_
        refine q_get (T := TX7) (v := .int (gi s27 5)) E hh h_inX7 3 (WW_at_3 G s27) rfl 4 (by decide) (List.mem_cons_of_mem _ (List.mem_append_left _ (List.mem_of_getElem? (i := 0) rfl))) rfl rfl dX7_readNumber_37 ?_
        refine q_Vi (As := [.int (gi s27 5)]) (rest := []) E hh (c_X7_byteAt l G _ _ _ _ h) (cwV 1 hts gX7_readNumber_X7_byteAt rfl rfl rfl (by decide +kernel) ⟨Nat.le_of_ble_eq_true rfl, Nat.le_of_ble_eq_true rfl⟩) (va_recv (ci := 7) E.2.1 hh.1 rfl (WW_at_3 G s27)) rfl hl.1 rfl (Nat.le_of_ble_eq_true rfl) dX7_readNumber_40 ⟨Nat.zero_le _, Nat.zero_le _⟩ (fun r40 s40 H locs h hh => ?_)
        refine lv_bipush (v := (57 : Int32)) hx hb dX7_readNumber_43 (by decide) ?_
        refine lv_icmp_gt (tgt := 84) hx hb dX7_readNumber_45 (by decide) (fun c9 => ?_) (fun c9 => ?_)
        · have h := h.1 c9
          exact w_X7_readNumber_84 E hr hlocks  _ _ _ _ _ _ h hh (lv_sub hl [0, 1, 2] rfl)
        · have h := h.2 c9
          refine lv_sipush (v := (5001 : Int32)) hx hb dX7_readNumber_48 (by decide) ?_
          refine lv_bipush (v := (10 : Int32)) hx hb dX7_readNumber_51 (by decide) ?_
          refine lv_iload_n hx hb dX7_readNumber_53 rfl (lv_at hl 2 rfl) ?_
          refine lv_imul hx hb dX7_readNumber_54 ?_
          refine lv_aload_n hx hb dX7_readNumber_55 rfl (lv_at hl 0 rfl) ?_
          refine lv_aload_n hx hb dX7_readNumber_56 rfl (lv_at hl 0 rfl) ?_
          refine q_get (T := TX7) (v := .int (gi s40 5)) E hh h_inX7 3 (WW_at_3 G s40) rfl 4 (by decide) (List.mem_cons_of_mem _ (List.mem_append_left _ (List.mem_of_getElem? (i := 0) rfl))) rfl rfl dX7_readNumber_57 ?_
          refine q_Vi (As := [.int (gi s40 5)]) (rest := [.int ((10 : Int32) * l2), .int (5001 : Int32)]) E hh (c_X7_byteAt l G _ _ _ _ h) (cwV 1 hts gX7_readNumber_X7_byteAt rfl rfl rfl (by decide +kernel) ⟨Nat.le_of_ble_eq_true rfl, Nat.le_of_ble_eq_true rfl⟩) (va_recv (ci := 7) E.2.1 hh.1 rfl (WW_at_3 G s40)) rfl hl.1 rfl (Nat.le_of_ble_eq_true rfl) dX7_readNumber_60 ⟨Nat.zero_le _, Nat.zero_le _⟩ (fun r60 s60 H locs h hh => ?_)
          refine lv_iadd hx hb dX7_readNumber_63 ?_
          refine lv_bipush (v := (48 : Int32)) hx hb dX7_readNumber_64 (by decide) ?_
          refine lv_isub hx hb dX7_readNumber_66 ?_
          refine va_mmin (own := RX7) hx hb (by rw [E.1.2.2.1]; exact hl.1.symm) hown (hts _ (List.mem_cons_of_mem _ (List.mem_append_left _ (List.mem_of_getElem? (i := 2) rfl)))) (hts _ (List.mem_cons_of_mem _ (List.mem_append_left _ (List.mem_of_getElem? (i := 3) rfl)))) (hts _ (List.mem_cons_of_mem _ (List.mem_append_left _ (List.mem_of_getElem? (i := 4) rfl)))) (hts _ (List.mem_cons_of_mem _ (List.mem_append_left _ (List.mem_of_getElem? (i := 5) rfl)))) (Nat.le_of_ble_eq_true rfl) (Nat.le_of_ble_eq_true rfl) (Nat.zero_le _) (Nat.zero_le _) dX7_readNumber_67 ?_
          refine lv_istore_n (lv' := [(2, .int (if ((((10 : Int32) * l2) + r60) - (48 : Int32)) < (5001 : Int32) then ((((10 : Int32) * l2) + r60) - (48 : Int32)) else (5001 : Int32))), (0, .ref (G.2.1 3)), (1, .int l1)]) hx hb dX7_readNumber_70 rfl hl (by decide) rfl (fun ls hl => ?_)
          refine lv_aload_n hx hb dX7_readNumber_71 rfl (lv_at hl 1 rfl) ?_
          refine lv_dup hx hb dX7_readNumber_72 rfl ?_
          refine q_get (T := TX7) (v := .int (gi s60 5)) E hh h_inX7 3 (WW_at_3 G s60) rfl 4 (by decide) (List.mem_cons_of_mem _ (List.mem_append_left _ (List.mem_of_getElem? (i := 0) rfl))) rfl rfl dX7_readNumber_73 ?_
          refine lv_iconst (v := (1 : Int32)) hx hb dX7_readNumber_76 (by decide) ?_
          refine lv_iadd hx hb dX7_readNumber_77 ?_
          refine q_put (T := TX7) E hh h_inX7 tyX7 tyX7_ok nmX7 3 (WW_at_3 G s60) rfl 4 (by decide) (List.mem_cons_of_mem _ (List.mem_append_left _ (List.mem_of_getElem? (i := 0) rfl))) rfl rfl (by decide +kernel) (Nat.le_of_ble_eq_true rfl) dX7_readNumber_78 (WW_si_5 G s60 ((gi s60 5) + (1 : Int32))) (fun H locs hh => ?_)
          refine lv_goto (tgt := 11) hx hb dX7_readNumber_81 (by decide) ?_
          exact ih _ _ _ _ _ _ h hh (lv_sub hl [1, 2, 0] rfl)
def f_X7_readNumber (σ : St)  (Q : Int32 → St → Prop) : Prop :=
  f_X7_skipBlanks σ (fun s1 => f_X7_readNumber_11L Q FU s1 (gi s1 5) (0 : Int32))
set_option maxHeartbeats 4000000 in
set_option maxRecDepth 100000 in
theorem c_X7_readNumber (l : Launch) (G : GG) (σ : St) (sz : Nat)  (Q : Int32 → St → Prop) (h : f_X7_readNumber σ  Q) : CTi l yX7_readNumber wsX7_readNumber ({ frames := 2, cells := 0, slots := 0, locals := 41 }) [.ref (G.2.1 3)] G σ sz Q := by
  refine Met.ofW (cc := cX7_readNumber) (maxL := 3) (ret := (some .int)) (by decide) rfl ?_
  intro p e s m args below meth c s₁ B hml hv
  obtain ⟨rfl, hpre⟩ := hv
  have hr := B.returns
  have hlocks := B.notSynchronized
  obtain ⟨hsz, -⟩ := id hpre
  subst hsz
  obtain ⟨E, hh⟩ := EV.ofPre (⟨B.exec, B.bytes, hml, findClass_of_methodNamed B.named, atoms_spec (ws := wsX7_readNumber) B.pre⟩ : CallFix p m c cX7_readNumber 3 s _ wsX7_readNumber RX7) hpre
  have hx := E.1.1
  have hb := E.1.2.1
  have hown := E.1.2.2.2.1
  have hts := E.1.2.2.2.2
  have h_inX7 : ∀ w ∈ wsX70, w ∈ wsX7_readNumber := (fun _ h9 => (List.mem_cons_of_mem _ (List.mem_append_right _ h9)))
  have hl := lv_entry ([.ref (G.2.1 3)]) (n := 3) (Nat.le_of_ble_eq_true rfl)
  rw [lg_entry_eq]
  generalize (lg_sl ([.ref (G.2.1 3)]) ++ List.replicate (3 - (lg_sl ([.ref (G.2.1 3)])).length) Slot.unset).toArray = ls at hl ⊢
  have hl : lv_has ls 3 [(0, .ref (G.2.1 3))] := hl
  unfold f_X7_readNumber at h
  refine lv_aload_n hx hb dX7_readNumber_0 rfl (lv_at hl 0 rfl) ?_
  refine q_Vv (As := []) (rest := []) E hh (c_X7_skipBlanks l G _ _  _ h) (cwV 0 hts gX7_readNumber_X7_skipBlanks rfl rfl rfl (by decide +kernel) ⟨Nat.le_of_ble_eq_true rfl, Nat.le_of_ble_eq_true rfl⟩) (va_recv (ci := 7) E.2.1 hh.1 rfl (WW_at_3 G σ)) rfl hl.1 rfl (Nat.le_of_ble_eq_true rfl) dX7_readNumber_1 ⟨Nat.zero_le _, Nat.zero_le _⟩ (fun s1 H locs h hh => ?_)
  refine lv_aload_n hx hb dX7_readNumber_4 rfl (lv_at hl 0 rfl) ?_
  refine q_get (T := TX7) (v := .int (gi s1 5)) E hh h_inX7 3 (WW_at_3 G s1) rfl 4 (by decide) (List.mem_cons_of_mem _ (List.mem_append_left _ (List.mem_of_getElem? (i := 0) rfl))) rfl rfl dX7_readNumber_5 ?_
  refine lv_istore_n (lv' := [(1, .int (gi s1 5)), (0, .ref (G.2.1 3))]) hx hb dX7_readNumber_8 rfl hl (by decide) rfl (fun ls hl => ?_)
  refine lv_iconst (v := (0 : Int32)) hx hb dX7_readNumber_9 (by decide) ?_
  refine lv_istore_n (lv' := [(2, .int (0 : Int32)), (1, .int (gi s1 5)), (0, .ref (G.2.1 3))]) hx hb dX7_readNumber_10 rfl hl (by decide) rfl (fun ls hl => ?_)
  exact w_X7_readNumber_11 E hr hlocks  FU _ _ _ _ _ _ h hh (lv_sub hl [2, 1, 0] rfl)
def f_X7_readIce (σ : St)  (Q : Int32 → St → Prop) : Prop :=
  f_X7_readNumber σ (fun r1 s1 => ((r1 = (-1 : Int32) → Q (0 : Int32) (si s1 14 r1)) ∧ (¬ r1 = (-1 : Int32) → Q (1 : Int32) (si s1 14 r1))))
set_option maxHeartbeats 4000000 in
set_option maxRecDepth 100000 in
theorem c_X7_readIce (l : Launch) (G : GG) (σ : St) (sz : Nat)  (Q : Int32 → St → Prop) (h : f_X7_readIce σ  Q) : CTi l yX7_readIce wsX7_readIce ({ frames := 3, cells := 0, slots := 0, locals := 63 }) [.ref (G.2.1 3)] G σ sz Q := by
  refine Met.ofW (cc := cX7_readIce) (maxL := 2) (ret := (some .boolean)) (by decide) rfl ?_
  intro p e s m args below meth c s₁ B hml hv
  obtain ⟨rfl, hpre⟩ := hv
  have hr := B.returns
  have hlocks := B.notSynchronized
  obtain ⟨hsz, -⟩ := id hpre
  subst hsz
  obtain ⟨E, hh⟩ := EV.ofPre (⟨B.exec, B.bytes, hml, findClass_of_methodNamed B.named, atoms_spec (ws := wsX7_readIce) B.pre⟩ : CallFix p m c cX7_readIce 2 s _ wsX7_readIce RX7) hpre
  have hx := E.1.1
  have hb := E.1.2.1
  have hown := E.1.2.2.2.1
  have hts := E.1.2.2.2.2
  have h_inX6 : ∀ w ∈ wsX60, w ∈ wsX7_readIce := (fun _ h9 => (List.mem_cons_of_mem _ (List.mem_append_right _ h9)))
  have h_inX7 : ∀ w ∈ wsX70, w ∈ wsX7_readIce := (fun _ h9 => (List.mem_cons_of_mem _ (List.mem_append_left _ (List.mem_append_right _ h9))))
  have hl := lv_entry ([.ref (G.2.1 3)]) (n := 2) (Nat.le_of_ble_eq_true rfl)
  rw [lg_entry_eq]
  generalize (lg_sl ([.ref (G.2.1 3)]) ++ List.replicate (2 - (lg_sl ([.ref (G.2.1 3)])).length) Slot.unset).toArray = ls at hl ⊢
  have hl : lv_has ls 2 [(0, .ref (G.2.1 3))] := hl
  unfold f_X7_readIce at h
  refine lv_aload_n hx hb dX7_readIce_0 rfl (lv_at hl 0 rfl) ?_
  refine q_Vi (As := []) (rest := []) E hh (c_X7_readNumber l G _ _  _ h) (cwV 0 hts gX7_readIce_X7_readNumber rfl rfl rfl (by decide +kernel) ⟨Nat.le_of_ble_eq_true rfl, Nat.le_of_ble_eq_true rfl⟩) (va_recv (ci := 7) E.2.1 hh.1 rfl (WW_at_3 G σ)) rfl hl.1 rfl (Nat.le_of_ble_eq_true rfl) dX7_readIce_1 ⟨Nat.zero_le _, Nat.zero_le _⟩ (fun r1 s1 H locs h hh => ?_)
  refine lv_istore_n (lv' := [(1, .int r1), (0, .ref (G.2.1 3))]) hx hb dX7_readIce_4 rfl hl (by decide) rfl (fun ls hl => ?_)
  refine lv_aload_n hx hb dX7_readIce_5 rfl (lv_at hl 1 rfl) ?_
  refine q_get (T := TX7) (v := .ref (G.2.1 5)) E hh h_inX7 3 (WW_at_3 G s1) rfl 2 (by decide) (List.mem_cons_of_mem _ (List.mem_append_left _ (List.mem_append_left _ (List.mem_append_left _ (List.mem_of_getElem? (i := 0) rfl))))) rfl rfl dX7_readIce_6 ?_
  refine lv_iload_n hx hb dX7_readIce_9 rfl (lv_at hl 0 rfl) ?_
  refine q_putN (T := TX6) (host := "IceRegatta") E hh h_inX6 tyX6 tyX6_ok nmX6 5 (WW_at_5 G s1) rfl 1 (by decide) (List.mem_of_getElem? (i := 5) rfl) rfl rfl (by decide +kernel) (Nat.le_of_ble_eq_true rfl) dX7_readIce_10 (WW_si_14 G s1 r1) (fun H locs hh => ?_)
  refine lv_iload_n hx hb dX7_readIce_13 rfl (lv_at hl 0 rfl) ?_
  refine lv_iconst (v := (-1 : Int32)) hx hb dX7_readIce_14 (by decide) ?_
  refine lv_icmp_eq (tgt := 22) hx hb dX7_readIce_15 (by decide) (fun c9 => ?_) (fun c9 => ?_)
  · have h := h.1 c9
    refine lv_iconst (v := (0 : Int32)) hx hb dX7_readIce_22 (by decide) ?_
    exact q_zret (ty := .boolean) E hh hr hlocks rfl h dX7_readIce_23
  · have h := h.2 c9
    refine lv_iconst (v := (1 : Int32)) hx hb dX7_readIce_18 (by decide) ?_
    refine lv_goto (tgt := 23) hx hb dX7_readIce_19 (by decide) ?_
    exact q_zret (ty := .boolean) E hh hr hlocks rfl h dX7_readIce_23
def f_X7_readDrops (σ : St)  (Q : Int32 → St → Prop) : Prop :=
  f_X7_readNumber σ (fun r1 s1 => ((¬ r1 = (-1 : Int32) → f_X7_readWord s1 (fun r13 s13 => f_X7_isWord s13 r13 3 (fun r21 s21 => ((¬ r21 = 0 → f_X7_readNumber s21 (fun r35 s35 => ((r35 = (-1 : Int32) → Q (0 : Int32) (si (si s35 15 r1) 16 r35)) ∧ (¬ r35 = (-1 : Int32) → Q (1 : Int32) (si (si s35 15 r1) 16 r35))))) ∧ (r21 = 0 → f_X7_refuse s21 (1 : Int32) r13 (fun r30 s30 => (zok .boolean r30 ∧ Q r30 s30))))))) ∧ (r1 = (-1 : Int32) → Q (0 : Int32) s1)))
set_option maxHeartbeats 4000000 in
set_option maxRecDepth 100000 in
theorem c_X7_readDrops (l : Launch) (G : GG) (σ : St) (sz : Nat)  (Q : Int32 → St → Prop) (h : f_X7_readDrops σ  Q) : CTi l yX7_readDrops wsX7_readDrops ({ frames := 5, cells := 0, slots := 0, locals := 108 }) [.ref (G.2.1 3)] G σ sz Q := by
  refine Met.ofW (cc := cX7_readDrops) (maxL := 4) (ret := (some .boolean)) (by decide) rfl ?_
  intro p e s m args below meth c s₁ B hml hv
  obtain ⟨rfl, hpre⟩ := hv
  have hr := B.returns
  have hlocks := B.notSynchronized
  obtain ⟨hsz, -⟩ := id hpre
  subst hsz
  obtain ⟨E, hh⟩ := EV.ofPre (⟨B.exec, B.bytes, hml, findClass_of_methodNamed B.named, atoms_spec (ws := wsX7_readDrops) B.pre⟩ : CallFix p m c cX7_readDrops 4 s _ wsX7_readDrops RX7) hpre
  have hx := E.1.1
  have hb := E.1.2.1
  have hown := E.1.2.2.2.1
  have hts := E.1.2.2.2.2
  have h_inX6 : ∀ w ∈ wsX60, w ∈ wsX7_readDrops := (fun _ h9 => (List.mem_cons_of_mem _ (List.mem_append_right _ h9)))
  have h_inX7 : ∀ w ∈ wsX70, w ∈ wsX7_readDrops := (fun _ h9 => (List.mem_cons_of_mem _ (List.mem_append_left _ (List.mem_append_right _ h9))))
  have hl := lv_entry ([.ref (G.2.1 3)]) (n := 4) (Nat.le_of_ble_eq_true rfl)
  rw [lg_entry_eq]
  generalize (lg_sl ([.ref (G.2.1 3)]) ++ List.replicate (4 - (lg_sl ([.ref (G.2.1 3)])).length) Slot.unset).toArray = ls at hl ⊢
  have hl : lv_has ls 4 [(0, .ref (G.2.1 3))] := hl
  unfold f_X7_readDrops at h
  refine lv_aload_n hx hb dX7_readDrops_0 rfl (lv_at hl 0 rfl) ?_
  refine q_Vi (As := []) (rest := []) E hh (c_X7_readNumber l G _ _  _ h) (cwV 0 hts gX7_readDrops_X7_readNumber rfl rfl rfl (by decide +kernel) ⟨Nat.le_of_ble_eq_true rfl, Nat.le_of_ble_eq_true rfl⟩) (va_recv (ci := 7) E.2.1 hh.1 rfl (WW_at_3 G σ)) rfl hl.1 rfl (Nat.le_of_ble_eq_true rfl) dX7_readDrops_1 ⟨Nat.zero_le _, Nat.zero_le _⟩ (fun r1 s1 H locs h hh => ?_)
  refine lv_istore_n (lv' := [(1, .int r1), (0, .ref (G.2.1 3))]) hx hb dX7_readDrops_4 rfl hl (by decide) rfl (fun ls hl => ?_)
  refine lv_iload_n hx hb dX7_readDrops_5 rfl (lv_at hl 0 rfl) ?_
  refine lv_iconst (v := (-1 : Int32)) hx hb dX7_readDrops_6 (by decide) ?_
  refine lv_icmp_ne (tgt := 12) hx hb dX7_readDrops_7 (by decide) (fun c9 => ?_) (fun c9 => ?_)
  · have h := h.1 c9
    refine lv_aload_n hx hb dX7_readDrops_12 rfl (lv_at hl 1 rfl) ?_
    refine q_Vi (As := []) (rest := []) E hh (c_X7_readWord l G _ _  _ h) (cwV 0 hts gX7_readDrops_X7_readWord rfl rfl rfl (by decide +kernel) ⟨Nat.le_of_ble_eq_true rfl, Nat.le_of_ble_eq_true rfl⟩) (va_recv (ci := 7) E.2.1 hh.1 rfl (WW_at_3 G s1)) rfl hl.1 rfl (Nat.le_of_ble_eq_true rfl) dX7_readDrops_13 ⟨Nat.zero_le _, Nat.zero_le _⟩ (fun r13 s13 H locs h hh => ?_)
    refine lv_istore_n (lv' := [(2, .int r13), (1, .int r1), (0, .ref (G.2.1 3))]) hx hb dX7_readDrops_16 rfl hl (by decide) rfl (fun ls hl => ?_)
    refine lv_aload_n hx hb dX7_readDrops_17 rfl (lv_at hl 2 rfl) ?_
    refine lv_iload_n hx hb dX7_readDrops_18 rfl (lv_at hl 0 rfl) ?_
    refine va_ldcS (own := RX7) (q := G.2.2 (20 + 3)) hx hb hown (E.2.2.2.1.1.2.2.1 ("IceRegatta$Tape", 95, "from", 23) (List.mem_of_getElem? (i := 3) rfl)) dX7_readDrops_19 ?_
    refine q_Vi (As := [.int r13, .ref (G.2.2 (20 + 3))]) (rest := []) E hh (c_X7_isWord l G _ _ _ _ _ h) (cwV 2 hts gX7_readDrops_X7_isWord rfl rfl rfl (by decide +kernel) ⟨Nat.le_of_ble_eq_true rfl, Nat.le_of_ble_eq_true rfl⟩) (va_recv (ci := 7) E.2.1 hh.1 rfl (WW_at_3 G s13)) rfl hl.1 rfl (Nat.le_of_ble_eq_true rfl) dX7_readDrops_21 ⟨Nat.zero_le _, Nat.zero_le _⟩ (fun r21 s21 H locs h hh => ?_)
    refine lv_if_ne (tgt := 34) hx hb dX7_readDrops_24 (by decide) (fun c9 => ?_) (fun c9 => ?_)
    · have h := h.1 c9
      refine lv_aload_n hx hb dX7_readDrops_34 rfl (lv_at hl 2 rfl) ?_
      refine q_Vi (As := []) (rest := []) E hh (c_X7_readNumber l G _ _  _ h) (cwV 0 hts gX7_readDrops_X7_readNumber rfl rfl rfl (by decide +kernel) ⟨Nat.le_of_ble_eq_true rfl, Nat.le_of_ble_eq_true rfl⟩) (va_recv (ci := 7) E.2.1 hh.1 rfl (WW_at_3 G s21)) rfl hl.1 rfl (Nat.le_of_ble_eq_true rfl) dX7_readDrops_35 ⟨Nat.zero_le _, Nat.zero_le _⟩ (fun r35 s35 H locs h hh => ?_)
      refine lv_istore_n (lv' := [(3, .int r35), (2, .int r13), (1, .int r1), (0, .ref (G.2.1 3))]) hx hb dX7_readDrops_38 rfl hl (by decide) rfl (fun ls hl => ?_)
      refine lv_aload_n hx hb dX7_readDrops_39 rfl (lv_at hl 3 rfl) ?_
      refine q_get (T := TX7) (v := .ref (G.2.1 5)) E hh h_inX7 3 (WW_at_3 G s35) rfl 2 (by decide) (List.mem_cons_of_mem _ (List.mem_append_left _ (List.mem_append_left _ (List.mem_append_left _ (List.mem_of_getElem? (i := 0) rfl))))) rfl rfl dX7_readDrops_40 ?_
      refine lv_iload_n hx hb dX7_readDrops_43 rfl (lv_at hl 2 rfl) ?_
      refine q_putN (T := TX6) (host := "IceRegatta") E hh h_inX6 tyX6 tyX6_ok nmX6 5 (WW_at_5 G s35) rfl 2 (by decide) (List.mem_of_getElem? (i := 6) rfl) rfl rfl (by decide +kernel) (Nat.le_of_ble_eq_true rfl) dX7_readDrops_44 (WW_si_15 G s35 r1) (fun H locs hh => ?_)
      refine lv_aload_n hx hb dX7_readDrops_47 rfl (lv_at hl 3 rfl) ?_
      refine q_get (T := TX7) (v := .ref (G.2.1 5)) E hh h_inX7 3 (WW_at_3 G (si s35 15 r1)) rfl 2 (by decide) (List.mem_cons_of_mem _ (List.mem_append_left _ (List.mem_append_left _ (List.mem_append_left _ (List.mem_of_getElem? (i := 0) rfl))))) rfl rfl dX7_readDrops_48 ?_
      refine lv_iload_n hx hb dX7_readDrops_51 rfl (lv_at hl 0 rfl) ?_
      refine q_putN (T := TX6) (host := "IceRegatta") E hh h_inX6 tyX6 tyX6_ok nmX6 5 (WW_at_5 G (si s35 15 r1)) rfl 3 (by decide) (List.mem_of_getElem? (i := 7) rfl) rfl rfl (by decide +kernel) (Nat.le_of_ble_eq_true rfl) dX7_readDrops_52 (WW_si_16 G (si s35 15 r1) r35) (fun H locs hh => ?_)
      refine lv_iload_n hx hb dX7_readDrops_55 rfl (lv_at hl 0 rfl) ?_
      refine lv_iconst (v := (-1 : Int32)) hx hb dX7_readDrops_56 (by decide) ?_
      refine lv_icmp_eq (tgt := 64) hx hb dX7_readDrops_57 (by decide) (fun c9 => ?_) (fun c9 => ?_)
      · have h := h.1 c9
        refine lv_iconst (v := (0 : Int32)) hx hb dX7_readDrops_64 (by decide) ?_
        exact q_zret (ty := .boolean) E hh hr hlocks rfl h dX7_readDrops_65
      · have h := h.2 c9
        refine lv_iconst (v := (1 : Int32)) hx hb dX7_readDrops_60 (by decide) ?_
        refine lv_goto (tgt := 65) hx hb dX7_readDrops_61 (by decide) ?_
        exact q_zret (ty := .boolean) E hh hr hlocks rfl h dX7_readDrops_65
    · have h := h.2 c9
      refine lv_aload_n hx hb dX7_readDrops_27 rfl (lv_at hl 2 rfl) ?_
      refine lv_iconst (v := (1 : Int32)) hx hb dX7_readDrops_28 (by decide) ?_
      refine lv_iload_n hx hb dX7_readDrops_29 rfl (lv_at hl 0 rfl) ?_
      refine q_Vi (As := [.int (1 : Int32), .int r13]) (rest := []) E hh (c_X7_refuse l G _ _ _ _ _ h) (cwV 2 hts gX7_readDrops_X7_refuse rfl rfl rfl (by decide +kernel) ⟨Nat.le_of_ble_eq_true rfl, Nat.le_of_ble_eq_true rfl⟩) (va_recv (ci := 7) E.2.1 hh.1 rfl (WW_at_3 G s21)) rfl hl.1 rfl (Nat.le_of_ble_eq_true rfl) dX7_readDrops_30 ⟨Nat.zero_le _, Nat.zero_le _⟩ (fun r30 s30 H locs h hh => ?_)
      exact q_zret (ty := .boolean) E hh hr hlocks h.1 h.2 dX7_readDrops_33
  · have h := h.2 c9
    refine lv_iconst (v := (0 : Int32)) hx hb dX7_readDrops_10 (by decide) ?_
    exact q_zret (ty := .boolean) E hh hr hlocks rfl h dX7_readDrops_11
def f_X7_isSemicolonNext (σ : St)  (Q : Int32 → St → Prop) : Prop :=
  f_X7_skipBlanks σ (fun s1 => f_X7_byteAt s1 (gi s1 5) (fun r9 s9 => ((¬ r9 = (59 : Int32) → Q (0 : Int32) s9) ∧ (r9 = (59 : Int32) → Q (1 : Int32) s9))))
set_option maxHeartbeats 4000000 in
set_option maxRecDepth 100000 in
theorem c_X7_isSemicolonNext (l : Launch) (G : GG) (σ : St) (sz : Nat)  (Q : Int32 → St → Prop) (h : f_X7_isSemicolonNext σ  Q) : CTi l yX7_isSemicolonNext wsX7_isSemicolonNext ({ frames := 2, cells := 0, slots := 0, locals := 41 }) [.ref (G.2.1 3)] G σ sz Q := by
  refine Met.ofW (cc := cX7_isSemicolonNext) (maxL := 1) (ret := (some .boolean)) (by decide) rfl ?_
  intro p e s m args below meth c s₁ B hml hv
  obtain ⟨rfl, hpre⟩ := hv
  have hr := B.returns
  have hlocks := B.notSynchronized
  obtain ⟨hsz, -⟩ := id hpre
  subst hsz
  obtain ⟨E, hh⟩ := EV.ofPre (⟨B.exec, B.bytes, hml, findClass_of_methodNamed B.named, atoms_spec (ws := wsX7_isSemicolonNext) B.pre⟩ : CallFix p m c cX7_isSemicolonNext 1 s _ wsX7_isSemicolonNext RX7) hpre
  have hx := E.1.1
  have hb := E.1.2.1
  have hown := E.1.2.2.2.1
  have hts := E.1.2.2.2.2
  have h_inX7 : ∀ w ∈ wsX70, w ∈ wsX7_isSemicolonNext := (fun _ h9 => (List.mem_cons_of_mem _ (List.mem_append_right _ h9)))
  have hl := lv_entry ([.ref (G.2.1 3)]) (n := 1) (Nat.le_of_ble_eq_true rfl)
  rw [lg_entry_eq]
  generalize (lg_sl ([.ref (G.2.1 3)]) ++ List.replicate (1 - (lg_sl ([.ref (G.2.1 3)])).length) Slot.unset).toArray = ls at hl ⊢
  have hl : lv_has ls 1 [(0, .ref (G.2.1 3))] := hl
  unfold f_X7_isSemicolonNext at h
  refine lv_aload_n hx hb dX7_isSemicolonNext_0 rfl (lv_at hl 0 rfl) ?_
  refine q_Vv (As := []) (rest := []) E hh (c_X7_skipBlanks l G _ _  _ h) (cwV 0 hts gX7_isSemicolonNext_X7_skipBlanks rfl rfl rfl (by decide +kernel) ⟨Nat.le_of_ble_eq_true rfl, Nat.le_of_ble_eq_true rfl⟩) (va_recv (ci := 7) E.2.1 hh.1 rfl (WW_at_3 G σ)) rfl hl.1 rfl (Nat.le_of_ble_eq_true rfl) dX7_isSemicolonNext_1 ⟨Nat.zero_le _, Nat.zero_le _⟩ (fun s1 H locs h hh => ?_)
  refine lv_aload_n hx hb dX7_isSemicolonNext_4 rfl (lv_at hl 0 rfl) ?_
  refine lv_aload_n hx hb dX7_isSemicolonNext_5 rfl (lv_at hl 0 rfl) ?_
  refine q_get (T := TX7) (v := .int (gi s1 5)) E hh h_inX7 3 (WW_at_3 G s1) rfl 4 (by decide) (List.mem_cons_of_mem _ (List.mem_append_left _ (List.mem_of_getElem? (i := 0) rfl))) rfl rfl dX7_isSemicolonNext_6 ?_
  refine q_Vi (As := [.int (gi s1 5)]) (rest := []) E hh (c_X7_byteAt l G _ _ _ _ h) (cwV 1 hts gX7_isSemicolonNext_X7_byteAt rfl rfl rfl (by decide +kernel) ⟨Nat.le_of_ble_eq_true rfl, Nat.le_of_ble_eq_true rfl⟩) (va_recv (ci := 7) E.2.1 hh.1 rfl (WW_at_3 G s1)) rfl hl.1 rfl (Nat.le_of_ble_eq_true rfl) dX7_isSemicolonNext_9 ⟨Nat.zero_le _, Nat.zero_le _⟩ (fun r9 s9 H locs h hh => ?_)
  refine lv_bipush (v := (59 : Int32)) hx hb dX7_isSemicolonNext_12 (by decide) ?_
  refine lv_icmp_ne (tgt := 21) hx hb dX7_isSemicolonNext_14 (by decide) (fun c9 => ?_) (fun c9 => ?_)
  · have h := h.1 c9
    refine lv_iconst (v := (0 : Int32)) hx hb dX7_isSemicolonNext_21 (by decide) ?_
    exact q_zret (ty := .boolean) E hh hr hlocks rfl h dX7_isSemicolonNext_22
  · have h := h.2 c9
    refine lv_iconst (v := (1 : Int32)) hx hb dX7_isSemicolonNext_17 (by decide) ?_
    refine lv_goto (tgt := 22) hx hb dX7_isSemicolonNext_18 (by decide) ?_
    exact q_zret (ty := .boolean) E hh hr hlocks rfl h dX7_isSemicolonNext_22
def f_X7_rightAt (σ : St) (p1 : Int32) (Q : Int32 → St → Prop) : Prop :=
  f_X7_isWord σ p1 4 (fun r4 s4 => ((r4 = 0 → f_X7_isWord s4 p1 5 (fun r16 s16 => ((r16 = 0 → f_X7_isWord s16 p1 6 (fun r28 s28 => ((r28 = 0 → Q (-1 : Int32) s28) ∧ (¬ r28 = 0 → Q (2 : Int32) s28)))) ∧ (¬ r16 = 0 → Q (1 : Int32) s16)))) ∧ (¬ r4 = 0 → Q (0 : Int32) s4)))
set_option maxHeartbeats 4000000 in
set_option maxRecDepth 100000 in
theorem c_X7_rightAt (l : Launch) (G : GG) (σ : St) (sz : Nat) (p1 : Int32) (Q : Int32 → St → Prop) (h : f_X7_rightAt σ p1 Q) : CTi l yX7_rightAt wsX7_rightAt ({ frames := 5, cells := 0, slots := 0, locals := 108 }) [.ref (G.2.1 3), .int p1] G σ sz Q := by
  refine Met.ofW (cc := cX7_rightAt) (maxL := 2) (ret := (some .int)) (by decide) rfl ?_
  intro p e s m args below meth c s₁ B hml hv
  obtain ⟨rfl, hpre⟩ := hv
  have hr := B.returns
  have hlocks := B.notSynchronized
  obtain ⟨hsz, -⟩ := id hpre
  subst hsz
  obtain ⟨E, hh⟩ := EV.ofPre (⟨B.exec, B.bytes, hml, findClass_of_methodNamed B.named, atoms_spec (ws := wsX7_rightAt) B.pre⟩ : CallFix p m c cX7_rightAt 2 s _ wsX7_rightAt RX7) hpre
  have hx := E.1.1
  have hb := E.1.2.1
  have hown := E.1.2.2.2.1
  have hts := E.1.2.2.2.2
  have hl := lv_entry ([.ref (G.2.1 3), .int p1]) (n := 2) (Nat.le_of_ble_eq_true rfl)
  rw [lg_entry_eq]
  generalize (lg_sl ([.ref (G.2.1 3), .int p1]) ++ List.replicate (2 - (lg_sl ([.ref (G.2.1 3), .int p1])).length) Slot.unset).toArray = ls at hl ⊢
  have hl : lv_has ls 2 [(0, .ref (G.2.1 3)), (1, .int p1)] := hl
  unfold f_X7_rightAt at h
  refine lv_aload_n hx hb dX7_rightAt_0 rfl (lv_at hl 0 rfl) ?_
  refine lv_iload_n hx hb dX7_rightAt_1 rfl (lv_at hl 1 rfl) ?_
  refine va_ldcS (own := RX7) (q := G.2.2 (20 + 4)) hx hb hown (E.2.2.2.1.1.2.2.1 ("IceRegatta$Tape", 117, "starboard", 24) (List.mem_of_getElem? (i := 4) rfl)) dX7_rightAt_2 ?_
  refine q_Vi (As := [.int p1, .ref (G.2.2 (20 + 4))]) (rest := []) E hh (c_X7_isWord l G _ _ _ _ _ h) (cwV 2 hts gX7_rightAt_X7_isWord rfl rfl rfl (by decide +kernel) ⟨Nat.le_of_ble_eq_true rfl, Nat.le_of_ble_eq_true rfl⟩) (va_recv (ci := 7) E.2.1 hh.1 rfl (WW_at_3 G σ)) rfl hl.1 rfl (Nat.le_of_ble_eq_true rfl) dX7_rightAt_4 ⟨Nat.zero_le _, Nat.zero_le _⟩ (fun r4 s4 H locs h hh => ?_)
  refine lv_if_eq (tgt := 12) hx hb dX7_rightAt_7 (by decide) (fun c9 => ?_) (fun c9 => ?_)
  · have h := h.1 c9
    refine lv_aload_n hx hb dX7_rightAt_12 rfl (lv_at hl 0 rfl) ?_
    refine lv_iload_n hx hb dX7_rightAt_13 rfl (lv_at hl 1 rfl) ?_
    refine va_ldcS (own := RX7) (q := G.2.2 (20 + 5)) hx hb hown (E.2.2.2.1.1.2.2.1 ("IceRegatta$Tape", 119, "leeward", 25) (List.mem_of_getElem? (i := 5) rfl)) dX7_rightAt_14 ?_
    refine q_Vi (As := [.int p1, .ref (G.2.2 (20 + 5))]) (rest := []) E hh (c_X7_isWord l G _ _ _ _ _ h) (cwV 2 hts gX7_rightAt_X7_isWord rfl rfl rfl (by decide +kernel) ⟨Nat.le_of_ble_eq_true rfl, Nat.le_of_ble_eq_true rfl⟩) (va_recv (ci := 7) E.2.1 hh.1 rfl (WW_at_3 G s4)) rfl hl.1 rfl (Nat.le_of_ble_eq_true rfl) dX7_rightAt_16 ⟨Nat.zero_le _, Nat.zero_le _⟩ (fun r16 s16 H locs h hh => ?_)
    refine lv_if_eq (tgt := 24) hx hb dX7_rightAt_19 (by decide) (fun c9 => ?_) (fun c9 => ?_)
    · have h := h.1 c9
      refine lv_aload_n hx hb dX7_rightAt_24 rfl (lv_at hl 0 rfl) ?_
      refine lv_iload_n hx hb dX7_rightAt_25 rfl (lv_at hl 1 rfl) ?_
      refine va_ldcS (own := RX7) (q := G.2.2 (20 + 6)) hx hb hown (E.2.2.2.1.1.2.2.1 ("IceRegatta$Tape", 121, "ahead", 26) (List.mem_of_getElem? (i := 6) rfl)) dX7_rightAt_26 ?_
      refine q_Vi (As := [.int p1, .ref (G.2.2 (20 + 6))]) (rest := []) E hh (c_X7_isWord l G _ _ _ _ _ h) (cwV 2 hts gX7_rightAt_X7_isWord rfl rfl rfl (by decide +kernel) ⟨Nat.le_of_ble_eq_true rfl, Nat.le_of_ble_eq_true rfl⟩) (va_recv (ci := 7) E.2.1 hh.1 rfl (WW_at_3 G s16)) rfl hl.1 rfl (Nat.le_of_ble_eq_true rfl) dX7_rightAt_28 ⟨Nat.zero_le _, Nat.zero_le _⟩ (fun r28 s28 H locs h hh => ?_)
      refine lv_if_eq (tgt := 38) hx hb dX7_rightAt_31 (by decide) (fun c9 => ?_) (fun c9 => ?_)
      · have h := h.1 c9
        refine lv_iconst (v := (-1 : Int32)) hx hb dX7_rightAt_38 (by decide) ?_
        exact q_iret E hh hr hlocks h dX7_rightAt_39
      · have h := h.2 c9
        refine lv_iconst (v := (2 : Int32)) hx hb dX7_rightAt_34 (by decide) ?_
        refine lv_goto (tgt := 39) hx hb dX7_rightAt_35 (by decide) ?_
        exact q_iret E hh hr hlocks h dX7_rightAt_39
    · have h := h.2 c9
      refine lv_iconst (v := (1 : Int32)) hx hb dX7_rightAt_22 (by decide) ?_
      exact q_iret E hh hr hlocks h dX7_rightAt_23
  · have h := h.2 c9
    refine lv_iconst (v := (0 : Int32)) hx hb dX7_rightAt_10 (by decide) ?_
    exact q_iret E hh hr hlocks h dX7_rightAt_11
def f_X7_readRights_28 (Q : Int32 → St → Prop) (K10 : St → Int32 → Prop) (σ : St) (l1 : Int32) : Prop :=
  f_X7_readWord σ (fun r29 s29 => f_X7_rightAt s29 r29 (fun r35 s35 => ((r35 = (-1 : Int32) → f_X7_refuse s35 (1 : Int32) r29 (fun r58 s58 => (zok .boolean r58 ∧ Q r58 s58))) ∧ (¬ r35 = (-1 : Int32) → f_X6_addRight s35 r35 (fun r49 s49 => ((¬ r49 = 0 → K10 s49 (l1 + 1)) ∧ (r49 = 0 → f_X7_refuse s49 (1 : Int32) r29 (fun r58 s58 => (zok .boolean r58 ∧ Q r58 s58)))))))))
set_option maxHeartbeats 4000000 in
set_option maxRecDepth 100000 in
theorem w_X7_readRights_28 {p : Program} {l : Launch} {e : Env} {s : State} {m : MethodId} {args : Array Value} {below : List Frame} {meth : Method} {c : Code} {G : GG} (E : EV p s m args c cX7_readRights 4 wsX7_readRights RX7 G (AD G s.heap.size)) (hr : meth.sig.returnType = (some .boolean)) (hlocks : meth.locks = false) {Q : Int32 → St → Prop} {K10 : St → Int32 → Prop} (hK10 : ∀ (σ : St) (l1 : Int32) (H : Heap) (locs : List Loc) (ls : Array Slot), K10 σ l1 → HH G (AD G s.heap.size) s σ H locs → lv_has ls 4 [(0, .ref (G.2.1 3)), (1, .int l1)] → W p l e ({ frames := 6, cells := 0, slots := 0, locals := 129 }) s m args below meth c H locs 0 0 (MQi below G args s Q) (F0 m 10 ls [])) : ∀ (σ : St) (l1 : Int32) (H : Heap) (locs : List Loc) (ls : Array Slot), f_X7_readRights_28 Q K10 σ l1 → HH G (AD G s.heap.size) s σ H locs → lv_has ls 4 [(0, .ref (G.2.1 3)), (1, .int l1)] → W p l e ({ frames := 6, cells := 0, slots := 0, locals := 129 }) s m args below meth c H locs 0 0 (MQi below G args s Q) (F0 m 28 ls []) := by
  have hx := E.1.1
  have hb := E.1.2.1
  have hown := E.1.2.2.2.1
  have hts := E.1.2.2.2.2
  have h_inX6 : ∀ w ∈ wsX60, w ∈ wsX7_readRights := (fun _ h9 => (List.mem_cons_of_mem _ (List.mem_append_right _ h9)))
  have h_inX7 : ∀ w ∈ wsX70, w ∈ wsX7_readRights := (fun _ h9 => (List.mem_cons_of_mem _ (List.mem_append_left _ (List.mem_append_right _ h9))))
  intro σ l1 H locs ls h hh hl
  unfold f_X7_readRights_28 at h
  refine lv_aload_n hx hb dX7_readRights_28 rfl (lv_at hl 0 rfl) ?_
  refine q_Vi (As := []) (rest := []) E hh (c_X7_readWord l G _ _  _ h) (cwV 0 hts gX7_readRights_X7_readWord rfl rfl rfl (by decide +kernel) ⟨Nat.le_of_ble_eq_true rfl, Nat.le_of_ble_eq_true rfl⟩) (va_recv (ci := 7) E.2.1 hh.1 rfl (WW_at_3 G σ)) rfl hl.1 rfl (Nat.le_of_ble_eq_true rfl) dX7_readRights_29 ⟨Nat.zero_le _, Nat.zero_le _⟩ (fun r29 s29 H locs h hh => ?_)
  refine lv_istore_n (lv' := [(2, .int r29), (0, .ref (G.2.1 3)), (1, .int l1)]) hx hb dX7_readRights_32 rfl hl (by decide) rfl (fun ls hl => ?_)
  refine lv_aload_n hx hb dX7_readRights_33 rfl (lv_at hl 1 rfl) ?_
  refine lv_iload_n hx hb dX7_readRights_34 rfl (lv_at hl 0 rfl) ?_
  refine q_Vi (As := [.int r29]) (rest := []) E hh (c_X7_rightAt l G _ _ _ _ h) (cwV 1 hts gX7_readRights_X7_rightAt rfl rfl rfl (by decide +kernel) ⟨Nat.le_of_ble_eq_true rfl, Nat.le_of_ble_eq_true rfl⟩) (va_recv (ci := 7) E.2.1 hh.1 rfl (WW_at_3 G s29)) rfl hl.1 rfl (Nat.le_of_ble_eq_true rfl) dX7_readRights_35 ⟨Nat.zero_le _, Nat.zero_le _⟩ (fun r35 s35 H locs h hh => ?_)
  refine lv_istore_n (lv' := [(3, .int r35), (2, .int r29), (0, .ref (G.2.1 3)), (1, .int l1)]) hx hb dX7_readRights_38 rfl hl (by decide) rfl (fun ls hl => ?_)
  refine lv_iload_n hx hb dX7_readRights_39 rfl (lv_at hl 0 rfl) ?_
  refine lv_iconst (v := (-1 : Int32)) hx hb dX7_readRights_40 (by decide) ?_
  refine lv_icmp_eq (tgt := 55) hx hb dX7_readRights_41 (by decide) (fun c9 => ?_) (fun c9 => ?_)
  · have h := h.1 c9
    refine lv_aload_n hx hb dX7_readRights_55 rfl (lv_at hl 2 rfl) ?_
    refine lv_iconst (v := (1 : Int32)) hx hb dX7_readRights_56 (by decide) ?_
    refine lv_iload_n hx hb dX7_readRights_57 rfl (lv_at hl 1 rfl) ?_
    refine q_Vi (As := [.int (1 : Int32), .int r29]) (rest := []) E hh (c_X7_refuse l G _ _ _ _ _ h) (cwV 2 hts gX7_readRights_X7_refuse rfl rfl rfl (by decide +kernel) ⟨Nat.le_of_ble_eq_true rfl, Nat.le_of_ble_eq_true rfl⟩) (va_recv (ci := 7) E.2.1 hh.1 rfl (WW_at_3 G s35)) rfl hl.1 rfl (Nat.le_of_ble_eq_true rfl) dX7_readRights_58 ⟨Nat.zero_le _, Nat.zero_le _⟩ (fun r58 s58 H locs h hh => ?_)
    exact q_zret (ty := .boolean) E hh hr hlocks h.1 h.2 dX7_readRights_61
  · have h := h.2 c9
    refine lv_aload_n hx hb dX7_readRights_44 rfl (lv_at hl 2 rfl) ?_
    refine q_get (T := TX7) (v := .ref (G.2.1 5)) E hh h_inX7 3 (WW_at_3 G s35) rfl 2 (by decide) (List.mem_cons_of_mem _ (List.mem_append_left _ (List.mem_append_left _ (List.mem_append_left _ (List.mem_of_getElem? (i := 0) rfl))))) rfl rfl dX7_readRights_45 ?_
    refine lv_iload_n hx hb dX7_readRights_48 rfl (lv_at hl 0 rfl) ?_
    refine q_Vi (As := [.int r35]) (rest := []) E hh (c_X6_addRight l G _ _ _ _ h) (cwV 1 hts gX7_readRights_X6_addRight rfl rfl rfl (by decide +kernel) ⟨Nat.le_of_ble_eq_true rfl, Nat.le_of_ble_eq_true rfl⟩) (va_recv (ci := 6) E.2.1 hh.1 rfl (WW_at_5 G s35)) rfl hl.1 rfl (Nat.le_of_ble_eq_true rfl) dX7_readRights_49 ⟨Nat.zero_le _, Nat.zero_le _⟩ (fun r49 s49 H locs h hh => ?_)
    refine lv_if_ne (tgt := 62) hx hb dX7_readRights_52 (by decide) (fun c9 => ?_) (fun c9 => ?_)
    · have h := h.1 c9
      refine lv_iinc (v := (l1 + 1)) (lv' := [(1, .int (l1 + 1)), (3, .int r35), (2, .int r29), (0, .ref (G.2.1 3))]) hx hb dX7_readRights_62 hl (k := 3) rfl rfl (by decide) rfl (fun ls hl => ?_)
      refine lv_goto (tgt := 10) hx hb dX7_readRights_65 (by decide) ?_
      exact hK10 _ _ _ _ _ h hh (lv_sub hl [3, 0] rfl)
    · have h := h.2 c9
      refine lv_aload_n hx hb dX7_readRights_55 rfl (lv_at hl 2 rfl) ?_
      refine lv_iconst (v := (1 : Int32)) hx hb dX7_readRights_56 (by decide) ?_
      refine lv_iload_n hx hb dX7_readRights_57 rfl (lv_at hl 1 rfl) ?_
      refine q_Vi (As := [.int (1 : Int32), .int r29]) (rest := []) E hh (c_X7_refuse l G _ _ _ _ _ h) (cwV 2 hts gX7_readRights_X7_refuse rfl rfl rfl (by decide +kernel) ⟨Nat.le_of_ble_eq_true rfl, Nat.le_of_ble_eq_true rfl⟩) (va_recv (ci := 7) E.2.1 hh.1 rfl (WW_at_3 G s49)) rfl hl.1 rfl (Nat.le_of_ble_eq_true rfl) dX7_readRights_58 ⟨Nat.zero_le _, Nat.zero_le _⟩ (fun r58 s58 H locs h hh => ?_)
      exact q_zret (ty := .boolean) E hh hr hlocks h.1 h.2 dX7_readRights_61
def f_X7_readRights_10 (Q : Int32 → St → Prop)  (rec : St → Int32 → Prop) (σ : St) (l1 : Int32) : Prop :=
  (((3 : Int32) ≤ l1 → Q (1 : Int32) σ) ∧ (¬ (3 : Int32) ≤ l1 → ((l1 ≤ 0 → f_X7_readRights_28 Q rec σ l1) ∧ (¬ l1 ≤ 0 → f_X7_isSemicolonNext σ (fun r20 s20 => ((r20 = 0 → f_X7_readRights_28 Q rec s20 l1) ∧ (¬ r20 = 0 → Q (1 : Int32) s20)))))))
def f_X7_readRights_10L (Q : Int32 → St → Prop)  : Nat → St → Int32 → Prop
  | 0, _, _ => False
  | n + 1, σ, l1 => f_X7_readRights_10 Q  (f_X7_readRights_10L Q  n) σ l1
set_option maxHeartbeats 4000000 in
set_option maxRecDepth 100000 in
theorem w_X7_readRights_10 {p : Program} {l : Launch} {e : Env} {s : State} {m : MethodId} {args : Array Value} {below : List Frame} {meth : Method} {c : Code} {G : GG} (E : EV p s m args c cX7_readRights 4 wsX7_readRights RX7 G (AD G s.heap.size)) (hr : meth.sig.returnType = (some .boolean)) (hlocks : meth.locks = false) {Q : Int32 → St → Prop}  : ∀ (n : Nat) (σ : St) (l1 : Int32) (H : Heap) (locs : List Loc) (ls : Array Slot), f_X7_readRights_10L Q  n σ l1 → HH G (AD G s.heap.size) s σ H locs → lv_has ls 4 [(0, .ref (G.2.1 3)), (1, .int l1)] → W p l e ({ frames := 6, cells := 0, slots := 0, locals := 129 }) s m args below meth c H locs 0 0 (MQi below G args s Q) (F0 m 10 ls []) := by
  have hx := E.1.1
  have hb := E.1.2.1
  have hown := E.1.2.2.2.1
  have hts := E.1.2.2.2.2
  have h_inX6 : ∀ w ∈ wsX60, w ∈ wsX7_readRights := (fun _ h9 => (List.mem_cons_of_mem _ (List.mem_append_right _ h9)))
  have h_inX7 : ∀ w ∈ wsX70, w ∈ wsX7_readRights := (fun _ h9 => (List.mem_cons_of_mem _ (List.mem_append_left _ (List.mem_append_right _ h9))))
  intro n
  induction n with
  | zero =>
    intro σ l1 H locs ls h
    exact h.elim
  | succ n ih =>
    intro σ l1 H locs ls h hh hl
    have h : f_X7_readRights_10 Q  (f_X7_readRights_10L Q  n) σ l1 := h
    unfold f_X7_readRights_10 at h
    refine lv_iload_n hx hb dX7_readRights_10 rfl (lv_at hl 1 rfl) ?_
    refine lv_iconst (v := (3 : Int32)) hx hb dX7_readRights_11 (by decide) ?_
    refine lv_icmp_ge (tgt := 68) hx hb dX7_readRights_12 (by decide) (fun c9 => ?_) (fun c9 => ?_)
    · have h := h.1 c9
      refine lv_iconst (v := (1 : Int32)) hx hb dX7_readRights_68 (by decide) ?_
      exact q_zret (ty := .boolean) E hh hr hlocks rfl h dX7_readRights_69
    · have h := h.2 c9
      refine lv_iload_n hx hb dX7_readRights_15 rfl (lv_at hl 1 rfl) ?_
      refine lv_if_le (tgt := 28) hx hb dX7_readRights_16 (by decide) (fun c9 => ?_) (fun c9 => ?_)
      · have h := h.1 c9
        exact w_X7_readRights_28 E hr hlocks ih _ _ _ _ _ h hh (lv_sub hl [0, 1] rfl)
      · have h := h.2 c9
        refine lv_aload_n hx hb dX7_readRights_19 rfl (lv_at hl 0 rfl) ?_
        refine q_Vi (As := []) (rest := []) E hh (c_X7_isSemicolonNext l G _ _  _ h) (cwV 0 hts gX7_readRights_X7_isSemicolonNext rfl rfl rfl (by decide +kernel) ⟨Nat.le_of_ble_eq_true rfl, Nat.le_of_ble_eq_true rfl⟩) (va_recv (ci := 7) E.2.1 hh.1 rfl (WW_at_3 G σ)) rfl hl.1 rfl (Nat.le_of_ble_eq_true rfl) dX7_readRights_20 ⟨Nat.zero_le _, Nat.zero_le _⟩ (fun r20 s20 H locs h hh => ?_)
        refine lv_if_eq (tgt := 28) hx hb dX7_readRights_23 (by decide) (fun c9 => ?_) (fun c9 => ?_)
        · have h := h.1 c9
          exact w_X7_readRights_28 E hr hlocks ih _ _ _ _ _ h hh (lv_sub hl [0, 1] rfl)
        · have h := h.2 c9
          refine lv_iconst (v := (1 : Int32)) hx hb dX7_readRights_26 (by decide) ?_
          exact q_zret (ty := .boolean) E hh hr hlocks rfl h dX7_readRights_27
def f_X7_readRights (σ : St)  (Q : Int32 → St → Prop) : Prop :=
  f_X7_readRights_10L Q FU (si σ 17 (0 : Int32)) (0 : Int32)
set_option maxHeartbeats 4000000 in
set_option maxRecDepth 100000 in
theorem c_X7_readRights (l : Launch) (G : GG) (σ : St) (sz : Nat)  (Q : Int32 → St → Prop) (h : f_X7_readRights σ  Q) : CTi l yX7_readRights wsX7_readRights ({ frames := 6, cells := 0, slots := 0, locals := 129 }) [.ref (G.2.1 3)] G σ sz Q := by
  refine Met.ofW (cc := cX7_readRights) (maxL := 4) (ret := (some .boolean)) (by decide) rfl ?_
  intro p e s m args below meth c s₁ B hml hv
  obtain ⟨rfl, hpre⟩ := hv
  have hr := B.returns
  have hlocks := B.notSynchronized
  obtain ⟨hsz, -⟩ := id hpre
  subst hsz
  obtain ⟨E, hh⟩ := EV.ofPre (⟨B.exec, B.bytes, hml, findClass_of_methodNamed B.named, atoms_spec (ws := wsX7_readRights) B.pre⟩ : CallFix p m c cX7_readRights 4 s _ wsX7_readRights RX7) hpre
  have hx := E.1.1
  have hb := E.1.2.1
  have hown := E.1.2.2.2.1
  have hts := E.1.2.2.2.2
  have h_inX6 : ∀ w ∈ wsX60, w ∈ wsX7_readRights := (fun _ h9 => (List.mem_cons_of_mem _ (List.mem_append_right _ h9)))
  have h_inX7 : ∀ w ∈ wsX70, w ∈ wsX7_readRights := (fun _ h9 => (List.mem_cons_of_mem _ (List.mem_append_left _ (List.mem_append_right _ h9))))
  have hl := lv_entry ([.ref (G.2.1 3)]) (n := 4) (Nat.le_of_ble_eq_true rfl)
  rw [lg_entry_eq]
  generalize (lg_sl ([.ref (G.2.1 3)]) ++ List.replicate (4 - (lg_sl ([.ref (G.2.1 3)])).length) Slot.unset).toArray = ls at hl ⊢
  have hl : lv_has ls 4 [(0, .ref (G.2.1 3))] := hl
  unfold f_X7_readRights at h
  refine lv_aload_n hx hb dX7_readRights_0 rfl (lv_at hl 0 rfl) ?_
  refine q_get (T := TX7) (v := .ref (G.2.1 5)) E hh h_inX7 3 (WW_at_3 G σ) rfl 2 (by decide) (List.mem_cons_of_mem _ (List.mem_append_left _ (List.mem_append_left _ (List.mem_append_left _ (List.mem_of_getElem? (i := 0) rfl))))) rfl rfl dX7_readRights_1 ?_
  refine lv_iconst (v := (0 : Int32)) hx hb dX7_readRights_4 (by decide) ?_
  refine q_putN (T := TX6) (host := "IceRegatta") E hh h_inX6 tyX6 tyX6_ok nmX6 5 (WW_at_5 G σ) rfl 5 (by decide) (List.mem_of_getElem? (i := 10) rfl) rfl rfl (by decide +kernel) (Nat.le_of_ble_eq_true rfl) dX7_readRights_5 (WW_si_17 G σ (0 : Int32)) (fun H locs hh => ?_)
  refine lv_iconst (v := (0 : Int32)) hx hb dX7_readRights_8 (by decide) ?_
  refine lv_istore_n (lv' := [(1, .int (0 : Int32)), (0, .ref (G.2.1 3))]) hx hb dX7_readRights_9 rfl hl (by decide) rfl (fun ls hl => ?_)
  exact w_X7_readRights_10 E hr hlocks  FU _ _ _ _ _ h hh (lv_sub hl [1, 0] rfl)
def f_X7_readSemicolon (σ : St)  (Q : Int32 → St → Prop) : Prop :=
  f_X7_isSemicolonNext σ (fun r1 s1 => ((¬ r1 = 0 → Q (1 : Int32) (si s1 5 ((gi s1 5) + (1 : Int32)))) ∧ (r1 = 0 → f_X7_refuse s1 (1 : Int32) (gi s1 5) (fun r13 s13 => (zok .boolean r13 ∧ Q r13 s13)))))
set_option maxHeartbeats 4000000 in
set_option maxRecDepth 100000 in
theorem c_X7_readSemicolon (l : Launch) (G : GG) (σ : St) (sz : Nat)  (Q : Int32 → St → Prop) (h : f_X7_readSemicolon σ  Q) : CTi l yX7_readSemicolon wsX7_readSemicolon ({ frames := 3, cells := 0, slots := 0, locals := 61 }) [.ref (G.2.1 3)] G σ sz Q := by
  refine Met.ofW (cc := cX7_readSemicolon) (maxL := 1) (ret := (some .boolean)) (by decide) rfl ?_
  intro p e s m args below meth c s₁ B hml hv
  obtain ⟨rfl, hpre⟩ := hv
  have hr := B.returns
  have hlocks := B.notSynchronized
  obtain ⟨hsz, -⟩ := id hpre
  subst hsz
  obtain ⟨E, hh⟩ := EV.ofPre (⟨B.exec, B.bytes, hml, findClass_of_methodNamed B.named, atoms_spec (ws := wsX7_readSemicolon) B.pre⟩ : CallFix p m c cX7_readSemicolon 1 s _ wsX7_readSemicolon RX7) hpre
  have hx := E.1.1
  have hb := E.1.2.1
  have hown := E.1.2.2.2.1
  have hts := E.1.2.2.2.2
  have h_inX7 : ∀ w ∈ wsX70, w ∈ wsX7_readSemicolon := (fun _ h9 => (List.mem_cons_of_mem _ (List.mem_append_right _ h9)))
  have hl := lv_entry ([.ref (G.2.1 3)]) (n := 1) (Nat.le_of_ble_eq_true rfl)
  rw [lg_entry_eq]
  generalize (lg_sl ([.ref (G.2.1 3)]) ++ List.replicate (1 - (lg_sl ([.ref (G.2.1 3)])).length) Slot.unset).toArray = ls at hl ⊢
  have hl : lv_has ls 1 [(0, .ref (G.2.1 3))] := hl
  unfold f_X7_readSemicolon at h
  refine lv_aload_n hx hb dX7_readSemicolon_0 rfl (lv_at hl 0 rfl) ?_
  refine q_Vi (As := []) (rest := []) E hh (c_X7_isSemicolonNext l G _ _  _ h) (cwV 0 hts gX7_readSemicolon_X7_isSemicolonNext rfl rfl rfl (by decide +kernel) ⟨Nat.le_of_ble_eq_true rfl, Nat.le_of_ble_eq_true rfl⟩) (va_recv (ci := 7) E.2.1 hh.1 rfl (WW_at_3 G σ)) rfl hl.1 rfl (Nat.le_of_ble_eq_true rfl) dX7_readSemicolon_1 ⟨Nat.zero_le _, Nat.zero_le _⟩ (fun r1 s1 H locs h hh => ?_)
  refine lv_if_ne (tgt := 17) hx hb dX7_readSemicolon_4 (by decide) (fun c9 => ?_) (fun c9 => ?_)
  · have h := h.1 c9
    refine lv_aload_n hx hb dX7_readSemicolon_17 rfl (lv_at hl 0 rfl) ?_
    refine lv_dup hx hb dX7_readSemicolon_18 rfl ?_
    refine q_get (T := TX7) (v := .int (gi s1 5)) E hh h_inX7 3 (WW_at_3 G s1) rfl 4 (by decide) (List.mem_cons_of_mem _ (List.mem_append_left _ (List.mem_of_getElem? (i := 0) rfl))) rfl rfl dX7_readSemicolon_19 ?_
    refine lv_iconst (v := (1 : Int32)) hx hb dX7_readSemicolon_22 (by decide) ?_
    refine lv_iadd hx hb dX7_readSemicolon_23 ?_
    refine q_put (T := TX7) E hh h_inX7 tyX7 tyX7_ok nmX7 3 (WW_at_3 G s1) rfl 4 (by decide) (List.mem_cons_of_mem _ (List.mem_append_left _ (List.mem_of_getElem? (i := 0) rfl))) rfl rfl (by decide +kernel) (Nat.le_of_ble_eq_true rfl) dX7_readSemicolon_24 (WW_si_5 G s1 ((gi s1 5) + (1 : Int32))) (fun H locs hh => ?_)
    refine lv_iconst (v := (1 : Int32)) hx hb dX7_readSemicolon_27 (by decide) ?_
    exact q_zret (ty := .boolean) E hh hr hlocks rfl h dX7_readSemicolon_28
  · have h := h.2 c9
    refine lv_aload_n hx hb dX7_readSemicolon_7 rfl (lv_at hl 0 rfl) ?_
    refine lv_iconst (v := (1 : Int32)) hx hb dX7_readSemicolon_8 (by decide) ?_
    refine lv_aload_n hx hb dX7_readSemicolon_9 rfl (lv_at hl 0 rfl) ?_
    refine q_get (T := TX7) (v := .int (gi s1 5)) E hh h_inX7 3 (WW_at_3 G s1) rfl 4 (by decide) (List.mem_cons_of_mem _ (List.mem_append_left _ (List.mem_of_getElem? (i := 0) rfl))) rfl rfl dX7_readSemicolon_10 ?_
    refine q_Vi (As := [.int (1 : Int32), .int (gi s1 5)]) (rest := []) E hh (c_X7_refuse l G _ _ _ _ _ h) (cwV 2 hts gX7_readSemicolon_X7_refuse rfl rfl rfl (by decide +kernel) ⟨Nat.le_of_ble_eq_true rfl, Nat.le_of_ble_eq_true rfl⟩) (va_recv (ci := 7) E.2.1 hh.1 rfl (WW_at_3 G s1)) rfl hl.1 rfl (Nat.le_of_ble_eq_true rfl) dX7_readSemicolon_13 ⟨Nat.zero_le _, Nat.zero_le _⟩ (fun r13 s13 H locs h hh => ?_)
    exact q_zret (ty := .boolean) E hh hr hlocks h.1 h.2 dX7_readSemicolon_16
def f_X7_readClause_46 (Q : Int32 → St → Prop)  (σ : St) (l1 : Int32) (l2 : Int32) (l3 : Int32) : Prop :=
  (((gi σ 13) < (10 : Int32) → ((l2 = 0 → ((l3 = 0 → f_X7_readRights (si σ 13 ((gi σ 13) + (1 : Int32))) (fun r101 s101 => ((r101 = 0 → Q (0 : Int32) s101) ∧ (¬ r101 = 0 → f_X7_readSemicolon s101 (fun r112 s112 => ((r112 = 0 → Q (0 : Int32) s112) ∧ (¬ r112 = 0 → Q (1 : Int32) s112))))))) ∧ (¬ l3 = 0 → f_X7_readDrops (si σ 13 ((gi σ 13) + (1 : Int32))) (fun r94 s94 => ((r94 = 0 → Q (0 : Int32) s94) ∧ (¬ r94 = 0 → f_X7_readSemicolon s94 (fun r112 s112 => ((r112 = 0 → Q (0 : Int32) s112) ∧ (¬ r112 = 0 → Q (1 : Int32) s112))))))))) ∧ (¬ l2 = 0 → f_X7_readIce (si σ 13 ((gi σ 13) + (1 : Int32))) (fun r83 s83 => ((r83 = 0 → Q (0 : Int32) s83) ∧ (¬ r83 = 0 → f_X7_readSemicolon s83 (fun r112 s112 => ((r112 = 0 → Q (0 : Int32) s112) ∧ (¬ r112 = 0 → Q (1 : Int32) s112))))))))) ∧ (¬ (gi σ 13) < (10 : Int32) → f_X7_refuse σ (3 : Int32) l1 (fun r61 s61 => (zok .boolean r61 ∧ Q r61 s61))))
set_option maxHeartbeats 4000000 in
set_option maxRecDepth 100000 in
theorem w_X7_readClause_46 {p : Program} {l : Launch} {e : Env} {s : State} {m : MethodId} {args : Array Value} {below : List Frame} {meth : Method} {c : Code} {G : GG} (E : EV p s m args c cX7_readClause 5 wsX7_readClause RX7 G (AD G s.heap.size)) (hr : meth.sig.returnType = (some .boolean)) (hlocks : meth.locks = false) {Q : Int32 → St → Prop}  : ∀ (σ : St) (l1 : Int32) (l2 : Int32) (l3 : Int32) (H : Heap) (locs : List Loc) (ls : Array Slot), f_X7_readClause_46 Q  σ l1 l2 l3 → HH G (AD G s.heap.size) s σ H locs → lv_has ls 5 [(0, .ref (G.2.1 3)), (1, .int l1), (2, .int l2), (3, .int l3)] → W p l e ({ frames := 7, cells := 0, slots := 0, locals := 152 }) s m args below meth c H locs 0 0 (MQi below G args s Q) (F0 m 46 ls []) := by
  have hx := E.1.1
  have hb := E.1.2.1
  have hown := E.1.2.2.2.1
  have hts := E.1.2.2.2.2
  have h_inX6 : ∀ w ∈ wsX60, w ∈ wsX7_readClause := (fun _ h9 => (List.mem_cons_of_mem _ (List.mem_append_right _ h9)))
  have h_inX7 : ∀ w ∈ wsX70, w ∈ wsX7_readClause := (fun _ h9 => (List.mem_cons_of_mem _ (List.mem_append_left _ (List.mem_append_right _ h9))))
  intro σ l1 l2 l3 H locs ls h hh hl
  unfold f_X7_readClause_46 at h
  refine lv_aload_n hx hb dX7_readClause_46 rfl (lv_at hl 0 rfl) ?_
  refine q_get (T := TX7) (v := .ref (G.2.1 5)) E hh h_inX7 3 (WW_at_3 G σ) rfl 2 (by decide) (List.mem_cons_of_mem _ (List.mem_append_left _ (List.mem_append_left _ (List.mem_append_left _ (List.mem_of_getElem? (i := 0) rfl))))) rfl rfl dX7_readClause_47 ?_
  refine q_getN (T := TX6) (host := "IceRegatta") (v := .int (gi σ 13)) E hh h_inX6 5 (WW_at_5 G σ) rfl 0 (by decide) (List.mem_of_getElem? (i := 2) rfl) rfl rfl dX7_readClause_50 ?_
  refine lv_bipush (v := (10 : Int32)) hx hb dX7_readClause_53 (by decide) ?_
  refine lv_icmp_lt (tgt := 65) hx hb dX7_readClause_55 (by decide) (fun c9 => ?_) (fun c9 => ?_)
  · have h := h.1 c9
    refine lv_aload_n hx hb dX7_readClause_65 rfl (lv_at hl 0 rfl) ?_
    refine q_get (T := TX7) (v := .ref (G.2.1 5)) E hh h_inX7 3 (WW_at_3 G σ) rfl 2 (by decide) (List.mem_cons_of_mem _ (List.mem_append_left _ (List.mem_append_left _ (List.mem_append_left _ (List.mem_of_getElem? (i := 0) rfl))))) rfl rfl dX7_readClause_66 ?_
    refine lv_dup hx hb dX7_readClause_69 rfl ?_
    refine q_getN (T := TX6) (host := "IceRegatta") (v := .int (gi σ 13)) E hh h_inX6 5 (WW_at_5 G σ) rfl 0 (by decide) (List.mem_of_getElem? (i := 2) rfl) rfl rfl dX7_readClause_70 ?_
    refine lv_iconst (v := (1 : Int32)) hx hb dX7_readClause_73 (by decide) ?_
    refine lv_iadd hx hb dX7_readClause_74 ?_
    refine q_putN (T := TX6) (host := "IceRegatta") E hh h_inX6 tyX6 tyX6_ok nmX6 5 (WW_at_5 G σ) rfl 0 (by decide) (List.mem_of_getElem? (i := 2) rfl) rfl rfl (by decide +kernel) (Nat.le_of_ble_eq_true rfl) dX7_readClause_75 (WW_si_13 G σ ((gi σ 13) + (1 : Int32))) (fun H locs hh => ?_)
    refine lv_iload_n hx hb dX7_readClause_78 rfl (lv_at hl 2 rfl) ?_
    refine lv_if_eq (tgt := 89) hx hb dX7_readClause_79 (by decide) (fun c9 => ?_) (fun c9 => ?_)
    · have h := h.1 c9
      refine lv_iload_n hx hb dX7_readClause_89 rfl (lv_at hl 3 rfl) ?_
      refine lv_if_eq (tgt := 100) hx hb dX7_readClause_90 (by decide) (fun c9 => ?_) (fun c9 => ?_)
      · have h := h.1 c9
        refine lv_aload_n hx hb dX7_readClause_100 rfl (lv_at hl 0 rfl) ?_
        refine q_Vi (As := []) (rest := []) E hh (c_X7_readRights l G _ _  _ h) (cwV 0 hts gX7_readClause_X7_readRights rfl rfl rfl (by decide +kernel) ⟨Nat.le_of_ble_eq_true rfl, Nat.le_of_ble_eq_true rfl⟩) (va_recv (ci := 7) E.2.1 hh.1 rfl (WW_at_3 G (si σ 13 ((gi σ 13) + (1 : Int32))))) rfl hl.1 rfl (Nat.le_of_ble_eq_true rfl) dX7_readClause_101 ⟨Nat.zero_le _, Nat.zero_le _⟩ (fun r101 s101 H locs h hh => ?_)
        refine lv_istore (lv' := [(4, .int r101), (0, .ref (G.2.1 3)), (1, .int l1), (2, .int l2), (3, .int l3)]) hx hb dX7_readClause_104 hl (by decide) rfl (fun ls hl => ?_)
        refine lv_iload hx hb dX7_readClause_106 (lv_at hl 0 rfl) ?_
        refine lv_if_eq (tgt := 122) hx hb dX7_readClause_108 (by decide) (fun c9 => ?_) (fun c9 => ?_)
        · have h := h.1 c9
          refine lv_iconst (v := (0 : Int32)) hx hb dX7_readClause_122 (by decide) ?_
          exact q_zret (ty := .boolean) E hh hr hlocks rfl h dX7_readClause_123
        · have h := h.2 c9
          refine lv_aload_n hx hb dX7_readClause_111 rfl (lv_at hl 1 rfl) ?_
          refine q_Vi (As := []) (rest := []) E hh (c_X7_readSemicolon l G _ _  _ h) (cwV 0 hts gX7_readClause_X7_readSemicolon rfl rfl rfl (by decide +kernel) ⟨Nat.le_of_ble_eq_true rfl, Nat.le_of_ble_eq_true rfl⟩) (va_recv (ci := 7) E.2.1 hh.1 rfl (WW_at_3 G s101)) rfl hl.1 rfl (Nat.le_of_ble_eq_true rfl) dX7_readClause_112 ⟨Nat.zero_le _, Nat.zero_le _⟩ (fun r112 s112 H locs h hh => ?_)
          refine lv_if_eq (tgt := 122) hx hb dX7_readClause_115 (by decide) (fun c9 => ?_) (fun c9 => ?_)
          · have h := h.1 c9
            refine lv_iconst (v := (0 : Int32)) hx hb dX7_readClause_122 (by decide) ?_
            exact q_zret (ty := .boolean) E hh hr hlocks rfl h dX7_readClause_123
          · have h := h.2 c9
            refine lv_iconst (v := (1 : Int32)) hx hb dX7_readClause_118 (by decide) ?_
            refine lv_goto (tgt := 123) hx hb dX7_readClause_119 (by decide) ?_
            exact q_zret (ty := .boolean) E hh hr hlocks rfl h dX7_readClause_123
      · have h := h.2 c9
        refine lv_aload_n hx hb dX7_readClause_93 rfl (lv_at hl 0 rfl) ?_
        refine q_Vi (As := []) (rest := []) E hh (c_X7_readDrops l G _ _  _ h) (cwV 0 hts gX7_readClause_X7_readDrops rfl rfl rfl (by decide +kernel) ⟨Nat.le_of_ble_eq_true rfl, Nat.le_of_ble_eq_true rfl⟩) (va_recv (ci := 7) E.2.1 hh.1 rfl (WW_at_3 G (si σ 13 ((gi σ 13) + (1 : Int32))))) rfl hl.1 rfl (Nat.le_of_ble_eq_true rfl) dX7_readClause_94 ⟨Nat.zero_le _, Nat.zero_le _⟩ (fun r94 s94 H locs h hh => ?_)
        refine lv_goto (tgt := 104) hx hb dX7_readClause_97 (by decide) ?_
        refine lv_istore (lv' := [(4, .int r94), (0, .ref (G.2.1 3)), (1, .int l1), (2, .int l2), (3, .int l3)]) hx hb dX7_readClause_104 hl (by decide) rfl (fun ls hl => ?_)
        refine lv_iload hx hb dX7_readClause_106 (lv_at hl 0 rfl) ?_
        refine lv_if_eq (tgt := 122) hx hb dX7_readClause_108 (by decide) (fun c9 => ?_) (fun c9 => ?_)
        · have h := h.1 c9
          refine lv_iconst (v := (0 : Int32)) hx hb dX7_readClause_122 (by decide) ?_
          exact q_zret (ty := .boolean) E hh hr hlocks rfl h dX7_readClause_123
        · have h := h.2 c9
          refine lv_aload_n hx hb dX7_readClause_111 rfl (lv_at hl 1 rfl) ?_
          refine q_Vi (As := []) (rest := []) E hh (c_X7_readSemicolon l G _ _  _ h) (cwV 0 hts gX7_readClause_X7_readSemicolon rfl rfl rfl (by decide +kernel) ⟨Nat.le_of_ble_eq_true rfl, Nat.le_of_ble_eq_true rfl⟩) (va_recv (ci := 7) E.2.1 hh.1 rfl (WW_at_3 G s94)) rfl hl.1 rfl (Nat.le_of_ble_eq_true rfl) dX7_readClause_112 ⟨Nat.zero_le _, Nat.zero_le _⟩ (fun r112 s112 H locs h hh => ?_)
          refine lv_if_eq (tgt := 122) hx hb dX7_readClause_115 (by decide) (fun c9 => ?_) (fun c9 => ?_)
          · have h := h.1 c9
            refine lv_iconst (v := (0 : Int32)) hx hb dX7_readClause_122 (by decide) ?_
            exact q_zret (ty := .boolean) E hh hr hlocks rfl h dX7_readClause_123
          · have h := h.2 c9
            refine lv_iconst (v := (1 : Int32)) hx hb dX7_readClause_118 (by decide) ?_
            refine lv_goto (tgt := 123) hx hb dX7_readClause_119 (by decide) ?_
            exact q_zret (ty := .boolean) E hh hr hlocks rfl h dX7_readClause_123
    · have h := h.2 c9
      refine lv_aload_n hx hb dX7_readClause_82 rfl (lv_at hl 0 rfl) ?_
      refine q_Vi (As := []) (rest := []) E hh (c_X7_readIce l G _ _  _ h) (cwV 0 hts gX7_readClause_X7_readIce rfl rfl rfl (by decide +kernel) ⟨Nat.le_of_ble_eq_true rfl, Nat.le_of_ble_eq_true rfl⟩) (va_recv (ci := 7) E.2.1 hh.1 rfl (WW_at_3 G (si σ 13 ((gi σ 13) + (1 : Int32))))) rfl hl.1 rfl (Nat.le_of_ble_eq_true rfl) dX7_readClause_83 ⟨Nat.zero_le _, Nat.zero_le _⟩ (fun r83 s83 H locs h hh => ?_)
      refine lv_goto (tgt := 104) hx hb dX7_readClause_86 (by decide) ?_
      refine lv_istore (lv' := [(4, .int r83), (0, .ref (G.2.1 3)), (1, .int l1), (2, .int l2), (3, .int l3)]) hx hb dX7_readClause_104 hl (by decide) rfl (fun ls hl => ?_)
      refine lv_iload hx hb dX7_readClause_106 (lv_at hl 0 rfl) ?_
      refine lv_if_eq (tgt := 122) hx hb dX7_readClause_108 (by decide) (fun c9 => ?_) (fun c9 => ?_)
      · have h := h.1 c9
        refine lv_iconst (v := (0 : Int32)) hx hb dX7_readClause_122 (by decide) ?_
        exact q_zret (ty := .boolean) E hh hr hlocks rfl h dX7_readClause_123
      · have h := h.2 c9
        refine lv_aload_n hx hb dX7_readClause_111 rfl (lv_at hl 1 rfl) ?_
        refine q_Vi (As := []) (rest := []) E hh (c_X7_readSemicolon l G _ _  _ h) (cwV 0 hts gX7_readClause_X7_readSemicolon rfl rfl rfl (by decide +kernel) ⟨Nat.le_of_ble_eq_true rfl, Nat.le_of_ble_eq_true rfl⟩) (va_recv (ci := 7) E.2.1 hh.1 rfl (WW_at_3 G s83)) rfl hl.1 rfl (Nat.le_of_ble_eq_true rfl) dX7_readClause_112 ⟨Nat.zero_le _, Nat.zero_le _⟩ (fun r112 s112 H locs h hh => ?_)
        refine lv_if_eq (tgt := 122) hx hb dX7_readClause_115 (by decide) (fun c9 => ?_) (fun c9 => ?_)
        · have h := h.1 c9
          refine lv_iconst (v := (0 : Int32)) hx hb dX7_readClause_122 (by decide) ?_
          exact q_zret (ty := .boolean) E hh hr hlocks rfl h dX7_readClause_123
        · have h := h.2 c9
          refine lv_iconst (v := (1 : Int32)) hx hb dX7_readClause_118 (by decide) ?_
          refine lv_goto (tgt := 123) hx hb dX7_readClause_119 (by decide) ?_
          exact q_zret (ty := .boolean) E hh hr hlocks rfl h dX7_readClause_123
  · have h := h.2 c9
    refine lv_aload_n hx hb dX7_readClause_58 rfl (lv_at hl 0 rfl) ?_
    refine lv_iconst (v := (3 : Int32)) hx hb dX7_readClause_59 (by decide) ?_
    refine lv_iload_n hx hb dX7_readClause_60 rfl (lv_at hl 1 rfl) ?_
    refine q_Vi (As := [.int (3 : Int32), .int l1]) (rest := []) E hh (c_X7_refuse l G _ _ _ _ _ h) (cwV 2 hts gX7_readClause_X7_refuse rfl rfl rfl (by decide +kernel) ⟨Nat.le_of_ble_eq_true rfl, Nat.le_of_ble_eq_true rfl⟩) (va_recv (ci := 7) E.2.1 hh.1 rfl (WW_at_3 G σ)) rfl hl.1 rfl (Nat.le_of_ble_eq_true rfl) dX7_readClause_61 ⟨Nat.zero_le _, Nat.zero_le _⟩ (fun r61 s61 H locs h hh => ?_)
    exact q_zret (ty := .boolean) E hh hr hlocks h.1 h.2 dX7_readClause_64
def f_X7_readClause (σ : St)  (Q : Int32 → St → Prop) : Prop :=
  f_X7_readWord σ (fun r1 s1 => f_X7_isWord s1 r1 0 (fun r9 s9 => f_X7_isWord s9 r1 1 (fun r17 s17 => ((¬ r9 = 0 → f_X7_readClause_46 Q s17 r1 r9 r17) ∧ (r9 = 0 → ((¬ r17 = 0 → f_X7_readClause_46 Q s17 r1 r9 r17) ∧ (r17 = 0 → f_X7_isWord s17 r1 2 (fun r33 s33 => ((¬ r33 = 0 → f_X7_readClause_46 Q s33 r1 r9 r17) ∧ (r33 = 0 → f_X7_refuse s33 (1 : Int32) r1 (fun r42 s42 => (zok .boolean r42 ∧ Q r42 s42))))))))))))
set_option maxHeartbeats 4000000 in
set_option maxRecDepth 100000 in
theorem c_X7_readClause (l : Launch) (G : GG) (σ : St) (sz : Nat)  (Q : Int32 → St → Prop) (h : f_X7_readClause σ  Q) : CTi l yX7_readClause wsX7_readClause ({ frames := 7, cells := 0, slots := 0, locals := 152 }) [.ref (G.2.1 3)] G σ sz Q := by
  refine Met.ofW (cc := cX7_readClause) (maxL := 5) (ret := (some .boolean)) (by decide) rfl ?_
  intro p e s m args below meth c s₁ B hml hv
  obtain ⟨rfl, hpre⟩ := hv
  have hr := B.returns
  have hlocks := B.notSynchronized
  obtain ⟨hsz, -⟩ := id hpre
  subst hsz
  obtain ⟨E, hh⟩ := EV.ofPre (⟨B.exec, B.bytes, hml, findClass_of_methodNamed B.named, atoms_spec (ws := wsX7_readClause) B.pre⟩ : CallFix p m c cX7_readClause 5 s _ wsX7_readClause RX7) hpre
  have hx := E.1.1
  have hb := E.1.2.1
  have hown := E.1.2.2.2.1
  have hts := E.1.2.2.2.2
  have h_inX6 : ∀ w ∈ wsX60, w ∈ wsX7_readClause := (fun _ h9 => (List.mem_cons_of_mem _ (List.mem_append_right _ h9)))
  have h_inX7 : ∀ w ∈ wsX70, w ∈ wsX7_readClause := (fun _ h9 => (List.mem_cons_of_mem _ (List.mem_append_left _ (List.mem_append_right _ h9))))
  have hl := lv_entry ([.ref (G.2.1 3)]) (n := 5) (Nat.le_of_ble_eq_true rfl)
  rw [lg_entry_eq]
  generalize (lg_sl ([.ref (G.2.1 3)]) ++ List.replicate (5 - (lg_sl ([.ref (G.2.1 3)])).length) Slot.unset).toArray = ls at hl ⊢
  have hl : lv_has ls 5 [(0, .ref (G.2.1 3))] := hl
  unfold f_X7_readClause at h
  refine lv_aload_n hx hb dX7_readClause_0 rfl (lv_at hl 0 rfl) ?_
  refine q_Vi (As := []) (rest := []) E hh (c_X7_readWord l G _ _  _ h) (cwV 0 hts gX7_readClause_X7_readWord rfl rfl rfl (by decide +kernel) ⟨Nat.le_of_ble_eq_true rfl, Nat.le_of_ble_eq_true rfl⟩) (va_recv (ci := 7) E.2.1 hh.1 rfl (WW_at_3 G σ)) rfl hl.1 rfl (Nat.le_of_ble_eq_true rfl) dX7_readClause_1 ⟨Nat.zero_le _, Nat.zero_le _⟩ (fun r1 s1 H locs h hh => ?_)
  refine lv_istore_n (lv' := [(1, .int r1), (0, .ref (G.2.1 3))]) hx hb dX7_readClause_4 rfl hl (by decide) rfl (fun ls hl => ?_)
  refine lv_aload_n hx hb dX7_readClause_5 rfl (lv_at hl 1 rfl) ?_
  refine lv_iload_n hx hb dX7_readClause_6 rfl (lv_at hl 0 rfl) ?_
  refine va_ldcS (own := RX7) (q := G.2.2 (20 + 0)) hx hb hown (E.2.2.2.1.1.2.2.1 ("IceRegatta$Tape", 61, "ice", 20) (List.mem_of_getElem? (i := 0) rfl)) dX7_readClause_7 ?_
  refine q_Vi (As := [.int r1, .ref (G.2.2 (20 + 0))]) (rest := []) E hh (c_X7_isWord l G _ _ _ _ _ h) (cwV 2 hts gX7_readClause_X7_isWord rfl rfl rfl (by decide +kernel) ⟨Nat.le_of_ble_eq_true rfl, Nat.le_of_ble_eq_true rfl⟩) (va_recv (ci := 7) E.2.1 hh.1 rfl (WW_at_3 G s1)) rfl hl.1 rfl (Nat.le_of_ble_eq_true rfl) dX7_readClause_9 ⟨Nat.zero_le _, Nat.zero_le _⟩ (fun r9 s9 H locs h hh => ?_)
  refine lv_istore_n (lv' := [(2, .int r9), (1, .int r1), (0, .ref (G.2.1 3))]) hx hb dX7_readClause_12 rfl hl (by decide) rfl (fun ls hl => ?_)
  refine lv_aload_n hx hb dX7_readClause_13 rfl (lv_at hl 2 rfl) ?_
  refine lv_iload_n hx hb dX7_readClause_14 rfl (lv_at hl 1 rfl) ?_
  refine va_ldcS (own := RX7) (q := G.2.2 (20 + 1)) hx hb hown (E.2.2.2.1.1.2.2.1 ("IceRegatta$Tape", 67, "drop", 21) (List.mem_of_getElem? (i := 1) rfl)) dX7_readClause_15 ?_
  refine q_Vi (As := [.int r1, .ref (G.2.2 (20 + 1))]) (rest := []) E hh (c_X7_isWord l G _ _ _ _ _ h) (cwV 2 hts gX7_readClause_X7_isWord rfl rfl rfl (by decide +kernel) ⟨Nat.le_of_ble_eq_true rfl, Nat.le_of_ble_eq_true rfl⟩) (va_recv (ci := 7) E.2.1 hh.1 rfl (WW_at_3 G s9)) rfl hl.1 rfl (Nat.le_of_ble_eq_true rfl) dX7_readClause_17 ⟨Nat.zero_le _, Nat.zero_le _⟩ (fun r17 s17 H locs h hh => ?_)
  refine lv_istore_n (lv' := [(3, .int r17), (2, .int r9), (1, .int r1), (0, .ref (G.2.1 3))]) hx hb dX7_readClause_20 rfl hl (by decide) rfl (fun ls hl => ?_)
  refine lv_iload_n hx hb dX7_readClause_21 rfl (lv_at hl 1 rfl) ?_
  refine lv_if_ne (tgt := 46) hx hb dX7_readClause_22 (by decide) (fun c9 => ?_) (fun c9 => ?_)
  · have h := h.1 c9
    exact w_X7_readClause_46 E hr hlocks  _ _ _ _ _ _ _ h hh (lv_sub hl [3, 2, 1, 0] rfl)
  · have h := h.2 c9
    refine lv_iload_n hx hb dX7_readClause_25 rfl (lv_at hl 0 rfl) ?_
    refine lv_if_ne (tgt := 46) hx hb dX7_readClause_26 (by decide) (fun c9 => ?_) (fun c9 => ?_)
    · have h := h.1 c9
      exact w_X7_readClause_46 E hr hlocks  _ _ _ _ _ _ _ h hh (lv_sub hl [3, 2, 1, 0] rfl)
    · have h := h.2 c9
      refine lv_aload_n hx hb dX7_readClause_29 rfl (lv_at hl 3 rfl) ?_
      refine lv_iload_n hx hb dX7_readClause_30 rfl (lv_at hl 2 rfl) ?_
      refine va_ldcS (own := RX7) (q := G.2.2 (20 + 2)) hx hb hown (E.2.2.2.1.1.2.2.1 ("IceRegatta$Tape", 69, "way", 22) (List.mem_of_getElem? (i := 2) rfl)) dX7_readClause_31 ?_
      refine q_Vi (As := [.int r1, .ref (G.2.2 (20 + 2))]) (rest := []) E hh (c_X7_isWord l G _ _ _ _ _ h) (cwV 2 hts gX7_readClause_X7_isWord rfl rfl rfl (by decide +kernel) ⟨Nat.le_of_ble_eq_true rfl, Nat.le_of_ble_eq_true rfl⟩) (va_recv (ci := 7) E.2.1 hh.1 rfl (WW_at_3 G s17)) rfl hl.1 rfl (Nat.le_of_ble_eq_true rfl) dX7_readClause_33 ⟨Nat.zero_le _, Nat.zero_le _⟩ (fun r33 s33 H locs h hh => ?_)
      refine lv_if_ne (tgt := 46) hx hb dX7_readClause_36 (by decide) (fun c9 => ?_) (fun c9 => ?_)
      · have h := h.1 c9
        exact w_X7_readClause_46 E hr hlocks  _ _ _ _ _ _ _ h hh (lv_sub hl [3, 2, 1, 0] rfl)
      · have h := h.2 c9
        refine lv_aload_n hx hb dX7_readClause_39 rfl (lv_at hl 3 rfl) ?_
        refine lv_iconst (v := (1 : Int32)) hx hb dX7_readClause_40 (by decide) ?_
        refine lv_iload_n hx hb dX7_readClause_41 rfl (lv_at hl 2 rfl) ?_
        refine q_Vi (As := [.int (1 : Int32), .int r1]) (rest := []) E hh (c_X7_refuse l G _ _ _ _ _ h) (cwV 2 hts gX7_readClause_X7_refuse rfl rfl rfl (by decide +kernel) ⟨Nat.le_of_ble_eq_true rfl, Nat.le_of_ble_eq_true rfl⟩) (va_recv (ci := 7) E.2.1 hh.1 rfl (WW_at_3 G s33)) rfl hl.1 rfl (Nat.le_of_ble_eq_true rfl) dX7_readClause_42 ⟨Nat.zero_le _, Nat.zero_le _⟩ (fun r42 s42 H locs h hh => ?_)
        exact q_zret (ty := .boolean) E hh hr hlocks h.1 h.2 dX7_readClause_45
def f_X7_readRule_40 (Q : Int32 → St → Prop)  (rec : St → Int32 → Prop) (σ : St) (l2 : Int32) : Prop :=
  (((10 : Int32) < l2 → Q (gi σ 6) σ) ∧ (¬ (10 : Int32) < l2 → f_X7_skipBlanks σ (fun s47 => (((gi s47 4) ≤ (gi s47 5) → Q (gi s47 6) s47) ∧ (¬ (gi s47 4) ≤ (gi s47 5) → f_X7_readClause s47 (fun r62 s62 => ((¬ r62 = 0 → rec s62 (l2 + 1)) ∧ (r62 = 0 → Q (gi s62 6) s62))))))))
def f_X7_readRule_40L (Q : Int32 → St → Prop)  : Nat → St → Int32 → Prop
  | 0, _, _ => False
  | n + 1, σ, l2 => f_X7_readRule_40 Q  (f_X7_readRule_40L Q  n) σ l2
set_option maxHeartbeats 4000000 in
set_option maxRecDepth 100000 in
theorem w_X7_readRule_40 {p : Program} {l : Launch} {e : Env} {s : State} {m : MethodId} {args : Array Value} {below : List Frame} {meth : Method} {c : Code} {G : GG} (E : EV p s m args c cX7_readRule 3 wsX7_readRule RX7 G (AD G s.heap.size)) (hr : meth.sig.returnType = (some .int)) (hlocks : meth.locks = false) {Q : Int32 → St → Prop}  : ∀ (n : Nat) (σ : St) (l2 : Int32) (H : Heap) (locs : List Loc) (ls : Array Slot), f_X7_readRule_40L Q  n σ l2 → HH G (AD G s.heap.size) s σ H locs → lv_has ls 3 [(0, .ref (G.2.1 3)), (2, .int l2)] → W p l e ({ frames := 8, cells := 0, slots := 0, locals := 176 }) s m args below meth c H locs 0 0 (MQi below G args s Q) (F0 m 40 ls []) := by
  have hx := E.1.1
  have hb := E.1.2.1
  have hown := E.1.2.2.2.1
  have hts := E.1.2.2.2.2
  have h_inX7 : ∀ w ∈ wsX70, w ∈ wsX7_readRule := (fun _ h9 => (List.mem_cons_of_mem _ (List.mem_append_left _ (List.mem_append_right _ h9))))
  intro n
  induction n with
  | zero =>
    intro σ l2 H locs ls h
    exact h.elim
  | succ n ih =>
    intro σ l2 H locs ls h hh hl
    have h : f_X7_readRule_40 Q  (f_X7_readRule_40L Q  n) σ l2 := h
    unfold f_X7_readRule_40 at h
    refine lv_iload_n hx hb dX7_readRule_40 rfl (lv_at hl 1 rfl) ?_
    refine lv_bipush (v := (10 : Int32)) hx hb dX7_readRule_41 (by decide) ?_
    refine lv_icmp_gt (tgt := 79) hx hb dX7_readRule_43 (by decide) (fun c9 => ?_) (fun c9 => ?_)
    · have h := h.1 c9
      refine lv_aload_n hx hb dX7_readRule_79 rfl (lv_at hl 0 rfl) ?_
      refine q_get (T := TX7) (v := .int (gi σ 6)) E hh h_inX7 3 (WW_at_3 G σ) rfl 5 (by decide) (List.mem_cons_of_mem _ (List.mem_append_left _ (List.mem_append_left _ (List.mem_append_left _ (List.mem_of_getElem? (i := 10) rfl))))) rfl rfl dX7_readRule_80 ?_
      exact q_iret E hh hr hlocks h dX7_readRule_83
    · have h := h.2 c9
      refine lv_aload_n hx hb dX7_readRule_46 rfl (lv_at hl 0 rfl) ?_
      refine q_Vv (As := []) (rest := []) E hh (c_X7_skipBlanks l G _ _  _ h) (cwV 0 hts gX7_readRule_X7_skipBlanks rfl rfl rfl (by decide +kernel) ⟨Nat.le_of_ble_eq_true rfl, Nat.le_of_ble_eq_true rfl⟩) (va_recv (ci := 7) E.2.1 hh.1 rfl (WW_at_3 G σ)) rfl hl.1 rfl (Nat.le_of_ble_eq_true rfl) dX7_readRule_47 ⟨Nat.zero_le _, Nat.zero_le _⟩ (fun s47 H locs h hh => ?_)
      refine lv_aload_n hx hb dX7_readRule_50 rfl (lv_at hl 0 rfl) ?_
      refine q_get (T := TX7) (v := .int (gi s47 5)) E hh h_inX7 3 (WW_at_3 G s47) rfl 4 (by decide) (List.mem_cons_of_mem _ (List.mem_append_left _ (List.mem_append_left _ (List.mem_append_left _ (List.mem_of_getElem? (i := 9) rfl))))) rfl rfl dX7_readRule_51 ?_
      refine lv_aload_n hx hb dX7_readRule_54 rfl (lv_at hl 0 rfl) ?_
      refine q_get (T := TX7) (v := .int (gi s47 4)) E hh h_inX7 3 (WW_at_3 G s47) rfl 3 (by decide) (List.mem_cons_of_mem _ (List.mem_append_left _ (List.mem_append_left _ (List.mem_append_left _ (List.mem_of_getElem? (i := 8) rfl))))) rfl rfl dX7_readRule_55 ?_
      refine lv_icmp_ge (tgt := 68) hx hb dX7_readRule_58 (by decide) (fun c9 => ?_) (fun c9 => ?_)
      · have h := h.1 c9
        refine lv_aload_n hx hb dX7_readRule_68 rfl (lv_at hl 0 rfl) ?_
        refine q_get (T := TX7) (v := .int (gi s47 6)) E hh h_inX7 3 (WW_at_3 G s47) rfl 5 (by decide) (List.mem_cons_of_mem _ (List.mem_append_left _ (List.mem_append_left _ (List.mem_append_left _ (List.mem_of_getElem? (i := 10) rfl))))) rfl rfl dX7_readRule_69 ?_
        exact q_iret E hh hr hlocks h dX7_readRule_72
      · have h := h.2 c9
        refine lv_aload_n hx hb dX7_readRule_61 rfl (lv_at hl 0 rfl) ?_
        refine q_Vi (As := []) (rest := []) E hh (c_X7_readClause l G _ _  _ h) (cwV 0 hts gX7_readRule_X7_readClause rfl rfl rfl (by decide +kernel) ⟨Nat.le_of_ble_eq_true rfl, Nat.le_of_ble_eq_true rfl⟩) (va_recv (ci := 7) E.2.1 hh.1 rfl (WW_at_3 G s47)) rfl hl.1 rfl (Nat.le_of_ble_eq_true rfl) dX7_readRule_62 ⟨Nat.zero_le _, Nat.zero_le _⟩ (fun r62 s62 H locs h hh => ?_)
        refine lv_if_ne (tgt := 73) hx hb dX7_readRule_65 (by decide) (fun c9 => ?_) (fun c9 => ?_)
        · have h := h.1 c9
          refine lv_iinc (v := (l2 + 1)) (lv' := [(2, .int (l2 + 1)), (0, .ref (G.2.1 3))]) hx hb dX7_readRule_73 hl (k := 1) rfl rfl (by decide) rfl (fun ls hl => ?_)
          refine lv_goto (tgt := 40) hx hb dX7_readRule_76 (by decide) ?_
          exact ih _ _ _ _ _ h hh (lv_sub hl [1, 0] rfl)
        · have h := h.2 c9
          refine lv_aload_n hx hb dX7_readRule_68 rfl (lv_at hl 0 rfl) ?_
          refine q_get (T := TX7) (v := .int (gi s62 6)) E hh h_inX7 3 (WW_at_3 G s62) rfl 5 (by decide) (List.mem_cons_of_mem _ (List.mem_append_left _ (List.mem_append_left _ (List.mem_append_left _ (List.mem_of_getElem? (i := 10) rfl))))) rfl rfl dX7_readRule_69 ?_
          exact q_iret E hh hr hlocks h dX7_readRule_72
def f_X7_readRule (σ : St) (p1 : Int32) (Q : Int32 → St → Prop) : Prop :=
  f_X6_forget (si (si (si (si σ 4 (if (0 : Int32) < (if (gi σ 3) < p1 then (gi σ 3) else p1) then (if (gi σ 3) < p1 then (gi σ 3) else p1) else (0 : Int32))) 5 (0 : Int32)) 6 (0 : Int32)) 7 (-1 : Int32)) (fun s35 => f_X7_readRule_40L Q FU s35 (0 : Int32))
set_option maxHeartbeats 4000000 in
set_option maxRecDepth 100000 in
theorem c_X7_readRule (l : Launch) (G : GG) (σ : St) (sz : Nat) (p1 : Int32) (Q : Int32 → St → Prop) (h : f_X7_readRule σ p1 Q) : CTi l yX7_readRule wsX7_readRule ({ frames := 8, cells := 0, slots := 0, locals := 176 }) [.ref (G.2.1 3), .int p1] G σ sz Q := by
  refine Met.ofW (cc := cX7_readRule) (maxL := 3) (ret := (some .int)) (by decide) rfl ?_
  intro p e s m args below meth c s₁ B hml hv
  obtain ⟨rfl, hpre⟩ := hv
  have hr := B.returns
  have hlocks := B.notSynchronized
  obtain ⟨hsz, -⟩ := id hpre
  subst hsz
  obtain ⟨E, hh⟩ := EV.ofPre (⟨B.exec, B.bytes, hml, findClass_of_methodNamed B.named, atoms_spec (ws := wsX7_readRule) B.pre⟩ : CallFix p m c cX7_readRule 3 s _ wsX7_readRule RX7) hpre
  have hx := E.1.1
  have hb := E.1.2.1
  have hown := E.1.2.2.2.1
  have hts := E.1.2.2.2.2
  have h_inX7 : ∀ w ∈ wsX70, w ∈ wsX7_readRule := (fun _ h9 => (List.mem_cons_of_mem _ (List.mem_append_left _ (List.mem_append_right _ h9))))
  have hl := lv_entry ([.ref (G.2.1 3), .int p1]) (n := 3) (Nat.le_of_ble_eq_true rfl)
  rw [lg_entry_eq]
  generalize (lg_sl ([.ref (G.2.1 3), .int p1]) ++ List.replicate (3 - (lg_sl ([.ref (G.2.1 3), .int p1])).length) Slot.unset).toArray = ls at hl ⊢
  have hl : lv_has ls 3 [(0, .ref (G.2.1 3)), (1, .int p1)] := hl
  unfold f_X7_readRule at h
  refine lv_aload_n hx hb dX7_readRule_0 rfl (lv_at hl 0 rfl) ?_
  refine lv_iconst (v := (0 : Int32)) hx hb dX7_readRule_1 (by decide) ?_
  refine lv_iload_n hx hb dX7_readRule_2 rfl (lv_at hl 1 rfl) ?_
  refine lv_aload_n hx hb dX7_readRule_3 rfl (lv_at hl 0 rfl) ?_
  refine q_get (T := TX7) (v := .int (gi σ 3)) E hh h_inX7 3 (WW_at_3 G σ) rfl 1 (by decide) (List.mem_cons_of_mem _ (List.mem_append_left _ (List.mem_append_left _ (List.mem_append_left _ (List.mem_of_getElem? (i := 0) rfl))))) rfl rfl dX7_readRule_4 ?_
  refine va_mmin (own := RX7) hx hb (by rw [E.1.2.2.1]; exact hl.1.symm) hown (hts _ (List.mem_cons_of_mem _ (List.mem_append_left _ (List.mem_append_left _ (List.mem_append_left _ (List.mem_of_getElem? (i := 1) rfl)))))) (hts _ (List.mem_cons_of_mem _ (List.mem_append_left _ (List.mem_append_left _ (List.mem_append_left _ (List.mem_of_getElem? (i := 2) rfl)))))) (hts _ (List.mem_cons_of_mem _ (List.mem_append_left _ (List.mem_append_left _ (List.mem_append_left _ (List.mem_of_getElem? (i := 3) rfl)))))) (hts _ (List.mem_cons_of_mem _ (List.mem_append_left _ (List.mem_append_left _ (List.mem_append_left _ (List.mem_of_getElem? (i := 4) rfl)))))) (Nat.le_of_ble_eq_true rfl) (Nat.le_of_ble_eq_true rfl) (Nat.zero_le _) (Nat.zero_le _) dX7_readRule_7 ?_
  refine va_mmax (own := RX7) hx hb (by rw [E.1.2.2.1]; exact hl.1.symm) hown (hts _ (List.mem_cons_of_mem _ (List.mem_append_left _ (List.mem_append_left _ (List.mem_append_left _ (List.mem_of_getElem? (i := 5) rfl)))))) (hts _ (List.mem_cons_of_mem _ (List.mem_append_left _ (List.mem_append_left _ (List.mem_append_left _ (List.mem_of_getElem? (i := 6) rfl)))))) (hts _ (List.mem_cons_of_mem _ (List.mem_append_left _ (List.mem_append_left _ (List.mem_append_left _ (List.mem_of_getElem? (i := 3) rfl)))))) (hts _ (List.mem_cons_of_mem _ (List.mem_append_left _ (List.mem_append_left _ (List.mem_append_left _ (List.mem_of_getElem? (i := 7) rfl)))))) (Nat.le_of_ble_eq_true rfl) (Nat.le_of_ble_eq_true rfl) (Nat.zero_le _) (Nat.zero_le _) dX7_readRule_10 ?_
  refine q_put (T := TX7) E hh h_inX7 tyX7 tyX7_ok nmX7 3 (WW_at_3 G σ) rfl 3 (by decide) (List.mem_cons_of_mem _ (List.mem_append_left _ (List.mem_append_left _ (List.mem_append_left _ (List.mem_of_getElem? (i := 8) rfl))))) rfl rfl (by decide +kernel) (Nat.le_of_ble_eq_true rfl) dX7_readRule_13 (WW_si_4 G σ (if (0 : Int32) < (if (gi σ 3) < p1 then (gi σ 3) else p1) then (if (gi σ 3) < p1 then (gi σ 3) else p1) else (0 : Int32))) (fun H locs hh => ?_)
  refine lv_aload_n hx hb dX7_readRule_16 rfl (lv_at hl 0 rfl) ?_
  refine lv_iconst (v := (0 : Int32)) hx hb dX7_readRule_17 (by decide) ?_
  refine q_put (T := TX7) E hh h_inX7 tyX7 tyX7_ok nmX7 3 (WW_at_3 G (si σ 4 (if (0 : Int32) < (if (gi σ 3) < p1 then (gi σ 3) else p1) then (if (gi σ 3) < p1 then (gi σ 3) else p1) else (0 : Int32)))) rfl 4 (by decide) (List.mem_cons_of_mem _ (List.mem_append_left _ (List.mem_append_left _ (List.mem_append_left _ (List.mem_of_getElem? (i := 9) rfl))))) rfl rfl (by decide +kernel) (Nat.le_of_ble_eq_true rfl) dX7_readRule_18 (WW_si_5 G (si σ 4 (if (0 : Int32) < (if (gi σ 3) < p1 then (gi σ 3) else p1) then (if (gi σ 3) < p1 then (gi σ 3) else p1) else (0 : Int32))) (0 : Int32)) (fun H locs hh => ?_)
  refine lv_aload_n hx hb dX7_readRule_21 rfl (lv_at hl 0 rfl) ?_
  refine lv_iconst (v := (0 : Int32)) hx hb dX7_readRule_22 (by decide) ?_
  refine q_put (T := TX7) E hh h_inX7 tyX7 tyX7_ok nmX7 3 (WW_at_3 G (si (si σ 4 (if (0 : Int32) < (if (gi σ 3) < p1 then (gi σ 3) else p1) then (if (gi σ 3) < p1 then (gi σ 3) else p1) else (0 : Int32))) 5 (0 : Int32))) rfl 5 (by decide) (List.mem_cons_of_mem _ (List.mem_append_left _ (List.mem_append_left _ (List.mem_append_left _ (List.mem_of_getElem? (i := 10) rfl))))) rfl rfl (by decide +kernel) (Nat.le_of_ble_eq_true rfl) dX7_readRule_23 (WW_si_6 G (si (si σ 4 (if (0 : Int32) < (if (gi σ 3) < p1 then (gi σ 3) else p1) then (if (gi σ 3) < p1 then (gi σ 3) else p1) else (0 : Int32))) 5 (0 : Int32)) (0 : Int32)) (fun H locs hh => ?_)
  refine lv_aload_n hx hb dX7_readRule_26 rfl (lv_at hl 0 rfl) ?_
  refine lv_iconst (v := (-1 : Int32)) hx hb dX7_readRule_27 (by decide) ?_
  refine q_put (T := TX7) E hh h_inX7 tyX7 tyX7_ok nmX7 3 (WW_at_3 G (si (si (si σ 4 (if (0 : Int32) < (if (gi σ 3) < p1 then (gi σ 3) else p1) then (if (gi σ 3) < p1 then (gi σ 3) else p1) else (0 : Int32))) 5 (0 : Int32)) 6 (0 : Int32))) rfl 6 (by decide) (List.mem_cons_of_mem _ (List.mem_append_left _ (List.mem_append_left _ (List.mem_append_left _ (List.mem_of_getElem? (i := 11) rfl))))) rfl rfl (by decide +kernel) (Nat.le_of_ble_eq_true rfl) dX7_readRule_28 (WW_si_7 G (si (si (si σ 4 (if (0 : Int32) < (if (gi σ 3) < p1 then (gi σ 3) else p1) then (if (gi σ 3) < p1 then (gi σ 3) else p1) else (0 : Int32))) 5 (0 : Int32)) 6 (0 : Int32)) (-1 : Int32)) (fun H locs hh => ?_)
  refine lv_aload_n hx hb dX7_readRule_31 rfl (lv_at hl 0 rfl) ?_
  refine q_get (T := TX7) (v := .ref (G.2.1 5)) E hh h_inX7 3 (WW_at_3 G (si (si (si (si σ 4 (if (0 : Int32) < (if (gi σ 3) < p1 then (gi σ 3) else p1) then (if (gi σ 3) < p1 then (gi σ 3) else p1) else (0 : Int32))) 5 (0 : Int32)) 6 (0 : Int32)) 7 (-1 : Int32))) rfl 2 (by decide) (List.mem_cons_of_mem _ (List.mem_append_left _ (List.mem_append_left _ (List.mem_append_left _ (List.mem_of_getElem? (i := 12) rfl))))) rfl rfl dX7_readRule_32 ?_
  refine q_Vv (As := []) (rest := []) E hh (c_X6_forget l G _ _  _ h) (cwV 0 hts gX7_readRule_X6_forget rfl rfl rfl (by decide +kernel) ⟨Nat.le_of_ble_eq_true rfl, Nat.le_of_ble_eq_true rfl⟩) (va_recv (ci := 6) E.2.1 hh.1 rfl (WW_at_5 G (si (si (si (si σ 4 (if (0 : Int32) < (if (gi σ 3) < p1 then (gi σ 3) else p1) then (if (gi σ 3) < p1 then (gi σ 3) else p1) else (0 : Int32))) 5 (0 : Int32)) 6 (0 : Int32)) 7 (-1 : Int32)))) rfl hl.1 rfl (Nat.le_of_ble_eq_true rfl) dX7_readRule_35 ⟨Nat.zero_le _, Nat.zero_le _⟩ (fun s35 H locs h hh => ?_)
  refine lv_iconst (v := (0 : Int32)) hx hb dX7_readRule_38 (by decide) ?_
  refine lv_istore_n (lv' := [(2, .int (0 : Int32)), (0, .ref (G.2.1 3)), (1, .int p1)]) hx hb dX7_readRule_39 rfl hl (by decide) rfl (fun ls hl => ?_)
  exact w_X7_readRule_40 E hr hlocks  FU _ _ _ _ _ h hh (lv_sub hl [1, 0] rfl)
