def f_X9_thrown (σ : St)  (Q : Int32 → St → Prop) : Prop :=
  Q (gi σ 23) σ
set_option maxHeartbeats 4000000 in
set_option maxRecDepth 100000 in
theorem c_X9_thrown (l : Launch) (G : GG) (σ : St) (sz : Nat)  (Q : Int32 → St → Prop) (h : f_X9_thrown σ  Q) : CTi l yX9_thrown wsX9_thrown ({ frames := 0, cells := 0, slots := 0, locals := 0 }) [.ref (G.2.1 28)] G σ sz Q := by
  refine Met.ofW (cc := cX9_thrown) (maxL := 1) (ret := (some .int)) (by decide) rfl ?_
  intro p e s m args below meth c s₁ B hml hv
  obtain ⟨rfl, hpre⟩ := hv
  have hr := B.returns
  have hlocks := B.notSynchronized
  obtain ⟨hsz, -⟩ := id hpre
  subst hsz
  obtain ⟨E, hh⟩ := EV.ofPre (⟨B.exec, B.bytes, hml, findClass_of_methodNamed B.named, atoms_spec (ws := wsX9_thrown) B.pre⟩ : CallFix p m c cX9_thrown 1 s _ wsX9_thrown RX9) hpre
  have hx := E.1.1
  have hb := E.1.2.1
  have hown := E.1.2.2.2.1
  have hts := E.1.2.2.2.2
  have h_inX9 : ∀ w ∈ wsX90, w ∈ wsX9_thrown := (fun _ h9 => (List.mem_cons_of_mem _ (List.mem_append_right _ h9)))
  have hl := lv_entry ([.ref (G.2.1 28)]) (n := 1) (Nat.le_of_ble_eq_true rfl)
  rw [lg_entry_eq]
  generalize (lg_sl ([.ref (G.2.1 28)]) ++ List.replicate (1 - (lg_sl ([.ref (G.2.1 28)])).length) Slot.unset).toArray = ls at hl ⊢
  have hl : lv_has ls 1 [(0, .ref (G.2.1 28))] := hl
  unfold f_X9_thrown at h
  refine lv_aload_n hx hb dX9_thrown_0 rfl (lv_at hl 0 rfl) ?_
  refine q_get (T := TX9) (v := .int (gi σ 23)) E hh h_inX9 28 (WW_at_28 G σ) rfl 0 (by decide) (List.mem_cons_of_mem _ (List.mem_append_left _ (List.mem_of_getElem? (i := 0) rfl))) rfl rfl dX9_thrown_1 ?_
  exact q_iret E hh hr hlocks h dX9_thrown_4
def f_X9_bad (σ : St) (p1 : Int32) (p2 : Int32) (Q : Int32 → St → Prop) : Prop :=
  ((p1 = 0 → (zok .boolean p1 ∧ Q p1 σ)) ∧ (¬ p1 = 0 → (zok .boolean p1 ∧ Q p1 (si σ 23 p2))))
set_option maxHeartbeats 4000000 in
set_option maxRecDepth 100000 in
theorem c_X9_bad (l : Launch) (G : GG) (σ : St) (sz : Nat) (p1 : Int32) (p2 : Int32) (Q : Int32 → St → Prop) (h : f_X9_bad σ p1 p2 Q) : CTi l yX9_bad wsX9_bad ({ frames := 0, cells := 0, slots := 0, locals := 0 }) [.ref (G.2.1 28), .int p1, .int p2] G σ sz Q := by
  refine Met.ofW (cc := cX9_bad) (maxL := 3) (ret := (some .boolean)) (by decide) rfl ?_
  intro p e s m args below meth c s₁ B hml hv
  obtain ⟨rfl, hpre⟩ := hv
  have hr := B.returns
  have hlocks := B.notSynchronized
  obtain ⟨hsz, -⟩ := id hpre
  subst hsz
  obtain ⟨E, hh⟩ := EV.ofPre (⟨B.exec, B.bytes, hml, findClass_of_methodNamed B.named, atoms_spec (ws := wsX9_bad) B.pre⟩ : CallFix p m c cX9_bad 3 s _ wsX9_bad RX9) hpre
  have hx := E.1.1
  have hb := E.1.2.1
  have hown := E.1.2.2.2.1
  have hts := E.1.2.2.2.2
  have h_inX9 : ∀ w ∈ wsX90, w ∈ wsX9_bad := (fun _ h9 => (List.mem_cons_of_mem _ (List.mem_append_right _ h9)))
  have hl := lv_entry ([.ref (G.2.1 28), .int p1, .int p2]) (n := 3) (Nat.le_of_ble_eq_true rfl)
  rw [lg_entry_eq]
  generalize (lg_sl ([.ref (G.2.1 28), .int p1, .int p2]) ++ List.replicate (3 - (lg_sl ([.ref (G.2.1 28), .int p1, .int p2])).length) Slot.unset).toArray = ls at hl ⊢
  have hl : lv_has ls 3 [(0, .ref (G.2.1 28)), (1, .int p1), (2, .int p2)] := hl
  unfold f_X9_bad at h
  refine lv_iload_n hx hb dX9_bad_0 rfl (lv_at hl 1 rfl) ?_
  refine lv_if_eq (tgt := 9) hx hb dX9_bad_1 (by decide) (fun c9 => ?_) (fun c9 => ?_)
  · have h := h.1 c9
    refine lv_iload_n hx hb dX9_bad_9 rfl (lv_at hl 1 rfl) ?_
    exact q_zret (ty := .boolean) E hh hr hlocks h.1 h.2 dX9_bad_10
  · have h := h.2 c9
    refine lv_aload_n hx hb dX9_bad_4 rfl (lv_at hl 0 rfl) ?_
    refine lv_iload_n hx hb dX9_bad_5 rfl (lv_at hl 2 rfl) ?_
    refine q_put (T := TX9) E hh h_inX9 tyX9 tyX9_ok nmX9 28 (WW_at_28 G σ) rfl 0 (by decide) (List.mem_cons_of_mem _ (List.mem_append_left _ (List.mem_of_getElem? (i := 0) rfl))) rfl rfl (by decide +kernel) (Nat.le_of_ble_eq_true rfl) dX9_bad_6 (WW_si_23 G σ p2) (fun H locs hh => ?_)
    refine lv_iload_n hx hb dX9_bad_9 rfl (lv_at hl 1 rfl) ?_
    exact q_zret (ty := .boolean) E hh hr hlocks h.1 h.2 dX9_bad_10
def f_X9_within (σ : St) (p0 : Int32) (Q : Int32 → St → Prop) : Prop :=
  ((0 ≤ p0 → ((p0 ≤ (5000 : Int32) → Q p0 σ) ∧ (¬ p0 ≤ (5000 : Int32) → Q (5000 : Int32) σ))) ∧ (¬ 0 ≤ p0 → Q (0 : Int32) σ))
set_option maxHeartbeats 4000000 in
set_option maxRecDepth 100000 in
theorem c_X9_within (l : Launch) (G : GG) (σ : St) (sz : Nat) (p0 : Int32) (Q : Int32 → St → Prop) (h : f_X9_within σ p0 Q) : CTi l yX9_within wsX9_within ({ frames := 0, cells := 0, slots := 0, locals := 0 }) [.int p0] G σ sz Q := by
  refine Met.ofW (cc := cX9_within) (maxL := 1) (ret := (some .int)) (by decide) rfl ?_
  intro p e s m args below meth c s₁ B hml hv
  obtain ⟨rfl, hpre⟩ := hv
  have hr := B.returns
  have hlocks := B.notSynchronized
  obtain ⟨hsz, -⟩ := id hpre
  subst hsz
  obtain ⟨E, hh⟩ := EV.ofPre (⟨B.exec, B.bytes, hml, findClass_of_methodNamed B.named, atoms_spec (ws := wsX9_within) B.pre⟩ : CallFix p m c cX9_within 1 s _ wsX9_within RX9) hpre
  have hx := E.1.1
  have hb := E.1.2.1
  have hown := E.1.2.2.2.1
  have hts := E.1.2.2.2.2
  have hl := lv_entry ([.int p0]) (n := 1) (Nat.le_of_ble_eq_true rfl)
  rw [lg_entry_eq]
  generalize (lg_sl ([.int p0]) ++ List.replicate (1 - (lg_sl ([.int p0])).length) Slot.unset).toArray = ls at hl ⊢
  have hl : lv_has ls 1 [(0, .int p0)] := hl
  unfold f_X9_within at h
  refine lv_iload_n hx hb dX9_within_0 rfl (lv_at hl 0 rfl) ?_
  refine lv_if_ge (tgt := 8) hx hb dX9_within_1 (by decide) (fun c9 => ?_) (fun c9 => ?_)
  · have h := h.1 c9
    refine lv_iload_n hx hb dX9_within_8 rfl (lv_at hl 0 rfl) ?_
    refine lv_sipush (v := (5000 : Int32)) hx hb dX9_within_9 (by decide) ?_
    refine lv_icmp_le (tgt := 21) hx hb dX9_within_12 (by decide) (fun c9 => ?_) (fun c9 => ?_)
    · have h := h.1 c9
      refine lv_iload_n hx hb dX9_within_21 rfl (lv_at hl 0 rfl) ?_
      exact q_iret E hh hr hlocks h dX9_within_22
    · have h := h.2 c9
      refine lv_sipush (v := (5000 : Int32)) hx hb dX9_within_15 (by decide) ?_
      refine lv_goto (tgt := 22) hx hb dX9_within_18 (by decide) ?_
      exact q_iret E hh hr hlocks h dX9_within_22
  · have h := h.2 c9
    refine lv_iconst (v := (0 : Int32)) hx hb dX9_within_4 (by decide) ?_
    refine lv_goto (tgt := 22) hx hb dX9_within_5 (by decide) ?_
    exact q_iret E hh hr hlocks h dX9_within_22
def f_X9_isCell (σ : St) (p1 : Int32) (Q : Int32 → St → Prop) : Prop :=
  ((p1 < 0 → ((¬ (gi (si σ 23 (1 : Int32)) 23) = 0 → Q (0 : Int32) (si σ 23 (1 : Int32))) ∧ ((gi (si σ 23 (1 : Int32)) 23) = 0 → Q (1 : Int32) (si σ 23 (1 : Int32))))) ∧ (¬ p1 < 0 → ((p1 < (144 : Int32) → ((¬ (gi (si σ 23 (0 : Int32)) 23) = 0 → Q (0 : Int32) (si σ 23 (0 : Int32))) ∧ ((gi (si σ 23 (0 : Int32)) 23) = 0 → Q (1 : Int32) (si σ 23 (0 : Int32))))) ∧ (¬ p1 < (144 : Int32) → ((¬ (gi (si σ 23 (1 : Int32)) 23) = 0 → Q (0 : Int32) (si σ 23 (1 : Int32))) ∧ ((gi (si σ 23 (1 : Int32)) 23) = 0 → Q (1 : Int32) (si σ 23 (1 : Int32))))))))
set_option maxHeartbeats 4000000 in
set_option maxRecDepth 100000 in
theorem c_X9_isCell (l : Launch) (G : GG) (σ : St) (sz : Nat) (p1 : Int32) (Q : Int32 → St → Prop) (h : f_X9_isCell σ p1 Q) : CTi l yX9_isCell wsX9_isCell ({ frames := 0, cells := 0, slots := 0, locals := 0 }) [.ref (G.2.1 28), .int p1] G σ sz Q := by
  refine Met.ofW (cc := cX9_isCell) (maxL := 2) (ret := (some .boolean)) (by decide) rfl ?_
  intro p e s m args below meth c s₁ B hml hv
  obtain ⟨rfl, hpre⟩ := hv
  have hr := B.returns
  have hlocks := B.notSynchronized
  obtain ⟨hsz, -⟩ := id hpre
  subst hsz
  obtain ⟨E, hh⟩ := EV.ofPre (⟨B.exec, B.bytes, hml, findClass_of_methodNamed B.named, atoms_spec (ws := wsX9_isCell) B.pre⟩ : CallFix p m c cX9_isCell 2 s _ wsX9_isCell RX9) hpre
  have hx := E.1.1
  have hb := E.1.2.1
  have hown := E.1.2.2.2.1
  have hts := E.1.2.2.2.2
  have h_inX9 : ∀ w ∈ wsX90, w ∈ wsX9_isCell := (fun _ h9 => (List.mem_cons_of_mem _ (List.mem_append_right _ h9)))
  have hl := lv_entry ([.ref (G.2.1 28), .int p1]) (n := 2) (Nat.le_of_ble_eq_true rfl)
  rw [lg_entry_eq]
  generalize (lg_sl ([.ref (G.2.1 28), .int p1]) ++ List.replicate (2 - (lg_sl ([.ref (G.2.1 28), .int p1])).length) Slot.unset).toArray = ls at hl ⊢
  have hl : lv_has ls 2 [(0, .ref (G.2.1 28)), (1, .int p1)] := hl
  unfold f_X9_isCell at h
  refine lv_aload_n hx hb dX9_isCell_0 rfl (lv_at hl 0 rfl) ?_
  refine lv_iload_n hx hb dX9_isCell_1 rfl (lv_at hl 1 rfl) ?_
  refine lv_if_lt (tgt := 12) hx hb dX9_isCell_2 (by decide) (fun c9 => ?_) (fun c9 => ?_)
  · have h := h.1 c9
    refine lv_iconst (v := (1 : Int32)) hx hb dX9_isCell_12 (by decide) ?_
    refine lv_goto (tgt := 17) hx hb dX9_isCell_13 (by decide) ?_
    refine q_put (T := TX9) E hh h_inX9 tyX9 tyX9_ok nmX9 28 (WW_at_28 G σ) rfl 0 (by decide) (List.mem_cons_of_mem _ (List.mem_append_left _ (List.mem_of_getElem? (i := 0) rfl))) rfl rfl (by decide +kernel) (Nat.le_of_ble_eq_true rfl) dX9_isCell_17 (WW_si_23 G σ (1 : Int32)) (fun H locs hh => ?_)
    refine lv_aload_n hx hb dX9_isCell_20 rfl (lv_at hl 0 rfl) ?_
    refine q_get (T := TX9) (v := .int (gi (si σ 23 (1 : Int32)) 23)) E hh h_inX9 28 (WW_at_28 G (si σ 23 (1 : Int32))) rfl 0 (by decide) (List.mem_cons_of_mem _ (List.mem_append_left _ (List.mem_of_getElem? (i := 0) rfl))) rfl rfl dX9_isCell_21 ?_
    refine lv_if_ne (tgt := 31) hx hb dX9_isCell_24 (by decide) (fun c9 => ?_) (fun c9 => ?_)
    · have h := h.1 c9
      refine lv_iconst (v := (0 : Int32)) hx hb dX9_isCell_31 (by decide) ?_
      exact q_zret (ty := .boolean) E hh hr hlocks rfl h dX9_isCell_32
    · have h := h.2 c9
      refine lv_iconst (v := (1 : Int32)) hx hb dX9_isCell_27 (by decide) ?_
      refine lv_goto (tgt := 32) hx hb dX9_isCell_28 (by decide) ?_
      exact q_zret (ty := .boolean) E hh hr hlocks rfl h dX9_isCell_32
  · have h := h.2 c9
    refine lv_iload_n hx hb dX9_isCell_5 rfl (lv_at hl 1 rfl) ?_
    refine lv_sipush (v := (144 : Int32)) hx hb dX9_isCell_6 (by decide) ?_
    refine lv_icmp_lt (tgt := 16) hx hb dX9_isCell_9 (by decide) (fun c9 => ?_) (fun c9 => ?_)
    · have h := h.1 c9
      refine lv_iconst (v := (0 : Int32)) hx hb dX9_isCell_16 (by decide) ?_
      refine q_put (T := TX9) E hh h_inX9 tyX9 tyX9_ok nmX9 28 (WW_at_28 G σ) rfl 0 (by decide) (List.mem_cons_of_mem _ (List.mem_append_left _ (List.mem_of_getElem? (i := 0) rfl))) rfl rfl (by decide +kernel) (Nat.le_of_ble_eq_true rfl) dX9_isCell_17 (WW_si_23 G σ (0 : Int32)) (fun H locs hh => ?_)
      refine lv_aload_n hx hb dX9_isCell_20 rfl (lv_at hl 0 rfl) ?_
      refine q_get (T := TX9) (v := .int (gi (si σ 23 (0 : Int32)) 23)) E hh h_inX9 28 (WW_at_28 G (si σ 23 (0 : Int32))) rfl 0 (by decide) (List.mem_cons_of_mem _ (List.mem_append_left _ (List.mem_of_getElem? (i := 0) rfl))) rfl rfl dX9_isCell_21 ?_
      refine lv_if_ne (tgt := 31) hx hb dX9_isCell_24 (by decide) (fun c9 => ?_) (fun c9 => ?_)
      · have h := h.1 c9
        refine lv_iconst (v := (0 : Int32)) hx hb dX9_isCell_31 (by decide) ?_
        exact q_zret (ty := .boolean) E hh hr hlocks rfl h dX9_isCell_32
      · have h := h.2 c9
        refine lv_iconst (v := (1 : Int32)) hx hb dX9_isCell_27 (by decide) ?_
        refine lv_goto (tgt := 32) hx hb dX9_isCell_28 (by decide) ?_
        exact q_zret (ty := .boolean) E hh hr hlocks rfl h dX9_isCell_32
    · have h := h.2 c9
      refine lv_iconst (v := (1 : Int32)) hx hb dX9_isCell_12 (by decide) ?_
      refine lv_goto (tgt := 17) hx hb dX9_isCell_13 (by decide) ?_
      refine q_put (T := TX9) E hh h_inX9 tyX9 tyX9_ok nmX9 28 (WW_at_28 G σ) rfl 0 (by decide) (List.mem_cons_of_mem _ (List.mem_append_left _ (List.mem_of_getElem? (i := 0) rfl))) rfl rfl (by decide +kernel) (Nat.le_of_ble_eq_true rfl) dX9_isCell_17 (WW_si_23 G σ (1 : Int32)) (fun H locs hh => ?_)
      refine lv_aload_n hx hb dX9_isCell_20 rfl (lv_at hl 0 rfl) ?_
      refine q_get (T := TX9) (v := .int (gi (si σ 23 (1 : Int32)) 23)) E hh h_inX9 28 (WW_at_28 G (si σ 23 (1 : Int32))) rfl 0 (by decide) (List.mem_cons_of_mem _ (List.mem_append_left _ (List.mem_of_getElem? (i := 0) rfl))) rfl rfl dX9_isCell_21 ?_
      refine lv_if_ne (tgt := 31) hx hb dX9_isCell_24 (by decide) (fun c9 => ?_) (fun c9 => ?_)
      · have h := h.1 c9
        refine lv_iconst (v := (0 : Int32)) hx hb dX9_isCell_31 (by decide) ?_
        exact q_zret (ty := .boolean) E hh hr hlocks rfl h dX9_isCell_32
      · have h := h.2 c9
        refine lv_iconst (v := (1 : Int32)) hx hb dX9_isCell_27 (by decide) ?_
        refine lv_goto (tgt := 32) hx hb dX9_isCell_28 (by decide) ?_
        exact q_zret (ty := .boolean) E hh hr hlocks rfl h dX9_isCell_32
def f_X9_isThick (σ : St) (p0 : Int32) (Q : Int32 → St → Prop) : Prop :=
  ((p0 < 0 → Q (0 : Int32) σ) ∧ (¬ p0 < 0 → (((5000 : Int32) < p0 → Q (0 : Int32) σ) ∧ (¬ (5000 : Int32) < p0 → Q (1 : Int32) σ))))
set_option maxHeartbeats 4000000 in
set_option maxRecDepth 100000 in
theorem c_X9_isThick (l : Launch) (G : GG) (σ : St) (sz : Nat) (p0 : Int32) (Q : Int32 → St → Prop) (h : f_X9_isThick σ p0 Q) : CTi l yX9_isThick wsX9_isThick ({ frames := 0, cells := 0, slots := 0, locals := 0 }) [.int p0] G σ sz Q := by
  refine Met.ofW (cc := cX9_isThick) (maxL := 1) (ret := (some .boolean)) (by decide) rfl ?_
  intro p e s m args below meth c s₁ B hml hv
  obtain ⟨rfl, hpre⟩ := hv
  have hr := B.returns
  have hlocks := B.notSynchronized
  obtain ⟨hsz, -⟩ := id hpre
  subst hsz
  obtain ⟨E, hh⟩ := EV.ofPre (⟨B.exec, B.bytes, hml, findClass_of_methodNamed B.named, atoms_spec (ws := wsX9_isThick) B.pre⟩ : CallFix p m c cX9_isThick 1 s _ wsX9_isThick RX9) hpre
  have hx := E.1.1
  have hb := E.1.2.1
  have hown := E.1.2.2.2.1
  have hts := E.1.2.2.2.2
  have hl := lv_entry ([.int p0]) (n := 1) (Nat.le_of_ble_eq_true rfl)
  rw [lg_entry_eq]
  generalize (lg_sl ([.int p0]) ++ List.replicate (1 - (lg_sl ([.int p0])).length) Slot.unset).toArray = ls at hl ⊢
  have hl : lv_has ls 1 [(0, .int p0)] := hl
  unfold f_X9_isThick at h
  refine lv_iload_n hx hb dX9_isThick_0 rfl (lv_at hl 0 rfl) ?_
  refine lv_if_lt (tgt := 15) hx hb dX9_isThick_1 (by decide) (fun c9 => ?_) (fun c9 => ?_)
  · have h := h.1 c9
    refine lv_iconst (v := (0 : Int32)) hx hb dX9_isThick_15 (by decide) ?_
    exact q_zret (ty := .boolean) E hh hr hlocks rfl h dX9_isThick_16
  · have h := h.2 c9
    refine lv_iload_n hx hb dX9_isThick_4 rfl (lv_at hl 0 rfl) ?_
    refine lv_sipush (v := (5000 : Int32)) hx hb dX9_isThick_5 (by decide) ?_
    refine lv_icmp_gt (tgt := 15) hx hb dX9_isThick_8 (by decide) (fun c9 => ?_) (fun c9 => ?_)
    · have h := h.1 c9
      refine lv_iconst (v := (0 : Int32)) hx hb dX9_isThick_15 (by decide) ?_
      exact q_zret (ty := .boolean) E hh hr hlocks rfl h dX9_isThick_16
    · have h := h.2 c9
      refine lv_iconst (v := (1 : Int32)) hx hb dX9_isThick_11 (by decide) ?_
      refine lv_goto (tgt := 16) hx hb dX9_isThick_12 (by decide) ?_
      exact q_zret (ty := .boolean) E hh hr hlocks rfl h dX9_isThick_16
def f_X9_sounds (σ : St) (p1 : Int32) (p2 : Int32) (p3 : Int32) (Q : St → Prop) : Prop :=
  f_X9_within σ (p2 - p3) (fun r8 s8 => (vp_in p1 144 ∧ f_X9_within (sa s8 29 (upd (ga s8 29) p1.toNatClampNeg r8)) (p2 + p3) (fun r20 s20 => (vp_in p1 144 ∧ Q (sa s20 30 (upd (ga s20 30) p1.toNatClampNeg r20))))))
set_option maxHeartbeats 4000000 in
set_option maxRecDepth 100000 in
theorem c_X9_sounds (l : Launch) (G : GG) (σ : St) (sz : Nat) (p1 : Int32) (p2 : Int32) (p3 : Int32) (Q : St → Prop) (h : f_X9_sounds σ p1 p2 p3 Q) : CTv l yX9_sounds wsX9_sounds ({ frames := 1, cells := 0, slots := 0, locals := 20 }) [.ref (G.2.1 28), .int p1, .int p2, .int p3] G σ sz Q := by
  refine Met.ofW (cc := cX9_sounds) (maxL := 4) (ret := none) (by decide) rfl ?_
  intro p e s m args below meth c s₁ B hml hv
  obtain ⟨rfl, hpre⟩ := hv
  have hr := B.returns
  have hlocks := B.notSynchronized
  obtain ⟨hsz, -⟩ := id hpre
  subst hsz
  obtain ⟨E, hh⟩ := EV.ofPre (⟨B.exec, B.bytes, hml, findClass_of_methodNamed B.named, atoms_spec (ws := wsX9_sounds) B.pre⟩ : CallFix p m c cX9_sounds 4 s _ wsX9_sounds RX9) hpre
  have hx := E.1.1
  have hb := E.1.2.1
  have hown := E.1.2.2.2.1
  have hts := E.1.2.2.2.2
  have h_inX9 : ∀ w ∈ wsX90, w ∈ wsX9_sounds := (fun _ h9 => (List.mem_cons_of_mem _ (List.mem_append_right _ h9)))
  have hl := lv_entry ([.ref (G.2.1 28), .int p1, .int p2, .int p3]) (n := 4) (Nat.le_of_ble_eq_true rfl)
  rw [lg_entry_eq]
  generalize (lg_sl ([.ref (G.2.1 28), .int p1, .int p2, .int p3]) ++ List.replicate (4 - (lg_sl ([.ref (G.2.1 28), .int p1, .int p2, .int p3])).length) Slot.unset).toArray = ls at hl ⊢
  have hl : lv_has ls 4 [(0, .ref (G.2.1 28)), (1, .int p1), (2, .int p2), (3, .int p3)] := hl
  unfold f_X9_sounds at h
  refine lv_aload_n hx hb dX9_sounds_0 rfl (lv_at hl 0 rfl) ?_
  refine q_get (T := TX9) (v := .ref (G.2.1 29)) E hh h_inX9 28 (WW_at_28 G σ) rfl 1 (by decide) (List.mem_cons_of_mem _ (List.mem_append_left _ (List.mem_of_getElem? (i := 0) rfl))) rfl rfl dX9_sounds_1 ?_
  refine lv_iload_n hx hb dX9_sounds_4 rfl (lv_at hl 1 rfl) ?_
  refine lv_iload_n hx hb dX9_sounds_5 rfl (lv_at hl 2 rfl) ?_
  refine lv_iload_n hx hb dX9_sounds_6 rfl (lv_at hl 3 rfl) ?_
  refine lv_isub hx hb dX9_sounds_7 ?_
  refine q_Si (As := [.int (p2 - p3)]) (rest := [.int p1, .ref (G.2.1 29)]) E hh (c_X9_within l G _ _ _ _ h) (va_cwS 1 hts gX9_sounds_X9_within rfl rfl rfl (by decide +kernel) ⟨Nat.le_of_ble_eq_true rfl, Nat.le_of_ble_eq_true rfl⟩) rfl hl.1 rfl (Nat.le_of_ble_eq_true rfl) dX9_sounds_8 ⟨Nat.zero_le _, Nat.zero_le _⟩ (fun r8 s8 H locs h hh => ?_)
  obtain ⟨h0, h⟩ := h
  refine q_iast E hh 29 (WW_at_29 G s8) h0 dX9_sounds_11 (WW_sa_29 G s8 (upd (ga s8 29) p1.toNatClampNeg r8)) (fun H locs hh => ?_)
  refine lv_aload_n hx hb dX9_sounds_12 rfl (lv_at hl 0 rfl) ?_
  refine q_get (T := TX9) (v := .ref (G.2.1 30)) E hh h_inX9 28 (WW_at_28 G (sa s8 29 (upd (ga s8 29) p1.toNatClampNeg r8))) rfl 2 (by decide) (List.mem_cons_of_mem _ (List.mem_append_left _ (List.mem_of_getElem? (i := 1) rfl))) rfl rfl dX9_sounds_13 ?_
  refine lv_iload_n hx hb dX9_sounds_16 rfl (lv_at hl 1 rfl) ?_
  refine lv_iload_n hx hb dX9_sounds_17 rfl (lv_at hl 2 rfl) ?_
  refine lv_iload_n hx hb dX9_sounds_18 rfl (lv_at hl 3 rfl) ?_
  refine lv_iadd hx hb dX9_sounds_19 ?_
  refine q_Si (As := [.int (p2 + p3)]) (rest := [.int p1, .ref (G.2.1 30)]) E hh (c_X9_within l G _ _ _ _ h) (va_cwS 1 hts gX9_sounds_X9_within rfl rfl rfl (by decide +kernel) ⟨Nat.le_of_ble_eq_true rfl, Nat.le_of_ble_eq_true rfl⟩) rfl hl.1 rfl (Nat.le_of_ble_eq_true rfl) dX9_sounds_20 ⟨Nat.zero_le _, Nat.zero_le _⟩ (fun r20 s20 H locs h hh => ?_)
  obtain ⟨h0, h⟩ := h
  refine q_iast E hh 30 (WW_at_30 G s20) h0 dX9_sounds_23 (WW_sa_30 G s20 (upd (ga s20 30) p1.toNatClampNeg r20)) (fun H locs hh => ?_)
  exact q_vret E hh hr hlocks h dX9_sounds_24
def f_X9_sound_28 (Q : Int32 → St → Prop)  (σ : St) (l1 : Int32) (l2 : Int32) (l3 : Int32) (t1 : Int32) : Prop :=
  f_X9_bad σ t1 (2 : Int32) (fun r29 s29 => ((r29 = 0 → f_X9_sounds s29 l1 l2 l3 (fun s41 => (vp_in l1 144 ∧ Q (ga s41 29 l1.toNatClampNeg) s41))) ∧ (¬ r29 = 0 → Q (0 : Int32) s29)))
set_option maxHeartbeats 4000000 in
set_option maxRecDepth 100000 in
theorem w_X9_sound_28 {p : Program} {l : Launch} {e : Env} {s : State} {m : MethodId} {args : Array Value} {below : List Frame} {meth : Method} {c : Code} {G : GG} (E : EV p s m args c cX9_sound 4 wsX9_sound RX9 G (AD G s.heap.size)) (hr : meth.sig.returnType = (some .int)) (hlocks : meth.locks = false) {Q : Int32 → St → Prop}  : ∀ (σ : St) (l1 : Int32) (l2 : Int32) (l3 : Int32) (t1 : Int32) (H : Heap) (locs : List Loc) (ls : Array Slot), f_X9_sound_28 Q  σ l1 l2 l3 t1 → HH G (AD G s.heap.size) s σ H locs → lv_has ls 4 [(0, .ref (G.2.1 28)), (1, .int l1), (2, .int l2), (3, .int l3)] → W p l e ({ frames := 2, cells := 0, slots := 0, locals := 43 }) s m args below meth c H locs 0 0 (MQi below G args s Q) (F0 m 28 ls [.int t1, .ref (G.2.1 28)]) := by
  have hx := E.1.1
  have hb := E.1.2.1
  have hown := E.1.2.2.2.1
  have hts := E.1.2.2.2.2
  have h_inX9 : ∀ w ∈ wsX90, w ∈ wsX9_sound := (fun _ h9 => (List.mem_cons_of_mem _ (List.mem_append_right _ h9)))
  intro σ l1 l2 l3 t1 H locs ls h hh hl
  unfold f_X9_sound_28 at h
  refine lv_iconst (v := (2 : Int32)) hx hb dX9_sound_28 (by decide) ?_
  refine q_Vi (As := [.int t1, .int (2 : Int32)]) (rest := []) E hh (c_X9_bad l G _ _ _ _ _ h) (cwV 2 hts gX9_sound_X9_bad rfl rfl rfl (by decide +kernel) ⟨Nat.le_of_ble_eq_true rfl, Nat.le_of_ble_eq_true rfl⟩) (va_recv (ci := 9) E.2.1 hh.1 rfl (WW_at_28 G σ)) rfl hl.1 rfl (Nat.le_of_ble_eq_true rfl) dX9_sound_29 ⟨Nat.zero_le _, Nat.zero_le _⟩ (fun r29 s29 H locs h hh => ?_)
  refine lv_if_eq (tgt := 37) hx hb dX9_sound_32 (by decide) (fun c9 => ?_) (fun c9 => ?_)
  · have h := h.1 c9
    refine lv_aload_n hx hb dX9_sound_37 rfl (lv_at hl 0 rfl) ?_
    refine lv_iload_n hx hb dX9_sound_38 rfl (lv_at hl 1 rfl) ?_
    refine lv_iload_n hx hb dX9_sound_39 rfl (lv_at hl 2 rfl) ?_
    refine lv_iload_n hx hb dX9_sound_40 rfl (lv_at hl 3 rfl) ?_
    refine q_Vv (As := [.int l1, .int l2, .int l3]) (rest := []) E hh (c_X9_sounds l G _ _ _ _ _ _ h) (cwV 3 hts gX9_sound_X9_sounds rfl rfl rfl (by decide +kernel) ⟨Nat.le_of_ble_eq_true rfl, Nat.le_of_ble_eq_true rfl⟩) (va_recv (ci := 9) E.2.1 hh.1 rfl (WW_at_28 G s29)) rfl hl.1 rfl (Nat.le_of_ble_eq_true rfl) dX9_sound_41 ⟨Nat.zero_le _, Nat.zero_le _⟩ (fun s41 H locs h hh => ?_)
    refine lv_aload_n hx hb dX9_sound_44 rfl (lv_at hl 0 rfl) ?_
    refine q_get (T := TX9) (v := .ref (G.2.1 29)) E hh h_inX9 28 (WW_at_28 G s41) rfl 1 (by decide) (List.mem_cons_of_mem _ (List.mem_append_left _ (List.mem_of_getElem? (i := 0) rfl))) rfl rfl dX9_sound_45 ?_
    refine lv_iload_n hx hb dX9_sound_48 rfl (lv_at hl 1 rfl) ?_
    obtain ⟨h0, h⟩ := h
    refine q_iald E hh 29 (WW_at_29 G s41) h0 dX9_sound_49 ?_
    exact q_iret E hh hr hlocks h dX9_sound_50
  · have h := h.2 c9
    refine lv_iconst (v := (0 : Int32)) hx hb dX9_sound_35 (by decide) ?_
    exact q_iret E hh hr hlocks h dX9_sound_36
def f_X9_sound (σ : St) (p1 : Int32) (p2 : Int32) (p3 : Int32) (Q : Int32 → St → Prop) : Prop :=
  f_X9_isCell σ p1 (fun r2 s2 => ((r2 = 0 → Q (0 : Int32) s2) ∧ (¬ r2 = 0 → f_X9_isThick s2 p2 (fun r10 s10 => ((r10 = 0 → f_X9_sound_28 Q s10 p1 p2 p3 (1 : Int32)) ∧ (¬ r10 = 0 → f_X9_isThick s10 p3 (fun r17 s17 => ((¬ r17 = 0 → f_X9_sound_28 Q s17 p1 p2 p3 (0 : Int32)) ∧ (r17 = 0 → f_X9_sound_28 Q s17 p1 p2 p3 (1 : Int32))))))))))
set_option maxHeartbeats 4000000 in
set_option maxRecDepth 100000 in
theorem c_X9_sound (l : Launch) (G : GG) (σ : St) (sz : Nat) (p1 : Int32) (p2 : Int32) (p3 : Int32) (Q : Int32 → St → Prop) (h : f_X9_sound σ p1 p2 p3 Q) : CTi l yX9_sound wsX9_sound ({ frames := 2, cells := 0, slots := 0, locals := 43 }) [.ref (G.2.1 28), .int p1, .int p2, .int p3] G σ sz Q := by
  refine Met.ofW (cc := cX9_sound) (maxL := 4) (ret := (some .int)) (by decide) rfl ?_
  intro p e s m args below meth c s₁ B hml hv
  obtain ⟨rfl, hpre⟩ := hv
  have hr := B.returns
  have hlocks := B.notSynchronized
  obtain ⟨hsz, -⟩ := id hpre
  subst hsz
  obtain ⟨E, hh⟩ := EV.ofPre (⟨B.exec, B.bytes, hml, findClass_of_methodNamed B.named, atoms_spec (ws := wsX9_sound) B.pre⟩ : CallFix p m c cX9_sound 4 s _ wsX9_sound RX9) hpre
  have hx := E.1.1
  have hb := E.1.2.1
  have hown := E.1.2.2.2.1
  have hts := E.1.2.2.2.2
  have h_inX9 : ∀ w ∈ wsX90, w ∈ wsX9_sound := (fun _ h9 => (List.mem_cons_of_mem _ (List.mem_append_right _ h9)))
  have hl := lv_entry ([.ref (G.2.1 28), .int p1, .int p2, .int p3]) (n := 4) (Nat.le_of_ble_eq_true rfl)
  rw [lg_entry_eq]
  generalize (lg_sl ([.ref (G.2.1 28), .int p1, .int p2, .int p3]) ++ List.replicate (4 - (lg_sl ([.ref (G.2.1 28), .int p1, .int p2, .int p3])).length) Slot.unset).toArray = ls at hl ⊢
  have hl : lv_has ls 4 [(0, .ref (G.2.1 28)), (1, .int p1), (2, .int p2), (3, .int p3)] := hl
  unfold f_X9_sound at h
  refine lv_aload_n hx hb dX9_sound_0 rfl (lv_at hl 0 rfl) ?_
  refine lv_iload_n hx hb dX9_sound_1 rfl (lv_at hl 1 rfl) ?_
  refine q_Vi (As := [.int p1]) (rest := []) E hh (c_X9_isCell l G _ _ _ _ h) (cwV 1 hts gX9_sound_X9_isCell rfl rfl rfl (by decide +kernel) ⟨Nat.le_of_ble_eq_true rfl, Nat.le_of_ble_eq_true rfl⟩) (va_recv (ci := 9) E.2.1 hh.1 rfl (WW_at_28 G σ)) rfl hl.1 rfl (Nat.le_of_ble_eq_true rfl) dX9_sound_2 ⟨Nat.zero_le _, Nat.zero_le _⟩ (fun r2 s2 H locs h hh => ?_)
  refine lv_if_eq (tgt := 35) hx hb dX9_sound_5 (by decide) (fun c9 => ?_) (fun c9 => ?_)
  · have h := h.1 c9
    refine lv_iconst (v := (0 : Int32)) hx hb dX9_sound_35 (by decide) ?_
    exact q_iret E hh hr hlocks h dX9_sound_36
  · have h := h.2 c9
    refine lv_aload_n hx hb dX9_sound_8 rfl (lv_at hl 0 rfl) ?_
    refine lv_iload_n hx hb dX9_sound_9 rfl (lv_at hl 2 rfl) ?_
    refine q_Si (As := [.int p2]) (rest := [.ref (G.2.1 28)]) E hh (c_X9_isThick l G _ _ _ _ h) (va_cwS 1 hts gX9_sound_X9_isThick rfl rfl rfl (by decide +kernel) ⟨Nat.le_of_ble_eq_true rfl, Nat.le_of_ble_eq_true rfl⟩) rfl hl.1 rfl (Nat.le_of_ble_eq_true rfl) dX9_sound_10 ⟨Nat.zero_le _, Nat.zero_le _⟩ (fun r10 s10 H locs h hh => ?_)
    refine lv_if_eq (tgt := 23) hx hb dX9_sound_13 (by decide) (fun c9 => ?_) (fun c9 => ?_)
    · have h := h.1 c9
      refine lv_iconst (v := (1 : Int32)) hx hb dX9_sound_23 (by decide) ?_
      refine lv_goto (tgt := 28) hx hb dX9_sound_24 (by decide) ?_
      exact w_X9_sound_28 E hr hlocks  _ _ _ _ _ _ _ _ h hh (lv_sub hl [0, 1, 2, 3] rfl)
    · have h := h.2 c9
      refine lv_iload_n hx hb dX9_sound_16 rfl (lv_at hl 3 rfl) ?_
      refine q_Si (As := [.int p3]) (rest := [.ref (G.2.1 28)]) E hh (c_X9_isThick l G _ _ _ _ h) (va_cwS 1 hts gX9_sound_X9_isThick rfl rfl rfl (by decide +kernel) ⟨Nat.le_of_ble_eq_true rfl, Nat.le_of_ble_eq_true rfl⟩) rfl hl.1 rfl (Nat.le_of_ble_eq_true rfl) dX9_sound_17 ⟨Nat.zero_le _, Nat.zero_le _⟩ (fun r17 s17 H locs h hh => ?_)
      refine lv_if_ne (tgt := 27) hx hb dX9_sound_20 (by decide) (fun c9 => ?_) (fun c9 => ?_)
      · have h := h.1 c9
        refine lv_iconst (v := (0 : Int32)) hx hb dX9_sound_27 (by decide) ?_
        exact w_X9_sound_28 E hr hlocks  _ _ _ _ _ _ _ _ h hh (lv_sub hl [0, 1, 2, 3] rfl)
      · have h := h.2 c9
        refine lv_iconst (v := (1 : Int32)) hx hb dX9_sound_23 (by decide) ?_
        refine lv_goto (tgt := 28) hx hb dX9_sound_24 (by decide) ?_
        exact w_X9_sound_28 E hr hlocks  _ _ _ _ _ _ _ _ h hh (lv_sub hl [0, 1, 2, 3] rfl)
def f_X9_soundRow_60 (Q : Int32 → St → Prop)  (rec : St → Int32 → Int32 → Int32 → Int32 → Prop) (σ : St) (l1 : Int32) (l2 : Int32) (l3 : Int32) (l4 : Int32) : Prop :=
  (((12 : Int32) ≤ l4 → (vp_in ((12 : Int32) * l1) 144 ∧ Q (ga σ 29 ((12 : Int32) * l1).toNatClampNeg) σ)) ∧ (¬ (12 : Int32) ≤ l4 → f_X9_sounds σ (((12 : Int32) * l1) + l4) l2 l3 (fun s77 => rec s77 l1 l2 l3 (l4 + 1))))
def f_X9_soundRow_60L (Q : Int32 → St → Prop)  : Nat → St → Int32 → Int32 → Int32 → Int32 → Prop
  | 0, _, _, _, _, _ => False
  | n + 1, σ, l1, l2, l3, l4 => f_X9_soundRow_60 Q  (f_X9_soundRow_60L Q  n) σ l1 l2 l3 l4
set_option maxHeartbeats 4000000 in
set_option maxRecDepth 100000 in
theorem w_X9_soundRow_60 {p : Program} {l : Launch} {e : Env} {s : State} {m : MethodId} {args : Array Value} {below : List Frame} {meth : Method} {c : Code} {G : GG} (E : EV p s m args c cX9_soundRow 5 wsX9_soundRow RX9 G (AD G s.heap.size)) (hr : meth.sig.returnType = (some .int)) (hlocks : meth.locks = false) {Q : Int32 → St → Prop}  : ∀ (n : Nat) (σ : St) (l1 : Int32) (l2 : Int32) (l3 : Int32) (l4 : Int32) (H : Heap) (locs : List Loc) (ls : Array Slot), f_X9_soundRow_60L Q  n σ l1 l2 l3 l4 → HH G (AD G s.heap.size) s σ H locs → lv_has ls 5 [(0, .ref (G.2.1 28)), (1, .int l1), (2, .int l2), (3, .int l3), (4, .int l4)] → W p l e ({ frames := 2, cells := 0, slots := 0, locals := 43 }) s m args below meth c H locs 0 0 (MQi below G args s Q) (F0 m 60 ls []) := by
  have hx := E.1.1
  have hb := E.1.2.1
  have hown := E.1.2.2.2.1
  have hts := E.1.2.2.2.2
  have h_inX9 : ∀ w ∈ wsX90, w ∈ wsX9_soundRow := (fun _ h9 => (List.mem_cons_of_mem _ (List.mem_append_right _ h9)))
  intro n
  induction n with
  | zero =>
    intro σ l1 l2 l3 l4 H locs ls h
    exact h.elim
  | succ n ih =>
    intro σ l1 l2 l3 l4 H locs ls h hh hl
    have h : f_X9_soundRow_60 Q  (f_X9_soundRow_60L Q  n) σ l1 l2 l3 l4 := h
    unfold f_X9_soundRow_60 at h
    refine lv_iload hx hb dX9_soundRow_60 (lv_at hl 4 rfl) ?_
    refine lv_bipush (v := (12 : Int32)) hx hb dX9_soundRow_62 (by decide) ?_
    refine lv_icmp_ge (tgt := 86) hx hb dX9_soundRow_64 (by decide) (fun c9 => ?_) (fun c9 => ?_)
    · have h := h.1 c9
      refine lv_aload_n hx hb dX9_soundRow_86 rfl (lv_at hl 0 rfl) ?_
      refine q_get (T := TX9) (v := .ref (G.2.1 29)) E hh h_inX9 28 (WW_at_28 G σ) rfl 1 (by decide) (List.mem_cons_of_mem _ (List.mem_append_left _ (List.mem_of_getElem? (i := 1) rfl))) rfl rfl dX9_soundRow_87 ?_
      refine lv_bipush (v := (12 : Int32)) hx hb dX9_soundRow_90 (by decide) ?_
      refine lv_iload_n hx hb dX9_soundRow_92 rfl (lv_at hl 1 rfl) ?_
      refine lv_imul hx hb dX9_soundRow_93 ?_
      obtain ⟨h0, h⟩ := h
      refine q_iald E hh 29 (WW_at_29 G σ) h0 dX9_soundRow_94 ?_
      exact q_iret E hh hr hlocks h dX9_soundRow_95
    · have h := h.2 c9
      refine lv_aload_n hx hb dX9_soundRow_67 rfl (lv_at hl 0 rfl) ?_
      refine lv_bipush (v := (12 : Int32)) hx hb dX9_soundRow_68 (by decide) ?_
      refine lv_iload_n hx hb dX9_soundRow_70 rfl (lv_at hl 1 rfl) ?_
      refine lv_imul hx hb dX9_soundRow_71 ?_
      refine lv_iload hx hb dX9_soundRow_72 (lv_at hl 4 rfl) ?_
      refine lv_iadd hx hb dX9_soundRow_74 ?_
      refine lv_iload_n hx hb dX9_soundRow_75 rfl (lv_at hl 2 rfl) ?_
      refine lv_iload_n hx hb dX9_soundRow_76 rfl (lv_at hl 3 rfl) ?_
      refine q_Vv (As := [.int (((12 : Int32) * l1) + l4), .int l2, .int l3]) (rest := []) E hh (c_X9_sounds l G _ _ _ _ _ _ h) (cwV 3 hts gX9_soundRow_X9_sounds rfl rfl rfl (by decide +kernel) ⟨Nat.le_of_ble_eq_true rfl, Nat.le_of_ble_eq_true rfl⟩) (va_recv (ci := 9) E.2.1 hh.1 rfl (WW_at_28 G σ)) rfl hl.1 rfl (Nat.le_of_ble_eq_true rfl) dX9_soundRow_77 ⟨Nat.zero_le _, Nat.zero_le _⟩ (fun s77 H locs h hh => ?_)
      refine lv_iinc (v := (l4 + 1)) (lv' := [(4, .int (l4 + 1)), (0, .ref (G.2.1 28)), (1, .int l1), (2, .int l2), (3, .int l3)]) hx hb dX9_soundRow_80 hl (k := 4) rfl rfl (by decide) rfl (fun ls hl => ?_)
      refine lv_goto (tgt := 60) hx hb dX9_soundRow_83 (by decide) ?_
      exact ih _ _ _ _ _ _ _ _ h hh (lv_sub hl [1, 2, 3, 4, 0] rfl)
def f_X9_soundRow_21 (Q : Int32 → St → Prop)  (σ : St) (l1 : Int32) (l2 : Int32) (l3 : Int32) (t1 : Int32) : Prop :=
  f_X9_bad σ t1 (1 : Int32) (fun r22 s22 => ((¬ r22 = 0 → Q (0 : Int32) s22) ∧ (r22 = 0 → f_X9_isThick s22 l2 (fun r30 s30 => ((r30 = 0 → f_X9_bad s30 (1 : Int32) (2 : Int32) (fun r49 s49 => ((r49 = 0 → f_X9_soundRow_60L Q FU s49 l1 l2 l3 (0 : Int32)) ∧ (¬ r49 = 0 → Q (0 : Int32) s49)))) ∧ (¬ r30 = 0 → f_X9_isThick s30 l3 (fun r37 s37 => ((¬ r37 = 0 → f_X9_bad s37 (0 : Int32) (2 : Int32) (fun r49 s49 => ((r49 = 0 → f_X9_soundRow_60L Q FU s49 l1 l2 l3 (0 : Int32)) ∧ (¬ r49 = 0 → Q (0 : Int32) s49)))) ∧ (r37 = 0 → f_X9_bad s37 (1 : Int32) (2 : Int32) (fun r49 s49 => ((r49 = 0 → f_X9_soundRow_60L Q FU s49 l1 l2 l3 (0 : Int32)) ∧ (¬ r49 = 0 → Q (0 : Int32) s49))))))))))))
set_option maxHeartbeats 4000000 in
set_option maxRecDepth 100000 in
theorem w_X9_soundRow_21 {p : Program} {l : Launch} {e : Env} {s : State} {m : MethodId} {args : Array Value} {below : List Frame} {meth : Method} {c : Code} {G : GG} (E : EV p s m args c cX9_soundRow 5 wsX9_soundRow RX9 G (AD G s.heap.size)) (hr : meth.sig.returnType = (some .int)) (hlocks : meth.locks = false) {Q : Int32 → St → Prop}  : ∀ (σ : St) (l1 : Int32) (l2 : Int32) (l3 : Int32) (t1 : Int32) (H : Heap) (locs : List Loc) (ls : Array Slot), f_X9_soundRow_21 Q  σ l1 l2 l3 t1 → HH G (AD G s.heap.size) s σ H locs → lv_has ls 5 [(0, .ref (G.2.1 28)), (1, .int l1), (2, .int l2), (3, .int l3)] → W p l e ({ frames := 2, cells := 0, slots := 0, locals := 43 }) s m args below meth c H locs 0 0 (MQi below G args s Q) (F0 m 21 ls [.int t1, .ref (G.2.1 28)]) := by
  have hx := E.1.1
  have hb := E.1.2.1
  have hown := E.1.2.2.2.1
  have hts := E.1.2.2.2.2
  have h_inX9 : ∀ w ∈ wsX90, w ∈ wsX9_soundRow := (fun _ h9 => (List.mem_cons_of_mem _ (List.mem_append_right _ h9)))
  intro σ l1 l2 l3 t1 H locs ls h hh hl
  unfold f_X9_soundRow_21 at h
  refine lv_iconst (v := (1 : Int32)) hx hb dX9_soundRow_21 (by decide) ?_
  refine q_Vi (As := [.int t1, .int (1 : Int32)]) (rest := []) E hh (c_X9_bad l G _ _ _ _ _ h) (cwV 2 hts gX9_soundRow_X9_bad rfl rfl rfl (by decide +kernel) ⟨Nat.le_of_ble_eq_true rfl, Nat.le_of_ble_eq_true rfl⟩) (va_recv (ci := 9) E.2.1 hh.1 rfl (WW_at_28 G σ)) rfl hl.1 rfl (Nat.le_of_ble_eq_true rfl) dX9_soundRow_22 ⟨Nat.zero_le _, Nat.zero_le _⟩ (fun r22 s22 H locs h hh => ?_)
  refine lv_if_ne (tgt := 55) hx hb dX9_soundRow_25 (by decide) (fun c9 => ?_) (fun c9 => ?_)
  · have h := h.1 c9
    refine lv_iconst (v := (0 : Int32)) hx hb dX9_soundRow_55 (by decide) ?_
    exact q_iret E hh hr hlocks h dX9_soundRow_56
  · have h := h.2 c9
    refine lv_aload_n hx hb dX9_soundRow_28 rfl (lv_at hl 0 rfl) ?_
    refine lv_iload_n hx hb dX9_soundRow_29 rfl (lv_at hl 2 rfl) ?_
    refine q_Si (As := [.int l2]) (rest := [.ref (G.2.1 28)]) E hh (c_X9_isThick l G _ _ _ _ h) (va_cwS 1 hts gX9_soundRow_X9_isThick rfl rfl rfl (by decide +kernel) ⟨Nat.le_of_ble_eq_true rfl, Nat.le_of_ble_eq_true rfl⟩) rfl hl.1 rfl (Nat.le_of_ble_eq_true rfl) dX9_soundRow_30 ⟨Nat.zero_le _, Nat.zero_le _⟩ (fun r30 s30 H locs h hh => ?_)
    refine lv_if_eq (tgt := 43) hx hb dX9_soundRow_33 (by decide) (fun c9 => ?_) (fun c9 => ?_)
    · have h := h.1 c9
      refine lv_iconst (v := (1 : Int32)) hx hb dX9_soundRow_43 (by decide) ?_
      refine lv_goto (tgt := 48) hx hb dX9_soundRow_44 (by decide) ?_
      refine lv_iconst (v := (2 : Int32)) hx hb dX9_soundRow_48 (by decide) ?_
      refine q_Vi (As := [.int (1 : Int32), .int (2 : Int32)]) (rest := []) E hh (c_X9_bad l G _ _ _ _ _ h) (cwV 2 hts gX9_soundRow_X9_bad rfl rfl rfl (by decide +kernel) ⟨Nat.le_of_ble_eq_true rfl, Nat.le_of_ble_eq_true rfl⟩) (va_recv (ci := 9) E.2.1 hh.1 rfl (WW_at_28 G s30)) rfl hl.1 rfl (Nat.le_of_ble_eq_true rfl) dX9_soundRow_49 ⟨Nat.zero_le _, Nat.zero_le _⟩ (fun r49 s49 H locs h hh => ?_)
      refine lv_if_eq (tgt := 57) hx hb dX9_soundRow_52 (by decide) (fun c9 => ?_) (fun c9 => ?_)
      · have h := h.1 c9
        refine lv_iconst (v := (0 : Int32)) hx hb dX9_soundRow_57 (by decide) ?_
        refine lv_istore (lv' := [(4, .int (0 : Int32)), (0, .ref (G.2.1 28)), (1, .int l1), (2, .int l2), (3, .int l3)]) hx hb dX9_soundRow_58 hl (by decide) rfl (fun ls hl => ?_)
        exact w_X9_soundRow_60 E hr hlocks  FU _ _ _ _ _ _ _ _ h hh (lv_sub hl [1, 2, 3, 4, 0] rfl)
      · have h := h.2 c9
        refine lv_iconst (v := (0 : Int32)) hx hb dX9_soundRow_55 (by decide) ?_
        exact q_iret E hh hr hlocks h dX9_soundRow_56
    · have h := h.2 c9
      refine lv_iload_n hx hb dX9_soundRow_36 rfl (lv_at hl 3 rfl) ?_
      refine q_Si (As := [.int l3]) (rest := [.ref (G.2.1 28)]) E hh (c_X9_isThick l G _ _ _ _ h) (va_cwS 1 hts gX9_soundRow_X9_isThick rfl rfl rfl (by decide +kernel) ⟨Nat.le_of_ble_eq_true rfl, Nat.le_of_ble_eq_true rfl⟩) rfl hl.1 rfl (Nat.le_of_ble_eq_true rfl) dX9_soundRow_37 ⟨Nat.zero_le _, Nat.zero_le _⟩ (fun r37 s37 H locs h hh => ?_)
      refine lv_if_ne (tgt := 47) hx hb dX9_soundRow_40 (by decide) (fun c9 => ?_) (fun c9 => ?_)
      · have h := h.1 c9
        refine lv_iconst (v := (0 : Int32)) hx hb dX9_soundRow_47 (by decide) ?_
        refine lv_iconst (v := (2 : Int32)) hx hb dX9_soundRow_48 (by decide) ?_
        refine q_Vi (As := [.int (0 : Int32), .int (2 : Int32)]) (rest := []) E hh (c_X9_bad l G _ _ _ _ _ h) (cwV 2 hts gX9_soundRow_X9_bad rfl rfl rfl (by decide +kernel) ⟨Nat.le_of_ble_eq_true rfl, Nat.le_of_ble_eq_true rfl⟩) (va_recv (ci := 9) E.2.1 hh.1 rfl (WW_at_28 G s37)) rfl hl.1 rfl (Nat.le_of_ble_eq_true rfl) dX9_soundRow_49 ⟨Nat.zero_le _, Nat.zero_le _⟩ (fun r49 s49 H locs h hh => ?_)
        refine lv_if_eq (tgt := 57) hx hb dX9_soundRow_52 (by decide) (fun c9 => ?_) (fun c9 => ?_)
        · have h := h.1 c9
          refine lv_iconst (v := (0 : Int32)) hx hb dX9_soundRow_57 (by decide) ?_
          refine lv_istore (lv' := [(4, .int (0 : Int32)), (0, .ref (G.2.1 28)), (1, .int l1), (2, .int l2), (3, .int l3)]) hx hb dX9_soundRow_58 hl (by decide) rfl (fun ls hl => ?_)
          exact w_X9_soundRow_60 E hr hlocks  FU _ _ _ _ _ _ _ _ h hh (lv_sub hl [1, 2, 3, 4, 0] rfl)
        · have h := h.2 c9
          refine lv_iconst (v := (0 : Int32)) hx hb dX9_soundRow_55 (by decide) ?_
          exact q_iret E hh hr hlocks h dX9_soundRow_56
      · have h := h.2 c9
        refine lv_iconst (v := (1 : Int32)) hx hb dX9_soundRow_43 (by decide) ?_
        refine lv_goto (tgt := 48) hx hb dX9_soundRow_44 (by decide) ?_
        refine lv_iconst (v := (2 : Int32)) hx hb dX9_soundRow_48 (by decide) ?_
        refine q_Vi (As := [.int (1 : Int32), .int (2 : Int32)]) (rest := []) E hh (c_X9_bad l G _ _ _ _ _ h) (cwV 2 hts gX9_soundRow_X9_bad rfl rfl rfl (by decide +kernel) ⟨Nat.le_of_ble_eq_true rfl, Nat.le_of_ble_eq_true rfl⟩) (va_recv (ci := 9) E.2.1 hh.1 rfl (WW_at_28 G s37)) rfl hl.1 rfl (Nat.le_of_ble_eq_true rfl) dX9_soundRow_49 ⟨Nat.zero_le _, Nat.zero_le _⟩ (fun r49 s49 H locs h hh => ?_)
        refine lv_if_eq (tgt := 57) hx hb dX9_soundRow_52 (by decide) (fun c9 => ?_) (fun c9 => ?_)
        · have h := h.1 c9
          refine lv_iconst (v := (0 : Int32)) hx hb dX9_soundRow_57 (by decide) ?_
          refine lv_istore (lv' := [(4, .int (0 : Int32)), (0, .ref (G.2.1 28)), (1, .int l1), (2, .int l2), (3, .int l3)]) hx hb dX9_soundRow_58 hl (by decide) rfl (fun ls hl => ?_)
          exact w_X9_soundRow_60 E hr hlocks  FU _ _ _ _ _ _ _ _ h hh (lv_sub hl [1, 2, 3, 4, 0] rfl)
        · have h := h.2 c9
          refine lv_iconst (v := (0 : Int32)) hx hb dX9_soundRow_55 (by decide) ?_
          exact q_iret E hh hr hlocks h dX9_soundRow_56
def f_X9_soundRow (σ : St) (p1 : Int32) (p2 : Int32) (p3 : Int32) (Q : Int32 → St → Prop) : Prop :=
  ((p1 < 0 → f_X9_soundRow_21 Q (si σ 23 (0 : Int32)) p1 p2 p3 (1 : Int32)) ∧ (¬ p1 < 0 → ((p1 < (12 : Int32) → f_X9_soundRow_21 Q (si σ 23 (0 : Int32)) p1 p2 p3 (0 : Int32)) ∧ (¬ p1 < (12 : Int32) → f_X9_soundRow_21 Q (si σ 23 (0 : Int32)) p1 p2 p3 (1 : Int32)))))
set_option maxHeartbeats 4000000 in
set_option maxRecDepth 100000 in
theorem c_X9_soundRow (l : Launch) (G : GG) (σ : St) (sz : Nat) (p1 : Int32) (p2 : Int32) (p3 : Int32) (Q : Int32 → St → Prop) (h : f_X9_soundRow σ p1 p2 p3 Q) : CTi l yX9_soundRow wsX9_soundRow ({ frames := 2, cells := 0, slots := 0, locals := 43 }) [.ref (G.2.1 28), .int p1, .int p2, .int p3] G σ sz Q := by
  refine Met.ofW (cc := cX9_soundRow) (maxL := 5) (ret := (some .int)) (by decide) rfl ?_
  intro p e s m args below meth c s₁ B hml hv
  obtain ⟨rfl, hpre⟩ := hv
  have hr := B.returns
  have hlocks := B.notSynchronized
  obtain ⟨hsz, -⟩ := id hpre
  subst hsz
  obtain ⟨E, hh⟩ := EV.ofPre (⟨B.exec, B.bytes, hml, findClass_of_methodNamed B.named, atoms_spec (ws := wsX9_soundRow) B.pre⟩ : CallFix p m c cX9_soundRow 5 s _ wsX9_soundRow RX9) hpre
  have hx := E.1.1
  have hb := E.1.2.1
  have hown := E.1.2.2.2.1
  have hts := E.1.2.2.2.2
  have h_inX9 : ∀ w ∈ wsX90, w ∈ wsX9_soundRow := (fun _ h9 => (List.mem_cons_of_mem _ (List.mem_append_right _ h9)))
  have hl := lv_entry ([.ref (G.2.1 28), .int p1, .int p2, .int p3]) (n := 5) (Nat.le_of_ble_eq_true rfl)
  rw [lg_entry_eq]
  generalize (lg_sl ([.ref (G.2.1 28), .int p1, .int p2, .int p3]) ++ List.replicate (5 - (lg_sl ([.ref (G.2.1 28), .int p1, .int p2, .int p3])).length) Slot.unset).toArray = ls at hl ⊢
  have hl : lv_has ls 5 [(0, .ref (G.2.1 28)), (1, .int p1), (2, .int p2), (3, .int p3)] := hl
  unfold f_X9_soundRow at h
  refine lv_aload_n hx hb dX9_soundRow_0 rfl (lv_at hl 0 rfl) ?_
  refine lv_iconst (v := (0 : Int32)) hx hb dX9_soundRow_1 (by decide) ?_
  refine q_put (T := TX9) E hh h_inX9 tyX9 tyX9_ok nmX9 28 (WW_at_28 G σ) rfl 0 (by decide) (List.mem_cons_of_mem _ (List.mem_append_left _ (List.mem_of_getElem? (i := 0) rfl))) rfl rfl (by decide +kernel) (Nat.le_of_ble_eq_true rfl) dX9_soundRow_2 (WW_si_23 G σ (0 : Int32)) (fun H locs hh => ?_)
  refine lv_aload_n hx hb dX9_soundRow_5 rfl (lv_at hl 0 rfl) ?_
  refine lv_iload_n hx hb dX9_soundRow_6 rfl (lv_at hl 1 rfl) ?_
  refine lv_if_lt (tgt := 16) hx hb dX9_soundRow_7 (by decide) (fun c9 => ?_) (fun c9 => ?_)
  · have h := h.1 c9
    refine lv_iconst (v := (1 : Int32)) hx hb dX9_soundRow_16 (by decide) ?_
    refine lv_goto (tgt := 21) hx hb dX9_soundRow_17 (by decide) ?_
    exact w_X9_soundRow_21 E hr hlocks  _ _ _ _ _ _ _ _ h hh (lv_sub hl [0, 1, 2, 3] rfl)
  · have h := h.2 c9
    refine lv_iload_n hx hb dX9_soundRow_10 rfl (lv_at hl 1 rfl) ?_
    refine lv_bipush (v := (12 : Int32)) hx hb dX9_soundRow_11 (by decide) ?_
    refine lv_icmp_lt (tgt := 20) hx hb dX9_soundRow_13 (by decide) (fun c9 => ?_) (fun c9 => ?_)
    · have h := h.1 c9
      refine lv_iconst (v := (0 : Int32)) hx hb dX9_soundRow_20 (by decide) ?_
      exact w_X9_soundRow_21 E hr hlocks  _ _ _ _ _ _ _ _ h hh (lv_sub hl [0, 1, 2, 3] rfl)
    · have h := h.2 c9
      refine lv_iconst (v := (1 : Int32)) hx hb dX9_soundRow_16 (by decide) ?_
      refine lv_goto (tgt := 21) hx hb dX9_soundRow_17 (by decide) ?_
      exact w_X9_soundRow_21 E hr hlocks  _ _ _ _ _ _ _ _ h hh (lv_sub hl [0, 1, 2, 3] rfl)
def f_X9_crack (σ : St) (p1 : Int32) (p2 : Int32) (Q : Int32 → St → Prop) : Prop :=
  f_X9_isCell σ p1 (fun r2 s2 => ((¬ r2 = 0 → (vp_in p1 144 ∧ (vp_in p1 144 ∧ (zok .boolean (ga s2 31 p1.toNatClampNeg) ∧ Q (ga s2 31 p1.toNatClampNeg) (sa s2 31 (upd (ga s2 31) p1.toNatClampNeg (vp_nar .boolean p2))))))) ∧ (r2 = 0 → Q (0 : Int32) s2)))
set_option maxHeartbeats 4000000 in
set_option maxRecDepth 100000 in
theorem c_X9_crack (l : Launch) (G : GG) (σ : St) (sz : Nat) (p1 : Int32) (p2 : Int32) (Q : Int32 → St → Prop) (h : f_X9_crack σ p1 p2 Q) : CTi l yX9_crack wsX9_crack ({ frames := 1, cells := 0, slots := 0, locals := 21 }) [.ref (G.2.1 28), .int p1, .int p2] G σ sz Q := by
  refine Met.ofW (cc := cX9_crack) (maxL := 4) (ret := (some .boolean)) (by decide) rfl ?_
  intro p e s m args below meth c s₁ B hml hv
  obtain ⟨rfl, hpre⟩ := hv
  have hr := B.returns
  have hlocks := B.notSynchronized
  obtain ⟨hsz, -⟩ := id hpre
  subst hsz
  obtain ⟨E, hh⟩ := EV.ofPre (⟨B.exec, B.bytes, hml, findClass_of_methodNamed B.named, atoms_spec (ws := wsX9_crack) B.pre⟩ : CallFix p m c cX9_crack 4 s _ wsX9_crack RX9) hpre
  have hx := E.1.1
  have hb := E.1.2.1
  have hown := E.1.2.2.2.1
  have hts := E.1.2.2.2.2
  have h_inX9 : ∀ w ∈ wsX90, w ∈ wsX9_crack := (fun _ h9 => (List.mem_cons_of_mem _ (List.mem_append_right _ h9)))
  have hl := lv_entry ([.ref (G.2.1 28), .int p1, .int p2]) (n := 4) (Nat.le_of_ble_eq_true rfl)
  rw [lg_entry_eq]
  generalize (lg_sl ([.ref (G.2.1 28), .int p1, .int p2]) ++ List.replicate (4 - (lg_sl ([.ref (G.2.1 28), .int p1, .int p2])).length) Slot.unset).toArray = ls at hl ⊢
  have hl : lv_has ls 4 [(0, .ref (G.2.1 28)), (1, .int p1), (2, .int p2)] := hl
  unfold f_X9_crack at h
  refine lv_aload_n hx hb dX9_crack_0 rfl (lv_at hl 0 rfl) ?_
  refine lv_iload_n hx hb dX9_crack_1 rfl (lv_at hl 1 rfl) ?_
  refine q_Vi (As := [.int p1]) (rest := []) E hh (c_X9_isCell l G _ _ _ _ h) (cwV 1 hts gX9_crack_X9_isCell rfl rfl rfl (by decide +kernel) ⟨Nat.le_of_ble_eq_true rfl, Nat.le_of_ble_eq_true rfl⟩) (va_recv (ci := 9) E.2.1 hh.1 rfl (WW_at_28 G σ)) rfl hl.1 rfl (Nat.le_of_ble_eq_true rfl) dX9_crack_2 ⟨Nat.zero_le _, Nat.zero_le _⟩ (fun r2 s2 H locs h hh => ?_)
  refine lv_if_ne (tgt := 10) hx hb dX9_crack_5 (by decide) (fun c9 => ?_) (fun c9 => ?_)
  · have h := h.1 c9
    refine lv_aload_n hx hb dX9_crack_10 rfl (lv_at hl 0 rfl) ?_
    refine q_get (T := TX9) (v := .ref (G.2.1 31)) E hh h_inX9 28 (WW_at_28 G s2) rfl 3 (by decide) (List.mem_cons_of_mem _ (List.mem_append_left _ (List.mem_of_getElem? (i := 0) rfl))) rfl rfl dX9_crack_11 ?_
    refine lv_iload_n hx hb dX9_crack_14 rfl (lv_at hl 1 rfl) ?_
    obtain ⟨h0, h⟩ := h
    refine q_zald E hh 31 (WW_at_31 G s2) h0 dX9_crack_15 ?_
    refine lv_istore_n (lv' := [(3, .int (ga s2 31 p1.toNatClampNeg)), (0, .ref (G.2.1 28)), (1, .int p1), (2, .int p2)]) hx hb dX9_crack_16 rfl hl (by decide) rfl (fun ls hl => ?_)
    refine lv_aload_n hx hb dX9_crack_17 rfl (lv_at hl 1 rfl) ?_
    refine q_get (T := TX9) (v := .ref (G.2.1 31)) E hh h_inX9 28 (WW_at_28 G s2) rfl 3 (by decide) (List.mem_cons_of_mem _ (List.mem_append_left _ (List.mem_of_getElem? (i := 0) rfl))) rfl rfl dX9_crack_18 ?_
    refine lv_iload_n hx hb dX9_crack_21 rfl (lv_at hl 2 rfl) ?_
    refine lv_iload_n hx hb dX9_crack_22 rfl (lv_at hl 3 rfl) ?_
    obtain ⟨h0, h⟩ := h
    refine q_zast E hh 31 (WW_at_31 G s2) h0 dX9_crack_23 (WW_sa_31 G s2 (upd (ga s2 31) p1.toNatClampNeg (vp_nar .boolean p2))) (fun H locs hh => ?_)
    refine lv_iload_n hx hb dX9_crack_24 rfl (lv_at hl 0 rfl) ?_
    exact q_zret (ty := .boolean) E hh hr hlocks h.1 h.2 dX9_crack_25
  · have h := h.2 c9
    refine lv_iconst (v := (0 : Int32)) hx hb dX9_crack_8 (by decide) ?_
    exact q_zret (ty := .boolean) E hh hr hlocks rfl h dX9_crack_9
def f_X9_isSafe (σ : St) (p1 : Int32) (Q : Int32 → St → Prop) : Prop :=
  (vp_in p1 144 ∧ (((ga σ 29 p1.toNatClampNeg) < (gi σ 24) → Q (0 : Int32) σ) ∧ (¬ (ga σ 29 p1.toNatClampNeg) < (gi σ 24) → (vp_in p1 144 ∧ ((¬ (ga σ 31 p1.toNatClampNeg) = 0 → Q (0 : Int32) σ) ∧ ((ga σ 31 p1.toNatClampNeg) = 0 → Q (1 : Int32) σ))))))
set_option maxHeartbeats 4000000 in
set_option maxRecDepth 100000 in
theorem c_X9_isSafe (l : Launch) (G : GG) (σ : St) (sz : Nat) (p1 : Int32) (Q : Int32 → St → Prop) (h : f_X9_isSafe σ p1 Q) : CTi l yX9_isSafe wsX9_isSafe ({ frames := 0, cells := 0, slots := 0, locals := 0 }) [.ref (G.2.1 28), .int p1] G σ sz Q := by
  refine Met.ofW (cc := cX9_isSafe) (maxL := 2) (ret := (some .boolean)) (by decide) rfl ?_
  intro p e s m args below meth c s₁ B hml hv
  obtain ⟨rfl, hpre⟩ := hv
  have hr := B.returns
  have hlocks := B.notSynchronized
  obtain ⟨hsz, -⟩ := id hpre
  subst hsz
  obtain ⟨E, hh⟩ := EV.ofPre (⟨B.exec, B.bytes, hml, findClass_of_methodNamed B.named, atoms_spec (ws := wsX9_isSafe) B.pre⟩ : CallFix p m c cX9_isSafe 2 s _ wsX9_isSafe RX9) hpre
  have hx := E.1.1
  have hb := E.1.2.1
  have hown := E.1.2.2.2.1
  have hts := E.1.2.2.2.2
  have h_inX9 : ∀ w ∈ wsX90, w ∈ wsX9_isSafe := (fun _ h9 => (List.mem_cons_of_mem _ (List.mem_append_right _ h9)))
  have hl := lv_entry ([.ref (G.2.1 28), .int p1]) (n := 2) (Nat.le_of_ble_eq_true rfl)
  rw [lg_entry_eq]
  generalize (lg_sl ([.ref (G.2.1 28), .int p1]) ++ List.replicate (2 - (lg_sl ([.ref (G.2.1 28), .int p1])).length) Slot.unset).toArray = ls at hl ⊢
  have hl : lv_has ls 2 [(0, .ref (G.2.1 28)), (1, .int p1)] := hl
  unfold f_X9_isSafe at h
  refine lv_aload_n hx hb dX9_isSafe_0 rfl (lv_at hl 0 rfl) ?_
  refine q_get (T := TX9) (v := .ref (G.2.1 29)) E hh h_inX9 28 (WW_at_28 G σ) rfl 1 (by decide) (List.mem_cons_of_mem _ (List.mem_append_left _ (List.mem_of_getElem? (i := 0) rfl))) rfl rfl dX9_isSafe_1 ?_
  refine lv_iload_n hx hb dX9_isSafe_4 rfl (lv_at hl 1 rfl) ?_
  obtain ⟨h0, h⟩ := h
  refine q_iald E hh 29 (WW_at_29 G σ) h0 dX9_isSafe_5 ?_
  refine lv_aload_n hx hb dX9_isSafe_6 rfl (lv_at hl 0 rfl) ?_
  refine q_get (T := TX9) (v := .int (gi σ 24)) E hh h_inX9 28 (WW_at_28 G σ) rfl 4 (by decide) (List.mem_cons_of_mem _ (List.mem_append_left _ (List.mem_of_getElem? (i := 1) rfl))) rfl rfl dX9_isSafe_7 ?_
  refine lv_icmp_lt (tgt := 26) hx hb dX9_isSafe_10 (by decide) (fun c9 => ?_) (fun c9 => ?_)
  · have h := h.1 c9
    refine lv_iconst (v := (0 : Int32)) hx hb dX9_isSafe_26 (by decide) ?_
    exact q_zret (ty := .boolean) E hh hr hlocks rfl h dX9_isSafe_27
  · have h := h.2 c9
    refine lv_aload_n hx hb dX9_isSafe_13 rfl (lv_at hl 0 rfl) ?_
    refine q_get (T := TX9) (v := .ref (G.2.1 31)) E hh h_inX9 28 (WW_at_28 G σ) rfl 3 (by decide) (List.mem_cons_of_mem _ (List.mem_append_left _ (List.mem_of_getElem? (i := 2) rfl))) rfl rfl dX9_isSafe_14 ?_
    refine lv_iload_n hx hb dX9_isSafe_17 rfl (lv_at hl 1 rfl) ?_
    obtain ⟨h0, h⟩ := h
    refine q_zald E hh 31 (WW_at_31 G σ) h0 dX9_isSafe_18 ?_
    refine lv_if_ne (tgt := 26) hx hb dX9_isSafe_19 (by decide) (fun c9 => ?_) (fun c9 => ?_)
    · have h := h.1 c9
      refine lv_iconst (v := (0 : Int32)) hx hb dX9_isSafe_26 (by decide) ?_
      exact q_zret (ty := .boolean) E hh hr hlocks rfl h dX9_isSafe_27
    · have h := h.2 c9
      refine lv_iconst (v := (1 : Int32)) hx hb dX9_isSafe_22 (by decide) ?_
      refine lv_goto (tgt := 27) hx hb dX9_isSafe_23 (by decide) ?_
      exact q_zret (ty := .boolean) E hh hr hlocks rfl h dX9_isSafe_27
def f_X9_safeMany_4 (Q : Int32 → St → Prop)  (rec : St → Int32 → Int32 → Prop) (σ : St) (l1 : Int32) (l2 : Int32) : Prop :=
  (((144 : Int32) ≤ l2 → Q l1 σ) ∧ (¬ (144 : Int32) ≤ l2 → f_X9_isSafe σ l2 (fun r14 s14 => ((r14 = 0 → rec s14 (l1 + (0 : Int32)) (l2 + 1)) ∧ (¬ r14 = 0 → rec s14 (l1 + (1 : Int32)) (l2 + 1))))))
def f_X9_safeMany_4L (Q : Int32 → St → Prop)  : Nat → St → Int32 → Int32 → Prop
  | 0, _, _, _ => False
  | n + 1, σ, l1, l2 => f_X9_safeMany_4 Q  (f_X9_safeMany_4L Q  n) σ l1 l2
set_option maxHeartbeats 4000000 in
set_option maxRecDepth 100000 in
theorem w_X9_safeMany_4 {p : Program} {l : Launch} {e : Env} {s : State} {m : MethodId} {args : Array Value} {below : List Frame} {meth : Method} {c : Code} {G : GG} (E : EV p s m args c cX9_safeMany 3 wsX9_safeMany RX9 G (AD G s.heap.size)) (hr : meth.sig.returnType = (some .int)) (hlocks : meth.locks = false) {Q : Int32 → St → Prop}  : ∀ (n : Nat) (σ : St) (l1 : Int32) (l2 : Int32) (H : Heap) (locs : List Loc) (ls : Array Slot), f_X9_safeMany_4L Q  n σ l1 l2 → HH G (AD G s.heap.size) s σ H locs → lv_has ls 3 [(0, .ref (G.2.1 28)), (1, .int l1), (2, .int l2)] → W p l e ({ frames := 1, cells := 0, slots := 0, locals := 21 }) s m args below meth c H locs 0 0 (MQi below G args s Q) (F0 m 4 ls []) := by
  have hx := E.1.1
  have hb := E.1.2.1
  have hown := E.1.2.2.2.1
  have hts := E.1.2.2.2.2
  intro n
  induction n with
  | zero =>
    intro σ l1 l2 H locs ls h
    exact h.elim
  | succ n ih =>
    intro σ l1 l2 H locs ls h hh hl
    have h : f_X9_safeMany_4 Q  (f_X9_safeMany_4L Q  n) σ l1 l2 := h
    unfold f_X9_safeMany_4 at h
    refine lv_iload_n hx hb dX9_safeMany_4 rfl (lv_at hl 2 rfl) ?_
    refine lv_sipush (v := (144 : Int32)) hx hb dX9_safeMany_5 (by decide) ?_
    refine lv_icmp_ge (tgt := 33) hx hb dX9_safeMany_8 (by decide) (fun c9 => ?_) (fun c9 => ?_)
    · have h := h.1 c9
      refine lv_iload_n hx hb dX9_safeMany_33 rfl (lv_at hl 1 rfl) ?_
      exact q_iret E hh hr hlocks h dX9_safeMany_34
    · have h := h.2 c9
      refine lv_iload_n hx hb dX9_safeMany_11 rfl (lv_at hl 1 rfl) ?_
      refine lv_aload_n hx hb dX9_safeMany_12 rfl (lv_at hl 0 rfl) ?_
      refine lv_iload_n hx hb dX9_safeMany_13 rfl (lv_at hl 2 rfl) ?_
      refine q_Vi (As := [.int l2]) (rest := [.int l1]) E hh (c_X9_isSafe l G _ _ _ _ h) (cwV 1 hts gX9_safeMany_X9_isSafe rfl rfl rfl (by decide +kernel) ⟨Nat.le_of_ble_eq_true rfl, Nat.le_of_ble_eq_true rfl⟩) (va_recv (ci := 9) E.2.1 hh.1 rfl (WW_at_28 G σ)) rfl hl.1 rfl (Nat.le_of_ble_eq_true rfl) dX9_safeMany_14 ⟨Nat.zero_le _, Nat.zero_le _⟩ (fun r14 s14 H locs h hh => ?_)
      refine lv_if_eq (tgt := 24) hx hb dX9_safeMany_17 (by decide) (fun c9 => ?_) (fun c9 => ?_)
      · have h := h.1 c9
        refine lv_iconst (v := (0 : Int32)) hx hb dX9_safeMany_24 (by decide) ?_
        refine lv_iadd hx hb dX9_safeMany_25 ?_
        refine lv_istore_n (lv' := [(1, .int (l1 + (0 : Int32))), (0, .ref (G.2.1 28)), (2, .int l2)]) hx hb dX9_safeMany_26 rfl hl (by decide) rfl (fun ls hl => ?_)
        refine lv_iinc (v := (l2 + 1)) (lv' := [(2, .int (l2 + 1)), (1, .int (l1 + (0 : Int32))), (0, .ref (G.2.1 28))]) hx hb dX9_safeMany_27 hl (k := 2) rfl rfl (by decide) rfl (fun ls hl => ?_)
        refine lv_goto (tgt := 4) hx hb dX9_safeMany_30 (by decide) ?_
        exact ih _ _ _ _ _ _ h hh (lv_sub hl [2, 1, 0] rfl)
      · have h := h.2 c9
        refine lv_iconst (v := (1 : Int32)) hx hb dX9_safeMany_20 (by decide) ?_
        refine lv_goto (tgt := 25) hx hb dX9_safeMany_21 (by decide) ?_
        refine lv_iadd hx hb dX9_safeMany_25 ?_
        refine lv_istore_n (lv' := [(1, .int (l1 + (1 : Int32))), (0, .ref (G.2.1 28)), (2, .int l2)]) hx hb dX9_safeMany_26 rfl hl (by decide) rfl (fun ls hl => ?_)
        refine lv_iinc (v := (l2 + 1)) (lv' := [(2, .int (l2 + 1)), (1, .int (l1 + (1 : Int32))), (0, .ref (G.2.1 28))]) hx hb dX9_safeMany_27 hl (k := 2) rfl rfl (by decide) rfl (fun ls hl => ?_)
        refine lv_goto (tgt := 4) hx hb dX9_safeMany_30 (by decide) ?_
        exact ih _ _ _ _ _ _ h hh (lv_sub hl [2, 1, 0] rfl)
def f_X9_safeMany (σ : St)  (Q : Int32 → St → Prop) : Prop :=
  f_X9_safeMany_4L Q FU σ (0 : Int32) (0 : Int32)
set_option maxHeartbeats 4000000 in
set_option maxRecDepth 100000 in
theorem c_X9_safeMany (l : Launch) (G : GG) (σ : St) (sz : Nat)  (Q : Int32 → St → Prop) (h : f_X9_safeMany σ  Q) : CTi l yX9_safeMany wsX9_safeMany ({ frames := 1, cells := 0, slots := 0, locals := 21 }) [.ref (G.2.1 28)] G σ sz Q := by
  refine Met.ofW (cc := cX9_safeMany) (maxL := 3) (ret := (some .int)) (by decide) rfl ?_
  intro p e s m args below meth c s₁ B hml hv
  obtain ⟨rfl, hpre⟩ := hv
  have hr := B.returns
  have hlocks := B.notSynchronized
  obtain ⟨hsz, -⟩ := id hpre
  subst hsz
  obtain ⟨E, hh⟩ := EV.ofPre (⟨B.exec, B.bytes, hml, findClass_of_methodNamed B.named, atoms_spec (ws := wsX9_safeMany) B.pre⟩ : CallFix p m c cX9_safeMany 3 s _ wsX9_safeMany RX9) hpre
  have hx := E.1.1
  have hb := E.1.2.1
  have hown := E.1.2.2.2.1
  have hts := E.1.2.2.2.2
  have hl := lv_entry ([.ref (G.2.1 28)]) (n := 3) (Nat.le_of_ble_eq_true rfl)
  rw [lg_entry_eq]
  generalize (lg_sl ([.ref (G.2.1 28)]) ++ List.replicate (3 - (lg_sl ([.ref (G.2.1 28)])).length) Slot.unset).toArray = ls at hl ⊢
  have hl : lv_has ls 3 [(0, .ref (G.2.1 28))] := hl
  unfold f_X9_safeMany at h
  refine lv_iconst (v := (0 : Int32)) hx hb dX9_safeMany_0 (by decide) ?_
  refine lv_istore_n (lv' := [(1, .int (0 : Int32)), (0, .ref (G.2.1 28))]) hx hb dX9_safeMany_1 rfl hl (by decide) rfl (fun ls hl => ?_)
  refine lv_iconst (v := (0 : Int32)) hx hb dX9_safeMany_2 (by decide) ?_
  refine lv_istore_n (lv' := [(2, .int (0 : Int32)), (1, .int (0 : Int32)), (0, .ref (G.2.1 28))]) hx hb dX9_safeMany_3 rfl hl (by decide) rfl (fun ls hl => ?_)
  exact w_X9_safeMany_4 E hr hlocks  FU _ _ _ _ _ _ h hh (lv_sub hl [2, 1, 0] rfl)
def f_X9_isDegrees (σ : St) (p0 : Int32) (Q : Int32 → St → Prop) : Prop :=
  ((p0 < (-40 : Int32) → Q (0 : Int32) σ) ∧ (¬ p0 < (-40 : Int32) → (((20 : Int32) < p0 → Q (0 : Int32) σ) ∧ (¬ (20 : Int32) < p0 → Q (1 : Int32) σ))))
set_option maxHeartbeats 4000000 in
set_option maxRecDepth 100000 in
theorem c_X9_isDegrees (l : Launch) (G : GG) (σ : St) (sz : Nat) (p0 : Int32) (Q : Int32 → St → Prop) (h : f_X9_isDegrees σ p0 Q) : CTi l yX9_isDegrees wsX9_isDegrees ({ frames := 0, cells := 0, slots := 0, locals := 0 }) [.int p0] G σ sz Q := by
  refine Met.ofW (cc := cX9_isDegrees) (maxL := 1) (ret := (some .boolean)) (by decide) rfl ?_
  intro p e s m args below meth c s₁ B hml hv
  obtain ⟨rfl, hpre⟩ := hv
  have hr := B.returns
  have hlocks := B.notSynchronized
  obtain ⟨hsz, -⟩ := id hpre
  subst hsz
  obtain ⟨E, hh⟩ := EV.ofPre (⟨B.exec, B.bytes, hml, findClass_of_methodNamed B.named, atoms_spec (ws := wsX9_isDegrees) B.pre⟩ : CallFix p m c cX9_isDegrees 1 s _ wsX9_isDegrees RX9) hpre
  have hx := E.1.1
  have hb := E.1.2.1
  have hown := E.1.2.2.2.1
  have hts := E.1.2.2.2.2
  have hl := lv_entry ([.int p0]) (n := 1) (Nat.le_of_ble_eq_true rfl)
  rw [lg_entry_eq]
  generalize (lg_sl ([.int p0]) ++ List.replicate (1 - (lg_sl ([.int p0])).length) Slot.unset).toArray = ls at hl ⊢
  have hl : lv_has ls 1 [(0, .int p0)] := hl
  unfold f_X9_isDegrees at h
  refine lv_iload_n hx hb dX9_isDegrees_0 rfl (lv_at hl 0 rfl) ?_
  refine lv_bipush (v := (-40 : Int32)) hx hb dX9_isDegrees_1 (by decide) ?_
  refine lv_icmp_lt (tgt := 16) hx hb dX9_isDegrees_3 (by decide) (fun c9 => ?_) (fun c9 => ?_)
  · have h := h.1 c9
    refine lv_iconst (v := (0 : Int32)) hx hb dX9_isDegrees_16 (by decide) ?_
    exact q_zret (ty := .boolean) E hh hr hlocks rfl h dX9_isDegrees_17
  · have h := h.2 c9
    refine lv_iload_n hx hb dX9_isDegrees_6 rfl (lv_at hl 0 rfl) ?_
    refine lv_bipush (v := (20 : Int32)) hx hb dX9_isDegrees_7 (by decide) ?_
    refine lv_icmp_gt (tgt := 16) hx hb dX9_isDegrees_9 (by decide) (fun c9 => ?_) (fun c9 => ?_)
    · have h := h.1 c9
      refine lv_iconst (v := (0 : Int32)) hx hb dX9_isDegrees_16 (by decide) ?_
      exact q_zret (ty := .boolean) E hh hr hlocks rfl h dX9_isDegrees_17
    · have h := h.2 c9
      refine lv_iconst (v := (1 : Int32)) hx hb dX9_isDegrees_12 (by decide) ?_
      refine lv_goto (tgt := 17) hx hb dX9_isDegrees_13 (by decide) ?_
      exact q_zret (ty := .boolean) E hh hr hlocks rfl h dX9_isDegrees_17
def f_X9_hour_61 (Q : Int32 → St → Prop)  (rec : St → Int32 → Int32 → Int32 → Prop) (σ : St) (l2 : Int32) (l3 : Int32) (l4 : Int32) : Prop :=
  (((144 : Int32) ≤ l4 → f_X9_safeMany σ (fun r114 s114 => Q r114 s114)) ∧ (¬ (144 : Int32) ≤ l4 → (vp_in l4 144 ∧ f_X9_within σ ((ga σ 29 l4.toNatClampNeg) + l2) (fun r84 s84 => (vp_in l4 144 ∧ (vp_in l4 144 ∧ f_X9_within (sa s84 29 (upd (ga s84 29) l4.toNatClampNeg r84)) ((ga (sa s84 29 (upd (ga s84 29) l4.toNatClampNeg r84)) 30 l4.toNatClampNeg) + l3) (fun r103 s103 => (vp_in l4 144 ∧ rec (sa s103 30 (upd (ga s103 30) l4.toNatClampNeg r103)) l2 l3 (l4 + 1)))))))))
def f_X9_hour_61L (Q : Int32 → St → Prop)  : Nat → St → Int32 → Int32 → Int32 → Prop
  | 0, _, _, _, _ => False
  | n + 1, σ, l2, l3, l4 => f_X9_hour_61 Q  (f_X9_hour_61L Q  n) σ l2 l3 l4
set_option maxHeartbeats 4000000 in
set_option maxRecDepth 100000 in
theorem w_X9_hour_61 {p : Program} {l : Launch} {e : Env} {s : State} {m : MethodId} {args : Array Value} {below : List Frame} {meth : Method} {c : Code} {G : GG} (E : EV p s m args c cX9_hour 5 wsX9_hour RX9 G (AD G s.heap.size)) (hr : meth.sig.returnType = (some .int)) (hlocks : meth.locks = false) {Q : Int32 → St → Prop}  : ∀ (n : Nat) (σ : St) (l2 : Int32) (l3 : Int32) (l4 : Int32) (H : Heap) (locs : List Loc) (ls : Array Slot), f_X9_hour_61L Q  n σ l2 l3 l4 → HH G (AD G s.heap.size) s σ H locs → lv_has ls 5 [(0, .ref (G.2.1 28)), (2, .int l2), (3, .int l3), (4, .int l4)] → W p l e ({ frames := 2, cells := 0, slots := 0, locals := 43 }) s m args below meth c H locs 0 0 (MQi below G args s Q) (F0 m 61 ls []) := by
  have hx := E.1.1
  have hb := E.1.2.1
  have hown := E.1.2.2.2.1
  have hts := E.1.2.2.2.2
  have h_inX9 : ∀ w ∈ wsX90, w ∈ wsX9_hour := (fun _ h9 => (List.mem_cons_of_mem _ (List.mem_append_right _ h9)))
  intro n
  induction n with
  | zero =>
    intro σ l2 l3 l4 H locs ls h
    exact h.elim
  | succ n ih =>
    intro σ l2 l3 l4 H locs ls h hh hl
    have h : f_X9_hour_61 Q  (f_X9_hour_61L Q  n) σ l2 l3 l4 := h
    unfold f_X9_hour_61 at h
    refine lv_iload hx hb dX9_hour_61 (lv_at hl 3 rfl) ?_
    refine lv_sipush (v := (144 : Int32)) hx hb dX9_hour_63 (by decide) ?_
    refine lv_icmp_ge (tgt := 113) hx hb dX9_hour_66 (by decide) (fun c9 => ?_) (fun c9 => ?_)
    · have h := h.1 c9
      refine lv_aload_n hx hb dX9_hour_113 rfl (lv_at hl 0 rfl) ?_
      refine q_Vi (As := []) (rest := []) E hh (c_X9_safeMany l G _ _  _ h) (cwV 0 hts gX9_hour_X9_safeMany rfl rfl rfl (by decide +kernel) ⟨Nat.le_of_ble_eq_true rfl, Nat.le_of_ble_eq_true rfl⟩) (va_recv (ci := 9) E.2.1 hh.1 rfl (WW_at_28 G σ)) rfl hl.1 rfl (Nat.le_of_ble_eq_true rfl) dX9_hour_114 ⟨Nat.zero_le _, Nat.zero_le _⟩ (fun r114 s114 H locs h hh => ?_)
      exact q_iret E hh hr hlocks h dX9_hour_117
    · have h := h.2 c9
      refine lv_aload_n hx hb dX9_hour_69 rfl (lv_at hl 0 rfl) ?_
      refine q_get (T := TX9) (v := .ref (G.2.1 29)) E hh h_inX9 28 (WW_at_28 G σ) rfl 1 (by decide) (List.mem_cons_of_mem _ (List.mem_append_left _ (List.mem_of_getElem? (i := 1) rfl))) rfl rfl dX9_hour_70 ?_
      refine lv_iload hx hb dX9_hour_73 (lv_at hl 3 rfl) ?_
      refine lv_aload_n hx hb dX9_hour_75 rfl (lv_at hl 0 rfl) ?_
      refine q_get (T := TX9) (v := .ref (G.2.1 29)) E hh h_inX9 28 (WW_at_28 G σ) rfl 1 (by decide) (List.mem_cons_of_mem _ (List.mem_append_left _ (List.mem_of_getElem? (i := 1) rfl))) rfl rfl dX9_hour_76 ?_
      refine lv_iload hx hb dX9_hour_79 (lv_at hl 3 rfl) ?_
      obtain ⟨h0, h⟩ := h
      refine q_iald E hh 29 (WW_at_29 G σ) h0 dX9_hour_81 ?_
      refine lv_iload_n hx hb dX9_hour_82 rfl (lv_at hl 1 rfl) ?_
      refine lv_iadd hx hb dX9_hour_83 ?_
      refine q_Si (As := [.int ((ga σ 29 l4.toNatClampNeg) + l2)]) (rest := [.int l4, .ref (G.2.1 29)]) E hh (c_X9_within l G _ _ _ _ h) (va_cwS 1 hts gX9_hour_X9_within rfl rfl rfl (by decide +kernel) ⟨Nat.le_of_ble_eq_true rfl, Nat.le_of_ble_eq_true rfl⟩) rfl hl.1 rfl (Nat.le_of_ble_eq_true rfl) dX9_hour_84 ⟨Nat.zero_le _, Nat.zero_le _⟩ (fun r84 s84 H locs h hh => ?_)
      obtain ⟨h0, h⟩ := h
      refine q_iast E hh 29 (WW_at_29 G s84) h0 dX9_hour_87 (WW_sa_29 G s84 (upd (ga s84 29) l4.toNatClampNeg r84)) (fun H locs hh => ?_)
      refine lv_aload_n hx hb dX9_hour_88 rfl (lv_at hl 0 rfl) ?_
      refine q_get (T := TX9) (v := .ref (G.2.1 30)) E hh h_inX9 28 (WW_at_28 G (sa s84 29 (upd (ga s84 29) l4.toNatClampNeg r84))) rfl 2 (by decide) (List.mem_cons_of_mem _ (List.mem_append_left _ (List.mem_of_getElem? (i := 2) rfl))) rfl rfl dX9_hour_89 ?_
      refine lv_iload hx hb dX9_hour_92 (lv_at hl 3 rfl) ?_
      refine lv_aload_n hx hb dX9_hour_94 rfl (lv_at hl 0 rfl) ?_
      refine q_get (T := TX9) (v := .ref (G.2.1 30)) E hh h_inX9 28 (WW_at_28 G (sa s84 29 (upd (ga s84 29) l4.toNatClampNeg r84))) rfl 2 (by decide) (List.mem_cons_of_mem _ (List.mem_append_left _ (List.mem_of_getElem? (i := 2) rfl))) rfl rfl dX9_hour_95 ?_
      refine lv_iload hx hb dX9_hour_98 (lv_at hl 3 rfl) ?_
      obtain ⟨h0, h⟩ := h
      refine q_iald E hh 30 (WW_at_30 G (sa s84 29 (upd (ga s84 29) l4.toNatClampNeg r84))) h0 dX9_hour_100 ?_
      refine lv_iload_n hx hb dX9_hour_101 rfl (lv_at hl 2 rfl) ?_
      refine lv_iadd hx hb dX9_hour_102 ?_
      refine q_Si (As := [.int ((ga (sa s84 29 (upd (ga s84 29) l4.toNatClampNeg r84)) 30 l4.toNatClampNeg) + l3)]) (rest := [.int l4, .ref (G.2.1 30)]) E hh (c_X9_within l G _ _ _ _ h) (va_cwS 1 hts gX9_hour_X9_within rfl rfl rfl (by decide +kernel) ⟨Nat.le_of_ble_eq_true rfl, Nat.le_of_ble_eq_true rfl⟩) rfl hl.1 rfl (Nat.le_of_ble_eq_true rfl) dX9_hour_103 ⟨Nat.zero_le _, Nat.zero_le _⟩ (fun r103 s103 H locs h hh => ?_)
      obtain ⟨h0, h⟩ := h
      refine q_iast E hh 30 (WW_at_30 G s103) h0 dX9_hour_106 (WW_sa_30 G s103 (upd (ga s103 30) l4.toNatClampNeg r103)) (fun H locs hh => ?_)
      refine lv_iinc (v := (l4 + 1)) (lv' := [(4, .int (l4 + 1)), (0, .ref (G.2.1 28)), (2, .int l2), (3, .int l3)]) hx hb dX9_hour_107 hl (k := 3) rfl rfl (by decide) rfl (fun ls hl => ?_)
      refine lv_goto (tgt := 61) hx hb dX9_hour_110 (by decide) ?_
      exact ih _ _ _ _ _ _ _ h hh (lv_sub hl [1, 2, 3, 0] rfl)
def f_X9_hour_42 (Q : Int32 → St → Prop)  (σ : St) (l1 : Int32) (t0 : Int32) : Prop :=
  ((0 ≤ l1 → f_X9_hour_61L Q FU σ t0 (-l1) (0 : Int32)) ∧ (¬ 0 ≤ l1 → f_X9_hour_61L Q FU σ t0 (((3 : Int32) - l1) / (4 : Int32)) (0 : Int32)))
set_option maxHeartbeats 4000000 in
set_option maxRecDepth 100000 in
theorem w_X9_hour_42 {p : Program} {l : Launch} {e : Env} {s : State} {m : MethodId} {args : Array Value} {below : List Frame} {meth : Method} {c : Code} {G : GG} (E : EV p s m args c cX9_hour 5 wsX9_hour RX9 G (AD G s.heap.size)) (hr : meth.sig.returnType = (some .int)) (hlocks : meth.locks = false) {Q : Int32 → St → Prop}  : ∀ (σ : St) (l1 : Int32) (t0 : Int32) (H : Heap) (locs : List Loc) (ls : Array Slot), f_X9_hour_42 Q  σ l1 t0 → HH G (AD G s.heap.size) s σ H locs → lv_has ls 5 [(0, .ref (G.2.1 28)), (1, .int l1)] → W p l e ({ frames := 2, cells := 0, slots := 0, locals := 43 }) s m args below meth c H locs 0 0 (MQi below G args s Q) (F0 m 42 ls [.int t0]) := by
  have hx := E.1.1
  have hb := E.1.2.1
  have hown := E.1.2.2.2.1
  have hts := E.1.2.2.2.2
  have h_inX9 : ∀ w ∈ wsX90, w ∈ wsX9_hour := (fun _ h9 => (List.mem_cons_of_mem _ (List.mem_append_right _ h9)))
  intro σ l1 t0 H locs ls h hh hl
  unfold f_X9_hour_42 at h
  refine lv_istore_n (lv' := [(2, .int t0), (0, .ref (G.2.1 28)), (1, .int l1)]) hx hb dX9_hour_42 rfl hl (by decide) rfl (fun ls hl => ?_)
  refine lv_iload_n hx hb dX9_hour_43 rfl (lv_at hl 2 rfl) ?_
  refine lv_if_ge (tgt := 55) hx hb dX9_hour_44 (by decide) (fun c9 => ?_) (fun c9 => ?_)
  · have h := h.1 c9
    refine lv_iload_n hx hb dX9_hour_55 rfl (lv_at hl 2 rfl) ?_
    refine lv_ineg hx hb dX9_hour_56 ?_
    refine lv_istore_n (lv' := [(3, .int (-l1)), (2, .int t0), (0, .ref (G.2.1 28)), (1, .int l1)]) hx hb dX9_hour_57 rfl hl (by decide) rfl (fun ls hl => ?_)
    refine lv_iconst (v := (0 : Int32)) hx hb dX9_hour_58 (by decide) ?_
    refine lv_istore (lv' := [(4, .int (0 : Int32)), (3, .int (-l1)), (2, .int t0), (0, .ref (G.2.1 28)), (1, .int l1)]) hx hb dX9_hour_59 hl (by decide) rfl (fun ls hl => ?_)
    exact w_X9_hour_61 E hr hlocks  FU _ _ _ _ _ _ _ h hh (lv_sub hl [3, 2, 1, 0] rfl)
  · have h := h.2 c9
    refine lv_iconst (v := (3 : Int32)) hx hb dX9_hour_47 (by decide) ?_
    refine lv_iload_n hx hb dX9_hour_48 rfl (lv_at hl 2 rfl) ?_
    refine lv_isub hx hb dX9_hour_49 ?_
    refine lv_iconst (v := (4 : Int32)) hx hb dX9_hour_50 (by decide) ?_
    refine lv_idiv hx hb dX9_hour_51 (by decide) ?_
    refine lv_goto (tgt := 57) hx hb dX9_hour_52 (by decide) ?_
    refine lv_istore_n (lv' := [(3, .int (((3 : Int32) - l1) / (4 : Int32))), (2, .int t0), (0, .ref (G.2.1 28)), (1, .int l1)]) hx hb dX9_hour_57 rfl hl (by decide) rfl (fun ls hl => ?_)
    refine lv_iconst (v := (0 : Int32)) hx hb dX9_hour_58 (by decide) ?_
    refine lv_istore (lv' := [(4, .int (0 : Int32)), (3, .int (((3 : Int32) - l1) / (4 : Int32))), (2, .int t0), (0, .ref (G.2.1 28)), (1, .int l1)]) hx hb dX9_hour_59 hl (by decide) rfl (fun ls hl => ?_)
    exact w_X9_hour_61 E hr hlocks  FU _ _ _ _ _ _ _ h hh (lv_sub hl [3, 2, 1, 0] rfl)
def f_X9_hour_18 (Q : Int32 → St → Prop)  (σ : St) (l1 : Int32) (t1 : Int32) : Prop :=
  f_X9_bad σ t1 (1 : Int32) (fun r19 s19 => ((r19 = 0 → ((0 ≤ l1 → f_X9_hour_42 Q s19 l1 ((-3 : Int32) * l1)) ∧ (¬ 0 ≤ l1 → f_X9_hour_42 Q s19 l1 ((-l1) / (4 : Int32))))) ∧ (¬ r19 = 0 → Q (0 : Int32) s19)))
set_option maxHeartbeats 4000000 in
set_option maxRecDepth 100000 in
theorem w_X9_hour_18 {p : Program} {l : Launch} {e : Env} {s : State} {m : MethodId} {args : Array Value} {below : List Frame} {meth : Method} {c : Code} {G : GG} (E : EV p s m args c cX9_hour 5 wsX9_hour RX9 G (AD G s.heap.size)) (hr : meth.sig.returnType = (some .int)) (hlocks : meth.locks = false) {Q : Int32 → St → Prop}  : ∀ (σ : St) (l1 : Int32) (t1 : Int32) (H : Heap) (locs : List Loc) (ls : Array Slot), f_X9_hour_18 Q  σ l1 t1 → HH G (AD G s.heap.size) s σ H locs → lv_has ls 5 [(0, .ref (G.2.1 28)), (1, .int l1)] → W p l e ({ frames := 2, cells := 0, slots := 0, locals := 43 }) s m args below meth c H locs 0 0 (MQi below G args s Q) (F0 m 18 ls [.int t1, .ref (G.2.1 28)]) := by
  have hx := E.1.1
  have hb := E.1.2.1
  have hown := E.1.2.2.2.1
  have hts := E.1.2.2.2.2
  have h_inX9 : ∀ w ∈ wsX90, w ∈ wsX9_hour := (fun _ h9 => (List.mem_cons_of_mem _ (List.mem_append_right _ h9)))
  intro σ l1 t1 H locs ls h hh hl
  unfold f_X9_hour_18 at h
  refine lv_iconst (v := (1 : Int32)) hx hb dX9_hour_18 (by decide) ?_
  refine q_Vi (As := [.int t1, .int (1 : Int32)]) (rest := []) E hh (c_X9_bad l G _ _ _ _ _ h) (cwV 2 hts gX9_hour_X9_bad rfl rfl rfl (by decide +kernel) ⟨Nat.le_of_ble_eq_true rfl, Nat.le_of_ble_eq_true rfl⟩) (va_recv (ci := 9) E.2.1 hh.1 rfl (WW_at_28 G σ)) rfl hl.1 rfl (Nat.le_of_ble_eq_true rfl) dX9_hour_19 ⟨Nat.zero_le _, Nat.zero_le _⟩ (fun r19 s19 H locs h hh => ?_)
  refine lv_if_eq (tgt := 27) hx hb dX9_hour_22 (by decide) (fun c9 => ?_) (fun c9 => ?_)
  · have h := h.1 c9
    refine lv_iload_n hx hb dX9_hour_27 rfl (lv_at hl 1 rfl) ?_
    refine lv_if_ge (tgt := 38) hx hb dX9_hour_28 (by decide) (fun c9 => ?_) (fun c9 => ?_)
    · have h := h.1 c9
      refine lv_bipush (v := (-3 : Int32)) hx hb dX9_hour_38 (by decide) ?_
      refine lv_iload_n hx hb dX9_hour_40 rfl (lv_at hl 1 rfl) ?_
      refine lv_imul hx hb dX9_hour_41 ?_
      exact w_X9_hour_42 E hr hlocks  _ _ _ _ _ _ h hh (lv_sub hl [0, 1] rfl)
    · have h := h.2 c9
      refine lv_iload_n hx hb dX9_hour_31 rfl (lv_at hl 1 rfl) ?_
      refine lv_ineg hx hb dX9_hour_32 ?_
      refine lv_iconst (v := (4 : Int32)) hx hb dX9_hour_33 (by decide) ?_
      refine lv_idiv hx hb dX9_hour_34 (by decide) ?_
      refine lv_goto (tgt := 42) hx hb dX9_hour_35 (by decide) ?_
      exact w_X9_hour_42 E hr hlocks  _ _ _ _ _ _ h hh (lv_sub hl [0, 1] rfl)
  · have h := h.2 c9
    refine lv_iconst (v := (0 : Int32)) hx hb dX9_hour_25 (by decide) ?_
    exact q_iret E hh hr hlocks h dX9_hour_26
def f_X9_hour (σ : St) (p1 : Int32) (Q : Int32 → St → Prop) : Prop :=
  f_X9_isDegrees (si σ 23 (0 : Int32)) p1 (fun r7 s7 => ((¬ r7 = 0 → f_X9_hour_18 Q s7 p1 (0 : Int32)) ∧ (r7 = 0 → f_X9_hour_18 Q s7 p1 (1 : Int32))))
set_option maxHeartbeats 4000000 in
set_option maxRecDepth 100000 in
theorem c_X9_hour (l : Launch) (G : GG) (σ : St) (sz : Nat) (p1 : Int32) (Q : Int32 → St → Prop) (h : f_X9_hour σ p1 Q) : CTi l yX9_hour wsX9_hour ({ frames := 2, cells := 0, slots := 0, locals := 43 }) [.ref (G.2.1 28), .int p1] G σ sz Q := by
  refine Met.ofW (cc := cX9_hour) (maxL := 5) (ret := (some .int)) (by decide) rfl ?_
  intro p e s m args below meth c s₁ B hml hv
  obtain ⟨rfl, hpre⟩ := hv
  have hr := B.returns
  have hlocks := B.notSynchronized
  obtain ⟨hsz, -⟩ := id hpre
  subst hsz
  obtain ⟨E, hh⟩ := EV.ofPre (⟨B.exec, B.bytes, hml, findClass_of_methodNamed B.named, atoms_spec (ws := wsX9_hour) B.pre⟩ : CallFix p m c cX9_hour 5 s _ wsX9_hour RX9) hpre
  have hx := E.1.1
  have hb := E.1.2.1
  have hown := E.1.2.2.2.1
  have hts := E.1.2.2.2.2
  have h_inX9 : ∀ w ∈ wsX90, w ∈ wsX9_hour := (fun _ h9 => (List.mem_cons_of_mem _ (List.mem_append_right _ h9)))
  have hl := lv_entry ([.ref (G.2.1 28), .int p1]) (n := 5) (Nat.le_of_ble_eq_true rfl)
  rw [lg_entry_eq]
  generalize (lg_sl ([.ref (G.2.1 28), .int p1]) ++ List.replicate (5 - (lg_sl ([.ref (G.2.1 28), .int p1])).length) Slot.unset).toArray = ls at hl ⊢
  have hl : lv_has ls 5 [(0, .ref (G.2.1 28)), (1, .int p1)] := hl
  unfold f_X9_hour at h
  refine lv_aload_n hx hb dX9_hour_0 rfl (lv_at hl 0 rfl) ?_
  refine lv_iconst (v := (0 : Int32)) hx hb dX9_hour_1 (by decide) ?_
  refine q_put (T := TX9) E hh h_inX9 tyX9 tyX9_ok nmX9 28 (WW_at_28 G σ) rfl 0 (by decide) (List.mem_cons_of_mem _ (List.mem_append_left _ (List.mem_of_getElem? (i := 0) rfl))) rfl rfl (by decide +kernel) (Nat.le_of_ble_eq_true rfl) dX9_hour_2 (WW_si_23 G σ (0 : Int32)) (fun H locs hh => ?_)
  refine lv_aload_n hx hb dX9_hour_5 rfl (lv_at hl 0 rfl) ?_
  refine lv_iload_n hx hb dX9_hour_6 rfl (lv_at hl 1 rfl) ?_
  refine q_Si (As := [.int p1]) (rest := [.ref (G.2.1 28)]) E hh (c_X9_isDegrees l G _ _ _ _ h) (va_cwS 1 hts gX9_hour_X9_isDegrees rfl rfl rfl (by decide +kernel) ⟨Nat.le_of_ble_eq_true rfl, Nat.le_of_ble_eq_true rfl⟩) rfl hl.1 rfl (Nat.le_of_ble_eq_true rfl) dX9_hour_7 ⟨Nat.zero_le _, Nat.zero_le _⟩ (fun r7 s7 H locs h hh => ?_)
  refine lv_if_ne (tgt := 17) hx hb dX9_hour_10 (by decide) (fun c9 => ?_) (fun c9 => ?_)
  · have h := h.1 c9
    refine lv_iconst (v := (0 : Int32)) hx hb dX9_hour_17 (by decide) ?_
    exact w_X9_hour_18 E hr hlocks  _ _ _ _ _ _ h hh (lv_sub hl [0, 1] rfl)
  · have h := h.2 c9
    refine lv_iconst (v := (1 : Int32)) hx hb dX9_hour_13 (by decide) ?_
    refine lv_goto (tgt := 18) hx hb dX9_hour_14 (by decide) ?_
    exact w_X9_hour_18 E hr hlocks  _ _ _ _ _ _ h hh (lv_sub hl [0, 1] rfl)
def f_X9_ice_23 (Q : Int32 → St → Prop)  (σ : St) (l1 : Int32) (l2 : Int32) (t1 : Int32) : Prop :=
  f_X9_bad σ t1 (2 : Int32) (fun r24 s24 => ((r24 = 0 → ((¬ l2 = 0 → ((¬ l2 = (1 : Int32) → f_X9_isSafe s24 l1 (fun r61 s61 => ((r61 = 0 → Q (0 : Int32) s61) ∧ (¬ r61 = 0 → Q (1 : Int32) s61)))) ∧ (l2 = (1 : Int32) → (vp_in l1 144 ∧ Q (ga s24 30 l1.toNatClampNeg) s24)))) ∧ (l2 = 0 → (vp_in l1 144 ∧ Q (ga s24 29 l1.toNatClampNeg) s24)))) ∧ (¬ r24 = 0 → Q (0 : Int32) s24)))
set_option maxHeartbeats 4000000 in
set_option maxRecDepth 100000 in
theorem w_X9_ice_23 {p : Program} {l : Launch} {e : Env} {s : State} {m : MethodId} {args : Array Value} {below : List Frame} {meth : Method} {c : Code} {G : GG} (E : EV p s m args c cX9_ice 3 wsX9_ice RX9 G (AD G s.heap.size)) (hr : meth.sig.returnType = (some .int)) (hlocks : meth.locks = false) {Q : Int32 → St → Prop}  : ∀ (σ : St) (l1 : Int32) (l2 : Int32) (t1 : Int32) (H : Heap) (locs : List Loc) (ls : Array Slot), f_X9_ice_23 Q  σ l1 l2 t1 → HH G (AD G s.heap.size) s σ H locs → lv_has ls 3 [(0, .ref (G.2.1 28)), (1, .int l1), (2, .int l2)] → W p l e ({ frames := 1, cells := 0, slots := 0, locals := 22 }) s m args below meth c H locs 0 0 (MQi below G args s Q) (F0 m 23 ls [.int t1, .ref (G.2.1 28)]) := by
  have hx := E.1.1
  have hb := E.1.2.1
  have hown := E.1.2.2.2.1
  have hts := E.1.2.2.2.2
  have h_inX9 : ∀ w ∈ wsX90, w ∈ wsX9_ice := (fun _ h9 => (List.mem_cons_of_mem _ (List.mem_append_right _ h9)))
  intro σ l1 l2 t1 H locs ls h hh hl
  unfold f_X9_ice_23 at h
  refine lv_iconst (v := (2 : Int32)) hx hb dX9_ice_23 (by decide) ?_
  refine q_Vi (As := [.int t1, .int (2 : Int32)]) (rest := []) E hh (c_X9_bad l G _ _ _ _ _ h) (cwV 2 hts gX9_ice_X9_bad rfl rfl rfl (by decide +kernel) ⟨Nat.le_of_ble_eq_true rfl, Nat.le_of_ble_eq_true rfl⟩) (va_recv (ci := 9) E.2.1 hh.1 rfl (WW_at_28 G σ)) rfl hl.1 rfl (Nat.le_of_ble_eq_true rfl) dX9_ice_24 ⟨Nat.zero_le _, Nat.zero_le _⟩ (fun r24 s24 H locs h hh => ?_)
  refine lv_if_eq (tgt := 32) hx hb dX9_ice_27 (by decide) (fun c9 => ?_) (fun c9 => ?_)
  · have h := h.1 c9
    refine lv_iload_n hx hb dX9_ice_32 rfl (lv_at hl 2 rfl) ?_
    refine lv_if_ne (tgt := 45) hx hb dX9_ice_33 (by decide) (fun c9 => ?_) (fun c9 => ?_)
    · have h := h.1 c9
      refine lv_iload_n hx hb dX9_ice_45 rfl (lv_at hl 2 rfl) ?_
      refine lv_iconst (v := (1 : Int32)) hx hb dX9_ice_46 (by decide) ?_
      refine lv_icmp_ne (tgt := 59) hx hb dX9_ice_47 (by decide) (fun c9 => ?_) (fun c9 => ?_)
      · have h := h.1 c9
        refine lv_aload_n hx hb dX9_ice_59 rfl (lv_at hl 0 rfl) ?_
        refine lv_iload_n hx hb dX9_ice_60 rfl (lv_at hl 1 rfl) ?_
        refine q_Vi (As := [.int l1]) (rest := []) E hh (c_X9_isSafe l G _ _ _ _ h) (cwV 1 hts gX9_ice_X9_isSafe rfl rfl rfl (by decide +kernel) ⟨Nat.le_of_ble_eq_true rfl, Nat.le_of_ble_eq_true rfl⟩) (va_recv (ci := 9) E.2.1 hh.1 rfl (WW_at_28 G s24)) rfl hl.1 rfl (Nat.le_of_ble_eq_true rfl) dX9_ice_61 ⟨Nat.zero_le _, Nat.zero_le _⟩ (fun r61 s61 H locs h hh => ?_)
        refine lv_if_eq (tgt := 71) hx hb dX9_ice_64 (by decide) (fun c9 => ?_) (fun c9 => ?_)
        · have h := h.1 c9
          refine lv_iconst (v := (0 : Int32)) hx hb dX9_ice_71 (by decide) ?_
          exact q_iret E hh hr hlocks h dX9_ice_72
        · have h := h.2 c9
          refine lv_iconst (v := (1 : Int32)) hx hb dX9_ice_67 (by decide) ?_
          refine lv_goto (tgt := 72) hx hb dX9_ice_68 (by decide) ?_
          exact q_iret E hh hr hlocks h dX9_ice_72
      · have h := h.2 c9
        refine lv_aload_n hx hb dX9_ice_50 rfl (lv_at hl 0 rfl) ?_
        refine q_get (T := TX9) (v := .ref (G.2.1 30)) E hh h_inX9 28 (WW_at_28 G s24) rfl 2 (by decide) (List.mem_cons_of_mem _ (List.mem_append_left _ (List.mem_of_getElem? (i := 1) rfl))) rfl rfl dX9_ice_51 ?_
        refine lv_iload_n hx hb dX9_ice_54 rfl (lv_at hl 1 rfl) ?_
        obtain ⟨h0, h⟩ := h
        refine q_iald E hh 30 (WW_at_30 G s24) h0 dX9_ice_55 ?_
        refine lv_goto (tgt := 72) hx hb dX9_ice_56 (by decide) ?_
        exact q_iret E hh hr hlocks h dX9_ice_72
    · have h := h.2 c9
      refine lv_aload_n hx hb dX9_ice_36 rfl (lv_at hl 0 rfl) ?_
      refine q_get (T := TX9) (v := .ref (G.2.1 29)) E hh h_inX9 28 (WW_at_28 G s24) rfl 1 (by decide) (List.mem_cons_of_mem _ (List.mem_append_left _ (List.mem_of_getElem? (i := 0) rfl))) rfl rfl dX9_ice_37 ?_
      refine lv_iload_n hx hb dX9_ice_40 rfl (lv_at hl 1 rfl) ?_
      obtain ⟨h0, h⟩ := h
      refine q_iald E hh 29 (WW_at_29 G s24) h0 dX9_ice_41 ?_
      refine lv_goto (tgt := 72) hx hb dX9_ice_42 (by decide) ?_
      exact q_iret E hh hr hlocks h dX9_ice_72
  · have h := h.2 c9
    refine lv_iconst (v := (0 : Int32)) hx hb dX9_ice_30 (by decide) ?_
    exact q_iret E hh hr hlocks h dX9_ice_31
def f_X9_ice (σ : St) (p1 : Int32) (p2 : Int32) (Q : Int32 → St → Prop) : Prop :=
  f_X9_isCell σ p1 (fun r2 s2 => ((r2 = 0 → Q (0 : Int32) s2) ∧ (¬ r2 = 0 → ((p2 < 0 → f_X9_ice_23 Q s2 p1 p2 (1 : Int32)) ∧ (¬ p2 < 0 → ((p2 ≤ (2 : Int32) → f_X9_ice_23 Q s2 p1 p2 (0 : Int32)) ∧ (¬ p2 ≤ (2 : Int32) → f_X9_ice_23 Q s2 p1 p2 (1 : Int32))))))))
set_option maxHeartbeats 4000000 in
set_option maxRecDepth 100000 in
theorem c_X9_ice (l : Launch) (G : GG) (σ : St) (sz : Nat) (p1 : Int32) (p2 : Int32) (Q : Int32 → St → Prop) (h : f_X9_ice σ p1 p2 Q) : CTi l yX9_ice wsX9_ice ({ frames := 1, cells := 0, slots := 0, locals := 22 }) [.ref (G.2.1 28), .int p1, .int p2] G σ sz Q := by
  refine Met.ofW (cc := cX9_ice) (maxL := 3) (ret := (some .int)) (by decide) rfl ?_
  intro p e s m args below meth c s₁ B hml hv
  obtain ⟨rfl, hpre⟩ := hv
  have hr := B.returns
  have hlocks := B.notSynchronized
  obtain ⟨hsz, -⟩ := id hpre
  subst hsz
  obtain ⟨E, hh⟩ := EV.ofPre (⟨B.exec, B.bytes, hml, findClass_of_methodNamed B.named, atoms_spec (ws := wsX9_ice) B.pre⟩ : CallFix p m c cX9_ice 3 s _ wsX9_ice RX9) hpre
  have hx := E.1.1
  have hb := E.1.2.1
  have hown := E.1.2.2.2.1
  have hts := E.1.2.2.2.2
  have h_inX9 : ∀ w ∈ wsX90, w ∈ wsX9_ice := (fun _ h9 => (List.mem_cons_of_mem _ (List.mem_append_right _ h9)))
  have hl := lv_entry ([.ref (G.2.1 28), .int p1, .int p2]) (n := 3) (Nat.le_of_ble_eq_true rfl)
  rw [lg_entry_eq]
  generalize (lg_sl ([.ref (G.2.1 28), .int p1, .int p2]) ++ List.replicate (3 - (lg_sl ([.ref (G.2.1 28), .int p1, .int p2])).length) Slot.unset).toArray = ls at hl ⊢
  have hl : lv_has ls 3 [(0, .ref (G.2.1 28)), (1, .int p1), (2, .int p2)] := hl
  unfold f_X9_ice at h
  refine lv_aload_n hx hb dX9_ice_0 rfl (lv_at hl 0 rfl) ?_
  refine lv_iload_n hx hb dX9_ice_1 rfl (lv_at hl 1 rfl) ?_
  refine q_Vi (As := [.int p1]) (rest := []) E hh (c_X9_isCell l G _ _ _ _ h) (cwV 1 hts gX9_ice_X9_isCell rfl rfl rfl (by decide +kernel) ⟨Nat.le_of_ble_eq_true rfl, Nat.le_of_ble_eq_true rfl⟩) (va_recv (ci := 9) E.2.1 hh.1 rfl (WW_at_28 G σ)) rfl hl.1 rfl (Nat.le_of_ble_eq_true rfl) dX9_ice_2 ⟨Nat.zero_le _, Nat.zero_le _⟩ (fun r2 s2 H locs h hh => ?_)
  refine lv_if_eq (tgt := 30) hx hb dX9_ice_5 (by decide) (fun c9 => ?_) (fun c9 => ?_)
  · have h := h.1 c9
    refine lv_iconst (v := (0 : Int32)) hx hb dX9_ice_30 (by decide) ?_
    exact q_iret E hh hr hlocks h dX9_ice_31
  · have h := h.2 c9
    refine lv_aload_n hx hb dX9_ice_8 rfl (lv_at hl 0 rfl) ?_
    refine lv_iload_n hx hb dX9_ice_9 rfl (lv_at hl 2 rfl) ?_
    refine lv_if_lt (tgt := 18) hx hb dX9_ice_10 (by decide) (fun c9 => ?_) (fun c9 => ?_)
    · have h := h.1 c9
      refine lv_iconst (v := (1 : Int32)) hx hb dX9_ice_18 (by decide) ?_
      refine lv_goto (tgt := 23) hx hb dX9_ice_19 (by decide) ?_
      exact w_X9_ice_23 E hr hlocks  _ _ _ _ _ _ _ h hh (lv_sub hl [0, 1, 2] rfl)
    · have h := h.2 c9
      refine lv_iload_n hx hb dX9_ice_13 rfl (lv_at hl 2 rfl) ?_
      refine lv_iconst (v := (2 : Int32)) hx hb dX9_ice_14 (by decide) ?_
      refine lv_icmp_le (tgt := 22) hx hb dX9_ice_15 (by decide) (fun c9 => ?_) (fun c9 => ?_)
      · have h := h.1 c9
        refine lv_iconst (v := (0 : Int32)) hx hb dX9_ice_22 (by decide) ?_
        exact w_X9_ice_23 E hr hlocks  _ _ _ _ _ _ _ h hh (lv_sub hl [0, 1, 2] rfl)
      · have h := h.2 c9
        refine lv_iconst (v := (1 : Int32)) hx hb dX9_ice_18 (by decide) ?_
        refine lv_goto (tgt := 23) hx hb dX9_ice_19 (by decide) ?_
        exact w_X9_ice_23 E hr hlocks  _ _ _ _ _ _ _ h hh (lv_sub hl [0, 1, 2] rfl)
def f_X9_lasts_21 (Q : Int32 → St → Prop)  (σ : St) (l1 : Int32) (l2 : Int32) (t1 : Int32) : Prop :=
  f_X9_bad σ t1 (2 : Int32) (fun r22 s22 => ((r22 = 0 → f_X9_isSafe s22 l1 (fun r32 s32 => ((¬ r32 = 0 → ((l2 ≤ 0 → Q (-1 : Int32) s32) ∧ (¬ l2 ≤ 0 → ((¬ (gi s32 24) = 0 → (vp_in l1 144 ∧ (¬ ((3 : Int32) * l2) = 0 ∧ Q (((ga s32 29 l1.toNatClampNeg) - (gi s32 24)) / ((3 : Int32) * l2)) s32))) ∧ ((gi s32 24) = 0 → Q (-1 : Int32) s32))))) ∧ (r32 = 0 → Q (0 : Int32) s32)))) ∧ (¬ r22 = 0 → Q (0 : Int32) s22)))
set_option maxHeartbeats 4000000 in
set_option maxRecDepth 100000 in
theorem w_X9_lasts_21 {p : Program} {l : Launch} {e : Env} {s : State} {m : MethodId} {args : Array Value} {below : List Frame} {meth : Method} {c : Code} {G : GG} (E : EV p s m args c cX9_lasts 3 wsX9_lasts RX9 G (AD G s.heap.size)) (hr : meth.sig.returnType = (some .int)) (hlocks : meth.locks = false) {Q : Int32 → St → Prop}  : ∀ (σ : St) (l1 : Int32) (l2 : Int32) (t1 : Int32) (H : Heap) (locs : List Loc) (ls : Array Slot), f_X9_lasts_21 Q  σ l1 l2 t1 → HH G (AD G s.heap.size) s σ H locs → lv_has ls 3 [(0, .ref (G.2.1 28)), (1, .int l1), (2, .int l2)] → W p l e ({ frames := 1, cells := 0, slots := 0, locals := 22 }) s m args below meth c H locs 0 0 (MQi below G args s Q) (F0 m 21 ls [.int t1, .ref (G.2.1 28)]) := by
  have hx := E.1.1
  have hb := E.1.2.1
  have hown := E.1.2.2.2.1
  have hts := E.1.2.2.2.2
  have h_inX9 : ∀ w ∈ wsX90, w ∈ wsX9_lasts := (fun _ h9 => (List.mem_cons_of_mem _ (List.mem_append_right _ h9)))
  intro σ l1 l2 t1 H locs ls h hh hl
  unfold f_X9_lasts_21 at h
  refine lv_iconst (v := (2 : Int32)) hx hb dX9_lasts_21 (by decide) ?_
  refine q_Vi (As := [.int t1, .int (2 : Int32)]) (rest := []) E hh (c_X9_bad l G _ _ _ _ _ h) (cwV 2 hts gX9_lasts_X9_bad rfl rfl rfl (by decide +kernel) ⟨Nat.le_of_ble_eq_true rfl, Nat.le_of_ble_eq_true rfl⟩) (va_recv (ci := 9) E.2.1 hh.1 rfl (WW_at_28 G σ)) rfl hl.1 rfl (Nat.le_of_ble_eq_true rfl) dX9_lasts_22 ⟨Nat.zero_le _, Nat.zero_le _⟩ (fun r22 s22 H locs h hh => ?_)
  refine lv_if_eq (tgt := 30) hx hb dX9_lasts_25 (by decide) (fun c9 => ?_) (fun c9 => ?_)
  · have h := h.1 c9
    refine lv_aload_n hx hb dX9_lasts_30 rfl (lv_at hl 0 rfl) ?_
    refine lv_iload_n hx hb dX9_lasts_31 rfl (lv_at hl 1 rfl) ?_
    refine q_Vi (As := [.int l1]) (rest := []) E hh (c_X9_isSafe l G _ _ _ _ h) (cwV 1 hts gX9_lasts_X9_isSafe rfl rfl rfl (by decide +kernel) ⟨Nat.le_of_ble_eq_true rfl, Nat.le_of_ble_eq_true rfl⟩) (va_recv (ci := 9) E.2.1 hh.1 rfl (WW_at_28 G s22)) rfl hl.1 rfl (Nat.le_of_ble_eq_true rfl) dX9_lasts_32 ⟨Nat.zero_le _, Nat.zero_le _⟩ (fun r32 s32 H locs h hh => ?_)
    refine lv_if_ne (tgt := 40) hx hb dX9_lasts_35 (by decide) (fun c9 => ?_) (fun c9 => ?_)
    · have h := h.1 c9
      refine lv_iload_n hx hb dX9_lasts_40 rfl (lv_at hl 2 rfl) ?_
      refine lv_if_le (tgt := 51) hx hb dX9_lasts_41 (by decide) (fun c9 => ?_) (fun c9 => ?_)
      · have h := h.1 c9
        refine lv_iconst (v := (-1 : Int32)) hx hb dX9_lasts_51 (by decide) ?_
        refine lv_goto (tgt := 70) hx hb dX9_lasts_52 (by decide) ?_
        exact q_iret E hh hr hlocks h dX9_lasts_70
      · have h := h.2 c9
        refine lv_aload_n hx hb dX9_lasts_44 rfl (lv_at hl 0 rfl) ?_
        refine q_get (T := TX9) (v := .int (gi s32 24)) E hh h_inX9 28 (WW_at_28 G s32) rfl 4 (by decide) (List.mem_cons_of_mem _ (List.mem_append_left _ (List.mem_of_getElem? (i := 0) rfl))) rfl rfl dX9_lasts_45 ?_
        refine lv_if_ne (tgt := 55) hx hb dX9_lasts_48 (by decide) (fun c9 => ?_) (fun c9 => ?_)
        · have h := h.1 c9
          refine lv_aload_n hx hb dX9_lasts_55 rfl (lv_at hl 0 rfl) ?_
          refine q_get (T := TX9) (v := .ref (G.2.1 29)) E hh h_inX9 28 (WW_at_28 G s32) rfl 1 (by decide) (List.mem_cons_of_mem _ (List.mem_append_left _ (List.mem_of_getElem? (i := 1) rfl))) rfl rfl dX9_lasts_56 ?_
          refine lv_iload_n hx hb dX9_lasts_59 rfl (lv_at hl 1 rfl) ?_
          obtain ⟨h0, h⟩ := h
          refine q_iald E hh 29 (WW_at_29 G s32) h0 dX9_lasts_60 ?_
          refine lv_aload_n hx hb dX9_lasts_61 rfl (lv_at hl 0 rfl) ?_
          refine q_get (T := TX9) (v := .int (gi s32 24)) E hh h_inX9 28 (WW_at_28 G s32) rfl 4 (by decide) (List.mem_cons_of_mem _ (List.mem_append_left _ (List.mem_of_getElem? (i := 0) rfl))) rfl rfl dX9_lasts_62 ?_
          refine lv_isub hx hb dX9_lasts_65 ?_
          refine lv_iconst (v := (3 : Int32)) hx hb dX9_lasts_66 (by decide) ?_
          refine lv_iload_n hx hb dX9_lasts_67 rfl (lv_at hl 2 rfl) ?_
          refine lv_imul hx hb dX9_lasts_68 ?_
          obtain ⟨h0, h⟩ := h
          refine lv_idiv hx hb dX9_lasts_69 h0 ?_
          exact q_iret E hh hr hlocks h dX9_lasts_70
        · have h := h.2 c9
          refine lv_iconst (v := (-1 : Int32)) hx hb dX9_lasts_51 (by decide) ?_
          refine lv_goto (tgt := 70) hx hb dX9_lasts_52 (by decide) ?_
          exact q_iret E hh hr hlocks h dX9_lasts_70
    · have h := h.2 c9
      refine lv_iconst (v := (0 : Int32)) hx hb dX9_lasts_38 (by decide) ?_
      exact q_iret E hh hr hlocks h dX9_lasts_39
  · have h := h.2 c9
    refine lv_iconst (v := (0 : Int32)) hx hb dX9_lasts_28 (by decide) ?_
    exact q_iret E hh hr hlocks h dX9_lasts_29
def f_X9_lasts (σ : St) (p1 : Int32) (p2 : Int32) (Q : Int32 → St → Prop) : Prop :=
  f_X9_isCell σ p1 (fun r2 s2 => ((r2 = 0 → Q (0 : Int32) s2) ∧ (¬ r2 = 0 → f_X9_isDegrees s2 p2 (fun r10 s10 => ((¬ r10 = 0 → f_X9_lasts_21 Q s10 p1 p2 (0 : Int32)) ∧ (r10 = 0 → f_X9_lasts_21 Q s10 p1 p2 (1 : Int32)))))))
set_option maxHeartbeats 4000000 in
set_option maxRecDepth 100000 in
theorem c_X9_lasts (l : Launch) (G : GG) (σ : St) (sz : Nat) (p1 : Int32) (p2 : Int32) (Q : Int32 → St → Prop) (h : f_X9_lasts σ p1 p2 Q) : CTi l yX9_lasts wsX9_lasts ({ frames := 1, cells := 0, slots := 0, locals := 22 }) [.ref (G.2.1 28), .int p1, .int p2] G σ sz Q := by
  refine Met.ofW (cc := cX9_lasts) (maxL := 3) (ret := (some .int)) (by decide) rfl ?_
  intro p e s m args below meth c s₁ B hml hv
  obtain ⟨rfl, hpre⟩ := hv
  have hr := B.returns
  have hlocks := B.notSynchronized
  obtain ⟨hsz, -⟩ := id hpre
  subst hsz
  obtain ⟨E, hh⟩ := EV.ofPre (⟨B.exec, B.bytes, hml, findClass_of_methodNamed B.named, atoms_spec (ws := wsX9_lasts) B.pre⟩ : CallFix p m c cX9_lasts 3 s _ wsX9_lasts RX9) hpre
  have hx := E.1.1
  have hb := E.1.2.1
  have hown := E.1.2.2.2.1
  have hts := E.1.2.2.2.2
  have h_inX9 : ∀ w ∈ wsX90, w ∈ wsX9_lasts := (fun _ h9 => (List.mem_cons_of_mem _ (List.mem_append_right _ h9)))
  have hl := lv_entry ([.ref (G.2.1 28), .int p1, .int p2]) (n := 3) (Nat.le_of_ble_eq_true rfl)
  rw [lg_entry_eq]
  generalize (lg_sl ([.ref (G.2.1 28), .int p1, .int p2]) ++ List.replicate (3 - (lg_sl ([.ref (G.2.1 28), .int p1, .int p2])).length) Slot.unset).toArray = ls at hl ⊢
  have hl : lv_has ls 3 [(0, .ref (G.2.1 28)), (1, .int p1), (2, .int p2)] := hl
  unfold f_X9_lasts at h
  refine lv_aload_n hx hb dX9_lasts_0 rfl (lv_at hl 0 rfl) ?_
  refine lv_iload_n hx hb dX9_lasts_1 rfl (lv_at hl 1 rfl) ?_
  refine q_Vi (As := [.int p1]) (rest := []) E hh (c_X9_isCell l G _ _ _ _ h) (cwV 1 hts gX9_lasts_X9_isCell rfl rfl rfl (by decide +kernel) ⟨Nat.le_of_ble_eq_true rfl, Nat.le_of_ble_eq_true rfl⟩) (va_recv (ci := 9) E.2.1 hh.1 rfl (WW_at_28 G σ)) rfl hl.1 rfl (Nat.le_of_ble_eq_true rfl) dX9_lasts_2 ⟨Nat.zero_le _, Nat.zero_le _⟩ (fun r2 s2 H locs h hh => ?_)
  refine lv_if_eq (tgt := 28) hx hb dX9_lasts_5 (by decide) (fun c9 => ?_) (fun c9 => ?_)
  · have h := h.1 c9
    refine lv_iconst (v := (0 : Int32)) hx hb dX9_lasts_28 (by decide) ?_
    exact q_iret E hh hr hlocks h dX9_lasts_29
  · have h := h.2 c9
    refine lv_aload_n hx hb dX9_lasts_8 rfl (lv_at hl 0 rfl) ?_
    refine lv_iload_n hx hb dX9_lasts_9 rfl (lv_at hl 2 rfl) ?_
    refine q_Si (As := [.int p2]) (rest := [.ref (G.2.1 28)]) E hh (c_X9_isDegrees l G _ _ _ _ h) (va_cwS 1 hts gX9_lasts_X9_isDegrees rfl rfl rfl (by decide +kernel) ⟨Nat.le_of_ble_eq_true rfl, Nat.le_of_ble_eq_true rfl⟩) rfl hl.1 rfl (Nat.le_of_ble_eq_true rfl) dX9_lasts_10 ⟨Nat.zero_le _, Nat.zero_le _⟩ (fun r10 s10 H locs h hh => ?_)
    refine lv_if_ne (tgt := 20) hx hb dX9_lasts_13 (by decide) (fun c9 => ?_) (fun c9 => ?_)
    · have h := h.1 c9
      refine lv_iconst (v := (0 : Int32)) hx hb dX9_lasts_20 (by decide) ?_
      exact w_X9_lasts_21 E hr hlocks  _ _ _ _ _ _ _ h hh (lv_sub hl [0, 1, 2] rfl)
    · have h := h.2 c9
      refine lv_iconst (v := (1 : Int32)) hx hb dX9_lasts_16 (by decide) ?_
      refine lv_goto (tgt := 21) hx hb dX9_lasts_17 (by decide) ?_
      exact w_X9_lasts_21 E hr hlocks  _ _ _ _ _ _ _ h hh (lv_sub hl [0, 1, 2] rfl)
def f_X9_wayX (σ : St) (p0 : Int32) (Q : Int32 → St → Prop) : Prop :=
  ((p0 = 0 → Q (0 : Int32) σ) ∧ (¬ p0 = 0 → ((¬ p0 = (4 : Int32) → (((4 : Int32) ≤ p0 → Q (-1 : Int32) σ) ∧ (¬ (4 : Int32) ≤ p0 → Q (1 : Int32) σ))) ∧ (p0 = (4 : Int32) → Q (0 : Int32) σ))))
set_option maxHeartbeats 4000000 in
set_option maxRecDepth 100000 in
theorem c_X9_wayX (l : Launch) (G : GG) (σ : St) (sz : Nat) (p0 : Int32) (Q : Int32 → St → Prop) (h : f_X9_wayX σ p0 Q) : CTi l yX9_wayX wsX9_wayX ({ frames := 0, cells := 0, slots := 0, locals := 0 }) [.int p0] G σ sz Q := by
  refine Met.ofW (cc := cX9_wayX) (maxL := 1) (ret := (some .int)) (by decide) rfl ?_
  intro p e s m args below meth c s₁ B hml hv
  obtain ⟨rfl, hpre⟩ := hv
  have hr := B.returns
  have hlocks := B.notSynchronized
  obtain ⟨hsz, -⟩ := id hpre
  subst hsz
  obtain ⟨E, hh⟩ := EV.ofPre (⟨B.exec, B.bytes, hml, findClass_of_methodNamed B.named, atoms_spec (ws := wsX9_wayX) B.pre⟩ : CallFix p m c cX9_wayX 1 s _ wsX9_wayX RX9) hpre
  have hx := E.1.1
  have hb := E.1.2.1
  have hown := E.1.2.2.2.1
  have hts := E.1.2.2.2.2
  have hl := lv_entry ([.int p0]) (n := 1) (Nat.le_of_ble_eq_true rfl)
  rw [lg_entry_eq]
  generalize (lg_sl ([.int p0]) ++ List.replicate (1 - (lg_sl ([.int p0])).length) Slot.unset).toArray = ls at hl ⊢
  have hl : lv_has ls 1 [(0, .int p0)] := hl
  unfold f_X9_wayX at h
  refine lv_iload_n hx hb dX9_wayX_0 rfl (lv_at hl 0 rfl) ?_
  refine lv_if_eq (tgt := 9) hx hb dX9_wayX_1 (by decide) (fun c9 => ?_) (fun c9 => ?_)
  · have h := h.1 c9
    refine lv_iconst (v := (0 : Int32)) hx hb dX9_wayX_9 (by decide) ?_
    refine lv_goto (tgt := 23) hx hb dX9_wayX_10 (by decide) ?_
    exact q_iret E hh hr hlocks h dX9_wayX_23
  · have h := h.2 c9
    refine lv_iload_n hx hb dX9_wayX_4 rfl (lv_at hl 0 rfl) ?_
    refine lv_iconst (v := (4 : Int32)) hx hb dX9_wayX_5 (by decide) ?_
    refine lv_icmp_ne (tgt := 13) hx hb dX9_wayX_6 (by decide) (fun c9 => ?_) (fun c9 => ?_)
    · have h := h.1 c9
      refine lv_iload_n hx hb dX9_wayX_13 rfl (lv_at hl 0 rfl) ?_
      refine lv_iconst (v := (4 : Int32)) hx hb dX9_wayX_14 (by decide) ?_
      refine lv_icmp_ge (tgt := 22) hx hb dX9_wayX_15 (by decide) (fun c9 => ?_) (fun c9 => ?_)
      · have h := h.1 c9
        refine lv_iconst (v := (-1 : Int32)) hx hb dX9_wayX_22 (by decide) ?_
        exact q_iret E hh hr hlocks h dX9_wayX_23
      · have h := h.2 c9
        refine lv_iconst (v := (1 : Int32)) hx hb dX9_wayX_18 (by decide) ?_
        refine lv_goto (tgt := 23) hx hb dX9_wayX_19 (by decide) ?_
        exact q_iret E hh hr hlocks h dX9_wayX_23
    · have h := h.2 c9
      refine lv_iconst (v := (0 : Int32)) hx hb dX9_wayX_9 (by decide) ?_
      refine lv_goto (tgt := 23) hx hb dX9_wayX_10 (by decide) ?_
      exact q_iret E hh hr hlocks h dX9_wayX_23
def f_X9_wayY (σ : St) (p0 : Int32) (Q : Int32 → St → Prop) : Prop :=
  ((p0 = (2 : Int32) → Q (0 : Int32) σ) ∧ (¬ p0 = (2 : Int32) → ((¬ p0 = (6 : Int32) → ((p0 = (7 : Int32) → Q (-1 : Int32) σ) ∧ (¬ p0 = (7 : Int32) → (((2 : Int32) ≤ p0 → Q (1 : Int32) σ) ∧ (¬ (2 : Int32) ≤ p0 → Q (-1 : Int32) σ))))) ∧ (p0 = (6 : Int32) → Q (0 : Int32) σ))))
set_option maxHeartbeats 4000000 in
set_option maxRecDepth 100000 in
theorem c_X9_wayY (l : Launch) (G : GG) (σ : St) (sz : Nat) (p0 : Int32) (Q : Int32 → St → Prop) (h : f_X9_wayY σ p0 Q) : CTi l yX9_wayY wsX9_wayY ({ frames := 0, cells := 0, slots := 0, locals := 0 }) [.int p0] G σ sz Q := by
  refine Met.ofW (cc := cX9_wayY) (maxL := 1) (ret := (some .int)) (by decide) rfl ?_
  intro p e s m args below meth c s₁ B hml hv
  obtain ⟨rfl, hpre⟩ := hv
  have hr := B.returns
  have hlocks := B.notSynchronized
  obtain ⟨hsz, -⟩ := id hpre
  subst hsz
  obtain ⟨E, hh⟩ := EV.ofPre (⟨B.exec, B.bytes, hml, findClass_of_methodNamed B.named, atoms_spec (ws := wsX9_wayY) B.pre⟩ : CallFix p m c cX9_wayY 1 s _ wsX9_wayY RX9) hpre
  have hx := E.1.1
  have hb := E.1.2.1
  have hown := E.1.2.2.2.1
  have hts := E.1.2.2.2.2
  have hl := lv_entry ([.int p0]) (n := 1) (Nat.le_of_ble_eq_true rfl)
  rw [lg_entry_eq]
  generalize (lg_sl ([.int p0]) ++ List.replicate (1 - (lg_sl ([.int p0])).length) Slot.unset).toArray = ls at hl ⊢
  have hl : lv_has ls 1 [(0, .int p0)] := hl
  unfold f_X9_wayY at h
  refine lv_iload_n hx hb dX9_wayY_0 rfl (lv_at hl 0 rfl) ?_
  refine lv_iconst (v := (2 : Int32)) hx hb dX9_wayY_1 (by decide) ?_
  refine lv_icmp_eq (tgt := 11) hx hb dX9_wayY_2 (by decide) (fun c9 => ?_) (fun c9 => ?_)
  · have h := h.1 c9
    refine lv_iconst (v := (0 : Int32)) hx hb dX9_wayY_11 (by decide) ?_
    refine lv_goto (tgt := 31) hx hb dX9_wayY_12 (by decide) ?_
    exact q_iret E hh hr hlocks h dX9_wayY_31
  · have h := h.2 c9
    refine lv_iload_n hx hb dX9_wayY_5 rfl (lv_at hl 0 rfl) ?_
    refine lv_bipush (v := (6 : Int32)) hx hb dX9_wayY_6 (by decide) ?_
    refine lv_icmp_ne (tgt := 15) hx hb dX9_wayY_8 (by decide) (fun c9 => ?_) (fun c9 => ?_)
    · have h := h.1 c9
      refine lv_iload_n hx hb dX9_wayY_15 rfl (lv_at hl 0 rfl) ?_
      refine lv_bipush (v := (7 : Int32)) hx hb dX9_wayY_16 (by decide) ?_
      refine lv_icmp_eq (tgt := 26) hx hb dX9_wayY_18 (by decide) (fun c9 => ?_) (fun c9 => ?_)
      · have h := h.1 c9
        refine lv_iconst (v := (-1 : Int32)) hx hb dX9_wayY_26 (by decide) ?_
        refine lv_goto (tgt := 31) hx hb dX9_wayY_27 (by decide) ?_
        exact q_iret E hh hr hlocks h dX9_wayY_31
      · have h := h.2 c9
        refine lv_iload_n hx hb dX9_wayY_21 rfl (lv_at hl 0 rfl) ?_
        refine lv_iconst (v := (2 : Int32)) hx hb dX9_wayY_22 (by decide) ?_
        refine lv_icmp_ge (tgt := 30) hx hb dX9_wayY_23 (by decide) (fun c9 => ?_) (fun c9 => ?_)
        · have h := h.1 c9
          refine lv_iconst (v := (1 : Int32)) hx hb dX9_wayY_30 (by decide) ?_
          exact q_iret E hh hr hlocks h dX9_wayY_31
        · have h := h.2 c9
          refine lv_iconst (v := (-1 : Int32)) hx hb dX9_wayY_26 (by decide) ?_
          refine lv_goto (tgt := 31) hx hb dX9_wayY_27 (by decide) ?_
          exact q_iret E hh hr hlocks h dX9_wayY_31
    · have h := h.2 c9
      refine lv_iconst (v := (0 : Int32)) hx hb dX9_wayY_11 (by decide) ?_
      refine lv_goto (tgt := 31) hx hb dX9_wayY_12 (by decide) ?_
      exact q_iret E hh hr hlocks h dX9_wayY_31
def f_X9_isWay (σ : St) (p0 : Int32) (Q : Int32 → St → Prop) : Prop :=
  ((p0 < 0 → Q (0 : Int32) σ) ∧ (¬ p0 < 0 → (((8 : Int32) ≤ p0 → Q (0 : Int32) σ) ∧ (¬ (8 : Int32) ≤ p0 → Q (1 : Int32) σ))))
set_option maxHeartbeats 4000000 in
set_option maxRecDepth 100000 in
theorem c_X9_isWay (l : Launch) (G : GG) (σ : St) (sz : Nat) (p0 : Int32) (Q : Int32 → St → Prop) (h : f_X9_isWay σ p0 Q) : CTi l yX9_isWay wsX9_isWay ({ frames := 0, cells := 0, slots := 0, locals := 0 }) [.int p0] G σ sz Q := by
  refine Met.ofW (cc := cX9_isWay) (maxL := 1) (ret := (some .boolean)) (by decide) rfl ?_
  intro p e s m args below meth c s₁ B hml hv
  obtain ⟨rfl, hpre⟩ := hv
  have hr := B.returns
  have hlocks := B.notSynchronized
  obtain ⟨hsz, -⟩ := id hpre
  subst hsz
  obtain ⟨E, hh⟩ := EV.ofPre (⟨B.exec, B.bytes, hml, findClass_of_methodNamed B.named, atoms_spec (ws := wsX9_isWay) B.pre⟩ : CallFix p m c cX9_isWay 1 s _ wsX9_isWay RX9) hpre
  have hx := E.1.1
  have hb := E.1.2.1
  have hown := E.1.2.2.2.1
  have hts := E.1.2.2.2.2
  have hl := lv_entry ([.int p0]) (n := 1) (Nat.le_of_ble_eq_true rfl)
  rw [lg_entry_eq]
  generalize (lg_sl ([.int p0]) ++ List.replicate (1 - (lg_sl ([.int p0])).length) Slot.unset).toArray = ls at hl ⊢
  have hl : lv_has ls 1 [(0, .int p0)] := hl
  unfold f_X9_isWay at h
  refine lv_iload_n hx hb dX9_isWay_0 rfl (lv_at hl 0 rfl) ?_
  refine lv_if_lt (tgt := 14) hx hb dX9_isWay_1 (by decide) (fun c9 => ?_) (fun c9 => ?_)
  · have h := h.1 c9
    refine lv_iconst (v := (0 : Int32)) hx hb dX9_isWay_14 (by decide) ?_
    exact q_zret (ty := .boolean) E hh hr hlocks rfl h dX9_isWay_15
  · have h := h.2 c9
    refine lv_iload_n hx hb dX9_isWay_4 rfl (lv_at hl 0 rfl) ?_
    refine lv_bipush (v := (8 : Int32)) hx hb dX9_isWay_5 (by decide) ?_
    refine lv_icmp_ge (tgt := 14) hx hb dX9_isWay_7 (by decide) (fun c9 => ?_) (fun c9 => ?_)
    · have h := h.1 c9
      refine lv_iconst (v := (0 : Int32)) hx hb dX9_isWay_14 (by decide) ?_
      exact q_zret (ty := .boolean) E hh hr hlocks rfl h dX9_isWay_15
    · have h := h.2 c9
      refine lv_iconst (v := (1 : Int32)) hx hb dX9_isWay_10 (by decide) ?_
      refine lv_goto (tgt := 15) hx hb dX9_isWay_11 (by decide) ?_
      exact q_zret (ty := .boolean) E hh hr hlocks rfl h dX9_isWay_15
