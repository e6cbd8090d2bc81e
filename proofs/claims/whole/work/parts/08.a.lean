def f_X8_isWay (σ : St) (p0 : Int32) (Q : Int32 → St → Prop) : Prop :=
  ((p0 < 0 → Q (0 : Int32) σ) ∧ (¬ p0 < 0 → (((8 : Int32) ≤ p0 → Q (0 : Int32) σ) ∧ (¬ (8 : Int32) ≤ p0 → Q (1 : Int32) σ))))
set_option maxHeartbeats 4000000 in
set_option maxRecDepth 100000 in
theorem c_X8_isWay (l : Launch) (G : GG) (σ : St) (sz : Nat) (p0 : Int32) (Q : Int32 → St → Prop) (h : f_X8_isWay σ p0 Q) : CTi l yX8_isWay wsX8_isWay ({ frames := 0, cells := 0, slots := 0, locals := 0 }) [.int p0] G σ sz Q := by
  refine Met.ofW (cc := cX8_isWay) (maxL := 1) (ret := (some .boolean)) (by decide) rfl ?_
  intro p e s m args below meth c s₁ B hml hv
  obtain ⟨rfl, hpre⟩ := hv
  have hr := B.returns
  have hlocks := B.notSynchronized
  obtain ⟨hsz, -⟩ := id hpre
  subst hsz
  obtain ⟨E, hh⟩ := EV.ofPre (⟨B.exec, B.bytes, hml, findClass_of_methodNamed B.named, atoms_spec (ws := wsX8_isWay) B.pre⟩ : CallFix p m c cX8_isWay 1 s _ wsX8_isWay RX8) hpre
  have hx := E.1.1
  have hb := E.1.2.1
  have hown := E.1.2.2.2.1
  have hts := E.1.2.2.2.2
  have hl := lv_entry ([.int p0]) (n := 1) (Nat.le_of_ble_eq_true rfl)
  rw [lg_entry_eq]
  generalize (lg_sl ([.int p0]) ++ List.replicate (1 - (lg_sl ([.int p0])).length) Slot.unset).toArray = ls at hl ⊢
  have hl : lv_has ls 1 [(0, .int p0)] := hl
  unfold f_X8_isWay at h
  refine lv_iload_n hx hb dX8_isWay_0 rfl (lv_at hl 0 rfl) ?_
  refine lv_if_lt (tgt := 14) hx hb dX8_isWay_1 (by decide) (fun c9 => ?_) (fun c9 => ?_)
  · have h := h.1 c9
    refine lv_iconst (v := (0 : Int32)) hx hb dX8_isWay_14 (by decide) ?_
    exact q_zret (ty := .boolean) E hh hr hlocks rfl h dX8_isWay_15
  · have h := h.2 c9
    refine lv_iload_n hx hb dX8_isWay_4 rfl (lv_at hl 0 rfl) ?_
    refine lv_bipush (v := (8 : Int32)) hx hb dX8_isWay_5 (by decide) ?_
    refine lv_icmp_ge (tgt := 14) hx hb dX8_isWay_7 (by decide) (fun c9 => ?_) (fun c9 => ?_)
    · have h := h.1 c9
      refine lv_iconst (v := (0 : Int32)) hx hb dX8_isWay_14 (by decide) ?_
      exact q_zret (ty := .boolean) E hh hr hlocks rfl h dX8_isWay_15
    · have h := h.2 c9
      refine lv_iconst (v := (1 : Int32)) hx hb dX8_isWay_10 (by decide) ?_
      refine lv_goto (tgt := 15) hx hb dX8_isWay_11 (by decide) ?_
      exact q_zret (ty := .boolean) E hh hr hlocks rfl h dX8_isWay_15
def f_X8_stepX (σ : St) (p0 : Int32) (Q : Int32 → St → Prop) : Prop :=
  f_X8_isWay σ p0 (fun r1 s1 => ((r1 = 0 → Q (0 : Int32) s1) ∧ (¬ r1 = 0 → (vp_in p0 8 ∧ Q (stX.getD p0.toNatClampNeg 0) s1))))
set_option maxHeartbeats 4000000 in
set_option maxRecDepth 100000 in
theorem c_X8_stepX (l : Launch) (G : GG) (σ : St) (sz : Nat) (p0 : Int32) (Q : Int32 → St → Prop) (h : f_X8_stepX σ p0 Q) : CTi l yX8_stepX wsX8_stepX ({ frames := 1, cells := 0, slots := 0, locals := 20 }) [.int p0] G σ sz Q := by
  refine Met.ofW (cc := cX8_stepX) (maxL := 1) (ret := (some .int)) (by decide) rfl ?_
  intro p e s m args below meth c s₁ B hml hv
  obtain ⟨rfl, hpre⟩ := hv
  have hr := B.returns
  have hlocks := B.notSynchronized
  obtain ⟨hsz, -⟩ := id hpre
  subst hsz
  obtain ⟨E, hh⟩ := EV.ofPre (⟨B.exec, B.bytes, hml, findClass_of_methodNamed B.named, atoms_spec (ws := wsX8_stepX) B.pre⟩ : CallFix p m c cX8_stepX 1 s _ wsX8_stepX RX8) hpre
  have hx := E.1.1
  have hb := E.1.2.1
  have hown := E.1.2.2.2.1
  have hts := E.1.2.2.2.2
  have hl := lv_entry ([.int p0]) (n := 1) (Nat.le_of_ble_eq_true rfl)
  rw [lg_entry_eq]
  generalize (lg_sl ([.int p0]) ++ List.replicate (1 - (lg_sl ([.int p0])).length) Slot.unset).toArray = ls at hl ⊢
  have hl : lv_has ls 1 [(0, .int p0)] := hl
  unfold f_X8_stepX at h
  refine lv_iload_n hx hb dX8_stepX_0 rfl (lv_at hl 0 rfl) ?_
  refine q_Si (As := [.int p0]) (rest := []) E hh (c_X8_isWay l G _ _ _ _ h) (va_cwS 1 hts gX8_stepX_X8_isWay rfl rfl rfl (by decide +kernel) ⟨Nat.le_of_ble_eq_true rfl, Nat.le_of_ble_eq_true rfl⟩) rfl hl.1 rfl (Nat.le_of_ble_eq_true rfl) dX8_stepX_1 ⟨Nat.zero_le _, Nat.zero_le _⟩ (fun r1 s1 H locs h hh => ?_)
  refine lv_if_eq (tgt := 15) hx hb dX8_stepX_4 (by decide) (fun c9 => ?_) (fun c9 => ?_)
  · have h := h.1 c9
    refine lv_iconst (v := (0 : Int32)) hx hb dX8_stepX_15 (by decide) ?_
    exact q_iret E hh hr hlocks h dX8_stepX_16
  · have h := h.2 c9
    refine va_gets (own := RX8) hx hb E.2.2.2.1.2.1 hh.2 hown (hts _ (List.mem_cons_of_mem _ (List.mem_of_getElem? (i := 0) rfl))) (fun _ h9 => h9) dX8_stepX_7 ?_
    refine lv_iload_n hx hb dX8_stepX_10 rfl (lv_at hl 0 rfl) ?_
    obtain ⟨h0, h⟩ := h
    refine va_ti (v := .int (stX.getD p0.toNatClampNeg 0)) hx hb E.2.2.2.1.2.2.1 hh.2 h0 rfl dX8_stepX_11 ?_
    refine lv_goto (tgt := 16) hx hb dX8_stepX_12 (by decide) ?_
    exact q_iret E hh hr hlocks h dX8_stepX_16
def f_X8_stepY (σ : St) (p0 : Int32) (Q : Int32 → St → Prop) : Prop :=
  f_X8_isWay σ p0 (fun r1 s1 => ((r1 = 0 → Q (0 : Int32) s1) ∧ (¬ r1 = 0 → (vp_in p0 8 ∧ Q (stY.getD p0.toNatClampNeg 0) s1))))
set_option maxHeartbeats 4000000 in
set_option maxRecDepth 100000 in
theorem c_X8_stepY (l : Launch) (G : GG) (σ : St) (sz : Nat) (p0 : Int32) (Q : Int32 → St → Prop) (h : f_X8_stepY σ p0 Q) : CTi l yX8_stepY wsX8_stepY ({ frames := 1, cells := 0, slots := 0, locals := 20 }) [.int p0] G σ sz Q := by
  refine Met.ofW (cc := cX8_stepY) (maxL := 1) (ret := (some .int)) (by decide) rfl ?_
  intro p e s m args below meth c s₁ B hml hv
  obtain ⟨rfl, hpre⟩ := hv
  have hr := B.returns
  have hlocks := B.notSynchronized
  obtain ⟨hsz, -⟩ := id hpre
  subst hsz
  obtain ⟨E, hh⟩ := EV.ofPre (⟨B.exec, B.bytes, hml, findClass_of_methodNamed B.named, atoms_spec (ws := wsX8_stepY) B.pre⟩ : CallFix p m c cX8_stepY 1 s _ wsX8_stepY RX8) hpre
  have hx := E.1.1
  have hb := E.1.2.1
  have hown := E.1.2.2.2.1
  have hts := E.1.2.2.2.2
  have hl := lv_entry ([.int p0]) (n := 1) (Nat.le_of_ble_eq_true rfl)
  rw [lg_entry_eq]
  generalize (lg_sl ([.int p0]) ++ List.replicate (1 - (lg_sl ([.int p0])).length) Slot.unset).toArray = ls at hl ⊢
  have hl : lv_has ls 1 [(0, .int p0)] := hl
  unfold f_X8_stepY at h
  refine lv_iload_n hx hb dX8_stepY_0 rfl (lv_at hl 0 rfl) ?_
  refine q_Si (As := [.int p0]) (rest := []) E hh (c_X8_isWay l G _ _ _ _ h) (va_cwS 1 hts gX8_stepY_X8_isWay rfl rfl rfl (by decide +kernel) ⟨Nat.le_of_ble_eq_true rfl, Nat.le_of_ble_eq_true rfl⟩) rfl hl.1 rfl (Nat.le_of_ble_eq_true rfl) dX8_stepY_1 ⟨Nat.zero_le _, Nat.zero_le _⟩ (fun r1 s1 H locs h hh => ?_)
  refine lv_if_eq (tgt := 15) hx hb dX8_stepY_4 (by decide) (fun c9 => ?_) (fun c9 => ?_)
  · have h := h.1 c9
    refine lv_iconst (v := (0 : Int32)) hx hb dX8_stepY_15 (by decide) ?_
    exact q_iret E hh hr hlocks h dX8_stepY_16
  · have h := h.2 c9
    refine va_gets (own := RX8) hx hb E.2.2.2.1.2.2.2.1 hh.2 hown (hts _ (List.mem_cons_of_mem _ (List.mem_of_getElem? (i := 0) rfl))) (fun _ h9 => h9) dX8_stepY_7 ?_
    refine lv_iload_n hx hb dX8_stepY_10 rfl (lv_at hl 0 rfl) ?_
    obtain ⟨h0, h⟩ := h
    refine va_ti (v := .int (stY.getD p0.toNatClampNeg 0)) hx hb E.2.2.2.1.2.2.2.2.1 hh.2 h0 rfl dX8_stepY_11 ?_
    refine lv_goto (tgt := 16) hx hb dX8_stepY_12 (by decide) ?_
    exact q_iret E hh hr hlocks h dX8_stepY_16
def f_X8_cellBeyond (σ : St) (p0 : Int32) (p1 : Int32) (p2 : Int32) (Q : Int32 → St → Prop) : Prop :=
  f_X8_stepX σ p1 (fun r6 s6 => f_X8_stepY s6 p1 (fun r18 s18 => ((((p0 - p0 / (12 : Int32) * (12 : Int32)) + (p2 * r6)) < 0 → Q (-1 : Int32) s18) ∧ (¬ ((p0 - p0 / (12 : Int32) * (12 : Int32)) + (p2 * r6)) < 0 → (((12 : Int32) ≤ ((p0 - p0 / (12 : Int32) * (12 : Int32)) + (p2 * r6)) → Q (-1 : Int32) s18) ∧ (¬ (12 : Int32) ≤ ((p0 - p0 / (12 : Int32) * (12 : Int32)) + (p2 * r6)) → ((((p0 / (12 : Int32)) + (p2 * r18)) < 0 → Q (-1 : Int32) s18) ∧ (¬ ((p0 / (12 : Int32)) + (p2 * r18)) < 0 → ((((p0 / (12 : Int32)) + (p2 * r18)) < (12 : Int32) → Q (((12 : Int32) * ((p0 / (12 : Int32)) + (p2 * r18))) + ((p0 - p0 / (12 : Int32) * (12 : Int32)) + (p2 * r6))) s18) ∧ (¬ ((p0 / (12 : Int32)) + (p2 * r18)) < (12 : Int32) → Q (-1 : Int32) s18))))))))))
set_option maxHeartbeats 4000000 in
set_option maxRecDepth 100000 in
theorem c_X8_cellBeyond (l : Launch) (G : GG) (σ : St) (sz : Nat) (p0 : Int32) (p1 : Int32) (p2 : Int32) (Q : Int32 → St → Prop) (h : f_X8_cellBeyond σ p0 p1 p2 Q) : CTi l yX8_cellBeyond wsX8_cellBeyond ({ frames := 2, cells := 0, slots := 0, locals := 40 }) [.int p0, .int p1, .int p2] G σ sz Q := by
  refine Met.ofW (cc := cX8_cellBeyond) (maxL := 5) (ret := (some .int)) (by decide) rfl ?_
  intro p e s m args below meth c s₁ B hml hv
  obtain ⟨rfl, hpre⟩ := hv
  have hr := B.returns
  have hlocks := B.notSynchronized
  obtain ⟨hsz, -⟩ := id hpre
  subst hsz
  obtain ⟨E, hh⟩ := EV.ofPre (⟨B.exec, B.bytes, hml, findClass_of_methodNamed B.named, atoms_spec (ws := wsX8_cellBeyond) B.pre⟩ : CallFix p m c cX8_cellBeyond 5 s _ wsX8_cellBeyond RX8) hpre
  have hx := E.1.1
  have hb := E.1.2.1
  have hown := E.1.2.2.2.1
  have hts := E.1.2.2.2.2
  have hl := lv_entry ([.int p0, .int p1, .int p2]) (n := 5) (Nat.le_of_ble_eq_true rfl)
  rw [lg_entry_eq]
  generalize (lg_sl ([.int p0, .int p1, .int p2]) ++ List.replicate (5 - (lg_sl ([.int p0, .int p1, .int p2])).length) Slot.unset).toArray = ls at hl ⊢
  have hl : lv_has ls 5 [(0, .int p0), (1, .int p1), (2, .int p2)] := hl
  unfold f_X8_cellBeyond at h
  refine lv_iload_n hx hb dX8_cellBeyond_0 rfl (lv_at hl 0 rfl) ?_
  refine lv_bipush (v := (12 : Int32)) hx hb dX8_cellBeyond_1 (by decide) ?_
  refine lv_irem hx hb dX8_cellBeyond_3 (by decide) ?_
  refine lv_iload_n hx hb dX8_cellBeyond_4 rfl (lv_at hl 2 rfl) ?_
  refine lv_iload_n hx hb dX8_cellBeyond_5 rfl (lv_at hl 1 rfl) ?_
  refine q_Si (As := [.int p1]) (rest := [.int p2, .int (p0 - p0 / (12 : Int32) * (12 : Int32))]) E hh (c_X8_stepX l G _ _ _ _ h) (va_cwS 1 hts gX8_cellBeyond_X8_stepX rfl rfl rfl (by decide +kernel) ⟨Nat.le_of_ble_eq_true rfl, Nat.le_of_ble_eq_true rfl⟩) rfl hl.1 rfl (Nat.le_of_ble_eq_true rfl) dX8_cellBeyond_6 ⟨Nat.zero_le _, Nat.zero_le _⟩ (fun r6 s6 H locs h hh => ?_)
  refine lv_imul hx hb dX8_cellBeyond_9 ?_
  refine lv_iadd hx hb dX8_cellBeyond_10 ?_
  refine lv_istore_n (lv' := [(3, .int ((p0 - p0 / (12 : Int32) * (12 : Int32)) + (p2 * r6))), (0, .int p0), (1, .int p1), (2, .int p2)]) hx hb dX8_cellBeyond_11 rfl hl (by decide) rfl (fun ls hl => ?_)
  refine lv_iload_n hx hb dX8_cellBeyond_12 rfl (lv_at hl 1 rfl) ?_
  refine lv_bipush (v := (12 : Int32)) hx hb dX8_cellBeyond_13 (by decide) ?_
  refine lv_idiv hx hb dX8_cellBeyond_15 (by decide) ?_
  refine lv_iload_n hx hb dX8_cellBeyond_16 rfl (lv_at hl 3 rfl) ?_
  refine lv_iload_n hx hb dX8_cellBeyond_17 rfl (lv_at hl 2 rfl) ?_
  refine q_Si (As := [.int p1]) (rest := [.int p2, .int (p0 / (12 : Int32))]) E hh (c_X8_stepY l G _ _ _ _ h) (va_cwS 1 hts gX8_cellBeyond_X8_stepY rfl rfl rfl (by decide +kernel) ⟨Nat.le_of_ble_eq_true rfl, Nat.le_of_ble_eq_true rfl⟩) rfl hl.1 rfl (Nat.le_of_ble_eq_true rfl) dX8_cellBeyond_18 ⟨Nat.zero_le _, Nat.zero_le _⟩ (fun r18 s18 H locs h hh => ?_)
  refine lv_imul hx hb dX8_cellBeyond_21 ?_
  refine lv_iadd hx hb dX8_cellBeyond_22 ?_
  refine lv_istore (lv' := [(4, .int ((p0 / (12 : Int32)) + (p2 * r18))), (3, .int ((p0 - p0 / (12 : Int32) * (12 : Int32)) + (p2 * r6))), (0, .int p0), (1, .int p1), (2, .int p2)]) hx hb dX8_cellBeyond_23 hl (by decide) rfl (fun ls hl => ?_)
  refine lv_iload_n hx hb dX8_cellBeyond_25 rfl (lv_at hl 1 rfl) ?_
  refine lv_if_lt (tgt := 47) hx hb dX8_cellBeyond_26 (by decide) (fun c9 => ?_) (fun c9 => ?_)
  · have h := h.1 c9
    refine lv_iconst (v := (-1 : Int32)) hx hb dX8_cellBeyond_47 (by decide) ?_
    refine lv_goto (tgt := 58) hx hb dX8_cellBeyond_48 (by decide) ?_
    exact q_iret E hh hr hlocks h dX8_cellBeyond_58
  · have h := h.2 c9
    refine lv_iload_n hx hb dX8_cellBeyond_29 rfl (lv_at hl 1 rfl) ?_
    refine lv_bipush (v := (12 : Int32)) hx hb dX8_cellBeyond_30 (by decide) ?_
    refine lv_icmp_ge (tgt := 47) hx hb dX8_cellBeyond_32 (by decide) (fun c9 => ?_) (fun c9 => ?_)
    · have h := h.1 c9
      refine lv_iconst (v := (-1 : Int32)) hx hb dX8_cellBeyond_47 (by decide) ?_
      refine lv_goto (tgt := 58) hx hb dX8_cellBeyond_48 (by decide) ?_
      exact q_iret E hh hr hlocks h dX8_cellBeyond_58
    · have h := h.2 c9
      refine lv_iload hx hb dX8_cellBeyond_35 (lv_at hl 0 rfl) ?_
      refine lv_if_lt (tgt := 47) hx hb dX8_cellBeyond_37 (by decide) (fun c9 => ?_) (fun c9 => ?_)
      · have h := h.1 c9
        refine lv_iconst (v := (-1 : Int32)) hx hb dX8_cellBeyond_47 (by decide) ?_
        refine lv_goto (tgt := 58) hx hb dX8_cellBeyond_48 (by decide) ?_
        exact q_iret E hh hr hlocks h dX8_cellBeyond_58
      · have h := h.2 c9
        refine lv_iload hx hb dX8_cellBeyond_40 (lv_at hl 0 rfl) ?_
        refine lv_bipush (v := (12 : Int32)) hx hb dX8_cellBeyond_42 (by decide) ?_
        refine lv_icmp_lt (tgt := 51) hx hb dX8_cellBeyond_44 (by decide) (fun c9 => ?_) (fun c9 => ?_)
        · have h := h.1 c9
          refine lv_bipush (v := (12 : Int32)) hx hb dX8_cellBeyond_51 (by decide) ?_
          refine lv_iload hx hb dX8_cellBeyond_53 (lv_at hl 0 rfl) ?_
          refine lv_imul hx hb dX8_cellBeyond_55 ?_
          refine lv_iload_n hx hb dX8_cellBeyond_56 rfl (lv_at hl 1 rfl) ?_
          refine lv_iadd hx hb dX8_cellBeyond_57 ?_
          exact q_iret E hh hr hlocks h dX8_cellBeyond_58
        · have h := h.2 c9
          refine lv_iconst (v := (-1 : Int32)) hx hb dX8_cellBeyond_47 (by decide) ?_
          refine lv_goto (tgt := 58) hx hb dX8_cellBeyond_48 (by decide) ?_
          exact q_iret E hh hr hlocks h dX8_cellBeyond_58
def f_X8_isCell (σ : St) (p0 : Int32) (Q : Int32 → St → Prop) : Prop :=
  ((p0 < 0 → Q (0 : Int32) σ) ∧ (¬ p0 < 0 → (((144 : Int32) ≤ p0 → Q (0 : Int32) σ) ∧ (¬ (144 : Int32) ≤ p0 → Q (1 : Int32) σ))))
set_option maxHeartbeats 4000000 in
set_option maxRecDepth 100000 in
theorem c_X8_isCell (l : Launch) (G : GG) (σ : St) (sz : Nat) (p0 : Int32) (Q : Int32 → St → Prop) (h : f_X8_isCell σ p0 Q) : CTi l yX8_isCell wsX8_isCell ({ frames := 0, cells := 0, slots := 0, locals := 0 }) [.int p0] G σ sz Q := by
  refine Met.ofW (cc := cX8_isCell) (maxL := 1) (ret := (some .boolean)) (by decide) rfl ?_
  intro p e s m args below meth c s₁ B hml hv
  obtain ⟨rfl, hpre⟩ := hv
  have hr := B.returns
  have hlocks := B.notSynchronized
  obtain ⟨hsz, -⟩ := id hpre
  subst hsz
  obtain ⟨E, hh⟩ := EV.ofPre (⟨B.exec, B.bytes, hml, findClass_of_methodNamed B.named, atoms_spec (ws := wsX8_isCell) B.pre⟩ : CallFix p m c cX8_isCell 1 s _ wsX8_isCell RX8) hpre
  have hx := E.1.1
  have hb := E.1.2.1
  have hown := E.1.2.2.2.1
  have hts := E.1.2.2.2.2
  have hl := lv_entry ([.int p0]) (n := 1) (Nat.le_of_ble_eq_true rfl)
  rw [lg_entry_eq]
  generalize (lg_sl ([.int p0]) ++ List.replicate (1 - (lg_sl ([.int p0])).length) Slot.unset).toArray = ls at hl ⊢
  have hl : lv_has ls 1 [(0, .int p0)] := hl
  unfold f_X8_isCell at h
  refine lv_iload_n hx hb dX8_isCell_0 rfl (lv_at hl 0 rfl) ?_
  refine lv_if_lt (tgt := 15) hx hb dX8_isCell_1 (by decide) (fun c9 => ?_) (fun c9 => ?_)
  · have h := h.1 c9
    refine lv_iconst (v := (0 : Int32)) hx hb dX8_isCell_15 (by decide) ?_
    exact q_zret (ty := .boolean) E hh hr hlocks rfl h dX8_isCell_16
  · have h := h.2 c9
    refine lv_iload_n hx hb dX8_isCell_4 rfl (lv_at hl 0 rfl) ?_
    refine lv_sipush (v := (144 : Int32)) hx hb dX8_isCell_5 (by decide) ?_
    refine lv_icmp_ge (tgt := 15) hx hb dX8_isCell_8 (by decide) (fun c9 => ?_) (fun c9 => ?_)
    · have h := h.1 c9
      refine lv_iconst (v := (0 : Int32)) hx hb dX8_isCell_15 (by decide) ?_
      exact q_zret (ty := .boolean) E hh hr hlocks rfl h dX8_isCell_16
    · have h := h.2 c9
      refine lv_iconst (v := (1 : Int32)) hx hb dX8_isCell_11 (by decide) ?_
      refine lv_goto (tgt := 16) hx hb dX8_isCell_12 (by decide) ?_
      exact q_zret (ty := .boolean) E hh hr hlocks rfl h dX8_isCell_16
def f_X8_isBoatNumber (σ : St) (p0 : Int32) (Q : Int32 → St → Prop) : Prop :=
  ((p0 < 0 → Q (0 : Int32) σ) ∧ (¬ p0 < 0 → (((16 : Int32) ≤ p0 → Q (0 : Int32) σ) ∧ (¬ (16 : Int32) ≤ p0 → Q (1 : Int32) σ))))
set_option maxHeartbeats 4000000 in
set_option maxRecDepth 100000 in
theorem c_X8_isBoatNumber (l : Launch) (G : GG) (σ : St) (sz : Nat) (p0 : Int32) (Q : Int32 → St → Prop) (h : f_X8_isBoatNumber σ p0 Q) : CTi l yX8_isBoatNumber wsX8_isBoatNumber ({ frames := 0, cells := 0, slots := 0, locals := 0 }) [.int p0] G σ sz Q := by
  refine Met.ofW (cc := cX8_isBoatNumber) (maxL := 1) (ret := (some .boolean)) (by decide) rfl ?_
  intro p e s m args below meth c s₁ B hml hv
  obtain ⟨rfl, hpre⟩ := hv
  have hr := B.returns
  have hlocks := B.notSynchronized
  obtain ⟨hsz, -⟩ := id hpre
  subst hsz
  obtain ⟨E, hh⟩ := EV.ofPre (⟨B.exec, B.bytes, hml, findClass_of_methodNamed B.named, atoms_spec (ws := wsX8_isBoatNumber) B.pre⟩ : CallFix p m c cX8_isBoatNumber 1 s _ wsX8_isBoatNumber RX8) hpre
  have hx := E.1.1
  have hb := E.1.2.1
  have hown := E.1.2.2.2.1
  have hts := E.1.2.2.2.2
  have hl := lv_entry ([.int p0]) (n := 1) (Nat.le_of_ble_eq_true rfl)
  rw [lg_entry_eq]
  generalize (lg_sl ([.int p0]) ++ List.replicate (1 - (lg_sl ([.int p0])).length) Slot.unset).toArray = ls at hl ⊢
  have hl : lv_has ls 1 [(0, .int p0)] := hl
  unfold f_X8_isBoatNumber at h
  refine lv_iload_n hx hb dX8_isBoatNumber_0 rfl (lv_at hl 0 rfl) ?_
  refine lv_if_lt (tgt := 14) hx hb dX8_isBoatNumber_1 (by decide) (fun c9 => ?_) (fun c9 => ?_)
  · have h := h.1 c9
    refine lv_iconst (v := (0 : Int32)) hx hb dX8_isBoatNumber_14 (by decide) ?_
    exact q_zret (ty := .boolean) E hh hr hlocks rfl h dX8_isBoatNumber_15
  · have h := h.2 c9
    refine lv_iload_n hx hb dX8_isBoatNumber_4 rfl (lv_at hl 0 rfl) ?_
    refine lv_bipush (v := (16 : Int32)) hx hb dX8_isBoatNumber_5 (by decide) ?_
    refine lv_icmp_ge (tgt := 14) hx hb dX8_isBoatNumber_7 (by decide) (fun c9 => ?_) (fun c9 => ?_)
    · have h := h.1 c9
      refine lv_iconst (v := (0 : Int32)) hx hb dX8_isBoatNumber_14 (by decide) ?_
      exact q_zret (ty := .boolean) E hh hr hlocks rfl h dX8_isBoatNumber_15
    · have h := h.2 c9
      refine lv_iconst (v := (1 : Int32)) hx hb dX8_isBoatNumber_10 (by decide) ?_
      refine lv_goto (tgt := 15) hx hb dX8_isBoatNumber_11 (by decide) ?_
      exact q_zret (ty := .boolean) E hh hr hlocks rfl h dX8_isBoatNumber_15
def f_X3_isSafe (σ : St) (p1 : Int32) (p2 : Int32) (Q : Int32 → St → Prop) : Prop :=
  f_X8_isCell σ p1 (fun r1 s1 => ((r1 = 0 → Q (0 : Int32) s1) ∧ (¬ r1 = 0 → (vp_in p1 144 ∧ (((ga s1 10 p1.toNatClampNeg) < p2 → Q (0 : Int32) s1) ∧ (¬ (ga s1 10 p1.toNatClampNeg) < p2 → (vp_in p1 144 ∧ ((¬ (ga s1 12 p1.toNatClampNeg) = 0 → Q (0 : Int32) s1) ∧ ((ga s1 12 p1.toNatClampNeg) = 0 → Q (1 : Int32) s1)))))))))
set_option maxHeartbeats 4000000 in
set_option maxRecDepth 100000 in
theorem c_X3_isSafe (l : Launch) (G : GG) (σ : St) (sz : Nat) (p1 : Int32) (p2 : Int32) (Q : Int32 → St → Prop) (h : f_X3_isSafe σ p1 p2 Q) : CTi l yX3_isSafe wsX3_isSafe ({ frames := 1, cells := 0, slots := 0, locals := 20 }) [.ref (G.2.1 1), .int p1, .int p2] G σ sz Q := by
  refine Met.ofW (cc := cX3_isSafe) (maxL := 3) (ret := (some .boolean)) (by decide) rfl ?_
  intro p e s m args below meth c s₁ B hml hv
  obtain ⟨rfl, hpre⟩ := hv
  have hr := B.returns
  have hlocks := B.notSynchronized
  obtain ⟨hsz, -⟩ := id hpre
  subst hsz
  obtain ⟨E, hh⟩ := EV.ofPre (⟨B.exec, B.bytes, hml, findClass_of_methodNamed B.named, atoms_spec (ws := wsX3_isSafe) B.pre⟩ : CallFix p m c cX3_isSafe 3 s _ wsX3_isSafe RX3) hpre
  have hx := E.1.1
  have hb := E.1.2.1
  have hown := E.1.2.2.2.1
  have hts := E.1.2.2.2.2
  have h_inX3 : ∀ w ∈ wsX30, w ∈ wsX3_isSafe := (fun _ h9 => (List.mem_cons_of_mem _ (List.mem_append_right _ h9)))
  have hl := lv_entry ([.ref (G.2.1 1), .int p1, .int p2]) (n := 3) (Nat.le_of_ble_eq_true rfl)
  rw [lg_entry_eq]
  generalize (lg_sl ([.ref (G.2.1 1), .int p1, .int p2]) ++ List.replicate (3 - (lg_sl ([.ref (G.2.1 1), .int p1, .int p2])).length) Slot.unset).toArray = ls at hl ⊢
  have hl : lv_has ls 3 [(0, .ref (G.2.1 1)), (1, .int p1), (2, .int p2)] := hl
  unfold f_X3_isSafe at h
  refine lv_iload_n hx hb dX3_isSafe_0 rfl (lv_at hl 1 rfl) ?_
  refine q_Ni (As := [.int p1]) (rest := []) E hh (c_X8_isCell l G _ _ _ _ h) (va_cnB 1 hts gX3_isSafe_X8_isCell_n35 rfl rfl rfl (E.2.2.2.1.1.2.1 (RX3, 35, (⟨RX8, "isCell", "(I)Z"⟩ : MethodName), "IceRegatta") (List.mem_of_getElem? (i := 9) rfl)) (hts _ (List.mem_cons_of_mem _ (List.mem_append_left _ (List.mem_of_getElem? (i := 3) rfl)))) (by decide +kernel) ⟨Nat.le_of_ble_eq_true rfl, Nat.le_of_ble_eq_true rfl⟩) (List.mem_cons_of_mem _ (List.mem_append_left _ (List.mem_of_getElem? (i := 2) rfl))) rfl hl.1 rfl (Nat.le_of_ble_eq_true rfl) dX3_isSafe_1 ⟨Nat.zero_le _, Nat.zero_le _⟩ (fun r1 s1 H locs h hh => ?_)
  refine lv_if_eq (tgt := 30) hx hb dX3_isSafe_4 (by decide) (fun c9 => ?_) (fun c9 => ?_)
  · have h := h.1 c9
    refine lv_iconst (v := (0 : Int32)) hx hb dX3_isSafe_30 (by decide) ?_
    exact q_zret (ty := .boolean) E hh hr hlocks rfl h dX3_isSafe_31
  · have h := h.2 c9
    refine lv_aload_n hx hb dX3_isSafe_7 rfl (lv_at hl 0 rfl) ?_
    refine q_get (T := TX3) (v := .ref (G.2.1 10)) E hh h_inX3 1 (WW_at_1 G s1) rfl 0 (by decide) (List.mem_cons_of_mem _ (List.mem_append_left _ (List.mem_of_getElem? (i := 0) rfl))) rfl rfl dX3_isSafe_8 ?_
    refine lv_iload_n hx hb dX3_isSafe_11 rfl (lv_at hl 1 rfl) ?_
    obtain ⟨h0, h⟩ := h
    refine q_iald E hh 10 (WW_at_10 G s1) h0 dX3_isSafe_12 ?_
    refine lv_iload_n hx hb dX3_isSafe_13 rfl (lv_at hl 2 rfl) ?_
    refine lv_icmp_lt (tgt := 30) hx hb dX3_isSafe_14 (by decide) (fun c9 => ?_) (fun c9 => ?_)
    · have h := h.1 c9
      refine lv_iconst (v := (0 : Int32)) hx hb dX3_isSafe_30 (by decide) ?_
      exact q_zret (ty := .boolean) E hh hr hlocks rfl h dX3_isSafe_31
    · have h := h.2 c9
      refine lv_aload_n hx hb dX3_isSafe_17 rfl (lv_at hl 0 rfl) ?_
      refine q_get (T := TX3) (v := .ref (G.2.1 12)) E hh h_inX3 1 (WW_at_1 G s1) rfl 2 (by decide) (List.mem_cons_of_mem _ (List.mem_append_left _ (List.mem_of_getElem? (i := 1) rfl))) rfl rfl dX3_isSafe_18 ?_
      refine lv_iload_n hx hb dX3_isSafe_21 rfl (lv_at hl 1 rfl) ?_
      obtain ⟨h0, h⟩ := h
      refine q_zald E hh 12 (WW_at_12 G s1) h0 dX3_isSafe_22 ?_
      refine lv_if_ne (tgt := 30) hx hb dX3_isSafe_23 (by decide) (fun c9 => ?_) (fun c9 => ?_)
      · have h := h.1 c9
        refine lv_iconst (v := (0 : Int32)) hx hb dX3_isSafe_30 (by decide) ?_
        exact q_zret (ty := .boolean) E hh hr hlocks rfl h dX3_isSafe_31
      · have h := h.2 c9
        refine lv_iconst (v := (1 : Int32)) hx hb dX3_isSafe_26 (by decide) ?_
        refine lv_goto (tgt := 31) hx hb dX3_isSafe_27 (by decide) ?_
        exact q_zret (ty := .boolean) E hh hr hlocks rfl h dX3_isSafe_31
def f_X3_reach_6 (Q : Int32 → St → Prop)  (rec : St → Int32 → Int32 → Int32 → Int32 → Int32 → Prop) (σ : St) (l1 : Int32) (l2 : Int32) (l3 : Int32) (l4 : Int32) (l5 : Int32) : Prop :=
  (((12 : Int32) ≤ l5 → Q l4 σ) ∧ (¬ (12 : Int32) ≤ l5 → f_X8_cellBeyond σ l1 l2 l5 (fun r18 s18 => f_X3_isSafe s18 r18 l3 (fun r22 s22 => ((¬ r22 = 0 → rec s22 l1 l2 l3 l5 (l5 + 1)) ∧ (r22 = 0 → Q l4 s22))))))
def f_X3_reach_6L (Q : Int32 → St → Prop)  : Nat → St → Int32 → Int32 → Int32 → Int32 → Int32 → Prop
  | 0, _, _, _, _, _, _ => False
  | n + 1, σ, l1, l2, l3, l4, l5 => f_X3_reach_6 Q  (f_X3_reach_6L Q  n) σ l1 l2 l3 l4 l5
set_option maxHeartbeats 4000000 in
set_option maxRecDepth 100000 in
theorem w_X3_reach_6 {p : Program} {l : Launch} {e : Env} {s : State} {m : MethodId} {args : Array Value} {below : List Frame} {meth : Method} {c : Code} {G : GG} (E : EV p s m args c cX3_reach 6 wsX3_reach RX3 G (AD G s.heap.size)) (hr : meth.sig.returnType = (some .int)) (hlocks : meth.locks = false) {Q : Int32 → St → Prop}  : ∀ (n : Nat) (σ : St) (l1 : Int32) (l2 : Int32) (l3 : Int32) (l4 : Int32) (l5 : Int32) (H : Heap) (locs : List Loc) (ls : Array Slot), f_X3_reach_6L Q  n σ l1 l2 l3 l4 l5 → HH G (AD G s.heap.size) s σ H locs → lv_has ls 6 [(0, .ref (G.2.1 1)), (1, .int l1), (2, .int l2), (3, .int l3), (4, .int l4), (5, .int l5)] → W p l e ({ frames := 3, cells := 0, slots := 0, locals := 64 }) s m args below meth c H locs 0 0 (MQi below G args s Q) (F0 m 6 ls []) := by
  have hx := E.1.1
  have hb := E.1.2.1
  have hown := E.1.2.2.2.1
  have hts := E.1.2.2.2.2
  intro n
  induction n with
  | zero =>
    intro σ l1 l2 l3 l4 l5 H locs ls h
    exact h.elim
  | succ n ih =>
    intro σ l1 l2 l3 l4 l5 H locs ls h hh hl
    have h : f_X3_reach_6 Q  (f_X3_reach_6L Q  n) σ l1 l2 l3 l4 l5 := h
    unfold f_X3_reach_6 at h
    refine lv_iload hx hb dX3_reach_6 (lv_at hl 5 rfl) ?_
    refine lv_bipush (v := (12 : Int32)) hx hb dX3_reach_8 (by decide) ?_
    refine lv_icmp_ge (tgt := 41) hx hb dX3_reach_10 (by decide) (fun c9 => ?_) (fun c9 => ?_)
    · have h := h.1 c9
      refine lv_iload hx hb dX3_reach_41 (lv_at hl 4 rfl) ?_
      exact q_iret E hh hr hlocks h dX3_reach_43
    · have h := h.2 c9
      refine lv_aload_n hx hb dX3_reach_13 rfl (lv_at hl 0 rfl) ?_
      refine lv_iload_n hx hb dX3_reach_14 rfl (lv_at hl 1 rfl) ?_
      refine lv_iload_n hx hb dX3_reach_15 rfl (lv_at hl 2 rfl) ?_
      refine lv_iload hx hb dX3_reach_16 (lv_at hl 5 rfl) ?_
      refine q_Ni (As := [.int l1, .int l2, .int l5]) (rest := [.ref (G.2.1 1)]) E hh (c_X8_cellBeyond l G _ _ _ _ _ _ h) (va_cnB 3 hts gX3_reach_X8_cellBeyond_n43 rfl rfl rfl (E.2.2.2.1.1.2.1 (RX3, 43, (⟨RX8, "cellBeyond", "(III)I"⟩ : MethodName), "IceRegatta") (List.mem_of_getElem? (i := 8) rfl)) (hts _ (List.mem_cons_of_mem _ (List.mem_append_left _ (List.mem_of_getElem? (i := 1) rfl)))) (by decide +kernel) ⟨Nat.le_of_ble_eq_true rfl, Nat.le_of_ble_eq_true rfl⟩) (List.mem_cons_of_mem _ (List.mem_append_left _ (List.mem_of_getElem? (i := 0) rfl))) rfl hl.1 rfl (Nat.le_of_ble_eq_true rfl) dX3_reach_18 ⟨Nat.zero_le _, Nat.zero_le _⟩ (fun r18 s18 H locs h hh => ?_)
      refine lv_iload_n hx hb dX3_reach_21 rfl (lv_at hl 3 rfl) ?_
      refine q_Vi (As := [.int r18, .int l3]) (rest := []) E hh (c_X3_isSafe l G _ _ _ _ _ h) (cwV 2 hts gX3_reach_X3_isSafe rfl rfl rfl (by decide +kernel) ⟨Nat.le_of_ble_eq_true rfl, Nat.le_of_ble_eq_true rfl⟩) (va_recv (ci := 3) E.2.1 hh.1 rfl (WW_at_1 G s18)) rfl hl.1 rfl (Nat.le_of_ble_eq_true rfl) dX3_reach_22 ⟨Nat.zero_le _, Nat.zero_le _⟩ (fun r22 s22 H locs h hh => ?_)
      refine lv_if_ne (tgt := 31) hx hb dX3_reach_25 (by decide) (fun c9 => ?_) (fun c9 => ?_)
      · have h := h.1 c9
        refine lv_iload hx hb dX3_reach_31 (lv_at hl 5 rfl) ?_
        refine lv_istore (lv' := [(4, .int l5), (0, .ref (G.2.1 1)), (1, .int l1), (2, .int l2), (3, .int l3), (5, .int l5)]) hx hb dX3_reach_33 hl (by decide) rfl (fun ls hl => ?_)
        refine lv_iinc (v := (l5 + 1)) (lv' := [(5, .int (l5 + 1)), (4, .int l5), (0, .ref (G.2.1 1)), (1, .int l1), (2, .int l2), (3, .int l3)]) hx hb dX3_reach_35 hl (k := 5) rfl rfl (by decide) rfl (fun ls hl => ?_)
        refine lv_goto (tgt := 6) hx hb dX3_reach_38 (by decide) ?_
        exact ih _ _ _ _ _ _ _ _ _ h hh (lv_sub hl [2, 3, 4, 5, 1, 0] rfl)
      · have h := h.2 c9
        refine lv_iload hx hb dX3_reach_28 (lv_at hl 4 rfl) ?_
        exact q_iret E hh hr hlocks h dX3_reach_30
def f_X3_reach (σ : St) (p1 : Int32) (p2 : Int32) (p3 : Int32) (Q : Int32 → St → Prop) : Prop :=
  f_X3_reach_6L Q FU σ p1 p2 p3 (-1 : Int32) (0 : Int32)
set_option maxHeartbeats 4000000 in
set_option maxRecDepth 100000 in
theorem c_X3_reach (l : Launch) (G : GG) (σ : St) (sz : Nat) (p1 : Int32) (p2 : Int32) (p3 : Int32) (Q : Int32 → St → Prop) (h : f_X3_reach σ p1 p2 p3 Q) : CTi l yX3_reach wsX3_reach ({ frames := 3, cells := 0, slots := 0, locals := 64 }) [.ref (G.2.1 1), .int p1, .int p2, .int p3] G σ sz Q := by
  refine Met.ofW (cc := cX3_reach) (maxL := 6) (ret := (some .int)) (by decide) rfl ?_
  intro p e s m args below meth c s₁ B hml hv
  obtain ⟨rfl, hpre⟩ := hv
  have hr := B.returns
  have hlocks := B.notSynchronized
  obtain ⟨hsz, -⟩ := id hpre
  subst hsz
  obtain ⟨E, hh⟩ := EV.ofPre (⟨B.exec, B.bytes, hml, findClass_of_methodNamed B.named, atoms_spec (ws := wsX3_reach) B.pre⟩ : CallFix p m c cX3_reach 6 s _ wsX3_reach RX3) hpre
  have hx := E.1.1
  have hb := E.1.2.1
  have hown := E.1.2.2.2.1
  have hts := E.1.2.2.2.2
  have hl := lv_entry ([.ref (G.2.1 1), .int p1, .int p2, .int p3]) (n := 6) (Nat.le_of_ble_eq_true rfl)
  rw [lg_entry_eq]
  generalize (lg_sl ([.ref (G.2.1 1), .int p1, .int p2, .int p3]) ++ List.replicate (6 - (lg_sl ([.ref (G.2.1 1), .int p1, .int p2, .int p3])).length) Slot.unset).toArray = ls at hl ⊢
  have hl : lv_has ls 6 [(0, .ref (G.2.1 1)), (1, .int p1), (2, .int p2), (3, .int p3)] := hl
  unfold f_X3_reach at h
  refine lv_iconst (v := (-1 : Int32)) hx hb dX3_reach_0 (by decide) ?_
  refine lv_istore (lv' := [(4, .int (-1 : Int32)), (0, .ref (G.2.1 1)), (1, .int p1), (2, .int p2), (3, .int p3)]) hx hb dX3_reach_1 hl (by decide) rfl (fun ls hl => ?_)
  refine lv_iconst (v := (0 : Int32)) hx hb dX3_reach_3 (by decide) ?_
  refine lv_istore (lv' := [(5, .int (0 : Int32)), (4, .int (-1 : Int32)), (0, .ref (G.2.1 1)), (1, .int p1), (2, .int p2), (3, .int p3)]) hx hb dX3_reach_4 hl (by decide) rfl (fun ls hl => ?_)
  exact w_X3_reach_6 E hr hlocks  FU _ _ _ _ _ _ _ _ _ h hh (lv_sub hl [2, 3, 4, 5, 1, 0] rfl)
def f_X3_lowOf (σ : St) (p1 : Int32) (Q : Int32 → St → Prop) : Prop :=
  (vp_in p1 144 ∧ Q (ga σ 10 p1.toNatClampNeg) σ)
set_option maxHeartbeats 4000000 in
set_option maxRecDepth 100000 in
theorem c_X3_lowOf (l : Launch) (G : GG) (σ : St) (sz : Nat) (p1 : Int32) (Q : Int32 → St → Prop) (h : f_X3_lowOf σ p1 Q) : CTi l yX3_lowOf wsX3_lowOf ({ frames := 0, cells := 0, slots := 0, locals := 0 }) [.ref (G.2.1 1), .int p1] G σ sz Q := by
  refine Met.ofW (cc := cX3_lowOf) (maxL := 2) (ret := (some .int)) (by decide) rfl ?_
  intro p e s m args below meth c s₁ B hml hv
  obtain ⟨rfl, hpre⟩ := hv
  have hr := B.returns
  have hlocks := B.notSynchronized
  obtain ⟨hsz, -⟩ := id hpre
  subst hsz
  obtain ⟨E, hh⟩ := EV.ofPre (⟨B.exec, B.bytes, hml, findClass_of_methodNamed B.named, atoms_spec (ws := wsX3_lowOf) B.pre⟩ : CallFix p m c cX3_lowOf 2 s _ wsX3_lowOf RX3) hpre
  have hx := E.1.1
  have hb := E.1.2.1
  have hown := E.1.2.2.2.1
  have hts := E.1.2.2.2.2
  have h_inX3 : ∀ w ∈ wsX30, w ∈ wsX3_lowOf := (fun _ h9 => (List.mem_cons_of_mem _ (List.mem_append_right _ h9)))
  have hl := lv_entry ([.ref (G.2.1 1), .int p1]) (n := 2) (Nat.le_of_ble_eq_true rfl)
  rw [lg_entry_eq]
  generalize (lg_sl ([.ref (G.2.1 1), .int p1]) ++ List.replicate (2 - (lg_sl ([.ref (G.2.1 1), .int p1])).length) Slot.unset).toArray = ls at hl ⊢
  have hl : lv_has ls 2 [(0, .ref (G.2.1 1)), (1, .int p1)] := hl
  unfold f_X3_lowOf at h
  refine lv_aload_n hx hb dX3_lowOf_0 rfl (lv_at hl 0 rfl) ?_
  refine q_get (T := TX3) (v := .ref (G.2.1 10)) E hh h_inX3 1 (WW_at_1 G σ) rfl 0 (by decide) (List.mem_cons_of_mem _ (List.mem_append_left _ (List.mem_of_getElem? (i := 0) rfl))) rfl rfl dX3_lowOf_1 ?_
  refine lv_iload_n hx hb dX3_lowOf_4 rfl (lv_at hl 1 rfl) ?_
  obtain ⟨h0, h⟩ := h
  refine q_iald E hh 10 (WW_at_10 G σ) h0 dX3_lowOf_5 ?_
  exact q_iret E hh hr hlocks h dX3_lowOf_6
def f_X3_highOf (σ : St) (p1 : Int32) (Q : Int32 → St → Prop) : Prop :=
  (vp_in p1 144 ∧ Q (ga σ 11 p1.toNatClampNeg) σ)
set_option maxHeartbeats 4000000 in
set_option maxRecDepth 100000 in
theorem c_X3_highOf (l : Launch) (G : GG) (σ : St) (sz : Nat) (p1 : Int32) (Q : Int32 → St → Prop) (h : f_X3_highOf σ p1 Q) : CTi l yX3_highOf wsX3_highOf ({ frames := 0, cells := 0, slots := 0, locals := 0 }) [.ref (G.2.1 1), .int p1] G σ sz Q := by
  refine Met.ofW (cc := cX3_highOf) (maxL := 2) (ret := (some .int)) (by decide) rfl ?_
  intro p e s m args below meth c s₁ B hml hv
  obtain ⟨rfl, hpre⟩ := hv
  have hr := B.returns
  have hlocks := B.notSynchronized
  obtain ⟨hsz, -⟩ := id hpre
  subst hsz
  obtain ⟨E, hh⟩ := EV.ofPre (⟨B.exec, B.bytes, hml, findClass_of_methodNamed B.named, atoms_spec (ws := wsX3_highOf) B.pre⟩ : CallFix p m c cX3_highOf 2 s _ wsX3_highOf RX3) hpre
  have hx := E.1.1
  have hb := E.1.2.1
  have hown := E.1.2.2.2.1
  have hts := E.1.2.2.2.2
  have h_inX3 : ∀ w ∈ wsX30, w ∈ wsX3_highOf := (fun _ h9 => (List.mem_cons_of_mem _ (List.mem_append_right _ h9)))
  have hl := lv_entry ([.ref (G.2.1 1), .int p1]) (n := 2) (Nat.le_of_ble_eq_true rfl)
  rw [lg_entry_eq]
  generalize (lg_sl ([.ref (G.2.1 1), .int p1]) ++ List.replicate (2 - (lg_sl ([.ref (G.2.1 1), .int p1])).length) Slot.unset).toArray = ls at hl ⊢
  have hl : lv_has ls 2 [(0, .ref (G.2.1 1)), (1, .int p1)] := hl
  unfold f_X3_highOf at h
  refine lv_aload_n hx hb dX3_highOf_0 rfl (lv_at hl 0 rfl) ?_
  refine q_get (T := TX3) (v := .ref (G.2.1 11)) E hh h_inX3 1 (WW_at_1 G σ) rfl 1 (by decide) (List.mem_cons_of_mem _ (List.mem_append_left _ (List.mem_of_getElem? (i := 0) rfl))) rfl rfl dX3_highOf_1 ?_
  refine lv_iload_n hx hb dX3_highOf_4 rfl (lv_at hl 1 rfl) ?_
  obtain ⟨h0, h⟩ := h
  refine q_iald E hh 11 (WW_at_11 G σ) h0 dX3_highOf_5 ?_
  exact q_iret E hh hr hlocks h dX3_highOf_6
def f_X3_within (σ : St) (p0 : Int32) (Q : Int32 → St → Prop) : Prop :=
  Q (if (0 : Int32) < (if p0 < (5000 : Int32) then p0 else (5000 : Int32)) then (if p0 < (5000 : Int32) then p0 else (5000 : Int32)) else (0 : Int32)) σ
set_option maxHeartbeats 4000000 in
set_option maxRecDepth 100000 in
theorem c_X3_within (l : Launch) (G : GG) (σ : St) (sz : Nat) (p0 : Int32) (Q : Int32 → St → Prop) (h : f_X3_within σ p0 Q) : CTi l yX3_within wsX3_within ({ frames := 1, cells := 0, slots := 0, locals := 21 }) [.int p0] G σ sz Q := by
  refine Met.ofW (cc := cX3_within) (maxL := 1) (ret := (some .int)) (by decide) rfl ?_
  intro p e s m args below meth c s₁ B hml hv
  obtain ⟨rfl, hpre⟩ := hv
  have hr := B.returns
  have hlocks := B.notSynchronized
  obtain ⟨hsz, -⟩ := id hpre
  subst hsz
  obtain ⟨E, hh⟩ := EV.ofPre (⟨B.exec, B.bytes, hml, findClass_of_methodNamed B.named, atoms_spec (ws := wsX3_within) B.pre⟩ : CallFix p m c cX3_within 1 s _ wsX3_within RX3) hpre
  have hx := E.1.1
  have hb := E.1.2.1
  have hown := E.1.2.2.2.1
  have hts := E.1.2.2.2.2
  have hl := lv_entry ([.int p0]) (n := 1) (Nat.le_of_ble_eq_true rfl)
  rw [lg_entry_eq]
  generalize (lg_sl ([.int p0]) ++ List.replicate (1 - (lg_sl ([.int p0])).length) Slot.unset).toArray = ls at hl ⊢
  have hl : lv_has ls 1 [(0, .int p0)] := hl
  unfold f_X3_within at h
  refine lv_iconst (v := (0 : Int32)) hx hb dX3_within_0 (by decide) ?_
  refine lv_sipush (v := (5000 : Int32)) hx hb dX3_within_1 (by decide) ?_
  refine lv_iload_n hx hb dX3_within_4 rfl (lv_at hl 0 rfl) ?_
  refine va_mmin (own := RX3) hx hb (by rw [E.1.2.2.1]; exact hl.1.symm) hown (hts _ (List.mem_cons_of_mem _ (List.mem_of_getElem? (i := 0) rfl))) (hts _ (List.mem_cons_of_mem _ (List.mem_of_getElem? (i := 1) rfl))) (hts _ (List.mem_cons_of_mem _ (List.mem_of_getElem? (i := 2) rfl))) (hts _ (List.mem_cons_of_mem _ (List.mem_of_getElem? (i := 3) rfl))) (Nat.le_of_ble_eq_true rfl) (Nat.le_of_ble_eq_true rfl) (Nat.zero_le _) (Nat.zero_le _) dX3_within_5 ?_
  refine va_mmax (own := RX3) hx hb (by rw [E.1.2.2.1]; exact hl.1.symm) hown (hts _ (List.mem_cons_of_mem _ (List.mem_of_getElem? (i := 4) rfl))) (hts _ (List.mem_cons_of_mem _ (List.mem_of_getElem? (i := 5) rfl))) (hts _ (List.mem_cons_of_mem _ (List.mem_of_getElem? (i := 2) rfl))) (hts _ (List.mem_cons_of_mem _ (List.mem_of_getElem? (i := 6) rfl))) (Nat.le_of_ble_eq_true rfl) (Nat.le_of_ble_eq_true rfl) (Nat.zero_le _) (Nat.zero_le _) dX3_within_8 ?_
  exact q_iret E hh hr hlocks h dX3_within_11
def f_X3_setBounds (σ : St) (p1 : Int32) (p2 : Int32) (p3 : Int32) (Q : Int32 → St → Prop) : Prop :=
  f_X3_within σ (p2 - p3) (fun r8 s8 => (vp_in p1 144 ∧ f_X3_within (sa s8 10 (upd (ga s8 10) p1.toNatClampNeg r8)) (p2 + p3) (fun r20 s20 => (vp_in p1 144 ∧ (vp_in p1 144 ∧ Q (ga (sa s20 11 (upd (ga s20 11) p1.toNatClampNeg r20)) 10 p1.toNatClampNeg) (sa s20 11 (upd (ga s20 11) p1.toNatClampNeg r20)))))))
set_option maxHeartbeats 4000000 in
set_option maxRecDepth 100000 in
theorem c_X3_setBounds (l : Launch) (G : GG) (σ : St) (sz : Nat) (p1 : Int32) (p2 : Int32) (p3 : Int32) (Q : Int32 → St → Prop) (h : f_X3_setBounds σ p1 p2 p3 Q) : CTi l yX3_setBounds wsX3_setBounds ({ frames := 2, cells := 0, slots := 0, locals := 41 }) [.ref (G.2.1 1), .int p1, .int p2, .int p3] G σ sz Q := by
  refine Met.ofW (cc := cX3_setBounds) (maxL := 4) (ret := (some .int)) (by decide) rfl ?_
  intro p e s m args below meth c s₁ B hml hv
  obtain ⟨rfl, hpre⟩ := hv
  have hr := B.returns
  have hlocks := B.notSynchronized
  obtain ⟨hsz, -⟩ := id hpre
  subst hsz
  obtain ⟨E, hh⟩ := EV.ofPre (⟨B.exec, B.bytes, hml, findClass_of_methodNamed B.named, atoms_spec (ws := wsX3_setBounds) B.pre⟩ : CallFix p m c cX3_setBounds 4 s _ wsX3_setBounds RX3) hpre
  have hx := E.1.1
  have hb := E.1.2.1
  have hown := E.1.2.2.2.1
  have hts := E.1.2.2.2.2
  have h_inX3 : ∀ w ∈ wsX30, w ∈ wsX3_setBounds := (fun _ h9 => (List.mem_cons_of_mem _ (List.mem_append_right _ h9)))
  have hl := lv_entry ([.ref (G.2.1 1), .int p1, .int p2, .int p3]) (n := 4) (Nat.le_of_ble_eq_true rfl)
  rw [lg_entry_eq]
  generalize (lg_sl ([.ref (G.2.1 1), .int p1, .int p2, .int p3]) ++ List.replicate (4 - (lg_sl ([.ref (G.2.1 1), .int p1, .int p2, .int p3])).length) Slot.unset).toArray = ls at hl ⊢
  have hl : lv_has ls 4 [(0, .ref (G.2.1 1)), (1, .int p1), (2, .int p2), (3, .int p3)] := hl
  unfold f_X3_setBounds at h
  refine lv_aload_n hx hb dX3_setBounds_0 rfl (lv_at hl 0 rfl) ?_
  refine q_get (T := TX3) (v := .ref (G.2.1 10)) E hh h_inX3 1 (WW_at_1 G σ) rfl 0 (by decide) (List.mem_cons_of_mem _ (List.mem_append_left _ (List.mem_of_getElem? (i := 0) rfl))) rfl rfl dX3_setBounds_1 ?_
  refine lv_iload_n hx hb dX3_setBounds_4 rfl (lv_at hl 1 rfl) ?_
  refine lv_iload_n hx hb dX3_setBounds_5 rfl (lv_at hl 2 rfl) ?_
  refine lv_iload_n hx hb dX3_setBounds_6 rfl (lv_at hl 3 rfl) ?_
  refine lv_isub hx hb dX3_setBounds_7 ?_
  refine q_Si (As := [.int (p2 - p3)]) (rest := [.int p1, .ref (G.2.1 10)]) E hh (c_X3_within l G _ _ _ _ h) (va_cwS 1 hts gX3_setBounds_X3_within rfl rfl rfl (by decide +kernel) ⟨Nat.le_of_ble_eq_true rfl, Nat.le_of_ble_eq_true rfl⟩) rfl hl.1 rfl (Nat.le_of_ble_eq_true rfl) dX3_setBounds_8 ⟨Nat.zero_le _, Nat.zero_le _⟩ (fun r8 s8 H locs h hh => ?_)
  obtain ⟨h0, h⟩ := h
  refine q_iast E hh 10 (WW_at_10 G s8) h0 dX3_setBounds_11 (WW_sa_10 G s8 (upd (ga s8 10) p1.toNatClampNeg r8)) (fun H locs hh => ?_)
  refine lv_aload_n hx hb dX3_setBounds_12 rfl (lv_at hl 0 rfl) ?_
  refine q_get (T := TX3) (v := .ref (G.2.1 11)) E hh h_inX3 1 (WW_at_1 G (sa s8 10 (upd (ga s8 10) p1.toNatClampNeg r8))) rfl 1 (by decide) (List.mem_cons_of_mem _ (List.mem_append_left _ (List.mem_of_getElem? (i := 1) rfl))) rfl rfl dX3_setBounds_13 ?_
  refine lv_iload_n hx hb dX3_setBounds_16 rfl (lv_at hl 1 rfl) ?_
  refine lv_iload_n hx hb dX3_setBounds_17 rfl (lv_at hl 2 rfl) ?_
  refine lv_iload_n hx hb dX3_setBounds_18 rfl (lv_at hl 3 rfl) ?_
  refine lv_iadd hx hb dX3_setBounds_19 ?_
  refine q_Si (As := [.int (p2 + p3)]) (rest := [.int p1, .ref (G.2.1 11)]) E hh (c_X3_within l G _ _ _ _ h) (va_cwS 1 hts gX3_setBounds_X3_within rfl rfl rfl (by decide +kernel) ⟨Nat.le_of_ble_eq_true rfl, Nat.le_of_ble_eq_true rfl⟩) rfl hl.1 rfl (Nat.le_of_ble_eq_true rfl) dX3_setBounds_20 ⟨Nat.zero_le _, Nat.zero_le _⟩ (fun r20 s20 H locs h hh => ?_)
  obtain ⟨h0, h⟩ := h
  refine q_iast E hh 11 (WW_at_11 G s20) h0 dX3_setBounds_23 (WW_sa_11 G s20 (upd (ga s20 11) p1.toNatClampNeg r20)) (fun H locs hh => ?_)
  refine lv_aload_n hx hb dX3_setBounds_24 rfl (lv_at hl 0 rfl) ?_
  refine q_get (T := TX3) (v := .ref (G.2.1 10)) E hh h_inX3 1 (WW_at_1 G (sa s20 11 (upd (ga s20 11) p1.toNatClampNeg r20))) rfl 0 (by decide) (List.mem_cons_of_mem _ (List.mem_append_left _ (List.mem_of_getElem? (i := 0) rfl))) rfl rfl dX3_setBounds_25 ?_
  refine lv_iload_n hx hb dX3_setBounds_28 rfl (lv_at hl 1 rfl) ?_
  obtain ⟨h0, h⟩ := h
  refine q_iald E hh 10 (WW_at_10 G (sa s20 11 (upd (ga s20 11) p1.toNatClampNeg r20))) h0 dX3_setBounds_29 ?_
  exact q_iret E hh hr hlocks h dX3_setBounds_30
def f_X3_setCracked (σ : St) (p1 : Int32) (p2 : Int32) (Q : Int32 → St → Prop) : Prop :=
  (vp_in p1 144 ∧ (vp_in p1 144 ∧ (zok .boolean (ga σ 12 p1.toNatClampNeg) ∧ Q (ga σ 12 p1.toNatClampNeg) (sa σ 12 (upd (ga σ 12) p1.toNatClampNeg (vp_nar .boolean p2))))))
set_option maxHeartbeats 4000000 in
set_option maxRecDepth 100000 in
theorem c_X3_setCracked (l : Launch) (G : GG) (σ : St) (sz : Nat) (p1 : Int32) (p2 : Int32) (Q : Int32 → St → Prop) (h : f_X3_setCracked σ p1 p2 Q) : CTi l yX3_setCracked wsX3_setCracked ({ frames := 0, cells := 0, slots := 0, locals := 0 }) [.ref (G.2.1 1), .int p1, .int p2] G σ sz Q := by
  refine Met.ofW (cc := cX3_setCracked) (maxL := 4) (ret := (some .boolean)) (by decide) rfl ?_
  intro p e s m args below meth c s₁ B hml hv
  obtain ⟨rfl, hpre⟩ := hv
  have hr := B.returns
  have hlocks := B.notSynchronized
  obtain ⟨hsz, -⟩ := id hpre
  subst hsz
  obtain ⟨E, hh⟩ := EV.ofPre (⟨B.exec, B.bytes, hml, findClass_of_methodNamed B.named, atoms_spec (ws := wsX3_setCracked) B.pre⟩ : CallFix p m c cX3_setCracked 4 s _ wsX3_setCracked RX3) hpre
  have hx := E.1.1
  have hb := E.1.2.1
  have hown := E.1.2.2.2.1
  have hts := E.1.2.2.2.2
  have h_inX3 : ∀ w ∈ wsX30, w ∈ wsX3_setCracked := (fun _ h9 => (List.mem_cons_of_mem _ (List.mem_append_right _ h9)))
  have hl := lv_entry ([.ref (G.2.1 1), .int p1, .int p2]) (n := 4) (Nat.le_of_ble_eq_true rfl)
  rw [lg_entry_eq]
  generalize (lg_sl ([.ref (G.2.1 1), .int p1, .int p2]) ++ List.replicate (4 - (lg_sl ([.ref (G.2.1 1), .int p1, .int p2])).length) Slot.unset).toArray = ls at hl ⊢
  have hl : lv_has ls 4 [(0, .ref (G.2.1 1)), (1, .int p1), (2, .int p2)] := hl
  unfold f_X3_setCracked at h
  refine lv_aload_n hx hb dX3_setCracked_0 rfl (lv_at hl 0 rfl) ?_
  refine q_get (T := TX3) (v := .ref (G.2.1 12)) E hh h_inX3 1 (WW_at_1 G σ) rfl 2 (by decide) (List.mem_cons_of_mem _ (List.mem_append_left _ (List.mem_of_getElem? (i := 0) rfl))) rfl rfl dX3_setCracked_1 ?_
  refine lv_iload_n hx hb dX3_setCracked_4 rfl (lv_at hl 1 rfl) ?_
  obtain ⟨h0, h⟩ := h
  refine q_zald E hh 12 (WW_at_12 G σ) h0 dX3_setCracked_5 ?_
  refine lv_istore_n (lv' := [(3, .int (ga σ 12 p1.toNatClampNeg)), (0, .ref (G.2.1 1)), (1, .int p1), (2, .int p2)]) hx hb dX3_setCracked_6 rfl hl (by decide) rfl (fun ls hl => ?_)
  refine lv_aload_n hx hb dX3_setCracked_7 rfl (lv_at hl 1 rfl) ?_
  refine q_get (T := TX3) (v := .ref (G.2.1 12)) E hh h_inX3 1 (WW_at_1 G σ) rfl 2 (by decide) (List.mem_cons_of_mem _ (List.mem_append_left _ (List.mem_of_getElem? (i := 0) rfl))) rfl rfl dX3_setCracked_8 ?_
  refine lv_iload_n hx hb dX3_setCracked_11 rfl (lv_at hl 2 rfl) ?_
  refine lv_iload_n hx hb dX3_setCracked_12 rfl (lv_at hl 3 rfl) ?_
  obtain ⟨h0, h⟩ := h
  refine q_zast E hh 12 (WW_at_12 G σ) h0 dX3_setCracked_13 (WW_sa_12 G σ (upd (ga σ 12) p1.toNatClampNeg (vp_nar .boolean p2))) (fun H locs hh => ?_)
  refine lv_iload_n hx hb dX3_setCracked_14 rfl (lv_at hl 0 rfl) ?_
  exact q_zret (ty := .boolean) E hh hr hlocks h.1 h.2 dX3_setCracked_15
def f_X3_passHour_34 (Q : St → Prop)  (rec : St → Int32 → Int32 → Int32 → Prop) (σ : St) (l2 : Int32) (l3 : Int32) (l4 : Int32) : Prop :=
  (((144 : Int32) ≤ l4 → Q σ) ∧ (¬ (144 : Int32) ≤ l4 → (vp_in l4 144 ∧ f_X3_within σ ((ga σ 10 l4.toNatClampNeg) + l2) (fun r57 s57 => (vp_in l4 144 ∧ (vp_in l4 144 ∧ f_X3_within (sa s57 10 (upd (ga s57 10) l4.toNatClampNeg r57)) ((ga (sa s57 10 (upd (ga s57 10) l4.toNatClampNeg r57)) 11 l4.toNatClampNeg) + l3) (fun r76 s76 => (vp_in l4 144 ∧ rec (sa s76 11 (upd (ga s76 11) l4.toNatClampNeg r76)) l2 l3 (l4 + 1)))))))))
def f_X3_passHour_34L (Q : St → Prop)  : Nat → St → Int32 → Int32 → Int32 → Prop
  | 0, _, _, _, _ => False
  | n + 1, σ, l2, l3, l4 => f_X3_passHour_34 Q  (f_X3_passHour_34L Q  n) σ l2 l3 l4
set_option maxHeartbeats 4000000 in
set_option maxRecDepth 100000 in
theorem w_X3_passHour_34 {p : Program} {l : Launch} {e : Env} {s : State} {m : MethodId} {args : Array Value} {below : List Frame} {meth : Method} {c : Code} {G : GG} (E : EV p s m args c cX3_passHour 5 wsX3_passHour RX3 G (AD G s.heap.size)) (hr : meth.sig.returnType = none) (hlocks : meth.locks = false) {Q : St → Prop}  : ∀ (n : Nat) (σ : St) (l2 : Int32) (l3 : Int32) (l4 : Int32) (H : Heap) (locs : List Loc) (ls : Array Slot), f_X3_passHour_34L Q  n σ l2 l3 l4 → HH G (AD G s.heap.size) s σ H locs → lv_has ls 5 [(0, .ref (G.2.1 1)), (2, .int l2), (3, .int l3), (4, .int l4)] → W p l e ({ frames := 2, cells := 0, slots := 0, locals := 41 }) s m args below meth c H locs 0 0 (MQv below G args s Q) (F0 m 34 ls []) := by
  have hx := E.1.1
  have hb := E.1.2.1
  have hown := E.1.2.2.2.1
  have hts := E.1.2.2.2.2
  have h_inX3 : ∀ w ∈ wsX30, w ∈ wsX3_passHour := (fun _ h9 => (List.mem_cons_of_mem _ (List.mem_append_right _ h9)))
  intro n
  induction n with
  | zero =>
    intro σ l2 l3 l4 H locs ls h
    exact h.elim
  | succ n ih =>
    intro σ l2 l3 l4 H locs ls h hh hl
    have h : f_X3_passHour_34 Q  (f_X3_passHour_34L Q  n) σ l2 l3 l4 := h
    unfold f_X3_passHour_34 at h
    refine lv_iload hx hb dX3_passHour_34 (lv_at hl 3 rfl) ?_
    refine lv_sipush (v := (144 : Int32)) hx hb dX3_passHour_36 (by decide) ?_
    refine lv_icmp_ge (tgt := 86) hx hb dX3_passHour_39 (by decide) (fun c9 => ?_) (fun c9 => ?_)
    · have h := h.1 c9
      exact q_vret E hh hr hlocks h dX3_passHour_86
    · have h := h.2 c9
      refine lv_aload_n hx hb dX3_passHour_42 rfl (lv_at hl 0 rfl) ?_
      refine q_get (T := TX3) (v := .ref (G.2.1 10)) E hh h_inX3 1 (WW_at_1 G σ) rfl 0 (by decide) (List.mem_cons_of_mem _ (List.mem_append_left _ (List.mem_of_getElem? (i := 0) rfl))) rfl rfl dX3_passHour_43 ?_
      refine lv_iload hx hb dX3_passHour_46 (lv_at hl 3 rfl) ?_
      refine lv_aload_n hx hb dX3_passHour_48 rfl (lv_at hl 0 rfl) ?_
      refine q_get (T := TX3) (v := .ref (G.2.1 10)) E hh h_inX3 1 (WW_at_1 G σ) rfl 0 (by decide) (List.mem_cons_of_mem _ (List.mem_append_left _ (List.mem_of_getElem? (i := 0) rfl))) rfl rfl dX3_passHour_49 ?_
      refine lv_iload hx hb dX3_passHour_52 (lv_at hl 3 rfl) ?_
      obtain ⟨h0, h⟩ := h
      refine q_iald E hh 10 (WW_at_10 G σ) h0 dX3_passHour_54 ?_
      refine lv_iload_n hx hb dX3_passHour_55 rfl (lv_at hl 1 rfl) ?_
      refine lv_iadd hx hb dX3_passHour_56 ?_
      refine q_Si (As := [.int ((ga σ 10 l4.toNatClampNeg) + l2)]) (rest := [.int l4, .ref (G.2.1 10)]) E hh (c_X3_within l G _ _ _ _ h) (va_cwS 1 hts gX3_passHour_X3_within rfl rfl rfl (by decide +kernel) ⟨Nat.le_of_ble_eq_true rfl, Nat.le_of_ble_eq_true rfl⟩) rfl hl.1 rfl (Nat.le_of_ble_eq_true rfl) dX3_passHour_57 ⟨Nat.zero_le _, Nat.zero_le _⟩ (fun r57 s57 H locs h hh => ?_)
      obtain ⟨h0, h⟩ := h
      refine q_iast E hh 10 (WW_at_10 G s57) h0 dX3_passHour_60 (WW_sa_10 G s57 (upd (ga s57 10) l4.toNatClampNeg r57)) (fun H locs hh => ?_)
      refine lv_aload_n hx hb dX3_passHour_61 rfl (lv_at hl 0 rfl) ?_
      refine q_get (T := TX3) (v := .ref (G.2.1 11)) E hh h_inX3 1 (WW_at_1 G (sa s57 10 (upd (ga s57 10) l4.toNatClampNeg r57))) rfl 1 (by decide) (List.mem_cons_of_mem _ (List.mem_append_left _ (List.mem_of_getElem? (i := 1) rfl))) rfl rfl dX3_passHour_62 ?_
      refine lv_iload hx hb dX3_passHour_65 (lv_at hl 3 rfl) ?_
      refine lv_aload_n hx hb dX3_passHour_67 rfl (lv_at hl 0 rfl) ?_
      refine q_get (T := TX3) (v := .ref (G.2.1 11)) E hh h_inX3 1 (WW_at_1 G (sa s57 10 (upd (ga s57 10) l4.toNatClampNeg r57))) rfl 1 (by decide) (List.mem_cons_of_mem _ (List.mem_append_left _ (List.mem_of_getElem? (i := 1) rfl))) rfl rfl dX3_passHour_68 ?_
      refine lv_iload hx hb dX3_passHour_71 (lv_at hl 3 rfl) ?_
      obtain ⟨h0, h⟩ := h
      refine q_iald E hh 11 (WW_at_11 G (sa s57 10 (upd (ga s57 10) l4.toNatClampNeg r57))) h0 dX3_passHour_73 ?_
      refine lv_iload_n hx hb dX3_passHour_74 rfl (lv_at hl 2 rfl) ?_
      refine lv_iadd hx hb dX3_passHour_75 ?_
      refine q_Si (As := [.int ((ga (sa s57 10 (upd (ga s57 10) l4.toNatClampNeg r57)) 11 l4.toNatClampNeg) + l3)]) (rest := [.int l4, .ref (G.2.1 11)]) E hh (c_X3_within l G _ _ _ _ h) (va_cwS 1 hts gX3_passHour_X3_within rfl rfl rfl (by decide +kernel) ⟨Nat.le_of_ble_eq_true rfl, Nat.le_of_ble_eq_true rfl⟩) rfl hl.1 rfl (Nat.le_of_ble_eq_true rfl) dX3_passHour_76 ⟨Nat.zero_le _, Nat.zero_le _⟩ (fun r76 s76 H locs h hh => ?_)
      obtain ⟨h0, h⟩ := h
      refine q_iast E hh 11 (WW_at_11 G s76) h0 dX3_passHour_79 (WW_sa_11 G s76 (upd (ga s76 11) l4.toNatClampNeg r76)) (fun H locs hh => ?_)
      refine lv_iinc (v := (l4 + 1)) (lv' := [(4, .int (l4 + 1)), (0, .ref (G.2.1 1)), (2, .int l2), (3, .int l3)]) hx hb dX3_passHour_80 hl (k := 3) rfl rfl (by decide) rfl (fun ls hl => ?_)
      refine lv_goto (tgt := 34) hx hb dX3_passHour_83 (by decide) ?_
      exact ih _ _ _ _ _ _ _ h hh (lv_sub hl [1, 2, 3, 0] rfl)
def f_X3_passHour_15 (Q : St → Prop)  (σ : St) (l1 : Int32) (t0 : Int32) : Prop :=
  ((0 ≤ l1 → f_X3_passHour_34L Q FU σ t0 (-l1) (0 : Int32)) ∧ (¬ 0 ≤ l1 → f_X3_passHour_34L Q FU σ t0 (((3 : Int32) - l1) / (4 : Int32)) (0 : Int32)))
set_option maxHeartbeats 4000000 in
set_option maxRecDepth 100000 in
theorem w_X3_passHour_15 {p : Program} {l : Launch} {e : Env} {s : State} {m : MethodId} {args : Array Value} {below : List Frame} {meth : Method} {c : Code} {G : GG} (E : EV p s m args c cX3_passHour 5 wsX3_passHour RX3 G (AD G s.heap.size)) (hr : meth.sig.returnType = none) (hlocks : meth.locks = false) {Q : St → Prop}  : ∀ (σ : St) (l1 : Int32) (t0 : Int32) (H : Heap) (locs : List Loc) (ls : Array Slot), f_X3_passHour_15 Q  σ l1 t0 → HH G (AD G s.heap.size) s σ H locs → lv_has ls 5 [(0, .ref (G.2.1 1)), (1, .int l1)] → W p l e ({ frames := 2, cells := 0, slots := 0, locals := 41 }) s m args below meth c H locs 0 0 (MQv below G args s Q) (F0 m 15 ls [.int t0]) := by
  have hx := E.1.1
  have hb := E.1.2.1
  have hown := E.1.2.2.2.1
  have hts := E.1.2.2.2.2
  have h_inX3 : ∀ w ∈ wsX30, w ∈ wsX3_passHour := (fun _ h9 => (List.mem_cons_of_mem _ (List.mem_append_right _ h9)))
  intro σ l1 t0 H locs ls h hh hl
  unfold f_X3_passHour_15 at h
  refine lv_istore_n (lv' := [(2, .int t0), (0, .ref (G.2.1 1)), (1, .int l1)]) hx hb dX3_passHour_15 rfl hl (by decide) rfl (fun ls hl => ?_)
  refine lv_iload_n hx hb dX3_passHour_16 rfl (lv_at hl 2 rfl) ?_
  refine lv_if_ge (tgt := 28) hx hb dX3_passHour_17 (by decide) (fun c9 => ?_) (fun c9 => ?_)
  · have h := h.1 c9
    refine lv_iload_n hx hb dX3_passHour_28 rfl (lv_at hl 2 rfl) ?_
    refine lv_ineg hx hb dX3_passHour_29 ?_
    refine lv_istore_n (lv' := [(3, .int (-l1)), (2, .int t0), (0, .ref (G.2.1 1)), (1, .int l1)]) hx hb dX3_passHour_30 rfl hl (by decide) rfl (fun ls hl => ?_)
    refine lv_iconst (v := (0 : Int32)) hx hb dX3_passHour_31 (by decide) ?_
    refine lv_istore (lv' := [(4, .int (0 : Int32)), (3, .int (-l1)), (2, .int t0), (0, .ref (G.2.1 1)), (1, .int l1)]) hx hb dX3_passHour_32 hl (by decide) rfl (fun ls hl => ?_)
    exact w_X3_passHour_34 E hr hlocks  FU _ _ _ _ _ _ _ h hh (lv_sub hl [3, 2, 1, 0] rfl)
  · have h := h.2 c9
    refine lv_iconst (v := (3 : Int32)) hx hb dX3_passHour_20 (by decide) ?_
    refine lv_iload_n hx hb dX3_passHour_21 rfl (lv_at hl 2 rfl) ?_
    refine lv_isub hx hb dX3_passHour_22 ?_
    refine lv_iconst (v := (4 : Int32)) hx hb dX3_passHour_23 (by decide) ?_
    refine lv_idiv hx hb dX3_passHour_24 (by decide) ?_
    refine lv_goto (tgt := 30) hx hb dX3_passHour_25 (by decide) ?_
    refine lv_istore_n (lv' := [(3, .int (((3 : Int32) - l1) / (4 : Int32))), (2, .int t0), (0, .ref (G.2.1 1)), (1, .int l1)]) hx hb dX3_passHour_30 rfl hl (by decide) rfl (fun ls hl => ?_)
    refine lv_iconst (v := (0 : Int32)) hx hb dX3_passHour_31 (by decide) ?_
    refine lv_istore (lv' := [(4, .int (0 : Int32)), (3, .int (((3 : Int32) - l1) / (4 : Int32))), (2, .int t0), (0, .ref (G.2.1 1)), (1, .int l1)]) hx hb dX3_passHour_32 hl (by decide) rfl (fun ls hl => ?_)
    exact w_X3_passHour_34 E hr hlocks  FU _ _ _ _ _ _ _ h hh (lv_sub hl [3, 2, 1, 0] rfl)
def f_X3_passHour (σ : St) (p1 : Int32) (Q : St → Prop) : Prop :=
  ((0 ≤ p1 → f_X3_passHour_15 Q σ p1 ((-3 : Int32) * p1)) ∧ (¬ 0 ≤ p1 → f_X3_passHour_15 Q σ p1 ((-p1) / (4 : Int32))))
set_option maxHeartbeats 4000000 in
set_option maxRecDepth 100000 in
theorem c_X3_passHour (l : Launch) (G : GG) (σ : St) (sz : Nat) (p1 : Int32) (Q : St → Prop) (h : f_X3_passHour σ p1 Q) : CTv l yX3_passHour wsX3_passHour ({ frames := 2, cells := 0, slots := 0, locals := 41 }) [.ref (G.2.1 1), .int p1] G σ sz Q := by
  refine Met.ofW (cc := cX3_passHour) (maxL := 5) (ret := none) (by decide) rfl ?_
  intro p e s m args below meth c s₁ B hml hv
  obtain ⟨rfl, hpre⟩ := hv
  have hr := B.returns
  have hlocks := B.notSynchronized
  obtain ⟨hsz, -⟩ := id hpre
  subst hsz
  obtain ⟨E, hh⟩ := EV.ofPre (⟨B.exec, B.bytes, hml, findClass_of_methodNamed B.named, atoms_spec (ws := wsX3_passHour) B.pre⟩ : CallFix p m c cX3_passHour 5 s _ wsX3_passHour RX3) hpre
  have hx := E.1.1
  have hb := E.1.2.1
  have hown := E.1.2.2.2.1
  have hts := E.1.2.2.2.2
  have h_inX3 : ∀ w ∈ wsX30, w ∈ wsX3_passHour := (fun _ h9 => (List.mem_cons_of_mem _ (List.mem_append_right _ h9)))
  have hl := lv_entry ([.ref (G.2.1 1), .int p1]) (n := 5) (Nat.le_of_ble_eq_true rfl)
  rw [lg_entry_eq]
  generalize (lg_sl ([.ref (G.2.1 1), .int p1]) ++ List.replicate (5 - (lg_sl ([.ref (G.2.1 1), .int p1])).length) Slot.unset).toArray = ls at hl ⊢
  have hl : lv_has ls 5 [(0, .ref (G.2.1 1)), (1, .int p1)] := hl
  unfold f_X3_passHour at h
  refine lv_iload_n hx hb dX3_passHour_0 rfl (lv_at hl 1 rfl) ?_
  refine lv_if_ge (tgt := 11) hx hb dX3_passHour_1 (by decide) (fun c9 => ?_) (fun c9 => ?_)
  · have h := h.1 c9
    refine lv_bipush (v := (-3 : Int32)) hx hb dX3_passHour_11 (by decide) ?_
    refine lv_iload_n hx hb dX3_passHour_13 rfl (lv_at hl 1 rfl) ?_
    refine lv_imul hx hb dX3_passHour_14 ?_
    exact w_X3_passHour_15 E hr hlocks  _ _ _ _ _ _ h hh (lv_sub hl [0, 1] rfl)
  · have h := h.2 c9
    refine lv_iload_n hx hb dX3_passHour_4 rfl (lv_at hl 1 rfl) ?_
    refine lv_ineg hx hb dX3_passHour_5 ?_
    refine lv_iconst (v := (4 : Int32)) hx hb dX3_passHour_6 (by decide) ?_
    refine lv_idiv hx hb dX3_passHour_7 (by decide) ?_
    refine lv_goto (tgt := 15) hx hb dX3_passHour_8 (by decide) ?_
    exact w_X3_passHour_15 E hr hlocks  _ _ _ _ _ _ h hh (lv_sub hl [0, 1] rfl)
def f_X3_safeCells_4 (Q : Int32 → St → Prop)  (rec : St → Int32 → Int32 → Int32 → Prop) (σ : St) (l1 : Int32) (l2 : Int32) (l3 : Int32) : Prop :=
  (((144 : Int32) ≤ l3 → Q l2 σ) ∧ (¬ (144 : Int32) ≤ l3 → f_X3_isSafe σ l3 l1 (fun r14 s14 => ((r14 = 0 → rec s14 l1 l2 (l3 + 1)) ∧ (¬ r14 = 0 → rec s14 l1 (l2 + 1) (l3 + 1))))))
def f_X3_safeCells_4L (Q : Int32 → St → Prop)  : Nat → St → Int32 → Int32 → Int32 → Prop
  | 0, _, _, _, _ => False
  | n + 1, σ, l1, l2, l3 => f_X3_safeCells_4 Q  (f_X3_safeCells_4L Q  n) σ l1 l2 l3
set_option maxHeartbeats 4000000 in
set_option maxRecDepth 100000 in
theorem w_X3_safeCells_4 {p : Program} {l : Launch} {e : Env} {s : State} {m : MethodId} {args : Array Value} {below : List Frame} {meth : Method} {c : Code} {G : GG} (E : EV p s m args c cX3_safeCells 4 wsX3_safeCells RX3 G (AD G s.heap.size)) (hr : meth.sig.returnType = (some .int)) (hlocks : meth.locks = false) {Q : Int32 → St → Prop}  : ∀ (n : Nat) (σ : St) (l1 : Int32) (l2 : Int32) (l3 : Int32) (H : Heap) (locs : List Loc) (ls : Array Slot), f_X3_safeCells_4L Q  n σ l1 l2 l3 → HH G (AD G s.heap.size) s σ H locs → lv_has ls 4 [(0, .ref (G.2.1 1)), (1, .int l1), (2, .int l2), (3, .int l3)] → W p l e ({ frames := 2, cells := 0, slots := 0, locals := 42 }) s m args below meth c H locs 0 0 (MQi below G args s Q) (F0 m 4 ls []) := by
  have hx := E.1.1
  have hb := E.1.2.1
  have hown := E.1.2.2.2.1
  have hts := E.1.2.2.2.2
  intro n
  induction n with
  | zero =>
    intro σ l1 l2 l3 H locs ls h
    exact h.elim
  | succ n ih =>
    intro σ l1 l2 l3 H locs ls h hh hl
    have h : f_X3_safeCells_4 Q  (f_X3_safeCells_4L Q  n) σ l1 l2 l3 := h
    unfold f_X3_safeCells_4 at h
    refine lv_iload_n hx hb dX3_safeCells_4 rfl (lv_at hl 3 rfl) ?_
    refine lv_sipush (v := (144 : Int32)) hx hb dX3_safeCells_5 (by decide) ?_
    refine lv_icmp_ge (tgt := 29) hx hb dX3_safeCells_8 (by decide) (fun c9 => ?_) (fun c9 => ?_)
    · have h := h.1 c9
      refine lv_iload_n hx hb dX3_safeCells_29 rfl (lv_at hl 2 rfl) ?_
      exact q_iret E hh hr hlocks h dX3_safeCells_30
    · have h := h.2 c9
      refine lv_aload_n hx hb dX3_safeCells_11 rfl (lv_at hl 0 rfl) ?_
      refine lv_iload_n hx hb dX3_safeCells_12 rfl (lv_at hl 3 rfl) ?_
      refine lv_iload_n hx hb dX3_safeCells_13 rfl (lv_at hl 1 rfl) ?_
      refine q_Vi (As := [.int l3, .int l1]) (rest := []) E hh (c_X3_isSafe l G _ _ _ _ _ h) (cwV 2 hts gX3_safeCells_X3_isSafe rfl rfl rfl (by decide +kernel) ⟨Nat.le_of_ble_eq_true rfl, Nat.le_of_ble_eq_true rfl⟩) (va_recv (ci := 3) E.2.1 hh.1 rfl (WW_at_1 G σ)) rfl hl.1 rfl (Nat.le_of_ble_eq_true rfl) dX3_safeCells_14 ⟨Nat.zero_le _, Nat.zero_le _⟩ (fun r14 s14 H locs h hh => ?_)
      refine lv_if_eq (tgt := 23) hx hb dX3_safeCells_17 (by decide) (fun c9 => ?_) (fun c9 => ?_)
      · have h := h.1 c9
        refine lv_iinc (v := (l3 + 1)) (lv' := [(3, .int (l3 + 1)), (0, .ref (G.2.1 1)), (1, .int l1), (2, .int l2)]) hx hb dX3_safeCells_23 hl (k := 3) rfl rfl (by decide) rfl (fun ls hl => ?_)
        refine lv_goto (tgt := 4) hx hb dX3_safeCells_26 (by decide) ?_
        exact ih _ _ _ _ _ _ _ h hh (lv_sub hl [1, 2, 3, 0] rfl)
      · have h := h.2 c9
        refine lv_iinc (v := (l2 + 1)) (lv' := [(2, .int (l2 + 1)), (0, .ref (G.2.1 1)), (1, .int l1), (3, .int l3)]) hx hb dX3_safeCells_20 hl (k := 2) rfl rfl (by decide) rfl (fun ls hl => ?_)
        refine lv_iinc (v := (l3 + 1)) (lv' := [(3, .int (l3 + 1)), (2, .int (l2 + 1)), (0, .ref (G.2.1 1)), (1, .int l1)]) hx hb dX3_safeCells_23 hl (k := 3) rfl rfl (by decide) rfl (fun ls hl => ?_)
        refine lv_goto (tgt := 4) hx hb dX3_safeCells_26 (by decide) ?_
        exact ih _ _ _ _ _ _ _ h hh (lv_sub hl [2, 3, 1, 0] rfl)
def f_X3_safeCells (σ : St) (p1 : Int32) (Q : Int32 → St → Prop) : Prop :=
  f_X3_safeCells_4L Q FU σ p1 (0 : Int32) (0 : Int32)
set_option maxHeartbeats 4000000 in
set_option maxRecDepth 100000 in
theorem c_X3_safeCells (l : Launch) (G : GG) (σ : St) (sz : Nat) (p1 : Int32) (Q : Int32 → St → Prop) (h : f_X3_safeCells σ p1 Q) : CTi l yX3_safeCells wsX3_safeCells ({ frames := 2, cells := 0, slots := 0, locals := 42 }) [.ref (G.2.1 1), .int p1] G σ sz Q := by
  refine Met.ofW (cc := cX3_safeCells) (maxL := 4) (ret := (some .int)) (by decide) rfl ?_
  intro p e s m args below meth c s₁ B hml hv
  obtain ⟨rfl, hpre⟩ := hv
  have hr := B.returns
  have hlocks := B.notSynchronized
  obtain ⟨hsz, -⟩ := id hpre
  subst hsz
  obtain ⟨E, hh⟩ := EV.ofPre (⟨B.exec, B.bytes, hml, findClass_of_methodNamed B.named, atoms_spec (ws := wsX3_safeCells) B.pre⟩ : CallFix p m c cX3_safeCells 4 s _ wsX3_safeCells RX3) hpre
  have hx := E.1.1
  have hb := E.1.2.1
  have hown := E.1.2.2.2.1
  have hts := E.1.2.2.2.2
  have hl := lv_entry ([.ref (G.2.1 1), .int p1]) (n := 4) (Nat.le_of_ble_eq_true rfl)
  rw [lg_entry_eq]
  generalize (lg_sl ([.ref (G.2.1 1), .int p1]) ++ List.replicate (4 - (lg_sl ([.ref (G.2.1 1), .int p1])).length) Slot.unset).toArray = ls at hl ⊢
  have hl : lv_has ls 4 [(0, .ref (G.2.1 1)), (1, .int p1)] := hl
  unfold f_X3_safeCells at h
  refine lv_iconst (v := (0 : Int32)) hx hb dX3_safeCells_0 (by decide) ?_
  refine lv_istore_n (lv' := [(2, .int (0 : Int32)), (0, .ref (G.2.1 1)), (1, .int p1)]) hx hb dX3_safeCells_1 rfl hl (by decide) rfl (fun ls hl => ?_)
  refine lv_iconst (v := (0 : Int32)) hx hb dX3_safeCells_2 (by decide) ?_
  refine lv_istore_n (lv' := [(3, .int (0 : Int32)), (2, .int (0 : Int32)), (0, .ref (G.2.1 1)), (1, .int p1)]) hx hb dX3_safeCells_3 rfl hl (by decide) rfl (fun ls hl => ?_)
  exact w_X3_safeCells_4 E hr hlocks  FU _ _ _ _ _ _ _ h hh (lv_sub hl [2, 3, 1, 0] rfl)
def f_X3_safeHours (σ : St) (p1 : Int32) (p2 : Int32) (p3 : Int32) (Q : Int32 → St → Prop) : Prop :=
  f_X3_isSafe σ p1 p3 (fun r3 s3 => ((¬ r3 = 0 → ((p2 ≤ 0 → Q (-1 : Int32) s3) ∧ (¬ p2 ≤ 0 → ((0 < p3 → (vp_in p1 144 ∧ (¬ ((3 : Int32) * p2) = 0 ∧ Q (((ga s3 10 p1.toNatClampNeg) - p3) / ((3 : Int32) * p2)) s3))) ∧ (¬ 0 < p3 → Q (-1 : Int32) s3))))) ∧ (r3 = 0 → Q (0 : Int32) s3)))
set_option maxHeartbeats 4000000 in
set_option maxRecDepth 100000 in
theorem c_X3_safeHours (l : Launch) (G : GG) (σ : St) (sz : Nat) (p1 : Int32) (p2 : Int32) (p3 : Int32) (Q : Int32 → St → Prop) (h : f_X3_safeHours σ p1 p2 p3 Q) : CTi l yX3_safeHours wsX3_safeHours ({ frames := 2, cells := 0, slots := 0, locals := 42 }) [.ref (G.2.1 1), .int p1, .int p2, .int p3] G σ sz Q := by
  refine Met.ofW (cc := cX3_safeHours) (maxL := 4) (ret := (some .int)) (by decide) rfl ?_
  intro p e s m args below meth c s₁ B hml hv
  obtain ⟨rfl, hpre⟩ := hv
  have hr := B.returns
  have hlocks := B.notSynchronized
  obtain ⟨hsz, -⟩ := id hpre
  subst hsz
  obtain ⟨E, hh⟩ := EV.ofPre (⟨B.exec, B.bytes, hml, findClass_of_methodNamed B.named, atoms_spec (ws := wsX3_safeHours) B.pre⟩ : CallFix p m c cX3_safeHours 4 s _ wsX3_safeHours RX3) hpre
  have hx := E.1.1
  have hb := E.1.2.1
  have hown := E.1.2.2.2.1
  have hts := E.1.2.2.2.2
  have h_inX3 : ∀ w ∈ wsX30, w ∈ wsX3_safeHours := (fun _ h9 => (List.mem_cons_of_mem _ (List.mem_append_right _ h9)))
  have hl := lv_entry ([.ref (G.2.1 1), .int p1, .int p2, .int p3]) (n := 4) (Nat.le_of_ble_eq_true rfl)
  rw [lg_entry_eq]
  generalize (lg_sl ([.ref (G.2.1 1), .int p1, .int p2, .int p3]) ++ List.replicate (4 - (lg_sl ([.ref (G.2.1 1), .int p1, .int p2, .int p3])).length) Slot.unset).toArray = ls at hl ⊢
  have hl : lv_has ls 4 [(0, .ref (G.2.1 1)), (1, .int p1), (2, .int p2), (3, .int p3)] := hl
  unfold f_X3_safeHours at h
  refine lv_aload_n hx hb dX3_safeHours_0 rfl (lv_at hl 0 rfl) ?_
  refine lv_iload_n hx hb dX3_safeHours_1 rfl (lv_at hl 1 rfl) ?_
  refine lv_iload_n hx hb dX3_safeHours_2 rfl (lv_at hl 3 rfl) ?_
  refine q_Vi (As := [.int p1, .int p3]) (rest := []) E hh (c_X3_isSafe l G _ _ _ _ _ h) (cwV 2 hts gX3_safeHours_X3_isSafe rfl rfl rfl (by decide +kernel) ⟨Nat.le_of_ble_eq_true rfl, Nat.le_of_ble_eq_true rfl⟩) (va_recv (ci := 3) E.2.1 hh.1 rfl (WW_at_1 G σ)) rfl hl.1 rfl (Nat.le_of_ble_eq_true rfl) dX3_safeHours_3 ⟨Nat.zero_le _, Nat.zero_le _⟩ (fun r3 s3 H locs h hh => ?_)
  refine lv_if_ne (tgt := 11) hx hb dX3_safeHours_6 (by decide) (fun c9 => ?_) (fun c9 => ?_)
  · have h := h.1 c9
    refine lv_iload_n hx hb dX3_safeHours_11 rfl (lv_at hl 2 rfl) ?_
    refine lv_if_le (tgt := 19) hx hb dX3_safeHours_12 (by decide) (fun c9 => ?_) (fun c9 => ?_)
    · have h := h.1 c9
      refine lv_iconst (v := (-1 : Int32)) hx hb dX3_safeHours_19 (by decide) ?_
      exact q_iret E hh hr hlocks h dX3_safeHours_20
    · have h := h.2 c9
      refine lv_iload_n hx hb dX3_safeHours_15 rfl (lv_at hl 3 rfl) ?_
      refine lv_if_gt (tgt := 21) hx hb dX3_safeHours_16 (by decide) (fun c9 => ?_) (fun c9 => ?_)
      · have h := h.1 c9
        refine lv_aload_n hx hb dX3_safeHours_21 rfl (lv_at hl 0 rfl) ?_
        refine q_get (T := TX3) (v := .ref (G.2.1 10)) E hh h_inX3 1 (WW_at_1 G s3) rfl 0 (by decide) (List.mem_cons_of_mem _ (List.mem_append_left _ (List.mem_of_getElem? (i := 0) rfl))) rfl rfl dX3_safeHours_22 ?_
        refine lv_iload_n hx hb dX3_safeHours_25 rfl (lv_at hl 1 rfl) ?_
        obtain ⟨h0, h⟩ := h
        refine q_iald E hh 10 (WW_at_10 G s3) h0 dX3_safeHours_26 ?_
        refine lv_iload_n hx hb dX3_safeHours_27 rfl (lv_at hl 3 rfl) ?_
        refine lv_isub hx hb dX3_safeHours_28 ?_
        refine lv_iconst (v := (3 : Int32)) hx hb dX3_safeHours_29 (by decide) ?_
        refine lv_iload_n hx hb dX3_safeHours_30 rfl (lv_at hl 2 rfl) ?_
        refine lv_imul hx hb dX3_safeHours_31 ?_
        obtain ⟨h0, h⟩ := h
        refine lv_idiv hx hb dX3_safeHours_32 h0 ?_
        exact q_iret E hh hr hlocks h dX3_safeHours_33
      · have h := h.2 c9
        refine lv_iconst (v := (-1 : Int32)) hx hb dX3_safeHours_19 (by decide) ?_
        exact q_iret E hh hr hlocks h dX3_safeHours_20
  · have h := h.2 c9
    refine lv_iconst (v := (0 : Int32)) hx hb dX3_safeHours_9 (by decide) ?_
    exact q_iret E hh hr hlocks h dX3_safeHours_10
