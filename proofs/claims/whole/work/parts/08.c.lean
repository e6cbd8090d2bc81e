def f_X0_put (σ : St) (p1 : Int32) (p2 : Int32) (p3 : Int32) (p4 : Int32) (Q : St → Prop) : Prop :=
  (vp_in p1 16 ∧ (vp_in p1 16 ∧ (vp_in p1 16 ∧ Q (sa (sa (sa σ 16 (upd (ga σ 16) p1.toNatClampNeg p2)) 17 (upd (ga (sa σ 16 (upd (ga σ 16) p1.toNatClampNeg p2)) 17) p1.toNatClampNeg p3)) 18 (upd (ga (sa (sa σ 16 (upd (ga σ 16) p1.toNatClampNeg p2)) 17 (upd (ga (sa σ 16 (upd (ga σ 16) p1.toNatClampNeg p2)) 17) p1.toNatClampNeg p3)) 18) p1.toNatClampNeg p4)))))
set_option maxHeartbeats 4000000 in
set_option maxRecDepth 100000 in
theorem c_X0_put (l : Launch) (G : GG) (σ : St) (sz : Nat) (p1 : Int32) (p2 : Int32) (p3 : Int32) (p4 : Int32) (Q : St → Prop) (h : f_X0_put σ p1 p2 p3 p4 Q) : CTv l yX0_put wsX0_put ({ frames := 0, cells := 0, slots := 0, locals := 0 }) [.ref (G.2.1 6), .int p1, .int p2, .int p3, .int p4] G σ sz Q := by
  refine Met.ofW (cc := cX0_put) (maxL := 5) (ret := none) (by decide) rfl ?_
  intro p e s m args below meth c s₁ B hml hv
  obtain ⟨rfl, hpre⟩ := hv
  have hr := B.returns
  have hlocks := B.notSynchronized
  obtain ⟨hsz, -⟩ := id hpre
  subst hsz
  obtain ⟨E, hh⟩ := EV.ofPre (⟨B.exec, B.bytes, hml, findClass_of_methodNamed B.named, atoms_spec (ws := wsX0_put) B.pre⟩ : CallFix p m c cX0_put 5 s _ wsX0_put RX0) hpre
  have hx := E.1.1
  have hb := E.1.2.1
  have hown := E.1.2.2.2.1
  have hts := E.1.2.2.2.2
  have h_inX0 : ∀ w ∈ wsX00, w ∈ wsX0_put := (fun _ h9 => (List.mem_cons_of_mem _ (List.mem_append_right _ h9)))
  have hl := lv_entry ([.ref (G.2.1 6), .int p1, .int p2, .int p3, .int p4]) (n := 5) (Nat.le_of_ble_eq_true rfl)
  rw [lg_entry_eq]
  generalize (lg_sl ([.ref (G.2.1 6), .int p1, .int p2, .int p3, .int p4]) ++ List.replicate (5 - (lg_sl ([.ref (G.2.1 6), .int p1, .int p2, .int p3, .int p4])).length) Slot.unset).toArray = ls at hl ⊢
  have hl : lv_has ls 5 [(0, .ref (G.2.1 6)), (1, .int p1), (2, .int p2), (3, .int p3), (4, .int p4)] := hl
  unfold f_X0_put at h
  refine lv_aload_n hx hb dX0_put_0 rfl (lv_at hl 0 rfl) ?_
  refine q_get (T := TX0) (v := .ref (G.2.1 16)) E hh h_inX0 6 (WW_at_6 G σ) rfl 0 (by decide) (List.mem_cons_of_mem _ (List.mem_append_left _ (List.mem_of_getElem? (i := 0) rfl))) rfl rfl dX0_put_1 ?_
  refine lv_iload_n hx hb dX0_put_4 rfl (lv_at hl 1 rfl) ?_
  refine lv_iload_n hx hb dX0_put_5 rfl (lv_at hl 2 rfl) ?_
  obtain ⟨h0, h⟩ := h
  refine q_iast E hh 16 (WW_at_16 G σ) h0 dX0_put_6 (WW_sa_16 G σ (upd (ga σ 16) p1.toNatClampNeg p2)) (fun H locs hh => ?_)
  refine lv_aload_n hx hb dX0_put_7 rfl (lv_at hl 0 rfl) ?_
  refine q_get (T := TX0) (v := .ref (G.2.1 17)) E hh h_inX0 6 (WW_at_6 G (sa σ 16 (upd (ga σ 16) p1.toNatClampNeg p2))) rfl 1 (by decide) (List.mem_cons_of_mem _ (List.mem_append_left _ (List.mem_of_getElem? (i := 1) rfl))) rfl rfl dX0_put_8 ?_
  refine lv_iload_n hx hb dX0_put_11 rfl (lv_at hl 1 rfl) ?_
  refine lv_iload_n hx hb dX0_put_12 rfl (lv_at hl 3 rfl) ?_
  obtain ⟨h0, h⟩ := h
  refine q_iast E hh 17 (WW_at_17 G (sa σ 16 (upd (ga σ 16) p1.toNatClampNeg p2))) h0 dX0_put_13 (WW_sa_17 G (sa σ 16 (upd (ga σ 16) p1.toNatClampNeg p2)) (upd (ga (sa σ 16 (upd (ga σ 16) p1.toNatClampNeg p2)) 17) p1.toNatClampNeg p3)) (fun H locs hh => ?_)
  refine lv_aload_n hx hb dX0_put_14 rfl (lv_at hl 0 rfl) ?_
  refine q_get (T := TX0) (v := .ref (G.2.1 18)) E hh h_inX0 6 (WW_at_6 G (sa (sa σ 16 (upd (ga σ 16) p1.toNatClampNeg p2)) 17 (upd (ga (sa σ 16 (upd (ga σ 16) p1.toNatClampNeg p2)) 17) p1.toNatClampNeg p3))) rfl 2 (by decide) (List.mem_cons_of_mem _ (List.mem_append_left _ (List.mem_of_getElem? (i := 2) rfl))) rfl rfl dX0_put_15 ?_
  refine lv_iload_n hx hb dX0_put_18 rfl (lv_at hl 1 rfl) ?_
  refine lv_iload hx hb dX0_put_19 (lv_at hl 4 rfl) ?_
  obtain ⟨h0, h⟩ := h
  refine q_iast E hh 18 (WW_at_18 G (sa (sa σ 16 (upd (ga σ 16) p1.toNatClampNeg p2)) 17 (upd (ga (sa σ 16 (upd (ga σ 16) p1.toNatClampNeg p2)) 17) p1.toNatClampNeg p3))) h0 dX0_put_21 (WW_sa_18 G (sa (sa σ 16 (upd (ga σ 16) p1.toNatClampNeg p2)) 17 (upd (ga (sa σ 16 (upd (ga σ 16) p1.toNatClampNeg p2)) 17) p1.toNatClampNeg p3)) (upd (ga (sa (sa σ 16 (upd (ga σ 16) p1.toNatClampNeg p2)) 17 (upd (ga (sa σ 16 (upd (ga σ 16) p1.toNatClampNeg p2)) 17) p1.toNatClampNeg p3)) 18) p1.toNatClampNeg p4)) (fun H locs hh => ?_)
  exact q_vret E hh hr hlocks h dX0_put_22
def f_X0_tackOf (σ : St) (p1 : Int32) (p2 : Int32) (Q : Int32 → St → Prop) : Prop :=
  (vp_in p1 16 ∧ f_J9_floorMod_7cf53 σ (p2 - (ga σ 18 p1.toNatClampNeg)) (8 : Int32) (fun r10 s10 => ((r10 < (1 : Int32) → ((r10 < (5 : Int32) → Q (0 : Int32) s10) ∧ (¬ r10 < (5 : Int32) → Q (2 : Int32) s10))) ∧ (¬ r10 < (1 : Int32) → (((3 : Int32) < r10 → ((r10 < (5 : Int32) → Q (0 : Int32) s10) ∧ (¬ r10 < (5 : Int32) → Q (2 : Int32) s10))) ∧ (¬ (3 : Int32) < r10 → Q (1 : Int32) s10))))))
set_option maxHeartbeats 4000000 in
set_option maxRecDepth 100000 in
theorem c_X0_tackOf (l : Launch) (G : GG) (σ : St) (sz : Nat) (p1 : Int32) (p2 : Int32) (Q : Int32 → St → Prop) (h : f_X0_tackOf σ p1 p2 Q) : CTi l yX0_tackOf wsX0_tackOf ({ frames := 1, cells := 0, slots := 0, locals := 22 }) [.ref (G.2.1 6), .int p1, .int p2] G σ sz Q := by
  refine Met.ofW (cc := cX0_tackOf) (maxL := 4) (ret := (some .int)) (by decide) rfl ?_
  intro p e s m args below meth c s₁ B hml hv
  obtain ⟨rfl, hpre⟩ := hv
  have hr := B.returns
  have hlocks := B.notSynchronized
  obtain ⟨hsz, -⟩ := id hpre
  subst hsz
  obtain ⟨E, hh⟩ := EV.ofPre (⟨B.exec, B.bytes, hml, findClass_of_methodNamed B.named, atoms_spec (ws := wsX0_tackOf) B.pre⟩ : CallFix p m c cX0_tackOf 4 s _ wsX0_tackOf RX0) hpre
  have hx := E.1.1
  have hb := E.1.2.1
  have hown := E.1.2.2.2.1
  have hts := E.1.2.2.2.2
  have h_inX0 : ∀ w ∈ wsX00, w ∈ wsX0_tackOf := (fun _ h9 => (List.mem_cons_of_mem _ (List.mem_append_right _ h9)))
  have hl := lv_entry ([.ref (G.2.1 6), .int p1, .int p2]) (n := 4) (Nat.le_of_ble_eq_true rfl)
  rw [lg_entry_eq]
  generalize (lg_sl ([.ref (G.2.1 6), .int p1, .int p2]) ++ List.replicate (4 - (lg_sl ([.ref (G.2.1 6), .int p1, .int p2])).length) Slot.unset).toArray = ls at hl ⊢
  have hl : lv_has ls 4 [(0, .ref (G.2.1 6)), (1, .int p1), (2, .int p2)] := hl
  unfold f_X0_tackOf at h
  refine lv_iload_n hx hb dX0_tackOf_0 rfl (lv_at hl 2 rfl) ?_
  refine lv_aload_n hx hb dX0_tackOf_1 rfl (lv_at hl 0 rfl) ?_
  refine q_get (T := TX0) (v := .ref (G.2.1 18)) E hh h_inX0 6 (WW_at_6 G σ) rfl 2 (by decide) (List.mem_cons_of_mem _ (List.mem_append_left _ (List.mem_of_getElem? (i := 0) rfl))) rfl rfl dX0_tackOf_2 ?_
  refine lv_iload_n hx hb dX0_tackOf_5 rfl (lv_at hl 1 rfl) ?_
  obtain ⟨h0, h⟩ := h
  refine q_iald E hh 18 (WW_at_18 G σ) h0 dX0_tackOf_6 ?_
  refine lv_isub hx hb dX0_tackOf_7 ?_
  refine lv_bipush (v := (8 : Int32)) hx hb dX0_tackOf_8 (by decide) ?_
  refine q_Si (As := [.int (p2 - (ga σ 18 p1.toNatClampNeg)), .int (8 : Int32)]) (rest := []) E hh (c_J9_floorMod_7cf53 l G _ _ _ _ _ h) (va_cwS 2 hts gX0_tackOf_J9_floorMod_7cf53 rfl rfl rfl (by decide +kernel) ⟨Nat.le_of_ble_eq_true rfl, Nat.le_of_ble_eq_true rfl⟩) rfl hl.1 rfl (Nat.le_of_ble_eq_true rfl) dX0_tackOf_10 ⟨Nat.zero_le _, Nat.zero_le _⟩ (fun r10 s10 H locs h hh => ?_)
  refine lv_istore_n (lv' := [(3, .int r10), (0, .ref (G.2.1 6)), (1, .int p1), (2, .int p2)]) hx hb dX0_tackOf_13 rfl hl (by decide) rfl (fun ls hl => ?_)
  refine lv_iload_n hx hb dX0_tackOf_14 rfl (lv_at hl 0 rfl) ?_
  refine lv_iconst (v := (1 : Int32)) hx hb dX0_tackOf_15 (by decide) ?_
  refine lv_icmp_lt (tgt := 26) hx hb dX0_tackOf_16 (by decide) (fun c9 => ?_) (fun c9 => ?_)
  · have h := h.1 c9
    refine lv_iload_n hx hb dX0_tackOf_26 rfl (lv_at hl 0 rfl) ?_
    refine lv_iconst (v := (5 : Int32)) hx hb dX0_tackOf_27 (by decide) ?_
    refine lv_icmp_lt (tgt := 35) hx hb dX0_tackOf_28 (by decide) (fun c9 => ?_) (fun c9 => ?_)
    · have h := h.1 c9
      refine lv_iconst (v := (0 : Int32)) hx hb dX0_tackOf_35 (by decide) ?_
      exact q_iret E hh hr hlocks h dX0_tackOf_36
    · have h := h.2 c9
      refine lv_iconst (v := (2 : Int32)) hx hb dX0_tackOf_31 (by decide) ?_
      refine lv_goto (tgt := 36) hx hb dX0_tackOf_32 (by decide) ?_
      exact q_iret E hh hr hlocks h dX0_tackOf_36
  · have h := h.2 c9
    refine lv_iload_n hx hb dX0_tackOf_19 rfl (lv_at hl 0 rfl) ?_
    refine lv_iconst (v := (3 : Int32)) hx hb dX0_tackOf_20 (by decide) ?_
    refine lv_icmp_gt (tgt := 26) hx hb dX0_tackOf_21 (by decide) (fun c9 => ?_) (fun c9 => ?_)
    · have h := h.1 c9
      refine lv_iload_n hx hb dX0_tackOf_26 rfl (lv_at hl 0 rfl) ?_
      refine lv_iconst (v := (5 : Int32)) hx hb dX0_tackOf_27 (by decide) ?_
      refine lv_icmp_lt (tgt := 35) hx hb dX0_tackOf_28 (by decide) (fun c9 => ?_) (fun c9 => ?_)
      · have h := h.1 c9
        refine lv_iconst (v := (0 : Int32)) hx hb dX0_tackOf_35 (by decide) ?_
        exact q_iret E hh hr hlocks h dX0_tackOf_36
      · have h := h.2 c9
        refine lv_iconst (v := (2 : Int32)) hx hb dX0_tackOf_31 (by decide) ?_
        refine lv_goto (tgt := 36) hx hb dX0_tackOf_32 (by decide) ?_
        exact q_iret E hh hr hlocks h dX0_tackOf_36
    · have h := h.2 c9
      refine lv_iconst (v := (1 : Int32)) hx hb dX0_tackOf_24 (by decide) ?_
      exact q_iret E hh hr hlocks h dX0_tackOf_25
def f_X0_portAgainstStarboard (σ : St) (p1 : Int32) (p2 : Int32) (p3 : Int32) (Q : Int32 → St → Prop) : Prop :=
  f_X0_tackOf σ p1 p3 (fun r3 s3 => f_X0_tackOf s3 p2 p3 (fun r11 s11 => ((¬ r3 = (2 : Int32) → ((¬ r3 = (1 : Int32) → Q (-1 : Int32) s11) ∧ (r3 = (1 : Int32) → ((¬ r11 = (2 : Int32) → Q (-1 : Int32) s11) ∧ (r11 = (2 : Int32) → Q p2 s11))))) ∧ (r3 = (2 : Int32) → ((¬ r11 = (1 : Int32) → ((¬ r3 = (1 : Int32) → Q (-1 : Int32) s11) ∧ (r3 = (1 : Int32) → ((¬ r11 = (2 : Int32) → Q (-1 : Int32) s11) ∧ (r11 = (2 : Int32) → Q p2 s11))))) ∧ (r11 = (1 : Int32) → Q p1 s11))))))
set_option maxHeartbeats 4000000 in
set_option maxRecDepth 100000 in
theorem c_X0_portAgainstStarboard (l : Launch) (G : GG) (σ : St) (sz : Nat) (p1 : Int32) (p2 : Int32) (p3 : Int32) (Q : Int32 → St → Prop) (h : f_X0_portAgainstStarboard σ p1 p2 p3 Q) : CTi l yX0_portAgainstStarboard wsX0_portAgainstStarboard ({ frames := 2, cells := 0, slots := 0, locals := 45 }) [.ref (G.2.1 6), .int p1, .int p2, .int p3] G σ sz Q := by
  refine Met.ofW (cc := cX0_portAgainstStarboard) (maxL := 6) (ret := (some .int)) (by decide) rfl ?_
  intro p e s m args below meth c s₁ B hml hv
  obtain ⟨rfl, hpre⟩ := hv
  have hr := B.returns
  have hlocks := B.notSynchronized
  obtain ⟨hsz, -⟩ := id hpre
  subst hsz
  obtain ⟨E, hh⟩ := EV.ofPre (⟨B.exec, B.bytes, hml, findClass_of_methodNamed B.named, atoms_spec (ws := wsX0_portAgainstStarboard) B.pre⟩ : CallFix p m c cX0_portAgainstStarboard 6 s _ wsX0_portAgainstStarboard RX0) hpre
  have hx := E.1.1
  have hb := E.1.2.1
  have hown := E.1.2.2.2.1
  have hts := E.1.2.2.2.2
  have hl := lv_entry ([.ref (G.2.1 6), .int p1, .int p2, .int p3]) (n := 6) (Nat.le_of_ble_eq_true rfl)
  rw [lg_entry_eq]
  generalize (lg_sl ([.ref (G.2.1 6), .int p1, .int p2, .int p3]) ++ List.replicate (6 - (lg_sl ([.ref (G.2.1 6), .int p1, .int p2, .int p3])).length) Slot.unset).toArray = ls at hl ⊢
  have hl : lv_has ls 6 [(0, .ref (G.2.1 6)), (1, .int p1), (2, .int p2), (3, .int p3)] := hl
  unfold f_X0_portAgainstStarboard at h
  refine lv_aload_n hx hb dX0_portAgainstStarboard_0 rfl (lv_at hl 0 rfl) ?_
  refine lv_iload_n hx hb dX0_portAgainstStarboard_1 rfl (lv_at hl 1 rfl) ?_
  refine lv_iload_n hx hb dX0_portAgainstStarboard_2 rfl (lv_at hl 3 rfl) ?_
  refine q_Vi (As := [.int p1, .int p3]) (rest := []) E hh (c_X0_tackOf l G _ _ _ _ _ h) (cwV 2 hts gX0_portAgainstStarboard_X0_tackOf rfl rfl rfl (by decide +kernel) ⟨Nat.le_of_ble_eq_true rfl, Nat.le_of_ble_eq_true rfl⟩) (va_recv (ci := 0) E.2.1 hh.1 rfl (WW_at_6 G σ)) rfl hl.1 rfl (Nat.le_of_ble_eq_true rfl) dX0_portAgainstStarboard_3 ⟨Nat.zero_le _, Nat.zero_le _⟩ (fun r3 s3 H locs h hh => ?_)
  refine lv_istore (lv' := [(4, .int r3), (0, .ref (G.2.1 6)), (1, .int p1), (2, .int p2), (3, .int p3)]) hx hb dX0_portAgainstStarboard_6 hl (by decide) rfl (fun ls hl => ?_)
  refine lv_aload_n hx hb dX0_portAgainstStarboard_8 rfl (lv_at hl 1 rfl) ?_
  refine lv_iload_n hx hb dX0_portAgainstStarboard_9 rfl (lv_at hl 3 rfl) ?_
  refine lv_iload_n hx hb dX0_portAgainstStarboard_10 rfl (lv_at hl 4 rfl) ?_
  refine q_Vi (As := [.int p2, .int p3]) (rest := []) E hh (c_X0_tackOf l G _ _ _ _ _ h) (cwV 2 hts gX0_portAgainstStarboard_X0_tackOf rfl rfl rfl (by decide +kernel) ⟨Nat.le_of_ble_eq_true rfl, Nat.le_of_ble_eq_true rfl⟩) (va_recv (ci := 0) E.2.1 hh.1 rfl (WW_at_6 G s3)) rfl hl.1 rfl (Nat.le_of_ble_eq_true rfl) dX0_portAgainstStarboard_11 ⟨Nat.zero_le _, Nat.zero_le _⟩ (fun r11 s11 H locs h hh => ?_)
  refine lv_istore (lv' := [(5, .int r11), (4, .int r3), (0, .ref (G.2.1 6)), (1, .int p1), (2, .int p2), (3, .int p3)]) hx hb dX0_portAgainstStarboard_14 hl (by decide) rfl (fun ls hl => ?_)
  refine lv_iload hx hb dX0_portAgainstStarboard_16 (lv_at hl 1 rfl) ?_
  refine lv_iconst (v := (2 : Int32)) hx hb dX0_portAgainstStarboard_18 (by decide) ?_
  refine lv_icmp_ne (tgt := 30) hx hb dX0_portAgainstStarboard_19 (by decide) (fun c9 => ?_) (fun c9 => ?_)
  · have h := h.1 c9
    refine lv_iload hx hb dX0_portAgainstStarboard_30 (lv_at hl 1 rfl) ?_
    refine lv_iconst (v := (1 : Int32)) hx hb dX0_portAgainstStarboard_32 (by decide) ?_
    refine lv_icmp_ne (tgt := 46) hx hb dX0_portAgainstStarboard_33 (by decide) (fun c9 => ?_) (fun c9 => ?_)
    · have h := h.1 c9
      refine lv_iconst (v := (-1 : Int32)) hx hb dX0_portAgainstStarboard_46 (by decide) ?_
      exact q_iret E hh hr hlocks h dX0_portAgainstStarboard_47
    · have h := h.2 c9
      refine lv_iload hx hb dX0_portAgainstStarboard_36 (lv_at hl 0 rfl) ?_
      refine lv_iconst (v := (2 : Int32)) hx hb dX0_portAgainstStarboard_38 (by decide) ?_
      refine lv_icmp_ne (tgt := 46) hx hb dX0_portAgainstStarboard_39 (by decide) (fun c9 => ?_) (fun c9 => ?_)
      · have h := h.1 c9
        refine lv_iconst (v := (-1 : Int32)) hx hb dX0_portAgainstStarboard_46 (by decide) ?_
        exact q_iret E hh hr hlocks h dX0_portAgainstStarboard_47
      · have h := h.2 c9
        refine lv_iload_n hx hb dX0_portAgainstStarboard_42 rfl (lv_at hl 4 rfl) ?_
        refine lv_goto (tgt := 47) hx hb dX0_portAgainstStarboard_43 (by decide) ?_
        exact q_iret E hh hr hlocks h dX0_portAgainstStarboard_47
  · have h := h.2 c9
    refine lv_iload hx hb dX0_portAgainstStarboard_22 (lv_at hl 0 rfl) ?_
    refine lv_iconst (v := (1 : Int32)) hx hb dX0_portAgainstStarboard_24 (by decide) ?_
    refine lv_icmp_ne (tgt := 30) hx hb dX0_portAgainstStarboard_25 (by decide) (fun c9 => ?_) (fun c9 => ?_)
    · have h := h.1 c9
      refine lv_iload hx hb dX0_portAgainstStarboard_30 (lv_at hl 1 rfl) ?_
      refine lv_iconst (v := (1 : Int32)) hx hb dX0_portAgainstStarboard_32 (by decide) ?_
      refine lv_icmp_ne (tgt := 46) hx hb dX0_portAgainstStarboard_33 (by decide) (fun c9 => ?_) (fun c9 => ?_)
      · have h := h.1 c9
        refine lv_iconst (v := (-1 : Int32)) hx hb dX0_portAgainstStarboard_46 (by decide) ?_
        exact q_iret E hh hr hlocks h dX0_portAgainstStarboard_47
      · have h := h.2 c9
        refine lv_iload hx hb dX0_portAgainstStarboard_36 (lv_at hl 0 rfl) ?_
        refine lv_iconst (v := (2 : Int32)) hx hb dX0_portAgainstStarboard_38 (by decide) ?_
        refine lv_icmp_ne (tgt := 46) hx hb dX0_portAgainstStarboard_39 (by decide) (fun c9 => ?_) (fun c9 => ?_)
        · have h := h.1 c9
          refine lv_iconst (v := (-1 : Int32)) hx hb dX0_portAgainstStarboard_46 (by decide) ?_
          exact q_iret E hh hr hlocks h dX0_portAgainstStarboard_47
        · have h := h.2 c9
          refine lv_iload_n hx hb dX0_portAgainstStarboard_42 rfl (lv_at hl 4 rfl) ?_
          refine lv_goto (tgt := 47) hx hb dX0_portAgainstStarboard_43 (by decide) ?_
          exact q_iret E hh hr hlocks h dX0_portAgainstStarboard_47
    · have h := h.2 c9
      refine lv_iload_n hx hb dX0_portAgainstStarboard_28 rfl (lv_at hl 3 rfl) ?_
      exact q_iret E hh hr hlocks h dX0_portAgainstStarboard_29
def f_X0_farBy (σ : St) (p1 : Int32) (p2 : Int32) (Q : Int32 → St → Prop) : Prop :=
  (vp_in p1 16 ∧ f_X8_stepX σ p2 (fun r7 s7 => (vp_in p1 16 ∧ f_X8_stepY s7 p2 (fun r18 s18 => Q (((ga σ 16 p1.toNatClampNeg) * r7) + ((ga s7 17 p1.toNatClampNeg) * r18)) s18))))
set_option maxHeartbeats 4000000 in
set_option maxRecDepth 100000 in
theorem c_X0_farBy (l : Launch) (G : GG) (σ : St) (sz : Nat) (p1 : Int32) (p2 : Int32) (Q : Int32 → St → Prop) (h : f_X0_farBy σ p1 p2 Q) : CTi l yX0_farBy wsX0_farBy ({ frames := 2, cells := 0, slots := 0, locals := 40 }) [.ref (G.2.1 6), .int p1, .int p2] G σ sz Q := by
  refine Met.ofW (cc := cX0_farBy) (maxL := 3) (ret := (some .int)) (by decide) rfl ?_
  intro p e s m args below meth c s₁ B hml hv
  obtain ⟨rfl, hpre⟩ := hv
  have hr := B.returns
  have hlocks := B.notSynchronized
  obtain ⟨hsz, -⟩ := id hpre
  subst hsz
  obtain ⟨E, hh⟩ := EV.ofPre (⟨B.exec, B.bytes, hml, findClass_of_methodNamed B.named, atoms_spec (ws := wsX0_farBy) B.pre⟩ : CallFix p m c cX0_farBy 3 s _ wsX0_farBy RX0) hpre
  have hx := E.1.1
  have hb := E.1.2.1
  have hown := E.1.2.2.2.1
  have hts := E.1.2.2.2.2
  have h_inX0 : ∀ w ∈ wsX00, w ∈ wsX0_farBy := (fun _ h9 => (List.mem_cons_of_mem _ (List.mem_append_right _ h9)))
  have hl := lv_entry ([.ref (G.2.1 6), .int p1, .int p2]) (n := 3) (Nat.le_of_ble_eq_true rfl)
  rw [lg_entry_eq]
  generalize (lg_sl ([.ref (G.2.1 6), .int p1, .int p2]) ++ List.replicate (3 - (lg_sl ([.ref (G.2.1 6), .int p1, .int p2])).length) Slot.unset).toArray = ls at hl ⊢
  have hl : lv_has ls 3 [(0, .ref (G.2.1 6)), (1, .int p1), (2, .int p2)] := hl
  unfold f_X0_farBy at h
  refine lv_aload_n hx hb dX0_farBy_0 rfl (lv_at hl 0 rfl) ?_
  refine q_get (T := TX0) (v := .ref (G.2.1 16)) E hh h_inX0 6 (WW_at_6 G σ) rfl 0 (by decide) (List.mem_cons_of_mem _ (List.mem_append_left _ (List.mem_of_getElem? (i := 0) rfl))) rfl rfl dX0_farBy_1 ?_
  refine lv_iload_n hx hb dX0_farBy_4 rfl (lv_at hl 1 rfl) ?_
  obtain ⟨h0, h⟩ := h
  refine q_iald E hh 16 (WW_at_16 G σ) h0 dX0_farBy_5 ?_
  refine lv_iload_n hx hb dX0_farBy_6 rfl (lv_at hl 2 rfl) ?_
  refine q_Ni (As := [.int p2]) (rest := [.int (ga σ 16 p1.toNatClampNeg)]) E hh (c_X8_stepX l G _ _ _ _ h) (va_cnB 1 hts gX0_farBy_X8_stepX_n62 rfl rfl rfl (E.2.2.2.1.1.2.1 (RX0, 62, (⟨RX8, "stepX", "(I)I"⟩ : MethodName), "IceRegatta") (List.mem_of_getElem? (i := 13) rfl)) (hts _ (List.mem_cons_of_mem _ (List.mem_append_left _ (List.mem_of_getElem? (i := 3) rfl)))) (by decide +kernel) ⟨Nat.le_of_ble_eq_true rfl, Nat.le_of_ble_eq_true rfl⟩) (List.mem_cons_of_mem _ (List.mem_append_left _ (List.mem_of_getElem? (i := 2) rfl))) rfl hl.1 rfl (Nat.le_of_ble_eq_true rfl) dX0_farBy_7 ⟨Nat.zero_le _, Nat.zero_le _⟩ (fun r7 s7 H locs h hh => ?_)
  refine lv_imul hx hb dX0_farBy_10 ?_
  refine lv_aload_n hx hb dX0_farBy_11 rfl (lv_at hl 0 rfl) ?_
  refine q_get (T := TX0) (v := .ref (G.2.1 17)) E hh h_inX0 6 (WW_at_6 G s7) rfl 1 (by decide) (List.mem_cons_of_mem _ (List.mem_append_left _ (List.mem_of_getElem? (i := 1) rfl))) rfl rfl dX0_farBy_12 ?_
  refine lv_iload_n hx hb dX0_farBy_15 rfl (lv_at hl 1 rfl) ?_
  obtain ⟨h0, h⟩ := h
  refine q_iald E hh 17 (WW_at_17 G s7) h0 dX0_farBy_16 ?_
  refine lv_iload_n hx hb dX0_farBy_17 rfl (lv_at hl 2 rfl) ?_
  refine q_Ni (As := [.int p2]) (rest := [.int (ga s7 17 p1.toNatClampNeg), .int ((ga σ 16 p1.toNatClampNeg) * r7)]) E hh (c_X8_stepY l G _ _ _ _ h) (va_cnB 1 hts gX0_farBy_X8_stepY_n66 rfl rfl rfl (E.2.2.2.1.1.2.1 (RX0, 66, (⟨RX8, "stepY", "(I)I"⟩ : MethodName), "IceRegatta") (List.mem_of_getElem? (i := 14) rfl)) (hts _ (List.mem_cons_of_mem _ (List.mem_append_left _ (List.mem_of_getElem? (i := 3) rfl)))) (by decide +kernel) ⟨Nat.le_of_ble_eq_true rfl, Nat.le_of_ble_eq_true rfl⟩) (List.mem_cons_of_mem _ (List.mem_append_left _ (List.mem_of_getElem? (i := 9) rfl))) rfl hl.1 rfl (Nat.le_of_ble_eq_true rfl) dX0_farBy_18 ⟨Nat.zero_le _, Nat.zero_le _⟩ (fun r18 s18 H locs h hh => ?_)
  refine lv_imul hx hb dX0_farBy_21 ?_
  refine lv_iadd hx hb dX0_farBy_22 ?_
  exact q_iret E hh hr hlocks h dX0_farBy_23
def f_X0_fartherOf (σ : St) (p1 : Int32) (p2 : Int32) (p3 : Int32) (Q : Int32 → St → Prop) : Prop :=
  f_X0_farBy σ p1 p3 (fun r3 s3 => f_X0_farBy s3 p2 p3 (fun r11 s11 => ((¬ r3 = r11 → ((r3 ≤ r11 → Q p2 s11) ∧ (¬ r3 ≤ r11 → Q p1 s11))) ∧ (r3 = r11 → Q (-1 : Int32) s11))))
set_option maxHeartbeats 4000000 in
set_option maxRecDepth 100000 in
theorem c_X0_fartherOf (l : Launch) (G : GG) (σ : St) (sz : Nat) (p1 : Int32) (p2 : Int32) (p3 : Int32) (Q : Int32 → St → Prop) (h : f_X0_fartherOf σ p1 p2 p3 Q) : CTi l yX0_fartherOf wsX0_fartherOf ({ frames := 3, cells := 0, slots := 0, locals := 62 }) [.ref (G.2.1 6), .int p1, .int p2, .int p3] G σ sz Q := by
  refine Met.ofW (cc := cX0_fartherOf) (maxL := 6) (ret := (some .int)) (by decide) rfl ?_
  intro p e s m args below meth c s₁ B hml hv
  obtain ⟨rfl, hpre⟩ := hv
  have hr := B.returns
  have hlocks := B.notSynchronized
  obtain ⟨hsz, -⟩ := id hpre
  subst hsz
  obtain ⟨E, hh⟩ := EV.ofPre (⟨B.exec, B.bytes, hml, findClass_of_methodNamed B.named, atoms_spec (ws := wsX0_fartherOf) B.pre⟩ : CallFix p m c cX0_fartherOf 6 s _ wsX0_fartherOf RX0) hpre
  have hx := E.1.1
  have hb := E.1.2.1
  have hown := E.1.2.2.2.1
  have hts := E.1.2.2.2.2
  have hl := lv_entry ([.ref (G.2.1 6), .int p1, .int p2, .int p3]) (n := 6) (Nat.le_of_ble_eq_true rfl)
  rw [lg_entry_eq]
  generalize (lg_sl ([.ref (G.2.1 6), .int p1, .int p2, .int p3]) ++ List.replicate (6 - (lg_sl ([.ref (G.2.1 6), .int p1, .int p2, .int p3])).length) Slot.unset).toArray = ls at hl ⊢
  have hl : lv_has ls 6 [(0, .ref (G.2.1 6)), (1, .int p1), (2, .int p2), (3, .int p3)] := hl
  unfold f_X0_fartherOf at h
  refine lv_aload_n hx hb dX0_fartherOf_0 rfl (lv_at hl 0 rfl) ?_
  refine lv_iload_n hx hb dX0_fartherOf_1 rfl (lv_at hl 1 rfl) ?_
  refine lv_iload_n hx hb dX0_fartherOf_2 rfl (lv_at hl 3 rfl) ?_
  refine q_Vi (As := [.int p1, .int p3]) (rest := []) E hh (c_X0_farBy l G _ _ _ _ _ h) (cwV 2 hts gX0_fartherOf_X0_farBy rfl rfl rfl (by decide +kernel) ⟨Nat.le_of_ble_eq_true rfl, Nat.le_of_ble_eq_true rfl⟩) (va_recv (ci := 0) E.2.1 hh.1 rfl (WW_at_6 G σ)) rfl hl.1 rfl (Nat.le_of_ble_eq_true rfl) dX0_fartherOf_3 ⟨Nat.zero_le _, Nat.zero_le _⟩ (fun r3 s3 H locs h hh => ?_)
  refine lv_istore (lv' := [(4, .int r3), (0, .ref (G.2.1 6)), (1, .int p1), (2, .int p2), (3, .int p3)]) hx hb dX0_fartherOf_6 hl (by decide) rfl (fun ls hl => ?_)
  refine lv_aload_n hx hb dX0_fartherOf_8 rfl (lv_at hl 1 rfl) ?_
  refine lv_iload_n hx hb dX0_fartherOf_9 rfl (lv_at hl 3 rfl) ?_
  refine lv_iload_n hx hb dX0_fartherOf_10 rfl (lv_at hl 4 rfl) ?_
  refine q_Vi (As := [.int p2, .int p3]) (rest := []) E hh (c_X0_farBy l G _ _ _ _ _ h) (cwV 2 hts gX0_fartherOf_X0_farBy rfl rfl rfl (by decide +kernel) ⟨Nat.le_of_ble_eq_true rfl, Nat.le_of_ble_eq_true rfl⟩) (va_recv (ci := 0) E.2.1 hh.1 rfl (WW_at_6 G s3)) rfl hl.1 rfl (Nat.le_of_ble_eq_true rfl) dX0_fartherOf_11 ⟨Nat.zero_le _, Nat.zero_le _⟩ (fun r11 s11 H locs h hh => ?_)
  refine lv_istore (lv' := [(5, .int r11), (4, .int r3), (0, .ref (G.2.1 6)), (1, .int p1), (2, .int p2), (3, .int p3)]) hx hb dX0_fartherOf_14 hl (by decide) rfl (fun ls hl => ?_)
  refine lv_iload hx hb dX0_fartherOf_16 (lv_at hl 1 rfl) ?_
  refine lv_iload hx hb dX0_fartherOf_18 (lv_at hl 0 rfl) ?_
  refine lv_icmp_ne (tgt := 25) hx hb dX0_fartherOf_20 (by decide) (fun c9 => ?_) (fun c9 => ?_)
  · have h := h.1 c9
    refine lv_iload hx hb dX0_fartherOf_25 (lv_at hl 1 rfl) ?_
    refine lv_iload hx hb dX0_fartherOf_27 (lv_at hl 0 rfl) ?_
    refine lv_icmp_le (tgt := 36) hx hb dX0_fartherOf_29 (by decide) (fun c9 => ?_) (fun c9 => ?_)
    · have h := h.1 c9
      refine lv_iload_n hx hb dX0_fartherOf_36 rfl (lv_at hl 4 rfl) ?_
      exact q_iret E hh hr hlocks h dX0_fartherOf_37
    · have h := h.2 c9
      refine lv_iload_n hx hb dX0_fartherOf_32 rfl (lv_at hl 3 rfl) ?_
      refine lv_goto (tgt := 37) hx hb dX0_fartherOf_33 (by decide) ?_
      exact q_iret E hh hr hlocks h dX0_fartherOf_37
  · have h := h.2 c9
    refine lv_iconst (v := (-1 : Int32)) hx hb dX0_fartherOf_23 (by decide) ?_
    exact q_iret E hh hr hlocks h dX0_fartherOf_24
def f_X0_windwardOfOneTack (σ : St) (p1 : Int32) (p2 : Int32) (p3 : Int32) (Q : Int32 → St → Prop) : Prop :=
  f_X0_tackOf σ p1 p3 (fun r3 s3 => ((r3 = 0 → Q (-1 : Int32) s3) ∧ (¬ r3 = 0 → f_X0_tackOf s3 p2 p3 (fun r18 s18 => ((r3 = r18 → f_X0_fartherOf s18 p1 p2 p3 (fun r30 s30 => Q r30 s30)) ∧ (¬ r3 = r18 → Q (-1 : Int32) s18))))))
set_option maxHeartbeats 4000000 in
set_option maxRecDepth 100000 in
theorem c_X0_windwardOfOneTack (l : Launch) (G : GG) (σ : St) (sz : Nat) (p1 : Int32) (p2 : Int32) (p3 : Int32) (Q : Int32 → St → Prop) (h : f_X0_windwardOfOneTack σ p1 p2 p3 Q) : CTi l yX0_windwardOfOneTack wsX0_windwardOfOneTack ({ frames := 4, cells := 0, slots := 0, locals := 87 }) [.ref (G.2.1 6), .int p1, .int p2, .int p3] G σ sz Q := by
  refine Met.ofW (cc := cX0_windwardOfOneTack) (maxL := 5) (ret := (some .int)) (by decide) rfl ?_
  intro p e s m args below meth c s₁ B hml hv
  obtain ⟨rfl, hpre⟩ := hv
  have hr := B.returns
  have hlocks := B.notSynchronized
  obtain ⟨hsz, -⟩ := id hpre
  subst hsz
  obtain ⟨E, hh⟩ := EV.ofPre (⟨B.exec, B.bytes, hml, findClass_of_methodNamed B.named, atoms_spec (ws := wsX0_windwardOfOneTack) B.pre⟩ : CallFix p m c cX0_windwardOfOneTack 5 s _ wsX0_windwardOfOneTack RX0) hpre
  have hx := E.1.1
  have hb := E.1.2.1
  have hown := E.1.2.2.2.1
  have hts := E.1.2.2.2.2
  have hl := lv_entry ([.ref (G.2.1 6), .int p1, .int p2, .int p3]) (n := 5) (Nat.le_of_ble_eq_true rfl)
  rw [lg_entry_eq]
  generalize (lg_sl ([.ref (G.2.1 6), .int p1, .int p2, .int p3]) ++ List.replicate (5 - (lg_sl ([.ref (G.2.1 6), .int p1, .int p2, .int p3])).length) Slot.unset).toArray = ls at hl ⊢
  have hl : lv_has ls 5 [(0, .ref (G.2.1 6)), (1, .int p1), (2, .int p2), (3, .int p3)] := hl
  unfold f_X0_windwardOfOneTack at h
  refine lv_aload_n hx hb dX0_windwardOfOneTack_0 rfl (lv_at hl 0 rfl) ?_
  refine lv_iload_n hx hb dX0_windwardOfOneTack_1 rfl (lv_at hl 1 rfl) ?_
  refine lv_iload_n hx hb dX0_windwardOfOneTack_2 rfl (lv_at hl 3 rfl) ?_
  refine q_Vi (As := [.int p1, .int p3]) (rest := []) E hh (c_X0_tackOf l G _ _ _ _ _ h) (cwV 2 hts gX0_windwardOfOneTack_X0_tackOf rfl rfl rfl (by decide +kernel) ⟨Nat.le_of_ble_eq_true rfl, Nat.le_of_ble_eq_true rfl⟩) (va_recv (ci := 0) E.2.1 hh.1 rfl (WW_at_6 G σ)) rfl hl.1 rfl (Nat.le_of_ble_eq_true rfl) dX0_windwardOfOneTack_3 ⟨Nat.zero_le _, Nat.zero_le _⟩ (fun r3 s3 H locs h hh => ?_)
  refine lv_istore (lv' := [(4, .int r3), (0, .ref (G.2.1 6)), (1, .int p1), (2, .int p2), (3, .int p3)]) hx hb dX0_windwardOfOneTack_6 hl (by decide) rfl (fun ls hl => ?_)
  refine lv_iload hx hb dX0_windwardOfOneTack_8 (lv_at hl 0 rfl) ?_
  refine lv_if_eq (tgt := 24) hx hb dX0_windwardOfOneTack_10 (by decide) (fun c9 => ?_) (fun c9 => ?_)
  · have h := h.1 c9
    refine lv_iconst (v := (-1 : Int32)) hx hb dX0_windwardOfOneTack_24 (by decide) ?_
    exact q_iret E hh hr hlocks h dX0_windwardOfOneTack_25
  · have h := h.2 c9
    refine lv_iload hx hb dX0_windwardOfOneTack_13 (lv_at hl 0 rfl) ?_
    refine lv_aload_n hx hb dX0_windwardOfOneTack_15 rfl (lv_at hl 1 rfl) ?_
    refine lv_iload_n hx hb dX0_windwardOfOneTack_16 rfl (lv_at hl 3 rfl) ?_
    refine lv_iload_n hx hb dX0_windwardOfOneTack_17 rfl (lv_at hl 4 rfl) ?_
    refine q_Vi (As := [.int p2, .int p3]) (rest := [.int r3]) E hh (c_X0_tackOf l G _ _ _ _ _ h) (cwV 2 hts gX0_windwardOfOneTack_X0_tackOf rfl rfl rfl (by decide +kernel) ⟨Nat.le_of_ble_eq_true rfl, Nat.le_of_ble_eq_true rfl⟩) (va_recv (ci := 0) E.2.1 hh.1 rfl (WW_at_6 G s3)) rfl hl.1 rfl (Nat.le_of_ble_eq_true rfl) dX0_windwardOfOneTack_18 ⟨Nat.zero_le _, Nat.zero_le _⟩ (fun r18 s18 H locs h hh => ?_)
    refine lv_icmp_eq (tgt := 26) hx hb dX0_windwardOfOneTack_21 (by decide) (fun c9 => ?_) (fun c9 => ?_)
    · have h := h.1 c9
      refine lv_aload_n hx hb dX0_windwardOfOneTack_26 rfl (lv_at hl 1 rfl) ?_
      refine lv_iload_n hx hb dX0_windwardOfOneTack_27 rfl (lv_at hl 2 rfl) ?_
      refine lv_iload_n hx hb dX0_windwardOfOneTack_28 rfl (lv_at hl 3 rfl) ?_
      refine lv_iload_n hx hb dX0_windwardOfOneTack_29 rfl (lv_at hl 4 rfl) ?_
      refine q_Vi (As := [.int p1, .int p2, .int p3]) (rest := []) E hh (c_X0_fartherOf l G _ _ _ _ _ _ h) (cwV 3 hts gX0_windwardOfOneTack_X0_fartherOf rfl rfl rfl (by decide +kernel) ⟨Nat.le_of_ble_eq_true rfl, Nat.le_of_ble_eq_true rfl⟩) (va_recv (ci := 0) E.2.1 hh.1 rfl (WW_at_6 G s18)) rfl hl.1 rfl (Nat.le_of_ble_eq_true rfl) dX0_windwardOfOneTack_30 ⟨Nat.zero_le _, Nat.zero_le _⟩ (fun r30 s30 H locs h hh => ?_)
      exact q_iret E hh hr hlocks h dX0_windwardOfOneTack_33
    · have h := h.2 c9
      refine lv_iconst (v := (-1 : Int32)) hx hb dX0_windwardOfOneTack_24 (by decide) ?_
      exact q_iret E hh hr hlocks h dX0_windwardOfOneTack_25
def f_X0_asternOnOneWay (σ : St) (p1 : Int32) (p2 : Int32) (Q : Int32 → St → Prop) : Prop :=
  (vp_in p1 16 ∧ (vp_in p2 16 ∧ (((ga σ 18 p1.toNatClampNeg) = (ga σ 18 p2.toNatClampNeg) → (vp_in p1 16 ∧ f_X0_fartherOf σ p1 p2 (ga σ 18 p1.toNatClampNeg) (fun r26 s26 => ((¬ r26 = (-1 : Int32) → ((¬ r26 = p1 → Q p1 s26) ∧ (r26 = p1 → Q p2 s26))) ∧ (r26 = (-1 : Int32) → Q (-1 : Int32) s26))))) ∧ (¬ (ga σ 18 p1.toNatClampNeg) = (ga σ 18 p2.toNatClampNeg) → Q (-1 : Int32) σ))))
set_option maxHeartbeats 4000000 in
set_option maxRecDepth 100000 in
theorem c_X0_asternOnOneWay (l : Launch) (G : GG) (σ : St) (sz : Nat) (p1 : Int32) (p2 : Int32) (Q : Int32 → St → Prop) (h : f_X0_asternOnOneWay σ p1 p2 Q) : CTi l yX0_asternOnOneWay wsX0_asternOnOneWay ({ frames := 4, cells := 0, slots := 0, locals := 87 }) [.ref (G.2.1 6), .int p1, .int p2] G σ sz Q := by
  refine Met.ofW (cc := cX0_asternOnOneWay) (maxL := 4) (ret := (some .int)) (by decide) rfl ?_
  intro p e s m args below meth c s₁ B hml hv
  obtain ⟨rfl, hpre⟩ := hv
  have hr := B.returns
  have hlocks := B.notSynchronized
  obtain ⟨hsz, -⟩ := id hpre
  subst hsz
  obtain ⟨E, hh⟩ := EV.ofPre (⟨B.exec, B.bytes, hml, findClass_of_methodNamed B.named, atoms_spec (ws := wsX0_asternOnOneWay) B.pre⟩ : CallFix p m c cX0_asternOnOneWay 4 s _ wsX0_asternOnOneWay RX0) hpre
  have hx := E.1.1
  have hb := E.1.2.1
  have hown := E.1.2.2.2.1
  have hts := E.1.2.2.2.2
  have h_inX0 : ∀ w ∈ wsX00, w ∈ wsX0_asternOnOneWay := (fun _ h9 => (List.mem_cons_of_mem _ (List.mem_append_right _ h9)))
  have hl := lv_entry ([.ref (G.2.1 6), .int p1, .int p2]) (n := 4) (Nat.le_of_ble_eq_true rfl)
  rw [lg_entry_eq]
  generalize (lg_sl ([.ref (G.2.1 6), .int p1, .int p2]) ++ List.replicate (4 - (lg_sl ([.ref (G.2.1 6), .int p1, .int p2])).length) Slot.unset).toArray = ls at hl ⊢
  have hl : lv_has ls 4 [(0, .ref (G.2.1 6)), (1, .int p1), (2, .int p2)] := hl
  unfold f_X0_asternOnOneWay at h
  refine lv_aload_n hx hb dX0_asternOnOneWay_0 rfl (lv_at hl 0 rfl) ?_
  refine q_get (T := TX0) (v := .ref (G.2.1 18)) E hh h_inX0 6 (WW_at_6 G σ) rfl 2 (by decide) (List.mem_cons_of_mem _ (List.mem_append_left _ (List.mem_of_getElem? (i := 0) rfl))) rfl rfl dX0_asternOnOneWay_1 ?_
  refine lv_iload_n hx hb dX0_asternOnOneWay_4 rfl (lv_at hl 1 rfl) ?_
  obtain ⟨h0, h⟩ := h
  refine q_iald E hh 18 (WW_at_18 G σ) h0 dX0_asternOnOneWay_5 ?_
  refine lv_aload_n hx hb dX0_asternOnOneWay_6 rfl (lv_at hl 0 rfl) ?_
  refine q_get (T := TX0) (v := .ref (G.2.1 18)) E hh h_inX0 6 (WW_at_6 G σ) rfl 2 (by decide) (List.mem_cons_of_mem _ (List.mem_append_left _ (List.mem_of_getElem? (i := 0) rfl))) rfl rfl dX0_asternOnOneWay_7 ?_
  refine lv_iload_n hx hb dX0_asternOnOneWay_10 rfl (lv_at hl 2 rfl) ?_
  obtain ⟨h0, h⟩ := h
  refine q_iald E hh 18 (WW_at_18 G σ) h0 dX0_asternOnOneWay_11 ?_
  refine lv_icmp_eq (tgt := 17) hx hb dX0_asternOnOneWay_12 (by decide) (fun c9 => ?_) (fun c9 => ?_)
  · have h := h.1 c9
    refine lv_aload_n hx hb dX0_asternOnOneWay_17 rfl (lv_at hl 0 rfl) ?_
    refine lv_iload_n hx hb dX0_asternOnOneWay_18 rfl (lv_at hl 1 rfl) ?_
    refine lv_iload_n hx hb dX0_asternOnOneWay_19 rfl (lv_at hl 2 rfl) ?_
    refine lv_aload_n hx hb dX0_asternOnOneWay_20 rfl (lv_at hl 0 rfl) ?_
    refine q_get (T := TX0) (v := .ref (G.2.1 18)) E hh h_inX0 6 (WW_at_6 G σ) rfl 2 (by decide) (List.mem_cons_of_mem _ (List.mem_append_left _ (List.mem_of_getElem? (i := 0) rfl))) rfl rfl dX0_asternOnOneWay_21 ?_
    refine lv_iload_n hx hb dX0_asternOnOneWay_24 rfl (lv_at hl 1 rfl) ?_
    obtain ⟨h0, h⟩ := h
    refine q_iald E hh 18 (WW_at_18 G σ) h0 dX0_asternOnOneWay_25 ?_
    refine q_Vi (As := [.int p1, .int p2, .int (ga σ 18 p1.toNatClampNeg)]) (rest := []) E hh (c_X0_fartherOf l G _ _ _ _ _ _ h) (cwV 3 hts gX0_asternOnOneWay_X0_fartherOf rfl rfl rfl (by decide +kernel) ⟨Nat.le_of_ble_eq_true rfl, Nat.le_of_ble_eq_true rfl⟩) (va_recv (ci := 0) E.2.1 hh.1 rfl (WW_at_6 G σ)) rfl hl.1 rfl (Nat.le_of_ble_eq_true rfl) dX0_asternOnOneWay_26 ⟨Nat.zero_le _, Nat.zero_le _⟩ (fun r26 s26 H locs h hh => ?_)
    refine lv_istore_n (lv' := [(3, .int r26), (0, .ref (G.2.1 6)), (1, .int p1), (2, .int p2)]) hx hb dX0_asternOnOneWay_29 rfl hl (by decide) rfl (fun ls hl => ?_)
    refine lv_iload_n hx hb dX0_asternOnOneWay_30 rfl (lv_at hl 0 rfl) ?_
    refine lv_iconst (v := (-1 : Int32)) hx hb dX0_asternOnOneWay_31 (by decide) ?_
    refine lv_icmp_ne (tgt := 37) hx hb dX0_asternOnOneWay_32 (by decide) (fun c9 => ?_) (fun c9 => ?_)
    · have h := h.1 c9
      refine lv_iload_n hx hb dX0_asternOnOneWay_37 rfl (lv_at hl 0 rfl) ?_
      refine lv_iload_n hx hb dX0_asternOnOneWay_38 rfl (lv_at hl 2 rfl) ?_
      refine lv_icmp_ne (tgt := 46) hx hb dX0_asternOnOneWay_39 (by decide) (fun c9 => ?_) (fun c9 => ?_)
      · have h := h.1 c9
        refine lv_iload_n hx hb dX0_asternOnOneWay_46 rfl (lv_at hl 2 rfl) ?_
        exact q_iret E hh hr hlocks h dX0_asternOnOneWay_47
      · have h := h.2 c9
        refine lv_iload_n hx hb dX0_asternOnOneWay_42 rfl (lv_at hl 3 rfl) ?_
        refine lv_goto (tgt := 47) hx hb dX0_asternOnOneWay_43 (by decide) ?_
        exact q_iret E hh hr hlocks h dX0_asternOnOneWay_47
    · have h := h.2 c9
      refine lv_iconst (v := (-1 : Int32)) hx hb dX0_asternOnOneWay_35 (by decide) ?_
      exact q_iret E hh hr hlocks h dX0_asternOnOneWay_36
  · have h := h.2 c9
    refine lv_iconst (v := (-1 : Int32)) hx hb dX0_asternOnOneWay_15 (by decide) ?_
    exact q_iret E hh hr hlocks h dX0_asternOnOneWay_16
def f_X0_keeperBy (σ : St) (p1 : Int32) (p2 : Int32) (p3 : Int32) (p4 : Int32) (Q : Int32 → St → Prop) : Prop :=
  ((p1 = (0 : Int32) → f_X0_portAgainstStarboard σ p2 p3 p4 (fun r33 s33 => Q r33 s33)) ∧ (¬ p1 = (0 : Int32) → ((p1 = (1 : Int32) → f_X0_windwardOfOneTack σ p2 p3 p4 (fun r42 s42 => Q r42 s42)) ∧ (¬ p1 = (1 : Int32) → f_X0_asternOnOneWay σ p2 p3 (fun r49 s49 => Q r49 s49)))))
set_option maxHeartbeats 4000000 in
set_option maxRecDepth 100000 in
theorem c_X0_keeperBy (l : Launch) (G : GG) (σ : St) (sz : Nat) (p1 : Int32) (p2 : Int32) (p3 : Int32) (p4 : Int32) (Q : Int32 → St → Prop) (h : f_X0_keeperBy σ p1 p2 p3 p4 Q) : CTi l yX0_keeperBy wsX0_keeperBy ({ frames := 5, cells := 0, slots := 0, locals := 111 }) [.ref (G.2.1 6), .int p1, .int p2, .int p3, .int p4] G σ sz Q := by
  refine Met.ofW (cc := cX0_keeperBy) (maxL := 5) (ret := (some .int)) (by decide) rfl ?_
  intro p e s m args below meth c s₁ B hml hv
  obtain ⟨rfl, hpre⟩ := hv
  have hr := B.returns
  have hlocks := B.notSynchronized
  obtain ⟨hsz, -⟩ := id hpre
  subst hsz
  obtain ⟨E, hh⟩ := EV.ofPre (⟨B.exec, B.bytes, hml, findClass_of_methodNamed B.named, atoms_spec (ws := wsX0_keeperBy) B.pre⟩ : CallFix p m c cX0_keeperBy 5 s _ wsX0_keeperBy RX0) hpre
  have hx := E.1.1
  have hb := E.1.2.1
  have hown := E.1.2.2.2.1
  have hts := E.1.2.2.2.2
  have hl := lv_entry ([.ref (G.2.1 6), .int p1, .int p2, .int p3, .int p4]) (n := 5) (Nat.le_of_ble_eq_true rfl)
  rw [lg_entry_eq]
  generalize (lg_sl ([.ref (G.2.1 6), .int p1, .int p2, .int p3, .int p4]) ++ List.replicate (5 - (lg_sl ([.ref (G.2.1 6), .int p1, .int p2, .int p3, .int p4])).length) Slot.unset).toArray = ls at hl ⊢
  have hl : lv_has ls 5 [(0, .ref (G.2.1 6)), (1, .int p1), (2, .int p2), (3, .int p3), (4, .int p4)] := hl
  unfold f_X0_keeperBy at h
  refine lv_iload_n hx hb dX0_keeperBy_0 rfl (lv_at hl 1 rfl) ?_
  by_cases c9_0 : p1 = (0 : Int32)
  · have h := h.1 c9_0
    refine lv_lookup (tgt := 28) (off := 27) hx hb dX0_keeperBy_1 (by decide) (by rw [c9_0] <;> rfl) (by decide) ?_
    refine lv_aload_n hx hb dX0_keeperBy_28 rfl (lv_at hl 0 rfl) ?_
    refine lv_iload_n hx hb dX0_keeperBy_29 rfl (lv_at hl 2 rfl) ?_
    refine lv_iload_n hx hb dX0_keeperBy_30 rfl (lv_at hl 3 rfl) ?_
    refine lv_iload hx hb dX0_keeperBy_31 (lv_at hl 4 rfl) ?_
    refine q_Vi (As := [.int p2, .int p3, .int p4]) (rest := []) E hh (c_X0_portAgainstStarboard l G _ _ _ _ _ _ h) (cwV 3 hts gX0_keeperBy_X0_portAgainstStarboard rfl rfl rfl (by decide +kernel) ⟨Nat.le_of_ble_eq_true rfl, Nat.le_of_ble_eq_true rfl⟩) (va_recv (ci := 0) E.2.1 hh.1 rfl (WW_at_6 G σ)) rfl hl.1 rfl (Nat.le_of_ble_eq_true rfl) dX0_keeperBy_33 ⟨Nat.zero_le _, Nat.zero_le _⟩ (fun r33 s33 H locs h hh => ?_)
    exact q_iret E hh hr hlocks h dX0_keeperBy_36
  have h := h.2 c9_0
  by_cases c9_1 : p1 = (1 : Int32)
  · have h := h.1 c9_1
    refine lv_lookup (tgt := 37) (off := 36) hx hb dX0_keeperBy_1 (by decide) (by rw [c9_1] <;> rfl) (by decide) ?_
    refine lv_aload_n hx hb dX0_keeperBy_37 rfl (lv_at hl 0 rfl) ?_
    refine lv_iload_n hx hb dX0_keeperBy_38 rfl (lv_at hl 2 rfl) ?_
    refine lv_iload_n hx hb dX0_keeperBy_39 rfl (lv_at hl 3 rfl) ?_
    refine lv_iload hx hb dX0_keeperBy_40 (lv_at hl 4 rfl) ?_
    refine q_Vi (As := [.int p2, .int p3, .int p4]) (rest := []) E hh (c_X0_windwardOfOneTack l G _ _ _ _ _ _ h) (cwV 3 hts gX0_keeperBy_X0_windwardOfOneTack rfl rfl rfl (by decide +kernel) ⟨Nat.le_of_ble_eq_true rfl, Nat.le_of_ble_eq_true rfl⟩) (va_recv (ci := 0) E.2.1 hh.1 rfl (WW_at_6 G σ)) rfl hl.1 rfl (Nat.le_of_ble_eq_true rfl) dX0_keeperBy_42 ⟨Nat.zero_le _, Nat.zero_le _⟩ (fun r42 s42 H locs h hh => ?_)
    exact q_iret E hh hr hlocks h dX0_keeperBy_45
  have h := h.2 c9_1
  refine lv_lookup (tgt := 46) (off := 45) hx hb dX0_keeperBy_1 (by decide) (by show Op.lookupswitch.offset [(0, 27), (1, 36)] 45 _ = 45; rw [lv_osw c9_0 (show ((0 : Int32)).toInt = 0 by decide), lv_osw c9_1 (show ((1 : Int32)).toInt = 1 by decide)] <;> rfl) (by decide) ?_
  refine lv_aload_n hx hb dX0_keeperBy_46 rfl (lv_at hl 0 rfl) ?_
  refine lv_iload_n hx hb dX0_keeperBy_47 rfl (lv_at hl 2 rfl) ?_
  refine lv_iload_n hx hb dX0_keeperBy_48 rfl (lv_at hl 3 rfl) ?_
  refine q_Vi (As := [.int p2, .int p3]) (rest := []) E hh (c_X0_asternOnOneWay l G _ _ _ _ _ h) (cwV 2 hts gX0_keeperBy_X0_asternOnOneWay rfl rfl rfl (by decide +kernel) ⟨Nat.le_of_ble_eq_true rfl, Nat.le_of_ble_eq_true rfl⟩) (va_recv (ci := 0) E.2.1 hh.1 rfl (WW_at_6 G σ)) rfl hl.1 rfl (Nat.le_of_ble_eq_true rfl) dX0_keeperBy_49 ⟨Nat.zero_le _, Nat.zero_le _⟩ (fun r49 s49 H locs h hh => ?_)
  exact q_iret E hh hr hlocks h dX0_keeperBy_52
def f_X0_keepsClear_10 (Q : Int32 → St → Prop)  (rec : St → Int32 → Int32 → Int32 → Int32 → Prop) (σ : St) (l1 : Int32) (l2 : Int32) (l4 : Int32) (l5 : Int32) : Prop :=
  (((gi σ 12) ≤ l5 → Q (-1 : Int32) σ) ∧ (¬ (gi σ 12) ≤ l5 → (((3 : Int32) ≤ l5 → Q (-1 : Int32) σ) ∧ (¬ (3 : Int32) ≤ l5 → (vp_in l5 3 ∧ f_X0_keeperBy σ (ga σ 14 l5.toNatClampNeg) l1 l2 l4 (fun r37 s37 => ((r37 = (-1 : Int32) → rec s37 l1 l2 l4 (l5 + 1)) ∧ (¬ r37 = (-1 : Int32) → Q r37 s37))))))))
def f_X0_keepsClear_10L (Q : Int32 → St → Prop)  : Nat → St → Int32 → Int32 → Int32 → Int32 → Prop
  | 0, _, _, _, _, _ => False
  | n + 1, σ, l1, l2, l4, l5 => f_X0_keepsClear_10 Q  (f_X0_keepsClear_10L Q  n) σ l1 l2 l4 l5
set_option maxHeartbeats 4000000 in
set_option maxRecDepth 100000 in
theorem w_X0_keepsClear_10 {p : Program} {l : Launch} {e : Env} {s : State} {m : MethodId} {args : Array Value} {below : List Frame} {meth : Method} {c : Code} {G : GG} (E : EV p s m args c cX0_keepsClear 7 wsX0_keepsClear RX0 G (AD G s.heap.size)) (hr : meth.sig.returnType = (some .int)) (hlocks : meth.locks = false) {Q : Int32 → St → Prop}  : ∀ (n : Nat) (σ : St) (l1 : Int32) (l2 : Int32) (l4 : Int32) (l5 : Int32) (H : Heap) (locs : List Loc) (ls : Array Slot), f_X0_keepsClear_10L Q  n σ l1 l2 l4 l5 → HH G (AD G s.heap.size) s σ H locs → lv_has ls 7 [(0, .ref (G.2.1 6)), (1, .int l1), (2, .int l2), (3, .ref (G.2.1 4)), (4, .int l4), (5, .int l5)] → W p l e ({ frames := 6, cells := 0, slots := 0, locals := 135 }) s m args below meth c H locs 0 0 (MQi below G args s Q) (F0 m 10 ls []) := by
  have hx := E.1.1
  have hb := E.1.2.1
  have hown := E.1.2.2.2.1
  have hts := E.1.2.2.2.2
  have h_inX6 : ∀ w ∈ wsX60, w ∈ wsX0_keepsClear := (fun _ h9 => (List.mem_cons_of_mem _ (List.mem_append_left _ (List.mem_append_right _ h9))))
  intro n
  induction n with
  | zero =>
    intro σ l1 l2 l4 l5 H locs ls h
    exact h.elim
  | succ n ih =>
    intro σ l1 l2 l4 l5 H locs ls h hh hl
    have h : f_X0_keepsClear_10 Q  (f_X0_keepsClear_10L Q  n) σ l1 l2 l4 l5 := h
    unfold f_X0_keepsClear_10 at h
    refine lv_iload hx hb dX0_keepsClear_10 (lv_at hl 5 rfl) ?_
    refine lv_aload_n hx hb dX0_keepsClear_12 rfl (lv_at hl 3 rfl) ?_
    refine q_getN (T := TX6) (host := "IceRegatta") (v := .int (gi σ 12)) E hh h_inX6 4 (WW_at_4 G σ) rfl 5 (by decide) (List.mem_of_getElem? (i := 9) rfl) rfl rfl dX0_keepsClear_13 ?_
    refine lv_icmp_ge (tgt := 57) hx hb dX0_keepsClear_16 (by decide) (fun c9 => ?_) (fun c9 => ?_)
    · have h := h.1 c9
      refine lv_iconst (v := (-1 : Int32)) hx hb dX0_keepsClear_57 (by decide) ?_
      exact q_iret E hh hr hlocks h dX0_keepsClear_58
    · have h := h.2 c9
      refine lv_iload hx hb dX0_keepsClear_19 (lv_at hl 5 rfl) ?_
      refine lv_iconst (v := (3 : Int32)) hx hb dX0_keepsClear_21 (by decide) ?_
      refine lv_icmp_ge (tgt := 57) hx hb dX0_keepsClear_22 (by decide) (fun c9 => ?_) (fun c9 => ?_)
      · have h := h.1 c9
        refine lv_iconst (v := (-1 : Int32)) hx hb dX0_keepsClear_57 (by decide) ?_
        exact q_iret E hh hr hlocks h dX0_keepsClear_58
      · have h := h.2 c9
        refine lv_aload_n hx hb dX0_keepsClear_25 rfl (lv_at hl 0 rfl) ?_
        refine lv_aload_n hx hb dX0_keepsClear_26 rfl (lv_at hl 3 rfl) ?_
        refine q_getN (T := TX6) (host := "IceRegatta") (v := .ref (G.2.1 14)) E hh h_inX6 4 (WW_at_4 G σ) rfl 4 (by decide) (List.mem_of_getElem? (i := 8) rfl) rfl rfl dX0_keepsClear_27 ?_
        refine lv_iload hx hb dX0_keepsClear_30 (lv_at hl 5 rfl) ?_
        obtain ⟨h0, h⟩ := h
        refine q_iald E hh 14 (WW_at_14 G σ) h0 dX0_keepsClear_32 ?_
        refine lv_iload_n hx hb dX0_keepsClear_33 rfl (lv_at hl 1 rfl) ?_
        refine lv_iload_n hx hb dX0_keepsClear_34 rfl (lv_at hl 2 rfl) ?_
        refine lv_iload hx hb dX0_keepsClear_35 (lv_at hl 4 rfl) ?_
        refine q_Vi (As := [.int (ga σ 14 l5.toNatClampNeg), .int l1, .int l2, .int l4]) (rest := []) E hh (c_X0_keeperBy l G _ _ _ _ _ _ _ h) (cwV 4 hts gX0_keepsClear_X0_keeperBy rfl rfl rfl (by decide +kernel) ⟨Nat.le_of_ble_eq_true rfl, Nat.le_of_ble_eq_true rfl⟩) (va_recv (ci := 0) E.2.1 hh.1 rfl (WW_at_6 G σ)) rfl hl.1 rfl (Nat.le_of_ble_eq_true rfl) dX0_keepsClear_37 ⟨Nat.zero_le _, Nat.zero_le _⟩ (fun r37 s37 H locs h hh => ?_)
        refine lv_istore (lv' := [(6, .int r37), (0, .ref (G.2.1 6)), (1, .int l1), (2, .int l2), (3, .ref (G.2.1 4)), (4, .int l4), (5, .int l5)]) hx hb dX0_keepsClear_40 hl (by decide) rfl (fun ls hl => ?_)
        refine lv_iload hx hb dX0_keepsClear_42 (lv_at hl 0 rfl) ?_
        refine lv_iconst (v := (-1 : Int32)) hx hb dX0_keepsClear_44 (by decide) ?_
        refine lv_icmp_eq (tgt := 51) hx hb dX0_keepsClear_45 (by decide) (fun c9 => ?_) (fun c9 => ?_)
        · have h := h.1 c9
          refine lv_iinc (v := (l5 + 1)) (lv' := [(5, .int (l5 + 1)), (6, .int r37), (0, .ref (G.2.1 6)), (1, .int l1), (2, .int l2), (3, .ref (G.2.1 4)), (4, .int l4)]) hx hb dX0_keepsClear_51 hl (k := 6) rfl rfl (by decide) rfl (fun ls hl => ?_)
          refine lv_goto (tgt := 10) hx hb dX0_keepsClear_54 (by decide) ?_
          exact ih _ _ _ _ _ _ _ _ h hh (lv_sub hl [2, 3, 4, 5, 6, 0] rfl)
        · have h := h.2 c9
          refine lv_iload hx hb dX0_keepsClear_48 (lv_at hl 0 rfl) ?_
          exact q_iret E hh hr hlocks h dX0_keepsClear_50
def f_X0_keepsClear (σ : St) (p1 : Int32) (p2 : Int32) (p4 : Int32) (Q : Int32 → St → Prop) : Prop :=
  ((¬ p1 = p2 → f_X0_keepsClear_10L Q FU σ p1 p2 p4 (0 : Int32)) ∧ (p1 = p2 → Q (-1 : Int32) σ))
set_option maxHeartbeats 4000000 in
set_option maxRecDepth 100000 in
theorem c_X0_keepsClear (l : Launch) (G : GG) (σ : St) (sz : Nat) (p1 : Int32) (p2 : Int32) (p4 : Int32) (Q : Int32 → St → Prop) (h : f_X0_keepsClear σ p1 p2 p4 Q) : CTi l yX0_keepsClear wsX0_keepsClear ({ frames := 6, cells := 0, slots := 0, locals := 135 }) [.ref (G.2.1 6), .int p1, .int p2, .ref (G.2.1 4), .int p4] G σ sz Q := by
  refine Met.ofW (cc := cX0_keepsClear) (maxL := 7) (ret := (some .int)) (by decide) rfl ?_
  intro p e s m args below meth c s₁ B hml hv
  obtain ⟨rfl, hpre⟩ := hv
  have hr := B.returns
  have hlocks := B.notSynchronized
  obtain ⟨hsz, -⟩ := id hpre
  subst hsz
  obtain ⟨E, hh⟩ := EV.ofPre (⟨B.exec, B.bytes, hml, findClass_of_methodNamed B.named, atoms_spec (ws := wsX0_keepsClear) B.pre⟩ : CallFix p m c cX0_keepsClear 7 s _ wsX0_keepsClear RX0) hpre
  have hx := E.1.1
  have hb := E.1.2.1
  have hown := E.1.2.2.2.1
  have hts := E.1.2.2.2.2
  have h_inX6 : ∀ w ∈ wsX60, w ∈ wsX0_keepsClear := (fun _ h9 => (List.mem_cons_of_mem _ (List.mem_append_left _ (List.mem_append_right _ h9))))
  have hl := lv_entry ([.ref (G.2.1 6), .int p1, .int p2, .ref (G.2.1 4), .int p4]) (n := 7) (Nat.le_of_ble_eq_true rfl)
  rw [lg_entry_eq]
  generalize (lg_sl ([.ref (G.2.1 6), .int p1, .int p2, .ref (G.2.1 4), .int p4]) ++ List.replicate (7 - (lg_sl ([.ref (G.2.1 6), .int p1, .int p2, .ref (G.2.1 4), .int p4])).length) Slot.unset).toArray = ls at hl ⊢
  have hl : lv_has ls 7 [(0, .ref (G.2.1 6)), (1, .int p1), (2, .int p2), (3, .ref (G.2.1 4)), (4, .int p4)] := hl
  unfold f_X0_keepsClear at h
  refine lv_iload_n hx hb dX0_keepsClear_0 rfl (lv_at hl 1 rfl) ?_
  refine lv_iload_n hx hb dX0_keepsClear_1 rfl (lv_at hl 2 rfl) ?_
  refine lv_icmp_ne (tgt := 7) hx hb dX0_keepsClear_2 (by decide) (fun c9 => ?_) (fun c9 => ?_)
  · have h := h.1 c9
    refine lv_iconst (v := (0 : Int32)) hx hb dX0_keepsClear_7 (by decide) ?_
    refine lv_istore (lv' := [(5, .int (0 : Int32)), (0, .ref (G.2.1 6)), (1, .int p1), (2, .int p2), (3, .ref (G.2.1 4)), (4, .int p4)]) hx hb dX0_keepsClear_8 hl (by decide) rfl (fun ls hl => ?_)
    exact w_X0_keepsClear_10 E hr hlocks  FU _ _ _ _ _ _ _ _ h hh (lv_sub hl [1, 2, 3, 4, 5, 0] rfl)
  · have h := h.2 c9
    refine lv_iconst (v := (-1 : Int32)) hx hb dX0_keepsClear_5 (by decide) ?_
    exact q_iret E hh hr hlocks h dX0_keepsClear_6
def f_X2_isInSecond (σ : St) (p1 : Int32) (Q : Int32 → St → Prop) : Prop :=
  f_X8_isBoatNumber σ p1 (fun r1 s1 => ((r1 = 0 → Q (0 : Int32) s1) ∧ (¬ r1 = 0 → (vp_in p1 16 ∧ (((ga s1 24 p1.toNatClampNeg) = 0 → Q (0 : Int32) s1) ∧ (¬ (ga s1 24 p1.toNatClampNeg) = 0 → Q (1 : Int32) s1))))))
set_option maxHeartbeats 4000000 in
set_option maxRecDepth 100000 in
theorem c_X2_isInSecond (l : Launch) (G : GG) (σ : St) (sz : Nat) (p1 : Int32) (Q : Int32 → St → Prop) (h : f_X2_isInSecond σ p1 Q) : CTi l yX2_isInSecond wsX2_isInSecond ({ frames := 1, cells := 0, slots := 0, locals := 20 }) [.ref (G.2.1 8), .int p1] G σ sz Q := by
  refine Met.ofW (cc := cX2_isInSecond) (maxL := 2) (ret := (some .boolean)) (by decide) rfl ?_
  intro p e s m args below meth c s₁ B hml hv
  obtain ⟨rfl, hpre⟩ := hv
  have hr := B.returns
  have hlocks := B.notSynchronized
  obtain ⟨hsz, -⟩ := id hpre
  subst hsz
  obtain ⟨E, hh⟩ := EV.ofPre (⟨B.exec, B.bytes, hml, findClass_of_methodNamed B.named, atoms_spec (ws := wsX2_isInSecond) B.pre⟩ : CallFix p m c cX2_isInSecond 2 s _ wsX2_isInSecond RX2) hpre
  have hx := E.1.1
  have hb := E.1.2.1
  have hown := E.1.2.2.2.1
  have hts := E.1.2.2.2.2
  have h_inX2 : ∀ w ∈ wsX20, w ∈ wsX2_isInSecond := (fun _ h9 => (List.mem_cons_of_mem _ (List.mem_append_right _ h9)))
  have hl := lv_entry ([.ref (G.2.1 8), .int p1]) (n := 2) (Nat.le_of_ble_eq_true rfl)
  rw [lg_entry_eq]
  generalize (lg_sl ([.ref (G.2.1 8), .int p1]) ++ List.replicate (2 - (lg_sl ([.ref (G.2.1 8), .int p1])).length) Slot.unset).toArray = ls at hl ⊢
  have hl : lv_has ls 2 [(0, .ref (G.2.1 8)), (1, .int p1)] := hl
  unfold f_X2_isInSecond at h
  refine lv_iload_n hx hb dX2_isInSecond_0 rfl (lv_at hl 1 rfl) ?_
  refine q_Ni (As := [.int p1]) (rest := []) E hh (c_X8_isBoatNumber l G _ _ _ _ h) (va_cnB 1 hts gX2_isInSecond_X8_isBoatNumber_n22 rfl rfl rfl (E.2.2.2.1.1.2.1 (RX2, 22, (⟨RX8, "isBoatNumber", "(I)Z"⟩ : MethodName), "IceRegatta") (List.mem_of_getElem? (i := 15) rfl)) (hts _ (List.mem_cons_of_mem _ (List.mem_append_left _ (List.mem_of_getElem? (i := 2) rfl)))) (by decide +kernel) ⟨Nat.le_of_ble_eq_true rfl, Nat.le_of_ble_eq_true rfl⟩) (List.mem_cons_of_mem _ (List.mem_append_left _ (List.mem_of_getElem? (i := 1) rfl))) rfl hl.1 rfl (Nat.le_of_ble_eq_true rfl) dX2_isInSecond_1 ⟨Nat.zero_le _, Nat.zero_le _⟩ (fun r1 s1 H locs h hh => ?_)
  refine lv_if_eq (tgt := 20) hx hb dX2_isInSecond_4 (by decide) (fun c9 => ?_) (fun c9 => ?_)
  · have h := h.1 c9
    refine lv_iconst (v := (0 : Int32)) hx hb dX2_isInSecond_20 (by decide) ?_
    exact q_zret (ty := .boolean) E hh hr hlocks rfl h dX2_isInSecond_21
  · have h := h.2 c9
    refine lv_aload_n hx hb dX2_isInSecond_7 rfl (lv_at hl 0 rfl) ?_
    refine q_get (T := TX2) (v := .ref (G.2.1 24)) E hh h_inX2 8 (WW_at_8 G s1) rfl 0 (by decide) (List.mem_cons_of_mem _ (List.mem_append_left _ (List.mem_of_getElem? (i := 0) rfl))) rfl rfl dX2_isInSecond_8 ?_
    refine lv_iload_n hx hb dX2_isInSecond_11 rfl (lv_at hl 1 rfl) ?_
    obtain ⟨h0, h⟩ := h
    refine q_zald E hh 24 (WW_at_24 G s1) h0 dX2_isInSecond_12 ?_
    refine lv_if_eq (tgt := 20) hx hb dX2_isInSecond_13 (by decide) (fun c9 => ?_) (fun c9 => ?_)
    · have h := h.1 c9
      refine lv_iconst (v := (0 : Int32)) hx hb dX2_isInSecond_20 (by decide) ?_
      exact q_zret (ty := .boolean) E hh hr hlocks rfl h dX2_isInSecond_21
    · have h := h.2 c9
      refine lv_iconst (v := (1 : Int32)) hx hb dX2_isInSecond_16 (by decide) ?_
      refine lv_goto (tgt := 21) hx hb dX2_isInSecond_17 (by decide) ?_
      exact q_zret (ty := .boolean) E hh hr hlocks rfl h dX2_isInSecond_21
def f_X2_fleetOf (σ : St) (p1 : Int32) (Q : Int32 → St → Prop) : Prop :=
  f_X2_isInSecond σ p1 (fun r2 s2 => ((r2 = 0 → Q (0 : Int32) s2) ∧ (¬ r2 = 0 → Q (1 : Int32) s2)))
set_option maxHeartbeats 4000000 in
set_option maxRecDepth 100000 in
theorem c_X2_fleetOf (l : Launch) (G : GG) (σ : St) (sz : Nat) (p1 : Int32) (Q : Int32 → St → Prop) (h : f_X2_fleetOf σ p1 Q) : CTi l yX2_fleetOf wsX2_fleetOf ({ frames := 2, cells := 0, slots := 0, locals := 41 }) [.ref (G.2.1 8), .int p1] G σ sz Q := by
  refine Met.ofW (cc := cX2_fleetOf) (maxL := 2) (ret := (some .int)) (by decide) rfl ?_
  intro p e s m args below meth c s₁ B hml hv
  obtain ⟨rfl, hpre⟩ := hv
  have hr := B.returns
  have hlocks := B.notSynchronized
  obtain ⟨hsz, -⟩ := id hpre
  subst hsz
  obtain ⟨E, hh⟩ := EV.ofPre (⟨B.exec, B.bytes, hml, findClass_of_methodNamed B.named, atoms_spec (ws := wsX2_fleetOf) B.pre⟩ : CallFix p m c cX2_fleetOf 2 s _ wsX2_fleetOf RX2) hpre
  have hx := E.1.1
  have hb := E.1.2.1
  have hown := E.1.2.2.2.1
  have hts := E.1.2.2.2.2
  have hl := lv_entry ([.ref (G.2.1 8), .int p1]) (n := 2) (Nat.le_of_ble_eq_true rfl)
  rw [lg_entry_eq]
  generalize (lg_sl ([.ref (G.2.1 8), .int p1]) ++ List.replicate (2 - (lg_sl ([.ref (G.2.1 8), .int p1])).length) Slot.unset).toArray = ls at hl ⊢
  have hl : lv_has ls 2 [(0, .ref (G.2.1 8)), (1, .int p1)] := hl
  unfold f_X2_fleetOf at h
  refine lv_aload_n hx hb dX2_fleetOf_0 rfl (lv_at hl 0 rfl) ?_
  refine lv_iload_n hx hb dX2_fleetOf_1 rfl (lv_at hl 1 rfl) ?_
  refine q_Vi (As := [.int p1]) (rest := []) E hh (c_X2_isInSecond l G _ _ _ _ h) (cwV 1 hts gX2_fleetOf_X2_isInSecond rfl rfl rfl (by decide +kernel) ⟨Nat.le_of_ble_eq_true rfl, Nat.le_of_ble_eq_true rfl⟩) (va_recv (ci := 2) E.2.1 hh.1 rfl (WW_at_8 G σ)) rfl hl.1 rfl (Nat.le_of_ble_eq_true rfl) dX2_fleetOf_2 ⟨Nat.zero_le _, Nat.zero_le _⟩ (fun r2 s2 H locs h hh => ?_)
  refine lv_if_eq (tgt := 12) hx hb dX2_fleetOf_5 (by decide) (fun c9 => ?_) (fun c9 => ?_)
  · have h := h.1 c9
    refine lv_iconst (v := (0 : Int32)) hx hb dX2_fleetOf_12 (by decide) ?_
    exact q_iret E hh hr hlocks h dX2_fleetOf_13
  · have h := h.2 c9
    refine lv_iconst (v := (1 : Int32)) hx hb dX2_fleetOf_8 (by decide) ?_
    refine lv_goto (tgt := 13) hx hb dX2_fleetOf_9 (by decide) ?_
    exact q_iret E hh hr hlocks h dX2_fleetOf_13
def f_X2_partRanked_3 (Q : Int32 → St → Prop)  (rec : St → Int32 → Int32 → Int32 → Prop) (σ : St) (l2 : Int32) (l3 : Int32) (l4 : Int32) : Prop :=
  ((l2 ≤ l4 → Q (if l2 < l3 then l2 else l3) σ) ∧ (¬ l2 ≤ l4 → (((16 : Int32) ≤ l4 → Q (if l2 < l3 then l2 else l3) σ) ∧ (¬ (16 : Int32) ≤ l4 → (vp_in l4 16 ∧ f_X8_isBoatNumber σ (ga σ 23 l4.toNatClampNeg) (fun r20 s20 => ((r20 = 0 → rec s20 l2 l3 (l4 + 1)) ∧ (¬ r20 = 0 → (vp_in l4 16 ∧ ((l4 < l3 → (vp_in (ga s20 23 l4.toNatClampNeg) 16 ∧ rec (sa s20 24 (upd (ga s20 24) (ga s20 23 l4.toNatClampNeg).toNatClampNeg (vp_nar .boolean (0 : Int32)))) l2 l3 (l4 + 1))) ∧ (¬ l4 < l3 → (vp_in (ga s20 23 l4.toNatClampNeg) 16 ∧ rec (sa s20 24 (upd (ga s20 24) (ga s20 23 l4.toNatClampNeg).toNatClampNeg (vp_nar .boolean (1 : Int32)))) l2 l3 (l4 + 1)))))))))))))
def f_X2_partRanked_3L (Q : Int32 → St → Prop)  : Nat → St → Int32 → Int32 → Int32 → Prop
  | 0, _, _, _, _ => False
  | n + 1, σ, l2, l3, l4 => f_X2_partRanked_3 Q  (f_X2_partRanked_3L Q  n) σ l2 l3 l4
set_option maxHeartbeats 4000000 in
set_option maxRecDepth 100000 in
theorem w_X2_partRanked_3 {p : Program} {l : Launch} {e : Env} {s : State} {m : MethodId} {args : Array Value} {below : List Frame} {meth : Method} {c : Code} {G : GG} (E : EV p s m args c cX2_partRanked 5 wsX2_partRanked RX2 G (AD G s.heap.size)) (hr : meth.sig.returnType = (some .int)) (hlocks : meth.locks = false) {Q : Int32 → St → Prop}  : ∀ (n : Nat) (σ : St) (l2 : Int32) (l3 : Int32) (l4 : Int32) (H : Heap) (locs : List Loc) (ls : Array Slot), f_X2_partRanked_3L Q  n σ l2 l3 l4 → HH G (AD G s.heap.size) s σ H locs → lv_has ls 5 [(0, .ref (G.2.1 8)), (1, .ref (G.2.1 23)), (2, .int l2), (3, .int l3), (4, .int l4)] → W p l e ({ frames := 1, cells := 0, slots := 0, locals := 21 }) s m args below meth c H locs 0 0 (MQi below G args s Q) (F0 m 3 ls []) := by
  have hx := E.1.1
  have hb := E.1.2.1
  have hown := E.1.2.2.2.1
  have hts := E.1.2.2.2.2
  have h_inX2 : ∀ w ∈ wsX20, w ∈ wsX2_partRanked := (fun _ h9 => (List.mem_cons_of_mem _ (List.mem_append_right _ h9)))
  intro n
  induction n with
  | zero =>
    intro σ l2 l3 l4 H locs ls h
    exact h.elim
  | succ n ih =>
    intro σ l2 l3 l4 H locs ls h hh hl
    have h : f_X2_partRanked_3 Q  (f_X2_partRanked_3L Q  n) σ l2 l3 l4 := h
    unfold f_X2_partRanked_3 at h
    refine lv_iload hx hb dX2_partRanked_3 (lv_at hl 4 rfl) ?_
    refine lv_iload_n hx hb dX2_partRanked_5 rfl (lv_at hl 2 rfl) ?_
    refine lv_icmp_ge (tgt := 52) hx hb dX2_partRanked_6 (by decide) (fun c9 => ?_) (fun c9 => ?_)
    · have h := h.1 c9
      refine lv_iload_n hx hb dX2_partRanked_52 rfl (lv_at hl 3 rfl) ?_
      refine lv_iload_n hx hb dX2_partRanked_53 rfl (lv_at hl 2 rfl) ?_
      refine va_mmin (own := RX2) hx hb (by rw [E.1.2.2.1]; exact hl.1.symm) hown (hts _ (List.mem_cons_of_mem _ (List.mem_append_left _ (List.mem_of_getElem? (i := 1) rfl)))) (hts _ (List.mem_cons_of_mem _ (List.mem_append_left _ (List.mem_of_getElem? (i := 2) rfl)))) (hts _ (List.mem_cons_of_mem _ (List.mem_append_left _ (List.mem_of_getElem? (i := 3) rfl)))) (hts _ (List.mem_cons_of_mem _ (List.mem_append_left _ (List.mem_of_getElem? (i := 4) rfl)))) (Nat.le_of_ble_eq_true rfl) (Nat.le_of_ble_eq_true rfl) (Nat.zero_le _) (Nat.zero_le _) dX2_partRanked_54 ?_
      exact q_iret E hh hr hlocks h dX2_partRanked_57
    · have h := h.2 c9
      refine lv_iload hx hb dX2_partRanked_9 (lv_at hl 4 rfl) ?_
      refine lv_aload_n hx hb dX2_partRanked_11 rfl (lv_at hl 1 rfl) ?_
      refine q_alen (v := (16 : Int32)) E hh 23 0 (WW_at_23 G σ) rfl rfl dX2_partRanked_12 ?_
      refine lv_icmp_ge (tgt := 52) hx hb dX2_partRanked_13 (by decide) (fun c9 => ?_) (fun c9 => ?_)
      · have h := h.1 c9
        refine lv_iload_n hx hb dX2_partRanked_52 rfl (lv_at hl 3 rfl) ?_
        refine lv_iload_n hx hb dX2_partRanked_53 rfl (lv_at hl 2 rfl) ?_
        refine va_mmin (own := RX2) hx hb (by rw [E.1.2.2.1]; exact hl.1.symm) hown (hts _ (List.mem_cons_of_mem _ (List.mem_append_left _ (List.mem_of_getElem? (i := 1) rfl)))) (hts _ (List.mem_cons_of_mem _ (List.mem_append_left _ (List.mem_of_getElem? (i := 2) rfl)))) (hts _ (List.mem_cons_of_mem _ (List.mem_append_left _ (List.mem_of_getElem? (i := 3) rfl)))) (hts _ (List.mem_cons_of_mem _ (List.mem_append_left _ (List.mem_of_getElem? (i := 4) rfl)))) (Nat.le_of_ble_eq_true rfl) (Nat.le_of_ble_eq_true rfl) (Nat.zero_le _) (Nat.zero_le _) dX2_partRanked_54 ?_
        exact q_iret E hh hr hlocks h dX2_partRanked_57
      · have h := h.2 c9
        refine lv_aload_n hx hb dX2_partRanked_16 rfl (lv_at hl 1 rfl) ?_
        refine lv_iload hx hb dX2_partRanked_17 (lv_at hl 4 rfl) ?_
        obtain ⟨h0, h⟩ := h
        refine q_iald E hh 23 (WW_at_23 G σ) h0 dX2_partRanked_19 ?_
        refine q_Ni (As := [.int (ga σ 23 l4.toNatClampNeg)]) (rest := []) E hh (c_X8_isBoatNumber l G _ _ _ _ h) (va_cnB 1 hts gX2_partRanked_X8_isBoatNumber_n22 rfl rfl rfl (E.2.2.2.1.1.2.1 (RX2, 22, (⟨RX8, "isBoatNumber", "(I)Z"⟩ : MethodName), "IceRegatta") (List.mem_of_getElem? (i := 15) rfl)) (hts _ (List.mem_cons_of_mem _ (List.mem_append_left _ (List.mem_of_getElem? (i := 6) rfl)))) (by decide +kernel) ⟨Nat.le_of_ble_eq_true rfl, Nat.le_of_ble_eq_true rfl⟩) (List.mem_cons_of_mem _ (List.mem_append_left _ (List.mem_of_getElem? (i := 5) rfl))) rfl hl.1 rfl (Nat.le_of_ble_eq_true rfl) dX2_partRanked_20 ⟨Nat.zero_le _, Nat.zero_le _⟩ (fun r20 s20 H locs h hh => ?_)
        refine lv_if_eq (tgt := 46) hx hb dX2_partRanked_23 (by decide) (fun c9 => ?_) (fun c9 => ?_)
        · have h := h.1 c9
          refine lv_iinc (v := (l4 + 1)) (lv' := [(4, .int (l4 + 1)), (0, .ref (G.2.1 8)), (1, .ref (G.2.1 23)), (2, .int l2), (3, .int l3)]) hx hb dX2_partRanked_46 hl (k := 4) rfl rfl (by decide) rfl (fun ls hl => ?_)
          refine lv_goto (tgt := 3) hx hb dX2_partRanked_49 (by decide) ?_
          exact ih _ _ _ _ _ _ _ h hh (lv_sub hl [1, 2, 3, 4, 0] rfl)
        · have h := h.2 c9
          refine lv_aload_n hx hb dX2_partRanked_26 rfl (lv_at hl 0 rfl) ?_
          refine q_get (T := TX2) (v := .ref (G.2.1 24)) E hh h_inX2 8 (WW_at_8 G s20) rfl 0 (by decide) (List.mem_cons_of_mem _ (List.mem_append_left _ (List.mem_of_getElem? (i := 0) rfl))) rfl rfl dX2_partRanked_27 ?_
          refine lv_aload_n hx hb dX2_partRanked_30 rfl (lv_at hl 1 rfl) ?_
          refine lv_iload hx hb dX2_partRanked_31 (lv_at hl 4 rfl) ?_
          obtain ⟨h0, h⟩ := h
          refine q_iald E hh 23 (WW_at_23 G s20) h0 dX2_partRanked_33 ?_
          refine lv_iload hx hb dX2_partRanked_34 (lv_at hl 4 rfl) ?_
          refine lv_iload_n hx hb dX2_partRanked_36 rfl (lv_at hl 3 rfl) ?_
          refine lv_icmp_lt (tgt := 44) hx hb dX2_partRanked_37 (by decide) (fun c9 => ?_) (fun c9 => ?_)
          · have h := h.1 c9
            refine lv_iconst (v := (0 : Int32)) hx hb dX2_partRanked_44 (by decide) ?_
            obtain ⟨h0, h⟩ := h
            refine q_zast E hh 24 (WW_at_24 G s20) h0 dX2_partRanked_45 (WW_sa_24 G s20 (upd (ga s20 24) (ga s20 23 l4.toNatClampNeg).toNatClampNeg (vp_nar .boolean (0 : Int32)))) (fun H locs hh => ?_)
            refine lv_iinc (v := (l4 + 1)) (lv' := [(4, .int (l4 + 1)), (0, .ref (G.2.1 8)), (1, .ref (G.2.1 23)), (2, .int l2), (3, .int l3)]) hx hb dX2_partRanked_46 hl (k := 4) rfl rfl (by decide) rfl (fun ls hl => ?_)
            refine lv_goto (tgt := 3) hx hb dX2_partRanked_49 (by decide) ?_
            exact ih _ _ _ _ _ _ _ h hh (lv_sub hl [1, 2, 3, 4, 0] rfl)
          · have h := h.2 c9
            refine lv_iconst (v := (1 : Int32)) hx hb dX2_partRanked_40 (by decide) ?_
            refine lv_goto (tgt := 45) hx hb dX2_partRanked_41 (by decide) ?_
            obtain ⟨h0, h⟩ := h
            refine q_zast E hh 24 (WW_at_24 G s20) h0 dX2_partRanked_45 (WW_sa_24 G s20 (upd (ga s20 24) (ga s20 23 l4.toNatClampNeg).toNatClampNeg (vp_nar .boolean (1 : Int32)))) (fun H locs hh => ?_)
            refine lv_iinc (v := (l4 + 1)) (lv' := [(4, .int (l4 + 1)), (0, .ref (G.2.1 8)), (1, .ref (G.2.1 23)), (2, .int l2), (3, .int l3)]) hx hb dX2_partRanked_46 hl (k := 4) rfl rfl (by decide) rfl (fun ls hl => ?_)
            refine lv_goto (tgt := 3) hx hb dX2_partRanked_49 (by decide) ?_
            exact ih _ _ _ _ _ _ _ h hh (lv_sub hl [1, 2, 3, 4, 0] rfl)
def f_X2_partRanked (σ : St) (p2 : Int32) (p3 : Int32) (Q : Int32 → St → Prop) : Prop :=
  f_X2_partRanked_3L Q FU σ p2 p3 (0 : Int32)
set_option maxHeartbeats 4000000 in
set_option maxRecDepth 100000 in
theorem c_X2_partRanked (l : Launch) (G : GG) (σ : St) (sz : Nat) (p2 : Int32) (p3 : Int32) (Q : Int32 → St → Prop) (h : f_X2_partRanked σ p2 p3 Q) : CTi l yX2_partRanked wsX2_partRanked ({ frames := 1, cells := 0, slots := 0, locals := 21 }) [.ref (G.2.1 8), .ref (G.2.1 23), .int p2, .int p3] G σ sz Q := by
  refine Met.ofW (cc := cX2_partRanked) (maxL := 5) (ret := (some .int)) (by decide) rfl ?_
  intro p e s m args below meth c s₁ B hml hv
  obtain ⟨rfl, hpre⟩ := hv
  have hr := B.returns
  have hlocks := B.notSynchronized
  obtain ⟨hsz, -⟩ := id hpre
  subst hsz
  obtain ⟨E, hh⟩ := EV.ofPre (⟨B.exec, B.bytes, hml, findClass_of_methodNamed B.named, atoms_spec (ws := wsX2_partRanked) B.pre⟩ : CallFix p m c cX2_partRanked 5 s _ wsX2_partRanked RX2) hpre
  have hx := E.1.1
  have hb := E.1.2.1
  have hown := E.1.2.2.2.1
  have hts := E.1.2.2.2.2
  have h_inX2 : ∀ w ∈ wsX20, w ∈ wsX2_partRanked := (fun _ h9 => (List.mem_cons_of_mem _ (List.mem_append_right _ h9)))
  have hl := lv_entry ([.ref (G.2.1 8), .ref (G.2.1 23), .int p2, .int p3]) (n := 5) (Nat.le_of_ble_eq_true rfl)
  rw [lg_entry_eq]
  generalize (lg_sl ([.ref (G.2.1 8), .ref (G.2.1 23), .int p2, .int p3]) ++ List.replicate (5 - (lg_sl ([.ref (G.2.1 8), .ref (G.2.1 23), .int p2, .int p3])).length) Slot.unset).toArray = ls at hl ⊢
  have hl : lv_has ls 5 [(0, .ref (G.2.1 8)), (1, .ref (G.2.1 23)), (2, .int p2), (3, .int p3)] := hl
  unfold f_X2_partRanked at h
  refine lv_iconst (v := (0 : Int32)) hx hb dX2_partRanked_0 (by decide) ?_
  refine lv_istore (lv' := [(4, .int (0 : Int32)), (0, .ref (G.2.1 8)), (1, .ref (G.2.1 23)), (2, .int p2), (3, .int p3)]) hx hb dX2_partRanked_1 hl (by decide) rfl (fun ls hl => ?_)
  exact w_X2_partRanked_3 E hr hlocks  FU _ _ _ _ _ _ _ h hh (lv_sub hl [1, 2, 3, 4, 0] rfl)
def f_X2_inSecond_4 (Q : Int32 → St → Prop)  (rec : St → Int32 → Int32 → Int32 → Prop) (σ : St) (l1 : Int32) (l2 : Int32) (l3 : Int32) : Prop :=
  ((l1 ≤ l3 → Q l2 σ) ∧ (¬ l1 ≤ l3 → f_X2_fleetOf σ l3 (fun r12 s12 => rec s12 l1 (l2 + r12) (l3 + 1))))
def f_X2_inSecond_4L (Q : Int32 → St → Prop)  : Nat → St → Int32 → Int32 → Int32 → Prop
  | 0, _, _, _, _ => False
  | n + 1, σ, l1, l2, l3 => f_X2_inSecond_4 Q  (f_X2_inSecond_4L Q  n) σ l1 l2 l3
set_option maxHeartbeats 4000000 in
set_option maxRecDepth 100000 in
theorem w_X2_inSecond_4 {p : Program} {l : Launch} {e : Env} {s : State} {m : MethodId} {args : Array Value} {below : List Frame} {meth : Method} {c : Code} {G : GG} (E : EV p s m args c cX2_inSecond 4 wsX2_inSecond RX2 G (AD G s.heap.size)) (hr : meth.sig.returnType = (some .int)) (hlocks : meth.locks = false) {Q : Int32 → St → Prop}  : ∀ (n : Nat) (σ : St) (l1 : Int32) (l2 : Int32) (l3 : Int32) (H : Heap) (locs : List Loc) (ls : Array Slot), f_X2_inSecond_4L Q  n σ l1 l2 l3 → HH G (AD G s.heap.size) s σ H locs → lv_has ls 4 [(0, .ref (G.2.1 8)), (1, .int l1), (2, .int l2), (3, .int l3)] → W p l e ({ frames := 3, cells := 0, slots := 0, locals := 62 }) s m args below meth c H locs 0 0 (MQi below G args s Q) (F0 m 4 ls []) := by
  have hx := E.1.1
  have hb := E.1.2.1
  have hown := E.1.2.2.2.1
  have hts := E.1.2.2.2.2
  intro n
  induction n with
  | zero =>
    intro σ l1 l2 l3 H locs ls h
    exact h.elim
  | succ n ih =>
    intro σ l1 l2 l3 H locs ls h hh hl
    have h : f_X2_inSecond_4 Q  (f_X2_inSecond_4L Q  n) σ l1 l2 l3 := h
    unfold f_X2_inSecond_4 at h
    refine lv_iload_n hx hb dX2_inSecond_4 rfl (lv_at hl 3 rfl) ?_
    refine lv_iload_n hx hb dX2_inSecond_5 rfl (lv_at hl 1 rfl) ?_
    refine lv_icmp_ge (tgt := 23) hx hb dX2_inSecond_6 (by decide) (fun c9 => ?_) (fun c9 => ?_)
    · have h := h.1 c9
      refine lv_iload_n hx hb dX2_inSecond_23 rfl (lv_at hl 2 rfl) ?_
      exact q_iret E hh hr hlocks h dX2_inSecond_24
    · have h := h.2 c9
      refine lv_iload_n hx hb dX2_inSecond_9 rfl (lv_at hl 2 rfl) ?_
      refine lv_aload_n hx hb dX2_inSecond_10 rfl (lv_at hl 0 rfl) ?_
      refine lv_iload_n hx hb dX2_inSecond_11 rfl (lv_at hl 3 rfl) ?_
      refine q_Vi (As := [.int l3]) (rest := [.int l2]) E hh (c_X2_fleetOf l G _ _ _ _ h) (cwV 1 hts gX2_inSecond_X2_fleetOf rfl rfl rfl (by decide +kernel) ⟨Nat.le_of_ble_eq_true rfl, Nat.le_of_ble_eq_true rfl⟩) (va_recv (ci := 2) E.2.1 hh.1 rfl (WW_at_8 G σ)) rfl hl.1 rfl (Nat.le_of_ble_eq_true rfl) dX2_inSecond_12 ⟨Nat.zero_le _, Nat.zero_le _⟩ (fun r12 s12 H locs h hh => ?_)
      refine lv_iadd hx hb dX2_inSecond_15 ?_
      refine lv_istore_n (lv' := [(2, .int (l2 + r12)), (0, .ref (G.2.1 8)), (1, .int l1), (3, .int l3)]) hx hb dX2_inSecond_16 rfl hl (by decide) rfl (fun ls hl => ?_)
      refine lv_iinc (v := (l3 + 1)) (lv' := [(3, .int (l3 + 1)), (2, .int (l2 + r12)), (0, .ref (G.2.1 8)), (1, .int l1)]) hx hb dX2_inSecond_17 hl (k := 3) rfl rfl (by decide) rfl (fun ls hl => ?_)
      refine lv_goto (tgt := 4) hx hb dX2_inSecond_20 (by decide) ?_
      exact ih _ _ _ _ _ _ _ h hh (lv_sub hl [2, 3, 1, 0] rfl)
def f_X2_inSecond (σ : St) (p1 : Int32) (Q : Int32 → St → Prop) : Prop :=
  f_X2_inSecond_4L Q FU σ p1 (0 : Int32) (0 : Int32)
set_option maxHeartbeats 4000000 in
set_option maxRecDepth 100000 in
theorem c_X2_inSecond (l : Launch) (G : GG) (σ : St) (sz : Nat) (p1 : Int32) (Q : Int32 → St → Prop) (h : f_X2_inSecond σ p1 Q) : CTi l yX2_inSecond wsX2_inSecond ({ frames := 3, cells := 0, slots := 0, locals := 62 }) [.ref (G.2.1 8), .int p1] G σ sz Q := by
  refine Met.ofW (cc := cX2_inSecond) (maxL := 4) (ret := (some .int)) (by decide) rfl ?_
  intro p e s m args below meth c s₁ B hml hv
  obtain ⟨rfl, hpre⟩ := hv
  have hr := B.returns
  have hlocks := B.notSynchronized
  obtain ⟨hsz, -⟩ := id hpre
  subst hsz
  obtain ⟨E, hh⟩ := EV.ofPre (⟨B.exec, B.bytes, hml, findClass_of_methodNamed B.named, atoms_spec (ws := wsX2_inSecond) B.pre⟩ : CallFix p m c cX2_inSecond 4 s _ wsX2_inSecond RX2) hpre
  have hx := E.1.1
  have hb := E.1.2.1
  have hown := E.1.2.2.2.1
  have hts := E.1.2.2.2.2
  have hl := lv_entry ([.ref (G.2.1 8), .int p1]) (n := 4) (Nat.le_of_ble_eq_true rfl)
  rw [lg_entry_eq]
  generalize (lg_sl ([.ref (G.2.1 8), .int p1]) ++ List.replicate (4 - (lg_sl ([.ref (G.2.1 8), .int p1])).length) Slot.unset).toArray = ls at hl ⊢
  have hl : lv_has ls 4 [(0, .ref (G.2.1 8)), (1, .int p1)] := hl
  unfold f_X2_inSecond at h
  refine lv_iconst (v := (0 : Int32)) hx hb dX2_inSecond_0 (by decide) ?_
  refine lv_istore_n (lv' := [(2, .int (0 : Int32)), (0, .ref (G.2.1 8)), (1, .int p1)]) hx hb dX2_inSecond_1 rfl hl (by decide) rfl (fun ls hl => ?_)
  refine lv_iconst (v := (0 : Int32)) hx hb dX2_inSecond_2 (by decide) ?_
  refine lv_istore_n (lv' := [(3, .int (0 : Int32)), (2, .int (0 : Int32)), (0, .ref (G.2.1 8)), (1, .int p1)]) hx hb dX2_inSecond_3 rfl hl (by decide) rfl (fun ls hl => ?_)
  exact w_X2_inSecond_4 E hr hlocks  FU _ _ _ _ _ _ _ h hh (lv_sub hl [2, 3, 1, 0] rfl)
def f_X2_choose (σ : St) (p1 : Int32) (Q : St → Prop) : Prop :=
  f_X8_isBoatNumber σ p1 (fun r1 s1 => ((r1 = 0 → Q s1) ∧ (¬ r1 = 0 → (vp_in p1 16 ∧ Q (sa s1 25 (upd (ga s1 25) p1.toNatClampNeg (vp_nar .boolean (1 : Int32))))))))
set_option maxHeartbeats 4000000 in
set_option maxRecDepth 100000 in
theorem c_X2_choose (l : Launch) (G : GG) (σ : St) (sz : Nat) (p1 : Int32) (Q : St → Prop) (h : f_X2_choose σ p1 Q) : CTv l yX2_choose wsX2_choose ({ frames := 1, cells := 0, slots := 0, locals := 20 }) [.ref (G.2.1 8), .int p1] G σ sz Q := by
  refine Met.ofW (cc := cX2_choose) (maxL := 2) (ret := none) (by decide) rfl ?_
  intro p e s m args below meth c s₁ B hml hv
  obtain ⟨rfl, hpre⟩ := hv
  have hr := B.returns
  have hlocks := B.notSynchronized
  obtain ⟨hsz, -⟩ := id hpre
  subst hsz
  obtain ⟨E, hh⟩ := EV.ofPre (⟨B.exec, B.bytes, hml, findClass_of_methodNamed B.named, atoms_spec (ws := wsX2_choose) B.pre⟩ : CallFix p m c cX2_choose 2 s _ wsX2_choose RX2) hpre
  have hx := E.1.1
  have hb := E.1.2.1
  have hown := E.1.2.2.2.1
  have hts := E.1.2.2.2.2
  have h_inX2 : ∀ w ∈ wsX20, w ∈ wsX2_choose := (fun _ h9 => (List.mem_cons_of_mem _ (List.mem_append_right _ h9)))
  have hl := lv_entry ([.ref (G.2.1 8), .int p1]) (n := 2) (Nat.le_of_ble_eq_true rfl)
  rw [lg_entry_eq]
  generalize (lg_sl ([.ref (G.2.1 8), .int p1]) ++ List.replicate (2 - (lg_sl ([.ref (G.2.1 8), .int p1])).length) Slot.unset).toArray = ls at hl ⊢
  have hl : lv_has ls 2 [(0, .ref (G.2.1 8)), (1, .int p1)] := hl
  unfold f_X2_choose at h
  refine lv_iload_n hx hb dX2_choose_0 rfl (lv_at hl 1 rfl) ?_
  refine q_Ni (As := [.int p1]) (rest := []) E hh (c_X8_isBoatNumber l G _ _ _ _ h) (va_cnB 1 hts gX2_choose_X8_isBoatNumber_n22 rfl rfl rfl (E.2.2.2.1.1.2.1 (RX2, 22, (⟨RX8, "isBoatNumber", "(I)Z"⟩ : MethodName), "IceRegatta") (List.mem_of_getElem? (i := 15) rfl)) (hts _ (List.mem_cons_of_mem _ (List.mem_append_left _ (List.mem_of_getElem? (i := 2) rfl)))) (by decide +kernel) ⟨Nat.le_of_ble_eq_true rfl, Nat.le_of_ble_eq_true rfl⟩) (List.mem_cons_of_mem _ (List.mem_append_left _ (List.mem_of_getElem? (i := 1) rfl))) rfl hl.1 rfl (Nat.le_of_ble_eq_true rfl) dX2_choose_1 ⟨Nat.zero_le _, Nat.zero_le _⟩ (fun r1 s1 H locs h hh => ?_)
  refine lv_if_eq (tgt := 14) hx hb dX2_choose_4 (by decide) (fun c9 => ?_) (fun c9 => ?_)
  · have h := h.1 c9
    exact q_vret E hh hr hlocks h dX2_choose_14
  · have h := h.2 c9
    refine lv_aload_n hx hb dX2_choose_7 rfl (lv_at hl 0 rfl) ?_
    refine q_get (T := TX2) (v := .ref (G.2.1 25)) E hh h_inX2 8 (WW_at_8 G s1) rfl 1 (by decide) (List.mem_cons_of_mem _ (List.mem_append_left _ (List.mem_of_getElem? (i := 0) rfl))) rfl rfl dX2_choose_8 ?_
    refine lv_iload_n hx hb dX2_choose_11 rfl (lv_at hl 1 rfl) ?_
    refine lv_iconst (v := (1 : Int32)) hx hb dX2_choose_12 (by decide) ?_
    obtain ⟨h0, h⟩ := h
    refine q_zast E hh 25 (WW_at_25 G s1) h0 dX2_choose_13 (WW_sa_25 G s1 (upd (ga s1 25) p1.toNatClampNeg (vp_nar .boolean (1 : Int32)))) (fun H locs hh => ?_)
    exact q_vret E hh hr hlocks h dX2_choose_14
def f_X2_chooseFirst_6 (Q : St → Prop)  (rec : St → Int32 → Int32 → Int32 → Prop) (σ : St) (l2 : Int32) (l4 : Int32) (l5 : Int32) : Prop :=
  ((l2 ≤ l5 → Q σ) ∧ (¬ l2 ≤ l5 → (((16 : Int32) ≤ l5 → Q σ) ∧ (¬ (16 : Int32) ≤ l5 → ((l4 ≤ 0 → Q σ) ∧ (¬ l4 ≤ 0 → (vp_in l5 16 ∧ f_X2_isInSecond σ (ga σ 23 l5.toNatClampNeg) (fun r29 s29 => ((r29 = 0 → rec s29 l2 l4 (l5 + 1)) ∧ (¬ r29 = 0 → (vp_in l5 16 ∧ f_X2_choose s29 (ga s29 23 l5.toNatClampNeg) (fun s40 => rec s40 l2 (l4 + (-1)) (l5 + 1)))))))))))))
def f_X2_chooseFirst_6L (Q : St → Prop)  : Nat → St → Int32 → Int32 → Int32 → Prop
  | 0, _, _, _, _ => False
  | n + 1, σ, l2, l4, l5 => f_X2_chooseFirst_6 Q  (f_X2_chooseFirst_6L Q  n) σ l2 l4 l5
set_option maxHeartbeats 4000000 in
set_option maxRecDepth 100000 in
theorem w_X2_chooseFirst_6 {p : Program} {l : Launch} {e : Env} {s : State} {m : MethodId} {args : Array Value} {below : List Frame} {meth : Method} {c : Code} {G : GG} (E : EV p s m args c cX2_chooseFirst 6 wsX2_chooseFirst RX2 G (AD G s.heap.size)) (hr : meth.sig.returnType = none) (hlocks : meth.locks = false) {Q : St → Prop}  : ∀ (n : Nat) (σ : St) (l2 : Int32) (l4 : Int32) (l5 : Int32) (H : Heap) (locs : List Loc) (ls : Array Slot), f_X2_chooseFirst_6L Q  n σ l2 l4 l5 → HH G (AD G s.heap.size) s σ H locs → lv_has ls 6 [(0, .ref (G.2.1 8)), (1, .ref (G.2.1 23)), (2, .int l2), (4, .int l4), (5, .int l5)] → W p l e ({ frames := 2, cells := 0, slots := 0, locals := 41 }) s m args below meth c H locs 0 0 (MQv below G args s Q) (F0 m 6 ls []) := by
  have hx := E.1.1
  have hb := E.1.2.1
  have hown := E.1.2.2.2.1
  have hts := E.1.2.2.2.2
  intro n
  induction n with
  | zero =>
    intro σ l2 l4 l5 H locs ls h
    exact h.elim
  | succ n ih =>
    intro σ l2 l4 l5 H locs ls h hh hl
    have h : f_X2_chooseFirst_6 Q  (f_X2_chooseFirst_6L Q  n) σ l2 l4 l5 := h
    unfold f_X2_chooseFirst_6 at h
    refine lv_iload hx hb dX2_chooseFirst_6 (lv_at hl 4 rfl) ?_
    refine lv_iload_n hx hb dX2_chooseFirst_8 rfl (lv_at hl 2 rfl) ?_
    refine lv_icmp_ge (tgt := 52) hx hb dX2_chooseFirst_9 (by decide) (fun c9 => ?_) (fun c9 => ?_)
    · have h := h.1 c9
      exact q_vret E hh hr hlocks h dX2_chooseFirst_52
    · have h := h.2 c9
      refine lv_iload hx hb dX2_chooseFirst_12 (lv_at hl 4 rfl) ?_
      refine lv_aload_n hx hb dX2_chooseFirst_14 rfl (lv_at hl 1 rfl) ?_
      refine q_alen (v := (16 : Int32)) E hh 23 0 (WW_at_23 G σ) rfl rfl dX2_chooseFirst_15 ?_
      refine lv_icmp_ge (tgt := 52) hx hb dX2_chooseFirst_16 (by decide) (fun c9 => ?_) (fun c9 => ?_)
      · have h := h.1 c9
        exact q_vret E hh hr hlocks h dX2_chooseFirst_52
      · have h := h.2 c9
        refine lv_iload hx hb dX2_chooseFirst_19 (lv_at hl 3 rfl) ?_
        refine lv_if_le (tgt := 52) hx hb dX2_chooseFirst_21 (by decide) (fun c9 => ?_) (fun c9 => ?_)
        · have h := h.1 c9
          exact q_vret E hh hr hlocks h dX2_chooseFirst_52
        · have h := h.2 c9
          refine lv_aload_n hx hb dX2_chooseFirst_24 rfl (lv_at hl 0 rfl) ?_
          refine lv_aload_n hx hb dX2_chooseFirst_25 rfl (lv_at hl 1 rfl) ?_
          refine lv_iload hx hb dX2_chooseFirst_26 (lv_at hl 4 rfl) ?_
          obtain ⟨h0, h⟩ := h
          refine q_iald E hh 23 (WW_at_23 G σ) h0 dX2_chooseFirst_28 ?_
          refine q_Vi (As := [.int (ga σ 23 l5.toNatClampNeg)]) (rest := []) E hh (c_X2_isInSecond l G _ _ _ _ h) (cwV 1 hts gX2_chooseFirst_X2_isInSecond rfl rfl rfl (by decide +kernel) ⟨Nat.le_of_ble_eq_true rfl, Nat.le_of_ble_eq_true rfl⟩) (va_recv (ci := 2) E.2.1 hh.1 rfl (WW_at_8 G σ)) rfl hl.1 rfl (Nat.le_of_ble_eq_true rfl) dX2_chooseFirst_29 ⟨Nat.zero_le _, Nat.zero_le _⟩ (fun r29 s29 H locs h hh => ?_)
          refine lv_if_eq (tgt := 46) hx hb dX2_chooseFirst_32 (by decide) (fun c9 => ?_) (fun c9 => ?_)
          · have h := h.1 c9
            refine lv_iinc (v := (l5 + 1)) (lv' := [(5, .int (l5 + 1)), (0, .ref (G.2.1 8)), (1, .ref (G.2.1 23)), (2, .int l2), (4, .int l4)]) hx hb dX2_chooseFirst_46 hl (k := 4) rfl rfl (by decide) rfl (fun ls hl => ?_)
            refine lv_goto (tgt := 6) hx hb dX2_chooseFirst_49 (by decide) ?_
            exact ih _ _ _ _ _ _ _ h hh (lv_sub hl [1, 2, 3, 4, 0] rfl)
          · have h := h.2 c9
            refine lv_aload_n hx hb dX2_chooseFirst_35 rfl (lv_at hl 0 rfl) ?_
            refine lv_aload_n hx hb dX2_chooseFirst_36 rfl (lv_at hl 1 rfl) ?_
            refine lv_iload hx hb dX2_chooseFirst_37 (lv_at hl 4 rfl) ?_
            obtain ⟨h0, h⟩ := h
            refine q_iald E hh 23 (WW_at_23 G s29) h0 dX2_chooseFirst_39 ?_
            refine q_Vv (As := [.int (ga s29 23 l5.toNatClampNeg)]) (rest := []) E hh (c_X2_choose l G _ _ _ _ h) (cwV 1 hts gX2_chooseFirst_X2_choose rfl rfl rfl (by decide +kernel) ⟨Nat.le_of_ble_eq_true rfl, Nat.le_of_ble_eq_true rfl⟩) (va_recv (ci := 2) E.2.1 hh.1 rfl (WW_at_8 G s29)) rfl hl.1 rfl (Nat.le_of_ble_eq_true rfl) dX2_chooseFirst_40 ⟨Nat.zero_le _, Nat.zero_le _⟩ (fun s40 H locs h hh => ?_)
            refine lv_iinc (v := (l4 + (-1))) (lv' := [(4, .int (l4 + (-1))), (0, .ref (G.2.1 8)), (1, .ref (G.2.1 23)), (2, .int l2), (5, .int l5)]) hx hb dX2_chooseFirst_43 hl (k := 3) rfl rfl (by decide) rfl (fun ls hl => ?_)
            refine lv_iinc (v := (l5 + 1)) (lv' := [(5, .int (l5 + 1)), (4, .int (l4 + (-1))), (0, .ref (G.2.1 8)), (1, .ref (G.2.1 23)), (2, .int l2)]) hx hb dX2_chooseFirst_46 hl (k := 4) rfl rfl (by decide) rfl (fun ls hl => ?_)
            refine lv_goto (tgt := 6) hx hb dX2_chooseFirst_49 (by decide) ?_
            exact ih _ _ _ _ _ _ _ h hh (lv_sub hl [2, 3, 4, 1, 0] rfl)
def f_X2_chooseFirst (σ : St) (p2 : Int32) (p3 : Int32) (Q : St → Prop) : Prop :=
  f_X2_chooseFirst_6L Q FU σ p2 p3 (0 : Int32)
set_option maxHeartbeats 4000000 in
set_option maxRecDepth 100000 in
theorem c_X2_chooseFirst (l : Launch) (G : GG) (σ : St) (sz : Nat) (p2 : Int32) (p3 : Int32) (Q : St → Prop) (h : f_X2_chooseFirst σ p2 p3 Q) : CTv l yX2_chooseFirst wsX2_chooseFirst ({ frames := 2, cells := 0, slots := 0, locals := 41 }) [.ref (G.2.1 8), .ref (G.2.1 23), .int p2, .int p3] G σ sz Q := by
  refine Met.ofW (cc := cX2_chooseFirst) (maxL := 6) (ret := none) (by decide) rfl ?_
  intro p e s m args below meth c s₁ B hml hv
  obtain ⟨rfl, hpre⟩ := hv
  have hr := B.returns
  have hlocks := B.notSynchronized
  obtain ⟨hsz, -⟩ := id hpre
  subst hsz
  obtain ⟨E, hh⟩ := EV.ofPre (⟨B.exec, B.bytes, hml, findClass_of_methodNamed B.named, atoms_spec (ws := wsX2_chooseFirst) B.pre⟩ : CallFix p m c cX2_chooseFirst 6 s _ wsX2_chooseFirst RX2) hpre
  have hx := E.1.1
  have hb := E.1.2.1
  have hown := E.1.2.2.2.1
  have hts := E.1.2.2.2.2
  have hl := lv_entry ([.ref (G.2.1 8), .ref (G.2.1 23), .int p2, .int p3]) (n := 6) (Nat.le_of_ble_eq_true rfl)
  rw [lg_entry_eq]
  generalize (lg_sl ([.ref (G.2.1 8), .ref (G.2.1 23), .int p2, .int p3]) ++ List.replicate (6 - (lg_sl ([.ref (G.2.1 8), .ref (G.2.1 23), .int p2, .int p3])).length) Slot.unset).toArray = ls at hl ⊢
  have hl : lv_has ls 6 [(0, .ref (G.2.1 8)), (1, .ref (G.2.1 23)), (2, .int p2), (3, .int p3)] := hl
  unfold f_X2_chooseFirst at h
  refine lv_iload_n hx hb dX2_chooseFirst_0 rfl (lv_at hl 3 rfl) ?_
  refine lv_istore (lv' := [(4, .int p3), (0, .ref (G.2.1 8)), (1, .ref (G.2.1 23)), (2, .int p2), (3, .int p3)]) hx hb dX2_chooseFirst_1 hl (by decide) rfl (fun ls hl => ?_)
  refine lv_iconst (v := (0 : Int32)) hx hb dX2_chooseFirst_3 (by decide) ?_
  refine lv_istore (lv' := [(5, .int (0 : Int32)), (4, .int p3), (0, .ref (G.2.1 8)), (1, .ref (G.2.1 23)), (2, .int p2), (3, .int p3)]) hx hb dX2_chooseFirst_4 hl (by decide) rfl (fun ls hl => ?_)
  exact w_X2_chooseFirst_6 E hr hlocks  FU _ _ _ _ _ _ _ h hh (lv_sub hl [2, 3, 4, 1, 0] rfl)
def f_X2_chooseLast_13 (Q : St → Prop)  (rec : St → Int32 → Int32 → Prop) (σ : St) (l4 : Int32) (l5 : Int32) : Prop :=
  ((l5 < 0 → Q σ) ∧ (¬ l5 < 0 → ((l4 ≤ 0 → Q σ) ∧ (¬ l4 ≤ 0 → (vp_in l5 16 ∧ f_X2_isInSecond σ (ga σ 23 l5.toNatClampNeg) (fun r28 s28 => ((¬ r28 = 0 → rec s28 l4 (l5 + (-1))) ∧ (r28 = 0 → (vp_in l5 16 ∧ f_X2_choose s28 (ga s28 23 l5.toNatClampNeg) (fun s39 => rec s39 (l4 + (-1)) (l5 + (-1))))))))))))
def f_X2_chooseLast_13L (Q : St → Prop)  : Nat → St → Int32 → Int32 → Prop
  | 0, _, _, _ => False
  | n + 1, σ, l4, l5 => f_X2_chooseLast_13 Q  (f_X2_chooseLast_13L Q  n) σ l4 l5
set_option maxHeartbeats 4000000 in
set_option maxRecDepth 100000 in
theorem w_X2_chooseLast_13 {p : Program} {l : Launch} {e : Env} {s : State} {m : MethodId} {args : Array Value} {below : List Frame} {meth : Method} {c : Code} {G : GG} (E : EV p s m args c cX2_chooseLast 6 wsX2_chooseLast RX2 G (AD G s.heap.size)) (hr : meth.sig.returnType = none) (hlocks : meth.locks = false) {Q : St → Prop}  : ∀ (n : Nat) (σ : St) (l4 : Int32) (l5 : Int32) (H : Heap) (locs : List Loc) (ls : Array Slot), f_X2_chooseLast_13L Q  n σ l4 l5 → HH G (AD G s.heap.size) s σ H locs → lv_has ls 6 [(0, .ref (G.2.1 8)), (1, .ref (G.2.1 23)), (4, .int l4), (5, .int l5)] → W p l e ({ frames := 2, cells := 0, slots := 0, locals := 41 }) s m args below meth c H locs 0 0 (MQv below G args s Q) (F0 m 13 ls []) := by
  have hx := E.1.1
  have hb := E.1.2.1
  have hown := E.1.2.2.2.1
  have hts := E.1.2.2.2.2
  intro n
  induction n with
  | zero =>
    intro σ l4 l5 H locs ls h
    exact h.elim
  | succ n ih =>
    intro σ l4 l5 H locs ls h hh hl
    have h : f_X2_chooseLast_13 Q  (f_X2_chooseLast_13L Q  n) σ l4 l5 := h
    unfold f_X2_chooseLast_13 at h
    refine lv_iload hx hb dX2_chooseLast_13 (lv_at hl 3 rfl) ?_
    refine lv_if_lt (tgt := 51) hx hb dX2_chooseLast_15 (by decide) (fun c9 => ?_) (fun c9 => ?_)
    · have h := h.1 c9
      exact q_vret E hh hr hlocks h dX2_chooseLast_51
    · have h := h.2 c9
      refine lv_iload hx hb dX2_chooseLast_18 (lv_at hl 2 rfl) ?_
      refine lv_if_le (tgt := 51) hx hb dX2_chooseLast_20 (by decide) (fun c9 => ?_) (fun c9 => ?_)
      · have h := h.1 c9
        exact q_vret E hh hr hlocks h dX2_chooseLast_51
      · have h := h.2 c9
        refine lv_aload_n hx hb dX2_chooseLast_23 rfl (lv_at hl 0 rfl) ?_
        refine lv_aload_n hx hb dX2_chooseLast_24 rfl (lv_at hl 1 rfl) ?_
        refine lv_iload hx hb dX2_chooseLast_25 (lv_at hl 3 rfl) ?_
        obtain ⟨h0, h⟩ := h
        refine q_iald E hh 23 (WW_at_23 G σ) h0 dX2_chooseLast_27 ?_
        refine q_Vi (As := [.int (ga σ 23 l5.toNatClampNeg)]) (rest := []) E hh (c_X2_isInSecond l G _ _ _ _ h) (cwV 1 hts gX2_chooseLast_X2_isInSecond rfl rfl rfl (by decide +kernel) ⟨Nat.le_of_ble_eq_true rfl, Nat.le_of_ble_eq_true rfl⟩) (va_recv (ci := 2) E.2.1 hh.1 rfl (WW_at_8 G σ)) rfl hl.1 rfl (Nat.le_of_ble_eq_true rfl) dX2_chooseLast_28 ⟨Nat.zero_le _, Nat.zero_le _⟩ (fun r28 s28 H locs h hh => ?_)
        refine lv_if_ne (tgt := 45) hx hb dX2_chooseLast_31 (by decide) (fun c9 => ?_) (fun c9 => ?_)
        · have h := h.1 c9
          refine lv_iinc (v := (l5 + (-1))) (lv' := [(5, .int (l5 + (-1))), (0, .ref (G.2.1 8)), (1, .ref (G.2.1 23)), (4, .int l4)]) hx hb dX2_chooseLast_45 hl (k := 3) rfl rfl (by decide) rfl (fun ls hl => ?_)
          refine lv_goto (tgt := 13) hx hb dX2_chooseLast_48 (by decide) ?_
          exact ih _ _ _ _ _ _ h hh (lv_sub hl [1, 2, 3, 0] rfl)
        · have h := h.2 c9
          refine lv_aload_n hx hb dX2_chooseLast_34 rfl (lv_at hl 0 rfl) ?_
          refine lv_aload_n hx hb dX2_chooseLast_35 rfl (lv_at hl 1 rfl) ?_
          refine lv_iload hx hb dX2_chooseLast_36 (lv_at hl 3 rfl) ?_
          obtain ⟨h0, h⟩ := h
          refine q_iald E hh 23 (WW_at_23 G s28) h0 dX2_chooseLast_38 ?_
          refine q_Vv (As := [.int (ga s28 23 l5.toNatClampNeg)]) (rest := []) E hh (c_X2_choose l G _ _ _ _ h) (cwV 1 hts gX2_chooseLast_X2_choose rfl rfl rfl (by decide +kernel) ⟨Nat.le_of_ble_eq_true rfl, Nat.le_of_ble_eq_true rfl⟩) (va_recv (ci := 2) E.2.1 hh.1 rfl (WW_at_8 G s28)) rfl hl.1 rfl (Nat.le_of_ble_eq_true rfl) dX2_chooseLast_39 ⟨Nat.zero_le _, Nat.zero_le _⟩ (fun s39 H locs h hh => ?_)
          refine lv_iinc (v := (l4 + (-1))) (lv' := [(4, .int (l4 + (-1))), (0, .ref (G.2.1 8)), (1, .ref (G.2.1 23)), (5, .int l5)]) hx hb dX2_chooseLast_42 hl (k := 2) rfl rfl (by decide) rfl (fun ls hl => ?_)
          refine lv_iinc (v := (l5 + (-1))) (lv' := [(5, .int (l5 + (-1))), (4, .int (l4 + (-1))), (0, .ref (G.2.1 8)), (1, .ref (G.2.1 23))]) hx hb dX2_chooseLast_45 hl (k := 3) rfl rfl (by decide) rfl (fun ls hl => ?_)
          refine lv_goto (tgt := 13) hx hb dX2_chooseLast_48 (by decide) ?_
          exact ih _ _ _ _ _ _ h hh (lv_sub hl [2, 3, 1, 0] rfl)
def f_X2_chooseLast (σ : St) (p2 : Int32) (p3 : Int32) (Q : St → Prop) : Prop :=
  f_X2_chooseLast_13L Q FU σ p3 ((if (16 : Int32) < p2 then (16 : Int32) else p2) - (1 : Int32))
set_option maxHeartbeats 4000000 in
set_option maxRecDepth 100000 in
theorem c_X2_chooseLast (l : Launch) (G : GG) (σ : St) (sz : Nat) (p2 : Int32) (p3 : Int32) (Q : St → Prop) (h : f_X2_chooseLast σ p2 p3 Q) : CTv l yX2_chooseLast wsX2_chooseLast ({ frames := 2, cells := 0, slots := 0, locals := 41 }) [.ref (G.2.1 8), .ref (G.2.1 23), .int p2, .int p3] G σ sz Q := by
  refine Met.ofW (cc := cX2_chooseLast) (maxL := 6) (ret := none) (by decide) rfl ?_
  intro p e s m args below meth c s₁ B hml hv
  obtain ⟨rfl, hpre⟩ := hv
  have hr := B.returns
  have hlocks := B.notSynchronized
  obtain ⟨hsz, -⟩ := id hpre
  subst hsz
  obtain ⟨E, hh⟩ := EV.ofPre (⟨B.exec, B.bytes, hml, findClass_of_methodNamed B.named, atoms_spec (ws := wsX2_chooseLast) B.pre⟩ : CallFix p m c cX2_chooseLast 6 s _ wsX2_chooseLast RX2) hpre
  have hx := E.1.1
  have hb := E.1.2.1
  have hown := E.1.2.2.2.1
  have hts := E.1.2.2.2.2
  have hl := lv_entry ([.ref (G.2.1 8), .ref (G.2.1 23), .int p2, .int p3]) (n := 6) (Nat.le_of_ble_eq_true rfl)
  rw [lg_entry_eq]
  generalize (lg_sl ([.ref (G.2.1 8), .ref (G.2.1 23), .int p2, .int p3]) ++ List.replicate (6 - (lg_sl ([.ref (G.2.1 8), .ref (G.2.1 23), .int p2, .int p3])).length) Slot.unset).toArray = ls at hl ⊢
  have hl : lv_has ls 6 [(0, .ref (G.2.1 8)), (1, .ref (G.2.1 23)), (2, .int p2), (3, .int p3)] := hl
  unfold f_X2_chooseLast at h
  refine lv_iload_n hx hb dX2_chooseLast_0 rfl (lv_at hl 3 rfl) ?_
  refine lv_istore (lv' := [(4, .int p3), (0, .ref (G.2.1 8)), (1, .ref (G.2.1 23)), (2, .int p2), (3, .int p3)]) hx hb dX2_chooseLast_1 hl (by decide) rfl (fun ls hl => ?_)
  refine lv_iload_n hx hb dX2_chooseLast_3 rfl (lv_at hl 3 rfl) ?_
  refine lv_aload_n hx hb dX2_chooseLast_4 rfl (lv_at hl 2 rfl) ?_
  refine q_alen (v := (16 : Int32)) E hh 23 0 (WW_at_23 G σ) rfl rfl dX2_chooseLast_5 ?_
  refine va_mmin (own := RX2) hx hb (by rw [E.1.2.2.1]; exact hl.1.symm) hown (hts _ (List.mem_cons_of_mem _ (List.mem_append_left _ (List.mem_of_getElem? (i := 0) rfl)))) (hts _ (List.mem_cons_of_mem _ (List.mem_append_left _ (List.mem_of_getElem? (i := 1) rfl)))) (hts _ (List.mem_cons_of_mem _ (List.mem_append_left _ (List.mem_of_getElem? (i := 2) rfl)))) (hts _ (List.mem_cons_of_mem _ (List.mem_append_left _ (List.mem_of_getElem? (i := 3) rfl)))) (Nat.le_of_ble_eq_true rfl) (Nat.le_of_ble_eq_true rfl) (Nat.zero_le _) (Nat.zero_le _) dX2_chooseLast_6 ?_
  refine lv_iconst (v := (1 : Int32)) hx hb dX2_chooseLast_9 (by decide) ?_
  refine lv_isub hx hb dX2_chooseLast_10 ?_
  refine lv_istore (lv' := [(5, .int ((if (16 : Int32) < p2 then (16 : Int32) else p2) - (1 : Int32))), (4, .int p3), (0, .ref (G.2.1 8)), (1, .ref (G.2.1 23)), (2, .int p2), (3, .int p3)]) hx hb dX2_chooseLast_11 hl (by decide) rfl (fun ls hl => ?_)
  exact w_X2_chooseLast_13 E hr hlocks  FU _ _ _ _ _ _ h hh (lv_sub hl [2, 3, 1, 0] rfl)
def f_X2_promoteRanked_41 (Q : Int32 → St → Prop)  (rec : St → Int32 → Int32 → Prop) (σ : St) (l5 : Int32) (l6 : Int32) : Prop :=
  (((16 : Int32) ≤ l6 → Q l5 σ) ∧ (¬ (16 : Int32) ≤ l6 → (vp_in l6 16 ∧ (vp_in l6 16 ∧ (((ga σ 24 l6.toNatClampNeg) = (ga σ 25 l6.toNatClampNeg) → (vp_in l6 16 ∧ (vp_in l6 16 ∧ rec (sa (sa σ 24 (upd (ga σ 24) l6.toNatClampNeg (vp_nar .boolean (0 : Int32)))) 25 (upd (ga (sa σ 24 (upd (ga σ 24) l6.toNatClampNeg (vp_nar .boolean (0 : Int32)))) 25) l6.toNatClampNeg (vp_nar .boolean (0 : Int32)))) l5 (l6 + 1)))) ∧ (¬ (ga σ 24 l6.toNatClampNeg) = (ga σ 25 l6.toNatClampNeg) → (vp_in l6 16 ∧ (vp_in l6 16 ∧ rec (sa (sa σ 24 (upd (ga σ 24) l6.toNatClampNeg (vp_nar .boolean (1 : Int32)))) 25 (upd (ga (sa σ 24 (upd (ga σ 24) l6.toNatClampNeg (vp_nar .boolean (1 : Int32)))) 25) l6.toNatClampNeg (vp_nar .boolean (0 : Int32)))) l5 (l6 + 1)))))))))
def f_X2_promoteRanked_41L (Q : Int32 → St → Prop)  : Nat → St → Int32 → Int32 → Prop
  | 0, _, _, _ => False
  | n + 1, σ, l5, l6 => f_X2_promoteRanked_41 Q  (f_X2_promoteRanked_41L Q  n) σ l5 l6
set_option maxHeartbeats 4000000 in
set_option maxRecDepth 100000 in
theorem w_X2_promoteRanked_41 {p : Program} {l : Launch} {e : Env} {s : State} {m : MethodId} {args : Array Value} {below : List Frame} {meth : Method} {c : Code} {G : GG} (E : EV p s m args c cX2_promoteRanked 7 wsX2_promoteRanked RX2 G (AD G s.heap.size)) (hr : meth.sig.returnType = (some .int)) (hlocks : meth.locks = false) {Q : Int32 → St → Prop}  : ∀ (n : Nat) (σ : St) (l5 : Int32) (l6 : Int32) (H : Heap) (locs : List Loc) (ls : Array Slot), f_X2_promoteRanked_41L Q  n σ l5 l6 → HH G (AD G s.heap.size) s σ H locs → lv_has ls 7 [(0, .ref (G.2.1 8)), (5, .int l5), (6, .int l6)] → W p l e ({ frames := 4, cells := 0, slots := 0, locals := 85 }) s m args below meth c H locs 0 0 (MQi below G args s Q) (F0 m 41 ls []) := by
  have hx := E.1.1
  have hb := E.1.2.1
  have hown := E.1.2.2.2.1
  have hts := E.1.2.2.2.2
  have h_inX2 : ∀ w ∈ wsX20, w ∈ wsX2_promoteRanked := (fun _ h9 => (List.mem_cons_of_mem _ (List.mem_append_right _ h9)))
  intro n
  induction n with
  | zero =>
    intro σ l5 l6 H locs ls h
    exact h.elim
  | succ n ih =>
    intro σ l5 l6 H locs ls h hh hl
    have h : f_X2_promoteRanked_41 Q  (f_X2_promoteRanked_41L Q  n) σ l5 l6 := h
    unfold f_X2_promoteRanked_41 at h
    refine lv_iload hx hb dX2_promoteRanked_41 (lv_at hl 2 rfl) ?_
    refine lv_bipush (v := (16 : Int32)) hx hb dX2_promoteRanked_43 (by decide) ?_
    refine lv_icmp_ge (tgt := 91) hx hb dX2_promoteRanked_45 (by decide) (fun c9 => ?_) (fun c9 => ?_)
    · have h := h.1 c9
      refine lv_iload hx hb dX2_promoteRanked_91 (lv_at hl 1 rfl) ?_
      exact q_iret E hh hr hlocks h dX2_promoteRanked_93
    · have h := h.2 c9
      refine lv_aload_n hx hb dX2_promoteRanked_48 rfl (lv_at hl 0 rfl) ?_
      refine q_get (T := TX2) (v := .ref (G.2.1 24)) E hh h_inX2 8 (WW_at_8 G σ) rfl 0 (by decide) (List.mem_cons_of_mem _ (List.mem_append_left _ (List.mem_append_left _ (List.mem_of_getElem? (i := 4) rfl)))) rfl rfl dX2_promoteRanked_49 ?_
      refine lv_iload hx hb dX2_promoteRanked_52 (lv_at hl 2 rfl) ?_
      refine lv_aload_n hx hb dX2_promoteRanked_54 rfl (lv_at hl 0 rfl) ?_
      refine q_get (T := TX2) (v := .ref (G.2.1 24)) E hh h_inX2 8 (WW_at_8 G σ) rfl 0 (by decide) (List.mem_cons_of_mem _ (List.mem_append_left _ (List.mem_append_left _ (List.mem_of_getElem? (i := 4) rfl)))) rfl rfl dX2_promoteRanked_55 ?_
      refine lv_iload hx hb dX2_promoteRanked_58 (lv_at hl 2 rfl) ?_
      obtain ⟨h0, h⟩ := h
      refine q_zald E hh 24 (WW_at_24 G σ) h0 dX2_promoteRanked_60 ?_
      refine lv_aload_n hx hb dX2_promoteRanked_61 rfl (lv_at hl 0 rfl) ?_
      refine q_get (T := TX2) (v := .ref (G.2.1 25)) E hh h_inX2 8 (WW_at_8 G σ) rfl 1 (by decide) (List.mem_cons_of_mem _ (List.mem_append_left _ (List.mem_append_left _ (List.mem_of_getElem? (i := 5) rfl)))) rfl rfl dX2_promoteRanked_62 ?_
      refine lv_iload hx hb dX2_promoteRanked_65 (lv_at hl 2 rfl) ?_
      obtain ⟨h0, h⟩ := h
      refine q_zald E hh 25 (WW_at_25 G σ) h0 dX2_promoteRanked_67 ?_
      refine lv_icmp_eq (tgt := 75) hx hb dX2_promoteRanked_68 (by decide) (fun c9 => ?_) (fun c9 => ?_)
      · have h := h.1 c9
        refine lv_iconst (v := (0 : Int32)) hx hb dX2_promoteRanked_75 (by decide) ?_
        obtain ⟨h0, h⟩ := h
        refine q_zast E hh 24 (WW_at_24 G σ) h0 dX2_promoteRanked_76 (WW_sa_24 G σ (upd (ga σ 24) l6.toNatClampNeg (vp_nar .boolean (0 : Int32)))) (fun H locs hh => ?_)
        refine lv_aload_n hx hb dX2_promoteRanked_77 rfl (lv_at hl 0 rfl) ?_
        refine q_get (T := TX2) (v := .ref (G.2.1 25)) E hh h_inX2 8 (WW_at_8 G (sa σ 24 (upd (ga σ 24) l6.toNatClampNeg (vp_nar .boolean (0 : Int32))))) rfl 1 (by decide) (List.mem_cons_of_mem _ (List.mem_append_left _ (List.mem_append_left _ (List.mem_of_getElem? (i := 5) rfl)))) rfl rfl dX2_promoteRanked_78 ?_
        refine lv_iload hx hb dX2_promoteRanked_81 (lv_at hl 2 rfl) ?_
        refine lv_iconst (v := (0 : Int32)) hx hb dX2_promoteRanked_83 (by decide) ?_
        obtain ⟨h0, h⟩ := h
        refine q_zast E hh 25 (WW_at_25 G (sa σ 24 (upd (ga σ 24) l6.toNatClampNeg (vp_nar .boolean (0 : Int32))))) h0 dX2_promoteRanked_84 (WW_sa_25 G (sa σ 24 (upd (ga σ 24) l6.toNatClampNeg (vp_nar .boolean (0 : Int32)))) (upd (ga (sa σ 24 (upd (ga σ 24) l6.toNatClampNeg (vp_nar .boolean (0 : Int32)))) 25) l6.toNatClampNeg (vp_nar .boolean (0 : Int32)))) (fun H locs hh => ?_)
        refine lv_iinc (v := (l6 + 1)) (lv' := [(6, .int (l6 + 1)), (0, .ref (G.2.1 8)), (5, .int l5)]) hx hb dX2_promoteRanked_85 hl (k := 2) rfl rfl (by decide) rfl (fun ls hl => ?_)
        refine lv_goto (tgt := 41) hx hb dX2_promoteRanked_88 (by decide) ?_
        exact ih _ _ _ _ _ _ h hh (lv_sub hl [1, 2, 0] rfl)
      · have h := h.2 c9
        refine lv_iconst (v := (1 : Int32)) hx hb dX2_promoteRanked_71 (by decide) ?_
        refine lv_goto (tgt := 76) hx hb dX2_promoteRanked_72 (by decide) ?_
        obtain ⟨h0, h⟩ := h
        refine q_zast E hh 24 (WW_at_24 G σ) h0 dX2_promoteRanked_76 (WW_sa_24 G σ (upd (ga σ 24) l6.toNatClampNeg (vp_nar .boolean (1 : Int32)))) (fun H locs hh => ?_)
        refine lv_aload_n hx hb dX2_promoteRanked_77 rfl (lv_at hl 0 rfl) ?_
        refine q_get (T := TX2) (v := .ref (G.2.1 25)) E hh h_inX2 8 (WW_at_8 G (sa σ 24 (upd (ga σ 24) l6.toNatClampNeg (vp_nar .boolean (1 : Int32))))) rfl 1 (by decide) (List.mem_cons_of_mem _ (List.mem_append_left _ (List.mem_append_left _ (List.mem_of_getElem? (i := 5) rfl)))) rfl rfl dX2_promoteRanked_78 ?_
        refine lv_iload hx hb dX2_promoteRanked_81 (lv_at hl 2 rfl) ?_
        refine lv_iconst (v := (0 : Int32)) hx hb dX2_promoteRanked_83 (by decide) ?_
        obtain ⟨h0, h⟩ := h
        refine q_zast E hh 25 (WW_at_25 G (sa σ 24 (upd (ga σ 24) l6.toNatClampNeg (vp_nar .boolean (1 : Int32))))) h0 dX2_promoteRanked_84 (WW_sa_25 G (sa σ 24 (upd (ga σ 24) l6.toNatClampNeg (vp_nar .boolean (1 : Int32)))) (upd (ga (sa σ 24 (upd (ga σ 24) l6.toNatClampNeg (vp_nar .boolean (1 : Int32)))) 25) l6.toNatClampNeg (vp_nar .boolean (0 : Int32)))) (fun H locs hh => ?_)
        refine lv_iinc (v := (l6 + 1)) (lv' := [(6, .int (l6 + 1)), (0, .ref (G.2.1 8)), (5, .int l5)]) hx hb dX2_promoteRanked_85 hl (k := 2) rfl rfl (by decide) rfl (fun ls hl => ?_)
        refine lv_goto (tgt := 41) hx hb dX2_promoteRanked_88 (by decide) ?_
        exact ih _ _ _ _ _ _ h hh (lv_sub hl [1, 2, 0] rfl)
def f_X2_promoteRanked (σ : St) (p2 : Int32) (p3 : Int32) (Q : Int32 → St → Prop) : Prop :=
  f_X2_inSecond σ p2 (fun r2 s2 => f_X2_chooseFirst s2 p2 (if (if (p2 - r2) < r2 then (p2 - r2) else r2) < p3 then (if (p2 - r2) < r2 then (p2 - r2) else r2) else p3) (fun s27 => f_X2_chooseLast s27 p2 (if (if (p2 - r2) < r2 then (p2 - r2) else r2) < p3 then (if (p2 - r2) < r2 then (p2 - r2) else r2) else p3) (fun s35 => f_X2_promoteRanked_41L Q FU s35 (if (if (p2 - r2) < r2 then (p2 - r2) else r2) < p3 then (if (p2 - r2) < r2 then (p2 - r2) else r2) else p3) (0 : Int32))))
set_option maxHeartbeats 4000000 in
set_option maxRecDepth 100000 in
theorem c_X2_promoteRanked (l : Launch) (G : GG) (σ : St) (sz : Nat) (p2 : Int32) (p3 : Int32) (Q : Int32 → St → Prop) (h : f_X2_promoteRanked σ p2 p3 Q) : CTi l yX2_promoteRanked wsX2_promoteRanked ({ frames := 4, cells := 0, slots := 0, locals := 85 }) [.ref (G.2.1 8), .ref (G.2.1 23), .int p2, .int p3] G σ sz Q := by
  refine Met.ofW (cc := cX2_promoteRanked) (maxL := 7) (ret := (some .int)) (by decide) rfl ?_
  intro p e s m args below meth c s₁ B hml hv
  obtain ⟨rfl, hpre⟩ := hv
  have hr := B.returns
  have hlocks := B.notSynchronized
  obtain ⟨hsz, -⟩ := id hpre
  subst hsz
  obtain ⟨E, hh⟩ := EV.ofPre (⟨B.exec, B.bytes, hml, findClass_of_methodNamed B.named, atoms_spec (ws := wsX2_promoteRanked) B.pre⟩ : CallFix p m c cX2_promoteRanked 7 s _ wsX2_promoteRanked RX2) hpre
  have hx := E.1.1
  have hb := E.1.2.1
  have hown := E.1.2.2.2.1
  have hts := E.1.2.2.2.2
  have h_inX2 : ∀ w ∈ wsX20, w ∈ wsX2_promoteRanked := (fun _ h9 => (List.mem_cons_of_mem _ (List.mem_append_right _ h9)))
  have hl := lv_entry ([.ref (G.2.1 8), .ref (G.2.1 23), .int p2, .int p3]) (n := 7) (Nat.le_of_ble_eq_true rfl)
  rw [lg_entry_eq]
  generalize (lg_sl ([.ref (G.2.1 8), .ref (G.2.1 23), .int p2, .int p3]) ++ List.replicate (7 - (lg_sl ([.ref (G.2.1 8), .ref (G.2.1 23), .int p2, .int p3])).length) Slot.unset).toArray = ls at hl ⊢
  have hl : lv_has ls 7 [(0, .ref (G.2.1 8)), (1, .ref (G.2.1 23)), (2, .int p2), (3, .int p3)] := hl
  unfold f_X2_promoteRanked at h
  refine lv_aload_n hx hb dX2_promoteRanked_0 rfl (lv_at hl 0 rfl) ?_
  refine lv_iload_n hx hb dX2_promoteRanked_1 rfl (lv_at hl 2 rfl) ?_
  refine q_Vi (As := [.int p2]) (rest := []) E hh (c_X2_inSecond l G _ _ _ _ h) (cwV 1 hts gX2_promoteRanked_X2_inSecond rfl rfl rfl (by decide +kernel) ⟨Nat.le_of_ble_eq_true rfl, Nat.le_of_ble_eq_true rfl⟩) (va_recv (ci := 2) E.2.1 hh.1 rfl (WW_at_8 G σ)) rfl hl.1 rfl (Nat.le_of_ble_eq_true rfl) dX2_promoteRanked_2 ⟨Nat.zero_le _, Nat.zero_le _⟩ (fun r2 s2 H locs h hh => ?_)
  refine lv_istore (lv' := [(4, .int r2), (0, .ref (G.2.1 8)), (1, .ref (G.2.1 23)), (2, .int p2), (3, .int p3)]) hx hb dX2_promoteRanked_5 hl (by decide) rfl (fun ls hl => ?_)
  refine lv_iload_n hx hb dX2_promoteRanked_7 rfl (lv_at hl 4 rfl) ?_
  refine lv_iload hx hb dX2_promoteRanked_8 (lv_at hl 0 rfl) ?_
  refine lv_iload_n hx hb dX2_promoteRanked_10 rfl (lv_at hl 3 rfl) ?_
  refine lv_iload hx hb dX2_promoteRanked_11 (lv_at hl 0 rfl) ?_
  refine lv_isub hx hb dX2_promoteRanked_13 ?_
  refine va_mmin (own := RX2) hx hb (by rw [E.1.2.2.1]; exact hl.1.symm) hown (hts _ (List.mem_cons_of_mem _ (List.mem_append_left _ (List.mem_append_left _ (List.mem_of_getElem? (i := 0) rfl))))) (hts _ (List.mem_cons_of_mem _ (List.mem_append_left _ (List.mem_append_left _ (List.mem_of_getElem? (i := 1) rfl))))) (hts _ (List.mem_cons_of_mem _ (List.mem_append_left _ (List.mem_append_left _ (List.mem_of_getElem? (i := 2) rfl))))) (hts _ (List.mem_cons_of_mem _ (List.mem_append_left _ (List.mem_append_left _ (List.mem_of_getElem? (i := 3) rfl))))) (Nat.le_of_ble_eq_true rfl) (Nat.le_of_ble_eq_true rfl) (Nat.zero_le _) (Nat.zero_le _) dX2_promoteRanked_14 ?_
  refine va_mmin (own := RX2) hx hb (by rw [E.1.2.2.1]; exact hl.1.symm) hown (hts _ (List.mem_cons_of_mem _ (List.mem_append_left _ (List.mem_append_left _ (List.mem_of_getElem? (i := 0) rfl))))) (hts _ (List.mem_cons_of_mem _ (List.mem_append_left _ (List.mem_append_left _ (List.mem_of_getElem? (i := 1) rfl))))) (hts _ (List.mem_cons_of_mem _ (List.mem_append_left _ (List.mem_append_left _ (List.mem_of_getElem? (i := 2) rfl))))) (hts _ (List.mem_cons_of_mem _ (List.mem_append_left _ (List.mem_append_left _ (List.mem_of_getElem? (i := 3) rfl))))) (Nat.le_of_ble_eq_true rfl) (Nat.le_of_ble_eq_true rfl) (Nat.zero_le _) (Nat.zero_le _) dX2_promoteRanked_17 ?_
  refine lv_istore (lv' := [(5, .int (if (if (p2 - r2) < r2 then (p2 - r2) else r2) < p3 then (if (p2 - r2) < r2 then (p2 - r2) else r2) else p3)), (4, .int r2), (0, .ref (G.2.1 8)), (1, .ref (G.2.1 23)), (2, .int p2), (3, .int p3)]) hx hb dX2_promoteRanked_20 hl (by decide) rfl (fun ls hl => ?_)
  refine lv_aload_n hx hb dX2_promoteRanked_22 rfl (lv_at hl 2 rfl) ?_
  refine lv_aload_n hx hb dX2_promoteRanked_23 rfl (lv_at hl 3 rfl) ?_
  refine lv_iload_n hx hb dX2_promoteRanked_24 rfl (lv_at hl 4 rfl) ?_
  refine lv_iload hx hb dX2_promoteRanked_25 (lv_at hl 0 rfl) ?_
  refine q_Vv (As := [.ref (G.2.1 23), .int p2, .int (if (if (p2 - r2) < r2 then (p2 - r2) else r2) < p3 then (if (p2 - r2) < r2 then (p2 - r2) else r2) else p3)]) (rest := []) E hh (c_X2_chooseFirst l G _ _ _ _ _ h) (cwV 3 hts gX2_promoteRanked_X2_chooseFirst rfl rfl rfl (by decide +kernel) ⟨Nat.le_of_ble_eq_true rfl, Nat.le_of_ble_eq_true rfl⟩) (va_recv (ci := 2) E.2.1 hh.1 rfl (WW_at_8 G s2)) rfl hl.1 rfl (Nat.le_of_ble_eq_true rfl) dX2_promoteRanked_27 ⟨Nat.zero_le _, Nat.zero_le _⟩ (fun s27 H locs h hh => ?_)
  refine lv_aload_n hx hb dX2_promoteRanked_30 rfl (lv_at hl 2 rfl) ?_
  refine lv_aload_n hx hb dX2_promoteRanked_31 rfl (lv_at hl 3 rfl) ?_
  refine lv_iload_n hx hb dX2_promoteRanked_32 rfl (lv_at hl 4 rfl) ?_
  refine lv_iload hx hb dX2_promoteRanked_33 (lv_at hl 0 rfl) ?_
  refine q_Vv (As := [.ref (G.2.1 23), .int p2, .int (if (if (p2 - r2) < r2 then (p2 - r2) else r2) < p3 then (if (p2 - r2) < r2 then (p2 - r2) else r2) else p3)]) (rest := []) E hh (c_X2_chooseLast l G _ _ _ _ _ h) (cwV 3 hts gX2_promoteRanked_X2_chooseLast rfl rfl rfl (by decide +kernel) ⟨Nat.le_of_ble_eq_true rfl, Nat.le_of_ble_eq_true rfl⟩) (va_recv (ci := 2) E.2.1 hh.1 rfl (WW_at_8 G s27)) rfl hl.1 rfl (Nat.le_of_ble_eq_true rfl) dX2_promoteRanked_35 ⟨Nat.zero_le _, Nat.zero_le _⟩ (fun s35 H locs h hh => ?_)
  refine lv_iconst (v := (0 : Int32)) hx hb dX2_promoteRanked_38 (by decide) ?_
  refine lv_istore (lv' := [(6, .int (0 : Int32)), (5, .int (if (if (p2 - r2) < r2 then (p2 - r2) else r2) < p3 then (if (p2 - r2) < r2 then (p2 - r2) else r2) else p3)), (4, .int r2), (0, .ref (G.2.1 8)), (1, .ref (G.2.1 23)), (2, .int p2), (3, .int p3)]) hx hb dX2_promoteRanked_39 hl (by decide) rfl (fun ls hl => ?_)
  exact w_X2_promoteRanked_41 E hr hlocks  FU _ _ _ _ _ _ h hh (lv_sub hl [3, 1, 0] rfl)
def f_X4_addNoise (σ : St) (p1 : Int32) (Q : Int32 → St → Prop) : Prop :=
  (((gi σ 21) < (20 : Int32) → (vp_in (gi σ 21) 20 ∧ Q (gi (si (sa σ 26 (upd (ga σ 26) (gi σ 21).toNatClampNeg p1)) 21 ((gi (sa σ 26 (upd (ga σ 26) (gi σ 21).toNatClampNeg p1)) 21) + (1 : Int32))) 21) (si (sa σ 26 (upd (ga σ 26) (gi σ 21).toNatClampNeg p1)) 21 ((gi (sa σ 26 (upd (ga σ 26) (gi σ 21).toNatClampNeg p1)) 21) + (1 : Int32))))) ∧ (¬ (gi σ 21) < (20 : Int32) → Q (-1 : Int32) σ))
set_option maxHeartbeats 4000000 in
set_option maxRecDepth 100000 in
theorem c_X4_addNoise (l : Launch) (G : GG) (σ : St) (sz : Nat) (p1 : Int32) (Q : Int32 → St → Prop) (h : f_X4_addNoise σ p1 Q) : CTi l yX4_addNoise wsX4_addNoise ({ frames := 0, cells := 0, slots := 0, locals := 0 }) [.ref (G.2.1 9), .int p1] G σ sz Q := by
  refine Met.ofW (cc := cX4_addNoise) (maxL := 2) (ret := (some .int)) (by decide) rfl ?_
  intro p e s m args below meth c s₁ B hml hv
  obtain ⟨rfl, hpre⟩ := hv
  have hr := B.returns
  have hlocks := B.notSynchronized
  obtain ⟨hsz, -⟩ := id hpre
  subst hsz
  obtain ⟨E, hh⟩ := EV.ofPre (⟨B.exec, B.bytes, hml, findClass_of_methodNamed B.named, atoms_spec (ws := wsX4_addNoise) B.pre⟩ : CallFix p m c cX4_addNoise 2 s _ wsX4_addNoise RX4) hpre
  have hx := E.1.1
  have hb := E.1.2.1
  have hown := E.1.2.2.2.1
  have hts := E.1.2.2.2.2
  have h_inX4 : ∀ w ∈ wsX40, w ∈ wsX4_addNoise := (fun _ h9 => (List.mem_cons_of_mem _ (List.mem_append_right _ h9)))
  have hl := lv_entry ([.ref (G.2.1 9), .int p1]) (n := 2) (Nat.le_of_ble_eq_true rfl)
  rw [lg_entry_eq]
  generalize (lg_sl ([.ref (G.2.1 9), .int p1]) ++ List.replicate (2 - (lg_sl ([.ref (G.2.1 9), .int p1])).length) Slot.unset).toArray = ls at hl ⊢
  have hl : lv_has ls 2 [(0, .ref (G.2.1 9)), (1, .int p1)] := hl
  unfold f_X4_addNoise at h
  refine lv_aload_n hx hb dX4_addNoise_0 rfl (lv_at hl 0 rfl) ?_
  refine q_get (T := TX4) (v := .int (gi σ 21)) E hh h_inX4 9 (WW_at_9 G σ) rfl 1 (by decide) (List.mem_cons_of_mem _ (List.mem_append_left _ (List.mem_of_getElem? (i := 0) rfl))) rfl rfl dX4_addNoise_1 ?_
  refine lv_bipush (v := (20 : Int32)) hx hb dX4_addNoise_4 (by decide) ?_
  refine lv_icmp_lt (tgt := 11) hx hb dX4_addNoise_6 (by decide) (fun c9 => ?_) (fun c9 => ?_)
  · have h := h.1 c9
    refine lv_aload_n hx hb dX4_addNoise_11 rfl (lv_at hl 0 rfl) ?_
    refine q_get (T := TX4) (v := .ref (G.2.1 26)) E hh h_inX4 9 (WW_at_9 G σ) rfl 0 (by decide) (List.mem_cons_of_mem _ (List.mem_append_left _ (List.mem_of_getElem? (i := 1) rfl))) rfl rfl dX4_addNoise_12 ?_
    refine lv_aload_n hx hb dX4_addNoise_15 rfl (lv_at hl 0 rfl) ?_
    refine q_get (T := TX4) (v := .int (gi σ 21)) E hh h_inX4 9 (WW_at_9 G σ) rfl 1 (by decide) (List.mem_cons_of_mem _ (List.mem_append_left _ (List.mem_of_getElem? (i := 0) rfl))) rfl rfl dX4_addNoise_16 ?_
    refine lv_iload_n hx hb dX4_addNoise_19 rfl (lv_at hl 1 rfl) ?_
    obtain ⟨h0, h⟩ := h
    refine q_iast E hh 26 (WW_at_26 G σ) h0 dX4_addNoise_20 (WW_sa_26 G σ (upd (ga σ 26) (gi σ 21).toNatClampNeg p1)) (fun H locs hh => ?_)
    refine lv_aload_n hx hb dX4_addNoise_21 rfl (lv_at hl 0 rfl) ?_
    refine lv_dup hx hb dX4_addNoise_22 rfl ?_
    refine q_get (T := TX4) (v := .int (gi (sa σ 26 (upd (ga σ 26) (gi σ 21).toNatClampNeg p1)) 21)) E hh h_inX4 9 (WW_at_9 G (sa σ 26 (upd (ga σ 26) (gi σ 21).toNatClampNeg p1))) rfl 1 (by decide) (List.mem_cons_of_mem _ (List.mem_append_left _ (List.mem_of_getElem? (i := 0) rfl))) rfl rfl dX4_addNoise_23 ?_
    refine lv_iconst (v := (1 : Int32)) hx hb dX4_addNoise_26 (by decide) ?_
    refine lv_iadd hx hb dX4_addNoise_27 ?_
    refine q_put (T := TX4) E hh h_inX4 tyX4 tyX4_ok nmX4 9 (WW_at_9 G (sa σ 26 (upd (ga σ 26) (gi σ 21).toNatClampNeg p1))) rfl 1 (by decide) (List.mem_cons_of_mem _ (List.mem_append_left _ (List.mem_of_getElem? (i := 0) rfl))) rfl rfl (by decide +kernel) (Nat.le_of_ble_eq_true rfl) dX4_addNoise_28 (WW_si_21 G (sa σ 26 (upd (ga σ 26) (gi σ 21).toNatClampNeg p1)) ((gi (sa σ 26 (upd (ga σ 26) (gi σ 21).toNatClampNeg p1)) 21) + (1 : Int32))) (fun H locs hh => ?_)
    refine lv_aload_n hx hb dX4_addNoise_31 rfl (lv_at hl 0 rfl) ?_
    refine q_get (T := TX4) (v := .int (gi (si (sa σ 26 (upd (ga σ 26) (gi σ 21).toNatClampNeg p1)) 21 ((gi (sa σ 26 (upd (ga σ 26) (gi σ 21).toNatClampNeg p1)) 21) + (1 : Int32))) 21)) E hh h_inX4 9 (WW_at_9 G (si (sa σ 26 (upd (ga σ 26) (gi σ 21).toNatClampNeg p1)) 21 ((gi (sa σ 26 (upd (ga σ 26) (gi σ 21).toNatClampNeg p1)) 21) + (1 : Int32)))) rfl 1 (by decide) (List.mem_cons_of_mem _ (List.mem_append_left _ (List.mem_of_getElem? (i := 0) rfl))) rfl rfl dX4_addNoise_32 ?_
    exact q_iret E hh hr hlocks h dX4_addNoise_35
  · have h := h.2 c9
    refine lv_iconst (v := (-1 : Int32)) hx hb dX4_addNoise_9 (by decide) ?_
    exact q_iret E hh hr hlocks h dX4_addNoise_10
def f_X4_changePlaces (σ : St) (p1 : Int32) (p2 : Int32) (Q : St → Prop) : Prop :=
  f_X8_isBoatNumber σ p1 (fun r1 s1 => ((r1 = 0 → Q s1) ∧ (¬ r1 = 0 → f_X8_isBoatNumber s1 p2 (fun r8 s8 => ((¬ r8 = 0 → (vp_in p1 16 ∧ (vp_in p2 16 ∧ (vp_in p1 16 ∧ (vp_in p2 16 ∧ Q (sa (sa s8 27 (upd (ga s8 27) p1.toNatClampNeg (ga s8 27 p2.toNatClampNeg))) 27 (upd (ga (sa s8 27 (upd (ga s8 27) p1.toNatClampNeg (ga s8 27 p2.toNatClampNeg))) 27) p2.toNatClampNeg (ga s8 27 p1.toNatClampNeg)))))))) ∧ (r8 = 0 → Q s8))))))
set_option maxHeartbeats 4000000 in
set_option maxRecDepth 100000 in
theorem c_X4_changePlaces (l : Launch) (G : GG) (σ : St) (sz : Nat) (p1 : Int32) (p2 : Int32) (Q : St → Prop) (h : f_X4_changePlaces σ p1 p2 Q) : CTv l yX4_changePlaces wsX4_changePlaces ({ frames := 1, cells := 0, slots := 0, locals := 20 }) [.ref (G.2.1 9), .int p1, .int p2] G σ sz Q := by
  refine Met.ofW (cc := cX4_changePlaces) (maxL := 4) (ret := none) (by decide) rfl ?_
  intro p e s m args below meth c s₁ B hml hv
  obtain ⟨rfl, hpre⟩ := hv
  have hr := B.returns
  have hlocks := B.notSynchronized
  obtain ⟨hsz, -⟩ := id hpre
  subst hsz
  obtain ⟨E, hh⟩ := EV.ofPre (⟨B.exec, B.bytes, hml, findClass_of_methodNamed B.named, atoms_spec (ws := wsX4_changePlaces) B.pre⟩ : CallFix p m c cX4_changePlaces 4 s _ wsX4_changePlaces RX4) hpre
  have hx := E.1.1
  have hb := E.1.2.1
  have hown := E.1.2.2.2.1
  have hts := E.1.2.2.2.2
  have h_inX4 : ∀ w ∈ wsX40, w ∈ wsX4_changePlaces := (fun _ h9 => (List.mem_cons_of_mem _ (List.mem_append_right _ h9)))
  have hl := lv_entry ([.ref (G.2.1 9), .int p1, .int p2]) (n := 4) (Nat.le_of_ble_eq_true rfl)
  rw [lg_entry_eq]
  generalize (lg_sl ([.ref (G.2.1 9), .int p1, .int p2]) ++ List.replicate (4 - (lg_sl ([.ref (G.2.1 9), .int p1, .int p2])).length) Slot.unset).toArray = ls at hl ⊢
  have hl : lv_has ls 4 [(0, .ref (G.2.1 9)), (1, .int p1), (2, .int p2)] := hl
  unfold f_X4_changePlaces at h
  refine lv_iload_n hx hb dX4_changePlaces_0 rfl (lv_at hl 1 rfl) ?_
  refine q_Ni (As := [.int p1]) (rest := []) E hh (c_X8_isBoatNumber l G _ _ _ _ h) (va_cnB 1 hts gX4_changePlaces_X8_isBoatNumber_n31 rfl rfl rfl (E.2.2.2.1.1.2.1 (RX4, 31, (⟨RX8, "isBoatNumber", "(I)Z"⟩ : MethodName), "IceRegatta") (List.mem_of_getElem? (i := 12) rfl)) (hts _ (List.mem_cons_of_mem _ (List.mem_append_left _ (List.mem_of_getElem? (i := 2) rfl)))) (by decide +kernel) ⟨Nat.le_of_ble_eq_true rfl, Nat.le_of_ble_eq_true rfl⟩) (List.mem_cons_of_mem _ (List.mem_append_left _ (List.mem_of_getElem? (i := 1) rfl))) rfl hl.1 rfl (Nat.le_of_ble_eq_true rfl) dX4_changePlaces_1 ⟨Nat.zero_le _, Nat.zero_le _⟩ (fun r1 s1 H locs h hh => ?_)
  refine lv_if_eq (tgt := 14) hx hb dX4_changePlaces_4 (by decide) (fun c9 => ?_) (fun c9 => ?_)
  · have h := h.1 c9
    exact q_vret E hh hr hlocks h dX4_changePlaces_14
  · have h := h.2 c9
    refine lv_iload_n hx hb dX4_changePlaces_7 rfl (lv_at hl 2 rfl) ?_
    refine q_Ni (As := [.int p2]) (rest := []) E hh (c_X8_isBoatNumber l G _ _ _ _ h) (va_cnB 1 hts gX4_changePlaces_X8_isBoatNumber_n31 rfl rfl rfl (E.2.2.2.1.1.2.1 (RX4, 31, (⟨RX8, "isBoatNumber", "(I)Z"⟩ : MethodName), "IceRegatta") (List.mem_of_getElem? (i := 12) rfl)) (hts _ (List.mem_cons_of_mem _ (List.mem_append_left _ (List.mem_of_getElem? (i := 2) rfl)))) (by decide +kernel) ⟨Nat.le_of_ble_eq_true rfl, Nat.le_of_ble_eq_true rfl⟩) (List.mem_cons_of_mem _ (List.mem_append_left _ (List.mem_of_getElem? (i := 1) rfl))) rfl hl.1 rfl (Nat.le_of_ble_eq_true rfl) dX4_changePlaces_8 ⟨Nat.zero_le _, Nat.zero_le _⟩ (fun r8 s8 H locs h hh => ?_)
    refine lv_if_ne (tgt := 15) hx hb dX4_changePlaces_11 (by decide) (fun c9 => ?_) (fun c9 => ?_)
    · have h := h.1 c9
      refine lv_aload_n hx hb dX4_changePlaces_15 rfl (lv_at hl 0 rfl) ?_
      refine q_get (T := TX4) (v := .ref (G.2.1 27)) E hh h_inX4 9 (WW_at_9 G s8) rfl 2 (by decide) (List.mem_cons_of_mem _ (List.mem_append_left _ (List.mem_of_getElem? (i := 0) rfl))) rfl rfl dX4_changePlaces_16 ?_
      refine lv_iload_n hx hb dX4_changePlaces_19 rfl (lv_at hl 1 rfl) ?_
      obtain ⟨h0, h⟩ := h
      refine q_iald E hh 27 (WW_at_27 G s8) h0 dX4_changePlaces_20 ?_
      refine lv_istore_n (lv' := [(3, .int (ga s8 27 p1.toNatClampNeg)), (0, .ref (G.2.1 9)), (1, .int p1), (2, .int p2)]) hx hb dX4_changePlaces_21 rfl hl (by decide) rfl (fun ls hl => ?_)
      refine lv_aload_n hx hb dX4_changePlaces_22 rfl (lv_at hl 1 rfl) ?_
      refine q_get (T := TX4) (v := .ref (G.2.1 27)) E hh h_inX4 9 (WW_at_9 G s8) rfl 2 (by decide) (List.mem_cons_of_mem _ (List.mem_append_left _ (List.mem_of_getElem? (i := 0) rfl))) rfl rfl dX4_changePlaces_23 ?_
      refine lv_iload_n hx hb dX4_changePlaces_26 rfl (lv_at hl 2 rfl) ?_
      refine lv_aload_n hx hb dX4_changePlaces_27 rfl (lv_at hl 1 rfl) ?_
      refine q_get (T := TX4) (v := .ref (G.2.1 27)) E hh h_inX4 9 (WW_at_9 G s8) rfl 2 (by decide) (List.mem_cons_of_mem _ (List.mem_append_left _ (List.mem_of_getElem? (i := 0) rfl))) rfl rfl dX4_changePlaces_28 ?_
      refine lv_iload_n hx hb dX4_changePlaces_31 rfl (lv_at hl 3 rfl) ?_
      obtain ⟨h0, h⟩ := h
      refine q_iald E hh 27 (WW_at_27 G s8) h0 dX4_changePlaces_32 ?_
      obtain ⟨h0, h⟩ := h
      refine q_iast E hh 27 (WW_at_27 G s8) h0 dX4_changePlaces_33 (WW_sa_27 G s8 (upd (ga s8 27) p1.toNatClampNeg (ga s8 27 p2.toNatClampNeg))) (fun H locs hh => ?_)
      refine lv_aload_n hx hb dX4_changePlaces_34 rfl (lv_at hl 1 rfl) ?_
      refine q_get (T := TX4) (v := .ref (G.2.1 27)) E hh h_inX4 9 (WW_at_9 G (sa s8 27 (upd (ga s8 27) p1.toNatClampNeg (ga s8 27 p2.toNatClampNeg)))) rfl 2 (by decide) (List.mem_cons_of_mem _ (List.mem_append_left _ (List.mem_of_getElem? (i := 0) rfl))) rfl rfl dX4_changePlaces_35 ?_
      refine lv_iload_n hx hb dX4_changePlaces_38 rfl (lv_at hl 3 rfl) ?_
      refine lv_iload_n hx hb dX4_changePlaces_39 rfl (lv_at hl 0 rfl) ?_
      obtain ⟨h0, h⟩ := h
      refine q_iast E hh 27 (WW_at_27 G (sa s8 27 (upd (ga s8 27) p1.toNatClampNeg (ga s8 27 p2.toNatClampNeg)))) h0 dX4_changePlaces_40 (WW_sa_27 G (sa s8 27 (upd (ga s8 27) p1.toNatClampNeg (ga s8 27 p2.toNatClampNeg))) (upd (ga (sa s8 27 (upd (ga s8 27) p1.toNatClampNeg (ga s8 27 p2.toNatClampNeg))) 27) p2.toNatClampNeg (ga s8 27 p1.toNatClampNeg))) (fun H locs hh => ?_)
      exact q_vret E hh hr hlocks h dX4_changePlaces_41
    · have h := h.2 c9
      exact q_vret E hh hr hlocks h dX4_changePlaces_14
def f_X4_drawRow_46 (Q : Int32 → St → Prop)  (rec : St → Int32 → Int32 → Prop) (σ : St) (l1 : Int32) (l2 : Int32) : Prop :=
  ((l2 ≤ 0 → Q l1 (si (si σ 21 (0 : Int32)) 22 l1)) ∧ (¬ l2 ≤ 0 → (vp_in ((l1 - (1 : Int32)) - l2) 20 ∧ (¬ (l2 + (1 : Int32)).toInt64 = 0 ∧ f_X4_changePlaces σ l2 (((ga σ 26 ((l1 - (1 : Int32)) - l2).toNatClampNeg).toInt64 &&& (4294967295 : Int64)) - ((ga σ 26 ((l1 - (1 : Int32)) - l2).toNatClampNeg).toInt64 &&& (4294967295 : Int64)) / (l2 + (1 : Int32)).toInt64 * (l2 + (1 : Int32)).toInt64).toInt32 (fun s75 => rec s75 l1 (l2 + (-1)))))))
def f_X4_drawRow_46L (Q : Int32 → St → Prop)  : Nat → St → Int32 → Int32 → Prop
  | 0, _, _, _ => False
  | n + 1, σ, l1, l2 => f_X4_drawRow_46 Q  (f_X4_drawRow_46L Q  n) σ l1 l2
set_option maxHeartbeats 4000000 in
set_option maxRecDepth 100000 in
theorem w_X4_drawRow_46 {p : Program} {l : Launch} {e : Env} {s : State} {m : MethodId} {args : Array Value} {below : List Frame} {meth : Method} {c : Code} {G : GG} (E : EV p s m args c cX4_drawRow 5 wsX4_drawRow RX4 G (AD G s.heap.size)) (hr : meth.sig.returnType = (some .int)) (hlocks : meth.locks = false) {Q : Int32 → St → Prop}  : ∀ (n : Nat) (σ : St) (l1 : Int32) (l2 : Int32) (H : Heap) (locs : List Loc) (ls : Array Slot), f_X4_drawRow_46L Q  n σ l1 l2 → HH G (AD G s.heap.size) s σ H locs → lv_has ls 5 [(0, .ref (G.2.1 9)), (1, .int l1), (2, .int l2)] → W p l e ({ frames := 2, cells := 0, slots := 0, locals := 43 }) s m args below meth c H locs 0 0 (MQi below G args s Q) (F0 m 46 ls []) := by
  have hx := E.1.1
  have hb := E.1.2.1
  have hown := E.1.2.2.2.1
  have hts := E.1.2.2.2.2
  have h_inX4 : ∀ w ∈ wsX40, w ∈ wsX4_drawRow := (fun _ h9 => (List.mem_cons_of_mem _ (List.mem_append_right _ h9)))
  intro n
  induction n with
  | zero =>
    intro σ l1 l2 H locs ls h
    exact h.elim
  | succ n ih =>
    intro σ l1 l2 H locs ls h hh hl
    have h : f_X4_drawRow_46 Q  (f_X4_drawRow_46L Q  n) σ l1 l2 := h
    unfold f_X4_drawRow_46 at h
    refine lv_iload_n hx hb dX4_drawRow_46 rfl (lv_at hl 2 rfl) ?_
    refine lv_if_le (tgt := 84) hx hb dX4_drawRow_47 (by decide) (fun c9 => ?_) (fun c9 => ?_)
    · have h := h.1 c9
      refine lv_aload_n hx hb dX4_drawRow_84 rfl (lv_at hl 0 rfl) ?_
      refine lv_iconst (v := (0 : Int32)) hx hb dX4_drawRow_85 (by decide) ?_
      refine q_put (T := TX4) E hh h_inX4 tyX4 tyX4_ok nmX4 9 (WW_at_9 G σ) rfl 1 (by decide) (List.mem_cons_of_mem _ (List.mem_append_left _ (List.mem_of_getElem? (i := 0) rfl))) rfl rfl (by decide +kernel) (Nat.le_of_ble_eq_true rfl) dX4_drawRow_86 (WW_si_21 G σ (0 : Int32)) (fun H locs hh => ?_)
      refine lv_aload_n hx hb dX4_drawRow_89 rfl (lv_at hl 0 rfl) ?_
      refine lv_iload_n hx hb dX4_drawRow_90 rfl (lv_at hl 1 rfl) ?_
      refine q_put (T := TX4) E hh h_inX4 tyX4 tyX4_ok nmX4 9 (WW_at_9 G (si σ 21 (0 : Int32))) rfl 3 (by decide) (List.mem_cons_of_mem _ (List.mem_append_left _ (List.mem_of_getElem? (i := 4) rfl))) rfl rfl (by decide +kernel) (Nat.le_of_ble_eq_true rfl) dX4_drawRow_91 (WW_si_22 G (si σ 21 (0 : Int32)) l1) (fun H locs hh => ?_)
      refine lv_iload_n hx hb dX4_drawRow_94 rfl (lv_at hl 1 rfl) ?_
      exact q_iret E hh hr hlocks h dX4_drawRow_95
    · have h := h.2 c9
      refine lv_aload_n hx hb dX4_drawRow_50 rfl (lv_at hl 0 rfl) ?_
      refine q_get (T := TX4) (v := .ref (G.2.1 26)) E hh h_inX4 9 (WW_at_9 G σ) rfl 0 (by decide) (List.mem_cons_of_mem _ (List.mem_append_left _ (List.mem_of_getElem? (i := 2) rfl))) rfl rfl dX4_drawRow_51 ?_
      refine lv_iload_n hx hb dX4_drawRow_54 rfl (lv_at hl 1 rfl) ?_
      refine lv_iconst (v := (1 : Int32)) hx hb dX4_drawRow_55 (by decide) ?_
      refine lv_isub hx hb dX4_drawRow_56 ?_
      refine lv_iload_n hx hb dX4_drawRow_57 rfl (lv_at hl 2 rfl) ?_
      refine lv_isub hx hb dX4_drawRow_58 ?_
      obtain ⟨h0, h⟩ := h
      refine q_iald E hh 26 (WW_at_26 G σ) h0 dX4_drawRow_59 ?_
      refine lv_i2l (v := (ga σ 26 ((l1 - (1 : Int32)) - l2).toNatClampNeg).toInt64) hx hb dX4_drawRow_60 rfl ?_
      refine lv_ldc2 (own := RX4) (v := (4294967295 : Int64)) hx hb hown (hts _ (List.mem_cons_of_mem _ (List.mem_append_left _ (List.mem_of_getElem? (i := 3) rfl)))) dX4_drawRow_61 ?_
      refine lv_land hx hb dX4_drawRow_64 ?_
      refine lv_lstore_n (lv' := [(3, .long ((ga σ 26 ((l1 - (1 : Int32)) - l2).toNatClampNeg).toInt64 &&& (4294967295 : Int64))), (0, .ref (G.2.1 9)), (1, .int l1), (2, .int l2)]) hx hb dX4_drawRow_65 rfl hl (by decide) rfl (fun ls hl => ?_)
      refine lv_aload_n hx hb dX4_drawRow_66 rfl (lv_at hl 1 rfl) ?_
      refine lv_iload_n hx hb dX4_drawRow_67 rfl (lv_at hl 3 rfl) ?_
      refine lv_lload_n hx hb dX4_drawRow_68 rfl (lv_at hl 0 rfl) ?_
      refine lv_iload_n hx hb dX4_drawRow_69 rfl (lv_at hl 3 rfl) ?_
      refine lv_iconst (v := (1 : Int32)) hx hb dX4_drawRow_70 (by decide) ?_
      refine lv_iadd hx hb dX4_drawRow_71 ?_
      refine lv_i2l (v := (l2 + (1 : Int32)).toInt64) hx hb dX4_drawRow_72 rfl ?_
      obtain ⟨h0, h⟩ := h
      refine lv_lrem hx hb dX4_drawRow_73 h0 ?_
      refine lv_l2i (v := (((ga σ 26 ((l1 - (1 : Int32)) - l2).toNatClampNeg).toInt64 &&& (4294967295 : Int64)) - ((ga σ 26 ((l1 - (1 : Int32)) - l2).toNatClampNeg).toInt64 &&& (4294967295 : Int64)) / (l2 + (1 : Int32)).toInt64 * (l2 + (1 : Int32)).toInt64).toInt32) hx hb dX4_drawRow_74 rfl ?_
      refine q_Vv (As := [.int l2, .int (((ga σ 26 ((l1 - (1 : Int32)) - l2).toNatClampNeg).toInt64 &&& (4294967295 : Int64)) - ((ga σ 26 ((l1 - (1 : Int32)) - l2).toNatClampNeg).toInt64 &&& (4294967295 : Int64)) / (l2 + (1 : Int32)).toInt64 * (l2 + (1 : Int32)).toInt64).toInt32]) (rest := []) E hh (c_X4_changePlaces l G _ _ _ _ _ h) (cwV 2 hts gX4_drawRow_X4_changePlaces rfl rfl rfl (by decide +kernel) ⟨Nat.le_of_ble_eq_true rfl, Nat.le_of_ble_eq_true rfl⟩) (va_recv (ci := 4) E.2.1 hh.1 rfl (WW_at_9 G σ)) rfl hl.1 rfl (Nat.le_of_ble_eq_true rfl) dX4_drawRow_75 ⟨Nat.zero_le _, Nat.zero_le _⟩ (fun s75 H locs h hh => ?_)
      refine lv_iinc (v := (l2 + (-1))) (lv' := [(2, .int (l2 + (-1))), (3, .long ((ga σ 26 ((l1 - (1 : Int32)) - l2).toNatClampNeg).toInt64 &&& (4294967295 : Int64))), (0, .ref (G.2.1 9)), (1, .int l1)]) hx hb dX4_drawRow_78 hl (k := 3) rfl rfl (by decide) rfl (fun ls hl => ?_)
      refine lv_goto (tgt := 46) hx hb dX4_drawRow_81 (by decide) ?_
      exact ih _ _ _ _ _ _ h hh (lv_sub hl [2, 3, 0] rfl)
def f_X4_drawRow_24 (Q : Int32 → St → Prop)  (rec : St → Int32 → Int32 → Prop) (σ : St) (l1 : Int32) (l2 : Int32) : Prop :=
  ((l1 ≤ l2 → f_X4_drawRow_46L Q FU σ l1 (l1 - (1 : Int32))) ∧ (¬ l1 ≤ l2 → (vp_in l2 16 ∧ rec (sa σ 27 (upd (ga σ 27) l2.toNatClampNeg l2)) l1 (l2 + 1))))
def f_X4_drawRow_24L (Q : Int32 → St → Prop)  : Nat → St → Int32 → Int32 → Prop
  | 0, _, _, _ => False
  | n + 1, σ, l1, l2 => f_X4_drawRow_24 Q  (f_X4_drawRow_24L Q  n) σ l1 l2
set_option maxHeartbeats 4000000 in
set_option maxRecDepth 100000 in
theorem w_X4_drawRow_24 {p : Program} {l : Launch} {e : Env} {s : State} {m : MethodId} {args : Array Value} {below : List Frame} {meth : Method} {c : Code} {G : GG} (E : EV p s m args c cX4_drawRow 5 wsX4_drawRow RX4 G (AD G s.heap.size)) (hr : meth.sig.returnType = (some .int)) (hlocks : meth.locks = false) {Q : Int32 → St → Prop}  : ∀ (n : Nat) (σ : St) (l1 : Int32) (l2 : Int32) (H : Heap) (locs : List Loc) (ls : Array Slot), f_X4_drawRow_24L Q  n σ l1 l2 → HH G (AD G s.heap.size) s σ H locs → lv_has ls 5 [(0, .ref (G.2.1 9)), (1, .int l1), (2, .int l2)] → W p l e ({ frames := 2, cells := 0, slots := 0, locals := 43 }) s m args below meth c H locs 0 0 (MQi below G args s Q) (F0 m 24 ls []) := by
  have hx := E.1.1
  have hb := E.1.2.1
  have hown := E.1.2.2.2.1
  have hts := E.1.2.2.2.2
  have h_inX4 : ∀ w ∈ wsX40, w ∈ wsX4_drawRow := (fun _ h9 => (List.mem_cons_of_mem _ (List.mem_append_right _ h9)))
  intro n
  induction n with
  | zero =>
    intro σ l1 l2 H locs ls h
    exact h.elim
  | succ n ih =>
    intro σ l1 l2 H locs ls h hh hl
    have h : f_X4_drawRow_24 Q  (f_X4_drawRow_24L Q  n) σ l1 l2 := h
    unfold f_X4_drawRow_24 at h
    refine lv_iload_n hx hb dX4_drawRow_24 rfl (lv_at hl 2 rfl) ?_
    refine lv_iload_n hx hb dX4_drawRow_25 rfl (lv_at hl 1 rfl) ?_
    refine lv_icmp_ge (tgt := 42) hx hb dX4_drawRow_26 (by decide) (fun c9 => ?_) (fun c9 => ?_)
    · have h := h.1 c9
      refine lv_iload_n hx hb dX4_drawRow_42 rfl (lv_at hl 1 rfl) ?_
      refine lv_iconst (v := (1 : Int32)) hx hb dX4_drawRow_43 (by decide) ?_
      refine lv_isub hx hb dX4_drawRow_44 ?_
      refine lv_istore_n (lv' := [(2, .int (l1 - (1 : Int32))), (0, .ref (G.2.1 9)), (1, .int l1)]) hx hb dX4_drawRow_45 rfl hl (by decide) rfl (fun ls hl => ?_)
      exact w_X4_drawRow_46 E hr hlocks  FU _ _ _ _ _ _ h hh (lv_sub hl [1, 2, 0] rfl)
    · have h := h.2 c9
      refine lv_aload_n hx hb dX4_drawRow_29 rfl (lv_at hl 0 rfl) ?_
      refine q_get (T := TX4) (v := .ref (G.2.1 27)) E hh h_inX4 9 (WW_at_9 G σ) rfl 2 (by decide) (List.mem_cons_of_mem _ (List.mem_append_left _ (List.mem_of_getElem? (i := 1) rfl))) rfl rfl dX4_drawRow_30 ?_
      refine lv_iload_n hx hb dX4_drawRow_33 rfl (lv_at hl 2 rfl) ?_
      refine lv_iload_n hx hb dX4_drawRow_34 rfl (lv_at hl 2 rfl) ?_
      obtain ⟨h0, h⟩ := h
      refine q_iast E hh 27 (WW_at_27 G σ) h0 dX4_drawRow_35 (WW_sa_27 G σ (upd (ga σ 27) l2.toNatClampNeg l2)) (fun H locs hh => ?_)
      refine lv_iinc (v := (l2 + 1)) (lv' := [(2, .int (l2 + 1)), (0, .ref (G.2.1 9)), (1, .int l1)]) hx hb dX4_drawRow_36 hl (k := 2) rfl rfl (by decide) rfl (fun ls hl => ?_)
      refine lv_goto (tgt := 24) hx hb dX4_drawRow_39 (by decide) ?_
      exact ih _ _ _ _ _ _ h hh (lv_sub hl [1, 2, 0] rfl)
def f_X4_drawRow (σ : St) (p1 : Int32) (Q : Int32 → St → Prop) : Prop :=
  ((p1 ≤ 0 → Q (-1 : Int32) σ) ∧ (¬ p1 ≤ 0 → (((16 : Int32) < p1 → Q (-1 : Int32) σ) ∧ (¬ (16 : Int32) < p1 → (((p1 - (1 : Int32)) ≤ (gi σ 21) → f_X4_drawRow_24L Q FU σ p1 (0 : Int32)) ∧ (¬ (p1 - (1 : Int32)) ≤ (gi σ 21) → Q (-1 : Int32) σ))))))
set_option maxHeartbeats 4000000 in
set_option maxRecDepth 100000 in
theorem c_X4_drawRow (l : Launch) (G : GG) (σ : St) (sz : Nat) (p1 : Int32) (Q : Int32 → St → Prop) (h : f_X4_drawRow σ p1 Q) : CTi l yX4_drawRow wsX4_drawRow ({ frames := 2, cells := 0, slots := 0, locals := 43 }) [.ref (G.2.1 9), .int p1] G σ sz Q := by
  refine Met.ofW (cc := cX4_drawRow) (maxL := 5) (ret := (some .int)) (by decide) rfl ?_
  intro p e s m args below meth c s₁ B hml hv
  obtain ⟨rfl, hpre⟩ := hv
  have hr := B.returns
  have hlocks := B.notSynchronized
  obtain ⟨hsz, -⟩ := id hpre
  subst hsz
  obtain ⟨E, hh⟩ := EV.ofPre (⟨B.exec, B.bytes, hml, findClass_of_methodNamed B.named, atoms_spec (ws := wsX4_drawRow) B.pre⟩ : CallFix p m c cX4_drawRow 5 s _ wsX4_drawRow RX4) hpre
  have hx := E.1.1
  have hb := E.1.2.1
  have hown := E.1.2.2.2.1
  have hts := E.1.2.2.2.2
  have h_inX4 : ∀ w ∈ wsX40, w ∈ wsX4_drawRow := (fun _ h9 => (List.mem_cons_of_mem _ (List.mem_append_right _ h9)))
  have hl := lv_entry ([.ref (G.2.1 9), .int p1]) (n := 5) (Nat.le_of_ble_eq_true rfl)
  rw [lg_entry_eq]
  generalize (lg_sl ([.ref (G.2.1 9), .int p1]) ++ List.replicate (5 - (lg_sl ([.ref (G.2.1 9), .int p1])).length) Slot.unset).toArray = ls at hl ⊢
  have hl : lv_has ls 5 [(0, .ref (G.2.1 9)), (1, .int p1)] := hl
  unfold f_X4_drawRow at h
  refine lv_iload_n hx hb dX4_drawRow_0 rfl (lv_at hl 1 rfl) ?_
  refine lv_if_le (tgt := 20) hx hb dX4_drawRow_1 (by decide) (fun c9 => ?_) (fun c9 => ?_)
  · have h := h.1 c9
    refine lv_iconst (v := (-1 : Int32)) hx hb dX4_drawRow_20 (by decide) ?_
    exact q_iret E hh hr hlocks h dX4_drawRow_21
  · have h := h.2 c9
    refine lv_iload_n hx hb dX4_drawRow_4 rfl (lv_at hl 1 rfl) ?_
    refine lv_bipush (v := (16 : Int32)) hx hb dX4_drawRow_5 (by decide) ?_
    refine lv_icmp_gt (tgt := 20) hx hb dX4_drawRow_7 (by decide) (fun c9 => ?_) (fun c9 => ?_)
    · have h := h.1 c9
      refine lv_iconst (v := (-1 : Int32)) hx hb dX4_drawRow_20 (by decide) ?_
      exact q_iret E hh hr hlocks h dX4_drawRow_21
    · have h := h.2 c9
      refine lv_aload_n hx hb dX4_drawRow_10 rfl (lv_at hl 0 rfl) ?_
      refine q_get (T := TX4) (v := .int (gi σ 21)) E hh h_inX4 9 (WW_at_9 G σ) rfl 1 (by decide) (List.mem_cons_of_mem _ (List.mem_append_left _ (List.mem_of_getElem? (i := 0) rfl))) rfl rfl dX4_drawRow_11 ?_
      refine lv_iload_n hx hb dX4_drawRow_14 rfl (lv_at hl 1 rfl) ?_
      refine lv_iconst (v := (1 : Int32)) hx hb dX4_drawRow_15 (by decide) ?_
      refine lv_isub hx hb dX4_drawRow_16 ?_
      refine lv_icmp_ge (tgt := 22) hx hb dX4_drawRow_17 (by decide) (fun c9 => ?_) (fun c9 => ?_)
      · have h := h.1 c9
        refine lv_iconst (v := (0 : Int32)) hx hb dX4_drawRow_22 (by decide) ?_
        refine lv_istore_n (lv' := [(2, .int (0 : Int32)), (0, .ref (G.2.1 9)), (1, .int p1)]) hx hb dX4_drawRow_23 rfl hl (by decide) rfl (fun ls hl => ?_)
        exact w_X4_drawRow_24 E hr hlocks  FU _ _ _ _ _ _ h hh (lv_sub hl [1, 2, 0] rfl)
      · have h := h.2 c9
        refine lv_iconst (v := (-1 : Int32)) hx hb dX4_drawRow_20 (by decide) ?_
        exact q_iret E hh hr hlocks h dX4_drawRow_21
def f_X5_takeFinish (σ : St) (p1 : Int32) (Q : Int32 → St → Prop) : Prop :=
  (((gi σ 19) < (20 : Int32) → (vp_in p1 16 ∧ (((ga σ 20 p1.toNatClampNeg) = 0 → (vp_in p1 16 ∧ Q (gi (sa (si σ 20 ((gi σ 20) + (1 : Int32))) 20 (upd (ga (si σ 20 ((gi σ 20) + (1 : Int32))) 20) p1.toNatClampNeg (gi (si σ 20 ((gi σ 20) + (1 : Int32))) 20))) 20) (sa (si σ 20 ((gi σ 20) + (1 : Int32))) 20 (upd (ga (si σ 20 ((gi σ 20) + (1 : Int32))) 20) p1.toNatClampNeg (gi (si σ 20 ((gi σ 20) + (1 : Int32))) 20))))) ∧ (¬ (ga σ 20 p1.toNatClampNeg) = 0 → Q (-1 : Int32) σ)))) ∧ (¬ (gi σ 19) < (20 : Int32) → Q (-2 : Int32) σ))
set_option maxHeartbeats 4000000 in
set_option maxRecDepth 100000 in
theorem c_X5_takeFinish (l : Launch) (G : GG) (σ : St) (sz : Nat) (p1 : Int32) (Q : Int32 → St → Prop) (h : f_X5_takeFinish σ p1 Q) : CTi l yX5_takeFinish wsX5_takeFinish ({ frames := 0, cells := 0, slots := 0, locals := 0 }) [.ref (G.2.1 7), .int p1] G σ sz Q := by
  refine Met.ofW (cc := cX5_takeFinish) (maxL := 2) (ret := (some .int)) (by decide) rfl ?_
  intro p e s m args below meth c s₁ B hml hv
  obtain ⟨rfl, hpre⟩ := hv
  have hr := B.returns
  have hlocks := B.notSynchronized
  obtain ⟨hsz, -⟩ := id hpre
  subst hsz
  obtain ⟨E, hh⟩ := EV.ofPre (⟨B.exec, B.bytes, hml, findClass_of_methodNamed B.named, atoms_spec (ws := wsX5_takeFinish) B.pre⟩ : CallFix p m c cX5_takeFinish 2 s _ wsX5_takeFinish RX5) hpre
  have hx := E.1.1
  have hb := E.1.2.1
  have hown := E.1.2.2.2.1
  have hts := E.1.2.2.2.2
  have h_inX5 : ∀ w ∈ wsX50, w ∈ wsX5_takeFinish := (fun _ h9 => (List.mem_cons_of_mem _ (List.mem_append_right _ h9)))
  have hl := lv_entry ([.ref (G.2.1 7), .int p1]) (n := 2) (Nat.le_of_ble_eq_true rfl)
  rw [lg_entry_eq]
  generalize (lg_sl ([.ref (G.2.1 7), .int p1]) ++ List.replicate (2 - (lg_sl ([.ref (G.2.1 7), .int p1])).length) Slot.unset).toArray = ls at hl ⊢
  have hl : lv_has ls 2 [(0, .ref (G.2.1 7)), (1, .int p1)] := hl
  unfold f_X5_takeFinish at h
  refine lv_aload_n hx hb dX5_takeFinish_0 rfl (lv_at hl 0 rfl) ?_
  refine q_get (T := TX5) (v := .int (gi σ 19)) E hh h_inX5 7 (WW_at_7 G σ) rfl 1 (by decide) (List.mem_cons_of_mem _ (List.mem_append_left _ (List.mem_of_getElem? (i := 0) rfl))) rfl rfl dX5_takeFinish_1 ?_
  refine lv_bipush (v := (20 : Int32)) hx hb dX5_takeFinish_4 (by decide) ?_
  refine lv_icmp_lt (tgt := 12) hx hb dX5_takeFinish_6 (by decide) (fun c9 => ?_) (fun c9 => ?_)
  · have h := h.1 c9
    refine lv_aload_n hx hb dX5_takeFinish_12 rfl (lv_at hl 0 rfl) ?_
    refine q_get (T := TX5) (v := .ref (G.2.1 20)) E hh h_inX5 7 (WW_at_7 G σ) rfl 2 (by decide) (List.mem_cons_of_mem _ (List.mem_append_left _ (List.mem_of_getElem? (i := 1) rfl))) rfl rfl dX5_takeFinish_13 ?_
    refine lv_iload_n hx hb dX5_takeFinish_16 rfl (lv_at hl 1 rfl) ?_
    obtain ⟨h0, h⟩ := h
    refine q_iald E hh 20 (WW_at_20 G σ) h0 dX5_takeFinish_17 ?_
    refine lv_if_eq (tgt := 23) hx hb dX5_takeFinish_18 (by decide) (fun c9 => ?_) (fun c9 => ?_)
    · have h := h.1 c9
      refine lv_aload_n hx hb dX5_takeFinish_23 rfl (lv_at hl 0 rfl) ?_
      refine lv_dup hx hb dX5_takeFinish_24 rfl ?_
      refine q_get (T := TX5) (v := .int (gi σ 20)) E hh h_inX5 7 (WW_at_7 G σ) rfl 3 (by decide) (List.mem_cons_of_mem _ (List.mem_append_left _ (List.mem_of_getElem? (i := 2) rfl))) rfl rfl dX5_takeFinish_25 ?_
      refine lv_iconst (v := (1 : Int32)) hx hb dX5_takeFinish_28 (by decide) ?_
      refine lv_iadd hx hb dX5_takeFinish_29 ?_
      refine q_put (T := TX5) E hh h_inX5 tyX5 tyX5_ok nmX5 7 (WW_at_7 G σ) rfl 3 (by decide) (List.mem_cons_of_mem _ (List.mem_append_left _ (List.mem_of_getElem? (i := 2) rfl))) rfl rfl (by decide +kernel) (Nat.le_of_ble_eq_true rfl) dX5_takeFinish_30 (WW_si_20 G σ ((gi σ 20) + (1 : Int32))) (fun H locs hh => ?_)
      refine lv_aload_n hx hb dX5_takeFinish_33 rfl (lv_at hl 0 rfl) ?_
      refine q_get (T := TX5) (v := .ref (G.2.1 20)) E hh h_inX5 7 (WW_at_7 G (si σ 20 ((gi σ 20) + (1 : Int32)))) rfl 2 (by decide) (List.mem_cons_of_mem _ (List.mem_append_left _ (List.mem_of_getElem? (i := 1) rfl))) rfl rfl dX5_takeFinish_34 ?_
      refine lv_iload_n hx hb dX5_takeFinish_37 rfl (lv_at hl 1 rfl) ?_
      refine lv_aload_n hx hb dX5_takeFinish_38 rfl (lv_at hl 0 rfl) ?_
      refine q_get (T := TX5) (v := .int (gi (si σ 20 ((gi σ 20) + (1 : Int32))) 20)) E hh h_inX5 7 (WW_at_7 G (si σ 20 ((gi σ 20) + (1 : Int32)))) rfl 3 (by decide) (List.mem_cons_of_mem _ (List.mem_append_left _ (List.mem_of_getElem? (i := 2) rfl))) rfl rfl dX5_takeFinish_39 ?_
      obtain ⟨h0, h⟩ := h
      refine q_iast E hh 20 (WW_at_20 G (si σ 20 ((gi σ 20) + (1 : Int32)))) h0 dX5_takeFinish_42 (WW_sa_20 G (si σ 20 ((gi σ 20) + (1 : Int32))) (upd (ga (si σ 20 ((gi σ 20) + (1 : Int32))) 20) p1.toNatClampNeg (gi (si σ 20 ((gi σ 20) + (1 : Int32))) 20))) (fun H locs hh => ?_)
      refine lv_aload_n hx hb dX5_takeFinish_43 rfl (lv_at hl 0 rfl) ?_
      refine q_get (T := TX5) (v := .int (gi (sa (si σ 20 ((gi σ 20) + (1 : Int32))) 20 (upd (ga (si σ 20 ((gi σ 20) + (1 : Int32))) 20) p1.toNatClampNeg (gi (si σ 20 ((gi σ 20) + (1 : Int32))) 20))) 20)) E hh h_inX5 7 (WW_at_7 G (sa (si σ 20 ((gi σ 20) + (1 : Int32))) 20 (upd (ga (si σ 20 ((gi σ 20) + (1 : Int32))) 20) p1.toNatClampNeg (gi (si σ 20 ((gi σ 20) + (1 : Int32))) 20)))) rfl 3 (by decide) (List.mem_cons_of_mem _ (List.mem_append_left _ (List.mem_of_getElem? (i := 2) rfl))) rfl rfl dX5_takeFinish_44 ?_
      exact q_iret E hh hr hlocks h dX5_takeFinish_47
    · have h := h.2 c9
      refine lv_iconst (v := (-1 : Int32)) hx hb dX5_takeFinish_21 (by decide) ?_
      exact q_iret E hh hr hlocks h dX5_takeFinish_22
  · have h := h.2 c9
    refine lv_bipush (v := (-2 : Int32)) hx hb dX5_takeFinish_9 (by decide) ?_
    exact q_iret E hh hr hlocks h dX5_takeFinish_11
def f_X5_endRace_17 (Q : Int32 → St → Prop)  (rec : St → Int32 → Int32 → Prop) (σ : St) (l1 : Int32) (l2 : Int32) : Prop :=
  (((16 : Int32) ≤ l2 → Q ((gi (si (si σ 20 (0 : Int32)) 19 ((gi (si σ 20 (0 : Int32)) 19) + (1 : Int32))) 19) - (1 : Int32)) (si (si σ 20 (0 : Int32)) 19 ((gi (si σ 20 (0 : Int32)) 19) + (1 : Int32)))) ∧ (¬ (16 : Int32) ≤ l2 → (vp_in l2 16 ∧ (((ga σ 20 l2.toNatClampNeg) = 0 → (vp_in (((16 : Int32) * (gi σ 19)) + l2) 320 ∧ (vp_in l2 16 ∧ rec (sa (sa σ 19 (upd (ga σ 19) (((16 : Int32) * (gi σ 19)) + l2).toNatClampNeg (l1 + (1 : Int32)))) 20 (upd (ga (sa σ 19 (upd (ga σ 19) (((16 : Int32) * (gi σ 19)) + l2).toNatClampNeg (l1 + (1 : Int32)))) 20) l2.toNatClampNeg (0 : Int32))) l1 (l2 + 1)))) ∧ (¬ (ga σ 20 l2.toNatClampNeg) = 0 → (vp_in l2 16 ∧ (vp_in (((16 : Int32) * (gi σ 19)) + l2) 320 ∧ (vp_in l2 16 ∧ rec (sa (sa σ 19 (upd (ga σ 19) (((16 : Int32) * (gi σ 19)) + l2).toNatClampNeg (ga σ 20 l2.toNatClampNeg))) 20 (upd (ga (sa σ 19 (upd (ga σ 19) (((16 : Int32) * (gi σ 19)) + l2).toNatClampNeg (ga σ 20 l2.toNatClampNeg))) 20) l2.toNatClampNeg (0 : Int32))) l1 (l2 + 1)))))))))
def f_X5_endRace_17L (Q : Int32 → St → Prop)  : Nat → St → Int32 → Int32 → Prop
  | 0, _, _, _ => False
  | n + 1, σ, l1, l2 => f_X5_endRace_17 Q  (f_X5_endRace_17L Q  n) σ l1 l2
set_option maxHeartbeats 4000000 in
set_option maxRecDepth 100000 in
theorem w_X5_endRace_17 {p : Program} {l : Launch} {e : Env} {s : State} {m : MethodId} {args : Array Value} {below : List Frame} {meth : Method} {c : Code} {G : GG} (E : EV p s m args c cX5_endRace 3 wsX5_endRace RX5 G (AD G s.heap.size)) (hr : meth.sig.returnType = (some .int)) (hlocks : meth.locks = false) {Q : Int32 → St → Prop}  : ∀ (n : Nat) (σ : St) (l1 : Int32) (l2 : Int32) (H : Heap) (locs : List Loc) (ls : Array Slot), f_X5_endRace_17L Q  n σ l1 l2 → HH G (AD G s.heap.size) s σ H locs → lv_has ls 3 [(0, .ref (G.2.1 7)), (1, .int l1), (2, .int l2)] → W p l e ({ frames := 0, cells := 0, slots := 0, locals := 0 }) s m args below meth c H locs 0 0 (MQi below G args s Q) (F0 m 17 ls []) := by
  have hx := E.1.1
  have hb := E.1.2.1
  have hown := E.1.2.2.2.1
  have hts := E.1.2.2.2.2
  have h_inX5 : ∀ w ∈ wsX50, w ∈ wsX5_endRace := (fun _ h9 => (List.mem_cons_of_mem _ (List.mem_append_right _ h9)))
  intro n
  induction n with
  | zero =>
    intro σ l1 l2 H locs ls h
    exact h.elim
  | succ n ih =>
    intro σ l1 l2 H locs ls h hh hl
    have h : f_X5_endRace_17 Q  (f_X5_endRace_17L Q  n) σ l1 l2 := h
    unfold f_X5_endRace_17 at h
    refine lv_iload_n hx hb dX5_endRace_17 rfl (lv_at hl 2 rfl) ?_
    refine lv_bipush (v := (16 : Int32)) hx hb dX5_endRace_18 (by decide) ?_
    refine lv_icmp_ge (tgt := 71) hx hb dX5_endRace_20 (by decide) (fun c9 => ?_) (fun c9 => ?_)
    · have h := h.1 c9
      refine lv_aload_n hx hb dX5_endRace_71 rfl (lv_at hl 0 rfl) ?_
      refine lv_iconst (v := (0 : Int32)) hx hb dX5_endRace_72 (by decide) ?_
      refine q_put (T := TX5) E hh h_inX5 tyX5 tyX5_ok nmX5 7 (WW_at_7 G σ) rfl 3 (by decide) (List.mem_cons_of_mem _ (List.mem_append_left _ (List.mem_of_getElem? (i := 3) rfl))) rfl rfl (by decide +kernel) (Nat.le_of_ble_eq_true rfl) dX5_endRace_73 (WW_si_20 G σ (0 : Int32)) (fun H locs hh => ?_)
      refine lv_aload_n hx hb dX5_endRace_76 rfl (lv_at hl 0 rfl) ?_
      refine lv_dup hx hb dX5_endRace_77 rfl ?_
      refine q_get (T := TX5) (v := .int (gi (si σ 20 (0 : Int32)) 19)) E hh h_inX5 7 (WW_at_7 G (si σ 20 (0 : Int32))) rfl 1 (by decide) (List.mem_cons_of_mem _ (List.mem_append_left _ (List.mem_of_getElem? (i := 0) rfl))) rfl rfl dX5_endRace_78 ?_
      refine lv_iconst (v := (1 : Int32)) hx hb dX5_endRace_81 (by decide) ?_
      refine lv_iadd hx hb dX5_endRace_82 ?_
      refine q_put (T := TX5) E hh h_inX5 tyX5 tyX5_ok nmX5 7 (WW_at_7 G (si σ 20 (0 : Int32))) rfl 1 (by decide) (List.mem_cons_of_mem _ (List.mem_append_left _ (List.mem_of_getElem? (i := 0) rfl))) rfl rfl (by decide +kernel) (Nat.le_of_ble_eq_true rfl) dX5_endRace_83 (WW_si_19 G (si σ 20 (0 : Int32)) ((gi (si σ 20 (0 : Int32)) 19) + (1 : Int32))) (fun H locs hh => ?_)
      refine lv_aload_n hx hb dX5_endRace_86 rfl (lv_at hl 0 rfl) ?_
      refine q_get (T := TX5) (v := .int (gi (si (si σ 20 (0 : Int32)) 19 ((gi (si σ 20 (0 : Int32)) 19) + (1 : Int32))) 19)) E hh h_inX5 7 (WW_at_7 G (si (si σ 20 (0 : Int32)) 19 ((gi (si σ 20 (0 : Int32)) 19) + (1 : Int32)))) rfl 1 (by decide) (List.mem_cons_of_mem _ (List.mem_append_left _ (List.mem_of_getElem? (i := 0) rfl))) rfl rfl dX5_endRace_87 ?_
      refine lv_iconst (v := (1 : Int32)) hx hb dX5_endRace_90 (by decide) ?_
      refine lv_isub hx hb dX5_endRace_91 ?_
      exact q_iret E hh hr hlocks h dX5_endRace_92
    · have h := h.2 c9
      refine lv_aload_n hx hb dX5_endRace_23 rfl (lv_at hl 0 rfl) ?_
      refine q_get (T := TX5) (v := .ref (G.2.1 19)) E hh h_inX5 7 (WW_at_7 G σ) rfl 0 (by decide) (List.mem_cons_of_mem _ (List.mem_append_left _ (List.mem_of_getElem? (i := 1) rfl))) rfl rfl dX5_endRace_24 ?_
      refine lv_bipush (v := (16 : Int32)) hx hb dX5_endRace_27 (by decide) ?_
      refine lv_aload_n hx hb dX5_endRace_29 rfl (lv_at hl 0 rfl) ?_
      refine q_get (T := TX5) (v := .int (gi σ 19)) E hh h_inX5 7 (WW_at_7 G σ) rfl 1 (by decide) (List.mem_cons_of_mem _ (List.mem_append_left _ (List.mem_of_getElem? (i := 0) rfl))) rfl rfl dX5_endRace_30 ?_
      refine lv_imul hx hb dX5_endRace_33 ?_
      refine lv_iload_n hx hb dX5_endRace_34 rfl (lv_at hl 2 rfl) ?_
      refine lv_iadd hx hb dX5_endRace_35 ?_
      refine lv_aload_n hx hb dX5_endRace_36 rfl (lv_at hl 0 rfl) ?_
      refine q_get (T := TX5) (v := .ref (G.2.1 20)) E hh h_inX5 7 (WW_at_7 G σ) rfl 2 (by decide) (List.mem_cons_of_mem _ (List.mem_append_left _ (List.mem_of_getElem? (i := 2) rfl))) rfl rfl dX5_endRace_37 ?_
      refine lv_iload_n hx hb dX5_endRace_40 rfl (lv_at hl 2 rfl) ?_
      obtain ⟨h0, h⟩ := h
      refine q_iald E hh 20 (WW_at_20 G σ) h0 dX5_endRace_41 ?_
      refine lv_if_eq (tgt := 54) hx hb dX5_endRace_42 (by decide) (fun c9 => ?_) (fun c9 => ?_)
      · have h := h.1 c9
        refine lv_iload_n hx hb dX5_endRace_54 rfl (lv_at hl 1 rfl) ?_
        refine lv_iconst (v := (1 : Int32)) hx hb dX5_endRace_55 (by decide) ?_
        refine lv_iadd hx hb dX5_endRace_56 ?_
        obtain ⟨h0, h⟩ := h
        refine q_iast E hh 19 (WW_at_19 G σ) h0 dX5_endRace_57 (WW_sa_19 G σ (upd (ga σ 19) (((16 : Int32) * (gi σ 19)) + l2).toNatClampNeg (l1 + (1 : Int32)))) (fun H locs hh => ?_)
        refine lv_aload_n hx hb dX5_endRace_58 rfl (lv_at hl 0 rfl) ?_
        refine q_get (T := TX5) (v := .ref (G.2.1 20)) E hh h_inX5 7 (WW_at_7 G (sa σ 19 (upd (ga σ 19) (((16 : Int32) * (gi σ 19)) + l2).toNatClampNeg (l1 + (1 : Int32))))) rfl 2 (by decide) (List.mem_cons_of_mem _ (List.mem_append_left _ (List.mem_of_getElem? (i := 2) rfl))) rfl rfl dX5_endRace_59 ?_
        refine lv_iload_n hx hb dX5_endRace_62 rfl (lv_at hl 2 rfl) ?_
        refine lv_iconst (v := (0 : Int32)) hx hb dX5_endRace_63 (by decide) ?_
        obtain ⟨h0, h⟩ := h
        refine q_iast E hh 20 (WW_at_20 G (sa σ 19 (upd (ga σ 19) (((16 : Int32) * (gi σ 19)) + l2).toNatClampNeg (l1 + (1 : Int32))))) h0 dX5_endRace_64 (WW_sa_20 G (sa σ 19 (upd (ga σ 19) (((16 : Int32) * (gi σ 19)) + l2).toNatClampNeg (l1 + (1 : Int32)))) (upd (ga (sa σ 19 (upd (ga σ 19) (((16 : Int32) * (gi σ 19)) + l2).toNatClampNeg (l1 + (1 : Int32)))) 20) l2.toNatClampNeg (0 : Int32))) (fun H locs hh => ?_)
        refine lv_iinc (v := (l2 + 1)) (lv' := [(2, .int (l2 + 1)), (0, .ref (G.2.1 7)), (1, .int l1)]) hx hb dX5_endRace_65 hl (k := 2) rfl rfl (by decide) rfl (fun ls hl => ?_)
        refine lv_goto (tgt := 17) hx hb dX5_endRace_68 (by decide) ?_
        exact ih _ _ _ _ _ _ h hh (lv_sub hl [1, 2, 0] rfl)
      · have h := h.2 c9
        refine lv_aload_n hx hb dX5_endRace_45 rfl (lv_at hl 0 rfl) ?_
        refine q_get (T := TX5) (v := .ref (G.2.1 20)) E hh h_inX5 7 (WW_at_7 G σ) rfl 2 (by decide) (List.mem_cons_of_mem _ (List.mem_append_left _ (List.mem_of_getElem? (i := 2) rfl))) rfl rfl dX5_endRace_46 ?_
        refine lv_iload_n hx hb dX5_endRace_49 rfl (lv_at hl 2 rfl) ?_
        obtain ⟨h0, h⟩ := h
        refine q_iald E hh 20 (WW_at_20 G σ) h0 dX5_endRace_50 ?_
        refine lv_goto (tgt := 57) hx hb dX5_endRace_51 (by decide) ?_
        obtain ⟨h0, h⟩ := h
        refine q_iast E hh 19 (WW_at_19 G σ) h0 dX5_endRace_57 (WW_sa_19 G σ (upd (ga σ 19) (((16 : Int32) * (gi σ 19)) + l2).toNatClampNeg (ga σ 20 l2.toNatClampNeg))) (fun H locs hh => ?_)
        refine lv_aload_n hx hb dX5_endRace_58 rfl (lv_at hl 0 rfl) ?_
        refine q_get (T := TX5) (v := .ref (G.2.1 20)) E hh h_inX5 7 (WW_at_7 G (sa σ 19 (upd (ga σ 19) (((16 : Int32) * (gi σ 19)) + l2).toNatClampNeg (ga σ 20 l2.toNatClampNeg)))) rfl 2 (by decide) (List.mem_cons_of_mem _ (List.mem_append_left _ (List.mem_of_getElem? (i := 2) rfl))) rfl rfl dX5_endRace_59 ?_
        refine lv_iload_n hx hb dX5_endRace_62 rfl (lv_at hl 2 rfl) ?_
        refine lv_iconst (v := (0 : Int32)) hx hb dX5_endRace_63 (by decide) ?_
        obtain ⟨h0, h⟩ := h
        refine q_iast E hh 20 (WW_at_20 G (sa σ 19 (upd (ga σ 19) (((16 : Int32) * (gi σ 19)) + l2).toNatClampNeg (ga σ 20 l2.toNatClampNeg)))) h0 dX5_endRace_64 (WW_sa_20 G (sa σ 19 (upd (ga σ 19) (((16 : Int32) * (gi σ 19)) + l2).toNatClampNeg (ga σ 20 l2.toNatClampNeg))) (upd (ga (sa σ 19 (upd (ga σ 19) (((16 : Int32) * (gi σ 19)) + l2).toNatClampNeg (ga σ 20 l2.toNatClampNeg))) 20) l2.toNatClampNeg (0 : Int32))) (fun H locs hh => ?_)
        refine lv_iinc (v := (l2 + 1)) (lv' := [(2, .int (l2 + 1)), (0, .ref (G.2.1 7)), (1, .int l1)]) hx hb dX5_endRace_65 hl (k := 2) rfl rfl (by decide) rfl (fun ls hl => ?_)
        refine lv_goto (tgt := 17) hx hb dX5_endRace_68 (by decide) ?_
        exact ih _ _ _ _ _ _ h hh (lv_sub hl [1, 2, 0] rfl)
def f_X5_endRace (σ : St) (p1 : Int32) (Q : Int32 → St → Prop) : Prop :=
  (((20 : Int32) ≤ (gi σ 19) → Q (-1 : Int32) σ) ∧ (¬ (20 : Int32) ≤ (gi σ 19) → ((0 < p1 → f_X5_endRace_17L Q FU σ p1 (0 : Int32)) ∧ (¬ 0 < p1 → Q (-1 : Int32) σ))))
set_option maxHeartbeats 4000000 in
set_option maxRecDepth 100000 in
theorem c_X5_endRace (l : Launch) (G : GG) (σ : St) (sz : Nat) (p1 : Int32) (Q : Int32 → St → Prop) (h : f_X5_endRace σ p1 Q) : CTi l yX5_endRace wsX5_endRace ({ frames := 0, cells := 0, slots := 0, locals := 0 }) [.ref (G.2.1 7), .int p1] G σ sz Q := by
  refine Met.ofW (cc := cX5_endRace) (maxL := 3) (ret := (some .int)) (by decide) rfl ?_
  intro p e s m args below meth c s₁ B hml hv
  obtain ⟨rfl, hpre⟩ := hv
  have hr := B.returns
  have hlocks := B.notSynchronized
  obtain ⟨hsz, -⟩ := id hpre
  subst hsz
  obtain ⟨E, hh⟩ := EV.ofPre (⟨B.exec, B.bytes, hml, findClass_of_methodNamed B.named, atoms_spec (ws := wsX5_endRace) B.pre⟩ : CallFix p m c cX5_endRace 3 s _ wsX5_endRace RX5) hpre
  have hx := E.1.1
  have hb := E.1.2.1
  have hown := E.1.2.2.2.1
  have hts := E.1.2.2.2.2
  have h_inX5 : ∀ w ∈ wsX50, w ∈ wsX5_endRace := (fun _ h9 => (List.mem_cons_of_mem _ (List.mem_append_right _ h9)))
  have hl := lv_entry ([.ref (G.2.1 7), .int p1]) (n := 3) (Nat.le_of_ble_eq_true rfl)
  rw [lg_entry_eq]
  generalize (lg_sl ([.ref (G.2.1 7), .int p1]) ++ List.replicate (3 - (lg_sl ([.ref (G.2.1 7), .int p1])).length) Slot.unset).toArray = ls at hl ⊢
  have hl : lv_has ls 3 [(0, .ref (G.2.1 7)), (1, .int p1)] := hl
  unfold f_X5_endRace at h
  refine lv_aload_n hx hb dX5_endRace_0 rfl (lv_at hl 0 rfl) ?_
  refine q_get (T := TX5) (v := .int (gi σ 19)) E hh h_inX5 7 (WW_at_7 G σ) rfl 1 (by decide) (List.mem_cons_of_mem _ (List.mem_append_left _ (List.mem_of_getElem? (i := 0) rfl))) rfl rfl dX5_endRace_1 ?_
  refine lv_bipush (v := (20 : Int32)) hx hb dX5_endRace_4 (by decide) ?_
  refine lv_icmp_ge (tgt := 13) hx hb dX5_endRace_6 (by decide) (fun c9 => ?_) (fun c9 => ?_)
  · have h := h.1 c9
    refine lv_iconst (v := (-1 : Int32)) hx hb dX5_endRace_13 (by decide) ?_
    exact q_iret E hh hr hlocks h dX5_endRace_14
  · have h := h.2 c9
    refine lv_iload_n hx hb dX5_endRace_9 rfl (lv_at hl 1 rfl) ?_
    refine lv_if_gt (tgt := 15) hx hb dX5_endRace_10 (by decide) (fun c9 => ?_) (fun c9 => ?_)
    · have h := h.1 c9
      refine lv_iconst (v := (0 : Int32)) hx hb dX5_endRace_15 (by decide) ?_
      refine lv_istore_n (lv' := [(2, .int (0 : Int32)), (0, .ref (G.2.1 7)), (1, .int p1)]) hx hb dX5_endRace_16 rfl hl (by decide) rfl (fun ls hl => ?_)
      exact w_X5_endRace_17 E hr hlocks  FU _ _ _ _ _ _ h hh (lv_sub hl [1, 2, 0] rfl)
    · have h := h.2 c9
      refine lv_iconst (v := (-1 : Int32)) hx hb dX5_endRace_13 (by decide) ?_
      exact q_iret E hh hr hlocks h dX5_endRace_14
def f_X5_pointsOf (σ : St) (p1 : Int32) (p2 : Int32) (Q : Int32 → St → Prop) : Prop :=
  (((((16 : Int32) * p2) + p1) < 0 → Q (0 : Int32) σ) ∧ (¬ (((16 : Int32) * p2) + p1) < 0 → (((320 : Int32) ≤ (((16 : Int32) * p2) + p1) → Q (0 : Int32) σ) ∧ (¬ (320 : Int32) ≤ (((16 : Int32) * p2) + p1) → (vp_in (((16 : Int32) * p2) + p1) 320 ∧ Q (ga σ 19 (((16 : Int32) * p2) + p1).toNatClampNeg) σ)))))
set_option maxHeartbeats 4000000 in
set_option maxRecDepth 100000 in
theorem c_X5_pointsOf (l : Launch) (G : GG) (σ : St) (sz : Nat) (p1 : Int32) (p2 : Int32) (Q : Int32 → St → Prop) (h : f_X5_pointsOf σ p1 p2 Q) : CTi l yX5_pointsOf wsX5_pointsOf ({ frames := 0, cells := 0, slots := 0, locals := 0 }) [.ref (G.2.1 7), .int p1, .int p2] G σ sz Q := by
  refine Met.ofW (cc := cX5_pointsOf) (maxL := 4) (ret := (some .int)) (by decide) rfl ?_
  intro p e s m args below meth c s₁ B hml hv
  obtain ⟨rfl, hpre⟩ := hv
  have hr := B.returns
  have hlocks := B.notSynchronized
  obtain ⟨hsz, -⟩ := id hpre
  subst hsz
  obtain ⟨E, hh⟩ := EV.ofPre (⟨B.exec, B.bytes, hml, findClass_of_methodNamed B.named, atoms_spec (ws := wsX5_pointsOf) B.pre⟩ : CallFix p m c cX5_pointsOf 4 s _ wsX5_pointsOf RX5) hpre
  have hx := E.1.1
  have hb := E.1.2.1
  have hown := E.1.2.2.2.1
  have hts := E.1.2.2.2.2
  have h_inX5 : ∀ w ∈ wsX50, w ∈ wsX5_pointsOf := (fun _ h9 => (List.mem_cons_of_mem _ (List.mem_append_right _ h9)))
  have hl := lv_entry ([.ref (G.2.1 7), .int p1, .int p2]) (n := 4) (Nat.le_of_ble_eq_true rfl)
  rw [lg_entry_eq]
  generalize (lg_sl ([.ref (G.2.1 7), .int p1, .int p2]) ++ List.replicate (4 - (lg_sl ([.ref (G.2.1 7), .int p1, .int p2])).length) Slot.unset).toArray = ls at hl ⊢
  have hl : lv_has ls 4 [(0, .ref (G.2.1 7)), (1, .int p1), (2, .int p2)] := hl
  unfold f_X5_pointsOf at h
  refine lv_bipush (v := (16 : Int32)) hx hb dX5_pointsOf_0 (by decide) ?_
  refine lv_iload_n hx hb dX5_pointsOf_2 rfl (lv_at hl 2 rfl) ?_
  refine lv_imul hx hb dX5_pointsOf_3 ?_
  refine lv_iload_n hx hb dX5_pointsOf_4 rfl (lv_at hl 1 rfl) ?_
  refine lv_iadd hx hb dX5_pointsOf_5 ?_
  refine lv_istore_n (lv' := [(3, .int (((16 : Int32) * p2) + p1)), (0, .ref (G.2.1 7)), (1, .int p1), (2, .int p2)]) hx hb dX5_pointsOf_6 rfl hl (by decide) rfl (fun ls hl => ?_)
  refine lv_iload_n hx hb dX5_pointsOf_7 rfl (lv_at hl 0 rfl) ?_
  refine lv_if_lt (tgt := 29) hx hb dX5_pointsOf_8 (by decide) (fun c9 => ?_) (fun c9 => ?_)
  · have h := h.1 c9
    refine lv_iconst (v := (0 : Int32)) hx hb dX5_pointsOf_29 (by decide) ?_
    exact q_iret E hh hr hlocks h dX5_pointsOf_30
  · have h := h.2 c9
    refine lv_iload_n hx hb dX5_pointsOf_11 rfl (lv_at hl 0 rfl) ?_
    refine lv_aload_n hx hb dX5_pointsOf_12 rfl (lv_at hl 1 rfl) ?_
    refine q_get (T := TX5) (v := .ref (G.2.1 19)) E hh h_inX5 7 (WW_at_7 G σ) rfl 0 (by decide) (List.mem_cons_of_mem _ (List.mem_append_left _ (List.mem_of_getElem? (i := 0) rfl))) rfl rfl dX5_pointsOf_13 ?_
    refine q_alen (v := (320 : Int32)) E hh 19 0 (WW_at_19 G σ) rfl rfl dX5_pointsOf_16 ?_
    refine lv_icmp_ge (tgt := 29) hx hb dX5_pointsOf_17 (by decide) (fun c9 => ?_) (fun c9 => ?_)
    · have h := h.1 c9
      refine lv_iconst (v := (0 : Int32)) hx hb dX5_pointsOf_29 (by decide) ?_
      exact q_iret E hh hr hlocks h dX5_pointsOf_30
    · have h := h.2 c9
      refine lv_aload_n hx hb dX5_pointsOf_20 rfl (lv_at hl 1 rfl) ?_
      refine q_get (T := TX5) (v := .ref (G.2.1 19)) E hh h_inX5 7 (WW_at_7 G σ) rfl 0 (by decide) (List.mem_cons_of_mem _ (List.mem_append_left _ (List.mem_of_getElem? (i := 0) rfl))) rfl rfl dX5_pointsOf_21 ?_
      refine lv_iload_n hx hb dX5_pointsOf_24 rfl (lv_at hl 0 rfl) ?_
      obtain ⟨h0, h⟩ := h
      refine q_iald E hh 19 (WW_at_19 G σ) h0 dX5_pointsOf_25 ?_
      refine lv_goto (tgt := 30) hx hb dX5_pointsOf_26 (by decide) ?_
      exact q_iret E hh hr hlocks h dX5_pointsOf_30
def f_X5_worstOf_77 (Q : Int32 → St → Prop)  (rec : St → Int32 → Int32 → Int32 → Prop) (σ : St) (l3 : Int32) (l4 : Int32) (l5 : Int32) : Prop :=
  ((l5 ≤ 0 → Q l4 σ) ∧ (¬ l5 ≤ 0 → ((l3 ≤ 0 → Q l4 σ) ∧ (¬ l3 ≤ 0 → (vp_in l5 18 ∧ rec σ (l3 - (if (ga σ 21 l5.toNatClampNeg) < l3 then (ga σ 21 l5.toNatClampNeg) else l3)) (l4 + ((if (ga σ 21 l5.toNatClampNeg) < l3 then (ga σ 21 l5.toNatClampNeg) else l3) * l5)) (l5 + (-1)))))))
def f_X5_worstOf_77L (Q : Int32 → St → Prop)  : Nat → St → Int32 → Int32 → Int32 → Prop
  | 0, _, _, _, _ => False
  | n + 1, σ, l3, l4, l5 => f_X5_worstOf_77 Q  (f_X5_worstOf_77L Q  n) σ l3 l4 l5
set_option maxHeartbeats 4000000 in
set_option maxRecDepth 100000 in
theorem w_X5_worstOf_77 {p : Program} {l : Launch} {e : Env} {s : State} {m : MethodId} {args : Array Value} {below : List Frame} {meth : Method} {c : Code} {G : GG} (E : EV p s m args c cX5_worstOf 7 wsX5_worstOf RX5 G (AD G s.heap.size)) (hr : meth.sig.returnType = (some .int)) (hlocks : meth.locks = false) {Q : Int32 → St → Prop}  : ∀ (n : Nat) (σ : St) (l3 : Int32) (l4 : Int32) (l5 : Int32) (H : Heap) (locs : List Loc) (ls : Array Slot), f_X5_worstOf_77L Q  n σ l3 l4 l5 → HH G (AD G s.heap.size) s σ H locs → lv_has ls 7 [(0, .ref (G.2.1 7)), (3, .int l3), (4, .int l4), (5, .int l5)] → W p l e ({ frames := 1, cells := 0, slots := 0, locals := 23 }) s m args below meth c H locs 0 0 (MQi below G args s Q) (F0 m 77 ls []) := by
  have hx := E.1.1
  have hb := E.1.2.1
  have hown := E.1.2.2.2.1
  have hts := E.1.2.2.2.2
  have h_inX5 : ∀ w ∈ wsX50, w ∈ wsX5_worstOf := (fun _ h9 => (List.mem_cons_of_mem _ (List.mem_append_right _ h9)))
  intro n
  induction n with
  | zero =>
    intro σ l3 l4 l5 H locs ls h
    exact h.elim
  | succ n ih =>
    intro σ l3 l4 l5 H locs ls h hh hl
    have h : f_X5_worstOf_77 Q  (f_X5_worstOf_77L Q  n) σ l3 l4 l5 := h
    unfold f_X5_worstOf_77 at h
    refine lv_iload hx hb dX5_worstOf_77 (lv_at hl 3 rfl) ?_
    refine lv_if_le (tgt := 120) hx hb dX5_worstOf_79 (by decide) (fun c9 => ?_) (fun c9 => ?_)
    · have h := h.1 c9
      refine lv_iload hx hb dX5_worstOf_120 (lv_at hl 2 rfl) ?_
      exact q_iret E hh hr hlocks h dX5_worstOf_122
    · have h := h.2 c9
      refine lv_iload_n hx hb dX5_worstOf_82 rfl (lv_at hl 1 rfl) ?_
      refine lv_if_le (tgt := 120) hx hb dX5_worstOf_83 (by decide) (fun c9 => ?_) (fun c9 => ?_)
      · have h := h.1 c9
        refine lv_iload hx hb dX5_worstOf_120 (lv_at hl 2 rfl) ?_
        exact q_iret E hh hr hlocks h dX5_worstOf_122
      · have h := h.2 c9
        refine lv_iload_n hx hb dX5_worstOf_86 rfl (lv_at hl 1 rfl) ?_
        refine lv_aload_n hx hb dX5_worstOf_87 rfl (lv_at hl 0 rfl) ?_
        refine q_get (T := TX5) (v := .ref (G.2.1 21)) E hh h_inX5 7 (WW_at_7 G σ) rfl 4 (by decide) (List.mem_cons_of_mem _ (List.mem_append_left _ (List.mem_of_getElem? (i := 0) rfl))) rfl rfl dX5_worstOf_88 ?_
        refine lv_iload hx hb dX5_worstOf_91 (lv_at hl 3 rfl) ?_
        obtain ⟨h0, h⟩ := h
        refine q_iald E hh 21 (WW_at_21 G σ) h0 dX5_worstOf_93 ?_
        refine va_mmin (own := RX5) hx hb (by rw [E.1.2.2.1]; exact hl.1.symm) hown (hts _ (List.mem_cons_of_mem _ (List.mem_append_left _ (List.mem_of_getElem? (i := 2) rfl)))) (hts _ (List.mem_cons_of_mem _ (List.mem_append_left _ (List.mem_of_getElem? (i := 3) rfl)))) (hts _ (List.mem_cons_of_mem _ (List.mem_append_left _ (List.mem_of_getElem? (i := 4) rfl)))) (hts _ (List.mem_cons_of_mem _ (List.mem_append_left _ (List.mem_of_getElem? (i := 5) rfl)))) (Nat.le_of_ble_eq_true rfl) (Nat.le_of_ble_eq_true rfl) (Nat.zero_le _) (Nat.zero_le _) dX5_worstOf_94 ?_
        refine lv_istore (lv' := [(6, .int (if (ga σ 21 l5.toNatClampNeg) < l3 then (ga σ 21 l5.toNatClampNeg) else l3)), (0, .ref (G.2.1 7)), (3, .int l3), (4, .int l4), (5, .int l5)]) hx hb dX5_worstOf_97 hl (by decide) rfl (fun ls hl => ?_)
        refine lv_iload hx hb dX5_worstOf_99 (lv_at hl 3 rfl) ?_
        refine lv_iload hx hb dX5_worstOf_101 (lv_at hl 0 rfl) ?_
        refine lv_iload hx hb dX5_worstOf_103 (lv_at hl 4 rfl) ?_
        refine lv_imul hx hb dX5_worstOf_105 ?_
        refine lv_iadd hx hb dX5_worstOf_106 ?_
        refine lv_istore (lv' := [(4, .int (l4 + ((if (ga σ 21 l5.toNatClampNeg) < l3 then (ga σ 21 l5.toNatClampNeg) else l3) * l5))), (6, .int (if (ga σ 21 l5.toNatClampNeg) < l3 then (ga σ 21 l5.toNatClampNeg) else l3)), (0, .ref (G.2.1 7)), (3, .int l3), (5, .int l5)]) hx hb dX5_worstOf_107 hl (by decide) rfl (fun ls hl => ?_)
        refine lv_iload_n hx hb dX5_worstOf_109 rfl (lv_at hl 3 rfl) ?_
        refine lv_iload hx hb dX5_worstOf_110 (lv_at hl 1 rfl) ?_
        refine lv_isub hx hb dX5_worstOf_112 ?_
        refine lv_istore_n (lv' := [(3, .int (l3 - (if (ga σ 21 l5.toNatClampNeg) < l3 then (ga σ 21 l5.toNatClampNeg) else l3))), (4, .int (l4 + ((if (ga σ 21 l5.toNatClampNeg) < l3 then (ga σ 21 l5.toNatClampNeg) else l3) * l5))), (6, .int (if (ga σ 21 l5.toNatClampNeg) < l3 then (ga σ 21 l5.toNatClampNeg) else l3)), (0, .ref (G.2.1 7)), (5, .int l5)]) hx hb dX5_worstOf_113 rfl hl (by decide) rfl (fun ls hl => ?_)
        refine lv_iinc (v := (l5 + (-1))) (lv' := [(5, .int (l5 + (-1))), (3, .int (l3 - (if (ga σ 21 l5.toNatClampNeg) < l3 then (ga σ 21 l5.toNatClampNeg) else l3))), (4, .int (l4 + ((if (ga σ 21 l5.toNatClampNeg) < l3 then (ga σ 21 l5.toNatClampNeg) else l3) * l5))), (6, .int (if (ga σ 21 l5.toNatClampNeg) < l3 then (ga σ 21 l5.toNatClampNeg) else l3)), (0, .ref (G.2.1 7))]) hx hb dX5_worstOf_114 hl (k := 4) rfl rfl (by decide) rfl (fun ls hl => ?_)
        refine lv_goto (tgt := 77) hx hb dX5_worstOf_117 (by decide) ?_
        exact ih _ _ _ _ _ _ _ h hh (lv_sub hl [4, 1, 2, 0] rfl)
def f_X5_worstOf_23 (Q : Int32 → St → Prop)  (rec : St → Int32 → Int32 → Int32 → Prop) (σ : St) (l1 : Int32) (l2 : Int32) (l3 : Int32) : Prop :=
  (((gi σ 19) ≤ l3 → f_X5_worstOf_77L Q FU σ l2 (0 : Int32) (17 : Int32)) ∧ (¬ (gi σ 19) ≤ l3 → f_X5_pointsOf σ l1 l3 (fun r34 s34 => ((r34 < 0 → rec s34 l1 l2 (l3 + 1)) ∧ (¬ r34 < 0 → (((17 : Int32) < r34 → rec s34 l1 l2 (l3 + 1)) ∧ (¬ (17 : Int32) < r34 → (vp_in r34 18 ∧ (vp_in r34 18 ∧ rec (sa s34 21 (upd (ga s34 21) r34.toNatClampNeg ((ga s34 21 r34.toNatClampNeg) + (1 : Int32)))) l1 l2 (l3 + 1))))))))))
def f_X5_worstOf_23L (Q : Int32 → St → Prop)  : Nat → St → Int32 → Int32 → Int32 → Prop
  | 0, _, _, _, _ => False
  | n + 1, σ, l1, l2, l3 => f_X5_worstOf_23 Q  (f_X5_worstOf_23L Q  n) σ l1 l2 l3
set_option maxHeartbeats 4000000 in
set_option maxRecDepth 100000 in
theorem w_X5_worstOf_23 {p : Program} {l : Launch} {e : Env} {s : State} {m : MethodId} {args : Array Value} {below : List Frame} {meth : Method} {c : Code} {G : GG} (E : EV p s m args c cX5_worstOf 7 wsX5_worstOf RX5 G (AD G s.heap.size)) (hr : meth.sig.returnType = (some .int)) (hlocks : meth.locks = false) {Q : Int32 → St → Prop}  : ∀ (n : Nat) (σ : St) (l1 : Int32) (l2 : Int32) (l3 : Int32) (H : Heap) (locs : List Loc) (ls : Array Slot), f_X5_worstOf_23L Q  n σ l1 l2 l3 → HH G (AD G s.heap.size) s σ H locs → lv_has ls 7 [(0, .ref (G.2.1 7)), (1, .int l1), (2, .int l2), (3, .int l3)] → W p l e ({ frames := 1, cells := 0, slots := 0, locals := 23 }) s m args below meth c H locs 0 0 (MQi below G args s Q) (F0 m 23 ls []) := by
  have hx := E.1.1
  have hb := E.1.2.1
  have hown := E.1.2.2.2.1
  have hts := E.1.2.2.2.2
  have h_inX5 : ∀ w ∈ wsX50, w ∈ wsX5_worstOf := (fun _ h9 => (List.mem_cons_of_mem _ (List.mem_append_right _ h9)))
  intro n
  induction n with
  | zero =>
    intro σ l1 l2 l3 H locs ls h
    exact h.elim
  | succ n ih =>
    intro σ l1 l2 l3 H locs ls h hh hl
    have h : f_X5_worstOf_23 Q  (f_X5_worstOf_23L Q  n) σ l1 l2 l3 := h
    unfold f_X5_worstOf_23 at h
    refine lv_iload_n hx hb dX5_worstOf_23 rfl (lv_at hl 3 rfl) ?_
    refine lv_aload_n hx hb dX5_worstOf_24 rfl (lv_at hl 0 rfl) ?_
    refine q_get (T := TX5) (v := .int (gi σ 19)) E hh h_inX5 7 (WW_at_7 G σ) rfl 1 (by decide) (List.mem_cons_of_mem _ (List.mem_append_left _ (List.mem_of_getElem? (i := 1) rfl))) rfl rfl dX5_worstOf_25 ?_
    refine lv_icmp_ge (tgt := 68) hx hb dX5_worstOf_28 (by decide) (fun c9 => ?_) (fun c9 => ?_)
    · have h := h.1 c9
      refine lv_iload_n hx hb dX5_worstOf_68 rfl (lv_at hl 2 rfl) ?_
      refine lv_istore_n (lv' := [(3, .int l2), (0, .ref (G.2.1 7)), (1, .int l1), (2, .int l2)]) hx hb dX5_worstOf_69 rfl hl (by decide) rfl (fun ls hl => ?_)
      refine lv_iconst (v := (0 : Int32)) hx hb dX5_worstOf_70 (by decide) ?_
      refine lv_istore (lv' := [(4, .int (0 : Int32)), (3, .int l2), (0, .ref (G.2.1 7)), (1, .int l1), (2, .int l2)]) hx hb dX5_worstOf_71 hl (by decide) rfl (fun ls hl => ?_)
      refine lv_bipush (v := (17 : Int32)) hx hb dX5_worstOf_73 (by decide) ?_
      refine lv_istore (lv' := [(5, .int (17 : Int32)), (4, .int (0 : Int32)), (3, .int l2), (0, .ref (G.2.1 7)), (1, .int l1), (2, .int l2)]) hx hb dX5_worstOf_75 hl (by decide) rfl (fun ls hl => ?_)
      exact w_X5_worstOf_77 E hr hlocks  FU _ _ _ _ _ _ _ h hh (lv_sub hl [3, 2, 1, 0] rfl)
    · have h := h.2 c9
      refine lv_aload_n hx hb dX5_worstOf_31 rfl (lv_at hl 0 rfl) ?_
      refine lv_iload_n hx hb dX5_worstOf_32 rfl (lv_at hl 1 rfl) ?_
      refine lv_iload_n hx hb dX5_worstOf_33 rfl (lv_at hl 3 rfl) ?_
      refine q_Vi (As := [.int l1, .int l3]) (rest := []) E hh (c_X5_pointsOf l G _ _ _ _ _ h) (cwV 2 hts gX5_worstOf_X5_pointsOf rfl rfl rfl (by decide +kernel) ⟨Nat.le_of_ble_eq_true rfl, Nat.le_of_ble_eq_true rfl⟩) (va_recv (ci := 5) E.2.1 hh.1 rfl (WW_at_7 G σ)) rfl hl.1 rfl (Nat.le_of_ble_eq_true rfl) dX5_worstOf_34 ⟨Nat.zero_le _, Nat.zero_le _⟩ (fun r34 s34 H locs h hh => ?_)
      refine lv_istore (lv' := [(4, .int r34), (0, .ref (G.2.1 7)), (1, .int l1), (2, .int l2), (3, .int l3)]) hx hb dX5_worstOf_37 hl (by decide) rfl (fun ls hl => ?_)
      refine lv_iload hx hb dX5_worstOf_39 (lv_at hl 0 rfl) ?_
      refine lv_if_lt (tgt := 62) hx hb dX5_worstOf_41 (by decide) (fun c9 => ?_) (fun c9 => ?_)
      · have h := h.1 c9
        refine lv_iinc (v := (l3 + 1)) (lv' := [(3, .int (l3 + 1)), (4, .int r34), (0, .ref (G.2.1 7)), (1, .int l1), (2, .int l2)]) hx hb dX5_worstOf_62 hl (k := 4) rfl rfl (by decide) rfl (fun ls hl => ?_)
        refine lv_goto (tgt := 23) hx hb dX5_worstOf_65 (by decide) ?_
        exact ih _ _ _ _ _ _ _ h hh (lv_sub hl [2, 3, 4, 0] rfl)
      · have h := h.2 c9
        refine lv_iload hx hb dX5_worstOf_44 (lv_at hl 0 rfl) ?_
        refine lv_bipush (v := (17 : Int32)) hx hb dX5_worstOf_46 (by decide) ?_
        refine lv_icmp_gt (tgt := 62) hx hb dX5_worstOf_48 (by decide) (fun c9 => ?_) (fun c9 => ?_)
        · have h := h.1 c9
          refine lv_iinc (v := (l3 + 1)) (lv' := [(3, .int (l3 + 1)), (4, .int r34), (0, .ref (G.2.1 7)), (1, .int l1), (2, .int l2)]) hx hb dX5_worstOf_62 hl (k := 4) rfl rfl (by decide) rfl (fun ls hl => ?_)
          refine lv_goto (tgt := 23) hx hb dX5_worstOf_65 (by decide) ?_
          exact ih _ _ _ _ _ _ _ h hh (lv_sub hl [2, 3, 4, 0] rfl)
        · have h := h.2 c9
          refine lv_aload_n hx hb dX5_worstOf_51 rfl (lv_at hl 1 rfl) ?_
          refine q_get (T := TX5) (v := .ref (G.2.1 21)) E hh h_inX5 7 (WW_at_7 G s34) rfl 4 (by decide) (List.mem_cons_of_mem _ (List.mem_append_left _ (List.mem_of_getElem? (i := 0) rfl))) rfl rfl dX5_worstOf_52 ?_
          refine lv_iload hx hb dX5_worstOf_55 (lv_at hl 0 rfl) ?_
          refine lv_dup2_11 hx hb dX5_worstOf_57 rfl rfl ?_
          obtain ⟨h0, h⟩ := h
          refine q_iald E hh 21 (WW_at_21 G s34) h0 dX5_worstOf_58 ?_
          refine lv_iconst (v := (1 : Int32)) hx hb dX5_worstOf_59 (by decide) ?_
          refine lv_iadd hx hb dX5_worstOf_60 ?_
          obtain ⟨h0, h⟩ := h
          refine q_iast E hh 21 (WW_at_21 G s34) h0 dX5_worstOf_61 (WW_sa_21 G s34 (upd (ga s34 21) r34.toNatClampNeg ((ga s34 21 r34.toNatClampNeg) + (1 : Int32)))) (fun H locs hh => ?_)
          refine lv_iinc (v := (l3 + 1)) (lv' := [(3, .int (l3 + 1)), (4, .int r34), (0, .ref (G.2.1 7)), (1, .int l1), (2, .int l2)]) hx hb dX5_worstOf_62 hl (k := 4) rfl rfl (by decide) rfl (fun ls hl => ?_)
          refine lv_goto (tgt := 23) hx hb dX5_worstOf_65 (by decide) ?_
          exact ih _ _ _ _ _ _ _ h hh (lv_sub hl [2, 3, 4, 0] rfl)
def f_X5_worstOf_2 (Q : Int32 → St → Prop)  (rec : St → Int32 → Int32 → Int32 → Prop) (σ : St) (l1 : Int32) (l2 : Int32) (l3 : Int32) : Prop :=
  (((17 : Int32) < l3 → f_X5_worstOf_23L Q FU σ l1 l2 (0 : Int32)) ∧ (¬ (17 : Int32) < l3 → (vp_in l3 18 ∧ rec (sa σ 21 (upd (ga σ 21) l3.toNatClampNeg (0 : Int32))) l1 l2 (l3 + 1))))
def f_X5_worstOf_2L (Q : Int32 → St → Prop)  : Nat → St → Int32 → Int32 → Int32 → Prop
  | 0, _, _, _, _ => False
  | n + 1, σ, l1, l2, l3 => f_X5_worstOf_2 Q  (f_X5_worstOf_2L Q  n) σ l1 l2 l3
set_option maxHeartbeats 4000000 in
set_option maxRecDepth 100000 in
theorem w_X5_worstOf_2 {p : Program} {l : Launch} {e : Env} {s : State} {m : MethodId} {args : Array Value} {below : List Frame} {meth : Method} {c : Code} {G : GG} (E : EV p s m args c cX5_worstOf 7 wsX5_worstOf RX5 G (AD G s.heap.size)) (hr : meth.sig.returnType = (some .int)) (hlocks : meth.locks = false) {Q : Int32 → St → Prop}  : ∀ (n : Nat) (σ : St) (l1 : Int32) (l2 : Int32) (l3 : Int32) (H : Heap) (locs : List Loc) (ls : Array Slot), f_X5_worstOf_2L Q  n σ l1 l2 l3 → HH G (AD G s.heap.size) s σ H locs → lv_has ls 7 [(0, .ref (G.2.1 7)), (1, .int l1), (2, .int l2), (3, .int l3)] → W p l e ({ frames := 1, cells := 0, slots := 0, locals := 23 }) s m args below meth c H locs 0 0 (MQi below G args s Q) (F0 m 2 ls []) := by
  have hx := E.1.1
  have hb := E.1.2.1
  have hown := E.1.2.2.2.1
  have hts := E.1.2.2.2.2
  have h_inX5 : ∀ w ∈ wsX50, w ∈ wsX5_worstOf := (fun _ h9 => (List.mem_cons_of_mem _ (List.mem_append_right _ h9)))
  intro n
  induction n with
  | zero =>
    intro σ l1 l2 l3 H locs ls h
    exact h.elim
  | succ n ih =>
    intro σ l1 l2 l3 H locs ls h hh hl
    have h : f_X5_worstOf_2 Q  (f_X5_worstOf_2L Q  n) σ l1 l2 l3 := h
    unfold f_X5_worstOf_2 at h
    refine lv_iload_n hx hb dX5_worstOf_2 rfl (lv_at hl 3 rfl) ?_
    refine lv_bipush (v := (17 : Int32)) hx hb dX5_worstOf_3 (by decide) ?_
    refine lv_icmp_gt (tgt := 21) hx hb dX5_worstOf_5 (by decide) (fun c9 => ?_) (fun c9 => ?_)
    · have h := h.1 c9
      refine lv_iconst (v := (0 : Int32)) hx hb dX5_worstOf_21 (by decide) ?_
      refine lv_istore_n (lv' := [(3, .int (0 : Int32)), (0, .ref (G.2.1 7)), (1, .int l1), (2, .int l2)]) hx hb dX5_worstOf_22 rfl hl (by decide) rfl (fun ls hl => ?_)
      exact w_X5_worstOf_23 E hr hlocks  FU _ _ _ _ _ _ _ h hh (lv_sub hl [1, 2, 3, 0] rfl)
    · have h := h.2 c9
      refine lv_aload_n hx hb dX5_worstOf_8 rfl (lv_at hl 0 rfl) ?_
      refine q_get (T := TX5) (v := .ref (G.2.1 21)) E hh h_inX5 7 (WW_at_7 G σ) rfl 4 (by decide) (List.mem_cons_of_mem _ (List.mem_append_left _ (List.mem_of_getElem? (i := 0) rfl))) rfl rfl dX5_worstOf_9 ?_
      refine lv_iload_n hx hb dX5_worstOf_12 rfl (lv_at hl 3 rfl) ?_
      refine lv_iconst (v := (0 : Int32)) hx hb dX5_worstOf_13 (by decide) ?_
      obtain ⟨h0, h⟩ := h
      refine q_iast E hh 21 (WW_at_21 G σ) h0 dX5_worstOf_14 (WW_sa_21 G σ (upd (ga σ 21) l3.toNatClampNeg (0 : Int32))) (fun H locs hh => ?_)
      refine lv_iinc (v := (l3 + 1)) (lv' := [(3, .int (l3 + 1)), (0, .ref (G.2.1 7)), (1, .int l1), (2, .int l2)]) hx hb dX5_worstOf_15 hl (k := 3) rfl rfl (by decide) rfl (fun ls hl => ?_)
      refine lv_goto (tgt := 2) hx hb dX5_worstOf_18 (by decide) ?_
      exact ih _ _ _ _ _ _ _ h hh (lv_sub hl [1, 2, 3, 0] rfl)
def f_X5_worstOf (σ : St) (p1 : Int32) (p2 : Int32) (Q : Int32 → St → Prop) : Prop :=
  f_X5_worstOf_2L Q FU σ p1 p2 (0 : Int32)
set_option maxHeartbeats 4000000 in
set_option maxRecDepth 100000 in
theorem c_X5_worstOf (l : Launch) (G : GG) (σ : St) (sz : Nat) (p1 : Int32) (p2 : Int32) (Q : Int32 → St → Prop) (h : f_X5_worstOf σ p1 p2 Q) : CTi l yX5_worstOf wsX5_worstOf ({ frames := 1, cells := 0, slots := 0, locals := 23 }) [.ref (G.2.1 7), .int p1, .int p2] G σ sz Q := by
  refine Met.ofW (cc := cX5_worstOf) (maxL := 7) (ret := (some .int)) (by decide) rfl ?_
  intro p e s m args below meth c s₁ B hml hv
  obtain ⟨rfl, hpre⟩ := hv
  have hr := B.returns
  have hlocks := B.notSynchronized
  obtain ⟨hsz, -⟩ := id hpre
  subst hsz
  obtain ⟨E, hh⟩ := EV.ofPre (⟨B.exec, B.bytes, hml, findClass_of_methodNamed B.named, atoms_spec (ws := wsX5_worstOf) B.pre⟩ : CallFix p m c cX5_worstOf 7 s _ wsX5_worstOf RX5) hpre
  have hx := E.1.1
  have hb := E.1.2.1
  have hown := E.1.2.2.2.1
  have hts := E.1.2.2.2.2
  have h_inX5 : ∀ w ∈ wsX50, w ∈ wsX5_worstOf := (fun _ h9 => (List.mem_cons_of_mem _ (List.mem_append_right _ h9)))
  have hl := lv_entry ([.ref (G.2.1 7), .int p1, .int p2]) (n := 7) (Nat.le_of_ble_eq_true rfl)
  rw [lg_entry_eq]
  generalize (lg_sl ([.ref (G.2.1 7), .int p1, .int p2]) ++ List.replicate (7 - (lg_sl ([.ref (G.2.1 7), .int p1, .int p2])).length) Slot.unset).toArray = ls at hl ⊢
  have hl : lv_has ls 7 [(0, .ref (G.2.1 7)), (1, .int p1), (2, .int p2)] := hl
  unfold f_X5_worstOf at h
  refine lv_iconst (v := (0 : Int32)) hx hb dX5_worstOf_0 (by decide) ?_
  refine lv_istore_n (lv' := [(3, .int (0 : Int32)), (0, .ref (G.2.1 7)), (1, .int p1), (2, .int p2)]) hx hb dX5_worstOf_1 rfl hl (by decide) rfl (fun ls hl => ?_)
  exact w_X5_worstOf_2 E hr hlocks  FU _ _ _ _ _ _ _ h hh (lv_sub hl [1, 2, 3, 0] rfl)
def f_X5_scoreOf_5 (Q : Int32 → St → Prop)  (rec : St → Int32 → Int32 → Int32 → Prop) (σ : St) (l1 : Int32) (l3 : Int32) (l4 : Int32) : Prop :=
  (((gi σ 19) ≤ l4 → f_X6_dropsAfter σ (gi σ 19) (fun r35 s35 => ((¬ r35 = 0 → f_X5_worstOf s35 l1 r35 (fun r54 s54 => Q (l3 - r54) s54)) ∧ (r35 = 0 → Q l3 s35)))) ∧ (¬ (gi σ 19) ≤ l4 → f_X5_pointsOf σ l1 l4 (fun r19 s19 => rec s19 l1 (l3 + r19) (l4 + 1))))
def f_X5_scoreOf_5L (Q : Int32 → St → Prop)  : Nat → St → Int32 → Int32 → Int32 → Prop
  | 0, _, _, _, _ => False
  | n + 1, σ, l1, l3, l4 => f_X5_scoreOf_5 Q  (f_X5_scoreOf_5L Q  n) σ l1 l3 l4
set_option maxHeartbeats 4000000 in
set_option maxRecDepth 100000 in
theorem w_X5_scoreOf_5 {p : Program} {l : Launch} {e : Env} {s : State} {m : MethodId} {args : Array Value} {below : List Frame} {meth : Method} {c : Code} {G : GG} (E : EV p s m args c cX5_scoreOf 5 wsX5_scoreOf RX5 G (AD G s.heap.size)) (hr : meth.sig.returnType = (some .int)) (hlocks : meth.locks = false) {Q : Int32 → St → Prop}  : ∀ (n : Nat) (σ : St) (l1 : Int32) (l3 : Int32) (l4 : Int32) (H : Heap) (locs : List Loc) (ls : Array Slot), f_X5_scoreOf_5L Q  n σ l1 l3 l4 → HH G (AD G s.heap.size) s σ H locs → lv_has ls 5 [(0, .ref (G.2.1 7)), (1, .int l1), (2, .ref (G.2.1 4)), (3, .int l3), (4, .int l4)] → W p l e ({ frames := 2, cells := 0, slots := 0, locals := 49 }) s m args below meth c H locs 0 0 (MQi below G args s Q) (F0 m 5 ls []) := by
  have hx := E.1.1
  have hb := E.1.2.1
  have hown := E.1.2.2.2.1
  have hts := E.1.2.2.2.2
  have h_inX5 : ∀ w ∈ wsX50, w ∈ wsX5_scoreOf := (fun _ h9 => (List.mem_cons_of_mem _ (List.mem_append_left _ (List.mem_append_right _ h9))))
  intro n
  induction n with
  | zero =>
    intro σ l1 l3 l4 H locs ls h
    exact h.elim
  | succ n ih =>
    intro σ l1 l3 l4 H locs ls h hh hl
    have h : f_X5_scoreOf_5 Q  (f_X5_scoreOf_5L Q  n) σ l1 l3 l4 := h
    unfold f_X5_scoreOf_5 at h
    refine lv_iload hx hb dX5_scoreOf_5 (lv_at hl 4 rfl) ?_
    refine lv_aload_n hx hb dX5_scoreOf_7 rfl (lv_at hl 0 rfl) ?_
    refine q_get (T := TX5) (v := .int (gi σ 19)) E hh h_inX5 7 (WW_at_7 G σ) rfl 1 (by decide) (List.mem_cons_of_mem _ (List.mem_append_left _ (List.mem_append_left _ (List.mem_of_getElem? (i := 0) rfl)))) rfl rfl dX5_scoreOf_8 ?_
    refine lv_icmp_ge (tgt := 30) hx hb dX5_scoreOf_11 (by decide) (fun c9 => ?_) (fun c9 => ?_)
    · have h := h.1 c9
      refine lv_aload_n hx hb dX5_scoreOf_30 rfl (lv_at hl 2 rfl) ?_
      refine lv_aload_n hx hb dX5_scoreOf_31 rfl (lv_at hl 0 rfl) ?_
      refine q_get (T := TX5) (v := .int (gi σ 19)) E hh h_inX5 7 (WW_at_7 G σ) rfl 1 (by decide) (List.mem_cons_of_mem _ (List.mem_append_left _ (List.mem_append_left _ (List.mem_of_getElem? (i := 0) rfl)))) rfl rfl dX5_scoreOf_32 ?_
      refine q_Vi (As := [.int (gi σ 19)]) (rest := []) E hh (c_X6_dropsAfter l G _ _ _ _ h) (cwV 1 hts gX5_scoreOf_X6_dropsAfter rfl rfl rfl (by decide +kernel) ⟨Nat.le_of_ble_eq_true rfl, Nat.le_of_ble_eq_true rfl⟩) (va_recv (ci := 6) E.2.1 hh.1 rfl (WW_at_4 G σ)) rfl hl.1 rfl (Nat.le_of_ble_eq_true rfl) dX5_scoreOf_35 ⟨Nat.zero_le _, Nat.zero_le _⟩ (fun r35 s35 H locs h hh => ?_)
      refine lv_istore (lv' := [(4, .int r35), (0, .ref (G.2.1 7)), (1, .int l1), (2, .ref (G.2.1 4)), (3, .int l3)]) hx hb dX5_scoreOf_38 hl (by decide) rfl (fun ls hl => ?_)
      refine lv_iload hx hb dX5_scoreOf_40 (lv_at hl 0 rfl) ?_
      refine lv_if_ne (tgt := 49) hx hb dX5_scoreOf_42 (by decide) (fun c9 => ?_) (fun c9 => ?_)
      · have h := h.1 c9
        refine lv_iload_n hx hb dX5_scoreOf_49 rfl (lv_at hl 4 rfl) ?_
        refine lv_aload_n hx hb dX5_scoreOf_50 rfl (lv_at hl 1 rfl) ?_
        refine lv_iload_n hx hb dX5_scoreOf_51 rfl (lv_at hl 2 rfl) ?_
        refine lv_iload hx hb dX5_scoreOf_52 (lv_at hl 0 rfl) ?_
        refine q_Vi (As := [.int l1, .int r35]) (rest := [.int l3]) E hh (c_X5_worstOf l G _ _ _ _ _ h) (cwV 2 hts gX5_scoreOf_X5_worstOf rfl rfl rfl (by decide +kernel) ⟨Nat.le_of_ble_eq_true rfl, Nat.le_of_ble_eq_true rfl⟩) (va_recv (ci := 5) E.2.1 hh.1 rfl (WW_at_7 G s35)) rfl hl.1 rfl (Nat.le_of_ble_eq_true rfl) dX5_scoreOf_54 ⟨Nat.zero_le _, Nat.zero_le _⟩ (fun r54 s54 H locs h hh => ?_)
        refine lv_isub hx hb dX5_scoreOf_57 ?_
        exact q_iret E hh hr hlocks h dX5_scoreOf_58
      · have h := h.2 c9
        refine lv_iload_n hx hb dX5_scoreOf_45 rfl (lv_at hl 4 rfl) ?_
        refine lv_goto (tgt := 58) hx hb dX5_scoreOf_46 (by decide) ?_
        exact q_iret E hh hr hlocks h dX5_scoreOf_58
    · have h := h.2 c9
      refine lv_iload_n hx hb dX5_scoreOf_14 rfl (lv_at hl 3 rfl) ?_
      refine lv_aload_n hx hb dX5_scoreOf_15 rfl (lv_at hl 0 rfl) ?_
      refine lv_iload_n hx hb dX5_scoreOf_16 rfl (lv_at hl 1 rfl) ?_
      refine lv_iload hx hb dX5_scoreOf_17 (lv_at hl 4 rfl) ?_
      refine q_Vi (As := [.int l1, .int l4]) (rest := [.int l3]) E hh (c_X5_pointsOf l G _ _ _ _ _ h) (cwV 2 hts gX5_scoreOf_X5_pointsOf rfl rfl rfl (by decide +kernel) ⟨Nat.le_of_ble_eq_true rfl, Nat.le_of_ble_eq_true rfl⟩) (va_recv (ci := 5) E.2.1 hh.1 rfl (WW_at_7 G σ)) rfl hl.1 rfl (Nat.le_of_ble_eq_true rfl) dX5_scoreOf_19 ⟨Nat.zero_le _, Nat.zero_le _⟩ (fun r19 s19 H locs h hh => ?_)
      refine lv_iadd hx hb dX5_scoreOf_22 ?_
      refine lv_istore_n (lv' := [(3, .int (l3 + r19)), (0, .ref (G.2.1 7)), (1, .int l1), (2, .ref (G.2.1 4)), (4, .int l4)]) hx hb dX5_scoreOf_23 rfl hl (by decide) rfl (fun ls hl => ?_)
      refine lv_iinc (v := (l4 + 1)) (lv' := [(4, .int (l4 + 1)), (3, .int (l3 + r19)), (0, .ref (G.2.1 7)), (1, .int l1), (2, .ref (G.2.1 4))]) hx hb dX5_scoreOf_24 hl (k := 4) rfl rfl (by decide) rfl (fun ls hl => ?_)
      refine lv_goto (tgt := 5) hx hb dX5_scoreOf_27 (by decide) ?_
      exact ih _ _ _ _ _ _ _ h hh (lv_sub hl [2, 3, 4, 1, 0] rfl)
def f_X5_scoreOf (σ : St) (p1 : Int32) (Q : Int32 → St → Prop) : Prop :=
  f_X5_scoreOf_5L Q FU σ p1 (0 : Int32) (0 : Int32)
set_option maxHeartbeats 4000000 in
set_option maxRecDepth 100000 in
theorem c_X5_scoreOf (l : Launch) (G : GG) (σ : St) (sz : Nat) (p1 : Int32) (Q : Int32 → St → Prop) (h : f_X5_scoreOf σ p1 Q) : CTi l yX5_scoreOf wsX5_scoreOf ({ frames := 2, cells := 0, slots := 0, locals := 49 }) [.ref (G.2.1 7), .int p1, .ref (G.2.1 4)] G σ sz Q := by
  refine Met.ofW (cc := cX5_scoreOf) (maxL := 5) (ret := (some .int)) (by decide) rfl ?_
  intro p e s m args below meth c s₁ B hml hv
  obtain ⟨rfl, hpre⟩ := hv
  have hr := B.returns
  have hlocks := B.notSynchronized
  obtain ⟨hsz, -⟩ := id hpre
  subst hsz
  obtain ⟨E, hh⟩ := EV.ofPre (⟨B.exec, B.bytes, hml, findClass_of_methodNamed B.named, atoms_spec (ws := wsX5_scoreOf) B.pre⟩ : CallFix p m c cX5_scoreOf 5 s _ wsX5_scoreOf RX5) hpre
  have hx := E.1.1
  have hb := E.1.2.1
  have hown := E.1.2.2.2.1
  have hts := E.1.2.2.2.2
  have h_inX5 : ∀ w ∈ wsX50, w ∈ wsX5_scoreOf := (fun _ h9 => (List.mem_cons_of_mem _ (List.mem_append_left _ (List.mem_append_right _ h9))))
  have hl := lv_entry ([.ref (G.2.1 7), .int p1, .ref (G.2.1 4)]) (n := 5) (Nat.le_of_ble_eq_true rfl)
  rw [lg_entry_eq]
  generalize (lg_sl ([.ref (G.2.1 7), .int p1, .ref (G.2.1 4)]) ++ List.replicate (5 - (lg_sl ([.ref (G.2.1 7), .int p1, .ref (G.2.1 4)])).length) Slot.unset).toArray = ls at hl ⊢
  have hl : lv_has ls 5 [(0, .ref (G.2.1 7)), (1, .int p1), (2, .ref (G.2.1 4))] := hl
  unfold f_X5_scoreOf at h
  refine lv_iconst (v := (0 : Int32)) hx hb dX5_scoreOf_0 (by decide) ?_
  refine lv_istore_n (lv' := [(3, .int (0 : Int32)), (0, .ref (G.2.1 7)), (1, .int p1), (2, .ref (G.2.1 4))]) hx hb dX5_scoreOf_1 rfl hl (by decide) rfl (fun ls hl => ?_)
  refine lv_iconst (v := (0 : Int32)) hx hb dX5_scoreOf_2 (by decide) ?_
  refine lv_istore (lv' := [(4, .int (0 : Int32)), (3, .int (0 : Int32)), (0, .ref (G.2.1 7)), (1, .int p1), (2, .ref (G.2.1 4))]) hx hb dX5_scoreOf_3 hl (by decide) rfl (fun ls hl => ?_)
  exact w_X5_scoreOf_5 E hr hlocks  FU _ _ _ _ _ _ _ h hh (lv_sub hl [2, 3, 4, 1, 0] rfl)
def f_X5_scoreAt (σ : St) (p1 : Int32) (Q : Int32 → St → Prop) : Prop :=
  f_X8_isBoatNumber σ p1 (fun r1 s1 => ((r1 = 0 → Q (0 : Int32) s1) ∧ (¬ r1 = 0 → (vp_in p1 16 ∧ Q (ga s1 22 p1.toNatClampNeg) s1))))
set_option maxHeartbeats 4000000 in
set_option maxRecDepth 100000 in
theorem c_X5_scoreAt (l : Launch) (G : GG) (σ : St) (sz : Nat) (p1 : Int32) (Q : Int32 → St → Prop) (h : f_X5_scoreAt σ p1 Q) : CTi l yX5_scoreAt wsX5_scoreAt ({ frames := 1, cells := 0, slots := 0, locals := 20 }) [.ref (G.2.1 7), .int p1] G σ sz Q := by
  refine Met.ofW (cc := cX5_scoreAt) (maxL := 2) (ret := (some .int)) (by decide) rfl ?_
  intro p e s m args below meth c s₁ B hml hv
  obtain ⟨rfl, hpre⟩ := hv
  have hr := B.returns
  have hlocks := B.notSynchronized
  obtain ⟨hsz, -⟩ := id hpre
  subst hsz
  obtain ⟨E, hh⟩ := EV.ofPre (⟨B.exec, B.bytes, hml, findClass_of_methodNamed B.named, atoms_spec (ws := wsX5_scoreAt) B.pre⟩ : CallFix p m c cX5_scoreAt 2 s _ wsX5_scoreAt RX5) hpre
  have hx := E.1.1
  have hb := E.1.2.1
  have hown := E.1.2.2.2.1
  have hts := E.1.2.2.2.2
  have h_inX5 : ∀ w ∈ wsX50, w ∈ wsX5_scoreAt := (fun _ h9 => (List.mem_cons_of_mem _ (List.mem_append_right _ h9)))
  have hl := lv_entry ([.ref (G.2.1 7), .int p1]) (n := 2) (Nat.le_of_ble_eq_true rfl)
  rw [lg_entry_eq]
  generalize (lg_sl ([.ref (G.2.1 7), .int p1]) ++ List.replicate (2 - (lg_sl ([.ref (G.2.1 7), .int p1])).length) Slot.unset).toArray = ls at hl ⊢
  have hl : lv_has ls 2 [(0, .ref (G.2.1 7)), (1, .int p1)] := hl
  unfold f_X5_scoreAt at h
  refine lv_iload_n hx hb dX5_scoreAt_0 rfl (lv_at hl 1 rfl) ?_
  refine q_Ni (As := [.int p1]) (rest := []) E hh (c_X8_isBoatNumber l G _ _ _ _ h) (va_cnB 1 hts gX5_scoreAt_X8_isBoatNumber_n63 rfl rfl rfl (E.2.2.2.1.1.2.1 (RX5, 63, (⟨RX8, "isBoatNumber", "(I)Z"⟩ : MethodName), "IceRegatta") (List.mem_of_getElem? (i := 11) rfl)) (hts _ (List.mem_cons_of_mem _ (List.mem_append_left _ (List.mem_of_getElem? (i := 2) rfl)))) (by decide +kernel) ⟨Nat.le_of_ble_eq_true rfl, Nat.le_of_ble_eq_true rfl⟩) (List.mem_cons_of_mem _ (List.mem_append_left _ (List.mem_of_getElem? (i := 1) rfl))) rfl hl.1 rfl (Nat.le_of_ble_eq_true rfl) dX5_scoreAt_1 ⟨Nat.zero_le _, Nat.zero_le _⟩ (fun r1 s1 H locs h hh => ?_)
  refine lv_if_eq (tgt := 16) hx hb dX5_scoreAt_4 (by decide) (fun c9 => ?_) (fun c9 => ?_)
  · have h := h.1 c9
    refine lv_iconst (v := (0 : Int32)) hx hb dX5_scoreAt_16 (by decide) ?_
    exact q_iret E hh hr hlocks h dX5_scoreAt_17
  · have h := h.2 c9
    refine lv_aload_n hx hb dX5_scoreAt_7 rfl (lv_at hl 0 rfl) ?_
    refine q_get (T := TX5) (v := .ref (G.2.1 22)) E hh h_inX5 7 (WW_at_7 G s1) rfl 5 (by decide) (List.mem_cons_of_mem _ (List.mem_append_left _ (List.mem_of_getElem? (i := 0) rfl))) rfl rfl dX5_scoreAt_8 ?_
    refine lv_iload_n hx hb dX5_scoreAt_11 rfl (lv_at hl 1 rfl) ?_
    obtain ⟨h0, h⟩ := h
    refine q_iald E hh 22 (WW_at_22 G s1) h0 dX5_scoreAt_12 ?_
    refine lv_goto (tgt := 17) hx hb dX5_scoreAt_13 (by decide) ?_
    exact q_iret E hh hr hlocks h dX5_scoreAt_17
def f_X5_isBetter_39 (Q : Int32 → St → Prop)  (rec : St → Int32 → Int32 → Int32 → Prop) (σ : St) (l1 : Int32) (l2 : Int32) (l5 : Int32) : Prop :=
  ((l5 < 0 → ((l2 ≤ l1 → Q (0 : Int32) σ) ∧ (¬ l2 ≤ l1 → Q (1 : Int32) σ))) ∧ (¬ l5 < 0 → f_X5_pointsOf σ l1 l5 (fun r48 s48 => f_X5_pointsOf s48 l2 l5 (fun r57 s57 => ((r48 = r57 → rec s57 l1 l2 (l5 + (-1))) ∧ (¬ r48 = r57 → ((r57 ≤ r48 → Q (0 : Int32) s57) ∧ (¬ r57 ≤ r48 → Q (1 : Int32) s57))))))))
def f_X5_isBetter_39L (Q : Int32 → St → Prop)  : Nat → St → Int32 → Int32 → Int32 → Prop
  | 0, _, _, _, _ => False
  | n + 1, σ, l1, l2, l5 => f_X5_isBetter_39 Q  (f_X5_isBetter_39L Q  n) σ l1 l2 l5
set_option maxHeartbeats 4000000 in
set_option maxRecDepth 100000 in
theorem w_X5_isBetter_39 {p : Program} {l : Launch} {e : Env} {s : State} {m : MethodId} {args : Array Value} {below : List Frame} {meth : Method} {c : Code} {G : GG} (E : EV p s m args c cX5_isBetter 8 wsX5_isBetter RX5 G (AD G s.heap.size)) (hr : meth.sig.returnType = (some .boolean)) (hlocks : meth.locks = false) {Q : Int32 → St → Prop}  : ∀ (n : Nat) (σ : St) (l1 : Int32) (l2 : Int32) (l5 : Int32) (H : Heap) (locs : List Loc) (ls : Array Slot), f_X5_isBetter_39L Q  n σ l1 l2 l5 → HH G (AD G s.heap.size) s σ H locs → lv_has ls 8 [(0, .ref (G.2.1 7)), (1, .int l1), (2, .int l2), (5, .int l5)] → W p l e ({ frames := 2, cells := 0, slots := 0, locals := 41 }) s m args below meth c H locs 0 0 (MQi below G args s Q) (F0 m 39 ls []) := by
  have hx := E.1.1
  have hb := E.1.2.1
  have hown := E.1.2.2.2.1
  have hts := E.1.2.2.2.2
  have h_inX5 : ∀ w ∈ wsX50, w ∈ wsX5_isBetter := (fun _ h9 => (List.mem_cons_of_mem _ (List.mem_append_right _ h9)))
  intro n
  induction n with
  | zero =>
    intro σ l1 l2 l5 H locs ls h
    exact h.elim
  | succ n ih =>
    intro σ l1 l2 l5 H locs ls h hh hl
    have h : f_X5_isBetter_39 Q  (f_X5_isBetter_39L Q  n) σ l1 l2 l5 := h
    unfold f_X5_isBetter_39 at h
    refine lv_iload hx hb dX5_isBetter_39 (lv_at hl 3 rfl) ?_
    refine lv_if_lt (tgt := 88) hx hb dX5_isBetter_41 (by decide) (fun c9 => ?_) (fun c9 => ?_)
    · have h := h.1 c9
      refine lv_iload_n hx hb dX5_isBetter_88 rfl (lv_at hl 1 rfl) ?_
      refine lv_iload_n hx hb dX5_isBetter_89 rfl (lv_at hl 2 rfl) ?_
      refine lv_icmp_ge (tgt := 97) hx hb dX5_isBetter_90 (by decide) (fun c9 => ?_) (fun c9 => ?_)
      · have h := h.1 c9
        refine lv_iconst (v := (0 : Int32)) hx hb dX5_isBetter_97 (by decide) ?_
        exact q_zret (ty := .boolean) E hh hr hlocks rfl h dX5_isBetter_98
      · have h := h.2 c9
        refine lv_iconst (v := (1 : Int32)) hx hb dX5_isBetter_93 (by decide) ?_
        refine lv_goto (tgt := 98) hx hb dX5_isBetter_94 (by decide) ?_
        exact q_zret (ty := .boolean) E hh hr hlocks rfl h dX5_isBetter_98
    · have h := h.2 c9
      refine lv_aload_n hx hb dX5_isBetter_44 rfl (lv_at hl 0 rfl) ?_
      refine lv_iload_n hx hb dX5_isBetter_45 rfl (lv_at hl 1 rfl) ?_
      refine lv_iload hx hb dX5_isBetter_46 (lv_at hl 3 rfl) ?_
      refine q_Vi (As := [.int l1, .int l5]) (rest := []) E hh (c_X5_pointsOf l G _ _ _ _ _ h) (cwV 2 hts gX5_isBetter_X5_pointsOf rfl rfl rfl (by decide +kernel) ⟨Nat.le_of_ble_eq_true rfl, Nat.le_of_ble_eq_true rfl⟩) (va_recv (ci := 5) E.2.1 hh.1 rfl (WW_at_7 G σ)) rfl hl.1 rfl (Nat.le_of_ble_eq_true rfl) dX5_isBetter_48 ⟨Nat.zero_le _, Nat.zero_le _⟩ (fun r48 s48 H locs h hh => ?_)
      refine lv_istore (lv' := [(6, .int r48), (0, .ref (G.2.1 7)), (1, .int l1), (2, .int l2), (5, .int l5)]) hx hb dX5_isBetter_51 hl (by decide) rfl (fun ls hl => ?_)
      refine lv_aload_n hx hb dX5_isBetter_53 rfl (lv_at hl 1 rfl) ?_
      refine lv_iload_n hx hb dX5_isBetter_54 rfl (lv_at hl 3 rfl) ?_
      refine lv_iload hx hb dX5_isBetter_55 (lv_at hl 4 rfl) ?_
      refine q_Vi (As := [.int l2, .int l5]) (rest := []) E hh (c_X5_pointsOf l G _ _ _ _ _ h) (cwV 2 hts gX5_isBetter_X5_pointsOf rfl rfl rfl (by decide +kernel) ⟨Nat.le_of_ble_eq_true rfl, Nat.le_of_ble_eq_true rfl⟩) (va_recv (ci := 5) E.2.1 hh.1 rfl (WW_at_7 G s48)) rfl hl.1 rfl (Nat.le_of_ble_eq_true rfl) dX5_isBetter_57 ⟨Nat.zero_le _, Nat.zero_le _⟩ (fun r57 s57 H locs h hh => ?_)
      refine lv_istore (lv' := [(7, .int r57), (6, .int r48), (0, .ref (G.2.1 7)), (1, .int l1), (2, .int l2), (5, .int l5)]) hx hb dX5_isBetter_60 hl (by decide) rfl (fun ls hl => ?_)
      refine lv_iload hx hb dX5_isBetter_62 (lv_at hl 1 rfl) ?_
      refine lv_iload hx hb dX5_isBetter_64 (lv_at hl 0 rfl) ?_
      refine lv_icmp_eq (tgt := 82) hx hb dX5_isBetter_66 (by decide) (fun c9 => ?_) (fun c9 => ?_)
      · have h := h.1 c9
        refine lv_iinc (v := (l5 + (-1))) (lv' := [(5, .int (l5 + (-1))), (7, .int r57), (6, .int r48), (0, .ref (G.2.1 7)), (1, .int l1), (2, .int l2)]) hx hb dX5_isBetter_82 hl (k := 5) rfl rfl (by decide) rfl (fun ls hl => ?_)
        refine lv_goto (tgt := 39) hx hb dX5_isBetter_85 (by decide) ?_
        exact ih _ _ _ _ _ _ _ h hh (lv_sub hl [3, 4, 5, 0] rfl)
      · have h := h.2 c9
        refine lv_iload hx hb dX5_isBetter_69 (lv_at hl 1 rfl) ?_
        refine lv_iload hx hb dX5_isBetter_71 (lv_at hl 0 rfl) ?_
        refine lv_icmp_ge (tgt := 80) hx hb dX5_isBetter_73 (by decide) (fun c9 => ?_) (fun c9 => ?_)
        · have h := h.1 c9
          refine lv_iconst (v := (0 : Int32)) hx hb dX5_isBetter_80 (by decide) ?_
          exact q_zret (ty := .boolean) E hh hr hlocks rfl h dX5_isBetter_81
        · have h := h.2 c9
          refine lv_iconst (v := (1 : Int32)) hx hb dX5_isBetter_76 (by decide) ?_
          refine lv_goto (tgt := 81) hx hb dX5_isBetter_77 (by decide) ?_
          exact q_zret (ty := .boolean) E hh hr hlocks rfl h dX5_isBetter_81
def f_X5_isBetter (σ : St) (p1 : Int32) (p2 : Int32) (Q : Int32 → St → Prop) : Prop :=
  f_X5_scoreAt σ p1 (fun r2 s2 => f_X5_scoreAt s2 p2 (fun r8 s8 => ((r2 = r8 → f_X5_isBetter_39L Q FU s8 p1 p2 ((gi s8 19) - (1 : Int32))) ∧ (¬ r2 = r8 → ((r8 ≤ r2 → Q (0 : Int32) s8) ∧ (¬ r8 ≤ r2 → Q (1 : Int32) s8))))))
set_option maxHeartbeats 4000000 in
set_option maxRecDepth 100000 in
theorem c_X5_isBetter (l : Launch) (G : GG) (σ : St) (sz : Nat) (p1 : Int32) (p2 : Int32) (Q : Int32 → St → Prop) (h : f_X5_isBetter σ p1 p2 Q) : CTi l yX5_isBetter wsX5_isBetter ({ frames := 2, cells := 0, slots := 0, locals := 41 }) [.ref (G.2.1 7), .int p1, .int p2] G σ sz Q := by
  refine Met.ofW (cc := cX5_isBetter) (maxL := 8) (ret := (some .boolean)) (by decide) rfl ?_
  intro p e s m args below meth c s₁ B hml hv
  obtain ⟨rfl, hpre⟩ := hv
  have hr := B.returns
  have hlocks := B.notSynchronized
  obtain ⟨hsz, -⟩ := id hpre
  subst hsz
  obtain ⟨E, hh⟩ := EV.ofPre (⟨B.exec, B.bytes, hml, findClass_of_methodNamed B.named, atoms_spec (ws := wsX5_isBetter) B.pre⟩ : CallFix p m c cX5_isBetter 8 s _ wsX5_isBetter RX5) hpre
  have hx := E.1.1
  have hb := E.1.2.1
  have hown := E.1.2.2.2.1
  have hts := E.1.2.2.2.2
  have h_inX5 : ∀ w ∈ wsX50, w ∈ wsX5_isBetter := (fun _ h9 => (List.mem_cons_of_mem _ (List.mem_append_right _ h9)))
  have hl := lv_entry ([.ref (G.2.1 7), .int p1, .int p2]) (n := 8) (Nat.le_of_ble_eq_true rfl)
  rw [lg_entry_eq]
  generalize (lg_sl ([.ref (G.2.1 7), .int p1, .int p2]) ++ List.replicate (8 - (lg_sl ([.ref (G.2.1 7), .int p1, .int p2])).length) Slot.unset).toArray = ls at hl ⊢
  have hl : lv_has ls 8 [(0, .ref (G.2.1 7)), (1, .int p1), (2, .int p2)] := hl
  unfold f_X5_isBetter at h
  refine lv_aload_n hx hb dX5_isBetter_0 rfl (lv_at hl 0 rfl) ?_
  refine lv_iload_n hx hb dX5_isBetter_1 rfl (lv_at hl 1 rfl) ?_
  refine q_Vi (As := [.int p1]) (rest := []) E hh (c_X5_scoreAt l G _ _ _ _ h) (cwV 1 hts gX5_isBetter_X5_scoreAt rfl rfl rfl (by decide +kernel) ⟨Nat.le_of_ble_eq_true rfl, Nat.le_of_ble_eq_true rfl⟩) (va_recv (ci := 5) E.2.1 hh.1 rfl (WW_at_7 G σ)) rfl hl.1 rfl (Nat.le_of_ble_eq_true rfl) dX5_isBetter_2 ⟨Nat.zero_le _, Nat.zero_le _⟩ (fun r2 s2 H locs h hh => ?_)
  refine lv_istore_n (lv' := [(3, .int r2), (0, .ref (G.2.1 7)), (1, .int p1), (2, .int p2)]) hx hb dX5_isBetter_5 rfl hl (by decide) rfl (fun ls hl => ?_)
  refine lv_aload_n hx hb dX5_isBetter_6 rfl (lv_at hl 1 rfl) ?_
  refine lv_iload_n hx hb dX5_isBetter_7 rfl (lv_at hl 3 rfl) ?_
  refine q_Vi (As := [.int p2]) (rest := []) E hh (c_X5_scoreAt l G _ _ _ _ h) (cwV 1 hts gX5_isBetter_X5_scoreAt rfl rfl rfl (by decide +kernel) ⟨Nat.le_of_ble_eq_true rfl, Nat.le_of_ble_eq_true rfl⟩) (va_recv (ci := 5) E.2.1 hh.1 rfl (WW_at_7 G s2)) rfl hl.1 rfl (Nat.le_of_ble_eq_true rfl) dX5_isBetter_8 ⟨Nat.zero_le _, Nat.zero_le _⟩ (fun r8 s8 H locs h hh => ?_)
  refine lv_istore (lv' := [(4, .int r8), (3, .int r2), (0, .ref (G.2.1 7)), (1, .int p1), (2, .int p2)]) hx hb dX5_isBetter_11 hl (by decide) rfl (fun ls hl => ?_)
  refine lv_iload_n hx hb dX5_isBetter_13 rfl (lv_at hl 1 rfl) ?_
  refine lv_iload hx hb dX5_isBetter_14 (lv_at hl 0 rfl) ?_
  refine lv_icmp_eq (tgt := 31) hx hb dX5_isBetter_16 (by decide) (fun c9 => ?_) (fun c9 => ?_)
  · have h := h.1 c9
    refine lv_aload_n hx hb dX5_isBetter_31 rfl (lv_at hl 2 rfl) ?_
    refine q_get (T := TX5) (v := .int (gi s8 19)) E hh h_inX5 7 (WW_at_7 G s8) rfl 1 (by decide) (List.mem_cons_of_mem _ (List.mem_append_left _ (List.mem_of_getElem? (i := 0) rfl))) rfl rfl dX5_isBetter_32 ?_
    refine lv_iconst (v := (1 : Int32)) hx hb dX5_isBetter_35 (by decide) ?_
    refine lv_isub hx hb dX5_isBetter_36 ?_
    refine lv_istore (lv' := [(5, .int ((gi s8 19) - (1 : Int32))), (4, .int r8), (3, .int r2), (0, .ref (G.2.1 7)), (1, .int p1), (2, .int p2)]) hx hb dX5_isBetter_37 hl (by decide) rfl (fun ls hl => ?_)
    exact w_X5_isBetter_39 E hr hlocks  FU _ _ _ _ _ _ _ h hh (lv_sub hl [3, 4, 5, 0] rfl)
  · have h := h.2 c9
    refine lv_iload_n hx hb dX5_isBetter_19 rfl (lv_at hl 1 rfl) ?_
    refine lv_iload hx hb dX5_isBetter_20 (lv_at hl 0 rfl) ?_
    refine lv_icmp_ge (tgt := 29) hx hb dX5_isBetter_22 (by decide) (fun c9 => ?_) (fun c9 => ?_)
    · have h := h.1 c9
      refine lv_iconst (v := (0 : Int32)) hx hb dX5_isBetter_29 (by decide) ?_
      exact q_zret (ty := .boolean) E hh hr hlocks rfl h dX5_isBetter_30
    · have h := h.2 c9
      refine lv_iconst (v := (1 : Int32)) hx hb dX5_isBetter_25 (by decide) ?_
      refine lv_goto (tgt := 30) hx hb dX5_isBetter_26 (by decide) ?_
      exact q_zret (ty := .boolean) E hh hr hlocks rfl h dX5_isBetter_30
def f_X5_rankBoats_34 (Q : St → Prop) (K10 : St → Int32 → Int32 → Prop) (rec : St → Int32 → Int32 → Int32 → Prop) (σ : St) (l3 : Int32) (l4 : Int32) (l5 : Int32) : Prop :=
  ((l5 ≤ 0 → (vp_in l5 16 ∧ K10 (sa σ 23 (upd (ga σ 23) l5.toNatClampNeg l4)) l3 (l4 + 1))) ∧ (¬ l5 ≤ 0 → (vp_in (l5 - (1 : Int32)) 16 ∧ f_X5_isBetter σ l4 (ga σ 23 (l5 - (1 : Int32)).toNatClampNeg) (fun r51 s51 => ((r51 = 0 → (vp_in l5 16 ∧ K10 (sa s51 23 (upd (ga s51 23) l5.toNatClampNeg l4)) l3 (l4 + 1))) ∧ (¬ r51 = 0 → (vp_in (l5 - (1 : Int32)) 16 ∧ (vp_in l5 16 ∧ rec (sa s51 23 (upd (ga s51 23) l5.toNatClampNeg (ga s51 23 (l5 - (1 : Int32)).toNatClampNeg))) l3 l4 (l5 + (-1))))))))))
def f_X5_rankBoats_34L (Q : St → Prop) (K10 : St → Int32 → Int32 → Prop) : Nat → St → Int32 → Int32 → Int32 → Prop
  | 0, _, _, _, _ => False
  | n + 1, σ, l3, l4, l5 => f_X5_rankBoats_34 Q K10 (f_X5_rankBoats_34L Q K10 n) σ l3 l4 l5
set_option maxHeartbeats 4000000 in
set_option maxRecDepth 100000 in
theorem w_X5_rankBoats_34 {p : Program} {l : Launch} {e : Env} {s : State} {m : MethodId} {args : Array Value} {below : List Frame} {meth : Method} {c : Code} {G : GG} (E : EV p s m args c cX5_rankBoats 6 wsX5_rankBoats RX5 G (AD G s.heap.size)) (hr : meth.sig.returnType = none) (hlocks : meth.locks = false) {Q : St → Prop} {K10 : St → Int32 → Int32 → Prop} (hK10 : ∀ (σ : St) (l3 : Int32) (l4 : Int32) (H : Heap) (locs : List Loc) (ls : Array Slot), K10 σ l3 l4 → HH G (AD G s.heap.size) s σ H locs → lv_has ls 6 [(0, .ref (G.2.1 7)), (2, .ref (G.2.1 4)), (3, .int l3), (4, .int l4)] → W p l e ({ frames := 3, cells := 0, slots := 0, locals := 73 }) s m args below meth c H locs 0 0 (MQv below G args s Q) (F0 m 10 ls [])) : ∀ (n : Nat) (σ : St) (l3 : Int32) (l4 : Int32) (l5 : Int32) (H : Heap) (locs : List Loc) (ls : Array Slot), f_X5_rankBoats_34L Q K10 n σ l3 l4 l5 → HH G (AD G s.heap.size) s σ H locs → lv_has ls 6 [(0, .ref (G.2.1 7)), (2, .ref (G.2.1 4)), (3, .int l3), (4, .int l4), (5, .int l5)] → W p l e ({ frames := 3, cells := 0, slots := 0, locals := 73 }) s m args below meth c H locs 0 0 (MQv below G args s Q) (F0 m 34 ls []) := by
  have hx := E.1.1
  have hb := E.1.2.1
  have hown := E.1.2.2.2.1
  have hts := E.1.2.2.2.2
  have h_inX5 : ∀ w ∈ wsX50, w ∈ wsX5_rankBoats := (fun _ h9 => (List.mem_cons_of_mem _ (List.mem_append_left _ (List.mem_append_right _ h9))))
  intro n
  induction n with
  | zero =>
    intro σ l3 l4 l5 H locs ls h
    exact h.elim
  | succ n ih =>
    intro σ l3 l4 l5 H locs ls h hh hl
    have h : f_X5_rankBoats_34 Q K10 (f_X5_rankBoats_34L Q K10 n) σ l3 l4 l5 := h
    unfold f_X5_rankBoats_34 at h
    refine lv_iload hx hb dX5_rankBoats_34 (lv_at hl 4 rfl) ?_
    refine lv_if_le (tgt := 79) hx hb dX5_rankBoats_36 (by decide) (fun c9 => ?_) (fun c9 => ?_)
    · have h := h.1 c9
      refine lv_aload_n hx hb dX5_rankBoats_79 rfl (lv_at hl 0 rfl) ?_
      refine q_get (T := TX5) (v := .ref (G.2.1 23)) E hh h_inX5 7 (WW_at_7 G σ) rfl 6 (by decide) (List.mem_cons_of_mem _ (List.mem_append_left _ (List.mem_append_left _ (List.mem_append_left _ (List.mem_of_getElem? (i := 5) rfl))))) rfl rfl dX5_rankBoats_80 ?_
      refine lv_iload hx hb dX5_rankBoats_83 (lv_at hl 4 rfl) ?_
      refine lv_iload hx hb dX5_rankBoats_85 (lv_at hl 3 rfl) ?_
      obtain ⟨h0, h⟩ := h
      refine q_iast E hh 23 (WW_at_23 G σ) h0 dX5_rankBoats_87 (WW_sa_23 G σ (upd (ga σ 23) l5.toNatClampNeg l4)) (fun H locs hh => ?_)
      refine lv_iinc (v := (l4 + 1)) (lv' := [(4, .int (l4 + 1)), (0, .ref (G.2.1 7)), (2, .ref (G.2.1 4)), (3, .int l3), (5, .int l5)]) hx hb dX5_rankBoats_88 hl (k := 3) rfl rfl (by decide) rfl (fun ls hl => ?_)
      refine lv_goto (tgt := 10) hx hb dX5_rankBoats_91 (by decide) ?_
      exact hK10 _ _ _ _ _ _ h hh (lv_sub hl [1, 2, 3, 0] rfl)
    · have h := h.2 c9
      refine lv_aload_n hx hb dX5_rankBoats_39 rfl (lv_at hl 0 rfl) ?_
      refine lv_iload hx hb dX5_rankBoats_40 (lv_at hl 3 rfl) ?_
      refine lv_aload_n hx hb dX5_rankBoats_42 rfl (lv_at hl 0 rfl) ?_
      refine q_get (T := TX5) (v := .ref (G.2.1 23)) E hh h_inX5 7 (WW_at_7 G σ) rfl 6 (by decide) (List.mem_cons_of_mem _ (List.mem_append_left _ (List.mem_append_left _ (List.mem_append_left _ (List.mem_of_getElem? (i := 5) rfl))))) rfl rfl dX5_rankBoats_43 ?_
      refine lv_iload hx hb dX5_rankBoats_46 (lv_at hl 4 rfl) ?_
      refine lv_iconst (v := (1 : Int32)) hx hb dX5_rankBoats_48 (by decide) ?_
      refine lv_isub hx hb dX5_rankBoats_49 ?_
      obtain ⟨h0, h⟩ := h
      refine q_iald E hh 23 (WW_at_23 G σ) h0 dX5_rankBoats_50 ?_
      refine q_Vi (As := [.int l4, .int (ga σ 23 (l5 - (1 : Int32)).toNatClampNeg)]) (rest := []) E hh (c_X5_isBetter l G _ _ _ _ _ h) (cwV 2 hts gX5_rankBoats_X5_isBetter rfl rfl rfl (by decide +kernel) ⟨Nat.le_of_ble_eq_true rfl, Nat.le_of_ble_eq_true rfl⟩) (va_recv (ci := 5) E.2.1 hh.1 rfl (WW_at_7 G σ)) rfl hl.1 rfl (Nat.le_of_ble_eq_true rfl) dX5_rankBoats_51 ⟨Nat.zero_le _, Nat.zero_le _⟩ (fun r51 s51 H locs h hh => ?_)
      refine lv_if_eq (tgt := 79) hx hb dX5_rankBoats_54 (by decide) (fun c9 => ?_) (fun c9 => ?_)
      · have h := h.1 c9
        refine lv_aload_n hx hb dX5_rankBoats_79 rfl (lv_at hl 0 rfl) ?_
        refine q_get (T := TX5) (v := .ref (G.2.1 23)) E hh h_inX5 7 (WW_at_7 G s51) rfl 6 (by decide) (List.mem_cons_of_mem _ (List.mem_append_left _ (List.mem_append_left _ (List.mem_append_left _ (List.mem_of_getElem? (i := 5) rfl))))) rfl rfl dX5_rankBoats_80 ?_
        refine lv_iload hx hb dX5_rankBoats_83 (lv_at hl 4 rfl) ?_
        refine lv_iload hx hb dX5_rankBoats_85 (lv_at hl 3 rfl) ?_
        obtain ⟨h0, h⟩ := h
        refine q_iast E hh 23 (WW_at_23 G s51) h0 dX5_rankBoats_87 (WW_sa_23 G s51 (upd (ga s51 23) l5.toNatClampNeg l4)) (fun H locs hh => ?_)
        refine lv_iinc (v := (l4 + 1)) (lv' := [(4, .int (l4 + 1)), (0, .ref (G.2.1 7)), (2, .ref (G.2.1 4)), (3, .int l3), (5, .int l5)]) hx hb dX5_rankBoats_88 hl (k := 3) rfl rfl (by decide) rfl (fun ls hl => ?_)
        refine lv_goto (tgt := 10) hx hb dX5_rankBoats_91 (by decide) ?_
        exact hK10 _ _ _ _ _ _ h hh (lv_sub hl [1, 2, 3, 0] rfl)
      · have h := h.2 c9
        refine lv_aload_n hx hb dX5_rankBoats_57 rfl (lv_at hl 0 rfl) ?_
        refine q_get (T := TX5) (v := .ref (G.2.1 23)) E hh h_inX5 7 (WW_at_7 G s51) rfl 6 (by decide) (List.mem_cons_of_mem _ (List.mem_append_left _ (List.mem_append_left _ (List.mem_append_left _ (List.mem_of_getElem? (i := 5) rfl))))) rfl rfl dX5_rankBoats_58 ?_
        refine lv_iload hx hb dX5_rankBoats_61 (lv_at hl 4 rfl) ?_
        refine lv_aload_n hx hb dX5_rankBoats_63 rfl (lv_at hl 0 rfl) ?_
        refine q_get (T := TX5) (v := .ref (G.2.1 23)) E hh h_inX5 7 (WW_at_7 G s51) rfl 6 (by decide) (List.mem_cons_of_mem _ (List.mem_append_left _ (List.mem_append_left _ (List.mem_append_left _ (List.mem_of_getElem? (i := 5) rfl))))) rfl rfl dX5_rankBoats_64 ?_
        refine lv_iload hx hb dX5_rankBoats_67 (lv_at hl 4 rfl) ?_
        refine lv_iconst (v := (1 : Int32)) hx hb dX5_rankBoats_69 (by decide) ?_
        refine lv_isub hx hb dX5_rankBoats_70 ?_
        obtain ⟨h0, h⟩ := h
        refine q_iald E hh 23 (WW_at_23 G s51) h0 dX5_rankBoats_71 ?_
        obtain ⟨h0, h⟩ := h
        refine q_iast E hh 23 (WW_at_23 G s51) h0 dX5_rankBoats_72 (WW_sa_23 G s51 (upd (ga s51 23) l5.toNatClampNeg (ga s51 23 (l5 - (1 : Int32)).toNatClampNeg))) (fun H locs hh => ?_)
        refine lv_iinc (v := (l5 + (-1))) (lv' := [(5, .int (l5 + (-1))), (0, .ref (G.2.1 7)), (2, .ref (G.2.1 4)), (3, .int l3), (4, .int l4)]) hx hb dX5_rankBoats_73 hl (k := 4) rfl rfl (by decide) rfl (fun ls hl => ?_)
        refine lv_goto (tgt := 34) hx hb dX5_rankBoats_76 (by decide) ?_
        exact ih _ _ _ _ _ _ _ h hh (lv_sub hl [1, 2, 3, 4, 0] rfl)
def f_X5_rankBoats_10 (Q : St → Prop)  (rec : St → Int32 → Int32 → Prop) (σ : St) (l3 : Int32) (l4 : Int32) : Prop :=
  ((l3 ≤ l4 → Q σ) ∧ (¬ l3 ≤ l4 → f_X5_scoreOf σ l4 (fun r26 s26 => (vp_in l4 16 ∧ f_X5_rankBoats_34L Q rec FU (sa s26 22 (upd (ga s26 22) l4.toNatClampNeg r26)) l3 l4 l4))))
def f_X5_rankBoats_10L (Q : St → Prop)  : Nat → St → Int32 → Int32 → Prop
  | 0, _, _, _ => False
  | n + 1, σ, l3, l4 => f_X5_rankBoats_10 Q  (f_X5_rankBoats_10L Q  n) σ l3 l4
set_option maxHeartbeats 4000000 in
set_option maxRecDepth 100000 in
theorem w_X5_rankBoats_10 {p : Program} {l : Launch} {e : Env} {s : State} {m : MethodId} {args : Array Value} {below : List Frame} {meth : Method} {c : Code} {G : GG} (E : EV p s m args c cX5_rankBoats 6 wsX5_rankBoats RX5 G (AD G s.heap.size)) (hr : meth.sig.returnType = none) (hlocks : meth.locks = false) {Q : St → Prop}  : ∀ (n : Nat) (σ : St) (l3 : Int32) (l4 : Int32) (H : Heap) (locs : List Loc) (ls : Array Slot), f_X5_rankBoats_10L Q  n σ l3 l4 → HH G (AD G s.heap.size) s σ H locs → lv_has ls 6 [(0, .ref (G.2.1 7)), (2, .ref (G.2.1 4)), (3, .int l3), (4, .int l4)] → W p l e ({ frames := 3, cells := 0, slots := 0, locals := 73 }) s m args below meth c H locs 0 0 (MQv below G args s Q) (F0 m 10 ls []) := by
  have hx := E.1.1
  have hb := E.1.2.1
  have hown := E.1.2.2.2.1
  have hts := E.1.2.2.2.2
  have h_inX5 : ∀ w ∈ wsX50, w ∈ wsX5_rankBoats := (fun _ h9 => (List.mem_cons_of_mem _ (List.mem_append_left _ (List.mem_append_right _ h9))))
  intro n
  induction n with
  | zero =>
    intro σ l3 l4 H locs ls h
    exact h.elim
  | succ n ih =>
    intro σ l3 l4 H locs ls h hh hl
    have h : f_X5_rankBoats_10 Q  (f_X5_rankBoats_10L Q  n) σ l3 l4 := h
    unfold f_X5_rankBoats_10 at h
    refine lv_iload hx hb dX5_rankBoats_10 (lv_at hl 3 rfl) ?_
    refine lv_iload_n hx hb dX5_rankBoats_12 rfl (lv_at hl 2 rfl) ?_
    refine lv_icmp_ge (tgt := 94) hx hb dX5_rankBoats_13 (by decide) (fun c9 => ?_) (fun c9 => ?_)
    · have h := h.1 c9
      exact q_vret E hh hr hlocks h dX5_rankBoats_94
    · have h := h.2 c9
      refine lv_aload_n hx hb dX5_rankBoats_16 rfl (lv_at hl 0 rfl) ?_
      refine q_get (T := TX5) (v := .ref (G.2.1 22)) E hh h_inX5 7 (WW_at_7 G σ) rfl 5 (by decide) (List.mem_cons_of_mem _ (List.mem_append_left _ (List.mem_append_left _ (List.mem_append_left _ (List.mem_of_getElem? (i := 4) rfl))))) rfl rfl dX5_rankBoats_17 ?_
      refine lv_iload hx hb dX5_rankBoats_20 (lv_at hl 3 rfl) ?_
      refine lv_aload_n hx hb dX5_rankBoats_22 rfl (lv_at hl 0 rfl) ?_
      refine lv_iload hx hb dX5_rankBoats_23 (lv_at hl 3 rfl) ?_
      refine lv_aload_n hx hb dX5_rankBoats_25 rfl (lv_at hl 1 rfl) ?_
      refine q_Vi (As := [.int l4, .ref (G.2.1 4)]) (rest := [.int l4, .ref (G.2.1 22)]) E hh (c_X5_scoreOf l G _ _ _ _ h) (cwV 2 hts gX5_rankBoats_X5_scoreOf rfl rfl rfl (by decide +kernel) ⟨Nat.le_of_ble_eq_true rfl, Nat.le_of_ble_eq_true rfl⟩) (va_recv (ci := 5) E.2.1 hh.1 rfl (WW_at_7 G σ)) rfl hl.1 rfl (Nat.le_of_ble_eq_true rfl) dX5_rankBoats_26 ⟨Nat.zero_le _, Nat.zero_le _⟩ (fun r26 s26 H locs h hh => ?_)
      obtain ⟨h0, h⟩ := h
      refine q_iast E hh 22 (WW_at_22 G s26) h0 dX5_rankBoats_29 (WW_sa_22 G s26 (upd (ga s26 22) l4.toNatClampNeg r26)) (fun H locs hh => ?_)
      refine lv_iload hx hb dX5_rankBoats_30 (lv_at hl 3 rfl) ?_
      refine lv_istore (lv' := [(5, .int l4), (0, .ref (G.2.1 7)), (2, .ref (G.2.1 4)), (3, .int l3), (4, .int l4)]) hx hb dX5_rankBoats_32 hl (by decide) rfl (fun ls hl => ?_)
      exact w_X5_rankBoats_34 E hr hlocks ih FU _ _ _ _ _ _ _ h hh (lv_sub hl [1, 2, 3, 4, 0] rfl)
def f_X5_rankBoats (σ : St) (p1 : Int32) (Q : St → Prop) : Prop :=
  f_X5_rankBoats_10L Q FU σ (if (16 : Int32) < p1 then (16 : Int32) else p1) (0 : Int32)
set_option maxHeartbeats 4000000 in
set_option maxRecDepth 100000 in
theorem c_X5_rankBoats (l : Launch) (G : GG) (σ : St) (sz : Nat) (p1 : Int32) (Q : St → Prop) (h : f_X5_rankBoats σ p1 Q) : CTv l yX5_rankBoats wsX5_rankBoats ({ frames := 3, cells := 0, slots := 0, locals := 73 }) [.ref (G.2.1 7), .int p1, .ref (G.2.1 4)] G σ sz Q := by
  refine Met.ofW (cc := cX5_rankBoats) (maxL := 6) (ret := none) (by decide) rfl ?_
  intro p e s m args below meth c s₁ B hml hv
  obtain ⟨rfl, hpre⟩ := hv
  have hr := B.returns
  have hlocks := B.notSynchronized
  obtain ⟨hsz, -⟩ := id hpre
  subst hsz
  obtain ⟨E, hh⟩ := EV.ofPre (⟨B.exec, B.bytes, hml, findClass_of_methodNamed B.named, atoms_spec (ws := wsX5_rankBoats) B.pre⟩ : CallFix p m c cX5_rankBoats 6 s _ wsX5_rankBoats RX5) hpre
  have hx := E.1.1
  have hb := E.1.2.1
  have hown := E.1.2.2.2.1
  have hts := E.1.2.2.2.2
  have h_inX5 : ∀ w ∈ wsX50, w ∈ wsX5_rankBoats := (fun _ h9 => (List.mem_cons_of_mem _ (List.mem_append_left _ (List.mem_append_right _ h9))))
  have hl := lv_entry ([.ref (G.2.1 7), .int p1, .ref (G.2.1 4)]) (n := 6) (Nat.le_of_ble_eq_true rfl)
  rw [lg_entry_eq]
  generalize (lg_sl ([.ref (G.2.1 7), .int p1, .ref (G.2.1 4)]) ++ List.replicate (6 - (lg_sl ([.ref (G.2.1 7), .int p1, .ref (G.2.1 4)])).length) Slot.unset).toArray = ls at hl ⊢
  have hl : lv_has ls 6 [(0, .ref (G.2.1 7)), (1, .int p1), (2, .ref (G.2.1 4))] := hl
  unfold f_X5_rankBoats at h
  refine lv_iload_n hx hb dX5_rankBoats_0 rfl (lv_at hl 1 rfl) ?_
  refine lv_bipush (v := (16 : Int32)) hx hb dX5_rankBoats_1 (by decide) ?_
  refine va_mmin (own := RX5) hx hb (by rw [E.1.2.2.1]; exact hl.1.symm) hown (hts _ (List.mem_cons_of_mem _ (List.mem_append_left _ (List.mem_append_left _ (List.mem_append_left _ (List.mem_of_getElem? (i := 0) rfl)))))) (hts _ (List.mem_cons_of_mem _ (List.mem_append_left _ (List.mem_append_left _ (List.mem_append_left _ (List.mem_of_getElem? (i := 1) rfl)))))) (hts _ (List.mem_cons_of_mem _ (List.mem_append_left _ (List.mem_append_left _ (List.mem_append_left _ (List.mem_of_getElem? (i := 2) rfl)))))) (hts _ (List.mem_cons_of_mem _ (List.mem_append_left _ (List.mem_append_left _ (List.mem_append_left _ (List.mem_of_getElem? (i := 3) rfl)))))) (Nat.le_of_ble_eq_true rfl) (Nat.le_of_ble_eq_true rfl) (Nat.zero_le _) (Nat.zero_le _) dX5_rankBoats_3 ?_
  refine lv_istore_n (lv' := [(3, .int (if (16 : Int32) < p1 then (16 : Int32) else p1)), (0, .ref (G.2.1 7)), (1, .int p1), (2, .ref (G.2.1 4))]) hx hb dX5_rankBoats_6 rfl hl (by decide) rfl (fun ls hl => ?_)
  refine lv_iconst (v := (0 : Int32)) hx hb dX5_rankBoats_7 (by decide) ?_
  refine lv_istore (lv' := [(4, .int (0 : Int32)), (3, .int (if (16 : Int32) < p1 then (16 : Int32) else p1)), (0, .ref (G.2.1 7)), (1, .int p1), (2, .ref (G.2.1 4))]) hx hb dX5_rankBoats_8 hl (by decide) rfl (fun ls hl => ?_)
  exact w_X5_rankBoats_10 E hr hlocks  FU _ _ _ _ _ _ h hh (lv_sub hl [2, 4, 1, 0] rfl)
