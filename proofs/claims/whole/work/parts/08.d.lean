def f_X8_needCell (σ : St) (p0 : Int32) (Q : St → Prop) (X : Nat → St → Prop) : Prop :=
  f_X8_isCell σ p0 (fun r1 s1 => ((¬ r1 = 0 → Q s1) ∧ (r1 = 0 → X 1 s1)))
set_option maxHeartbeats 4000000 in
set_option maxRecDepth 100000 in
theorem c_X8_needCell (l : Launch) (G : GG) (σ : St) (sz : Nat) (p0 : Int32) (Q : St → Prop) (X : Nat → St → Prop) (hst : l.stackTraces = false) (h : f_X8_needCell σ p0 Q X) : CXv l yX8_needCell wsX8_needCell ({ frames := 6, cells := 1, slots := 6, locals := 90 }) [.int p0] G σ sz Q X := by
  refine vx_ofW (cc := cX8_needCell) (maxL := 1) (ret := none) (by decide) rfl ?_
  intro p e s m args below meth c s₁ B hml hout hv
  obtain ⟨rfl, hpre⟩ := hv
  have hr := B.returns
  have hlocks := B.notSynchronized
  obtain ⟨hsz, -⟩ := id hpre
  subst hsz
  obtain ⟨E, hh⟩ := EV.ofPre (⟨B.exec, B.bytes, hml, findClass_of_methodNamed B.named, atoms_spec (ws := wsX8_needCell) B.pre⟩ : CallFix p m c cX8_needCell 1 s _ wsX8_needCell RX8) hpre
  have hx := E.1.1
  have hb := E.1.2.1
  have hown := E.1.2.2.2.1
  have hts := E.1.2.2.2.2
  have hl := lv_entry ([.int p0]) (n := 1) (Nat.le_of_ble_eq_true rfl)
  rw [lg_entry_eq]
  generalize (lg_sl ([.int p0]) ++ List.replicate (1 - (lg_sl ([.int p0])).length) Slot.unset).toArray = ls at hl ⊢
  have hl : lv_has ls 1 [(0, .int p0)] := hl
  unfold f_X8_needCell at h
  refine lv_iload_n hx hb dX8_needCell_0 rfl (lv_at hl 0 rfl) ?_
  refine q_Si (As := [.int p0]) (rest := []) E hh (c_X8_isCell l G _ _ _ _ h) (va_cwS 1 hts gX8_needCell_X8_isCell rfl rfl rfl (by decide +kernel) ⟨Nat.le_of_ble_eq_true rfl, Nat.le_of_ble_eq_true rfl⟩) rfl hl.1 rfl (Nat.le_of_ble_eq_true rfl) dX8_needCell_1 ⟨Nat.zero_le _, Nat.zero_le _⟩ (fun r1 s1 H locs h hh => ?_)
  refine lv_if_ne (tgt := 18) hx hb dX8_needCell_4 (by decide) (fun c9 => ?_) (fun c9 => ?_)
  · have h := h.1 c9
    exact qx_vret E hh hr hlocks h dX8_needCell_18
  · have h := h.2 c9
    exact q_throwW_1 (ik := 81) (is := 266) (text := "no such cell") E hh hst hlocks hout (List.mem_cons_of_mem _ (List.mem_append_left _ (List.mem_of_getElem? (i := 0) rfl))) (List.mem_cons_of_mem _ (List.mem_append_left _ (List.mem_of_getElem? (i := 1) rfl))) (E.2.2.2.1.1.2.2.1 ("IceRegatta", 266, "no such cell", 67) (List.mem_of_getElem? (i := 21) rfl)) (fun _ h9 => (List.mem_cons_of_mem _ (List.mem_append_right _ h9))) hl.1 dX8_needCell_7 dX8_needCell_10 dX8_needCell_11 dX8_needCell_14 dX8_needCell_17 (Nat.le_of_ble_eq_true rfl) (Nat.le_of_ble_eq_true rfl) (Nat.le_of_ble_eq_true rfl) (Nat.le_of_ble_eq_true rfl) h
def f_X8_needSounding (σ : St) (p0 : Int32) (p1 : Int32) (Q : St → Prop) (X : Nat → St → Prop) : Prop :=
  ((p0 < 0 → X 2 σ) ∧ (¬ p0 < 0 → (((5000 : Int32) < p0 → X 2 σ) ∧ (¬ (5000 : Int32) < p0 → ((p1 < 0 → X 2 σ) ∧ (¬ p1 < 0 → ((p1 ≤ (5000 : Int32) → Q σ) ∧ (¬ p1 ≤ (5000 : Int32) → X 2 σ))))))))
set_option maxHeartbeats 4000000 in
set_option maxRecDepth 100000 in
theorem c_X8_needSounding (l : Launch) (G : GG) (σ : St) (sz : Nat) (p0 : Int32) (p1 : Int32) (Q : St → Prop) (X : Nat → St → Prop) (hst : l.stackTraces = false) (h : f_X8_needSounding σ p0 p1 Q X) : CXv l yX8_needSounding wsX8_needSounding ({ frames := 6, cells := 1, slots := 6, locals := 90 }) [.int p0, .int p1] G σ sz Q X := by
  refine vx_ofW (cc := cX8_needSounding) (maxL := 2) (ret := none) (by decide) rfl ?_
  intro p e s m args below meth c s₁ B hml hout hv
  obtain ⟨rfl, hpre⟩ := hv
  have hr := B.returns
  have hlocks := B.notSynchronized
  obtain ⟨hsz, -⟩ := id hpre
  subst hsz
  obtain ⟨E, hh⟩ := EV.ofPre (⟨B.exec, B.bytes, hml, findClass_of_methodNamed B.named, atoms_spec (ws := wsX8_needSounding) B.pre⟩ : CallFix p m c cX8_needSounding 2 s _ wsX8_needSounding RX8) hpre
  have hx := E.1.1
  have hb := E.1.2.1
  have hown := E.1.2.2.2.1
  have hts := E.1.2.2.2.2
  have hl := lv_entry ([.int p0, .int p1]) (n := 2) (Nat.le_of_ble_eq_true rfl)
  rw [lg_entry_eq]
  generalize (lg_sl ([.int p0, .int p1]) ++ List.replicate (2 - (lg_sl ([.int p0, .int p1])).length) Slot.unset).toArray = ls at hl ⊢
  have hl : lv_has ls 2 [(0, .int p0), (1, .int p1)] := hl
  unfold f_X8_needSounding at h
  refine lv_iload_n hx hb dX8_needSounding_0 rfl (lv_at hl 0 rfl) ?_
  refine lv_if_lt (tgt := 22) hx hb dX8_needSounding_1 (by decide) (fun c9 => ?_) (fun c9 => ?_)
  · have h := h.1 c9
    exact q_throwW_2 (ik := 121) (is := 268) (text := "a sounding is not 0 to 5,000") E hh hst hlocks hout (List.mem_cons_of_mem _ (List.mem_append_left _ (List.mem_of_getElem? (i := 0) rfl))) (List.mem_cons_of_mem _ (List.mem_append_left _ (List.mem_of_getElem? (i := 1) rfl))) (E.2.2.2.1.1.2.2.1 ("IceRegatta", 268, "a sounding is not 0 to 5,000", 68) (List.mem_of_getElem? (i := 22) rfl)) (fun _ h9 => (List.mem_cons_of_mem _ (List.mem_append_right _ h9))) hl.1 dX8_needSounding_22 dX8_needSounding_25 dX8_needSounding_26 dX8_needSounding_29 dX8_needSounding_32 (Nat.le_of_ble_eq_true rfl) (Nat.le_of_ble_eq_true rfl) (Nat.le_of_ble_eq_true rfl) (Nat.le_of_ble_eq_true rfl) h
  · have h := h.2 c9
    refine lv_iload_n hx hb dX8_needSounding_4 rfl (lv_at hl 0 rfl) ?_
    refine lv_sipush (v := (5000 : Int32)) hx hb dX8_needSounding_5 (by decide) ?_
    refine lv_icmp_gt (tgt := 22) hx hb dX8_needSounding_8 (by decide) (fun c9 => ?_) (fun c9 => ?_)
    · have h := h.1 c9
      exact q_throwW_2 (ik := 121) (is := 268) (text := "a sounding is not 0 to 5,000") E hh hst hlocks hout (List.mem_cons_of_mem _ (List.mem_append_left _ (List.mem_of_getElem? (i := 0) rfl))) (List.mem_cons_of_mem _ (List.mem_append_left _ (List.mem_of_getElem? (i := 1) rfl))) (E.2.2.2.1.1.2.2.1 ("IceRegatta", 268, "a sounding is not 0 to 5,000", 68) (List.mem_of_getElem? (i := 22) rfl)) (fun _ h9 => (List.mem_cons_of_mem _ (List.mem_append_right _ h9))) hl.1 dX8_needSounding_22 dX8_needSounding_25 dX8_needSounding_26 dX8_needSounding_29 dX8_needSounding_32 (Nat.le_of_ble_eq_true rfl) (Nat.le_of_ble_eq_true rfl) (Nat.le_of_ble_eq_true rfl) (Nat.le_of_ble_eq_true rfl) h
    · have h := h.2 c9
      refine lv_iload_n hx hb dX8_needSounding_11 rfl (lv_at hl 1 rfl) ?_
      refine lv_if_lt (tgt := 22) hx hb dX8_needSounding_12 (by decide) (fun c9 => ?_) (fun c9 => ?_)
      · have h := h.1 c9
        exact q_throwW_2 (ik := 121) (is := 268) (text := "a sounding is not 0 to 5,000") E hh hst hlocks hout (List.mem_cons_of_mem _ (List.mem_append_left _ (List.mem_of_getElem? (i := 0) rfl))) (List.mem_cons_of_mem _ (List.mem_append_left _ (List.mem_of_getElem? (i := 1) rfl))) (E.2.2.2.1.1.2.2.1 ("IceRegatta", 268, "a sounding is not 0 to 5,000", 68) (List.mem_of_getElem? (i := 22) rfl)) (fun _ h9 => (List.mem_cons_of_mem _ (List.mem_append_right _ h9))) hl.1 dX8_needSounding_22 dX8_needSounding_25 dX8_needSounding_26 dX8_needSounding_29 dX8_needSounding_32 (Nat.le_of_ble_eq_true rfl) (Nat.le_of_ble_eq_true rfl) (Nat.le_of_ble_eq_true rfl) (Nat.le_of_ble_eq_true rfl) h
      · have h := h.2 c9
        refine lv_iload_n hx hb dX8_needSounding_15 rfl (lv_at hl 1 rfl) ?_
        refine lv_sipush (v := (5000 : Int32)) hx hb dX8_needSounding_16 (by decide) ?_
        refine lv_icmp_le (tgt := 33) hx hb dX8_needSounding_19 (by decide) (fun c9 => ?_) (fun c9 => ?_)
        · have h := h.1 c9
          exact qx_vret E hh hr hlocks h dX8_needSounding_33
        · have h := h.2 c9
          exact q_throwW_2 (ik := 121) (is := 268) (text := "a sounding is not 0 to 5,000") E hh hst hlocks hout (List.mem_cons_of_mem _ (List.mem_append_left _ (List.mem_of_getElem? (i := 0) rfl))) (List.mem_cons_of_mem _ (List.mem_append_left _ (List.mem_of_getElem? (i := 1) rfl))) (E.2.2.2.1.1.2.2.1 ("IceRegatta", 268, "a sounding is not 0 to 5,000", 68) (List.mem_of_getElem? (i := 22) rfl)) (fun _ h9 => (List.mem_cons_of_mem _ (List.mem_append_right _ h9))) hl.1 dX8_needSounding_22 dX8_needSounding_25 dX8_needSounding_26 dX8_needSounding_29 dX8_needSounding_32 (Nat.le_of_ble_eq_true rfl) (Nat.le_of_ble_eq_true rfl) (Nat.le_of_ble_eq_true rfl) (Nat.le_of_ble_eq_true rfl) h
def f_X8_sound (σ : St) (p1 : Int32) (p2 : Int32) (p3 : Int32) (Q : Int32 → St → Prop) (X : Nat → St → Prop) : Prop :=
  f_X8_needCell σ p1 (fun s1 => f_X8_needSounding s1 p2 p3 (fun s6 => f_X3_setBounds s6 p1 p2 p3 (fun r16 s16 => Q r16 s16)) X) X
set_option maxHeartbeats 4000000 in
set_option maxRecDepth 100000 in
theorem c_X8_sound (l : Launch) (G : GG) (σ : St) (sz : Nat) (p1 : Int32) (p2 : Int32) (p3 : Int32) (Q : Int32 → St → Prop) (X : Nat → St → Prop) (hst : l.stackTraces = false) (h : f_X8_sound σ p1 p2 p3 Q X) : CXi l yX8_sound wsX8_sound ({ frames := 7, cells := 1, slots := 6, locals := 111 }) [.ref (G.2.1 0), .int p1, .int p2, .int p3] G σ sz Q X := by
  refine vx_ofW (cc := cX8_sound) (maxL := 4) (ret := (some .int)) (by decide) rfl ?_
  intro p e s m args below meth c s₁ B hml hout hv
  obtain ⟨rfl, hpre⟩ := hv
  have hr := B.returns
  have hlocks := B.notSynchronized
  obtain ⟨hsz, -⟩ := id hpre
  subst hsz
  obtain ⟨E, hh⟩ := EV.ofPre (⟨B.exec, B.bytes, hml, findClass_of_methodNamed B.named, atoms_spec (ws := wsX8_sound) B.pre⟩ : CallFix p m c cX8_sound 4 s _ wsX8_sound RX8) hpre
  have hx := E.1.1
  have hb := E.1.2.1
  have hown := E.1.2.2.2.1
  have hts := E.1.2.2.2.2
  have h_inX8 : ∀ w ∈ wsX80, w ∈ wsX8_sound := (fun _ h9 => (List.mem_cons_of_mem _ (List.mem_append_left _ (List.mem_append_left _ (List.mem_append_left _ (List.mem_append_right _ h9))))))
  have hl := lv_entry ([.ref (G.2.1 0), .int p1, .int p2, .int p3]) (n := 4) (Nat.le_of_ble_eq_true rfl)
  rw [lg_entry_eq]
  generalize (lg_sl ([.ref (G.2.1 0), .int p1, .int p2, .int p3]) ++ List.replicate (4 - (lg_sl ([.ref (G.2.1 0), .int p1, .int p2, .int p3])).length) Slot.unset).toArray = ls at hl ⊢
  have hl : lv_has ls 4 [(0, .ref (G.2.1 0)), (1, .int p1), (2, .int p2), (3, .int p3)] := hl
  unfold f_X8_sound at h
  refine lv_iload_n hx hb dX8_sound_0 rfl (lv_at hl 1 rfl) ?_
  refine q_Sxv (As := [.int p1]) (rest := []) E hh (c_X8_needCell l G _ _ _ _ _ hst h) (va_cwS 1 hts gX8_sound_X8_needCell rfl rfl rfl (by decide +kernel) ⟨Nat.le_of_ble_eq_true rfl, Nat.le_of_ble_eq_true rfl⟩) rfl hl.1 rfl (Nat.le_of_ble_eq_true rfl) dX8_sound_1 ⟨Nat.le_of_ble_eq_true rfl, Nat.le_of_ble_eq_true rfl⟩ hlocks hout (fun s1 H locs h hh => ?_)
  refine lv_iload_n hx hb dX8_sound_4 rfl (lv_at hl 2 rfl) ?_
  refine lv_iload_n hx hb dX8_sound_5 rfl (lv_at hl 3 rfl) ?_
  refine q_Sxv (As := [.int p2, .int p3]) (rest := []) E hh (c_X8_needSounding l G _ _ _ _ _ _ hst h) (va_cwS 2 hts gX8_sound_X8_needSounding rfl rfl rfl (by decide +kernel) ⟨Nat.le_of_ble_eq_true rfl, Nat.le_of_ble_eq_true rfl⟩) rfl hl.1 rfl (Nat.le_of_ble_eq_true rfl) dX8_sound_6 ⟨Nat.le_of_ble_eq_true rfl, Nat.le_of_ble_eq_true rfl⟩ hlocks hout (fun s6 H locs h hh => ?_)
  refine lv_aload_n hx hb dX8_sound_9 rfl (lv_at hl 0 rfl) ?_
  refine q_get (T := TX8) (v := .ref (G.2.1 1)) E hh h_inX8 0 (WW_at_0 G s6) rfl 0 (by decide) (List.mem_cons_of_mem _ (List.mem_append_left _ (List.mem_append_left _ (List.mem_append_left _ (List.mem_append_left _ (List.mem_append_left _ (List.mem_of_getElem? (i := 0) rfl))))))) rfl rfl dX8_sound_10 ?_
  refine lv_iload_n hx hb dX8_sound_13 rfl (lv_at hl 1 rfl) ?_
  refine lv_iload_n hx hb dX8_sound_14 rfl (lv_at hl 2 rfl) ?_
  refine lv_iload_n hx hb dX8_sound_15 rfl (lv_at hl 3 rfl) ?_
  refine q_Vi (As := [.int p1, .int p2, .int p3]) (rest := []) E hh (c_X3_setBounds l G _ _ _ _ _ _ h) (cwV 3 hts gX8_sound_X3_setBounds rfl rfl rfl (by decide +kernel) ⟨Nat.le_of_ble_eq_true rfl, Nat.le_of_ble_eq_true rfl⟩) (va_recv (ci := 3) E.2.1 hh.1 rfl (WW_at_1 G s6)) rfl hl.1 rfl (Nat.le_of_ble_eq_true rfl) dX8_sound_16 ⟨Nat.zero_le _, Nat.zero_le _⟩ (fun r16 s16 H locs h hh => ?_)
  refine qx_iret E hh hr hlocks h dX8_sound_19
def f_X8_soundRow_31 (Q : Int32 → St → Prop) (X : Nat → St → Prop)  (rec : St → Int32 → Int32 → Int32 → Int32 → Int32 → Prop) (σ : St) (l1 : Int32) (l2 : Int32) (l3 : Int32) (l4 : Int32) (l5 : Int32) : Prop :=
  (((12 : Int32) ≤ l5 → Q l4 σ) ∧ (¬ (12 : Int32) ≤ l5 → f_X3_setBounds σ (((12 : Int32) * l1) + l5) l2 l3 (fun r53 s53 => rec s53 l1 l2 l3 (if l4 < r53 then r53 else l4) (l5 + 1))))
def f_X8_soundRow_31L (Q : Int32 → St → Prop) (X : Nat → St → Prop)  : Nat → St → Int32 → Int32 → Int32 → Int32 → Int32 → Prop
  | 0, _, _, _, _, _, _ => False
  | n + 1, σ, l1, l2, l3, l4, l5 => f_X8_soundRow_31 Q X  (f_X8_soundRow_31L Q X  n) σ l1 l2 l3 l4 l5
set_option maxHeartbeats 4000000 in
set_option maxRecDepth 100000 in
theorem w_X8_soundRow_31 {p : Program} {l : Launch} {e : Env} {s : State} {m : MethodId} {args : Array Value} {below : List Frame} {meth : Method} {c : Code} {G : GG} (E : EV p s m args c cX8_soundRow 6 wsX8_soundRow RX8 G (AD G s.heap.size)) (hr : meth.sig.returnType = (some .int)) (hlocks : meth.locks = false) (hst : l.stackTraces = false) (hout : ∀ x ∈ c.exceptionTable.toList, False) {Q : Int32 → St → Prop} {X : Nat → St → Prop}  : ∀ (n : Nat) (σ : St) (l1 : Int32) (l2 : Int32) (l3 : Int32) (l4 : Int32) (l5 : Int32) (H : Heap) (locs : List Loc) (ls : Array Slot), f_X8_soundRow_31L Q X  n σ l1 l2 l3 l4 l5 → HH G (AD G s.heap.size) s σ H locs → lv_has ls 6 [(0, .ref (G.2.1 0)), (1, .int l1), (2, .int l2), (3, .int l3), (4, .int l4), (5, .int l5)] → W p l e ({ frames := 7, cells := 1, slots := 6, locals := 111 }) s m args below meth c H locs 0 0 (MXi below G args s Q X) (F0 m 31 ls []) := by
  have hx := E.1.1
  have hb := E.1.2.1
  have hown := E.1.2.2.2.1
  have hts := E.1.2.2.2.2
  have h_inX8 : ∀ w ∈ wsX80, w ∈ wsX8_soundRow := (fun _ h9 => (List.mem_cons_of_mem _ (List.mem_append_left _ (List.mem_append_left _ (List.mem_append_left _ (List.mem_append_right _ h9))))))
  intro n
  induction n with
  | zero =>
    intro σ l1 l2 l3 l4 l5 H locs ls h
    exact h.elim
  | succ n ih =>
    intro σ l1 l2 l3 l4 l5 H locs ls h hh hl
    have h : f_X8_soundRow_31 Q X  (f_X8_soundRow_31L Q X  n) σ l1 l2 l3 l4 l5 := h
    unfold f_X8_soundRow_31 at h
    refine lv_iload hx hb dX8_soundRow_31 (lv_at hl 5 rfl) ?_
    refine lv_bipush (v := (12 : Int32)) hx hb dX8_soundRow_33 (by decide) ?_
    refine lv_icmp_ge (tgt := 67) hx hb dX8_soundRow_35 (by decide) (fun c9 => ?_) (fun c9 => ?_)
    · have h := h.1 c9
      refine lv_iload hx hb dX8_soundRow_67 (lv_at hl 4 rfl) ?_
      refine qx_iret E hh hr hlocks h dX8_soundRow_69
    · have h := h.2 c9
      refine lv_iload hx hb dX8_soundRow_38 (lv_at hl 4 rfl) ?_
      refine lv_aload_n hx hb dX8_soundRow_40 rfl (lv_at hl 0 rfl) ?_
      refine q_get (T := TX8) (v := .ref (G.2.1 1)) E hh h_inX8 0 (WW_at_0 G σ) rfl 0 (by decide) (List.mem_cons_of_mem _ (List.mem_append_left _ (List.mem_append_left _ (List.mem_append_left _ (List.mem_append_left _ (List.mem_append_left _ (List.mem_of_getElem? (i := 2) rfl))))))) rfl rfl dX8_soundRow_41 ?_
      refine lv_bipush (v := (12 : Int32)) hx hb dX8_soundRow_44 (by decide) ?_
      refine lv_iload_n hx hb dX8_soundRow_46 rfl (lv_at hl 1 rfl) ?_
      refine lv_imul hx hb dX8_soundRow_47 ?_
      refine lv_iload hx hb dX8_soundRow_48 (lv_at hl 5 rfl) ?_
      refine lv_iadd hx hb dX8_soundRow_50 ?_
      refine lv_iload_n hx hb dX8_soundRow_51 rfl (lv_at hl 2 rfl) ?_
      refine lv_iload_n hx hb dX8_soundRow_52 rfl (lv_at hl 3 rfl) ?_
      refine q_Vi (As := [.int (((12 : Int32) * l1) + l5), .int l2, .int l3]) (rest := [.int l4]) E hh (c_X3_setBounds l G _ _ _ _ _ _ h) (cwV 3 hts gX8_soundRow_X3_setBounds rfl rfl rfl (by decide +kernel) ⟨Nat.le_of_ble_eq_true rfl, Nat.le_of_ble_eq_true rfl⟩) (va_recv (ci := 3) E.2.1 hh.1 rfl (WW_at_1 G σ)) rfl hl.1 rfl (Nat.le_of_ble_eq_true rfl) dX8_soundRow_53 ⟨Nat.zero_le _, Nat.zero_le _⟩ (fun r53 s53 H locs h hh => ?_)
      refine va_mmax (own := RX8) hx hb (by rw [E.1.2.2.1]; exact hl.1.symm) hown (hts _ (List.mem_cons_of_mem _ (List.mem_append_left _ (List.mem_append_left _ (List.mem_append_left _ (List.mem_append_left _ (List.mem_append_left _ (List.mem_of_getElem? (i := 3) rfl)))))))) (hts _ (List.mem_cons_of_mem _ (List.mem_append_left _ (List.mem_append_left _ (List.mem_append_left _ (List.mem_append_left _ (List.mem_append_left _ (List.mem_of_getElem? (i := 4) rfl)))))))) (hts _ (List.mem_cons_of_mem _ (List.mem_append_left _ (List.mem_append_left _ (List.mem_append_left _ (List.mem_append_left _ (List.mem_append_left _ (List.mem_of_getElem? (i := 5) rfl)))))))) (hts _ (List.mem_cons_of_mem _ (List.mem_append_left _ (List.mem_append_left _ (List.mem_append_left _ (List.mem_append_left _ (List.mem_append_left _ (List.mem_of_getElem? (i := 6) rfl)))))))) (Nat.le_of_ble_eq_true rfl) (Nat.le_of_ble_eq_true rfl) (Nat.zero_le _) (Nat.zero_le _) dX8_soundRow_56 ?_
      refine lv_istore (lv' := [(4, .int (if l4 < r53 then r53 else l4)), (0, .ref (G.2.1 0)), (1, .int l1), (2, .int l2), (3, .int l3), (5, .int l5)]) hx hb dX8_soundRow_59 hl (by decide) rfl (fun ls hl => ?_)
      refine lv_iinc (v := (l5 + 1)) (lv' := [(5, .int (l5 + 1)), (4, .int (if l4 < r53 then r53 else l4)), (0, .ref (G.2.1 0)), (1, .int l1), (2, .int l2), (3, .int l3)]) hx hb dX8_soundRow_61 hl (k := 5) rfl rfl (by decide) rfl (fun ls hl => ?_)
      refine lv_goto (tgt := 31) hx hb dX8_soundRow_64 (by decide) ?_
      exact ih _ _ _ _ _ _ _ _ _ h hh (lv_sub hl [2, 3, 4, 5, 1, 0] rfl)
def f_X8_soundRow (σ : St) (p1 : Int32) (p2 : Int32) (p3 : Int32) (Q : Int32 → St → Prop) (X : Nat → St → Prop) : Prop :=
  ((p1 < 0 → X 1 σ) ∧ (¬ p1 < 0 → ((p1 < (12 : Int32) → f_X8_needSounding σ p2 p3 (fun s22 => f_X8_soundRow_31L Q X FU s22 p1 p2 p3 (0 : Int32) (0 : Int32)) X) ∧ (¬ p1 < (12 : Int32) → X 1 σ))))
set_option maxHeartbeats 4000000 in
set_option maxRecDepth 100000 in
theorem c_X8_soundRow (l : Launch) (G : GG) (σ : St) (sz : Nat) (p1 : Int32) (p2 : Int32) (p3 : Int32) (Q : Int32 → St → Prop) (X : Nat → St → Prop) (hst : l.stackTraces = false) (h : f_X8_soundRow σ p1 p2 p3 Q X) : CXi l yX8_soundRow wsX8_soundRow ({ frames := 7, cells := 1, slots := 6, locals := 111 }) [.ref (G.2.1 0), .int p1, .int p2, .int p3] G σ sz Q X := by
  refine vx_ofW (cc := cX8_soundRow) (maxL := 6) (ret := (some .int)) (by decide) rfl ?_
  intro p e s m args below meth c s₁ B hml hout hv
  obtain ⟨rfl, hpre⟩ := hv
  have hr := B.returns
  have hlocks := B.notSynchronized
  obtain ⟨hsz, -⟩ := id hpre
  subst hsz
  obtain ⟨E, hh⟩ := EV.ofPre (⟨B.exec, B.bytes, hml, findClass_of_methodNamed B.named, atoms_spec (ws := wsX8_soundRow) B.pre⟩ : CallFix p m c cX8_soundRow 6 s _ wsX8_soundRow RX8) hpre
  have hx := E.1.1
  have hb := E.1.2.1
  have hown := E.1.2.2.2.1
  have hts := E.1.2.2.2.2
  have h_inX8 : ∀ w ∈ wsX80, w ∈ wsX8_soundRow := (fun _ h9 => (List.mem_cons_of_mem _ (List.mem_append_left _ (List.mem_append_left _ (List.mem_append_left _ (List.mem_append_right _ h9))))))
  have hl := lv_entry ([.ref (G.2.1 0), .int p1, .int p2, .int p3]) (n := 6) (Nat.le_of_ble_eq_true rfl)
  rw [lg_entry_eq]
  generalize (lg_sl ([.ref (G.2.1 0), .int p1, .int p2, .int p3]) ++ List.replicate (6 - (lg_sl ([.ref (G.2.1 0), .int p1, .int p2, .int p3])).length) Slot.unset).toArray = ls at hl ⊢
  have hl : lv_has ls 6 [(0, .ref (G.2.1 0)), (1, .int p1), (2, .int p2), (3, .int p3)] := hl
  unfold f_X8_soundRow at h
  refine lv_iload_n hx hb dX8_soundRow_0 rfl (lv_at hl 1 rfl) ?_
  refine lv_if_lt (tgt := 10) hx hb dX8_soundRow_1 (by decide) (fun c9 => ?_) (fun c9 => ?_)
  · have h := h.1 c9
    exact q_throw_1 (ik := 81) (is := 83) (text := "no such row") E hh hst hlocks hout (List.mem_cons_of_mem _ (List.mem_append_left _ (List.mem_append_left _ (List.mem_append_left _ (List.mem_append_left _ (List.mem_append_left _ (List.mem_of_getElem? (i := 0) rfl))))))) (List.mem_cons_of_mem _ (List.mem_append_left _ (List.mem_append_left _ (List.mem_append_left _ (List.mem_append_left _ (List.mem_append_left _ (List.mem_of_getElem? (i := 1) rfl))))))) (E.2.2.2.1.1.2.2.1 ("IceRegatta", 83, "no such row", 60) (List.mem_of_getElem? (i := 14) rfl)) (fun _ h9 => (List.mem_cons_of_mem _ (List.mem_append_left _ (List.mem_append_right _ h9)))) hl.1 dX8_soundRow_10 dX8_soundRow_13 dX8_soundRow_14 dX8_soundRow_16 dX8_soundRow_19 (Nat.le_of_ble_eq_true rfl) (Nat.le_of_ble_eq_true rfl) (Nat.le_of_ble_eq_true rfl) (Nat.le_of_ble_eq_true rfl) h
  · have h := h.2 c9
    refine lv_iload_n hx hb dX8_soundRow_4 rfl (lv_at hl 1 rfl) ?_
    refine lv_bipush (v := (12 : Int32)) hx hb dX8_soundRow_5 (by decide) ?_
    refine lv_icmp_lt (tgt := 20) hx hb dX8_soundRow_7 (by decide) (fun c9 => ?_) (fun c9 => ?_)
    · have h := h.1 c9
      refine lv_iload_n hx hb dX8_soundRow_20 rfl (lv_at hl 2 rfl) ?_
      refine lv_iload_n hx hb dX8_soundRow_21 rfl (lv_at hl 3 rfl) ?_
      refine q_Sxv (As := [.int p2, .int p3]) (rest := []) E hh (c_X8_needSounding l G _ _ _ _ _ _ hst h) (va_cwS 2 hts gX8_soundRow_X8_needSounding rfl rfl rfl (by decide +kernel) ⟨Nat.le_of_ble_eq_true rfl, Nat.le_of_ble_eq_true rfl⟩) rfl hl.1 rfl (Nat.le_of_ble_eq_true rfl) dX8_soundRow_22 ⟨Nat.le_of_ble_eq_true rfl, Nat.le_of_ble_eq_true rfl⟩ hlocks hout (fun s22 H locs h hh => ?_)
      refine lv_iconst (v := (0 : Int32)) hx hb dX8_soundRow_25 (by decide) ?_
      refine lv_istore (lv' := [(4, .int (0 : Int32)), (0, .ref (G.2.1 0)), (1, .int p1), (2, .int p2), (3, .int p3)]) hx hb dX8_soundRow_26 hl (by decide) rfl (fun ls hl => ?_)
      refine lv_iconst (v := (0 : Int32)) hx hb dX8_soundRow_28 (by decide) ?_
      refine lv_istore (lv' := [(5, .int (0 : Int32)), (4, .int (0 : Int32)), (0, .ref (G.2.1 0)), (1, .int p1), (2, .int p2), (3, .int p3)]) hx hb dX8_soundRow_29 hl (by decide) rfl (fun ls hl => ?_)
      exact w_X8_soundRow_31 E hr hlocks hst hout  FU _ _ _ _ _ _ _ _ _ h hh (lv_sub hl [2, 3, 4, 5, 1, 0] rfl)
    · have h := h.2 c9
      exact q_throw_1 (ik := 81) (is := 83) (text := "no such row") E hh hst hlocks hout (List.mem_cons_of_mem _ (List.mem_append_left _ (List.mem_append_left _ (List.mem_append_left _ (List.mem_append_left _ (List.mem_append_left _ (List.mem_of_getElem? (i := 0) rfl))))))) (List.mem_cons_of_mem _ (List.mem_append_left _ (List.mem_append_left _ (List.mem_append_left _ (List.mem_append_left _ (List.mem_append_left _ (List.mem_of_getElem? (i := 1) rfl))))))) (E.2.2.2.1.1.2.2.1 ("IceRegatta", 83, "no such row", 60) (List.mem_of_getElem? (i := 14) rfl)) (fun _ h9 => (List.mem_cons_of_mem _ (List.mem_append_left _ (List.mem_append_right _ h9)))) hl.1 dX8_soundRow_10 dX8_soundRow_13 dX8_soundRow_14 dX8_soundRow_16 dX8_soundRow_19 (Nat.le_of_ble_eq_true rfl) (Nat.le_of_ble_eq_true rfl) (Nat.le_of_ble_eq_true rfl) (Nat.le_of_ble_eq_true rfl) h
def f_X8_crack (σ : St) (p1 : Int32) (p2 : Int32) (Q : Int32 → St → Prop) (X : Nat → St → Prop) : Prop :=
  f_X8_needCell σ p1 (fun s1 => f_X3_setCracked s1 p1 p2 (fun r10 s10 => (zok .boolean r10 ∧ Q r10 s10))) X
set_option maxHeartbeats 4000000 in
set_option maxRecDepth 100000 in
theorem c_X8_crack (l : Launch) (G : GG) (σ : St) (sz : Nat) (p1 : Int32) (p2 : Int32) (Q : Int32 → St → Prop) (X : Nat → St → Prop) (hst : l.stackTraces = false) (h : f_X8_crack σ p1 p2 Q X) : CXi l yX8_crack wsX8_crack ({ frames := 7, cells := 1, slots := 6, locals := 110 }) [.ref (G.2.1 0), .int p1, .int p2] G σ sz Q X := by
  refine vx_ofW (cc := cX8_crack) (maxL := 3) (ret := (some .boolean)) (by decide) rfl ?_
  intro p e s m args below meth c s₁ B hml hout hv
  obtain ⟨rfl, hpre⟩ := hv
  have hr := B.returns
  have hlocks := B.notSynchronized
  obtain ⟨hsz, -⟩ := id hpre
  subst hsz
  obtain ⟨E, hh⟩ := EV.ofPre (⟨B.exec, B.bytes, hml, findClass_of_methodNamed B.named, atoms_spec (ws := wsX8_crack) B.pre⟩ : CallFix p m c cX8_crack 3 s _ wsX8_crack RX8) hpre
  have hx := E.1.1
  have hb := E.1.2.1
  have hown := E.1.2.2.2.1
  have hts := E.1.2.2.2.2
  have h_inX8 : ∀ w ∈ wsX80, w ∈ wsX8_crack := (fun _ h9 => (List.mem_cons_of_mem _ (List.mem_append_left _ (List.mem_append_left _ (List.mem_append_right _ h9)))))
  have hl := lv_entry ([.ref (G.2.1 0), .int p1, .int p2]) (n := 3) (Nat.le_of_ble_eq_true rfl)
  rw [lg_entry_eq]
  generalize (lg_sl ([.ref (G.2.1 0), .int p1, .int p2]) ++ List.replicate (3 - (lg_sl ([.ref (G.2.1 0), .int p1, .int p2])).length) Slot.unset).toArray = ls at hl ⊢
  have hl : lv_has ls 3 [(0, .ref (G.2.1 0)), (1, .int p1), (2, .int p2)] := hl
  unfold f_X8_crack at h
  refine lv_iload_n hx hb dX8_crack_0 rfl (lv_at hl 1 rfl) ?_
  refine q_Sxv (As := [.int p1]) (rest := []) E hh (c_X8_needCell l G _ _ _ _ _ hst h) (va_cwS 1 hts gX8_crack_X8_needCell rfl rfl rfl (by decide +kernel) ⟨Nat.le_of_ble_eq_true rfl, Nat.le_of_ble_eq_true rfl⟩) rfl hl.1 rfl (Nat.le_of_ble_eq_true rfl) dX8_crack_1 ⟨Nat.le_of_ble_eq_true rfl, Nat.le_of_ble_eq_true rfl⟩ hlocks hout (fun s1 H locs h hh => ?_)
  refine lv_aload_n hx hb dX8_crack_4 rfl (lv_at hl 0 rfl) ?_
  refine q_get (T := TX8) (v := .ref (G.2.1 1)) E hh h_inX8 0 (WW_at_0 G s1) rfl 0 (by decide) (List.mem_cons_of_mem _ (List.mem_append_left _ (List.mem_append_left _ (List.mem_append_left _ (List.mem_of_getElem? (i := 0) rfl))))) rfl rfl dX8_crack_5 ?_
  refine lv_iload_n hx hb dX8_crack_8 rfl (lv_at hl 1 rfl) ?_
  refine lv_iload_n hx hb dX8_crack_9 rfl (lv_at hl 2 rfl) ?_
  refine q_Vi (As := [.int p1, .int p2]) (rest := []) E hh (c_X3_setCracked l G _ _ _ _ _ h) (cwV 2 hts gX8_crack_X3_setCracked rfl rfl rfl (by decide +kernel) ⟨Nat.le_of_ble_eq_true rfl, Nat.le_of_ble_eq_true rfl⟩) (va_recv (ci := 3) E.2.1 hh.1 rfl (WW_at_1 G s1)) rfl hl.1 rfl (Nat.le_of_ble_eq_true rfl) dX8_crack_10 ⟨Nat.zero_le _, Nat.zero_le _⟩ (fun r10 s10 H locs h hh => ?_)
  refine qx_zret (ty := .boolean) E hh hr hlocks h.1 h.2 dX8_crack_13
def f_X8_needDegrees (σ : St) (p0 : Int32) (Q : St → Prop) (X : Nat → St → Prop) : Prop :=
  ((p0 < (-40 : Int32) → X 2 σ) ∧ (¬ p0 < (-40 : Int32) → ((p0 ≤ (20 : Int32) → Q σ) ∧ (¬ p0 ≤ (20 : Int32) → X 2 σ))))
set_option maxHeartbeats 4000000 in
set_option maxRecDepth 100000 in
theorem c_X8_needDegrees (l : Launch) (G : GG) (σ : St) (sz : Nat) (p0 : Int32) (Q : St → Prop) (X : Nat → St → Prop) (hst : l.stackTraces = false) (h : f_X8_needDegrees σ p0 Q X) : CXv l yX8_needDegrees wsX8_needDegrees ({ frames := 6, cells := 1, slots := 6, locals := 90 }) [.int p0] G σ sz Q X := by
  refine vx_ofW (cc := cX8_needDegrees) (maxL := 1) (ret := none) (by decide) rfl ?_
  intro p e s m args below meth c s₁ B hml hout hv
  obtain ⟨rfl, hpre⟩ := hv
  have hr := B.returns
  have hlocks := B.notSynchronized
  obtain ⟨hsz, -⟩ := id hpre
  subst hsz
  obtain ⟨E, hh⟩ := EV.ofPre (⟨B.exec, B.bytes, hml, findClass_of_methodNamed B.named, atoms_spec (ws := wsX8_needDegrees) B.pre⟩ : CallFix p m c cX8_needDegrees 1 s _ wsX8_needDegrees RX8) hpre
  have hx := E.1.1
  have hb := E.1.2.1
  have hown := E.1.2.2.2.1
  have hts := E.1.2.2.2.2
  have hl := lv_entry ([.int p0]) (n := 1) (Nat.le_of_ble_eq_true rfl)
  rw [lg_entry_eq]
  generalize (lg_sl ([.int p0]) ++ List.replicate (1 - (lg_sl ([.int p0])).length) Slot.unset).toArray = ls at hl ⊢
  have hl : lv_has ls 1 [(0, .int p0)] := hl
  unfold f_X8_needDegrees at h
  refine lv_iload_n hx hb dX8_needDegrees_0 rfl (lv_at hl 0 rfl) ?_
  refine lv_bipush (v := (-40 : Int32)) hx hb dX8_needDegrees_1 (by decide) ?_
  refine lv_icmp_lt (tgt := 12) hx hb dX8_needDegrees_3 (by decide) (fun c9 => ?_) (fun c9 => ?_)
  · have h := h.1 c9
    exact q_throwW_2 (ik := 121) (is := 270) (text := "degrees are not -40 to 20") E hh hst hlocks hout (List.mem_cons_of_mem _ (List.mem_append_left _ (List.mem_of_getElem? (i := 0) rfl))) (List.mem_cons_of_mem _ (List.mem_append_left _ (List.mem_of_getElem? (i := 1) rfl))) (E.2.2.2.1.1.2.2.1 ("IceRegatta", 270, "degrees are not -40 to 20", 69) (List.mem_of_getElem? (i := 23) rfl)) (fun _ h9 => (List.mem_cons_of_mem _ (List.mem_append_right _ h9))) hl.1 dX8_needDegrees_12 dX8_needDegrees_15 dX8_needDegrees_16 dX8_needDegrees_19 dX8_needDegrees_22 (Nat.le_of_ble_eq_true rfl) (Nat.le_of_ble_eq_true rfl) (Nat.le_of_ble_eq_true rfl) (Nat.le_of_ble_eq_true rfl) h
  · have h := h.2 c9
    refine lv_iload_n hx hb dX8_needDegrees_6 rfl (lv_at hl 0 rfl) ?_
    refine lv_bipush (v := (20 : Int32)) hx hb dX8_needDegrees_7 (by decide) ?_
    refine lv_icmp_le (tgt := 23) hx hb dX8_needDegrees_9 (by decide) (fun c9 => ?_) (fun c9 => ?_)
    · have h := h.1 c9
      exact qx_vret E hh hr hlocks h dX8_needDegrees_23
    · have h := h.2 c9
      exact q_throwW_2 (ik := 121) (is := 270) (text := "degrees are not -40 to 20") E hh hst hlocks hout (List.mem_cons_of_mem _ (List.mem_append_left _ (List.mem_of_getElem? (i := 0) rfl))) (List.mem_cons_of_mem _ (List.mem_append_left _ (List.mem_of_getElem? (i := 1) rfl))) (E.2.2.2.1.1.2.2.1 ("IceRegatta", 270, "degrees are not -40 to 20", 69) (List.mem_of_getElem? (i := 23) rfl)) (fun _ h9 => (List.mem_cons_of_mem _ (List.mem_append_right _ h9))) hl.1 dX8_needDegrees_12 dX8_needDegrees_15 dX8_needDegrees_16 dX8_needDegrees_19 dX8_needDegrees_22 (Nat.le_of_ble_eq_true rfl) (Nat.le_of_ble_eq_true rfl) (Nat.le_of_ble_eq_true rfl) (Nat.le_of_ble_eq_true rfl) h
def f_X8_hour (σ : St) (p1 : Int32) (Q : Int32 → St → Prop) (X : Nat → St → Prop) : Prop :=
  f_X8_needDegrees σ p1 (fun s1 => f_X3_passHour s1 p1 (fun s9 => f_X3_safeCells s9 (gi s9 9) (fun r23 s23 => Q r23 s23))) X
set_option maxHeartbeats 4000000 in
set_option maxRecDepth 100000 in
theorem c_X8_hour (l : Launch) (G : GG) (σ : St) (sz : Nat) (p1 : Int32) (Q : Int32 → St → Prop) (X : Nat → St → Prop) (hst : l.stackTraces = false) (h : f_X8_hour σ p1 Q X) : CXi l yX8_hour wsX8_hour ({ frames := 7, cells := 1, slots := 6, locals := 110 }) [.ref (G.2.1 0), .int p1] G σ sz Q X := by
  refine vx_ofW (cc := cX8_hour) (maxL := 2) (ret := (some .int)) (by decide) rfl ?_
  intro p e s m args below meth c s₁ B hml hout hv
  obtain ⟨rfl, hpre⟩ := hv
  have hr := B.returns
  have hlocks := B.notSynchronized
  obtain ⟨hsz, -⟩ := id hpre
  subst hsz
  obtain ⟨E, hh⟩ := EV.ofPre (⟨B.exec, B.bytes, hml, findClass_of_methodNamed B.named, atoms_spec (ws := wsX8_hour) B.pre⟩ : CallFix p m c cX8_hour 2 s _ wsX8_hour RX8) hpre
  have hx := E.1.1
  have hb := E.1.2.1
  have hown := E.1.2.2.2.1
  have hts := E.1.2.2.2.2
  have h_inX6 : ∀ w ∈ wsX60, w ∈ wsX8_hour := (fun _ h9 => (List.mem_cons_of_mem _ (List.mem_append_left _ (List.mem_append_left _ (List.mem_append_right _ h9)))))
  have h_inX8 : ∀ w ∈ wsX80, w ∈ wsX8_hour := (fun _ h9 => (List.mem_cons_of_mem _ (List.mem_append_left _ (List.mem_append_left _ (List.mem_append_left _ (List.mem_append_right _ h9))))))
  have hl := lv_entry ([.ref (G.2.1 0), .int p1]) (n := 2) (Nat.le_of_ble_eq_true rfl)
  rw [lg_entry_eq]
  generalize (lg_sl ([.ref (G.2.1 0), .int p1]) ++ List.replicate (2 - (lg_sl ([.ref (G.2.1 0), .int p1])).length) Slot.unset).toArray = ls at hl ⊢
  have hl : lv_has ls 2 [(0, .ref (G.2.1 0)), (1, .int p1)] := hl
  unfold f_X8_hour at h
  refine lv_iload_n hx hb dX8_hour_0 rfl (lv_at hl 1 rfl) ?_
  refine q_Sxv (As := [.int p1]) (rest := []) E hh (c_X8_needDegrees l G _ _ _ _ _ hst h) (va_cwS 1 hts gX8_hour_X8_needDegrees rfl rfl rfl (by decide +kernel) ⟨Nat.le_of_ble_eq_true rfl, Nat.le_of_ble_eq_true rfl⟩) rfl hl.1 rfl (Nat.le_of_ble_eq_true rfl) dX8_hour_1 ⟨Nat.le_of_ble_eq_true rfl, Nat.le_of_ble_eq_true rfl⟩ hlocks hout (fun s1 H locs h hh => ?_)
  refine lv_aload_n hx hb dX8_hour_4 rfl (lv_at hl 0 rfl) ?_
  refine q_get (T := TX8) (v := .ref (G.2.1 1)) E hh h_inX8 0 (WW_at_0 G s1) rfl 0 (by decide) (List.mem_cons_of_mem _ (List.mem_append_left _ (List.mem_append_left _ (List.mem_append_left _ (List.mem_append_left _ (List.mem_append_left _ (List.mem_of_getElem? (i := 0) rfl))))))) rfl rfl dX8_hour_5 ?_
  refine lv_iload_n hx hb dX8_hour_8 rfl (lv_at hl 1 rfl) ?_
  refine q_Vv (As := [.int p1]) (rest := []) E hh (c_X3_passHour l G _ _ _ _ h) (cwV 1 hts gX8_hour_X3_passHour rfl rfl rfl (by decide +kernel) ⟨Nat.le_of_ble_eq_true rfl, Nat.le_of_ble_eq_true rfl⟩) (va_recv (ci := 3) E.2.1 hh.1 rfl (WW_at_1 G s1)) rfl hl.1 rfl (Nat.le_of_ble_eq_true rfl) dX8_hour_9 ⟨Nat.zero_le _, Nat.zero_le _⟩ (fun s9 H locs h hh => ?_)
  refine lv_aload_n hx hb dX8_hour_12 rfl (lv_at hl 0 rfl) ?_
  refine q_get (T := TX8) (v := .ref (G.2.1 1)) E hh h_inX8 0 (WW_at_0 G s9) rfl 0 (by decide) (List.mem_cons_of_mem _ (List.mem_append_left _ (List.mem_append_left _ (List.mem_append_left _ (List.mem_append_left _ (List.mem_append_left _ (List.mem_of_getElem? (i := 0) rfl))))))) rfl rfl dX8_hour_13 ?_
  refine lv_aload_n hx hb dX8_hour_16 rfl (lv_at hl 0 rfl) ?_
  refine q_get (T := TX8) (v := .ref (G.2.1 4)) E hh h_inX8 0 (WW_at_0 G s9) rfl 3 (by decide) (List.mem_cons_of_mem _ (List.mem_append_left _ (List.mem_append_left _ (List.mem_append_left _ (List.mem_append_left _ (List.mem_append_left _ (List.mem_of_getElem? (i := 1) rfl))))))) rfl rfl dX8_hour_17 ?_
  refine q_getN (T := TX6) (host := "IceRegatta") (v := .int (gi s9 9)) E hh h_inX6 4 (WW_at_4 G s9) rfl 1 (by decide) (List.mem_of_getElem? (i := 4) rfl) rfl rfl dX8_hour_20 ?_
  refine q_Vi (As := [.int (gi s9 9)]) (rest := []) E hh (c_X3_safeCells l G _ _ _ _ h) (cwV 1 hts gX8_hour_X3_safeCells rfl rfl rfl (by decide +kernel) ⟨Nat.le_of_ble_eq_true rfl, Nat.le_of_ble_eq_true rfl⟩) (va_recv (ci := 3) E.2.1 hh.1 rfl (WW_at_1 G s9)) rfl hl.1 rfl (Nat.le_of_ble_eq_true rfl) dX8_hour_23 ⟨Nat.zero_le _, Nat.zero_le _⟩ (fun r23 s23 H locs h hh => ?_)
  refine qx_iret E hh hr hlocks h dX8_hour_26
def f_X8_ice (σ : St) (p1 : Int32) (p2 : Int32) (Q : Int32 → St → Prop) (X : Nat → St → Prop) : Prop :=
  f_X8_needCell σ p1 (fun s1 => ((p2 = (0 : Int32) → f_X3_lowOf s1 p1 (fun r37 s37 => Q r37 s37)) ∧ (¬ p2 = (0 : Int32) → ((p2 = (1 : Int32) → f_X3_highOf s1 p1 (fun r46 s46 => Q r46 s46)) ∧ (¬ p2 = (1 : Int32) → ((p2 = (2 : Int32) → f_X3_isSafe s1 p1 (gi s1 9) (fun r62 s62 => ((r62 = 0 → Q (0 : Int32) s62) ∧ (¬ r62 = 0 → Q (1 : Int32) s62)))) ∧ (¬ p2 = (2 : Int32) → X 2 s1))))))) X
set_option maxHeartbeats 4000000 in
set_option maxRecDepth 100000 in
theorem c_X8_ice (l : Launch) (G : GG) (σ : St) (sz : Nat) (p1 : Int32) (p2 : Int32) (Q : Int32 → St → Prop) (X : Nat → St → Prop) (hst : l.stackTraces = false) (h : f_X8_ice σ p1 p2 Q X) : CXi l yX8_ice wsX8_ice ({ frames := 7, cells := 1, slots := 6, locals := 110 }) [.ref (G.2.1 0), .int p1, .int p2] G σ sz Q X := by
  refine vx_ofW (cc := cX8_ice) (maxL := 3) (ret := (some .int)) (by decide) rfl ?_
  intro p e s m args below meth c s₁ B hml hout hv
  obtain ⟨rfl, hpre⟩ := hv
  have hr := B.returns
  have hlocks := B.notSynchronized
  obtain ⟨hsz, -⟩ := id hpre
  subst hsz
  obtain ⟨E, hh⟩ := EV.ofPre (⟨B.exec, B.bytes, hml, findClass_of_methodNamed B.named, atoms_spec (ws := wsX8_ice) B.pre⟩ : CallFix p m c cX8_ice 3 s _ wsX8_ice RX8) hpre
  have hx := E.1.1
  have hb := E.1.2.1
  have hown := E.1.2.2.2.1
  have hts := E.1.2.2.2.2
  have h_inX6 : ∀ w ∈ wsX60, w ∈ wsX8_ice := (fun _ h9 => (List.mem_cons_of_mem _ (List.mem_append_left _ (List.mem_append_left _ (List.mem_append_left _ (List.mem_append_right _ h9))))))
  have h_inX8 : ∀ w ∈ wsX80, w ∈ wsX8_ice := (fun _ h9 => (List.mem_cons_of_mem _ (List.mem_append_left _ (List.mem_append_left _ (List.mem_append_left _ (List.mem_append_left _ (List.mem_append_right _ h9)))))))
  have hl := lv_entry ([.ref (G.2.1 0), .int p1, .int p2]) (n := 3) (Nat.le_of_ble_eq_true rfl)
  rw [lg_entry_eq]
  generalize (lg_sl ([.ref (G.2.1 0), .int p1, .int p2]) ++ List.replicate (3 - (lg_sl ([.ref (G.2.1 0), .int p1, .int p2])).length) Slot.unset).toArray = ls at hl ⊢
  have hl : lv_has ls 3 [(0, .ref (G.2.1 0)), (1, .int p1), (2, .int p2)] := hl
  unfold f_X8_ice at h
  refine lv_iload_n hx hb dX8_ice_0 rfl (lv_at hl 1 rfl) ?_
  refine q_Sxv (As := [.int p1]) (rest := []) E hh (c_X8_needCell l G _ _ _ _ _ hst h) (va_cwS 1 hts gX8_ice_X8_needCell rfl rfl rfl (by decide +kernel) ⟨Nat.le_of_ble_eq_true rfl, Nat.le_of_ble_eq_true rfl⟩) rfl hl.1 rfl (Nat.le_of_ble_eq_true rfl) dX8_ice_1 ⟨Nat.le_of_ble_eq_true rfl, Nat.le_of_ble_eq_true rfl⟩ hlocks hout (fun s1 H locs h hh => ?_)
  refine lv_iload_n hx hb dX8_ice_4 rfl (lv_at hl 2 rfl) ?_
  by_cases c9_0 : p2 = (0 : Int32)
  · have h := h.1 c9_0
    refine lv_tableIn (tgt := 32) hx hb dX8_ice_5 (by rw [c9_0]; decide) (by rw [c9_0]; decide) (by rw [c9_0] <;> rfl) (by decide) ?_
    refine lv_aload_n hx hb dX8_ice_32 rfl (lv_at hl 0 rfl) ?_
    refine q_get (T := TX8) (v := .ref (G.2.1 1)) E hh h_inX8 0 (WW_at_0 G s1) rfl 0 (by decide) (List.mem_cons_of_mem _ (List.mem_append_left _ (List.mem_append_left _ (List.mem_append_left _ (List.mem_append_left _ (List.mem_append_left _ (List.mem_append_left _ (List.mem_of_getElem? (i := 2) rfl)))))))) rfl rfl dX8_ice_33 ?_
    refine lv_iload_n hx hb dX8_ice_36 rfl (lv_at hl 1 rfl) ?_
    refine q_Vi (As := [.int p1]) (rest := []) E hh (c_X3_lowOf l G _ _ _ _ h) (cwV 1 hts gX8_ice_X3_lowOf rfl rfl rfl (by decide +kernel) ⟨Nat.le_of_ble_eq_true rfl, Nat.le_of_ble_eq_true rfl⟩) (va_recv (ci := 3) E.2.1 hh.1 rfl (WW_at_1 G s1)) rfl hl.1 rfl (Nat.le_of_ble_eq_true rfl) dX8_ice_37 ⟨Nat.zero_le _, Nat.zero_le _⟩ (fun r37 s37 H locs h hh => ?_)
    refine qx_iret E hh hr hlocks h dX8_ice_40
  have h := h.2 c9_0
  by_cases c9_1 : p2 = (1 : Int32)
  · have h := h.1 c9_1
    refine lv_tableIn (tgt := 41) hx hb dX8_ice_5 (by rw [c9_1]; decide) (by rw [c9_1]; decide) (by rw [c9_1] <;> rfl) (by decide) ?_
    refine lv_aload_n hx hb dX8_ice_41 rfl (lv_at hl 0 rfl) ?_
    refine q_get (T := TX8) (v := .ref (G.2.1 1)) E hh h_inX8 0 (WW_at_0 G s1) rfl 0 (by decide) (List.mem_cons_of_mem _ (List.mem_append_left _ (List.mem_append_left _ (List.mem_append_left _ (List.mem_append_left _ (List.mem_append_left _ (List.mem_append_left _ (List.mem_of_getElem? (i := 2) rfl)))))))) rfl rfl dX8_ice_42 ?_
    refine lv_iload_n hx hb dX8_ice_45 rfl (lv_at hl 1 rfl) ?_
    refine q_Vi (As := [.int p1]) (rest := []) E hh (c_X3_highOf l G _ _ _ _ h) (cwV 1 hts gX8_ice_X3_highOf rfl rfl rfl (by decide +kernel) ⟨Nat.le_of_ble_eq_true rfl, Nat.le_of_ble_eq_true rfl⟩) (va_recv (ci := 3) E.2.1 hh.1 rfl (WW_at_1 G s1)) rfl hl.1 rfl (Nat.le_of_ble_eq_true rfl) dX8_ice_46 ⟨Nat.zero_le _, Nat.zero_le _⟩ (fun r46 s46 H locs h hh => ?_)
    refine qx_iret E hh hr hlocks h dX8_ice_49
  have h := h.2 c9_1
  by_cases c9_2 : p2 = (2 : Int32)
  · have h := h.1 c9_2
    refine lv_tableIn (tgt := 50) hx hb dX8_ice_5 (by rw [c9_2]; decide) (by rw [c9_2]; decide) (by rw [c9_2] <;> rfl) (by decide) ?_
    refine lv_aload_n hx hb dX8_ice_50 rfl (lv_at hl 0 rfl) ?_
    refine q_get (T := TX8) (v := .ref (G.2.1 1)) E hh h_inX8 0 (WW_at_0 G s1) rfl 0 (by decide) (List.mem_cons_of_mem _ (List.mem_append_left _ (List.mem_append_left _ (List.mem_append_left _ (List.mem_append_left _ (List.mem_append_left _ (List.mem_append_left _ (List.mem_of_getElem? (i := 2) rfl)))))))) rfl rfl dX8_ice_51 ?_
    refine lv_iload_n hx hb dX8_ice_54 rfl (lv_at hl 1 rfl) ?_
    refine lv_aload_n hx hb dX8_ice_55 rfl (lv_at hl 0 rfl) ?_
    refine q_get (T := TX8) (v := .ref (G.2.1 4)) E hh h_inX8 0 (WW_at_0 G s1) rfl 3 (by decide) (List.mem_cons_of_mem _ (List.mem_append_left _ (List.mem_append_left _ (List.mem_append_left _ (List.mem_append_left _ (List.mem_append_left _ (List.mem_append_left _ (List.mem_of_getElem? (i := 3) rfl)))))))) rfl rfl dX8_ice_56 ?_
    refine q_getN (T := TX6) (host := "IceRegatta") (v := .int (gi s1 9)) E hh h_inX6 4 (WW_at_4 G s1) rfl 1 (by decide) (List.mem_of_getElem? (i := 4) rfl) rfl rfl dX8_ice_59 ?_
    refine q_Vi (As := [.int p1, .int (gi s1 9)]) (rest := []) E hh (c_X3_isSafe l G _ _ _ _ _ h) (cwV 2 hts gX8_ice_X3_isSafe rfl rfl rfl (by decide +kernel) ⟨Nat.le_of_ble_eq_true rfl, Nat.le_of_ble_eq_true rfl⟩) (va_recv (ci := 3) E.2.1 hh.1 rfl (WW_at_1 G s1)) rfl hl.1 rfl (Nat.le_of_ble_eq_true rfl) dX8_ice_62 ⟨Nat.zero_le _, Nat.zero_le _⟩ (fun r62 s62 H locs h hh => ?_)
    refine lv_if_eq (tgt := 72) hx hb dX8_ice_65 (by decide) (fun c9 => ?_) (fun c9 => ?_)
    · have h := h.1 c9
      refine lv_iconst (v := (0 : Int32)) hx hb dX8_ice_72 (by decide) ?_
      refine qx_iret E hh hr hlocks h dX8_ice_73
    · have h := h.2 c9
      refine lv_iconst (v := (1 : Int32)) hx hb dX8_ice_68 (by decide) ?_
      refine lv_goto (tgt := 73) hx hb dX8_ice_69 (by decide) ?_
      refine qx_iret E hh hr hlocks h dX8_ice_73
  have h := h.2 c9_2
  refine lv_tableOut (tgt := 74) hx hb dX8_ice_5 (by have z0 := lv_neT c9_0 (show ((0 : Int32)).toInt = 0 by decide); have z1 := lv_neT c9_1 (show ((1 : Int32)).toInt = 1 by decide); have z2 := lv_neT c9_2 (show ((2 : Int32)).toInt = 2 by decide); omega) (by decide) ?_
  exact q_throw_2 (ik := 121) (is := 123) (text := "ice tells 0, 1 or 2") E hh hst hlocks hout (List.mem_cons_of_mem _ (List.mem_append_left _ (List.mem_append_left _ (List.mem_append_left _ (List.mem_append_left _ (List.mem_append_left _ (List.mem_append_left _ (List.mem_of_getElem? (i := 0) rfl)))))))) (List.mem_cons_of_mem _ (List.mem_append_left _ (List.mem_append_left _ (List.mem_append_left _ (List.mem_append_left _ (List.mem_append_left _ (List.mem_append_left _ (List.mem_of_getElem? (i := 1) rfl)))))))) (E.2.2.2.1.1.2.2.1 ("IceRegatta", 123, "ice tells 0, 1 or 2", 61) (List.mem_of_getElem? (i := 15) rfl)) (fun _ h9 => (List.mem_cons_of_mem _ (List.mem_append_left _ (List.mem_append_right _ h9)))) hl.1 dX8_ice_74 dX8_ice_77 dX8_ice_78 dX8_ice_80 dX8_ice_83 (Nat.le_of_ble_eq_true rfl) (Nat.le_of_ble_eq_true rfl) (Nat.le_of_ble_eq_true rfl) (Nat.le_of_ble_eq_true rfl) h
def f_X8_lasts (σ : St) (p1 : Int32) (p2 : Int32) (Q : Int32 → St → Prop) (X : Nat → St → Prop) : Prop :=
  f_X8_needCell σ p1 (fun s1 => f_X8_needDegrees s1 p2 (fun s5 => f_X3_safeHours s5 p1 p2 (gi s5 9) (fun r21 s21 => Q r21 s21)) X) X
set_option maxHeartbeats 4000000 in
set_option maxRecDepth 100000 in
theorem c_X8_lasts (l : Launch) (G : GG) (σ : St) (sz : Nat) (p1 : Int32) (p2 : Int32) (Q : Int32 → St → Prop) (X : Nat → St → Prop) (hst : l.stackTraces = false) (h : f_X8_lasts σ p1 p2 Q X) : CXi l yX8_lasts wsX8_lasts ({ frames := 7, cells := 1, slots := 6, locals := 110 }) [.ref (G.2.1 0), .int p1, .int p2] G σ sz Q X := by
  refine vx_ofW (cc := cX8_lasts) (maxL := 3) (ret := (some .int)) (by decide) rfl ?_
  intro p e s m args below meth c s₁ B hml hout hv
  obtain ⟨rfl, hpre⟩ := hv
  have hr := B.returns
  have hlocks := B.notSynchronized
  obtain ⟨hsz, -⟩ := id hpre
  subst hsz
  obtain ⟨E, hh⟩ := EV.ofPre (⟨B.exec, B.bytes, hml, findClass_of_methodNamed B.named, atoms_spec (ws := wsX8_lasts) B.pre⟩ : CallFix p m c cX8_lasts 3 s _ wsX8_lasts RX8) hpre
  have hx := E.1.1
  have hb := E.1.2.1
  have hown := E.1.2.2.2.1
  have hts := E.1.2.2.2.2
  have h_inX6 : ∀ w ∈ wsX60, w ∈ wsX8_lasts := (fun _ h9 => (List.mem_cons_of_mem _ (List.mem_append_left _ (List.mem_append_left _ (List.mem_append_left _ (List.mem_append_right _ h9))))))
  have h_inX8 : ∀ w ∈ wsX80, w ∈ wsX8_lasts := (fun _ h9 => (List.mem_cons_of_mem _ (List.mem_append_left _ (List.mem_append_left _ (List.mem_append_left _ (List.mem_append_left _ (List.mem_append_right _ h9)))))))
  have hl := lv_entry ([.ref (G.2.1 0), .int p1, .int p2]) (n := 3) (Nat.le_of_ble_eq_true rfl)
  rw [lg_entry_eq]
  generalize (lg_sl ([.ref (G.2.1 0), .int p1, .int p2]) ++ List.replicate (3 - (lg_sl ([.ref (G.2.1 0), .int p1, .int p2])).length) Slot.unset).toArray = ls at hl ⊢
  have hl : lv_has ls 3 [(0, .ref (G.2.1 0)), (1, .int p1), (2, .int p2)] := hl
  unfold f_X8_lasts at h
  refine lv_iload_n hx hb dX8_lasts_0 rfl (lv_at hl 1 rfl) ?_
  refine q_Sxv (As := [.int p1]) (rest := []) E hh (c_X8_needCell l G _ _ _ _ _ hst h) (va_cwS 1 hts gX8_lasts_X8_needCell rfl rfl rfl (by decide +kernel) ⟨Nat.le_of_ble_eq_true rfl, Nat.le_of_ble_eq_true rfl⟩) rfl hl.1 rfl (Nat.le_of_ble_eq_true rfl) dX8_lasts_1 ⟨Nat.le_of_ble_eq_true rfl, Nat.le_of_ble_eq_true rfl⟩ hlocks hout (fun s1 H locs h hh => ?_)
  refine lv_iload_n hx hb dX8_lasts_4 rfl (lv_at hl 2 rfl) ?_
  refine q_Sxv (As := [.int p2]) (rest := []) E hh (c_X8_needDegrees l G _ _ _ _ _ hst h) (va_cwS 1 hts gX8_lasts_X8_needDegrees rfl rfl rfl (by decide +kernel) ⟨Nat.le_of_ble_eq_true rfl, Nat.le_of_ble_eq_true rfl⟩) rfl hl.1 rfl (Nat.le_of_ble_eq_true rfl) dX8_lasts_5 ⟨Nat.le_of_ble_eq_true rfl, Nat.le_of_ble_eq_true rfl⟩ hlocks hout (fun s5 H locs h hh => ?_)
  refine lv_aload_n hx hb dX8_lasts_8 rfl (lv_at hl 0 rfl) ?_
  refine q_get (T := TX8) (v := .ref (G.2.1 1)) E hh h_inX8 0 (WW_at_0 G s5) rfl 0 (by decide) (List.mem_cons_of_mem _ (List.mem_append_left _ (List.mem_append_left _ (List.mem_append_left _ (List.mem_append_left _ (List.mem_append_left _ (List.mem_append_left _ (List.mem_of_getElem? (i := 0) rfl)))))))) rfl rfl dX8_lasts_9 ?_
  refine lv_iload_n hx hb dX8_lasts_12 rfl (lv_at hl 1 rfl) ?_
  refine lv_iload_n hx hb dX8_lasts_13 rfl (lv_at hl 2 rfl) ?_
  refine lv_aload_n hx hb dX8_lasts_14 rfl (lv_at hl 0 rfl) ?_
  refine q_get (T := TX8) (v := .ref (G.2.1 4)) E hh h_inX8 0 (WW_at_0 G s5) rfl 3 (by decide) (List.mem_cons_of_mem _ (List.mem_append_left _ (List.mem_append_left _ (List.mem_append_left _ (List.mem_append_left _ (List.mem_append_left _ (List.mem_append_left _ (List.mem_of_getElem? (i := 1) rfl)))))))) rfl rfl dX8_lasts_15 ?_
  refine q_getN (T := TX6) (host := "IceRegatta") (v := .int (gi s5 9)) E hh h_inX6 4 (WW_at_4 G s5) rfl 1 (by decide) (List.mem_of_getElem? (i := 4) rfl) rfl rfl dX8_lasts_18 ?_
  refine q_Vi (As := [.int p1, .int p2, .int (gi s5 9)]) (rest := []) E hh (c_X3_safeHours l G _ _ _ _ _ _ h) (cwV 3 hts gX8_lasts_X3_safeHours rfl rfl rfl (by decide +kernel) ⟨Nat.le_of_ble_eq_true rfl, Nat.le_of_ble_eq_true rfl⟩) (va_recv (ci := 3) E.2.1 hh.1 rfl (WW_at_1 G s5)) rfl hl.1 rfl (Nat.le_of_ble_eq_true rfl) dX8_lasts_21 ⟨Nat.zero_le _, Nat.zero_le _⟩ (fun r21 s21 H locs h hh => ?_)
  refine qx_iret E hh hr hlocks h dX8_lasts_24
def f_X8_needWay (σ : St) (p0 : Int32) (Q : St → Prop) (X : Nat → St → Prop) : Prop :=
  f_X8_isWay σ p0 (fun r1 s1 => ((¬ r1 = 0 → Q s1) ∧ (r1 = 0 → X 2 s1)))
set_option maxHeartbeats 4000000 in
set_option maxRecDepth 100000 in
theorem c_X8_needWay (l : Launch) (G : GG) (σ : St) (sz : Nat) (p0 : Int32) (Q : St → Prop) (X : Nat → St → Prop) (hst : l.stackTraces = false) (h : f_X8_needWay σ p0 Q X) : CXv l yX8_needWay wsX8_needWay ({ frames := 6, cells := 1, slots := 6, locals := 90 }) [.int p0] G σ sz Q X := by
  refine vx_ofW (cc := cX8_needWay) (maxL := 1) (ret := none) (by decide) rfl ?_
  intro p e s m args below meth c s₁ B hml hout hv
  obtain ⟨rfl, hpre⟩ := hv
  have hr := B.returns
  have hlocks := B.notSynchronized
  obtain ⟨hsz, -⟩ := id hpre
  subst hsz
  obtain ⟨E, hh⟩ := EV.ofPre (⟨B.exec, B.bytes, hml, findClass_of_methodNamed B.named, atoms_spec (ws := wsX8_needWay) B.pre⟩ : CallFix p m c cX8_needWay 1 s _ wsX8_needWay RX8) hpre
  have hx := E.1.1
  have hb := E.1.2.1
  have hown := E.1.2.2.2.1
  have hts := E.1.2.2.2.2
  have hl := lv_entry ([.int p0]) (n := 1) (Nat.le_of_ble_eq_true rfl)
  rw [lg_entry_eq]
  generalize (lg_sl ([.int p0]) ++ List.replicate (1 - (lg_sl ([.int p0])).length) Slot.unset).toArray = ls at hl ⊢
  have hl : lv_has ls 1 [(0, .int p0)] := hl
  unfold f_X8_needWay at h
  refine lv_iload_n hx hb dX8_needWay_0 rfl (lv_at hl 0 rfl) ?_
  refine q_Si (As := [.int p0]) (rest := []) E hh (c_X8_isWay l G _ _ _ _ h) (va_cwS 1 hts gX8_needWay_X8_isWay rfl rfl rfl (by decide +kernel) ⟨Nat.le_of_ble_eq_true rfl, Nat.le_of_ble_eq_true rfl⟩) rfl hl.1 rfl (Nat.le_of_ble_eq_true rfl) dX8_needWay_1 ⟨Nat.zero_le _, Nat.zero_le _⟩ (fun r1 s1 H locs h hh => ?_)
  refine lv_if_ne (tgt := 18) hx hb dX8_needWay_4 (by decide) (fun c9 => ?_) (fun c9 => ?_)
  · have h := h.1 c9
    exact qx_vret E hh hr hlocks h dX8_needWay_18
  · have h := h.2 c9
    exact q_throwW_2 (ik := 121) (is := 275) (text := "no such way") E hh hst hlocks hout (List.mem_cons_of_mem _ (List.mem_append_left _ (List.mem_of_getElem? (i := 0) rfl))) (List.mem_cons_of_mem _ (List.mem_append_left _ (List.mem_of_getElem? (i := 1) rfl))) (E.2.2.2.1.1.2.2.1 ("IceRegatta", 275, "no such way", 70) (List.mem_of_getElem? (i := 24) rfl)) (fun _ h9 => (List.mem_cons_of_mem _ (List.mem_append_right _ h9))) hl.1 dX8_needWay_7 dX8_needWay_10 dX8_needWay_11 dX8_needWay_14 dX8_needWay_17 (Nat.le_of_ble_eq_true rfl) (Nat.le_of_ble_eq_true rfl) (Nat.le_of_ble_eq_true rfl) (Nat.le_of_ble_eq_true rfl) h
def f_X8_wind (σ : St) (p1 : Int32) (Q : Int32 → St → Prop) (X : Nat → St → Prop) : Prop :=
  f_X8_needWay σ p1 (fun s1 => Q (gi s1 0) (si s1 0 p1)) X
set_option maxHeartbeats 4000000 in
set_option maxRecDepth 100000 in
theorem c_X8_wind (l : Launch) (G : GG) (σ : St) (sz : Nat) (p1 : Int32) (Q : Int32 → St → Prop) (X : Nat → St → Prop) (hst : l.stackTraces = false) (h : f_X8_wind σ p1 Q X) : CXi l yX8_wind wsX8_wind ({ frames := 7, cells := 1, slots := 6, locals := 110 }) [.ref (G.2.1 0), .int p1] G σ sz Q X := by
  refine vx_ofW (cc := cX8_wind) (maxL := 3) (ret := (some .int)) (by decide) rfl ?_
  intro p e s m args below meth c s₁ B hml hout hv
  obtain ⟨rfl, hpre⟩ := hv
  have hr := B.returns
  have hlocks := B.notSynchronized
  obtain ⟨hsz, -⟩ := id hpre
  subst hsz
  obtain ⟨E, hh⟩ := EV.ofPre (⟨B.exec, B.bytes, hml, findClass_of_methodNamed B.named, atoms_spec (ws := wsX8_wind) B.pre⟩ : CallFix p m c cX8_wind 3 s _ wsX8_wind RX8) hpre
  have hx := E.1.1
  have hb := E.1.2.1
  have hown := E.1.2.2.2.1
  have hts := E.1.2.2.2.2
  have h_inX8 : ∀ w ∈ wsX80, w ∈ wsX8_wind := (fun _ h9 => (List.mem_cons_of_mem _ (List.mem_append_left _ (List.mem_append_right _ h9))))
  have hl := lv_entry ([.ref (G.2.1 0), .int p1]) (n := 3) (Nat.le_of_ble_eq_true rfl)
  rw [lg_entry_eq]
  generalize (lg_sl ([.ref (G.2.1 0), .int p1]) ++ List.replicate (3 - (lg_sl ([.ref (G.2.1 0), .int p1])).length) Slot.unset).toArray = ls at hl ⊢
  have hl : lv_has ls 3 [(0, .ref (G.2.1 0)), (1, .int p1)] := hl
  unfold f_X8_wind at h
  refine lv_iload_n hx hb dX8_wind_0 rfl (lv_at hl 1 rfl) ?_
  refine q_Sxv (As := [.int p1]) (rest := []) E hh (c_X8_needWay l G _ _ _ _ _ hst h) (va_cwS 1 hts gX8_wind_X8_needWay rfl rfl rfl (by decide +kernel) ⟨Nat.le_of_ble_eq_true rfl, Nat.le_of_ble_eq_true rfl⟩) rfl hl.1 rfl (Nat.le_of_ble_eq_true rfl) dX8_wind_1 ⟨Nat.le_of_ble_eq_true rfl, Nat.le_of_ble_eq_true rfl⟩ hlocks hout (fun s1 H locs h hh => ?_)
  refine lv_aload_n hx hb dX8_wind_4 rfl (lv_at hl 0 rfl) ?_
  refine q_get (T := TX8) (v := .int (gi s1 0)) E hh h_inX8 0 (WW_at_0 G s1) rfl 8 (by decide) (List.mem_cons_of_mem _ (List.mem_append_left _ (List.mem_append_left _ (List.mem_of_getElem? (i := 0) rfl)))) rfl rfl dX8_wind_5 ?_
  refine lv_istore_n (lv' := [(2, .int (gi s1 0)), (0, .ref (G.2.1 0)), (1, .int p1)]) hx hb dX8_wind_8 rfl hl (by decide) rfl (fun ls hl => ?_)
  refine lv_aload_n hx hb dX8_wind_9 rfl (lv_at hl 1 rfl) ?_
  refine lv_iload_n hx hb dX8_wind_10 rfl (lv_at hl 2 rfl) ?_
  refine q_put (T := TX8) E hh h_inX8 tyX8 tyX8_ok nmX8 0 (WW_at_0 G s1) rfl 8 (by decide) (List.mem_cons_of_mem _ (List.mem_append_left _ (List.mem_append_left _ (List.mem_of_getElem? (i := 0) rfl)))) rfl rfl (by decide +kernel) (Nat.le_of_ble_eq_true rfl) dX8_wind_11 (WW_si_0 G s1 p1) (fun H locs hh => ?_)
  refine lv_iload_n hx hb dX8_wind_14 rfl (lv_at hl 0 rfl) ?_
  refine qx_iret E hh hr hlocks h dX8_wind_15
def f_X8_course (σ : St)  (Q : Int32 → St → Prop) : Prop :=
  f_X1_takeLongest σ (gi σ 0) (gi σ 9) (fun r19 s19 => Q r19 s19)
set_option maxHeartbeats 4000000 in
set_option maxRecDepth 100000 in
theorem c_X8_course (l : Launch) (G : GG) (σ : St) (sz : Nat)  (Q : Int32 → St → Prop) (h : f_X8_course σ  Q) : CTi l yX8_course wsX8_course ({ frames := 5, cells := 0, slots := 0, locals := 116 }) [.ref (G.2.1 0)] G σ sz Q := by
  refine Met.ofW (cc := cX8_course) (maxL := 1) (ret := (some .int)) (by decide) rfl ?_
  intro p e s m args below meth c s₁ B hml hv
  obtain ⟨rfl, hpre⟩ := hv
  have hr := B.returns
  have hlocks := B.notSynchronized
  obtain ⟨hsz, -⟩ := id hpre
  subst hsz
  obtain ⟨E, hh⟩ := EV.ofPre (⟨B.exec, B.bytes, hml, findClass_of_methodNamed B.named, atoms_spec (ws := wsX8_course) B.pre⟩ : CallFix p m c cX8_course 1 s _ wsX8_course RX8) hpre
  have hx := E.1.1
  have hb := E.1.2.1
  have hown := E.1.2.2.2.1
  have hts := E.1.2.2.2.2
  have h_inX6 : ∀ w ∈ wsX60, w ∈ wsX8_course := (fun _ h9 => (List.mem_cons_of_mem _ (List.mem_append_left _ (List.mem_append_left _ (List.mem_append_right _ h9)))))
  have h_inX8 : ∀ w ∈ wsX80, w ∈ wsX8_course := (fun _ h9 => (List.mem_cons_of_mem _ (List.mem_append_left _ (List.mem_append_left _ (List.mem_append_left _ (List.mem_append_right _ h9))))))
  have hl := lv_entry ([.ref (G.2.1 0)]) (n := 1) (Nat.le_of_ble_eq_true rfl)
  rw [lg_entry_eq]
  generalize (lg_sl ([.ref (G.2.1 0)]) ++ List.replicate (1 - (lg_sl ([.ref (G.2.1 0)])).length) Slot.unset).toArray = ls at hl ⊢
  have hl : lv_has ls 1 [(0, .ref (G.2.1 0))] := hl
  unfold f_X8_course at h
  refine lv_aload_n hx hb dX8_course_0 rfl (lv_at hl 0 rfl) ?_
  refine q_get (T := TX8) (v := .ref (G.2.1 2)) E hh h_inX8 0 (WW_at_0 G σ) rfl 1 (by decide) (List.mem_cons_of_mem _ (List.mem_append_left _ (List.mem_append_left _ (List.mem_append_left _ (List.mem_append_left _ (List.mem_append_left _ (List.mem_of_getElem? (i := 0) rfl))))))) rfl rfl dX8_course_1 ?_
  refine lv_aload_n hx hb dX8_course_4 rfl (lv_at hl 0 rfl) ?_
  refine q_get (T := TX8) (v := .ref (G.2.1 1)) E hh h_inX8 0 (WW_at_0 G σ) rfl 0 (by decide) (List.mem_cons_of_mem _ (List.mem_append_left _ (List.mem_append_left _ (List.mem_append_left _ (List.mem_append_left _ (List.mem_append_left _ (List.mem_of_getElem? (i := 1) rfl))))))) rfl rfl dX8_course_5 ?_
  refine lv_aload_n hx hb dX8_course_8 rfl (lv_at hl 0 rfl) ?_
  refine q_get (T := TX8) (v := .int (gi σ 0)) E hh h_inX8 0 (WW_at_0 G σ) rfl 8 (by decide) (List.mem_cons_of_mem _ (List.mem_append_left _ (List.mem_append_left _ (List.mem_append_left _ (List.mem_append_left _ (List.mem_append_left _ (List.mem_of_getElem? (i := 2) rfl))))))) rfl rfl dX8_course_9 ?_
  refine lv_aload_n hx hb dX8_course_12 rfl (lv_at hl 0 rfl) ?_
  refine q_get (T := TX8) (v := .ref (G.2.1 4)) E hh h_inX8 0 (WW_at_0 G σ) rfl 3 (by decide) (List.mem_cons_of_mem _ (List.mem_append_left _ (List.mem_append_left _ (List.mem_append_left _ (List.mem_append_left _ (List.mem_append_left _ (List.mem_of_getElem? (i := 3) rfl))))))) rfl rfl dX8_course_13 ?_
  refine q_getN (T := TX6) (host := "IceRegatta") (v := .int (gi σ 9)) E hh h_inX6 4 (WW_at_4 G σ) rfl 1 (by decide) (List.mem_of_getElem? (i := 4) rfl) rfl rfl dX8_course_16 ?_
  refine q_Vi (As := [.ref (G.2.1 1), .int (gi σ 0), .int (gi σ 9)]) (rest := []) E hh (c_X1_takeLongest l G _ _ _ _ _ h) (cwV 3 hts gX8_course_X1_takeLongest rfl rfl rfl (by decide +kernel) ⟨Nat.le_of_ble_eq_true rfl, Nat.le_of_ble_eq_true rfl⟩) (va_recv (ci := 1) E.2.1 hh.1 rfl (WW_at_2 G σ)) rfl hl.1 rfl (Nat.le_of_ble_eq_true rfl) dX8_course_19 ⟨Nat.zero_le _, Nat.zero_le _⟩ (fun r19 s19 H locs h hh => ?_)
  exact q_iret E hh hr hlocks h dX8_course_22
def f_X8_move (σ : St) (p1 : Int32) (Q : Int32 → St → Prop) (X : Nat → St → Prop) : Prop :=
  ((p1 < (1 : Int32) → X 2 σ) ∧ (¬ p1 < (1 : Int32) → ((p1 < (12 : Int32) → f_X1_takeNearest σ (gi σ 0) (gi σ 9) p1 (fun r41 s41 => Q r41 s41)) ∧ (¬ p1 < (12 : Int32) → X 2 σ))))
set_option maxHeartbeats 4000000 in
set_option maxRecDepth 100000 in
theorem c_X8_move (l : Launch) (G : GG) (σ : St) (sz : Nat) (p1 : Int32) (Q : Int32 → St → Prop) (X : Nat → St → Prop) (hst : l.stackTraces = false) (h : f_X8_move σ p1 Q X) : CXi l yX8_move wsX8_move ({ frames := 6, cells := 1, slots := 6, locals := 120 }) [.ref (G.2.1 0), .int p1] G σ sz Q X := by
  refine vx_ofW (cc := cX8_move) (maxL := 2) (ret := (some .int)) (by decide) rfl ?_
  intro p e s m args below meth c s₁ B hml hout hv
  obtain ⟨rfl, hpre⟩ := hv
  have hr := B.returns
  have hlocks := B.notSynchronized
  obtain ⟨hsz, -⟩ := id hpre
  subst hsz
  obtain ⟨E, hh⟩ := EV.ofPre (⟨B.exec, B.bytes, hml, findClass_of_methodNamed B.named, atoms_spec (ws := wsX8_move) B.pre⟩ : CallFix p m c cX8_move 2 s _ wsX8_move RX8) hpre
  have hx := E.1.1
  have hb := E.1.2.1
  have hown := E.1.2.2.2.1
  have hts := E.1.2.2.2.2
  have h_inX6 : ∀ w ∈ wsX60, w ∈ wsX8_move := (fun _ h9 => (List.mem_cons_of_mem _ (List.mem_append_left _ (List.mem_append_left _ (List.mem_append_left _ (List.mem_append_right _ h9))))))
  have h_inX8 : ∀ w ∈ wsX80, w ∈ wsX8_move := (fun _ h9 => (List.mem_cons_of_mem _ (List.mem_append_left _ (List.mem_append_left _ (List.mem_append_left _ (List.mem_append_left _ (List.mem_append_right _ h9)))))))
  have hl := lv_entry ([.ref (G.2.1 0), .int p1]) (n := 2) (Nat.le_of_ble_eq_true rfl)
  rw [lg_entry_eq]
  generalize (lg_sl ([.ref (G.2.1 0), .int p1]) ++ List.replicate (2 - (lg_sl ([.ref (G.2.1 0), .int p1])).length) Slot.unset).toArray = ls at hl ⊢
  have hl : lv_has ls 2 [(0, .ref (G.2.1 0)), (1, .int p1)] := hl
  unfold f_X8_move at h
  refine lv_iload_n hx hb dX8_move_0 rfl (lv_at hl 1 rfl) ?_
  refine lv_iconst (v := (1 : Int32)) hx hb dX8_move_1 (by decide) ?_
  refine lv_icmp_lt (tgt := 11) hx hb dX8_move_2 (by decide) (fun c9 => ?_) (fun c9 => ?_)
  · have h := h.1 c9
    exact q_throw_2 (ik := 121) (is := 136) (text := "the least length is not 1 to 11") E hh hst hlocks hout (List.mem_cons_of_mem _ (List.mem_append_left _ (List.mem_append_left _ (List.mem_append_left _ (List.mem_append_left _ (List.mem_append_left _ (List.mem_append_left _ (List.mem_of_getElem? (i := 0) rfl)))))))) (List.mem_cons_of_mem _ (List.mem_append_left _ (List.mem_append_left _ (List.mem_append_left _ (List.mem_append_left _ (List.mem_append_left _ (List.mem_append_left _ (List.mem_of_getElem? (i := 1) rfl)))))))) (E.2.2.2.1.1.2.2.1 ("IceRegatta", 136, "the least length is not 1 to 11", 62) (List.mem_of_getElem? (i := 16) rfl)) (fun _ h9 => (List.mem_cons_of_mem _ (List.mem_append_right _ h9))) hl.1 dX8_move_11 dX8_move_14 dX8_move_15 dX8_move_17 dX8_move_20 (Nat.le_of_ble_eq_true rfl) (Nat.le_of_ble_eq_true rfl) (Nat.le_of_ble_eq_true rfl) (Nat.le_of_ble_eq_true rfl) h
  · have h := h.2 c9
    refine lv_iload_n hx hb dX8_move_5 rfl (lv_at hl 1 rfl) ?_
    refine lv_bipush (v := (12 : Int32)) hx hb dX8_move_6 (by decide) ?_
    refine lv_icmp_lt (tgt := 21) hx hb dX8_move_8 (by decide) (fun c9 => ?_) (fun c9 => ?_)
    · have h := h.1 c9
      refine lv_aload_n hx hb dX8_move_21 rfl (lv_at hl 0 rfl) ?_
      refine q_get (T := TX8) (v := .ref (G.2.1 2)) E hh h_inX8 0 (WW_at_0 G σ) rfl 1 (by decide) (List.mem_cons_of_mem _ (List.mem_append_left _ (List.mem_append_left _ (List.mem_append_left _ (List.mem_append_left _ (List.mem_append_left _ (List.mem_append_left _ (List.mem_of_getElem? (i := 2) rfl)))))))) rfl rfl dX8_move_22 ?_
      refine lv_aload_n hx hb dX8_move_25 rfl (lv_at hl 0 rfl) ?_
      refine q_get (T := TX8) (v := .ref (G.2.1 1)) E hh h_inX8 0 (WW_at_0 G σ) rfl 0 (by decide) (List.mem_cons_of_mem _ (List.mem_append_left _ (List.mem_append_left _ (List.mem_append_left _ (List.mem_append_left _ (List.mem_append_left _ (List.mem_append_left _ (List.mem_of_getElem? (i := 3) rfl)))))))) rfl rfl dX8_move_26 ?_
      refine lv_aload_n hx hb dX8_move_29 rfl (lv_at hl 0 rfl) ?_
      refine q_get (T := TX8) (v := .int (gi σ 0)) E hh h_inX8 0 (WW_at_0 G σ) rfl 8 (by decide) (List.mem_cons_of_mem _ (List.mem_append_left _ (List.mem_append_left _ (List.mem_append_left _ (List.mem_append_left _ (List.mem_append_left _ (List.mem_append_left _ (List.mem_of_getElem? (i := 4) rfl)))))))) rfl rfl dX8_move_30 ?_
      refine lv_aload_n hx hb dX8_move_33 rfl (lv_at hl 0 rfl) ?_
      refine q_get (T := TX8) (v := .ref (G.2.1 4)) E hh h_inX8 0 (WW_at_0 G σ) rfl 3 (by decide) (List.mem_cons_of_mem _ (List.mem_append_left _ (List.mem_append_left _ (List.mem_append_left _ (List.mem_append_left _ (List.mem_append_left _ (List.mem_append_left _ (List.mem_of_getElem? (i := 5) rfl)))))))) rfl rfl dX8_move_34 ?_
      refine q_getN (T := TX6) (host := "IceRegatta") (v := .int (gi σ 9)) E hh h_inX6 4 (WW_at_4 G σ) rfl 1 (by decide) (List.mem_of_getElem? (i := 4) rfl) rfl rfl dX8_move_37 ?_
      refine lv_iload_n hx hb dX8_move_40 rfl (lv_at hl 1 rfl) ?_
      refine q_Vi (As := [.ref (G.2.1 1), .int (gi σ 0), .int (gi σ 9), .int p1]) (rest := []) E hh (c_X1_takeNearest l G _ _ _ _ _ _ h) (cwV 4 hts gX8_move_X1_takeNearest rfl rfl rfl (by decide +kernel) ⟨Nat.le_of_ble_eq_true rfl, Nat.le_of_ble_eq_true rfl⟩) (va_recv (ci := 1) E.2.1 hh.1 rfl (WW_at_2 G σ)) rfl hl.1 rfl (Nat.le_of_ble_eq_true rfl) dX8_move_41 ⟨Nat.zero_le _, Nat.zero_le _⟩ (fun r41 s41 H locs h hh => ?_)
      refine qx_iret E hh hr hlocks h dX8_move_44
    · have h := h.2 c9
      exact q_throw_2 (ik := 121) (is := 136) (text := "the least length is not 1 to 11") E hh hst hlocks hout (List.mem_cons_of_mem _ (List.mem_append_left _ (List.mem_append_left _ (List.mem_append_left _ (List.mem_append_left _ (List.mem_append_left _ (List.mem_append_left _ (List.mem_of_getElem? (i := 0) rfl)))))))) (List.mem_cons_of_mem _ (List.mem_append_left _ (List.mem_append_left _ (List.mem_append_left _ (List.mem_append_left _ (List.mem_append_left _ (List.mem_append_left _ (List.mem_of_getElem? (i := 1) rfl)))))))) (E.2.2.2.1.1.2.2.1 ("IceRegatta", 136, "the least length is not 1 to 11", 62) (List.mem_of_getElem? (i := 16) rfl)) (fun _ h9 => (List.mem_cons_of_mem _ (List.mem_append_right _ h9))) hl.1 dX8_move_11 dX8_move_14 dX8_move_15 dX8_move_17 dX8_move_20 (Nat.le_of_ble_eq_true rfl) (Nat.le_of_ble_eq_true rfl) (Nat.le_of_ble_eq_true rfl) (Nat.le_of_ble_eq_true rfl) h
def f_X8_mark (σ : St) (p1 : Int32) (Q : Int32 → St → Prop) (X : Nat → St → Prop) : Prop :=
  ((p1 = 0 → ((¬ p1 = 0 → Q (gi σ 2) σ) ∧ (p1 = 0 → Q (gi σ 1) σ))) ∧ (¬ p1 = 0 → ((p1 = (1 : Int32) → ((¬ p1 = 0 → Q (gi σ 2) σ) ∧ (p1 = 0 → Q (gi σ 1) σ))) ∧ (¬ p1 = (1 : Int32) → X 2 σ))))
set_option maxHeartbeats 4000000 in
set_option maxRecDepth 100000 in
theorem c_X8_mark (l : Launch) (G : GG) (σ : St) (sz : Nat) (p1 : Int32) (Q : Int32 → St → Prop) (X : Nat → St → Prop) (hst : l.stackTraces = false) (h : f_X8_mark σ p1 Q X) : CXi l yX8_mark wsX8_mark ({ frames := 6, cells := 1, slots := 6, locals := 90 }) [.ref (G.2.1 0), .int p1] G σ sz Q X := by
  refine vx_ofW (cc := cX8_mark) (maxL := 2) (ret := (some .int)) (by decide) rfl ?_
  intro p e s m args below meth c s₁ B hml hout hv
  obtain ⟨rfl, hpre⟩ := hv
  have hr := B.returns
  have hlocks := B.notSynchronized
  obtain ⟨hsz, -⟩ := id hpre
  subst hsz
  obtain ⟨E, hh⟩ := EV.ofPre (⟨B.exec, B.bytes, hml, findClass_of_methodNamed B.named, atoms_spec (ws := wsX8_mark) B.pre⟩ : CallFix p m c cX8_mark 2 s _ wsX8_mark RX8) hpre
  have hx := E.1.1
  have hb := E.1.2.1
  have hown := E.1.2.2.2.1
  have hts := E.1.2.2.2.2
  have h_inX1 : ∀ w ∈ wsX10, w ∈ wsX8_mark := (fun _ h9 => (List.mem_cons_of_mem _ (List.mem_append_left _ (List.mem_append_right _ h9))))
  have h_inX8 : ∀ w ∈ wsX80, w ∈ wsX8_mark := (fun _ h9 => (List.mem_cons_of_mem _ (List.mem_append_left _ (List.mem_append_left _ (List.mem_append_right _ h9)))))
  have hl := lv_entry ([.ref (G.2.1 0), .int p1]) (n := 2) (Nat.le_of_ble_eq_true rfl)
  rw [lg_entry_eq]
  generalize (lg_sl ([.ref (G.2.1 0), .int p1]) ++ List.replicate (2 - (lg_sl ([.ref (G.2.1 0), .int p1])).length) Slot.unset).toArray = ls at hl ⊢
  have hl : lv_has ls 2 [(0, .ref (G.2.1 0)), (1, .int p1)] := hl
  unfold f_X8_mark at h
  refine lv_iload_n hx hb dX8_mark_0 rfl (lv_at hl 1 rfl) ?_
  refine lv_if_eq (tgt := 19) hx hb dX8_mark_1 (by decide) (fun c9 => ?_) (fun c9 => ?_)
  · have h := h.1 c9
    refine lv_iload_n hx hb dX8_mark_19 rfl (lv_at hl 1 rfl) ?_
    refine lv_if_ne (tgt := 33) hx hb dX8_mark_20 (by decide) (fun c9 => ?_) (fun c9 => ?_)
    · have h := h.1 c9
      refine lv_aload_n hx hb dX8_mark_33 rfl (lv_at hl 0 rfl) ?_
      refine q_get (T := TX8) (v := .ref (G.2.1 2)) E hh h_inX8 0 (WW_at_0 G σ) rfl 1 (by decide) (List.mem_cons_of_mem _ (List.mem_append_left _ (List.mem_append_left _ (List.mem_append_left _ (List.mem_of_getElem? (i := 2) rfl))))) rfl rfl dX8_mark_34 ?_
      refine q_getN (T := TX1) (host := "IceRegatta") (v := .int (gi σ 2)) E hh h_inX1 2 (WW_at_2 G σ) rfl 1 (by decide) (List.mem_of_getElem? (i := 1) rfl) rfl rfl dX8_mark_37 ?_
      refine qx_iret E hh hr hlocks h dX8_mark_40
    · have h := h.2 c9
      refine lv_aload_n hx hb dX8_mark_23 rfl (lv_at hl 0 rfl) ?_
      refine q_get (T := TX8) (v := .ref (G.2.1 2)) E hh h_inX8 0 (WW_at_0 G σ) rfl 1 (by decide) (List.mem_cons_of_mem _ (List.mem_append_left _ (List.mem_append_left _ (List.mem_append_left _ (List.mem_of_getElem? (i := 2) rfl))))) rfl rfl dX8_mark_24 ?_
      refine q_getN (T := TX1) (host := "IceRegatta") (v := .int (gi σ 1)) E hh h_inX1 2 (WW_at_2 G σ) rfl 0 (by decide) (List.mem_of_getElem? (i := 0) rfl) rfl rfl dX8_mark_27 ?_
      refine lv_goto (tgt := 40) hx hb dX8_mark_30 (by decide) ?_
      refine qx_iret E hh hr hlocks h dX8_mark_40
  · have h := h.2 c9
    refine lv_iload_n hx hb dX8_mark_4 rfl (lv_at hl 1 rfl) ?_
    refine lv_iconst (v := (1 : Int32)) hx hb dX8_mark_5 (by decide) ?_
    refine lv_icmp_eq (tgt := 19) hx hb dX8_mark_6 (by decide) (fun c9 => ?_) (fun c9 => ?_)
    · have h := h.1 c9
      refine lv_iload_n hx hb dX8_mark_19 rfl (lv_at hl 1 rfl) ?_
      refine lv_if_ne (tgt := 33) hx hb dX8_mark_20 (by decide) (fun c9 => ?_) (fun c9 => ?_)
      · have h := h.1 c9
        refine lv_aload_n hx hb dX8_mark_33 rfl (lv_at hl 0 rfl) ?_
        refine q_get (T := TX8) (v := .ref (G.2.1 2)) E hh h_inX8 0 (WW_at_0 G σ) rfl 1 (by decide) (List.mem_cons_of_mem _ (List.mem_append_left _ (List.mem_append_left _ (List.mem_append_left _ (List.mem_of_getElem? (i := 2) rfl))))) rfl rfl dX8_mark_34 ?_
        refine q_getN (T := TX1) (host := "IceRegatta") (v := .int (gi σ 2)) E hh h_inX1 2 (WW_at_2 G σ) rfl 1 (by decide) (List.mem_of_getElem? (i := 1) rfl) rfl rfl dX8_mark_37 ?_
        refine qx_iret E hh hr hlocks h dX8_mark_40
      · have h := h.2 c9
        refine lv_aload_n hx hb dX8_mark_23 rfl (lv_at hl 0 rfl) ?_
        refine q_get (T := TX8) (v := .ref (G.2.1 2)) E hh h_inX8 0 (WW_at_0 G σ) rfl 1 (by decide) (List.mem_cons_of_mem _ (List.mem_append_left _ (List.mem_append_left _ (List.mem_append_left _ (List.mem_of_getElem? (i := 2) rfl))))) rfl rfl dX8_mark_24 ?_
        refine q_getN (T := TX1) (host := "IceRegatta") (v := .int (gi σ 1)) E hh h_inX1 2 (WW_at_2 G σ) rfl 0 (by decide) (List.mem_of_getElem? (i := 0) rfl) rfl rfl dX8_mark_27 ?_
        refine lv_goto (tgt := 40) hx hb dX8_mark_30 (by decide) ?_
        refine qx_iret E hh hr hlocks h dX8_mark_40
    · have h := h.2 c9
      exact q_throw_2 (ik := 121) (is := 142) (text := "a mark is 0 or 1") E hh hst hlocks hout (List.mem_cons_of_mem _ (List.mem_append_left _ (List.mem_append_left _ (List.mem_append_left _ (List.mem_of_getElem? (i := 0) rfl))))) (List.mem_cons_of_mem _ (List.mem_append_left _ (List.mem_append_left _ (List.mem_append_left _ (List.mem_of_getElem? (i := 1) rfl))))) (E.2.2.2.1.1.2.2.1 ("IceRegatta", 142, "a mark is 0 or 1", 63) (List.mem_of_getElem? (i := 17) rfl)) (fun _ h9 => (List.mem_cons_of_mem _ (List.mem_append_right _ h9))) hl.1 dX8_mark_9 dX8_mark_12 dX8_mark_13 dX8_mark_15 dX8_mark_18 (Nat.le_of_ble_eq_true rfl) (Nat.le_of_ble_eq_true rfl) (Nat.le_of_ble_eq_true rfl) (Nat.le_of_ble_eq_true rfl) h
def f_X8_holds (σ : St)  (Q : Int32 → St → Prop) : Prop :=
  f_X1_isLeg σ (gi σ 0) (gi σ 9) (fun r19 s19 => (zok .boolean r19 ∧ Q r19 s19))
set_option maxHeartbeats 4000000 in
set_option maxRecDepth 100000 in
theorem c_X8_holds (l : Launch) (G : GG) (σ : St) (sz : Nat)  (Q : Int32 → St → Prop) (h : f_X8_holds σ  Q) : CTi l yX8_holds wsX8_holds ({ frames := 5, cells := 0, slots := 0, locals := 114 }) [.ref (G.2.1 0)] G σ sz Q := by
  refine Met.ofW (cc := cX8_holds) (maxL := 1) (ret := (some .boolean)) (by decide) rfl ?_
  intro p e s m args below meth c s₁ B hml hv
  obtain ⟨rfl, hpre⟩ := hv
  have hr := B.returns
  have hlocks := B.notSynchronized
  obtain ⟨hsz, -⟩ := id hpre
  subst hsz
  obtain ⟨E, hh⟩ := EV.ofPre (⟨B.exec, B.bytes, hml, findClass_of_methodNamed B.named, atoms_spec (ws := wsX8_holds) B.pre⟩ : CallFix p m c cX8_holds 1 s _ wsX8_holds RX8) hpre
  have hx := E.1.1
  have hb := E.1.2.1
  have hown := E.1.2.2.2.1
  have hts := E.1.2.2.2.2
  have h_inX6 : ∀ w ∈ wsX60, w ∈ wsX8_holds := (fun _ h9 => (List.mem_cons_of_mem _ (List.mem_append_left _ (List.mem_append_left _ (List.mem_append_right _ h9)))))
  have h_inX8 : ∀ w ∈ wsX80, w ∈ wsX8_holds := (fun _ h9 => (List.mem_cons_of_mem _ (List.mem_append_left _ (List.mem_append_left _ (List.mem_append_left _ (List.mem_append_right _ h9))))))
  have hl := lv_entry ([.ref (G.2.1 0)]) (n := 1) (Nat.le_of_ble_eq_true rfl)
  rw [lg_entry_eq]
  generalize (lg_sl ([.ref (G.2.1 0)]) ++ List.replicate (1 - (lg_sl ([.ref (G.2.1 0)])).length) Slot.unset).toArray = ls at hl ⊢
  have hl : lv_has ls 1 [(0, .ref (G.2.1 0))] := hl
  unfold f_X8_holds at h
  refine lv_aload_n hx hb dX8_holds_0 rfl (lv_at hl 0 rfl) ?_
  refine q_get (T := TX8) (v := .ref (G.2.1 2)) E hh h_inX8 0 (WW_at_0 G σ) rfl 1 (by decide) (List.mem_cons_of_mem _ (List.mem_append_left _ (List.mem_append_left _ (List.mem_append_left _ (List.mem_append_left _ (List.mem_append_left _ (List.mem_of_getElem? (i := 0) rfl))))))) rfl rfl dX8_holds_1 ?_
  refine lv_aload_n hx hb dX8_holds_4 rfl (lv_at hl 0 rfl) ?_
  refine q_get (T := TX8) (v := .ref (G.2.1 1)) E hh h_inX8 0 (WW_at_0 G σ) rfl 0 (by decide) (List.mem_cons_of_mem _ (List.mem_append_left _ (List.mem_append_left _ (List.mem_append_left _ (List.mem_append_left _ (List.mem_append_left _ (List.mem_of_getElem? (i := 1) rfl))))))) rfl rfl dX8_holds_5 ?_
  refine lv_aload_n hx hb dX8_holds_8 rfl (lv_at hl 0 rfl) ?_
  refine q_get (T := TX8) (v := .int (gi σ 0)) E hh h_inX8 0 (WW_at_0 G σ) rfl 8 (by decide) (List.mem_cons_of_mem _ (List.mem_append_left _ (List.mem_append_left _ (List.mem_append_left _ (List.mem_append_left _ (List.mem_append_left _ (List.mem_of_getElem? (i := 2) rfl))))))) rfl rfl dX8_holds_9 ?_
  refine lv_aload_n hx hb dX8_holds_12 rfl (lv_at hl 0 rfl) ?_
  refine q_get (T := TX8) (v := .ref (G.2.1 4)) E hh h_inX8 0 (WW_at_0 G σ) rfl 3 (by decide) (List.mem_cons_of_mem _ (List.mem_append_left _ (List.mem_append_left _ (List.mem_append_left _ (List.mem_append_left _ (List.mem_append_left _ (List.mem_of_getElem? (i := 3) rfl))))))) rfl rfl dX8_holds_13 ?_
  refine q_getN (T := TX6) (host := "IceRegatta") (v := .int (gi σ 9)) E hh h_inX6 4 (WW_at_4 G σ) rfl 1 (by decide) (List.mem_of_getElem? (i := 4) rfl) rfl rfl dX8_holds_16 ?_
  refine q_Vi (As := [.ref (G.2.1 1), .int (gi σ 0), .int (gi σ 9)]) (rest := []) E hh (c_X1_isLeg l G _ _ _ _ _ h) (cwV 3 hts gX8_holds_X1_isLeg rfl rfl rfl (by decide +kernel) ⟨Nat.le_of_ble_eq_true rfl, Nat.le_of_ble_eq_true rfl⟩) (va_recv (ci := 1) E.2.1 hh.1 rfl (WW_at_2 G σ)) rfl hl.1 rfl (Nat.le_of_ble_eq_true rfl) dX8_holds_19 ⟨Nat.zero_le _, Nat.zero_le _⟩ (fun r19 s19 H locs h hh => ?_)
  exact q_zret (ty := .boolean) E hh hr hlocks h.1 h.2 dX8_holds_22
def f_X8_feed (σ : St) (p1 : Int32) (p2 : Int32) (p3 : Int32) (p4 : Int32) (p5 : Int32) (Q : Int32 → St → Prop) : Prop :=
  f_X7_hasRoom σ (fun r4 s4 => ((¬ r4 = 0 → f_X7_addNumber s4 p1 (fun s17 => f_X7_addNumber s17 p2 (fun s25 => f_X7_addNumber s25 p3 (fun s33 => f_X7_addNumber s33 p4 (fun s42 => f_X7_addNumber s42 p5 (fun s51 => Q (gi s51 3) s51)))))) ∧ (r4 = 0 → Q (-1 : Int32) s4)))
set_option maxHeartbeats 4000000 in
set_option maxRecDepth 100000 in
theorem c_X8_feed (l : Launch) (G : GG) (σ : St) (sz : Nat) (p1 : Int32) (p2 : Int32) (p3 : Int32) (p4 : Int32) (p5 : Int32) (Q : Int32 → St → Prop) (h : f_X8_feed σ p1 p2 p3 p4 p5 Q) : CTi l yX8_feed wsX8_feed ({ frames := 1, cells := 0, slots := 0, locals := 22 }) [.ref (G.2.1 0), .int p1, .int p2, .int p3, .int p4, .int p5] G σ sz Q := by
  refine Met.ofW (cc := cX8_feed) (maxL := 6) (ret := (some .int)) (by decide) rfl ?_
  intro p e s m args below meth c s₁ B hml hv
  obtain ⟨rfl, hpre⟩ := hv
  have hr := B.returns
  have hlocks := B.notSynchronized
  obtain ⟨hsz, -⟩ := id hpre
  subst hsz
  obtain ⟨E, hh⟩ := EV.ofPre (⟨B.exec, B.bytes, hml, findClass_of_methodNamed B.named, atoms_spec (ws := wsX8_feed) B.pre⟩ : CallFix p m c cX8_feed 6 s _ wsX8_feed RX8) hpre
  have hx := E.1.1
  have hb := E.1.2.1
  have hown := E.1.2.2.2.1
  have hts := E.1.2.2.2.2
  have h_inX7 : ∀ w ∈ wsX70, w ∈ wsX8_feed := (fun _ h9 => (List.mem_cons_of_mem _ (List.mem_append_right _ h9)))
  have h_inX8 : ∀ w ∈ wsX80, w ∈ wsX8_feed := (fun _ h9 => (List.mem_cons_of_mem _ (List.mem_append_left _ (List.mem_append_right _ h9))))
  have hl := lv_entry ([.ref (G.2.1 0), .int p1, .int p2, .int p3, .int p4, .int p5]) (n := 6) (Nat.le_of_ble_eq_true rfl)
  rw [lg_entry_eq]
  generalize (lg_sl ([.ref (G.2.1 0), .int p1, .int p2, .int p3, .int p4, .int p5]) ++ List.replicate (6 - (lg_sl ([.ref (G.2.1 0), .int p1, .int p2, .int p3, .int p4, .int p5])).length) Slot.unset).toArray = ls at hl ⊢
  have hl : lv_has ls 6 [(0, .ref (G.2.1 0)), (1, .int p1), (2, .int p2), (3, .int p3), (4, .int p4), (5, .int p5)] := hl
  unfold f_X8_feed at h
  refine lv_aload_n hx hb dX8_feed_0 rfl (lv_at hl 0 rfl) ?_
  refine q_get (T := TX8) (v := .ref (G.2.1 3)) E hh h_inX8 0 (WW_at_0 G σ) rfl 2 (by decide) (List.mem_cons_of_mem _ (List.mem_append_left _ (List.mem_append_left _ (List.mem_of_getElem? (i := 0) rfl)))) rfl rfl dX8_feed_1 ?_
  refine q_Vi (As := []) (rest := []) E hh (c_X7_hasRoom l G _ _  _ h) (cwV 0 hts gX8_feed_X7_hasRoom rfl rfl rfl (by decide +kernel) ⟨Nat.le_of_ble_eq_true rfl, Nat.le_of_ble_eq_true rfl⟩) (va_recv (ci := 7) E.2.1 hh.1 rfl (WW_at_3 G σ)) rfl hl.1 rfl (Nat.le_of_ble_eq_true rfl) dX8_feed_4 ⟨Nat.zero_le _, Nat.zero_le _⟩ (fun r4 s4 H locs h hh => ?_)
  refine lv_if_ne (tgt := 12) hx hb dX8_feed_7 (by decide) (fun c9 => ?_) (fun c9 => ?_)
  · have h := h.1 c9
    refine lv_aload_n hx hb dX8_feed_12 rfl (lv_at hl 0 rfl) ?_
    refine q_get (T := TX8) (v := .ref (G.2.1 3)) E hh h_inX8 0 (WW_at_0 G s4) rfl 2 (by decide) (List.mem_cons_of_mem _ (List.mem_append_left _ (List.mem_append_left _ (List.mem_of_getElem? (i := 0) rfl)))) rfl rfl dX8_feed_13 ?_
    refine lv_iload_n hx hb dX8_feed_16 rfl (lv_at hl 1 rfl) ?_
    refine q_Vv (As := [.int p1]) (rest := []) E hh (c_X7_addNumber l G _ _ _ _ h) (cwV 1 hts gX8_feed_X7_addNumber rfl rfl rfl (by decide +kernel) ⟨Nat.le_of_ble_eq_true rfl, Nat.le_of_ble_eq_true rfl⟩) (va_recv (ci := 7) E.2.1 hh.1 rfl (WW_at_3 G s4)) rfl hl.1 rfl (Nat.le_of_ble_eq_true rfl) dX8_feed_17 ⟨Nat.zero_le _, Nat.zero_le _⟩ (fun s17 H locs h hh => ?_)
    refine lv_aload_n hx hb dX8_feed_20 rfl (lv_at hl 0 rfl) ?_
    refine q_get (T := TX8) (v := .ref (G.2.1 3)) E hh h_inX8 0 (WW_at_0 G s17) rfl 2 (by decide) (List.mem_cons_of_mem _ (List.mem_append_left _ (List.mem_append_left _ (List.mem_of_getElem? (i := 0) rfl)))) rfl rfl dX8_feed_21 ?_
    refine lv_iload_n hx hb dX8_feed_24 rfl (lv_at hl 2 rfl) ?_
    refine q_Vv (As := [.int p2]) (rest := []) E hh (c_X7_addNumber l G _ _ _ _ h) (cwV 1 hts gX8_feed_X7_addNumber rfl rfl rfl (by decide +kernel) ⟨Nat.le_of_ble_eq_true rfl, Nat.le_of_ble_eq_true rfl⟩) (va_recv (ci := 7) E.2.1 hh.1 rfl (WW_at_3 G s17)) rfl hl.1 rfl (Nat.le_of_ble_eq_true rfl) dX8_feed_25 ⟨Nat.zero_le _, Nat.zero_le _⟩ (fun s25 H locs h hh => ?_)
    refine lv_aload_n hx hb dX8_feed_28 rfl (lv_at hl 0 rfl) ?_
    refine q_get (T := TX8) (v := .ref (G.2.1 3)) E hh h_inX8 0 (WW_at_0 G s25) rfl 2 (by decide) (List.mem_cons_of_mem _ (List.mem_append_left _ (List.mem_append_left _ (List.mem_of_getElem? (i := 0) rfl)))) rfl rfl dX8_feed_29 ?_
    refine lv_iload_n hx hb dX8_feed_32 rfl (lv_at hl 3 rfl) ?_
    refine q_Vv (As := [.int p3]) (rest := []) E hh (c_X7_addNumber l G _ _ _ _ h) (cwV 1 hts gX8_feed_X7_addNumber rfl rfl rfl (by decide +kernel) ⟨Nat.le_of_ble_eq_true rfl, Nat.le_of_ble_eq_true rfl⟩) (va_recv (ci := 7) E.2.1 hh.1 rfl (WW_at_3 G s25)) rfl hl.1 rfl (Nat.le_of_ble_eq_true rfl) dX8_feed_33 ⟨Nat.zero_le _, Nat.zero_le _⟩ (fun s33 H locs h hh => ?_)
    refine lv_aload_n hx hb dX8_feed_36 rfl (lv_at hl 0 rfl) ?_
    refine q_get (T := TX8) (v := .ref (G.2.1 3)) E hh h_inX8 0 (WW_at_0 G s33) rfl 2 (by decide) (List.mem_cons_of_mem _ (List.mem_append_left _ (List.mem_append_left _ (List.mem_of_getElem? (i := 0) rfl)))) rfl rfl dX8_feed_37 ?_
    refine lv_iload hx hb dX8_feed_40 (lv_at hl 4 rfl) ?_
    refine q_Vv (As := [.int p4]) (rest := []) E hh (c_X7_addNumber l G _ _ _ _ h) (cwV 1 hts gX8_feed_X7_addNumber rfl rfl rfl (by decide +kernel) ⟨Nat.le_of_ble_eq_true rfl, Nat.le_of_ble_eq_true rfl⟩) (va_recv (ci := 7) E.2.1 hh.1 rfl (WW_at_3 G s33)) rfl hl.1 rfl (Nat.le_of_ble_eq_true rfl) dX8_feed_42 ⟨Nat.zero_le _, Nat.zero_le _⟩ (fun s42 H locs h hh => ?_)
    refine lv_aload_n hx hb dX8_feed_45 rfl (lv_at hl 0 rfl) ?_
    refine q_get (T := TX8) (v := .ref (G.2.1 3)) E hh h_inX8 0 (WW_at_0 G s42) rfl 2 (by decide) (List.mem_cons_of_mem _ (List.mem_append_left _ (List.mem_append_left _ (List.mem_of_getElem? (i := 0) rfl)))) rfl rfl dX8_feed_46 ?_
    refine lv_iload hx hb dX8_feed_49 (lv_at hl 5 rfl) ?_
    refine q_Vv (As := [.int p5]) (rest := []) E hh (c_X7_addNumber l G _ _ _ _ h) (cwV 1 hts gX8_feed_X7_addNumber rfl rfl rfl (by decide +kernel) ⟨Nat.le_of_ble_eq_true rfl, Nat.le_of_ble_eq_true rfl⟩) (va_recv (ci := 7) E.2.1 hh.1 rfl (WW_at_3 G s42)) rfl hl.1 rfl (Nat.le_of_ble_eq_true rfl) dX8_feed_51 ⟨Nat.zero_le _, Nat.zero_le _⟩ (fun s51 H locs h hh => ?_)
    refine lv_aload_n hx hb dX8_feed_54 rfl (lv_at hl 0 rfl) ?_
    refine q_get (T := TX8) (v := .ref (G.2.1 3)) E hh h_inX8 0 (WW_at_0 G s51) rfl 2 (by decide) (List.mem_cons_of_mem _ (List.mem_append_left _ (List.mem_append_left _ (List.mem_of_getElem? (i := 0) rfl)))) rfl rfl dX8_feed_55 ?_
    refine q_getN (T := TX7) (host := "IceRegatta") (v := .int (gi s51 3)) E hh h_inX7 3 (WW_at_3 G s51) rfl 1 (by decide) (List.mem_of_getElem? (i := 11) rfl) rfl rfl dX8_feed_58 ?_
    exact q_iret E hh hr hlocks h dX8_feed_61
  · have h := h.2 c9
    refine lv_iconst (v := (-1 : Int32)) hx hb dX8_feed_10 (by decide) ?_
    exact q_iret E hh hr hlocks h dX8_feed_11
def f_X8_rule (σ : St) (p1 : Int32) (Q : Int32 → St → Prop) (X : Nat → St → Prop) : Prop :=
  ((p1 < 0 → X 2 σ) ∧ (¬ p1 < 0 → ((p1 ≤ (gi σ 3) → f_X7_readRule σ p1 (fun r30 s30 => ((r30 = 0 → f_X6_takeOver (si s30 3 (0 : Int32)) (fun s62 => Q (gi s62 8) s62)) ∧ (¬ r30 = 0 → Q (r30 - (10 : Int32)) (si s30 3 (0 : Int32)))))) ∧ (¬ p1 ≤ (gi σ 3) → X 2 σ))))
set_option maxHeartbeats 4000000 in
set_option maxRecDepth 100000 in
theorem c_X8_rule (l : Launch) (G : GG) (σ : St) (sz : Nat) (p1 : Int32) (Q : Int32 → St → Prop) (X : Nat → St → Prop) (hst : l.stackTraces = false) (h : f_X8_rule σ p1 Q X) : CXi l yX8_rule wsX8_rule ({ frames := 9, cells := 1, slots := 6, locals := 198 }) [.ref (G.2.1 0), .int p1] G σ sz Q X := by
  refine vx_ofW (cc := cX8_rule) (maxL := 3) (ret := (some .int)) (by decide) rfl ?_
  intro p e s m args below meth c s₁ B hml hout hv
  obtain ⟨rfl, hpre⟩ := hv
  have hr := B.returns
  have hlocks := B.notSynchronized
  obtain ⟨hsz, -⟩ := id hpre
  subst hsz
  obtain ⟨E, hh⟩ := EV.ofPre (⟨B.exec, B.bytes, hml, findClass_of_methodNamed B.named, atoms_spec (ws := wsX8_rule) B.pre⟩ : CallFix p m c cX8_rule 3 s _ wsX8_rule RX8) hpre
  have hx := E.1.1
  have hb := E.1.2.1
  have hown := E.1.2.2.2.1
  have hts := E.1.2.2.2.2
  have h_inX6 : ∀ w ∈ wsX60, w ∈ wsX8_rule := (fun _ h9 => (List.mem_cons_of_mem _ (List.mem_append_left _ (List.mem_append_right _ h9))))
  have h_inX7 : ∀ w ∈ wsX70, w ∈ wsX8_rule := (fun _ h9 => (List.mem_cons_of_mem _ (List.mem_append_left _ (List.mem_append_left _ (List.mem_append_right _ h9)))))
  have h_inX8 : ∀ w ∈ wsX80, w ∈ wsX8_rule := (fun _ h9 => (List.mem_cons_of_mem _ (List.mem_append_left _ (List.mem_append_left _ (List.mem_append_left _ (List.mem_append_right _ h9))))))
  have hl := lv_entry ([.ref (G.2.1 0), .int p1]) (n := 3) (Nat.le_of_ble_eq_true rfl)
  rw [lg_entry_eq]
  generalize (lg_sl ([.ref (G.2.1 0), .int p1]) ++ List.replicate (3 - (lg_sl ([.ref (G.2.1 0), .int p1])).length) Slot.unset).toArray = ls at hl ⊢
  have hl : lv_has ls 3 [(0, .ref (G.2.1 0)), (1, .int p1)] := hl
  unfold f_X8_rule at h
  refine lv_iload_n hx hb dX8_rule_0 rfl (lv_at hl 1 rfl) ?_
  refine lv_if_lt (tgt := 15) hx hb dX8_rule_1 (by decide) (fun c9 => ?_) (fun c9 => ?_)
  · have h := h.1 c9
    exact q_throw_2 (ik := 121) (is := 164) (text := "the tape has no so many bytes") E hh hst hlocks hout (List.mem_cons_of_mem _ (List.mem_append_left _ (List.mem_append_left _ (List.mem_append_left _ (List.mem_append_left _ (List.mem_append_left _ (List.mem_of_getElem? (i := 0) rfl))))))) (List.mem_cons_of_mem _ (List.mem_append_left _ (List.mem_append_left _ (List.mem_append_left _ (List.mem_append_left _ (List.mem_append_left _ (List.mem_of_getElem? (i := 1) rfl))))))) (E.2.2.2.1.1.2.2.1 ("IceRegatta", 164, "the tape has no so many bytes", 64) (List.mem_of_getElem? (i := 18) rfl)) (fun _ h9 => (List.mem_cons_of_mem _ (List.mem_append_right _ h9))) hl.1 dX8_rule_15 dX8_rule_18 dX8_rule_19 dX8_rule_21 dX8_rule_24 (Nat.le_of_ble_eq_true rfl) (Nat.le_of_ble_eq_true rfl) (Nat.le_of_ble_eq_true rfl) (Nat.le_of_ble_eq_true rfl) h
  · have h := h.2 c9
    refine lv_iload_n hx hb dX8_rule_4 rfl (lv_at hl 1 rfl) ?_
    refine lv_aload_n hx hb dX8_rule_5 rfl (lv_at hl 0 rfl) ?_
    refine q_get (T := TX8) (v := .ref (G.2.1 3)) E hh h_inX8 0 (WW_at_0 G σ) rfl 2 (by decide) (List.mem_cons_of_mem _ (List.mem_append_left _ (List.mem_append_left _ (List.mem_append_left _ (List.mem_append_left _ (List.mem_append_left _ (List.mem_of_getElem? (i := 2) rfl))))))) rfl rfl dX8_rule_6 ?_
    refine q_getN (T := TX7) (host := "IceRegatta") (v := .int (gi σ 3)) E hh h_inX7 3 (WW_at_3 G σ) rfl 1 (by decide) (List.mem_of_getElem? (i := 11) rfl) rfl rfl dX8_rule_9 ?_
    refine lv_icmp_le (tgt := 25) hx hb dX8_rule_12 (by decide) (fun c9 => ?_) (fun c9 => ?_)
    · have h := h.1 c9
      refine lv_aload_n hx hb dX8_rule_25 rfl (lv_at hl 0 rfl) ?_
      refine q_get (T := TX8) (v := .ref (G.2.1 3)) E hh h_inX8 0 (WW_at_0 G σ) rfl 2 (by decide) (List.mem_cons_of_mem _ (List.mem_append_left _ (List.mem_append_left _ (List.mem_append_left _ (List.mem_append_left _ (List.mem_append_left _ (List.mem_of_getElem? (i := 2) rfl))))))) rfl rfl dX8_rule_26 ?_
      refine lv_iload_n hx hb dX8_rule_29 rfl (lv_at hl 1 rfl) ?_
      refine q_Vi (As := [.int p1]) (rest := []) E hh (c_X7_readRule l G _ _ _ _ h) (cwV 1 hts gX8_rule_X7_readRule rfl rfl rfl (by decide +kernel) ⟨Nat.le_of_ble_eq_true rfl, Nat.le_of_ble_eq_true rfl⟩) (va_recv (ci := 7) E.2.1 hh.1 rfl (WW_at_3 G σ)) rfl hl.1 rfl (Nat.le_of_ble_eq_true rfl) dX8_rule_30 ⟨Nat.zero_le _, Nat.zero_le _⟩ (fun r30 s30 H locs h hh => ?_)
      refine lv_istore_n (lv' := [(2, .int r30), (0, .ref (G.2.1 0)), (1, .int p1)]) hx hb dX8_rule_33 rfl hl (by decide) rfl (fun ls hl => ?_)
      refine lv_aload_n hx hb dX8_rule_34 rfl (lv_at hl 1 rfl) ?_
      refine q_get (T := TX8) (v := .ref (G.2.1 3)) E hh h_inX8 0 (WW_at_0 G s30) rfl 2 (by decide) (List.mem_cons_of_mem _ (List.mem_append_left _ (List.mem_append_left _ (List.mem_append_left _ (List.mem_append_left _ (List.mem_append_left _ (List.mem_of_getElem? (i := 2) rfl))))))) rfl rfl dX8_rule_35 ?_
      refine lv_iconst (v := (0 : Int32)) hx hb dX8_rule_38 (by decide) ?_
      refine q_putN (T := TX7) (host := "IceRegatta") E hh h_inX7 tyX7 tyX7_ok nmX7 3 (WW_at_3 G s30) rfl 1 (by decide) (List.mem_of_getElem? (i := 11) rfl) rfl rfl (by decide +kernel) (Nat.le_of_ble_eq_true rfl) dX8_rule_39 (WW_si_3 G s30 (0 : Int32)) (fun H locs hh => ?_)
      refine lv_iload_n hx hb dX8_rule_42 rfl (lv_at hl 0 rfl) ?_
      refine lv_if_eq (tgt := 51) hx hb dX8_rule_43 (by decide) (fun c9 => ?_) (fun c9 => ?_)
      · have h := h.1 c9
        refine lv_aload_n hx hb dX8_rule_51 rfl (lv_at hl 1 rfl) ?_
        refine q_get (T := TX8) (v := .ref (G.2.1 4)) E hh h_inX8 0 (WW_at_0 G (si s30 3 (0 : Int32))) rfl 3 (by decide) (List.mem_cons_of_mem _ (List.mem_append_left _ (List.mem_append_left _ (List.mem_append_left _ (List.mem_append_left _ (List.mem_append_left _ (List.mem_of_getElem? (i := 3) rfl))))))) rfl rfl dX8_rule_52 ?_
        refine lv_aload_n hx hb dX8_rule_55 rfl (lv_at hl 1 rfl) ?_
        refine q_get (T := TX8) (v := .ref (G.2.1 3)) E hh h_inX8 0 (WW_at_0 G (si s30 3 (0 : Int32))) rfl 2 (by decide) (List.mem_cons_of_mem _ (List.mem_append_left _ (List.mem_append_left _ (List.mem_append_left _ (List.mem_append_left _ (List.mem_append_left _ (List.mem_of_getElem? (i := 2) rfl))))))) rfl rfl dX8_rule_56 ?_
        refine q_getN (T := TX7) (host := "IceRegatta") (v := .ref (G.2.1 5)) E hh h_inX7 3 (WW_at_3 G (si s30 3 (0 : Int32))) rfl 2 (by decide) (List.mem_of_getElem? (i := 12) rfl) rfl rfl dX8_rule_59 ?_
        refine q_Vv (As := [.ref (G.2.1 5)]) (rest := []) E hh (c_X6_takeOver l G _ _  _ h) (cwV 1 hts gX8_rule_X6_takeOver rfl rfl rfl (by decide +kernel) ⟨Nat.le_of_ble_eq_true rfl, Nat.le_of_ble_eq_true rfl⟩) (va_recv (ci := 6) E.2.1 hh.1 rfl (WW_at_4 G (si s30 3 (0 : Int32)))) rfl hl.1 rfl (Nat.le_of_ble_eq_true rfl) dX8_rule_62 ⟨Nat.zero_le _, Nat.zero_le _⟩ (fun s62 H locs h hh => ?_)
        refine lv_aload_n hx hb dX8_rule_65 rfl (lv_at hl 1 rfl) ?_
        refine q_get (T := TX8) (v := .ref (G.2.1 4)) E hh h_inX8 0 (WW_at_0 G s62) rfl 3 (by decide) (List.mem_cons_of_mem _ (List.mem_append_left _ (List.mem_append_left _ (List.mem_append_left _ (List.mem_append_left _ (List.mem_append_left _ (List.mem_of_getElem? (i := 3) rfl))))))) rfl rfl dX8_rule_66 ?_
        refine q_getN (T := TX6) (host := "IceRegatta") (v := .int (gi s62 8)) E hh h_inX6 4 (WW_at_4 G s62) rfl 0 (by decide) (List.mem_of_getElem? (i := 3) rfl) rfl rfl dX8_rule_69 ?_
        refine qx_iret E hh hr hlocks h dX8_rule_72
      · have h := h.2 c9
        refine lv_iload_n hx hb dX8_rule_46 rfl (lv_at hl 0 rfl) ?_
        refine lv_bipush (v := (10 : Int32)) hx hb dX8_rule_47 (by decide) ?_
        refine lv_isub hx hb dX8_rule_49 ?_
        refine qx_iret E hh hr hlocks h dX8_rule_50
    · have h := h.2 c9
      exact q_throw_2 (ik := 121) (is := 164) (text := "the tape has no so many bytes") E hh hst hlocks hout (List.mem_cons_of_mem _ (List.mem_append_left _ (List.mem_append_left _ (List.mem_append_left _ (List.mem_append_left _ (List.mem_append_left _ (List.mem_of_getElem? (i := 0) rfl))))))) (List.mem_cons_of_mem _ (List.mem_append_left _ (List.mem_append_left _ (List.mem_append_left _ (List.mem_append_left _ (List.mem_append_left _ (List.mem_of_getElem? (i := 1) rfl))))))) (E.2.2.2.1.1.2.2.1 ("IceRegatta", 164, "the tape has no so many bytes", 64) (List.mem_of_getElem? (i := 18) rfl)) (fun _ h9 => (List.mem_cons_of_mem _ (List.mem_append_right _ h9))) hl.1 dX8_rule_15 dX8_rule_18 dX8_rule_19 dX8_rule_21 dX8_rule_24 (Nat.le_of_ble_eq_true rfl) (Nat.le_of_ble_eq_true rfl) (Nat.le_of_ble_eq_true rfl) (Nat.le_of_ble_eq_true rfl) h
def f_X8_fault (σ : St)  (Q : Int32 → St → Prop) : Prop :=
  Q (gi σ 7) σ
set_option maxHeartbeats 4000000 in
set_option maxRecDepth 100000 in
theorem c_X8_fault (l : Launch) (G : GG) (σ : St) (sz : Nat)  (Q : Int32 → St → Prop) (h : f_X8_fault σ  Q) : CTi l yX8_fault wsX8_fault ({ frames := 0, cells := 0, slots := 0, locals := 0 }) [.ref (G.2.1 0)] G σ sz Q := by
  refine Met.ofW (cc := cX8_fault) (maxL := 1) (ret := (some .int)) (by decide) rfl ?_
  intro p e s m args below meth c s₁ B hml hv
  obtain ⟨rfl, hpre⟩ := hv
  have hr := B.returns
  have hlocks := B.notSynchronized
  obtain ⟨hsz, -⟩ := id hpre
  subst hsz
  obtain ⟨E, hh⟩ := EV.ofPre (⟨B.exec, B.bytes, hml, findClass_of_methodNamed B.named, atoms_spec (ws := wsX8_fault) B.pre⟩ : CallFix p m c cX8_fault 1 s _ wsX8_fault RX8) hpre
  have hx := E.1.1
  have hb := E.1.2.1
  have hown := E.1.2.2.2.1
  have hts := E.1.2.2.2.2
  have h_inX7 : ∀ w ∈ wsX70, w ∈ wsX8_fault := (fun _ h9 => (List.mem_cons_of_mem _ (List.mem_append_right _ h9)))
  have h_inX8 : ∀ w ∈ wsX80, w ∈ wsX8_fault := (fun _ h9 => (List.mem_cons_of_mem _ (List.mem_append_left _ (List.mem_append_right _ h9))))
  have hl := lv_entry ([.ref (G.2.1 0)]) (n := 1) (Nat.le_of_ble_eq_true rfl)
  rw [lg_entry_eq]
  generalize (lg_sl ([.ref (G.2.1 0)]) ++ List.replicate (1 - (lg_sl ([.ref (G.2.1 0)])).length) Slot.unset).toArray = ls at hl ⊢
  have hl : lv_has ls 1 [(0, .ref (G.2.1 0))] := hl
  unfold f_X8_fault at h
  refine lv_aload_n hx hb dX8_fault_0 rfl (lv_at hl 0 rfl) ?_
  refine q_get (T := TX8) (v := .ref (G.2.1 3)) E hh h_inX8 0 (WW_at_0 G σ) rfl 2 (by decide) (List.mem_cons_of_mem _ (List.mem_append_left _ (List.mem_append_left _ (List.mem_of_getElem? (i := 0) rfl)))) rfl rfl dX8_fault_1 ?_
  refine q_getN (T := TX7) (host := "IceRegatta") (v := .int (gi σ 7)) E hh h_inX7 3 (WW_at_3 G σ) rfl 6 (by decide) (List.mem_of_getElem? (i := 13) rfl) rfl rfl dX8_fault_4 ?_
  exact q_iret E hh hr hlocks h dX8_fault_7
def f_X8_boat (σ : St)  (Q : Int32 → St → Prop) (X : Nat → St → Prop) : Prop :=
  (((gi σ 18) < (16 : Int32) → Q ((gi (si σ 18 ((gi σ 18) + (1 : Int32))) 18) - (1 : Int32)) (si σ 18 ((gi σ 18) + (1 : Int32)))) ∧ (¬ (gi σ 18) < (16 : Int32) → X 3 σ))
set_option maxHeartbeats 4000000 in
set_option maxRecDepth 100000 in
theorem c_X8_boat (l : Launch) (G : GG) (σ : St) (sz : Nat)  (Q : Int32 → St → Prop) (X : Nat → St → Prop) (hst : l.stackTraces = false) (h : f_X8_boat σ  Q X) : CXi l yX8_boat wsX8_boat ({ frames := 6, cells := 1, slots := 6, locals := 90 }) [.ref (G.2.1 0)] G σ sz Q X := by
  refine vx_ofW (cc := cX8_boat) (maxL := 1) (ret := (some .int)) (by decide) rfl ?_
  intro p e s m args below meth c s₁ B hml hout hv
  obtain ⟨rfl, hpre⟩ := hv
  have hr := B.returns
  have hlocks := B.notSynchronized
  obtain ⟨hsz, -⟩ := id hpre
  subst hsz
  obtain ⟨E, hh⟩ := EV.ofPre (⟨B.exec, B.bytes, hml, findClass_of_methodNamed B.named, atoms_spec (ws := wsX8_boat) B.pre⟩ : CallFix p m c cX8_boat 1 s _ wsX8_boat RX8) hpre
  have hx := E.1.1
  have hb := E.1.2.1
  have hown := E.1.2.2.2.1
  have hts := E.1.2.2.2.2
  have h_inX0 : ∀ w ∈ wsX00, w ∈ wsX8_boat := (fun _ h9 => (List.mem_cons_of_mem _ (List.mem_append_left _ (List.mem_append_right _ h9))))
  have h_inX8 : ∀ w ∈ wsX80, w ∈ wsX8_boat := (fun _ h9 => (List.mem_cons_of_mem _ (List.mem_append_left _ (List.mem_append_left _ (List.mem_append_right _ h9)))))
  have hl := lv_entry ([.ref (G.2.1 0)]) (n := 1) (Nat.le_of_ble_eq_true rfl)
  rw [lg_entry_eq]
  generalize (lg_sl ([.ref (G.2.1 0)]) ++ List.replicate (1 - (lg_sl ([.ref (G.2.1 0)])).length) Slot.unset).toArray = ls at hl ⊢
  have hl : lv_has ls 1 [(0, .ref (G.2.1 0))] := hl
  unfold f_X8_boat at h
  refine lv_aload_n hx hb dX8_boat_0 rfl (lv_at hl 0 rfl) ?_
  refine q_get (T := TX8) (v := .ref (G.2.1 6)) E hh h_inX8 0 (WW_at_0 G σ) rfl 4 (by decide) (List.mem_cons_of_mem _ (List.mem_append_left _ (List.mem_append_left _ (List.mem_append_left _ (List.mem_of_getElem? (i := 2) rfl))))) rfl rfl dX8_boat_1 ?_
  refine q_getN (T := TX0) (host := "IceRegatta") (v := .int (gi σ 18)) E hh h_inX0 6 (WW_at_6 G σ) rfl 3 (by decide) (List.mem_of_getElem? (i := 14) rfl) rfl rfl dX8_boat_4 ?_
  refine lv_bipush (v := (16 : Int32)) hx hb dX8_boat_7 (by decide) ?_
  refine lv_icmp_lt (tgt := 22) hx hb dX8_boat_9 (by decide) (fun c9 => ?_) (fun c9 => ?_)
  · have h := h.1 c9
    refine lv_aload_n hx hb dX8_boat_22 rfl (lv_at hl 0 rfl) ?_
    refine q_get (T := TX8) (v := .ref (G.2.1 6)) E hh h_inX8 0 (WW_at_0 G σ) rfl 4 (by decide) (List.mem_cons_of_mem _ (List.mem_append_left _ (List.mem_append_left _ (List.mem_append_left _ (List.mem_of_getElem? (i := 2) rfl))))) rfl rfl dX8_boat_23 ?_
    refine lv_dup hx hb dX8_boat_26 rfl ?_
    refine q_getN (T := TX0) (host := "IceRegatta") (v := .int (gi σ 18)) E hh h_inX0 6 (WW_at_6 G σ) rfl 3 (by decide) (List.mem_of_getElem? (i := 14) rfl) rfl rfl dX8_boat_27 ?_
    refine lv_iconst (v := (1 : Int32)) hx hb dX8_boat_30 (by decide) ?_
    refine lv_iadd hx hb dX8_boat_31 ?_
    refine q_putN (T := TX0) (host := "IceRegatta") E hh h_inX0 tyX0 tyX0_ok nmX0 6 (WW_at_6 G σ) rfl 3 (by decide) (List.mem_of_getElem? (i := 14) rfl) rfl rfl (by decide +kernel) (Nat.le_of_ble_eq_true rfl) dX8_boat_32 (WW_si_18 G σ ((gi σ 18) + (1 : Int32))) (fun H locs hh => ?_)
    refine lv_aload_n hx hb dX8_boat_35 rfl (lv_at hl 0 rfl) ?_
    refine q_get (T := TX8) (v := .ref (G.2.1 6)) E hh h_inX8 0 (WW_at_0 G (si σ 18 ((gi σ 18) + (1 : Int32)))) rfl 4 (by decide) (List.mem_cons_of_mem _ (List.mem_append_left _ (List.mem_append_left _ (List.mem_append_left _ (List.mem_of_getElem? (i := 2) rfl))))) rfl rfl dX8_boat_36 ?_
    refine q_getN (T := TX0) (host := "IceRegatta") (v := .int (gi (si σ 18 ((gi σ 18) + (1 : Int32))) 18)) E hh h_inX0 6 (WW_at_6 G (si σ 18 ((gi σ 18) + (1 : Int32)))) rfl 3 (by decide) (List.mem_of_getElem? (i := 14) rfl) rfl rfl dX8_boat_39 ?_
    refine lv_iconst (v := (1 : Int32)) hx hb dX8_boat_42 (by decide) ?_
    refine lv_isub hx hb dX8_boat_43 ?_
    refine qx_iret E hh hr hlocks h dX8_boat_44
  · have h := h.2 c9
    exact q_throw_3 (ik := 183) (is := 185) (text := "there are 16 boats") E hh hst hlocks hout (List.mem_cons_of_mem _ (List.mem_append_left _ (List.mem_append_left _ (List.mem_append_left _ (List.mem_of_getElem? (i := 0) rfl))))) (List.mem_cons_of_mem _ (List.mem_append_left _ (List.mem_append_left _ (List.mem_append_left _ (List.mem_of_getElem? (i := 1) rfl))))) (E.2.2.2.1.1.2.2.1 ("IceRegatta", 185, "there are 16 boats", 65) (List.mem_of_getElem? (i := 19) rfl)) (fun _ h9 => (List.mem_cons_of_mem _ (List.mem_append_right _ h9))) hl.1 dX8_boat_12 dX8_boat_15 dX8_boat_16 dX8_boat_18 dX8_boat_21 (Nat.le_of_ble_eq_true rfl) (Nat.le_of_ble_eq_true rfl) (Nat.le_of_ble_eq_true rfl) (Nat.le_of_ble_eq_true rfl) h
def f_X8_needBoat (σ : St) (p1 : Int32) (Q : St → Prop) (X : Nat → St → Prop) : Prop :=
  ((p1 < 0 → X 1 σ) ∧ (¬ p1 < 0 → ((p1 < (gi σ 18) → Q σ) ∧ (¬ p1 < (gi σ 18) → X 1 σ))))
set_option maxHeartbeats 4000000 in
set_option maxRecDepth 100000 in
theorem c_X8_needBoat (l : Launch) (G : GG) (σ : St) (sz : Nat) (p1 : Int32) (Q : St → Prop) (X : Nat → St → Prop) (hst : l.stackTraces = false) (h : f_X8_needBoat σ p1 Q X) : CXv l yX8_needBoat wsX8_needBoat ({ frames := 6, cells := 1, slots := 6, locals := 90 }) [.ref (G.2.1 0), .int p1] G σ sz Q X := by
  refine vx_ofW (cc := cX8_needBoat) (maxL := 2) (ret := none) (by decide) rfl ?_
  intro p e s m args below meth c s₁ B hml hout hv
  obtain ⟨rfl, hpre⟩ := hv
  have hr := B.returns
  have hlocks := B.notSynchronized
  obtain ⟨hsz, -⟩ := id hpre
  subst hsz
  obtain ⟨E, hh⟩ := EV.ofPre (⟨B.exec, B.bytes, hml, findClass_of_methodNamed B.named, atoms_spec (ws := wsX8_needBoat) B.pre⟩ : CallFix p m c cX8_needBoat 2 s _ wsX8_needBoat RX8) hpre
  have hx := E.1.1
  have hb := E.1.2.1
  have hown := E.1.2.2.2.1
  have hts := E.1.2.2.2.2
  have h_inX0 : ∀ w ∈ wsX00, w ∈ wsX8_needBoat := (fun _ h9 => (List.mem_cons_of_mem _ (List.mem_append_left _ (List.mem_append_right _ h9))))
  have h_inX8 : ∀ w ∈ wsX80, w ∈ wsX8_needBoat := (fun _ h9 => (List.mem_cons_of_mem _ (List.mem_append_left _ (List.mem_append_left _ (List.mem_append_right _ h9)))))
  have hl := lv_entry ([.ref (G.2.1 0), .int p1]) (n := 2) (Nat.le_of_ble_eq_true rfl)
  rw [lg_entry_eq]
  generalize (lg_sl ([.ref (G.2.1 0), .int p1]) ++ List.replicate (2 - (lg_sl ([.ref (G.2.1 0), .int p1])).length) Slot.unset).toArray = ls at hl ⊢
  have hl : lv_has ls 2 [(0, .ref (G.2.1 0)), (1, .int p1)] := hl
  unfold f_X8_needBoat at h
  refine lv_iload_n hx hb dX8_needBoat_0 rfl (lv_at hl 1 rfl) ?_
  refine lv_if_lt (tgt := 15) hx hb dX8_needBoat_1 (by decide) (fun c9 => ?_) (fun c9 => ?_)
  · have h := h.1 c9
    exact q_throwW_1 (ik := 81) (is := 281) (text := "no such boat") E hh hst hlocks hout (List.mem_cons_of_mem _ (List.mem_append_left _ (List.mem_append_left _ (List.mem_append_left _ (List.mem_of_getElem? (i := 0) rfl))))) (List.mem_cons_of_mem _ (List.mem_append_left _ (List.mem_append_left _ (List.mem_append_left _ (List.mem_of_getElem? (i := 1) rfl))))) (E.2.2.2.1.1.2.2.1 ("IceRegatta", 281, "no such boat", 73) (List.mem_of_getElem? (i := 27) rfl)) (fun _ h9 => (List.mem_cons_of_mem _ (List.mem_append_right _ h9))) hl.1 dX8_needBoat_15 dX8_needBoat_18 dX8_needBoat_19 dX8_needBoat_22 dX8_needBoat_25 (Nat.le_of_ble_eq_true rfl) (Nat.le_of_ble_eq_true rfl) (Nat.le_of_ble_eq_true rfl) (Nat.le_of_ble_eq_true rfl) h
  · have h := h.2 c9
    refine lv_iload_n hx hb dX8_needBoat_4 rfl (lv_at hl 1 rfl) ?_
    refine lv_aload_n hx hb dX8_needBoat_5 rfl (lv_at hl 0 rfl) ?_
    refine q_get (T := TX8) (v := .ref (G.2.1 6)) E hh h_inX8 0 (WW_at_0 G σ) rfl 4 (by decide) (List.mem_cons_of_mem _ (List.mem_append_left _ (List.mem_append_left _ (List.mem_append_left _ (List.mem_of_getElem? (i := 2) rfl))))) rfl rfl dX8_needBoat_6 ?_
    refine q_getN (T := TX0) (host := "IceRegatta") (v := .int (gi σ 18)) E hh h_inX0 6 (WW_at_6 G σ) rfl 3 (by decide) (List.mem_of_getElem? (i := 14) rfl) rfl rfl dX8_needBoat_9 ?_
    refine lv_icmp_lt (tgt := 26) hx hb dX8_needBoat_12 (by decide) (fun c9 => ?_) (fun c9 => ?_)
    · have h := h.1 c9
      exact qx_vret E hh hr hlocks h dX8_needBoat_26
    · have h := h.2 c9
      exact q_throwW_1 (ik := 81) (is := 281) (text := "no such boat") E hh hst hlocks hout (List.mem_cons_of_mem _ (List.mem_append_left _ (List.mem_append_left _ (List.mem_append_left _ (List.mem_of_getElem? (i := 0) rfl))))) (List.mem_cons_of_mem _ (List.mem_append_left _ (List.mem_append_left _ (List.mem_append_left _ (List.mem_of_getElem? (i := 1) rfl))))) (E.2.2.2.1.1.2.2.1 ("IceRegatta", 281, "no such boat", 73) (List.mem_of_getElem? (i := 27) rfl)) (fun _ h9 => (List.mem_cons_of_mem _ (List.mem_append_right _ h9))) hl.1 dX8_needBoat_15 dX8_needBoat_18 dX8_needBoat_19 dX8_needBoat_22 dX8_needBoat_25 (Nat.le_of_ble_eq_true rfl) (Nat.le_of_ble_eq_true rfl) (Nat.le_of_ble_eq_true rfl) (Nat.le_of_ble_eq_true rfl) h
def f_X8_needPoint (σ : St) (p0 : Int32) (p1 : Int32) (Q : St → Prop) (X : Nat → St → Prop) : Prop :=
  ((p0 < 0 → X 2 σ) ∧ (¬ p0 < 0 → (((1000 : Int32) < p0 → X 2 σ) ∧ (¬ (1000 : Int32) < p0 → ((p1 < 0 → X 2 σ) ∧ (¬ p1 < 0 → ((p1 ≤ (1000 : Int32) → Q σ) ∧ (¬ p1 ≤ (1000 : Int32) → X 2 σ))))))))
set_option maxHeartbeats 4000000 in
set_option maxRecDepth 100000 in
theorem c_X8_needPoint (l : Launch) (G : GG) (σ : St) (sz : Nat) (p0 : Int32) (p1 : Int32) (Q : St → Prop) (X : Nat → St → Prop) (hst : l.stackTraces = false) (h : f_X8_needPoint σ p0 p1 Q X) : CXv l yX8_needPoint wsX8_needPoint ({ frames := 6, cells := 1, slots := 6, locals := 90 }) [.int p0, .int p1] G σ sz Q X := by
  refine vx_ofW (cc := cX8_needPoint) (maxL := 2) (ret := none) (by decide) rfl ?_
  intro p e s m args below meth c s₁ B hml hout hv
  obtain ⟨rfl, hpre⟩ := hv
  have hr := B.returns
  have hlocks := B.notSynchronized
  obtain ⟨hsz, -⟩ := id hpre
  subst hsz
  obtain ⟨E, hh⟩ := EV.ofPre (⟨B.exec, B.bytes, hml, findClass_of_methodNamed B.named, atoms_spec (ws := wsX8_needPoint) B.pre⟩ : CallFix p m c cX8_needPoint 2 s _ wsX8_needPoint RX8) hpre
  have hx := E.1.1
  have hb := E.1.2.1
  have hown := E.1.2.2.2.1
  have hts := E.1.2.2.2.2
  have hl := lv_entry ([.int p0, .int p1]) (n := 2) (Nat.le_of_ble_eq_true rfl)
  rw [lg_entry_eq]
  generalize (lg_sl ([.int p0, .int p1]) ++ List.replicate (2 - (lg_sl ([.int p0, .int p1])).length) Slot.unset).toArray = ls at hl ⊢
  have hl : lv_has ls 2 [(0, .int p0), (1, .int p1)] := hl
  unfold f_X8_needPoint at h
  refine lv_iload_n hx hb dX8_needPoint_0 rfl (lv_at hl 0 rfl) ?_
  refine lv_if_lt (tgt := 22) hx hb dX8_needPoint_1 (by decide) (fun c9 => ?_) (fun c9 => ?_)
  · have h := h.1 c9
    exact q_throwW_2 (ik := 121) (is := 277) (text := "a point is not 0 to 1,000") E hh hst hlocks hout (List.mem_cons_of_mem _ (List.mem_append_left _ (List.mem_of_getElem? (i := 0) rfl))) (List.mem_cons_of_mem _ (List.mem_append_left _ (List.mem_of_getElem? (i := 1) rfl))) (E.2.2.2.1.1.2.2.1 ("IceRegatta", 277, "a point is not 0 to 1,000", 71) (List.mem_of_getElem? (i := 25) rfl)) (fun _ h9 => (List.mem_cons_of_mem _ (List.mem_append_right _ h9))) hl.1 dX8_needPoint_22 dX8_needPoint_25 dX8_needPoint_26 dX8_needPoint_29 dX8_needPoint_32 (Nat.le_of_ble_eq_true rfl) (Nat.le_of_ble_eq_true rfl) (Nat.le_of_ble_eq_true rfl) (Nat.le_of_ble_eq_true rfl) h
  · have h := h.2 c9
    refine lv_iload_n hx hb dX8_needPoint_4 rfl (lv_at hl 0 rfl) ?_
    refine lv_sipush (v := (1000 : Int32)) hx hb dX8_needPoint_5 (by decide) ?_
    refine lv_icmp_gt (tgt := 22) hx hb dX8_needPoint_8 (by decide) (fun c9 => ?_) (fun c9 => ?_)
    · have h := h.1 c9
      exact q_throwW_2 (ik := 121) (is := 277) (text := "a point is not 0 to 1,000") E hh hst hlocks hout (List.mem_cons_of_mem _ (List.mem_append_left _ (List.mem_of_getElem? (i := 0) rfl))) (List.mem_cons_of_mem _ (List.mem_append_left _ (List.mem_of_getElem? (i := 1) rfl))) (E.2.2.2.1.1.2.2.1 ("IceRegatta", 277, "a point is not 0 to 1,000", 71) (List.mem_of_getElem? (i := 25) rfl)) (fun _ h9 => (List.mem_cons_of_mem _ (List.mem_append_right _ h9))) hl.1 dX8_needPoint_22 dX8_needPoint_25 dX8_needPoint_26 dX8_needPoint_29 dX8_needPoint_32 (Nat.le_of_ble_eq_true rfl) (Nat.le_of_ble_eq_true rfl) (Nat.le_of_ble_eq_true rfl) (Nat.le_of_ble_eq_true rfl) h
    · have h := h.2 c9
      refine lv_iload_n hx hb dX8_needPoint_11 rfl (lv_at hl 1 rfl) ?_
      refine lv_if_lt (tgt := 22) hx hb dX8_needPoint_12 (by decide) (fun c9 => ?_) (fun c9 => ?_)
      · have h := h.1 c9
        exact q_throwW_2 (ik := 121) (is := 277) (text := "a point is not 0 to 1,000") E hh hst hlocks hout (List.mem_cons_of_mem _ (List.mem_append_left _ (List.mem_of_getElem? (i := 0) rfl))) (List.mem_cons_of_mem _ (List.mem_append_left _ (List.mem_of_getElem? (i := 1) rfl))) (E.2.2.2.1.1.2.2.1 ("IceRegatta", 277, "a point is not 0 to 1,000", 71) (List.mem_of_getElem? (i := 25) rfl)) (fun _ h9 => (List.mem_cons_of_mem _ (List.mem_append_right _ h9))) hl.1 dX8_needPoint_22 dX8_needPoint_25 dX8_needPoint_26 dX8_needPoint_29 dX8_needPoint_32 (Nat.le_of_ble_eq_true rfl) (Nat.le_of_ble_eq_true rfl) (Nat.le_of_ble_eq_true rfl) (Nat.le_of_ble_eq_true rfl) h
      · have h := h.2 c9
        refine lv_iload_n hx hb dX8_needPoint_15 rfl (lv_at hl 1 rfl) ?_
        refine lv_sipush (v := (1000 : Int32)) hx hb dX8_needPoint_16 (by decide) ?_
        refine lv_icmp_le (tgt := 33) hx hb dX8_needPoint_19 (by decide) (fun c9 => ?_) (fun c9 => ?_)
        · have h := h.1 c9
          exact qx_vret E hh hr hlocks h dX8_needPoint_33
        · have h := h.2 c9
          exact q_throwW_2 (ik := 121) (is := 277) (text := "a point is not 0 to 1,000") E hh hst hlocks hout (List.mem_cons_of_mem _ (List.mem_append_left _ (List.mem_of_getElem? (i := 0) rfl))) (List.mem_cons_of_mem _ (List.mem_append_left _ (List.mem_of_getElem? (i := 1) rfl))) (E.2.2.2.1.1.2.2.1 ("IceRegatta", 277, "a point is not 0 to 1,000", 71) (List.mem_of_getElem? (i := 25) rfl)) (fun _ h9 => (List.mem_cons_of_mem _ (List.mem_append_right _ h9))) hl.1 dX8_needPoint_22 dX8_needPoint_25 dX8_needPoint_26 dX8_needPoint_29 dX8_needPoint_32 (Nat.le_of_ble_eq_true rfl) (Nat.le_of_ble_eq_true rfl) (Nat.le_of_ble_eq_true rfl) (Nat.le_of_ble_eq_true rfl) h
def f_X8_place (σ : St) (p1 : Int32) (p2 : Int32) (p3 : Int32) (p4 : Int32) (Q : Int32 → St → Prop) (X : Nat → St → Prop) : Prop :=
  f_X8_needBoat σ p1 (fun s2 => f_X8_needPoint s2 p2 p3 (fun s7 => f_X8_needWay s7 p4 (fun s12 => f_X0_put s12 p1 p2 p3 p4 (fun s24 => f_X0_tackOf s24 p1 (gi s24 0) (fun r36 s36 => Q r36 s36))) X) X) X
set_option maxHeartbeats 4000000 in
set_option maxRecDepth 100000 in
theorem c_X8_place (l : Launch) (G : GG) (σ : St) (sz : Nat) (p1 : Int32) (p2 : Int32) (p3 : Int32) (p4 : Int32) (Q : Int32 → St → Prop) (X : Nat → St → Prop) (hst : l.stackTraces = false) (h : f_X8_place σ p1 p2 p3 p4 Q X) : CXi l yX8_place wsX8_place ({ frames := 7, cells := 1, slots := 6, locals := 111 }) [.ref (G.2.1 0), .int p1, .int p2, .int p3, .int p4] G σ sz Q X := by
  refine vx_ofW (cc := cX8_place) (maxL := 5) (ret := (some .int)) (by decide) rfl ?_
  intro p e s m args below meth c s₁ B hml hout hv
  obtain ⟨rfl, hpre⟩ := hv
  have hr := B.returns
  have hlocks := B.notSynchronized
  obtain ⟨hsz, -⟩ := id hpre
  subst hsz
  obtain ⟨E, hh⟩ := EV.ofPre (⟨B.exec, B.bytes, hml, findClass_of_methodNamed B.named, atoms_spec (ws := wsX8_place) B.pre⟩ : CallFix p m c cX8_place 5 s _ wsX8_place RX8) hpre
  have hx := E.1.1
  have hb := E.1.2.1
  have hown := E.1.2.2.2.1
  have hts := E.1.2.2.2.2
  have h_inX8 : ∀ w ∈ wsX80, w ∈ wsX8_place := (fun _ h9 => (List.mem_cons_of_mem _ (List.mem_append_left _ (List.mem_append_left _ (List.mem_append_left _ (List.mem_append_right _ h9))))))
  have hl := lv_entry ([.ref (G.2.1 0), .int p1, .int p2, .int p3, .int p4]) (n := 5) (Nat.le_of_ble_eq_true rfl)
  rw [lg_entry_eq]
  generalize (lg_sl ([.ref (G.2.1 0), .int p1, .int p2, .int p3, .int p4]) ++ List.replicate (5 - (lg_sl ([.ref (G.2.1 0), .int p1, .int p2, .int p3, .int p4])).length) Slot.unset).toArray = ls at hl ⊢
  have hl : lv_has ls 5 [(0, .ref (G.2.1 0)), (1, .int p1), (2, .int p2), (3, .int p3), (4, .int p4)] := hl
  unfold f_X8_place at h
  refine lv_aload_n hx hb dX8_place_0 rfl (lv_at hl 0 rfl) ?_
  refine lv_iload_n hx hb dX8_place_1 rfl (lv_at hl 1 rfl) ?_
  refine q_Vxv (As := [.int p1]) (rest := []) E hh (c_X8_needBoat l G _ _ _ _ _ hst h) (cwV 1 hts gX8_place_X8_needBoat rfl rfl rfl (by decide +kernel) ⟨Nat.le_of_ble_eq_true rfl, Nat.le_of_ble_eq_true rfl⟩) (va_recv (ci := 8) E.2.1 hh.1 rfl (WW_at_0 G σ)) rfl hl.1 rfl (Nat.le_of_ble_eq_true rfl) dX8_place_2 ⟨Nat.le_of_ble_eq_true rfl, Nat.le_of_ble_eq_true rfl⟩ hlocks hout (fun s2 H locs h hh => ?_)
  refine lv_iload_n hx hb dX8_place_5 rfl (lv_at hl 2 rfl) ?_
  refine lv_iload_n hx hb dX8_place_6 rfl (lv_at hl 3 rfl) ?_
  refine q_Sxv (As := [.int p2, .int p3]) (rest := []) E hh (c_X8_needPoint l G _ _ _ _ _ _ hst h) (va_cwS 2 hts gX8_place_X8_needPoint rfl rfl rfl (by decide +kernel) ⟨Nat.le_of_ble_eq_true rfl, Nat.le_of_ble_eq_true rfl⟩) rfl hl.1 rfl (Nat.le_of_ble_eq_true rfl) dX8_place_7 ⟨Nat.le_of_ble_eq_true rfl, Nat.le_of_ble_eq_true rfl⟩ hlocks hout (fun s7 H locs h hh => ?_)
  refine lv_iload hx hb dX8_place_10 (lv_at hl 4 rfl) ?_
  refine q_Sxv (As := [.int p4]) (rest := []) E hh (c_X8_needWay l G _ _ _ _ _ hst h) (va_cwS 1 hts gX8_place_X8_needWay rfl rfl rfl (by decide +kernel) ⟨Nat.le_of_ble_eq_true rfl, Nat.le_of_ble_eq_true rfl⟩) rfl hl.1 rfl (Nat.le_of_ble_eq_true rfl) dX8_place_12 ⟨Nat.le_of_ble_eq_true rfl, Nat.le_of_ble_eq_true rfl⟩ hlocks hout (fun s12 H locs h hh => ?_)
  refine lv_aload_n hx hb dX8_place_15 rfl (lv_at hl 0 rfl) ?_
  refine q_get (T := TX8) (v := .ref (G.2.1 6)) E hh h_inX8 0 (WW_at_0 G s12) rfl 4 (by decide) (List.mem_cons_of_mem _ (List.mem_append_left _ (List.mem_append_left _ (List.mem_append_left _ (List.mem_append_left _ (List.mem_append_left _ (List.mem_of_getElem? (i := 0) rfl))))))) rfl rfl dX8_place_16 ?_
  refine lv_iload_n hx hb dX8_place_19 rfl (lv_at hl 1 rfl) ?_
  refine lv_iload_n hx hb dX8_place_20 rfl (lv_at hl 2 rfl) ?_
  refine lv_iload_n hx hb dX8_place_21 rfl (lv_at hl 3 rfl) ?_
  refine lv_iload hx hb dX8_place_22 (lv_at hl 4 rfl) ?_
  refine q_Vv (As := [.int p1, .int p2, .int p3, .int p4]) (rest := []) E hh (c_X0_put l G _ _ _ _ _ _ _ h) (cwV 4 hts gX8_place_X0_put rfl rfl rfl (by decide +kernel) ⟨Nat.le_of_ble_eq_true rfl, Nat.le_of_ble_eq_true rfl⟩) (va_recv (ci := 0) E.2.1 hh.1 rfl (WW_at_6 G s12)) rfl hl.1 rfl (Nat.le_of_ble_eq_true rfl) dX8_place_24 ⟨Nat.zero_le _, Nat.zero_le _⟩ (fun s24 H locs h hh => ?_)
  refine lv_aload_n hx hb dX8_place_27 rfl (lv_at hl 0 rfl) ?_
  refine q_get (T := TX8) (v := .ref (G.2.1 6)) E hh h_inX8 0 (WW_at_0 G s24) rfl 4 (by decide) (List.mem_cons_of_mem _ (List.mem_append_left _ (List.mem_append_left _ (List.mem_append_left _ (List.mem_append_left _ (List.mem_append_left _ (List.mem_of_getElem? (i := 0) rfl))))))) rfl rfl dX8_place_28 ?_
  refine lv_iload_n hx hb dX8_place_31 rfl (lv_at hl 1 rfl) ?_
  refine lv_aload_n hx hb dX8_place_32 rfl (lv_at hl 0 rfl) ?_
  refine q_get (T := TX8) (v := .int (gi s24 0)) E hh h_inX8 0 (WW_at_0 G s24) rfl 8 (by decide) (List.mem_cons_of_mem _ (List.mem_append_left _ (List.mem_append_left _ (List.mem_append_left _ (List.mem_append_left _ (List.mem_append_left _ (List.mem_of_getElem? (i := 1) rfl))))))) rfl rfl dX8_place_33 ?_
  refine q_Vi (As := [.int p1, .int (gi s24 0)]) (rest := []) E hh (c_X0_tackOf l G _ _ _ _ _ h) (cwV 2 hts gX8_place_X0_tackOf rfl rfl rfl (by decide +kernel) ⟨Nat.le_of_ble_eq_true rfl, Nat.le_of_ble_eq_true rfl⟩) (va_recv (ci := 0) E.2.1 hh.1 rfl (WW_at_6 G s24)) rfl hl.1 rfl (Nat.le_of_ble_eq_true rfl) dX8_place_36 ⟨Nat.zero_le _, Nat.zero_le _⟩ (fun r36 s36 H locs h hh => ?_)
  refine qx_iret E hh hr hlocks h dX8_place_39
def f_X8_clear (σ : St) (p1 : Int32) (p2 : Int32) (Q : Int32 → St → Prop) (X : Nat → St → Prop) : Prop :=
  f_X8_needBoat σ p1 (fun s2 => f_X8_needBoat s2 p2 (fun s7 => f_X0_keepsClear s7 p1 p2 (gi s7 0) (fun r24 s24 => Q r24 s24)) X) X
set_option maxHeartbeats 4000000 in
set_option maxRecDepth 100000 in
theorem c_X8_clear (l : Launch) (G : GG) (σ : St) (sz : Nat) (p1 : Int32) (p2 : Int32) (Q : Int32 → St → Prop) (X : Nat → St → Prop) (hst : l.stackTraces = false) (h : f_X8_clear σ p1 p2 Q X) : CXi l yX8_clear wsX8_clear ({ frames := 7, cells := 1, slots := 6, locals := 161 }) [.ref (G.2.1 0), .int p1, .int p2] G σ sz Q X := by
  refine vx_ofW (cc := cX8_clear) (maxL := 3) (ret := (some .int)) (by decide) rfl ?_
  intro p e s m args below meth c s₁ B hml hout hv
  obtain ⟨rfl, hpre⟩ := hv
  have hr := B.returns
  have hlocks := B.notSynchronized
  obtain ⟨hsz, -⟩ := id hpre
  subst hsz
  obtain ⟨E, hh⟩ := EV.ofPre (⟨B.exec, B.bytes, hml, findClass_of_methodNamed B.named, atoms_spec (ws := wsX8_clear) B.pre⟩ : CallFix p m c cX8_clear 3 s _ wsX8_clear RX8) hpre
  have hx := E.1.1
  have hb := E.1.2.1
  have hown := E.1.2.2.2.1
  have hts := E.1.2.2.2.2
  have h_inX8 : ∀ w ∈ wsX80, w ∈ wsX8_clear := (fun _ h9 => (List.mem_cons_of_mem _ (List.mem_append_left _ (List.mem_append_left _ (List.mem_append_left _ (List.mem_append_right _ h9))))))
  have hl := lv_entry ([.ref (G.2.1 0), .int p1, .int p2]) (n := 3) (Nat.le_of_ble_eq_true rfl)
  rw [lg_entry_eq]
  generalize (lg_sl ([.ref (G.2.1 0), .int p1, .int p2]) ++ List.replicate (3 - (lg_sl ([.ref (G.2.1 0), .int p1, .int p2])).length) Slot.unset).toArray = ls at hl ⊢
  have hl : lv_has ls 3 [(0, .ref (G.2.1 0)), (1, .int p1), (2, .int p2)] := hl
  unfold f_X8_clear at h
  refine lv_aload_n hx hb dX8_clear_0 rfl (lv_at hl 0 rfl) ?_
  refine lv_iload_n hx hb dX8_clear_1 rfl (lv_at hl 1 rfl) ?_
  refine q_Vxv (As := [.int p1]) (rest := []) E hh (c_X8_needBoat l G _ _ _ _ _ hst h) (cwV 1 hts gX8_clear_X8_needBoat rfl rfl rfl (by decide +kernel) ⟨Nat.le_of_ble_eq_true rfl, Nat.le_of_ble_eq_true rfl⟩) (va_recv (ci := 8) E.2.1 hh.1 rfl (WW_at_0 G σ)) rfl hl.1 rfl (Nat.le_of_ble_eq_true rfl) dX8_clear_2 ⟨Nat.le_of_ble_eq_true rfl, Nat.le_of_ble_eq_true rfl⟩ hlocks hout (fun s2 H locs h hh => ?_)
  refine lv_aload_n hx hb dX8_clear_5 rfl (lv_at hl 0 rfl) ?_
  refine lv_iload_n hx hb dX8_clear_6 rfl (lv_at hl 2 rfl) ?_
  refine q_Vxv (As := [.int p2]) (rest := []) E hh (c_X8_needBoat l G _ _ _ _ _ hst h) (cwV 1 hts gX8_clear_X8_needBoat rfl rfl rfl (by decide +kernel) ⟨Nat.le_of_ble_eq_true rfl, Nat.le_of_ble_eq_true rfl⟩) (va_recv (ci := 8) E.2.1 hh.1 rfl (WW_at_0 G s2)) rfl hl.1 rfl (Nat.le_of_ble_eq_true rfl) dX8_clear_7 ⟨Nat.le_of_ble_eq_true rfl, Nat.le_of_ble_eq_true rfl⟩ hlocks hout (fun s7 H locs h hh => ?_)
  refine lv_aload_n hx hb dX8_clear_10 rfl (lv_at hl 0 rfl) ?_
  refine q_get (T := TX8) (v := .ref (G.2.1 6)) E hh h_inX8 0 (WW_at_0 G s7) rfl 4 (by decide) (List.mem_cons_of_mem _ (List.mem_append_left _ (List.mem_append_left _ (List.mem_append_left _ (List.mem_append_left _ (List.mem_append_left _ (List.mem_of_getElem? (i := 0) rfl))))))) rfl rfl dX8_clear_11 ?_
  refine lv_iload_n hx hb dX8_clear_14 rfl (lv_at hl 1 rfl) ?_
  refine lv_iload_n hx hb dX8_clear_15 rfl (lv_at hl 2 rfl) ?_
  refine lv_aload_n hx hb dX8_clear_16 rfl (lv_at hl 0 rfl) ?_
  refine q_get (T := TX8) (v := .ref (G.2.1 4)) E hh h_inX8 0 (WW_at_0 G s7) rfl 3 (by decide) (List.mem_cons_of_mem _ (List.mem_append_left _ (List.mem_append_left _ (List.mem_append_left _ (List.mem_append_left _ (List.mem_append_left _ (List.mem_of_getElem? (i := 1) rfl))))))) rfl rfl dX8_clear_17 ?_
  refine lv_aload_n hx hb dX8_clear_20 rfl (lv_at hl 0 rfl) ?_
  refine q_get (T := TX8) (v := .int (gi s7 0)) E hh h_inX8 0 (WW_at_0 G s7) rfl 8 (by decide) (List.mem_cons_of_mem _ (List.mem_append_left _ (List.mem_append_left _ (List.mem_append_left _ (List.mem_append_left _ (List.mem_append_left _ (List.mem_of_getElem? (i := 2) rfl))))))) rfl rfl dX8_clear_21 ?_
  refine q_Vi (As := [.int p1, .int p2, .ref (G.2.1 4), .int (gi s7 0)]) (rest := []) E hh (c_X0_keepsClear l G _ _ _ _ _ _ h) (cwV 4 hts gX8_clear_X0_keepsClear rfl rfl rfl (by decide +kernel) ⟨Nat.le_of_ble_eq_true rfl, Nat.le_of_ble_eq_true rfl⟩) (va_recv (ci := 0) E.2.1 hh.1 rfl (WW_at_6 G s7)) rfl hl.1 rfl (Nat.le_of_ble_eq_true rfl) dX8_clear_24 ⟨Nat.zero_le _, Nat.zero_le _⟩ (fun r24 s24 H locs h hh => ?_)
  refine qx_iret E hh hr hlocks h dX8_clear_27
def f_X8_finish (σ : St) (p1 : Int32) (Q : Int32 → St → Prop) (X : Nat → St → Prop) : Prop :=
  f_X8_needBoat σ p1 (fun s2 => f_X5_takeFinish s2 p1 (fun r10 s10 => Q r10 s10)) X
set_option maxHeartbeats 4000000 in
set_option maxRecDepth 100000 in
theorem c_X8_finish (l : Launch) (G : GG) (σ : St) (sz : Nat) (p1 : Int32) (Q : Int32 → St → Prop) (X : Nat → St → Prop) (hst : l.stackTraces = false) (h : f_X8_finish σ p1 Q X) : CXi l yX8_finish wsX8_finish ({ frames := 7, cells := 1, slots := 6, locals := 111 }) [.ref (G.2.1 0), .int p1] G σ sz Q X := by
  refine vx_ofW (cc := cX8_finish) (maxL := 2) (ret := (some .int)) (by decide) rfl ?_
  intro p e s m args below meth c s₁ B hml hout hv
  obtain ⟨rfl, hpre⟩ := hv
  have hr := B.returns
  have hlocks := B.notSynchronized
  obtain ⟨hsz, -⟩ := id hpre
  subst hsz
  obtain ⟨E, hh⟩ := EV.ofPre (⟨B.exec, B.bytes, hml, findClass_of_methodNamed B.named, atoms_spec (ws := wsX8_finish) B.pre⟩ : CallFix p m c cX8_finish 2 s _ wsX8_finish RX8) hpre
  have hx := E.1.1
  have hb := E.1.2.1
  have hown := E.1.2.2.2.1
  have hts := E.1.2.2.2.2
  have h_inX8 : ∀ w ∈ wsX80, w ∈ wsX8_finish := (fun _ h9 => (List.mem_cons_of_mem _ (List.mem_append_left _ (List.mem_append_left _ (List.mem_append_left _ (List.mem_append_right _ h9))))))
  have hl := lv_entry ([.ref (G.2.1 0), .int p1]) (n := 2) (Nat.le_of_ble_eq_true rfl)
  rw [lg_entry_eq]
  generalize (lg_sl ([.ref (G.2.1 0), .int p1]) ++ List.replicate (2 - (lg_sl ([.ref (G.2.1 0), .int p1])).length) Slot.unset).toArray = ls at hl ⊢
  have hl : lv_has ls 2 [(0, .ref (G.2.1 0)), (1, .int p1)] := hl
  unfold f_X8_finish at h
  refine lv_aload_n hx hb dX8_finish_0 rfl (lv_at hl 0 rfl) ?_
  refine lv_iload_n hx hb dX8_finish_1 rfl (lv_at hl 1 rfl) ?_
  refine q_Vxv (As := [.int p1]) (rest := []) E hh (c_X8_needBoat l G _ _ _ _ _ hst h) (cwV 1 hts gX8_finish_X8_needBoat rfl rfl rfl (by decide +kernel) ⟨Nat.le_of_ble_eq_true rfl, Nat.le_of_ble_eq_true rfl⟩) (va_recv (ci := 8) E.2.1 hh.1 rfl (WW_at_0 G σ)) rfl hl.1 rfl (Nat.le_of_ble_eq_true rfl) dX8_finish_2 ⟨Nat.le_of_ble_eq_true rfl, Nat.le_of_ble_eq_true rfl⟩ hlocks hout (fun s2 H locs h hh => ?_)
  refine lv_aload_n hx hb dX8_finish_5 rfl (lv_at hl 0 rfl) ?_
  refine q_get (T := TX8) (v := .ref (G.2.1 7)) E hh h_inX8 0 (WW_at_0 G s2) rfl 5 (by decide) (List.mem_cons_of_mem _ (List.mem_append_left _ (List.mem_append_left _ (List.mem_append_left _ (List.mem_append_left _ (List.mem_of_getElem? (i := 0) rfl)))))) rfl rfl dX8_finish_6 ?_
  refine lv_iload_n hx hb dX8_finish_9 rfl (lv_at hl 1 rfl) ?_
  refine q_Vi (As := [.int p1]) (rest := []) E hh (c_X5_takeFinish l G _ _ _ _ h) (cwV 1 hts gX8_finish_X5_takeFinish rfl rfl rfl (by decide +kernel) ⟨Nat.le_of_ble_eq_true rfl, Nat.le_of_ble_eq_true rfl⟩) (va_recv (ci := 5) E.2.1 hh.1 rfl (WW_at_7 G s2)) rfl hl.1 rfl (Nat.le_of_ble_eq_true rfl) dX8_finish_10 ⟨Nat.zero_le _, Nat.zero_le _⟩ (fun r10 s10 H locs h hh => ?_)
  refine qx_iret E hh hr hlocks h dX8_finish_13
def f_X8_end (σ : St)  (Q : Int32 → St → Prop) : Prop :=
  f_X5_endRace σ (gi σ 18) (fun r11 s11 => Q r11 s11)
set_option maxHeartbeats 4000000 in
set_option maxRecDepth 100000 in
theorem c_X8_end (l : Launch) (G : GG) (σ : St) (sz : Nat)  (Q : Int32 → St → Prop) (h : f_X8_end σ  Q) : CTi l yX8_end wsX8_end ({ frames := 1, cells := 0, slots := 0, locals := 22 }) [.ref (G.2.1 0)] G σ sz Q := by
  refine Met.ofW (cc := cX8_end) (maxL := 1) (ret := (some .int)) (by decide) rfl ?_
  intro p e s m args below meth c s₁ B hml hv
  obtain ⟨rfl, hpre⟩ := hv
  have hr := B.returns
  have hlocks := B.notSynchronized
  obtain ⟨hsz, -⟩ := id hpre
  subst hsz
  obtain ⟨E, hh⟩ := EV.ofPre (⟨B.exec, B.bytes, hml, findClass_of_methodNamed B.named, atoms_spec (ws := wsX8_end) B.pre⟩ : CallFix p m c cX8_end 1 s _ wsX8_end RX8) hpre
  have hx := E.1.1
  have hb := E.1.2.1
  have hown := E.1.2.2.2.1
  have hts := E.1.2.2.2.2
  have h_inX0 : ∀ w ∈ wsX00, w ∈ wsX8_end := (fun _ h9 => (List.mem_cons_of_mem _ (List.mem_append_left _ (List.mem_append_right _ h9))))
  have h_inX8 : ∀ w ∈ wsX80, w ∈ wsX8_end := (fun _ h9 => (List.mem_cons_of_mem _ (List.mem_append_left _ (List.mem_append_left _ (List.mem_append_right _ h9)))))
  have hl := lv_entry ([.ref (G.2.1 0)]) (n := 1) (Nat.le_of_ble_eq_true rfl)
  rw [lg_entry_eq]
  generalize (lg_sl ([.ref (G.2.1 0)]) ++ List.replicate (1 - (lg_sl ([.ref (G.2.1 0)])).length) Slot.unset).toArray = ls at hl ⊢
  have hl : lv_has ls 1 [(0, .ref (G.2.1 0))] := hl
  unfold f_X8_end at h
  refine lv_aload_n hx hb dX8_end_0 rfl (lv_at hl 0 rfl) ?_
  refine q_get (T := TX8) (v := .ref (G.2.1 7)) E hh h_inX8 0 (WW_at_0 G σ) rfl 5 (by decide) (List.mem_cons_of_mem _ (List.mem_append_left _ (List.mem_append_left _ (List.mem_append_left _ (List.mem_of_getElem? (i := 0) rfl))))) rfl rfl dX8_end_1 ?_
  refine lv_aload_n hx hb dX8_end_4 rfl (lv_at hl 0 rfl) ?_
  refine q_get (T := TX8) (v := .ref (G.2.1 6)) E hh h_inX8 0 (WW_at_0 G σ) rfl 4 (by decide) (List.mem_cons_of_mem _ (List.mem_append_left _ (List.mem_append_left _ (List.mem_append_left _ (List.mem_of_getElem? (i := 1) rfl))))) rfl rfl dX8_end_5 ?_
  refine q_getN (T := TX0) (host := "IceRegatta") (v := .int (gi σ 18)) E hh h_inX0 6 (WW_at_6 G σ) rfl 3 (by decide) (List.mem_of_getElem? (i := 14) rfl) rfl rfl dX8_end_8 ?_
  refine q_Vi (As := [.int (gi σ 18)]) (rest := []) E hh (c_X5_endRace l G _ _ _ _ h) (cwV 1 hts gX8_end_X5_endRace rfl rfl rfl (by decide +kernel) ⟨Nat.le_of_ble_eq_true rfl, Nat.le_of_ble_eq_true rfl⟩) (va_recv (ci := 5) E.2.1 hh.1 rfl (WW_at_7 G σ)) rfl hl.1 rfl (Nat.le_of_ble_eq_true rfl) dX8_end_11 ⟨Nat.zero_le _, Nat.zero_le _⟩ (fun r11 s11 H locs h hh => ?_)
  exact q_iret E hh hr hlocks h dX8_end_14
def f_X8_points (σ : St) (p1 : Int32) (p2 : Int32) (Q : Int32 → St → Prop) (X : Nat → St → Prop) : Prop :=
  f_X8_needBoat σ p1 (fun s2 => ((p2 < 0 → X 1 s2) ∧ (¬ p2 < 0 → ((p2 < (gi s2 19) → f_X5_pointsOf s2 p1 p2 (fun r36 s36 => Q r36 s36)) ∧ (¬ p2 < (gi s2 19) → X 1 s2))))) X
set_option maxHeartbeats 4000000 in
set_option maxRecDepth 100000 in
theorem c_X8_points (l : Launch) (G : GG) (σ : St) (sz : Nat) (p1 : Int32) (p2 : Int32) (Q : Int32 → St → Prop) (X : Nat → St → Prop) (hst : l.stackTraces = false) (h : f_X8_points σ p1 p2 Q X) : CXi l yX8_points wsX8_points ({ frames := 7, cells := 1, slots := 6, locals := 111 }) [.ref (G.2.1 0), .int p1, .int p2] G σ sz Q X := by
  refine vx_ofW (cc := cX8_points) (maxL := 3) (ret := (some .int)) (by decide) rfl ?_
  intro p e s m args below meth c s₁ B hml hout hv
  obtain ⟨rfl, hpre⟩ := hv
  have hr := B.returns
  have hlocks := B.notSynchronized
  obtain ⟨hsz, -⟩ := id hpre
  subst hsz
  obtain ⟨E, hh⟩ := EV.ofPre (⟨B.exec, B.bytes, hml, findClass_of_methodNamed B.named, atoms_spec (ws := wsX8_points) B.pre⟩ : CallFix p m c cX8_points 3 s _ wsX8_points RX8) hpre
  have hx := E.1.1
  have hb := E.1.2.1
  have hown := E.1.2.2.2.1
  have hts := E.1.2.2.2.2
  have h_inX5 : ∀ w ∈ wsX50, w ∈ wsX8_points := (fun _ h9 => (List.mem_cons_of_mem _ (List.mem_append_left _ (List.mem_append_left _ (List.mem_append_right _ h9)))))
  have h_inX8 : ∀ w ∈ wsX80, w ∈ wsX8_points := (fun _ h9 => (List.mem_cons_of_mem _ (List.mem_append_left _ (List.mem_append_left _ (List.mem_append_left _ (List.mem_append_right _ h9))))))
  have hl := lv_entry ([.ref (G.2.1 0), .int p1, .int p2]) (n := 3) (Nat.le_of_ble_eq_true rfl)
  rw [lg_entry_eq]
  generalize (lg_sl ([.ref (G.2.1 0), .int p1, .int p2]) ++ List.replicate (3 - (lg_sl ([.ref (G.2.1 0), .int p1, .int p2])).length) Slot.unset).toArray = ls at hl ⊢
  have hl : lv_has ls 3 [(0, .ref (G.2.1 0)), (1, .int p1), (2, .int p2)] := hl
  unfold f_X8_points at h
  refine lv_aload_n hx hb dX8_points_0 rfl (lv_at hl 0 rfl) ?_
  refine lv_iload_n hx hb dX8_points_1 rfl (lv_at hl 1 rfl) ?_
  refine q_Vxv (As := [.int p1]) (rest := []) E hh (c_X8_needBoat l G _ _ _ _ _ hst h) (cwV 1 hts gX8_points_X8_needBoat rfl rfl rfl (by decide +kernel) ⟨Nat.le_of_ble_eq_true rfl, Nat.le_of_ble_eq_true rfl⟩) (va_recv (ci := 8) E.2.1 hh.1 rfl (WW_at_0 G σ)) rfl hl.1 rfl (Nat.le_of_ble_eq_true rfl) dX8_points_2 ⟨Nat.le_of_ble_eq_true rfl, Nat.le_of_ble_eq_true rfl⟩ hlocks hout (fun s2 H locs h hh => ?_)
  refine lv_iload_n hx hb dX8_points_5 rfl (lv_at hl 2 rfl) ?_
  refine lv_if_lt (tgt := 20) hx hb dX8_points_6 (by decide) (fun c9 => ?_) (fun c9 => ?_)
  · have h := h.1 c9
    exact q_throw_1 (ik := 81) (is := 214) (text := "no such race") E hh hst hlocks hout (List.mem_cons_of_mem _ (List.mem_append_left _ (List.mem_append_left _ (List.mem_append_left _ (List.mem_append_left _ (List.mem_of_getElem? (i := 0) rfl)))))) (List.mem_cons_of_mem _ (List.mem_append_left _ (List.mem_append_left _ (List.mem_append_left _ (List.mem_append_left _ (List.mem_of_getElem? (i := 1) rfl)))))) (E.2.2.2.1.1.2.2.1 ("IceRegatta", 214, "no such race", 66) (List.mem_of_getElem? (i := 20) rfl)) (fun _ h9 => (List.mem_cons_of_mem _ (List.mem_append_right _ h9))) hl.1 dX8_points_20 dX8_points_23 dX8_points_24 dX8_points_26 dX8_points_29 (Nat.le_of_ble_eq_true rfl) (Nat.le_of_ble_eq_true rfl) (Nat.le_of_ble_eq_true rfl) (Nat.le_of_ble_eq_true rfl) h
  · have h := h.2 c9
    refine lv_iload_n hx hb dX8_points_9 rfl (lv_at hl 2 rfl) ?_
    refine lv_aload_n hx hb dX8_points_10 rfl (lv_at hl 0 rfl) ?_
    refine q_get (T := TX8) (v := .ref (G.2.1 7)) E hh h_inX8 0 (WW_at_0 G s2) rfl 5 (by decide) (List.mem_cons_of_mem _ (List.mem_append_left _ (List.mem_append_left _ (List.mem_append_left _ (List.mem_append_left _ (List.mem_of_getElem? (i := 2) rfl)))))) rfl rfl dX8_points_11 ?_
    refine q_getN (T := TX5) (host := "IceRegatta") (v := .int (gi s2 19)) E hh h_inX5 7 (WW_at_7 G s2) rfl 1 (by decide) (List.mem_of_getElem? (i := 15) rfl) rfl rfl dX8_points_14 ?_
    refine lv_icmp_lt (tgt := 30) hx hb dX8_points_17 (by decide) (fun c9 => ?_) (fun c9 => ?_)
    · have h := h.1 c9
      refine lv_aload_n hx hb dX8_points_30 rfl (lv_at hl 0 rfl) ?_
      refine q_get (T := TX8) (v := .ref (G.2.1 7)) E hh h_inX8 0 (WW_at_0 G s2) rfl 5 (by decide) (List.mem_cons_of_mem _ (List.mem_append_left _ (List.mem_append_left _ (List.mem_append_left _ (List.mem_append_left _ (List.mem_of_getElem? (i := 2) rfl)))))) rfl rfl dX8_points_31 ?_
      refine lv_iload_n hx hb dX8_points_34 rfl (lv_at hl 1 rfl) ?_
      refine lv_iload_n hx hb dX8_points_35 rfl (lv_at hl 2 rfl) ?_
      refine q_Vi (As := [.int p1, .int p2]) (rest := []) E hh (c_X5_pointsOf l G _ _ _ _ _ h) (cwV 2 hts gX8_points_X5_pointsOf rfl rfl rfl (by decide +kernel) ⟨Nat.le_of_ble_eq_true rfl, Nat.le_of_ble_eq_true rfl⟩) (va_recv (ci := 5) E.2.1 hh.1 rfl (WW_at_7 G s2)) rfl hl.1 rfl (Nat.le_of_ble_eq_true rfl) dX8_points_36 ⟨Nat.zero_le _, Nat.zero_le _⟩ (fun r36 s36 H locs h hh => ?_)
      refine qx_iret E hh hr hlocks h dX8_points_39
    · have h := h.2 c9
      exact q_throw_1 (ik := 81) (is := 214) (text := "no such race") E hh hst hlocks hout (List.mem_cons_of_mem _ (List.mem_append_left _ (List.mem_append_left _ (List.mem_append_left _ (List.mem_append_left _ (List.mem_of_getElem? (i := 0) rfl)))))) (List.mem_cons_of_mem _ (List.mem_append_left _ (List.mem_append_left _ (List.mem_append_left _ (List.mem_append_left _ (List.mem_of_getElem? (i := 1) rfl)))))) (E.2.2.2.1.1.2.2.1 ("IceRegatta", 214, "no such race", 66) (List.mem_of_getElem? (i := 20) rfl)) (fun _ h9 => (List.mem_cons_of_mem _ (List.mem_append_right _ h9))) hl.1 dX8_points_20 dX8_points_23 dX8_points_24 dX8_points_26 dX8_points_29 (Nat.le_of_ble_eq_true rfl) (Nat.le_of_ble_eq_true rfl) (Nat.le_of_ble_eq_true rfl) (Nat.le_of_ble_eq_true rfl) h
def f_X8_score (σ : St) (p1 : Int32) (Q : Int32 → St → Prop) (X : Nat → St → Prop) : Prop :=
  f_X8_needBoat σ p1 (fun s2 => f_X5_scoreOf s2 p1 (fun r14 s14 => Q r14 s14)) X
set_option maxHeartbeats 4000000 in
set_option maxRecDepth 100000 in
theorem c_X8_score (l : Launch) (G : GG) (σ : St) (sz : Nat) (p1 : Int32) (Q : Int32 → St → Prop) (X : Nat → St → Prop) (hst : l.stackTraces = false) (h : f_X8_score σ p1 Q X) : CXi l yX8_score wsX8_score ({ frames := 7, cells := 1, slots := 6, locals := 111 }) [.ref (G.2.1 0), .int p1] G σ sz Q X := by
  refine vx_ofW (cc := cX8_score) (maxL := 2) (ret := (some .int)) (by decide) rfl ?_
  intro p e s m args below meth c s₁ B hml hout hv
  obtain ⟨rfl, hpre⟩ := hv
  have hr := B.returns
  have hlocks := B.notSynchronized
  obtain ⟨hsz, -⟩ := id hpre
  subst hsz
  obtain ⟨E, hh⟩ := EV.ofPre (⟨B.exec, B.bytes, hml, findClass_of_methodNamed B.named, atoms_spec (ws := wsX8_score) B.pre⟩ : CallFix p m c cX8_score 2 s _ wsX8_score RX8) hpre
  have hx := E.1.1
  have hb := E.1.2.1
  have hown := E.1.2.2.2.1
  have hts := E.1.2.2.2.2
  have h_inX8 : ∀ w ∈ wsX80, w ∈ wsX8_score := (fun _ h9 => (List.mem_cons_of_mem _ (List.mem_append_left _ (List.mem_append_left _ (List.mem_append_left _ (List.mem_append_left _ (List.mem_append_right _ h9)))))))
  have hl := lv_entry ([.ref (G.2.1 0), .int p1]) (n := 2) (Nat.le_of_ble_eq_true rfl)
  rw [lg_entry_eq]
  generalize (lg_sl ([.ref (G.2.1 0), .int p1]) ++ List.replicate (2 - (lg_sl ([.ref (G.2.1 0), .int p1])).length) Slot.unset).toArray = ls at hl ⊢
  have hl : lv_has ls 2 [(0, .ref (G.2.1 0)), (1, .int p1)] := hl
  unfold f_X8_score at h
  refine lv_aload_n hx hb dX8_score_0 rfl (lv_at hl 0 rfl) ?_
  refine lv_iload_n hx hb dX8_score_1 rfl (lv_at hl 1 rfl) ?_
  refine q_Vxv (As := [.int p1]) (rest := []) E hh (c_X8_needBoat l G _ _ _ _ _ hst h) (cwV 1 hts gX8_score_X8_needBoat rfl rfl rfl (by decide +kernel) ⟨Nat.le_of_ble_eq_true rfl, Nat.le_of_ble_eq_true rfl⟩) (va_recv (ci := 8) E.2.1 hh.1 rfl (WW_at_0 G σ)) rfl hl.1 rfl (Nat.le_of_ble_eq_true rfl) dX8_score_2 ⟨Nat.le_of_ble_eq_true rfl, Nat.le_of_ble_eq_true rfl⟩ hlocks hout (fun s2 H locs h hh => ?_)
  refine lv_aload_n hx hb dX8_score_5 rfl (lv_at hl 0 rfl) ?_
  refine q_get (T := TX8) (v := .ref (G.2.1 7)) E hh h_inX8 0 (WW_at_0 G s2) rfl 5 (by decide) (List.mem_cons_of_mem _ (List.mem_append_left _ (List.mem_append_left _ (List.mem_append_left _ (List.mem_append_left _ (List.mem_append_left _ (List.mem_append_left _ (List.mem_of_getElem? (i := 0) rfl)))))))) rfl rfl dX8_score_6 ?_
  refine lv_iload_n hx hb dX8_score_9 rfl (lv_at hl 1 rfl) ?_
  refine lv_aload_n hx hb dX8_score_10 rfl (lv_at hl 0 rfl) ?_
  refine q_get (T := TX8) (v := .ref (G.2.1 4)) E hh h_inX8 0 (WW_at_0 G s2) rfl 3 (by decide) (List.mem_cons_of_mem _ (List.mem_append_left _ (List.mem_append_left _ (List.mem_append_left _ (List.mem_append_left _ (List.mem_append_left _ (List.mem_append_left _ (List.mem_of_getElem? (i := 1) rfl)))))))) rfl rfl dX8_score_11 ?_
  refine q_Vi (As := [.int p1, .ref (G.2.1 4)]) (rest := []) E hh (c_X5_scoreOf l G _ _ _ _ h) (cwV 2 hts gX8_score_X5_scoreOf rfl rfl rfl (by decide +kernel) ⟨Nat.le_of_ble_eq_true rfl, Nat.le_of_ble_eq_true rfl⟩) (va_recv (ci := 5) E.2.1 hh.1 rfl (WW_at_7 G s2)) rfl hl.1 rfl (Nat.le_of_ble_eq_true rfl) dX8_score_14 ⟨Nat.zero_le _, Nat.zero_le _⟩ (fun r14 s14 H locs h hh => ?_)
  refine qx_iret E hh hr hlocks h dX8_score_17
def f_X8_rank (σ : St) (p1 : Int32) (Q : Int32 → St → Prop) : Prop :=
  ((p1 < 0 → Q (-1 : Int32) σ) ∧ (¬ p1 < 0 → ((p1 < (gi σ 18) → f_X5_rankBoats σ (gi σ 18) (fun s32 => (vp_in p1 16 ∧ Q (ga s32 23 p1.toNatClampNeg) s32))) ∧ (¬ p1 < (gi σ 18) → Q (-1 : Int32) σ))))
set_option maxHeartbeats 4000000 in
set_option maxRecDepth 100000 in
theorem c_X8_rank (l : Launch) (G : GG) (σ : St) (sz : Nat) (p1 : Int32) (Q : Int32 → St → Prop) (h : f_X8_rank σ p1 Q) : CTi l yX8_rank wsX8_rank ({ frames := 4, cells := 0, slots := 0, locals := 98 }) [.ref (G.2.1 0), .int p1] G σ sz Q := by
  refine Met.ofW (cc := cX8_rank) (maxL := 2) (ret := (some .int)) (by decide) rfl ?_
  intro p e s m args below meth c s₁ B hml hv
  obtain ⟨rfl, hpre⟩ := hv
  have hr := B.returns
  have hlocks := B.notSynchronized
  obtain ⟨hsz, -⟩ := id hpre
  subst hsz
  obtain ⟨E, hh⟩ := EV.ofPre (⟨B.exec, B.bytes, hml, findClass_of_methodNamed B.named, atoms_spec (ws := wsX8_rank) B.pre⟩ : CallFix p m c cX8_rank 2 s _ wsX8_rank RX8) hpre
  have hx := E.1.1
  have hb := E.1.2.1
  have hown := E.1.2.2.2.1
  have hts := E.1.2.2.2.2
  have h_inX0 : ∀ w ∈ wsX00, w ∈ wsX8_rank := (fun _ h9 => (List.mem_cons_of_mem _ (List.mem_append_left _ (List.mem_append_left _ (List.mem_append_right _ h9)))))
  have h_inX5 : ∀ w ∈ wsX50, w ∈ wsX8_rank := (fun _ h9 => (List.mem_cons_of_mem _ (List.mem_append_left _ (List.mem_append_right _ h9))))
  have h_inX8 : ∀ w ∈ wsX80, w ∈ wsX8_rank := (fun _ h9 => (List.mem_cons_of_mem _ (List.mem_append_left _ (List.mem_append_left _ (List.mem_append_left _ (List.mem_append_right _ h9))))))
  have hl := lv_entry ([.ref (G.2.1 0), .int p1]) (n := 2) (Nat.le_of_ble_eq_true rfl)
  rw [lg_entry_eq]
  generalize (lg_sl ([.ref (G.2.1 0), .int p1]) ++ List.replicate (2 - (lg_sl ([.ref (G.2.1 0), .int p1])).length) Slot.unset).toArray = ls at hl ⊢
  have hl : lv_has ls 2 [(0, .ref (G.2.1 0)), (1, .int p1)] := hl
  unfold f_X8_rank at h
  refine lv_iload_n hx hb dX8_rank_0 rfl (lv_at hl 1 rfl) ?_
  refine lv_if_lt (tgt := 15) hx hb dX8_rank_1 (by decide) (fun c9 => ?_) (fun c9 => ?_)
  · have h := h.1 c9
    refine lv_iconst (v := (-1 : Int32)) hx hb dX8_rank_15 (by decide) ?_
    exact q_iret E hh hr hlocks h dX8_rank_16
  · have h := h.2 c9
    refine lv_iload_n hx hb dX8_rank_4 rfl (lv_at hl 1 rfl) ?_
    refine lv_aload_n hx hb dX8_rank_5 rfl (lv_at hl 0 rfl) ?_
    refine q_get (T := TX8) (v := .ref (G.2.1 6)) E hh h_inX8 0 (WW_at_0 G σ) rfl 4 (by decide) (List.mem_cons_of_mem _ (List.mem_append_left _ (List.mem_append_left _ (List.mem_append_left _ (List.mem_append_left _ (List.mem_append_left _ (List.mem_of_getElem? (i := 0) rfl))))))) rfl rfl dX8_rank_6 ?_
    refine q_getN (T := TX0) (host := "IceRegatta") (v := .int (gi σ 18)) E hh h_inX0 6 (WW_at_6 G σ) rfl 3 (by decide) (List.mem_of_getElem? (i := 14) rfl) rfl rfl dX8_rank_9 ?_
    refine lv_icmp_lt (tgt := 17) hx hb dX8_rank_12 (by decide) (fun c9 => ?_) (fun c9 => ?_)
    · have h := h.1 c9
      refine lv_aload_n hx hb dX8_rank_17 rfl (lv_at hl 0 rfl) ?_
      refine q_get (T := TX8) (v := .ref (G.2.1 7)) E hh h_inX8 0 (WW_at_0 G σ) rfl 5 (by decide) (List.mem_cons_of_mem _ (List.mem_append_left _ (List.mem_append_left _ (List.mem_append_left _ (List.mem_append_left _ (List.mem_append_left _ (List.mem_of_getElem? (i := 1) rfl))))))) rfl rfl dX8_rank_18 ?_
      refine lv_aload_n hx hb dX8_rank_21 rfl (lv_at hl 0 rfl) ?_
      refine q_get (T := TX8) (v := .ref (G.2.1 6)) E hh h_inX8 0 (WW_at_0 G σ) rfl 4 (by decide) (List.mem_cons_of_mem _ (List.mem_append_left _ (List.mem_append_left _ (List.mem_append_left _ (List.mem_append_left _ (List.mem_append_left _ (List.mem_of_getElem? (i := 0) rfl))))))) rfl rfl dX8_rank_22 ?_
      refine q_getN (T := TX0) (host := "IceRegatta") (v := .int (gi σ 18)) E hh h_inX0 6 (WW_at_6 G σ) rfl 3 (by decide) (List.mem_of_getElem? (i := 14) rfl) rfl rfl dX8_rank_25 ?_
      refine lv_aload_n hx hb dX8_rank_28 rfl (lv_at hl 0 rfl) ?_
      refine q_get (T := TX8) (v := .ref (G.2.1 4)) E hh h_inX8 0 (WW_at_0 G σ) rfl 3 (by decide) (List.mem_cons_of_mem _ (List.mem_append_left _ (List.mem_append_left _ (List.mem_append_left _ (List.mem_append_left _ (List.mem_append_left _ (List.mem_of_getElem? (i := 2) rfl))))))) rfl rfl dX8_rank_29 ?_
      refine q_Vv (As := [.int (gi σ 18), .ref (G.2.1 4)]) (rest := []) E hh (c_X5_rankBoats l G _ _ _ _ h) (cwV 2 hts gX8_rank_X5_rankBoats rfl rfl rfl (by decide +kernel) ⟨Nat.le_of_ble_eq_true rfl, Nat.le_of_ble_eq_true rfl⟩) (va_recv (ci := 5) E.2.1 hh.1 rfl (WW_at_7 G σ)) rfl hl.1 rfl (Nat.le_of_ble_eq_true rfl) dX8_rank_32 ⟨Nat.zero_le _, Nat.zero_le _⟩ (fun s32 H locs h hh => ?_)
      refine lv_aload_n hx hb dX8_rank_35 rfl (lv_at hl 0 rfl) ?_
      refine q_get (T := TX8) (v := .ref (G.2.1 7)) E hh h_inX8 0 (WW_at_0 G s32) rfl 5 (by decide) (List.mem_cons_of_mem _ (List.mem_append_left _ (List.mem_append_left _ (List.mem_append_left _ (List.mem_append_left _ (List.mem_append_left _ (List.mem_of_getElem? (i := 1) rfl))))))) rfl rfl dX8_rank_36 ?_
      refine q_getN (T := TX5) (host := "IceRegatta") (v := .ref (G.2.1 23)) E hh h_inX5 7 (WW_at_7 G s32) rfl 6 (by decide) (List.mem_of_getElem? (i := 17) rfl) rfl rfl dX8_rank_39 ?_
      refine lv_iload_n hx hb dX8_rank_42 rfl (lv_at hl 1 rfl) ?_
      obtain ⟨h0, h⟩ := h
      refine q_iald E hh 23 (WW_at_23 G s32) h0 dX8_rank_43 ?_
      exact q_iret E hh hr hlocks h dX8_rank_44
    · have h := h.2 c9
      refine lv_iconst (v := (-1 : Int32)) hx hb dX8_rank_15 (by decide) ?_
      exact q_iret E hh hr hlocks h dX8_rank_16
def f_X8_needFleetNumber (σ : St) (p0 : Int32) (Q : St → Prop) (X : Nat → St → Prop) : Prop :=
  ((p0 < 0 → X 2 σ) ∧ (¬ p0 < 0 → ((p0 ≤ (16 : Int32) → Q σ) ∧ (¬ p0 ≤ (16 : Int32) → X 2 σ))))
set_option maxHeartbeats 4000000 in
set_option maxRecDepth 100000 in
theorem c_X8_needFleetNumber (l : Launch) (G : GG) (σ : St) (sz : Nat) (p0 : Int32) (Q : St → Prop) (X : Nat → St → Prop) (hst : l.stackTraces = false) (h : f_X8_needFleetNumber σ p0 Q X) : CXv l yX8_needFleetNumber wsX8_needFleetNumber ({ frames := 6, cells := 1, slots := 6, locals := 90 }) [.int p0] G σ sz Q X := by
  refine vx_ofW (cc := cX8_needFleetNumber) (maxL := 1) (ret := none) (by decide) rfl ?_
  intro p e s m args below meth c s₁ B hml hout hv
  obtain ⟨rfl, hpre⟩ := hv
  have hr := B.returns
  have hlocks := B.notSynchronized
  obtain ⟨hsz, -⟩ := id hpre
  subst hsz
  obtain ⟨E, hh⟩ := EV.ofPre (⟨B.exec, B.bytes, hml, findClass_of_methodNamed B.named, atoms_spec (ws := wsX8_needFleetNumber) B.pre⟩ : CallFix p m c cX8_needFleetNumber 1 s _ wsX8_needFleetNumber RX8) hpre
  have hx := E.1.1
  have hb := E.1.2.1
  have hown := E.1.2.2.2.1
  have hts := E.1.2.2.2.2
  have hl := lv_entry ([.int p0]) (n := 1) (Nat.le_of_ble_eq_true rfl)
  rw [lg_entry_eq]
  generalize (lg_sl ([.int p0]) ++ List.replicate (1 - (lg_sl ([.int p0])).length) Slot.unset).toArray = ls at hl ⊢
  have hl : lv_has ls 1 [(0, .int p0)] := hl
  unfold f_X8_needFleetNumber at h
  refine lv_iload_n hx hb dX8_needFleetNumber_0 rfl (lv_at hl 0 rfl) ?_
  refine lv_if_lt (tgt := 10) hx hb dX8_needFleetNumber_1 (by decide) (fun c9 => ?_) (fun c9 => ?_)
  · have h := h.1 c9
    exact q_throwW_2 (ik := 121) (is := 279) (text := "the number is not 0 to 16") E hh hst hlocks hout (List.mem_cons_of_mem _ (List.mem_append_left _ (List.mem_of_getElem? (i := 0) rfl))) (List.mem_cons_of_mem _ (List.mem_append_left _ (List.mem_of_getElem? (i := 1) rfl))) (E.2.2.2.1.1.2.2.1 ("IceRegatta", 279, "the number is not 0 to 16", 72) (List.mem_of_getElem? (i := 26) rfl)) (fun _ h9 => (List.mem_cons_of_mem _ (List.mem_append_right _ h9))) hl.1 dX8_needFleetNumber_10 dX8_needFleetNumber_13 dX8_needFleetNumber_14 dX8_needFleetNumber_17 dX8_needFleetNumber_20 (Nat.le_of_ble_eq_true rfl) (Nat.le_of_ble_eq_true rfl) (Nat.le_of_ble_eq_true rfl) (Nat.le_of_ble_eq_true rfl) h
  · have h := h.2 c9
    refine lv_iload_n hx hb dX8_needFleetNumber_4 rfl (lv_at hl 0 rfl) ?_
    refine lv_bipush (v := (16 : Int32)) hx hb dX8_needFleetNumber_5 (by decide) ?_
    refine lv_icmp_le (tgt := 21) hx hb dX8_needFleetNumber_7 (by decide) (fun c9 => ?_) (fun c9 => ?_)
    · have h := h.1 c9
      exact qx_vret E hh hr hlocks h dX8_needFleetNumber_21
    · have h := h.2 c9
      exact q_throwW_2 (ik := 121) (is := 279) (text := "the number is not 0 to 16") E hh hst hlocks hout (List.mem_cons_of_mem _ (List.mem_append_left _ (List.mem_of_getElem? (i := 0) rfl))) (List.mem_cons_of_mem _ (List.mem_append_left _ (List.mem_of_getElem? (i := 1) rfl))) (E.2.2.2.1.1.2.2.1 ("IceRegatta", 279, "the number is not 0 to 16", 72) (List.mem_of_getElem? (i := 26) rfl)) (fun _ h9 => (List.mem_cons_of_mem _ (List.mem_append_right _ h9))) hl.1 dX8_needFleetNumber_10 dX8_needFleetNumber_13 dX8_needFleetNumber_14 dX8_needFleetNumber_17 dX8_needFleetNumber_20 (Nat.le_of_ble_eq_true rfl) (Nat.le_of_ble_eq_true rfl) (Nat.le_of_ble_eq_true rfl) (Nat.le_of_ble_eq_true rfl) h
def f_X8_part (σ : St) (p1 : Int32) (Q : Int32 → St → Prop) (X : Nat → St → Prop) : Prop :=
  f_X8_needFleetNumber σ p1 (fun s1 => f_X5_rankBoats s1 (gi s1 18) (fun s19 => f_X2_partRanked s19 (gi s19 18) p1 (fun r41 s41 => Q r41 s41))) X
set_option maxHeartbeats 4000000 in
set_option maxRecDepth 100000 in
theorem c_X8_part (l : Launch) (G : GG) (σ : St) (sz : Nat) (p1 : Int32) (Q : Int32 → St → Prop) (X : Nat → St → Prop) (hst : l.stackTraces = false) (h : f_X8_part σ p1 Q X) : CXi l yX8_part wsX8_part ({ frames := 7, cells := 1, slots := 6, locals := 110 }) [.ref (G.2.1 0), .int p1] G σ sz Q X := by
  refine vx_ofW (cc := cX8_part) (maxL := 2) (ret := (some .int)) (by decide) rfl ?_
  intro p e s m args below meth c s₁ B hml hout hv
  obtain ⟨rfl, hpre⟩ := hv
  have hr := B.returns
  have hlocks := B.notSynchronized
  obtain ⟨hsz, -⟩ := id hpre
  subst hsz
  obtain ⟨E, hh⟩ := EV.ofPre (⟨B.exec, B.bytes, hml, findClass_of_methodNamed B.named, atoms_spec (ws := wsX8_part) B.pre⟩ : CallFix p m c cX8_part 2 s _ wsX8_part RX8) hpre
  have hx := E.1.1
  have hb := E.1.2.1
  have hown := E.1.2.2.2.1
  have hts := E.1.2.2.2.2
  have h_inX0 : ∀ w ∈ wsX00, w ∈ wsX8_part := (fun _ h9 => (List.mem_cons_of_mem _ (List.mem_append_left _ (List.mem_append_left _ (List.mem_append_left _ (List.mem_append_left _ (List.mem_append_right _ h9)))))))
  have h_inX5 : ∀ w ∈ wsX50, w ∈ wsX8_part := (fun _ h9 => (List.mem_cons_of_mem _ (List.mem_append_left _ (List.mem_append_left _ (List.mem_append_left _ (List.mem_append_right _ h9))))))
  have h_inX8 : ∀ w ∈ wsX80, w ∈ wsX8_part := (fun _ h9 => (List.mem_cons_of_mem _ (List.mem_append_left _ (List.mem_append_left _ (List.mem_append_left _ (List.mem_append_left _ (List.mem_append_left _ (List.mem_append_right _ h9))))))))
  have hl := lv_entry ([.ref (G.2.1 0), .int p1]) (n := 2) (Nat.le_of_ble_eq_true rfl)
  rw [lg_entry_eq]
  generalize (lg_sl ([.ref (G.2.1 0), .int p1]) ++ List.replicate (2 - (lg_sl ([.ref (G.2.1 0), .int p1])).length) Slot.unset).toArray = ls at hl ⊢
  have hl : lv_has ls 2 [(0, .ref (G.2.1 0)), (1, .int p1)] := hl
  unfold f_X8_part at h
  refine lv_iload_n hx hb dX8_part_0 rfl (lv_at hl 1 rfl) ?_
  refine q_Sxv (As := [.int p1]) (rest := []) E hh (c_X8_needFleetNumber l G _ _ _ _ _ hst h) (va_cwS 1 hts gX8_part_X8_needFleetNumber rfl rfl rfl (by decide +kernel) ⟨Nat.le_of_ble_eq_true rfl, Nat.le_of_ble_eq_true rfl⟩) rfl hl.1 rfl (Nat.le_of_ble_eq_true rfl) dX8_part_1 ⟨Nat.le_of_ble_eq_true rfl, Nat.le_of_ble_eq_true rfl⟩ hlocks hout (fun s1 H locs h hh => ?_)
  refine lv_aload_n hx hb dX8_part_4 rfl (lv_at hl 0 rfl) ?_
  refine q_get (T := TX8) (v := .ref (G.2.1 7)) E hh h_inX8 0 (WW_at_0 G s1) rfl 5 (by decide) (List.mem_cons_of_mem _ (List.mem_append_left _ (List.mem_append_left _ (List.mem_append_left _ (List.mem_append_left _ (List.mem_append_left _ (List.mem_append_left _ (List.mem_append_left _ (List.mem_of_getElem? (i := 0) rfl))))))))) rfl rfl dX8_part_5 ?_
  refine lv_aload_n hx hb dX8_part_8 rfl (lv_at hl 0 rfl) ?_
  refine q_get (T := TX8) (v := .ref (G.2.1 6)) E hh h_inX8 0 (WW_at_0 G s1) rfl 4 (by decide) (List.mem_cons_of_mem _ (List.mem_append_left _ (List.mem_append_left _ (List.mem_append_left _ (List.mem_append_left _ (List.mem_append_left _ (List.mem_append_left _ (List.mem_append_left _ (List.mem_of_getElem? (i := 1) rfl))))))))) rfl rfl dX8_part_9 ?_
  refine q_getN (T := TX0) (host := "IceRegatta") (v := .int (gi s1 18)) E hh h_inX0 6 (WW_at_6 G s1) rfl 3 (by decide) (List.mem_of_getElem? (i := 14) rfl) rfl rfl dX8_part_12 ?_
  refine lv_aload_n hx hb dX8_part_15 rfl (lv_at hl 0 rfl) ?_
  refine q_get (T := TX8) (v := .ref (G.2.1 4)) E hh h_inX8 0 (WW_at_0 G s1) rfl 3 (by decide) (List.mem_cons_of_mem _ (List.mem_append_left _ (List.mem_append_left _ (List.mem_append_left _ (List.mem_append_left _ (List.mem_append_left _ (List.mem_append_left _ (List.mem_append_left _ (List.mem_of_getElem? (i := 2) rfl))))))))) rfl rfl dX8_part_16 ?_
  refine q_Vv (As := [.int (gi s1 18), .ref (G.2.1 4)]) (rest := []) E hh (c_X5_rankBoats l G _ _ _ _ h) (cwV 2 hts gX8_part_X5_rankBoats rfl rfl rfl (by decide +kernel) ⟨Nat.le_of_ble_eq_true rfl, Nat.le_of_ble_eq_true rfl⟩) (va_recv (ci := 5) E.2.1 hh.1 rfl (WW_at_7 G s1)) rfl hl.1 rfl (Nat.le_of_ble_eq_true rfl) dX8_part_19 ⟨Nat.zero_le _, Nat.zero_le _⟩ (fun s19 H locs h hh => ?_)
  refine lv_aload_n hx hb dX8_part_22 rfl (lv_at hl 0 rfl) ?_
  refine q_get (T := TX8) (v := .ref (G.2.1 8)) E hh h_inX8 0 (WW_at_0 G s19) rfl 6 (by decide) (List.mem_cons_of_mem _ (List.mem_append_left _ (List.mem_append_left _ (List.mem_append_left _ (List.mem_append_left _ (List.mem_append_left _ (List.mem_append_left _ (List.mem_append_left _ (List.mem_of_getElem? (i := 3) rfl))))))))) rfl rfl dX8_part_23 ?_
  refine lv_aload_n hx hb dX8_part_26 rfl (lv_at hl 0 rfl) ?_
  refine q_get (T := TX8) (v := .ref (G.2.1 7)) E hh h_inX8 0 (WW_at_0 G s19) rfl 5 (by decide) (List.mem_cons_of_mem _ (List.mem_append_left _ (List.mem_append_left _ (List.mem_append_left _ (List.mem_append_left _ (List.mem_append_left _ (List.mem_append_left _ (List.mem_append_left _ (List.mem_of_getElem? (i := 0) rfl))))))))) rfl rfl dX8_part_27 ?_
  refine q_getN (T := TX5) (host := "IceRegatta") (v := .ref (G.2.1 23)) E hh h_inX5 7 (WW_at_7 G s19) rfl 6 (by decide) (List.mem_of_getElem? (i := 17) rfl) rfl rfl dX8_part_30 ?_
  refine lv_aload_n hx hb dX8_part_33 rfl (lv_at hl 0 rfl) ?_
  refine q_get (T := TX8) (v := .ref (G.2.1 6)) E hh h_inX8 0 (WW_at_0 G s19) rfl 4 (by decide) (List.mem_cons_of_mem _ (List.mem_append_left _ (List.mem_append_left _ (List.mem_append_left _ (List.mem_append_left _ (List.mem_append_left _ (List.mem_append_left _ (List.mem_append_left _ (List.mem_of_getElem? (i := 1) rfl))))))))) rfl rfl dX8_part_34 ?_
  refine q_getN (T := TX0) (host := "IceRegatta") (v := .int (gi s19 18)) E hh h_inX0 6 (WW_at_6 G s19) rfl 3 (by decide) (List.mem_of_getElem? (i := 14) rfl) rfl rfl dX8_part_37 ?_
  refine lv_iload_n hx hb dX8_part_40 rfl (lv_at hl 1 rfl) ?_
  refine q_Vi (As := [.ref (G.2.1 23), .int (gi s19 18), .int p1]) (rest := []) E hh (c_X2_partRanked l G _ _ _ _ _ h) (cwV 3 hts gX8_part_X2_partRanked rfl rfl rfl (by decide +kernel) ⟨Nat.le_of_ble_eq_true rfl, Nat.le_of_ble_eq_true rfl⟩) (va_recv (ci := 2) E.2.1 hh.1 rfl (WW_at_8 G s19)) rfl hl.1 rfl (Nat.le_of_ble_eq_true rfl) dX8_part_41 ⟨Nat.zero_le _, Nat.zero_le _⟩ (fun r41 s41 H locs h hh => ?_)
  refine qx_iret E hh hr hlocks h dX8_part_44
def f_X8_promote (σ : St) (p1 : Int32) (Q : Int32 → St → Prop) (X : Nat → St → Prop) : Prop :=
  f_X8_needFleetNumber σ p1 (fun s1 => f_X5_rankBoats s1 (gi s1 18) (fun s19 => f_X2_promoteRanked s19 (gi s19 18) p1 (fun r41 s41 => Q r41 s41))) X
set_option maxHeartbeats 4000000 in
set_option maxRecDepth 100000 in
theorem c_X8_promote (l : Launch) (G : GG) (σ : St) (sz : Nat) (p1 : Int32) (Q : Int32 → St → Prop) (X : Nat → St → Prop) (hst : l.stackTraces = false) (h : f_X8_promote σ p1 Q X) : CXi l yX8_promote wsX8_promote ({ frames := 7, cells := 1, slots := 6, locals := 111 }) [.ref (G.2.1 0), .int p1] G σ sz Q X := by
  refine vx_ofW (cc := cX8_promote) (maxL := 2) (ret := (some .int)) (by decide) rfl ?_
  intro p e s m args below meth c s₁ B hml hout hv
  obtain ⟨rfl, hpre⟩ := hv
  have hr := B.returns
  have hlocks := B.notSynchronized
  obtain ⟨hsz, -⟩ := id hpre
  subst hsz
  obtain ⟨E, hh⟩ := EV.ofPre (⟨B.exec, B.bytes, hml, findClass_of_methodNamed B.named, atoms_spec (ws := wsX8_promote) B.pre⟩ : CallFix p m c cX8_promote 2 s _ wsX8_promote RX8) hpre
  have hx := E.1.1
  have hb := E.1.2.1
  have hown := E.1.2.2.2.1
  have hts := E.1.2.2.2.2
  have h_inX0 : ∀ w ∈ wsX00, w ∈ wsX8_promote := (fun _ h9 => (List.mem_cons_of_mem _ (List.mem_append_left _ (List.mem_append_left _ (List.mem_append_left _ (List.mem_append_left _ (List.mem_append_right _ h9)))))))
  have h_inX5 : ∀ w ∈ wsX50, w ∈ wsX8_promote := (fun _ h9 => (List.mem_cons_of_mem _ (List.mem_append_left _ (List.mem_append_left _ (List.mem_append_left _ (List.mem_append_right _ h9))))))
  have h_inX8 : ∀ w ∈ wsX80, w ∈ wsX8_promote := (fun _ h9 => (List.mem_cons_of_mem _ (List.mem_append_left _ (List.mem_append_left _ (List.mem_append_left _ (List.mem_append_left _ (List.mem_append_left _ (List.mem_append_right _ h9))))))))
  have hl := lv_entry ([.ref (G.2.1 0), .int p1]) (n := 2) (Nat.le_of_ble_eq_true rfl)
  rw [lg_entry_eq]
  generalize (lg_sl ([.ref (G.2.1 0), .int p1]) ++ List.replicate (2 - (lg_sl ([.ref (G.2.1 0), .int p1])).length) Slot.unset).toArray = ls at hl ⊢
  have hl : lv_has ls 2 [(0, .ref (G.2.1 0)), (1, .int p1)] := hl
  unfold f_X8_promote at h
  refine lv_iload_n hx hb dX8_promote_0 rfl (lv_at hl 1 rfl) ?_
  refine q_Sxv (As := [.int p1]) (rest := []) E hh (c_X8_needFleetNumber l G _ _ _ _ _ hst h) (va_cwS 1 hts gX8_promote_X8_needFleetNumber rfl rfl rfl (by decide +kernel) ⟨Nat.le_of_ble_eq_true rfl, Nat.le_of_ble_eq_true rfl⟩) rfl hl.1 rfl (Nat.le_of_ble_eq_true rfl) dX8_promote_1 ⟨Nat.le_of_ble_eq_true rfl, Nat.le_of_ble_eq_true rfl⟩ hlocks hout (fun s1 H locs h hh => ?_)
  refine lv_aload_n hx hb dX8_promote_4 rfl (lv_at hl 0 rfl) ?_
  refine q_get (T := TX8) (v := .ref (G.2.1 7)) E hh h_inX8 0 (WW_at_0 G s1) rfl 5 (by decide) (List.mem_cons_of_mem _ (List.mem_append_left _ (List.mem_append_left _ (List.mem_append_left _ (List.mem_append_left _ (List.mem_append_left _ (List.mem_append_left _ (List.mem_append_left _ (List.mem_of_getElem? (i := 0) rfl))))))))) rfl rfl dX8_promote_5 ?_
  refine lv_aload_n hx hb dX8_promote_8 rfl (lv_at hl 0 rfl) ?_
  refine q_get (T := TX8) (v := .ref (G.2.1 6)) E hh h_inX8 0 (WW_at_0 G s1) rfl 4 (by decide) (List.mem_cons_of_mem _ (List.mem_append_left _ (List.mem_append_left _ (List.mem_append_left _ (List.mem_append_left _ (List.mem_append_left _ (List.mem_append_left _ (List.mem_append_left _ (List.mem_of_getElem? (i := 1) rfl))))))))) rfl rfl dX8_promote_9 ?_
  refine q_getN (T := TX0) (host := "IceRegatta") (v := .int (gi s1 18)) E hh h_inX0 6 (WW_at_6 G s1) rfl 3 (by decide) (List.mem_of_getElem? (i := 14) rfl) rfl rfl dX8_promote_12 ?_
  refine lv_aload_n hx hb dX8_promote_15 rfl (lv_at hl 0 rfl) ?_
  refine q_get (T := TX8) (v := .ref (G.2.1 4)) E hh h_inX8 0 (WW_at_0 G s1) rfl 3 (by decide) (List.mem_cons_of_mem _ (List.mem_append_left _ (List.mem_append_left _ (List.mem_append_left _ (List.mem_append_left _ (List.mem_append_left _ (List.mem_append_left _ (List.mem_append_left _ (List.mem_of_getElem? (i := 2) rfl))))))))) rfl rfl dX8_promote_16 ?_
  refine q_Vv (As := [.int (gi s1 18), .ref (G.2.1 4)]) (rest := []) E hh (c_X5_rankBoats l G _ _ _ _ h) (cwV 2 hts gX8_promote_X5_rankBoats rfl rfl rfl (by decide +kernel) ⟨Nat.le_of_ble_eq_true rfl, Nat.le_of_ble_eq_true rfl⟩) (va_recv (ci := 5) E.2.1 hh.1 rfl (WW_at_7 G s1)) rfl hl.1 rfl (Nat.le_of_ble_eq_true rfl) dX8_promote_19 ⟨Nat.zero_le _, Nat.zero_le _⟩ (fun s19 H locs h hh => ?_)
  refine lv_aload_n hx hb dX8_promote_22 rfl (lv_at hl 0 rfl) ?_
  refine q_get (T := TX8) (v := .ref (G.2.1 8)) E hh h_inX8 0 (WW_at_0 G s19) rfl 6 (by decide) (List.mem_cons_of_mem _ (List.mem_append_left _ (List.mem_append_left _ (List.mem_append_left _ (List.mem_append_left _ (List.mem_append_left _ (List.mem_append_left _ (List.mem_append_left _ (List.mem_of_getElem? (i := 3) rfl))))))))) rfl rfl dX8_promote_23 ?_
  refine lv_aload_n hx hb dX8_promote_26 rfl (lv_at hl 0 rfl) ?_
  refine q_get (T := TX8) (v := .ref (G.2.1 7)) E hh h_inX8 0 (WW_at_0 G s19) rfl 5 (by decide) (List.mem_cons_of_mem _ (List.mem_append_left _ (List.mem_append_left _ (List.mem_append_left _ (List.mem_append_left _ (List.mem_append_left _ (List.mem_append_left _ (List.mem_append_left _ (List.mem_of_getElem? (i := 0) rfl))))))))) rfl rfl dX8_promote_27 ?_
  refine q_getN (T := TX5) (host := "IceRegatta") (v := .ref (G.2.1 23)) E hh h_inX5 7 (WW_at_7 G s19) rfl 6 (by decide) (List.mem_of_getElem? (i := 17) rfl) rfl rfl dX8_promote_30 ?_
  refine lv_aload_n hx hb dX8_promote_33 rfl (lv_at hl 0 rfl) ?_
  refine q_get (T := TX8) (v := .ref (G.2.1 6)) E hh h_inX8 0 (WW_at_0 G s19) rfl 4 (by decide) (List.mem_cons_of_mem _ (List.mem_append_left _ (List.mem_append_left _ (List.mem_append_left _ (List.mem_append_left _ (List.mem_append_left _ (List.mem_append_left _ (List.mem_append_left _ (List.mem_of_getElem? (i := 1) rfl))))))))) rfl rfl dX8_promote_34 ?_
  refine q_getN (T := TX0) (host := "IceRegatta") (v := .int (gi s19 18)) E hh h_inX0 6 (WW_at_6 G s19) rfl 3 (by decide) (List.mem_of_getElem? (i := 14) rfl) rfl rfl dX8_promote_37 ?_
  refine lv_iload_n hx hb dX8_promote_40 rfl (lv_at hl 1 rfl) ?_
  refine q_Vi (As := [.ref (G.2.1 23), .int (gi s19 18), .int p1]) (rest := []) E hh (c_X2_promoteRanked l G _ _ _ _ _ h) (cwV 3 hts gX8_promote_X2_promoteRanked rfl rfl rfl (by decide +kernel) ⟨Nat.le_of_ble_eq_true rfl, Nat.le_of_ble_eq_true rfl⟩) (va_recv (ci := 2) E.2.1 hh.1 rfl (WW_at_8 G s19)) rfl hl.1 rfl (Nat.le_of_ble_eq_true rfl) dX8_promote_41 ⟨Nat.zero_le _, Nat.zero_le _⟩ (fun r41 s41 H locs h hh => ?_)
  refine qx_iret E hh hr hlocks h dX8_promote_44
def f_X8_fleet (σ : St) (p1 : Int32) (Q : Int32 → St → Prop) (X : Nat → St → Prop) : Prop :=
  f_X8_needBoat σ p1 (fun s2 => f_X2_fleetOf s2 p1 (fun r10 s10 => Q r10 s10)) X
set_option maxHeartbeats 4000000 in
set_option maxRecDepth 100000 in
theorem c_X8_fleet (l : Launch) (G : GG) (σ : St) (sz : Nat) (p1 : Int32) (Q : Int32 → St → Prop) (X : Nat → St → Prop) (hst : l.stackTraces = false) (h : f_X8_fleet σ p1 Q X) : CXi l yX8_fleet wsX8_fleet ({ frames := 7, cells := 1, slots := 6, locals := 111 }) [.ref (G.2.1 0), .int p1] G σ sz Q X := by
  refine vx_ofW (cc := cX8_fleet) (maxL := 2) (ret := (some .int)) (by decide) rfl ?_
  intro p e s m args below meth c s₁ B hml hout hv
  obtain ⟨rfl, hpre⟩ := hv
  have hr := B.returns
  have hlocks := B.notSynchronized
  obtain ⟨hsz, -⟩ := id hpre
  subst hsz
  obtain ⟨E, hh⟩ := EV.ofPre (⟨B.exec, B.bytes, hml, findClass_of_methodNamed B.named, atoms_spec (ws := wsX8_fleet) B.pre⟩ : CallFix p m c cX8_fleet 2 s _ wsX8_fleet RX8) hpre
  have hx := E.1.1
  have hb := E.1.2.1
  have hown := E.1.2.2.2.1
  have hts := E.1.2.2.2.2
  have h_inX8 : ∀ w ∈ wsX80, w ∈ wsX8_fleet := (fun _ h9 => (List.mem_cons_of_mem _ (List.mem_append_left _ (List.mem_append_left _ (List.mem_append_left _ (List.mem_append_right _ h9))))))
  have hl := lv_entry ([.ref (G.2.1 0), .int p1]) (n := 2) (Nat.le_of_ble_eq_true rfl)
  rw [lg_entry_eq]
  generalize (lg_sl ([.ref (G.2.1 0), .int p1]) ++ List.replicate (2 - (lg_sl ([.ref (G.2.1 0), .int p1])).length) Slot.unset).toArray = ls at hl ⊢
  have hl : lv_has ls 2 [(0, .ref (G.2.1 0)), (1, .int p1)] := hl
  unfold f_X8_fleet at h
  refine lv_aload_n hx hb dX8_fleet_0 rfl (lv_at hl 0 rfl) ?_
  refine lv_iload_n hx hb dX8_fleet_1 rfl (lv_at hl 1 rfl) ?_
  refine q_Vxv (As := [.int p1]) (rest := []) E hh (c_X8_needBoat l G _ _ _ _ _ hst h) (cwV 1 hts gX8_fleet_X8_needBoat rfl rfl rfl (by decide +kernel) ⟨Nat.le_of_ble_eq_true rfl, Nat.le_of_ble_eq_true rfl⟩) (va_recv (ci := 8) E.2.1 hh.1 rfl (WW_at_0 G σ)) rfl hl.1 rfl (Nat.le_of_ble_eq_true rfl) dX8_fleet_2 ⟨Nat.le_of_ble_eq_true rfl, Nat.le_of_ble_eq_true rfl⟩ hlocks hout (fun s2 H locs h hh => ?_)
  refine lv_aload_n hx hb dX8_fleet_5 rfl (lv_at hl 0 rfl) ?_
  refine q_get (T := TX8) (v := .ref (G.2.1 8)) E hh h_inX8 0 (WW_at_0 G s2) rfl 6 (by decide) (List.mem_cons_of_mem _ (List.mem_append_left _ (List.mem_append_left _ (List.mem_append_left _ (List.mem_append_left _ (List.mem_of_getElem? (i := 0) rfl)))))) rfl rfl dX8_fleet_6 ?_
  refine lv_iload_n hx hb dX8_fleet_9 rfl (lv_at hl 1 rfl) ?_
  refine q_Vi (As := [.int p1]) (rest := []) E hh (c_X2_fleetOf l G _ _ _ _ h) (cwV 1 hts gX8_fleet_X2_fleetOf rfl rfl rfl (by decide +kernel) ⟨Nat.le_of_ble_eq_true rfl, Nat.le_of_ble_eq_true rfl⟩) (va_recv (ci := 2) E.2.1 hh.1 rfl (WW_at_8 G s2)) rfl hl.1 rfl (Nat.le_of_ble_eq_true rfl) dX8_fleet_10 ⟨Nat.zero_le _, Nat.zero_le _⟩ (fun r10 s10 H locs h hh => ?_)
  refine qx_iret E hh hr hlocks h dX8_fleet_13
def f_X8_noise (σ : St) (p1 : Int32) (Q : Int32 → St → Prop) : Prop :=
  f_X4_addNoise σ p1 (fun r5 s5 => Q r5 s5)
set_option maxHeartbeats 4000000 in
set_option maxRecDepth 100000 in
theorem c_X8_noise (l : Launch) (G : GG) (σ : St) (sz : Nat) (p1 : Int32) (Q : Int32 → St → Prop) (h : f_X8_noise σ p1 Q) : CTi l yX8_noise wsX8_noise ({ frames := 1, cells := 0, slots := 0, locals := 21 }) [.ref (G.2.1 0), .int p1] G σ sz Q := by
  refine Met.ofW (cc := cX8_noise) (maxL := 2) (ret := (some .int)) (by decide) rfl ?_
  intro p e s m args below meth c s₁ B hml hv
  obtain ⟨rfl, hpre⟩ := hv
  have hr := B.returns
  have hlocks := B.notSynchronized
  obtain ⟨hsz, -⟩ := id hpre
  subst hsz
  obtain ⟨E, hh⟩ := EV.ofPre (⟨B.exec, B.bytes, hml, findClass_of_methodNamed B.named, atoms_spec (ws := wsX8_noise) B.pre⟩ : CallFix p m c cX8_noise 2 s _ wsX8_noise RX8) hpre
  have hx := E.1.1
  have hb := E.1.2.1
  have hown := E.1.2.2.2.1
  have hts := E.1.2.2.2.2
  have h_inX8 : ∀ w ∈ wsX80, w ∈ wsX8_noise := (fun _ h9 => (List.mem_cons_of_mem _ (List.mem_append_left _ (List.mem_append_right _ h9))))
  have hl := lv_entry ([.ref (G.2.1 0), .int p1]) (n := 2) (Nat.le_of_ble_eq_true rfl)
  rw [lg_entry_eq]
  generalize (lg_sl ([.ref (G.2.1 0), .int p1]) ++ List.replicate (2 - (lg_sl ([.ref (G.2.1 0), .int p1])).length) Slot.unset).toArray = ls at hl ⊢
  have hl : lv_has ls 2 [(0, .ref (G.2.1 0)), (1, .int p1)] := hl
  unfold f_X8_noise at h
  refine lv_aload_n hx hb dX8_noise_0 rfl (lv_at hl 0 rfl) ?_
  refine q_get (T := TX8) (v := .ref (G.2.1 9)) E hh h_inX8 0 (WW_at_0 G σ) rfl 7 (by decide) (List.mem_cons_of_mem _ (List.mem_append_left _ (List.mem_append_left _ (List.mem_of_getElem? (i := 0) rfl)))) rfl rfl dX8_noise_1 ?_
  refine lv_iload_n hx hb dX8_noise_4 rfl (lv_at hl 1 rfl) ?_
  refine q_Vi (As := [.int p1]) (rest := []) E hh (c_X4_addNoise l G _ _ _ _ h) (cwV 1 hts gX8_noise_X4_addNoise rfl rfl rfl (by decide +kernel) ⟨Nat.le_of_ble_eq_true rfl, Nat.le_of_ble_eq_true rfl⟩) (va_recv (ci := 4) E.2.1 hh.1 rfl (WW_at_9 G σ)) rfl hl.1 rfl (Nat.le_of_ble_eq_true rfl) dX8_noise_5 ⟨Nat.zero_le _, Nat.zero_le _⟩ (fun r5 s5 H locs h hh => ?_)
  exact q_iret E hh hr hlocks h dX8_noise_8
def f_X8_draw (σ : St)  (Q : Int32 → St → Prop) : Prop :=
  f_X4_drawRow σ (gi σ 18) (fun r11 s11 => Q r11 s11)
set_option maxHeartbeats 4000000 in
set_option maxRecDepth 100000 in
theorem c_X8_draw (l : Launch) (G : GG) (σ : St) (sz : Nat)  (Q : Int32 → St → Prop) (h : f_X8_draw σ  Q) : CTi l yX8_draw wsX8_draw ({ frames := 3, cells := 0, slots := 0, locals := 67 }) [.ref (G.2.1 0)] G σ sz Q := by
  refine Met.ofW (cc := cX8_draw) (maxL := 1) (ret := (some .int)) (by decide) rfl ?_
  intro p e s m args below meth c s₁ B hml hv
  obtain ⟨rfl, hpre⟩ := hv
  have hr := B.returns
  have hlocks := B.notSynchronized
  obtain ⟨hsz, -⟩ := id hpre
  subst hsz
  obtain ⟨E, hh⟩ := EV.ofPre (⟨B.exec, B.bytes, hml, findClass_of_methodNamed B.named, atoms_spec (ws := wsX8_draw) B.pre⟩ : CallFix p m c cX8_draw 1 s _ wsX8_draw RX8) hpre
  have hx := E.1.1
  have hb := E.1.2.1
  have hown := E.1.2.2.2.1
  have hts := E.1.2.2.2.2
  have h_inX0 : ∀ w ∈ wsX00, w ∈ wsX8_draw := (fun _ h9 => (List.mem_cons_of_mem _ (List.mem_append_left _ (List.mem_append_right _ h9))))
  have h_inX8 : ∀ w ∈ wsX80, w ∈ wsX8_draw := (fun _ h9 => (List.mem_cons_of_mem _ (List.mem_append_left _ (List.mem_append_left _ (List.mem_append_right _ h9)))))
  have hl := lv_entry ([.ref (G.2.1 0)]) (n := 1) (Nat.le_of_ble_eq_true rfl)
  rw [lg_entry_eq]
  generalize (lg_sl ([.ref (G.2.1 0)]) ++ List.replicate (1 - (lg_sl ([.ref (G.2.1 0)])).length) Slot.unset).toArray = ls at hl ⊢
  have hl : lv_has ls 1 [(0, .ref (G.2.1 0))] := hl
  unfold f_X8_draw at h
  refine lv_aload_n hx hb dX8_draw_0 rfl (lv_at hl 0 rfl) ?_
  refine q_get (T := TX8) (v := .ref (G.2.1 9)) E hh h_inX8 0 (WW_at_0 G σ) rfl 7 (by decide) (List.mem_cons_of_mem _ (List.mem_append_left _ (List.mem_append_left _ (List.mem_append_left _ (List.mem_of_getElem? (i := 0) rfl))))) rfl rfl dX8_draw_1 ?_
  refine lv_aload_n hx hb dX8_draw_4 rfl (lv_at hl 0 rfl) ?_
  refine q_get (T := TX8) (v := .ref (G.2.1 6)) E hh h_inX8 0 (WW_at_0 G σ) rfl 4 (by decide) (List.mem_cons_of_mem _ (List.mem_append_left _ (List.mem_append_left _ (List.mem_append_left _ (List.mem_of_getElem? (i := 1) rfl))))) rfl rfl dX8_draw_5 ?_
  refine q_getN (T := TX0) (host := "IceRegatta") (v := .int (gi σ 18)) E hh h_inX0 6 (WW_at_6 G σ) rfl 3 (by decide) (List.mem_of_getElem? (i := 14) rfl) rfl rfl dX8_draw_8 ?_
  refine q_Vi (As := [.int (gi σ 18)]) (rest := []) E hh (c_X4_drawRow l G _ _ _ _ h) (cwV 1 hts gX8_draw_X4_drawRow rfl rfl rfl (by decide +kernel) ⟨Nat.le_of_ble_eq_true rfl, Nat.le_of_ble_eq_true rfl⟩) (va_recv (ci := 4) E.2.1 hh.1 rfl (WW_at_9 G σ)) rfl hl.1 rfl (Nat.le_of_ble_eq_true rfl) dX8_draw_11 ⟨Nat.zero_le _, Nat.zero_le _⟩ (fun r11 s11 H locs h hh => ?_)
  exact q_iret E hh hr hlocks h dX8_draw_14
def f_X8_lot (σ : St) (p1 : Int32) (Q : Int32 → St → Prop) : Prop :=
  ((p1 < 0 → Q (-1 : Int32) σ) ∧ (¬ p1 < 0 → ((p1 < (gi σ 22) → (vp_in p1 16 ∧ Q (ga σ 27 p1.toNatClampNeg) σ)) ∧ (¬ p1 < (gi σ 22) → Q (-1 : Int32) σ))))
set_option maxHeartbeats 4000000 in
set_option maxRecDepth 100000 in
theorem c_X8_lot (l : Launch) (G : GG) (σ : St) (sz : Nat) (p1 : Int32) (Q : Int32 → St → Prop) (h : f_X8_lot σ p1 Q) : CTi l yX8_lot wsX8_lot ({ frames := 0, cells := 0, slots := 0, locals := 0 }) [.ref (G.2.1 0), .int p1] G σ sz Q := by
  refine Met.ofW (cc := cX8_lot) (maxL := 2) (ret := (some .int)) (by decide) rfl ?_
  intro p e s m args below meth c s₁ B hml hv
  obtain ⟨rfl, hpre⟩ := hv
  have hr := B.returns
  have hlocks := B.notSynchronized
  obtain ⟨hsz, -⟩ := id hpre
  subst hsz
  obtain ⟨E, hh⟩ := EV.ofPre (⟨B.exec, B.bytes, hml, findClass_of_methodNamed B.named, atoms_spec (ws := wsX8_lot) B.pre⟩ : CallFix p m c cX8_lot 2 s _ wsX8_lot RX8) hpre
  have hx := E.1.1
  have hb := E.1.2.1
  have hown := E.1.2.2.2.1
  have hts := E.1.2.2.2.2
  have h_inX4 : ∀ w ∈ wsX40, w ∈ wsX8_lot := (fun _ h9 => (List.mem_cons_of_mem _ (List.mem_append_right _ h9)))
  have h_inX8 : ∀ w ∈ wsX80, w ∈ wsX8_lot := (fun _ h9 => (List.mem_cons_of_mem _ (List.mem_append_left _ (List.mem_append_right _ h9))))
  have hl := lv_entry ([.ref (G.2.1 0), .int p1]) (n := 2) (Nat.le_of_ble_eq_true rfl)
  rw [lg_entry_eq]
  generalize (lg_sl ([.ref (G.2.1 0), .int p1]) ++ List.replicate (2 - (lg_sl ([.ref (G.2.1 0), .int p1])).length) Slot.unset).toArray = ls at hl ⊢
  have hl : lv_has ls 2 [(0, .ref (G.2.1 0)), (1, .int p1)] := hl
  unfold f_X8_lot at h
  refine lv_iload_n hx hb dX8_lot_0 rfl (lv_at hl 1 rfl) ?_
  refine lv_if_lt (tgt := 15) hx hb dX8_lot_1 (by decide) (fun c9 => ?_) (fun c9 => ?_)
  · have h := h.1 c9
    refine lv_iconst (v := (-1 : Int32)) hx hb dX8_lot_15 (by decide) ?_
    refine lv_goto (tgt := 28) hx hb dX8_lot_16 (by decide) ?_
    exact q_iret E hh hr hlocks h dX8_lot_28
  · have h := h.2 c9
    refine lv_iload_n hx hb dX8_lot_4 rfl (lv_at hl 1 rfl) ?_
    refine lv_aload_n hx hb dX8_lot_5 rfl (lv_at hl 0 rfl) ?_
    refine q_get (T := TX8) (v := .ref (G.2.1 9)) E hh h_inX8 0 (WW_at_0 G σ) rfl 7 (by decide) (List.mem_cons_of_mem _ (List.mem_append_left _ (List.mem_append_left _ (List.mem_of_getElem? (i := 0) rfl)))) rfl rfl dX8_lot_6 ?_
    refine q_getN (T := TX4) (host := "IceRegatta") (v := .int (gi σ 22)) E hh h_inX4 9 (WW_at_9 G σ) rfl 3 (by decide) (List.mem_of_getElem? (i := 20) rfl) rfl rfl dX8_lot_9 ?_
    refine lv_icmp_lt (tgt := 19) hx hb dX8_lot_12 (by decide) (fun c9 => ?_) (fun c9 => ?_)
    · have h := h.1 c9
      refine lv_aload_n hx hb dX8_lot_19 rfl (lv_at hl 0 rfl) ?_
      refine q_get (T := TX8) (v := .ref (G.2.1 9)) E hh h_inX8 0 (WW_at_0 G σ) rfl 7 (by decide) (List.mem_cons_of_mem _ (List.mem_append_left _ (List.mem_append_left _ (List.mem_of_getElem? (i := 0) rfl)))) rfl rfl dX8_lot_20 ?_
      refine q_getN (T := TX4) (host := "IceRegatta") (v := .ref (G.2.1 27)) E hh h_inX4 9 (WW_at_9 G σ) rfl 2 (by decide) (List.mem_of_getElem? (i := 19) rfl) rfl rfl dX8_lot_23 ?_
      refine lv_iload_n hx hb dX8_lot_26 rfl (lv_at hl 1 rfl) ?_
      obtain ⟨h0, h⟩ := h
      refine q_iald E hh 27 (WW_at_27 G σ) h0 dX8_lot_27 ?_
      exact q_iret E hh hr hlocks h dX8_lot_28
    · have h := h.2 c9
      refine lv_iconst (v := (-1 : Int32)) hx hb dX8_lot_15 (by decide) ?_
      refine lv_goto (tgt := 28) hx hb dX8_lot_16 (by decide) ?_
      exact q_iret E hh hr hlocks h dX8_lot_28
def f_X8_count (σ : St) (p1 : Int32) (Q : Int32 → St → Prop) : Prop :=
  ((p1 = (0 : Int32) → Q (gi σ 18) σ) ∧ (¬ p1 = (0 : Int32) → ((p1 = (1 : Int32) → Q (gi σ 19) σ) ∧ (¬ p1 = (1 : Int32) → ((p1 = (2 : Int32) → Q (gi σ 8) σ) ∧ (¬ p1 = (2 : Int32) → ((p1 = (3 : Int32) → f_X3_safeCells σ (gi σ 9) (fun r79 s79 => Q r79 s79)) ∧ (¬ p1 = (3 : Int32) → ((p1 = (4 : Int32) → Q (gi σ 21) σ) ∧ (¬ p1 = (4 : Int32) → ((p1 = (5 : Int32) → Q (gi σ 3) σ) ∧ (¬ p1 = (5 : Int32) → ((p1 = (6 : Int32) → Q (gi σ 20) σ) ∧ (¬ p1 = (6 : Int32) → Q (-1 : Int32) σ))))))))))))))
set_option maxHeartbeats 4000000 in
set_option maxRecDepth 100000 in
theorem c_X8_count (l : Launch) (G : GG) (σ : St) (sz : Nat) (p1 : Int32) (Q : Int32 → St → Prop) (h : f_X8_count σ p1 Q) : CTi l yX8_count wsX8_count ({ frames := 3, cells := 0, slots := 0, locals := 65 }) [.ref (G.2.1 0), .int p1] G σ sz Q := by
  refine Met.ofW (cc := cX8_count) (maxL := 2) (ret := (some .int)) (by decide) rfl ?_
  intro p e s m args below meth c s₁ B hml hv
  obtain ⟨rfl, hpre⟩ := hv
  have hr := B.returns
  have hlocks := B.notSynchronized
  obtain ⟨hsz, -⟩ := id hpre
  subst hsz
  obtain ⟨E, hh⟩ := EV.ofPre (⟨B.exec, B.bytes, hml, findClass_of_methodNamed B.named, atoms_spec (ws := wsX8_count) B.pre⟩ : CallFix p m c cX8_count 2 s _ wsX8_count RX8) hpre
  have hx := E.1.1
  have hb := E.1.2.1
  have hown := E.1.2.2.2.1
  have hts := E.1.2.2.2.2
  have h_inX0 : ∀ w ∈ wsX00, w ∈ wsX8_count := (fun _ h9 => (List.mem_cons_of_mem _ (List.mem_append_left _ (List.mem_append_left _ (List.mem_append_left _ (List.mem_append_left _ (List.mem_append_left _ (List.mem_append_right _ h9))))))))
  have h_inX4 : ∀ w ∈ wsX40, w ∈ wsX8_count := (fun _ h9 => (List.mem_cons_of_mem _ (List.mem_append_left _ (List.mem_append_left _ (List.mem_append_right _ h9)))))
  have h_inX5 : ∀ w ∈ wsX50, w ∈ wsX8_count := (fun _ h9 => (List.mem_cons_of_mem _ (List.mem_append_left _ (List.mem_append_left _ (List.mem_append_left _ (List.mem_append_left _ (List.mem_append_right _ h9)))))))
  have h_inX6 : ∀ w ∈ wsX60, w ∈ wsX8_count := (fun _ h9 => (List.mem_cons_of_mem _ (List.mem_append_left _ (List.mem_append_left _ (List.mem_append_left _ (List.mem_append_right _ h9))))))
  have h_inX7 : ∀ w ∈ wsX70, w ∈ wsX8_count := (fun _ h9 => (List.mem_cons_of_mem _ (List.mem_append_left _ (List.mem_append_right _ h9))))
  have h_inX8 : ∀ w ∈ wsX80, w ∈ wsX8_count := (fun _ h9 => (List.mem_cons_of_mem _ (List.mem_append_left _ (List.mem_append_left _ (List.mem_append_left _ (List.mem_append_left _ (List.mem_append_left _ (List.mem_append_left _ (List.mem_append_right _ h9)))))))))
  have hl := lv_entry ([.ref (G.2.1 0), .int p1]) (n := 2) (Nat.le_of_ble_eq_true rfl)
  rw [lg_entry_eq]
  generalize (lg_sl ([.ref (G.2.1 0), .int p1]) ++ List.replicate (2 - (lg_sl ([.ref (G.2.1 0), .int p1])).length) Slot.unset).toArray = ls at hl ⊢
  have hl : lv_has ls 2 [(0, .ref (G.2.1 0)), (1, .int p1)] := hl
  unfold f_X8_count at h
  refine lv_iload_n hx hb dX8_count_0 rfl (lv_at hl 1 rfl) ?_
  by_cases c9_0 : p1 = (0 : Int32)
  · have h := h.1 c9_0
    refine lv_tableIn (tgt := 44) hx hb dX8_count_1 (by rw [c9_0]; decide) (by rw [c9_0]; decide) (by rw [c9_0] <;> rfl) (by decide) ?_
    refine lv_aload_n hx hb dX8_count_44 rfl (lv_at hl 0 rfl) ?_
    refine q_get (T := TX8) (v := .ref (G.2.1 6)) E hh h_inX8 0 (WW_at_0 G σ) rfl 4 (by decide) (List.mem_cons_of_mem _ (List.mem_append_left _ (List.mem_append_left _ (List.mem_append_left _ (List.mem_append_left _ (List.mem_append_left _ (List.mem_append_left _ (List.mem_append_left _ (List.mem_of_getElem? (i := 0) rfl))))))))) rfl rfl dX8_count_45 ?_
    refine q_getN (T := TX0) (host := "IceRegatta") (v := .int (gi σ 18)) E hh h_inX0 6 (WW_at_6 G σ) rfl 3 (by decide) (List.mem_of_getElem? (i := 14) rfl) rfl rfl dX8_count_48 ?_
    exact q_iret E hh hr hlocks h dX8_count_51
  have h := h.2 c9_0
  by_cases c9_1 : p1 = (1 : Int32)
  · have h := h.1 c9_1
    refine lv_tableIn (tgt := 52) hx hb dX8_count_1 (by rw [c9_1]; decide) (by rw [c9_1]; decide) (by rw [c9_1] <;> rfl) (by decide) ?_
    refine lv_aload_n hx hb dX8_count_52 rfl (lv_at hl 0 rfl) ?_
    refine q_get (T := TX8) (v := .ref (G.2.1 7)) E hh h_inX8 0 (WW_at_0 G σ) rfl 5 (by decide) (List.mem_cons_of_mem _ (List.mem_append_left _ (List.mem_append_left _ (List.mem_append_left _ (List.mem_append_left _ (List.mem_append_left _ (List.mem_append_left _ (List.mem_append_left _ (List.mem_of_getElem? (i := 1) rfl))))))))) rfl rfl dX8_count_53 ?_
    refine q_getN (T := TX5) (host := "IceRegatta") (v := .int (gi σ 19)) E hh h_inX5 7 (WW_at_7 G σ) rfl 1 (by decide) (List.mem_of_getElem? (i := 15) rfl) rfl rfl dX8_count_56 ?_
    exact q_iret E hh hr hlocks h dX8_count_59
  have h := h.2 c9_1
  by_cases c9_2 : p1 = (2 : Int32)
  · have h := h.1 c9_2
    refine lv_tableIn (tgt := 60) hx hb dX8_count_1 (by rw [c9_2]; decide) (by rw [c9_2]; decide) (by rw [c9_2] <;> rfl) (by decide) ?_
    refine lv_aload_n hx hb dX8_count_60 rfl (lv_at hl 0 rfl) ?_
    refine q_get (T := TX8) (v := .ref (G.2.1 4)) E hh h_inX8 0 (WW_at_0 G σ) rfl 3 (by decide) (List.mem_cons_of_mem _ (List.mem_append_left _ (List.mem_append_left _ (List.mem_append_left _ (List.mem_append_left _ (List.mem_append_left _ (List.mem_append_left _ (List.mem_append_left _ (List.mem_of_getElem? (i := 2) rfl))))))))) rfl rfl dX8_count_61 ?_
    refine q_getN (T := TX6) (host := "IceRegatta") (v := .int (gi σ 8)) E hh h_inX6 4 (WW_at_4 G σ) rfl 0 (by decide) (List.mem_of_getElem? (i := 3) rfl) rfl rfl dX8_count_64 ?_
    exact q_iret E hh hr hlocks h dX8_count_67
  have h := h.2 c9_2
  by_cases c9_3 : p1 = (3 : Int32)
  · have h := h.1 c9_3
    refine lv_tableIn (tgt := 68) hx hb dX8_count_1 (by rw [c9_3]; decide) (by rw [c9_3]; decide) (by rw [c9_3] <;> rfl) (by decide) ?_
    refine lv_aload_n hx hb dX8_count_68 rfl (lv_at hl 0 rfl) ?_
    refine q_get (T := TX8) (v := .ref (G.2.1 1)) E hh h_inX8 0 (WW_at_0 G σ) rfl 0 (by decide) (List.mem_cons_of_mem _ (List.mem_append_left _ (List.mem_append_left _ (List.mem_append_left _ (List.mem_append_left _ (List.mem_append_left _ (List.mem_append_left _ (List.mem_append_left _ (List.mem_of_getElem? (i := 3) rfl))))))))) rfl rfl dX8_count_69 ?_
    refine lv_aload_n hx hb dX8_count_72 rfl (lv_at hl 0 rfl) ?_
    refine q_get (T := TX8) (v := .ref (G.2.1 4)) E hh h_inX8 0 (WW_at_0 G σ) rfl 3 (by decide) (List.mem_cons_of_mem _ (List.mem_append_left _ (List.mem_append_left _ (List.mem_append_left _ (List.mem_append_left _ (List.mem_append_left _ (List.mem_append_left _ (List.mem_append_left _ (List.mem_of_getElem? (i := 2) rfl))))))))) rfl rfl dX8_count_73 ?_
    refine q_getN (T := TX6) (host := "IceRegatta") (v := .int (gi σ 9)) E hh h_inX6 4 (WW_at_4 G σ) rfl 1 (by decide) (List.mem_of_getElem? (i := 4) rfl) rfl rfl dX8_count_76 ?_
    refine q_Vi (As := [.int (gi σ 9)]) (rest := []) E hh (c_X3_safeCells l G _ _ _ _ h) (cwV 1 hts gX8_count_X3_safeCells rfl rfl rfl (by decide +kernel) ⟨Nat.le_of_ble_eq_true rfl, Nat.le_of_ble_eq_true rfl⟩) (va_recv (ci := 3) E.2.1 hh.1 rfl (WW_at_1 G σ)) rfl hl.1 rfl (Nat.le_of_ble_eq_true rfl) dX8_count_79 ⟨Nat.zero_le _, Nat.zero_le _⟩ (fun r79 s79 H locs h hh => ?_)
    exact q_iret E hh hr hlocks h dX8_count_82
  have h := h.2 c9_3
  by_cases c9_4 : p1 = (4 : Int32)
  · have h := h.1 c9_4
    refine lv_tableIn (tgt := 83) hx hb dX8_count_1 (by rw [c9_4]; decide) (by rw [c9_4]; decide) (by rw [c9_4] <;> rfl) (by decide) ?_
    refine lv_aload_n hx hb dX8_count_83 rfl (lv_at hl 0 rfl) ?_
    refine q_get (T := TX8) (v := .ref (G.2.1 9)) E hh h_inX8 0 (WW_at_0 G σ) rfl 7 (by decide) (List.mem_cons_of_mem _ (List.mem_append_left _ (List.mem_append_left _ (List.mem_append_left _ (List.mem_append_left _ (List.mem_append_left _ (List.mem_append_left _ (List.mem_append_left _ (List.mem_of_getElem? (i := 4) rfl))))))))) rfl rfl dX8_count_84 ?_
    refine q_getN (T := TX4) (host := "IceRegatta") (v := .int (gi σ 21)) E hh h_inX4 9 (WW_at_9 G σ) rfl 1 (by decide) (List.mem_of_getElem? (i := 18) rfl) rfl rfl dX8_count_87 ?_
    exact q_iret E hh hr hlocks h dX8_count_90
  have h := h.2 c9_4
  by_cases c9_5 : p1 = (5 : Int32)
  · have h := h.1 c9_5
    refine lv_tableIn (tgt := 91) hx hb dX8_count_1 (by rw [c9_5]; decide) (by rw [c9_5]; decide) (by rw [c9_5] <;> rfl) (by decide) ?_
    refine lv_aload_n hx hb dX8_count_91 rfl (lv_at hl 0 rfl) ?_
    refine q_get (T := TX8) (v := .ref (G.2.1 3)) E hh h_inX8 0 (WW_at_0 G σ) rfl 2 (by decide) (List.mem_cons_of_mem _ (List.mem_append_left _ (List.mem_append_left _ (List.mem_append_left _ (List.mem_append_left _ (List.mem_append_left _ (List.mem_append_left _ (List.mem_append_left _ (List.mem_of_getElem? (i := 5) rfl))))))))) rfl rfl dX8_count_92 ?_
    refine q_getN (T := TX7) (host := "IceRegatta") (v := .int (gi σ 3)) E hh h_inX7 3 (WW_at_3 G σ) rfl 1 (by decide) (List.mem_of_getElem? (i := 11) rfl) rfl rfl dX8_count_95 ?_
    exact q_iret E hh hr hlocks h dX8_count_98
  have h := h.2 c9_5
  by_cases c9_6 : p1 = (6 : Int32)
  · have h := h.1 c9_6
    refine lv_tableIn (tgt := 99) hx hb dX8_count_1 (by rw [c9_6]; decide) (by rw [c9_6]; decide) (by rw [c9_6] <;> rfl) (by decide) ?_
    refine lv_aload_n hx hb dX8_count_99 rfl (lv_at hl 0 rfl) ?_
    refine q_get (T := TX8) (v := .ref (G.2.1 7)) E hh h_inX8 0 (WW_at_0 G σ) rfl 5 (by decide) (List.mem_cons_of_mem _ (List.mem_append_left _ (List.mem_append_left _ (List.mem_append_left _ (List.mem_append_left _ (List.mem_append_left _ (List.mem_append_left _ (List.mem_append_left _ (List.mem_of_getElem? (i := 1) rfl))))))))) rfl rfl dX8_count_100 ?_
    refine q_getN (T := TX5) (host := "IceRegatta") (v := .int (gi σ 20)) E hh h_inX5 7 (WW_at_7 G σ) rfl 3 (by decide) (List.mem_of_getElem? (i := 16) rfl) rfl rfl dX8_count_103 ?_
    exact q_iret E hh hr hlocks h dX8_count_106
  have h := h.2 c9_6
  refine lv_tableOut (tgt := 107) hx hb dX8_count_1 (by have z0 := lv_neT c9_0 (show ((0 : Int32)).toInt = 0 by decide); have z1 := lv_neT c9_1 (show ((1 : Int32)).toInt = 1 by decide); have z2 := lv_neT c9_2 (show ((2 : Int32)).toInt = 2 by decide); have z3 := lv_neT c9_3 (show ((3 : Int32)).toInt = 3 by decide); have z4 := lv_neT c9_4 (show ((4 : Int32)).toInt = 4 by decide); have z5 := lv_neT c9_5 (show ((5 : Int32)).toInt = 5 by decide); have z6 := lv_neT c9_6 (show ((6 : Int32)).toInt = 6 by decide); omega) (by decide) ?_
  refine lv_iconst (v := (-1 : Int32)) hx hb dX8_count_107 (by decide) ?_
  exact q_iret E hh hr hlocks h dX8_count_108
