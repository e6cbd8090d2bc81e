def f_L_sound (σ : St) (p1 : Int32) (p2 : Int32) (p3 : Int32) (Q : Int32 → St → Prop) : Prop :=
  f_X8_sound σ p1 p2 p3 (fun r7 s7 => Q (0 : Int32) (so s7 (vp_updL (go s7) (0 : Int32).toNatClampNeg r7.toInt64))) (fun kx sx => (kx = 1 ∧ Q (1 : Int32) sx) ∨ (kx = 2 ∧ Q (2 : Int32) sx))
set_option maxHeartbeats 4000000 in
set_option maxRecDepth 100000 in
theorem c_L_sound (l : Launch) (G : GG) (σ : St) (sz : Nat) (p1 : Int32) (p2 : Int32) (p3 : Int32) (Q : Int32 → St → Prop) (hst : l.stackTraces = false) (h : f_L_sound σ p1 p2 p3 Q) : CLi l yL_sound wsL_sound ({ frames := 8, cells := 1, slots := 6, locals := 134 }) [.ref (G.2.1 0), .int p1, .int p2, .int p3, .ref (G.2.1 47)] G σ sz Q := by
  refine va_MetW (cc := cL_sound) (maxL := 6) (ret := (some .int)) (hh := [(0, 12, 15, 13), (0, 12, 19, 15)]) (by decide) rfl ?_
  intro p e s m args below meth c s₁ B hml hv
  obtain ⟨rfl, hpre⟩ := hv
  have hr := B.returns
  have hlocks := B.notSynchronized
  obtain ⟨hsz, -⟩ := id hpre
  subst hsz
  obtain ⟨E, hh⟩ := EV.ofPre (⟨B.exec, B.bytes, hml, findClass_of_methodNamed B.named, atoms_spec (ws := wsL_sound) B.pre⟩ : CallFix p m c cL_sound 6 s _ wsL_sound RL) hpre
  have hx := E.1.1
  have hb := E.1.2.1
  have hown := E.1.2.2.2.1
  have hts := E.1.2.2.2.2
  have htab := vx_table (x := yL_sound) B (hts _ List.mem_cons_self)
  have hl := lv_entry ([.ref (G.2.1 0), .int p1, .int p2, .int p3, .ref (G.2.1 47)]) (n := 6) (Nat.le_of_ble_eq_true rfl)
  rw [lg_entry_eq]
  generalize (lg_sl ([.ref (G.2.1 0), .int p1, .int p2, .int p3, .ref (G.2.1 47)]) ++ List.replicate (6 - (lg_sl ([.ref (G.2.1 0), .int p1, .int p2, .int p3, .ref (G.2.1 47)])).length) Slot.unset).toArray = ls at hl ⊢
  have hl : lv_has ls 6 [(0, .ref (G.2.1 0)), (1, .int p1), (2, .int p2), (3, .int p3), (4, .ref (G.2.1 47))] := hl
  unfold f_L_sound at h
  refine lv_aload hx hb dL_sound_0 (lv_at hl 4 rfl) ?_
  refine lv_iconst (v := (0 : Int32)) hx hb dL_sound_2 (by decide) ?_
  refine lv_aload_n hx hb dL_sound_3 rfl (lv_at hl 0 rfl) ?_
  refine lv_iload_n hx hb dL_sound_4 rfl (lv_at hl 1 rfl) ?_
  refine lv_iload_n hx hb dL_sound_5 rfl (lv_at hl 2 rfl) ?_
  refine lv_iload_n hx hb dL_sound_6 rfl (lv_at hl 3 rfl) ?_
  refine q_Lxi (As := [.int p1, .int p2, .int p3]) (rest := [.int (0 : Int32), .ref (G.2.1 47)]) E hh (c_X8_sound l G _ _ _ _ _ _ _ hst h) (cwV 3 hts gL_sound_X8_sound rfl rfl rfl (by decide +kernel) ⟨Nat.le_of_ble_eq_true rfl, Nat.le_of_ble_eq_true rfl⟩) (va_recv (ci := 8) E.2.1 hh.1 rfl (WW_at_0 G σ)) rfl hl.1 rfl (Nat.le_of_ble_eq_true rfl) dL_sound_7 ⟨Nat.le_of_ble_eq_true rfl, Nat.le_of_ble_eq_true rfl⟩ (fun kx sx H locs ce q9 h hh hce hcv hcl => ?_) (fun r7 s7 H locs h hh => ?_)
  · rcases h with ⟨rfl, h⟩ | ⟨rfl, h⟩
    · refine q_catch1 (x := ⟨0, 12, 15, 13⟩) (suf := [⟨0, 12, 19, 15⟩]) (name := "java/lang/IndexOutOfBoundsException") E htab (by decide) (by decide) (List.mem_cons_of_mem _ (List.mem_append_left _ (List.mem_append_left _ (List.mem_append_left _ (List.mem_append_left _ (List.mem_append_left _ (List.mem_of_getElem? (i := 0) rfl))))))) rfl (List.mem_of_getElem? (i := 0) rfl) hce hcv hcl ?_
      refine lv_astore (lv' := [(5, .ref q9), (0, .ref (G.2.1 0)), (1, .int p1), (2, .int p2), (3, .int p3), (4, .ref (G.2.1 47))]) hx hb dL_sound_15 hl (by decide) rfl (fun ls hl => ?_)
      refine lv_iconst (v := (1 : Int32)) hx hb dL_sound_17 (by decide) ?_
      exact ql_iret E hh hr hlocks h dL_sound_18
    · refine q_catch2 (y := ⟨0, 12, 15, 13⟩) (x := ⟨0, 12, 19, 15⟩) (suf := []) (name := "java/lang/IllegalArgumentException") (nm1 := "java/lang/IndexOutOfBoundsException") E htab (by decide) (List.mem_cons_of_mem _ (List.mem_append_left _ (List.mem_append_left _ (List.mem_append_left _ (List.mem_append_left _ (List.mem_append_left _ (List.mem_of_getElem? (i := 0) rfl))))))) (List.mem_of_getElem? (i := 0) rfl) (by decide) (by decide) (List.mem_cons_of_mem _ (List.mem_append_left _ (List.mem_append_left _ (List.mem_append_left _ (List.mem_append_left _ (List.mem_append_left _ (List.mem_of_getElem? (i := 1) rfl))))))) rfl (List.mem_of_getElem? (i := 1) rfl) hce hcv hcl ?_
      refine lv_astore (lv' := [(5, .ref q9), (0, .ref (G.2.1 0)), (1, .int p1), (2, .int p2), (3, .int p3), (4, .ref (G.2.1 47))]) hx hb dL_sound_19 hl (by decide) rfl (fun ls hl => ?_)
      refine lv_iconst (v := (2 : Int32)) hx hb dL_sound_21 (by decide) ?_
      exact ql_iret E hh hr hlocks h dL_sound_22
  · refine lv_i2l (v := r7.toInt64) hx hb dL_sound_10 rfl ?_
    refine q_last E hh 47 (WW_at_47 G s7) (vp_in_nI (n := 0) (by decide) (by decide)) dL_sound_11 (WW_so G s7 (vp_updL (go s7) (0 : Int32).toNatClampNeg r7.toInt64)) (fun H locs hh => ?_)
    refine lv_goto (tgt := 23) hx hb dL_sound_12 (by decide) ?_
    refine lv_iconst (v := (0 : Int32)) hx hb dL_sound_23 (by decide) ?_
    exact ql_iret0 E hh hr hlocks h dL_sound_24
def f_L_soundRow (σ : St) (p1 : Int32) (p2 : Int32) (p3 : Int32) (Q : Int32 → St → Prop) : Prop :=
  f_X8_soundRow σ p1 p2 p3 (fun r7 s7 => Q (0 : Int32) (so s7 (vp_updL (go s7) (0 : Int32).toNatClampNeg r7.toInt64))) (fun kx sx => (kx = 1 ∧ Q (1 : Int32) sx) ∨ (kx = 2 ∧ Q (2 : Int32) sx))
set_option maxHeartbeats 4000000 in
set_option maxRecDepth 100000 in
theorem c_L_soundRow (l : Launch) (G : GG) (σ : St) (sz : Nat) (p1 : Int32) (p2 : Int32) (p3 : Int32) (Q : Int32 → St → Prop) (hst : l.stackTraces = false) (h : f_L_soundRow σ p1 p2 p3 Q) : CLi l yL_soundRow wsL_soundRow ({ frames := 8, cells := 1, slots := 6, locals := 136 }) [.ref (G.2.1 0), .int p1, .int p2, .int p3, .ref (G.2.1 47)] G σ sz Q := by
  refine va_MetW (cc := cL_soundRow) (maxL := 6) (ret := (some .int)) (hh := [(0, 12, 15, 13), (0, 12, 19, 15)]) (by decide) rfl ?_
  intro p e s m args below meth c s₁ B hml hv
  obtain ⟨rfl, hpre⟩ := hv
  have hr := B.returns
  have hlocks := B.notSynchronized
  obtain ⟨hsz, -⟩ := id hpre
  subst hsz
  obtain ⟨E, hh⟩ := EV.ofPre (⟨B.exec, B.bytes, hml, findClass_of_methodNamed B.named, atoms_spec (ws := wsL_soundRow) B.pre⟩ : CallFix p m c cL_soundRow 6 s _ wsL_soundRow RL) hpre
  have hx := E.1.1
  have hb := E.1.2.1
  have hown := E.1.2.2.2.1
  have hts := E.1.2.2.2.2
  have htab := vx_table (x := yL_soundRow) B (hts _ List.mem_cons_self)
  have hl := lv_entry ([.ref (G.2.1 0), .int p1, .int p2, .int p3, .ref (G.2.1 47)]) (n := 6) (Nat.le_of_ble_eq_true rfl)
  rw [lg_entry_eq]
  generalize (lg_sl ([.ref (G.2.1 0), .int p1, .int p2, .int p3, .ref (G.2.1 47)]) ++ List.replicate (6 - (lg_sl ([.ref (G.2.1 0), .int p1, .int p2, .int p3, .ref (G.2.1 47)])).length) Slot.unset).toArray = ls at hl ⊢
  have hl : lv_has ls 6 [(0, .ref (G.2.1 0)), (1, .int p1), (2, .int p2), (3, .int p3), (4, .ref (G.2.1 47))] := hl
  unfold f_L_soundRow at h
  refine lv_aload hx hb dL_soundRow_0 (lv_at hl 4 rfl) ?_
  refine lv_iconst (v := (0 : Int32)) hx hb dL_soundRow_2 (by decide) ?_
  refine lv_aload_n hx hb dL_soundRow_3 rfl (lv_at hl 0 rfl) ?_
  refine lv_iload_n hx hb dL_soundRow_4 rfl (lv_at hl 1 rfl) ?_
  refine lv_iload_n hx hb dL_soundRow_5 rfl (lv_at hl 2 rfl) ?_
  refine lv_iload_n hx hb dL_soundRow_6 rfl (lv_at hl 3 rfl) ?_
  refine q_Lxi (As := [.int p1, .int p2, .int p3]) (rest := [.int (0 : Int32), .ref (G.2.1 47)]) E hh (c_X8_soundRow l G _ _ _ _ _ _ _ hst h) (cwV 3 hts gL_soundRow_X8_soundRow rfl rfl rfl (by decide +kernel) ⟨Nat.le_of_ble_eq_true rfl, Nat.le_of_ble_eq_true rfl⟩) (va_recv (ci := 8) E.2.1 hh.1 rfl (WW_at_0 G σ)) rfl hl.1 rfl (Nat.le_of_ble_eq_true rfl) dL_soundRow_7 ⟨Nat.le_of_ble_eq_true rfl, Nat.le_of_ble_eq_true rfl⟩ (fun kx sx H locs ce q9 h hh hce hcv hcl => ?_) (fun r7 s7 H locs h hh => ?_)
  · rcases h with ⟨rfl, h⟩ | ⟨rfl, h⟩
    · refine q_catch1 (x := ⟨0, 12, 15, 13⟩) (suf := [⟨0, 12, 19, 15⟩]) (name := "java/lang/IndexOutOfBoundsException") E htab (by decide) (by decide) (List.mem_cons_of_mem _ (List.mem_append_left _ (List.mem_append_left _ (List.mem_append_left _ (List.mem_append_left _ (List.mem_append_left _ (List.mem_of_getElem? (i := 0) rfl))))))) rfl (List.mem_of_getElem? (i := 0) rfl) hce hcv hcl ?_
      refine lv_astore (lv' := [(5, .ref q9), (0, .ref (G.2.1 0)), (1, .int p1), (2, .int p2), (3, .int p3), (4, .ref (G.2.1 47))]) hx hb dL_soundRow_15 hl (by decide) rfl (fun ls hl => ?_)
      refine lv_iconst (v := (1 : Int32)) hx hb dL_soundRow_17 (by decide) ?_
      exact ql_iret E hh hr hlocks h dL_soundRow_18
    · refine q_catch2 (y := ⟨0, 12, 15, 13⟩) (x := ⟨0, 12, 19, 15⟩) (suf := []) (name := "java/lang/IllegalArgumentException") (nm1 := "java/lang/IndexOutOfBoundsException") E htab (by decide) (List.mem_cons_of_mem _ (List.mem_append_left _ (List.mem_append_left _ (List.mem_append_left _ (List.mem_append_left _ (List.mem_append_left _ (List.mem_of_getElem? (i := 0) rfl))))))) (List.mem_of_getElem? (i := 0) rfl) (by decide) (by decide) (List.mem_cons_of_mem _ (List.mem_append_left _ (List.mem_append_left _ (List.mem_append_left _ (List.mem_append_left _ (List.mem_append_left _ (List.mem_of_getElem? (i := 1) rfl))))))) rfl (List.mem_of_getElem? (i := 1) rfl) hce hcv hcl ?_
      refine lv_astore (lv' := [(5, .ref q9), (0, .ref (G.2.1 0)), (1, .int p1), (2, .int p2), (3, .int p3), (4, .ref (G.2.1 47))]) hx hb dL_soundRow_19 hl (by decide) rfl (fun ls hl => ?_)
      refine lv_iconst (v := (2 : Int32)) hx hb dL_soundRow_21 (by decide) ?_
      exact ql_iret E hh hr hlocks h dL_soundRow_22
  · refine lv_i2l (v := r7.toInt64) hx hb dL_soundRow_10 rfl ?_
    refine q_last E hh 47 (WW_at_47 G s7) (vp_in_nI (n := 0) (by decide) (by decide)) dL_soundRow_11 (WW_so G s7 (vp_updL (go s7) (0 : Int32).toNatClampNeg r7.toInt64)) (fun H locs hh => ?_)
    refine lv_goto (tgt := 23) hx hb dL_soundRow_12 (by decide) ?_
    refine lv_iconst (v := (0 : Int32)) hx hb dL_soundRow_23 (by decide) ?_
    exact ql_iret0 E hh hr hlocks h dL_soundRow_24
def f_L_crack (σ : St) (p1 : Int32) (p2 : Int32) (Q : Int32 → St → Prop) : Prop :=
  f_X8_crack σ p1 p2 (fun r5 s5 => ((r5 = 0 → Q (0 : Int32) (so s5 (vp_updL (go s5) (0 : Int32).toNatClampNeg (0 : Int64)))) ∧ (¬ r5 = 0 → Q (0 : Int32) (so s5 (vp_updL (go s5) (0 : Int32).toNatClampNeg (1 : Int64)))))) (fun kx sx => (kx = 1 ∧ Q (1 : Int32) sx))
set_option maxHeartbeats 4000000 in
set_option maxRecDepth 100000 in
theorem c_L_crack (l : Launch) (G : GG) (σ : St) (sz : Nat) (p1 : Int32) (p2 : Int32) (Q : Int32 → St → Prop) (hst : l.stackTraces = false) (h : f_L_crack σ p1 p2 Q) : CLi l yL_crack wsL_crack ({ frames := 8, cells := 1, slots := 6, locals := 132 }) [.ref (G.2.1 0), .int p1, .int p2, .ref (G.2.1 47)] G σ sz Q := by
  refine va_MetW (cc := cL_crack) (maxL := 5) (ret := (some .int)) (hh := [(0, 17, 20, 13)]) (by decide) rfl ?_
  intro p e s m args below meth c s₁ B hml hv
  obtain ⟨rfl, hpre⟩ := hv
  have hr := B.returns
  have hlocks := B.notSynchronized
  obtain ⟨hsz, -⟩ := id hpre
  subst hsz
  obtain ⟨E, hh⟩ := EV.ofPre (⟨B.exec, B.bytes, hml, findClass_of_methodNamed B.named, atoms_spec (ws := wsL_crack) B.pre⟩ : CallFix p m c cL_crack 5 s _ wsL_crack RL) hpre
  have hx := E.1.1
  have hb := E.1.2.1
  have hown := E.1.2.2.2.1
  have hts := E.1.2.2.2.2
  have htab := vx_table (x := yL_crack) B (hts _ List.mem_cons_self)
  have hl := lv_entry ([.ref (G.2.1 0), .int p1, .int p2, .ref (G.2.1 47)]) (n := 5) (Nat.le_of_ble_eq_true rfl)
  rw [lg_entry_eq]
  generalize (lg_sl ([.ref (G.2.1 0), .int p1, .int p2, .ref (G.2.1 47)]) ++ List.replicate (5 - (lg_sl ([.ref (G.2.1 0), .int p1, .int p2, .ref (G.2.1 47)])).length) Slot.unset).toArray = ls at hl ⊢
  have hl : lv_has ls 5 [(0, .ref (G.2.1 0)), (1, .int p1), (2, .int p2), (3, .ref (G.2.1 47))] := hl
  unfold f_L_crack at h
  refine lv_aload_n hx hb dL_crack_0 rfl (lv_at hl 3 rfl) ?_
  refine lv_iconst (v := (0 : Int32)) hx hb dL_crack_1 (by decide) ?_
  refine lv_aload_n hx hb dL_crack_2 rfl (lv_at hl 0 rfl) ?_
  refine lv_iload_n hx hb dL_crack_3 rfl (lv_at hl 1 rfl) ?_
  refine lv_iload_n hx hb dL_crack_4 rfl (lv_at hl 2 rfl) ?_
  refine q_Lxi (As := [.int p1, .int p2]) (rest := [.int (0 : Int32), .ref (G.2.1 47)]) E hh (c_X8_crack l G _ _ _ _ _ _ hst h) (cwV 2 hts gL_crack_X8_crack rfl rfl rfl (by decide +kernel) ⟨Nat.le_of_ble_eq_true rfl, Nat.le_of_ble_eq_true rfl⟩) (va_recv (ci := 8) E.2.1 hh.1 rfl (WW_at_0 G σ)) rfl hl.1 rfl (Nat.le_of_ble_eq_true rfl) dL_crack_5 ⟨Nat.le_of_ble_eq_true rfl, Nat.le_of_ble_eq_true rfl⟩ (fun kx sx H locs ce q9 h hh hce hcv hcl => ?_) (fun r5 s5 H locs h hh => ?_)
  · obtain ⟨rfl, h⟩ := h
    refine q_catch1 (x := ⟨0, 17, 20, 13⟩) (suf := []) (name := "java/lang/IndexOutOfBoundsException") E htab (by decide) (by decide) (List.mem_cons_of_mem _ (List.mem_append_left _ (List.mem_append_left _ (List.mem_append_left _ (List.mem_of_getElem? (i := 0) rfl))))) rfl (List.mem_of_getElem? (i := 0) rfl) hce hcv hcl ?_
    refine lv_astore (lv' := [(4, .ref q9), (0, .ref (G.2.1 0)), (1, .int p1), (2, .int p2), (3, .ref (G.2.1 47))]) hx hb dL_crack_20 hl (by decide) rfl (fun ls hl => ?_)
    refine lv_iconst (v := (1 : Int32)) hx hb dL_crack_22 (by decide) ?_
    exact ql_iret E hh hr hlocks h dL_crack_23
  · refine lv_if_eq (tgt := 15) hx hb dL_crack_8 (by decide) (fun c9 => ?_) (fun c9 => ?_)
    · have h := h.1 c9
      refine lv_lconst (v := (0 : Int64)) hx hb dL_crack_15 (by decide) ?_
      refine q_last E hh 47 (WW_at_47 G s5) (vp_in_nI (n := 0) (by decide) (by decide)) dL_crack_16 (WW_so G s5 (vp_updL (go s5) (0 : Int32).toNatClampNeg (0 : Int64))) (fun H locs hh => ?_)
      refine lv_goto (tgt := 24) hx hb dL_crack_17 (by decide) ?_
      refine lv_iconst (v := (0 : Int32)) hx hb dL_crack_24 (by decide) ?_
      exact ql_iret0 E hh hr hlocks h dL_crack_25
    · have h := h.2 c9
      refine lv_lconst (v := (1 : Int64)) hx hb dL_crack_11 (by decide) ?_
      refine lv_goto (tgt := 16) hx hb dL_crack_12 (by decide) ?_
      refine q_last E hh 47 (WW_at_47 G s5) (vp_in_nI (n := 0) (by decide) (by decide)) dL_crack_16 (WW_so G s5 (vp_updL (go s5) (0 : Int32).toNatClampNeg (1 : Int64))) (fun H locs hh => ?_)
      refine lv_goto (tgt := 24) hx hb dL_crack_17 (by decide) ?_
      refine lv_iconst (v := (0 : Int32)) hx hb dL_crack_24 (by decide) ?_
      exact ql_iret0 E hh hr hlocks h dL_crack_25
def f_L_hour (σ : St) (p1 : Int32) (Q : Int32 → St → Prop) : Prop :=
  f_X8_hour σ p1 (fun r4 s4 => Q (0 : Int32) (so s4 (vp_updL (go s4) (0 : Int32).toNatClampNeg r4.toInt64))) (fun kx sx => (kx = 2 ∧ Q (1 : Int32) sx))
set_option maxHeartbeats 4000000 in
set_option maxRecDepth 100000 in
theorem c_L_hour (l : Launch) (G : GG) (σ : St) (sz : Nat) (p1 : Int32) (Q : Int32 → St → Prop) (hst : l.stackTraces = false) (h : f_L_hour σ p1 Q) : CLi l yL_hour wsL_hour ({ frames := 8, cells := 1, slots := 6, locals := 131 }) [.ref (G.2.1 0), .int p1, .ref (G.2.1 47)] G σ sz Q := by
  refine va_MetW (cc := cL_hour) (maxL := 4) (ret := (some .int)) (hh := [(0, 9, 12, 15)]) (by decide) rfl ?_
  intro p e s m args below meth c s₁ B hml hv
  obtain ⟨rfl, hpre⟩ := hv
  have hr := B.returns
  have hlocks := B.notSynchronized
  obtain ⟨hsz, -⟩ := id hpre
  subst hsz
  obtain ⟨E, hh⟩ := EV.ofPre (⟨B.exec, B.bytes, hml, findClass_of_methodNamed B.named, atoms_spec (ws := wsL_hour) B.pre⟩ : CallFix p m c cL_hour 4 s _ wsL_hour RL) hpre
  have hx := E.1.1
  have hb := E.1.2.1
  have hown := E.1.2.2.2.1
  have hts := E.1.2.2.2.2
  have htab := vx_table (x := yL_hour) B (hts _ List.mem_cons_self)
  have hl := lv_entry ([.ref (G.2.1 0), .int p1, .ref (G.2.1 47)]) (n := 4) (Nat.le_of_ble_eq_true rfl)
  rw [lg_entry_eq]
  generalize (lg_sl ([.ref (G.2.1 0), .int p1, .ref (G.2.1 47)]) ++ List.replicate (4 - (lg_sl ([.ref (G.2.1 0), .int p1, .ref (G.2.1 47)])).length) Slot.unset).toArray = ls at hl ⊢
  have hl : lv_has ls 4 [(0, .ref (G.2.1 0)), (1, .int p1), (2, .ref (G.2.1 47))] := hl
  unfold f_L_hour at h
  refine lv_aload_n hx hb dL_hour_0 rfl (lv_at hl 2 rfl) ?_
  refine lv_iconst (v := (0 : Int32)) hx hb dL_hour_1 (by decide) ?_
  refine lv_aload_n hx hb dL_hour_2 rfl (lv_at hl 0 rfl) ?_
  refine lv_iload_n hx hb dL_hour_3 rfl (lv_at hl 1 rfl) ?_
  refine q_Lxi (As := [.int p1]) (rest := [.int (0 : Int32), .ref (G.2.1 47)]) E hh (c_X8_hour l G _ _ _ _ _ hst h) (cwV 1 hts gL_hour_X8_hour rfl rfl rfl (by decide +kernel) ⟨Nat.le_of_ble_eq_true rfl, Nat.le_of_ble_eq_true rfl⟩) (va_recv (ci := 8) E.2.1 hh.1 rfl (WW_at_0 G σ)) rfl hl.1 rfl (Nat.le_of_ble_eq_true rfl) dL_hour_4 ⟨Nat.le_of_ble_eq_true rfl, Nat.le_of_ble_eq_true rfl⟩ (fun kx sx H locs ce q9 h hh hce hcv hcl => ?_) (fun r4 s4 H locs h hh => ?_)
  · obtain ⟨rfl, h⟩ := h
    refine q_catch1 (x := ⟨0, 9, 12, 15⟩) (suf := []) (name := "java/lang/IllegalArgumentException") E htab (by decide) (by decide) (List.mem_cons_of_mem _ (List.mem_append_left _ (List.mem_append_left _ (List.mem_append_left _ (List.mem_append_left _ (List.mem_append_left _ (List.mem_of_getElem? (i := 0) rfl))))))) rfl (List.mem_of_getElem? (i := 1) rfl) hce hcv hcl ?_
    refine lv_astore_n (lv' := [(3, .ref q9), (0, .ref (G.2.1 0)), (1, .int p1), (2, .ref (G.2.1 47))]) hx hb dL_hour_12 rfl hl (by decide) rfl (fun ls hl => ?_)
    refine lv_iconst (v := (1 : Int32)) hx hb dL_hour_13 (by decide) ?_
    exact ql_iret E hh hr hlocks h dL_hour_14
  · refine lv_i2l (v := r4.toInt64) hx hb dL_hour_7 rfl ?_
    refine q_last E hh 47 (WW_at_47 G s4) (vp_in_nI (n := 0) (by decide) (by decide)) dL_hour_8 (WW_so G s4 (vp_updL (go s4) (0 : Int32).toNatClampNeg r4.toInt64)) (fun H locs hh => ?_)
    refine lv_goto (tgt := 15) hx hb dL_hour_9 (by decide) ?_
    refine lv_iconst (v := (0 : Int32)) hx hb dL_hour_15 (by decide) ?_
    exact ql_iret0 E hh hr hlocks h dL_hour_16
def f_L_ice (σ : St) (p1 : Int32) (p2 : Int32) (Q : Int32 → St → Prop) : Prop :=
  f_X8_ice σ p1 p2 (fun r5 s5 => Q (0 : Int32) (so s5 (vp_updL (go s5) (0 : Int32).toNatClampNeg r5.toInt64))) (fun kx sx => (kx = 1 ∧ Q (1 : Int32) sx) ∨ (kx = 2 ∧ Q (2 : Int32) sx))
set_option maxHeartbeats 4000000 in
set_option maxRecDepth 100000 in
theorem c_L_ice (l : Launch) (G : GG) (σ : St) (sz : Nat) (p1 : Int32) (p2 : Int32) (Q : Int32 → St → Prop) (hst : l.stackTraces = false) (h : f_L_ice σ p1 p2 Q) : CLi l yL_ice wsL_ice ({ frames := 8, cells := 1, slots := 6, locals := 132 }) [.ref (G.2.1 0), .int p1, .int p2, .ref (G.2.1 47)] G σ sz Q := by
  refine va_MetW (cc := cL_ice) (maxL := 5) (ret := (some .int)) (hh := [(0, 10, 13, 13), (0, 10, 17, 15)]) (by decide) rfl ?_
  intro p e s m args below meth c s₁ B hml hv
  obtain ⟨rfl, hpre⟩ := hv
  have hr := B.returns
  have hlocks := B.notSynchronized
  obtain ⟨hsz, -⟩ := id hpre
  subst hsz
  obtain ⟨E, hh⟩ := EV.ofPre (⟨B.exec, B.bytes, hml, findClass_of_methodNamed B.named, atoms_spec (ws := wsL_ice) B.pre⟩ : CallFix p m c cL_ice 5 s _ wsL_ice RL) hpre
  have hx := E.1.1
  have hb := E.1.2.1
  have hown := E.1.2.2.2.1
  have hts := E.1.2.2.2.2
  have htab := vx_table (x := yL_ice) B (hts _ List.mem_cons_self)
  have hl := lv_entry ([.ref (G.2.1 0), .int p1, .int p2, .ref (G.2.1 47)]) (n := 5) (Nat.le_of_ble_eq_true rfl)
  rw [lg_entry_eq]
  generalize (lg_sl ([.ref (G.2.1 0), .int p1, .int p2, .ref (G.2.1 47)]) ++ List.replicate (5 - (lg_sl ([.ref (G.2.1 0), .int p1, .int p2, .ref (G.2.1 47)])).length) Slot.unset).toArray = ls at hl ⊢
  have hl : lv_has ls 5 [(0, .ref (G.2.1 0)), (1, .int p1), (2, .int p2), (3, .ref (G.2.1 47))] := hl
  unfold f_L_ice at h
  refine lv_aload_n hx hb dL_ice_0 rfl (lv_at hl 3 rfl) ?_
  refine lv_iconst (v := (0 : Int32)) hx hb dL_ice_1 (by decide) ?_
  refine lv_aload_n hx hb dL_ice_2 rfl (lv_at hl 0 rfl) ?_
  refine lv_iload_n hx hb dL_ice_3 rfl (lv_at hl 1 rfl) ?_
  refine lv_iload_n hx hb dL_ice_4 rfl (lv_at hl 2 rfl) ?_
  refine q_Lxi (As := [.int p1, .int p2]) (rest := [.int (0 : Int32), .ref (G.2.1 47)]) E hh (c_X8_ice l G _ _ _ _ _ _ hst h) (cwV 2 hts gL_ice_X8_ice rfl rfl rfl (by decide +kernel) ⟨Nat.le_of_ble_eq_true rfl, Nat.le_of_ble_eq_true rfl⟩) (va_recv (ci := 8) E.2.1 hh.1 rfl (WW_at_0 G σ)) rfl hl.1 rfl (Nat.le_of_ble_eq_true rfl) dL_ice_5 ⟨Nat.le_of_ble_eq_true rfl, Nat.le_of_ble_eq_true rfl⟩ (fun kx sx H locs ce q9 h hh hce hcv hcl => ?_) (fun r5 s5 H locs h hh => ?_)
  · rcases h with ⟨rfl, h⟩ | ⟨rfl, h⟩
    · refine q_catch1 (x := ⟨0, 10, 13, 13⟩) (suf := [⟨0, 10, 17, 15⟩]) (name := "java/lang/IndexOutOfBoundsException") E htab (by decide) (by decide) (List.mem_cons_of_mem _ (List.mem_append_left _ (List.mem_append_left _ (List.mem_append_left _ (List.mem_append_left _ (List.mem_append_left _ (List.mem_append_left _ (List.mem_of_getElem? (i := 0) rfl)))))))) rfl (List.mem_of_getElem? (i := 0) rfl) hce hcv hcl ?_
      refine lv_astore (lv' := [(4, .ref q9), (0, .ref (G.2.1 0)), (1, .int p1), (2, .int p2), (3, .ref (G.2.1 47))]) hx hb dL_ice_13 hl (by decide) rfl (fun ls hl => ?_)
      refine lv_iconst (v := (1 : Int32)) hx hb dL_ice_15 (by decide) ?_
      exact ql_iret E hh hr hlocks h dL_ice_16
    · refine q_catch2 (y := ⟨0, 10, 13, 13⟩) (x := ⟨0, 10, 17, 15⟩) (suf := []) (name := "java/lang/IllegalArgumentException") (nm1 := "java/lang/IndexOutOfBoundsException") E htab (by decide) (List.mem_cons_of_mem _ (List.mem_append_left _ (List.mem_append_left _ (List.mem_append_left _ (List.mem_append_left _ (List.mem_append_left _ (List.mem_append_left _ (List.mem_of_getElem? (i := 0) rfl)))))))) (List.mem_of_getElem? (i := 0) rfl) (by decide) (by decide) (List.mem_cons_of_mem _ (List.mem_append_left _ (List.mem_append_left _ (List.mem_append_left _ (List.mem_append_left _ (List.mem_append_left _ (List.mem_append_left _ (List.mem_of_getElem? (i := 1) rfl)))))))) rfl (List.mem_of_getElem? (i := 1) rfl) hce hcv hcl ?_
      refine lv_astore (lv' := [(4, .ref q9), (0, .ref (G.2.1 0)), (1, .int p1), (2, .int p2), (3, .ref (G.2.1 47))]) hx hb dL_ice_17 hl (by decide) rfl (fun ls hl => ?_)
      refine lv_iconst (v := (2 : Int32)) hx hb dL_ice_19 (by decide) ?_
      exact ql_iret E hh hr hlocks h dL_ice_20
  · refine lv_i2l (v := r5.toInt64) hx hb dL_ice_8 rfl ?_
    refine q_last E hh 47 (WW_at_47 G s5) (vp_in_nI (n := 0) (by decide) (by decide)) dL_ice_9 (WW_so G s5 (vp_updL (go s5) (0 : Int32).toNatClampNeg r5.toInt64)) (fun H locs hh => ?_)
    refine lv_goto (tgt := 21) hx hb dL_ice_10 (by decide) ?_
    refine lv_iconst (v := (0 : Int32)) hx hb dL_ice_21 (by decide) ?_
    exact ql_iret0 E hh hr hlocks h dL_ice_22
def f_L_lasts (σ : St) (p1 : Int32) (p2 : Int32) (Q : Int32 → St → Prop) : Prop :=
  f_X8_lasts σ p1 p2 (fun r5 s5 => Q (0 : Int32) (so s5 (vp_updL (go s5) (0 : Int32).toNatClampNeg r5.toInt64))) (fun kx sx => (kx = 1 ∧ Q (1 : Int32) sx) ∨ (kx = 2 ∧ Q (2 : Int32) sx))
set_option maxHeartbeats 4000000 in
set_option maxRecDepth 100000 in
theorem c_L_lasts (l : Launch) (G : GG) (σ : St) (sz : Nat) (p1 : Int32) (p2 : Int32) (Q : Int32 → St → Prop) (hst : l.stackTraces = false) (h : f_L_lasts σ p1 p2 Q) : CLi l yL_lasts wsL_lasts ({ frames := 8, cells := 1, slots := 6, locals := 132 }) [.ref (G.2.1 0), .int p1, .int p2, .ref (G.2.1 47)] G σ sz Q := by
  refine va_MetW (cc := cL_lasts) (maxL := 5) (ret := (some .int)) (hh := [(0, 10, 13, 13), (0, 10, 17, 15)]) (by decide) rfl ?_
  intro p e s m args below meth c s₁ B hml hv
  obtain ⟨rfl, hpre⟩ := hv
  have hr := B.returns
  have hlocks := B.notSynchronized
  obtain ⟨hsz, -⟩ := id hpre
  subst hsz
  obtain ⟨E, hh⟩ := EV.ofPre (⟨B.exec, B.bytes, hml, findClass_of_methodNamed B.named, atoms_spec (ws := wsL_lasts) B.pre⟩ : CallFix p m c cL_lasts 5 s _ wsL_lasts RL) hpre
  have hx := E.1.1
  have hb := E.1.2.1
  have hown := E.1.2.2.2.1
  have hts := E.1.2.2.2.2
  have htab := vx_table (x := yL_lasts) B (hts _ List.mem_cons_self)
  have hl := lv_entry ([.ref (G.2.1 0), .int p1, .int p2, .ref (G.2.1 47)]) (n := 5) (Nat.le_of_ble_eq_true rfl)
  rw [lg_entry_eq]
  generalize (lg_sl ([.ref (G.2.1 0), .int p1, .int p2, .ref (G.2.1 47)]) ++ List.replicate (5 - (lg_sl ([.ref (G.2.1 0), .int p1, .int p2, .ref (G.2.1 47)])).length) Slot.unset).toArray = ls at hl ⊢
  have hl : lv_has ls 5 [(0, .ref (G.2.1 0)), (1, .int p1), (2, .int p2), (3, .ref (G.2.1 47))] := hl
  unfold f_L_lasts at h
  refine lv_aload_n hx hb dL_lasts_0 rfl (lv_at hl 3 rfl) ?_
  refine lv_iconst (v := (0 : Int32)) hx hb dL_lasts_1 (by decide) ?_
  refine lv_aload_n hx hb dL_lasts_2 rfl (lv_at hl 0 rfl) ?_
  refine lv_iload_n hx hb dL_lasts_3 rfl (lv_at hl 1 rfl) ?_
  refine lv_iload_n hx hb dL_lasts_4 rfl (lv_at hl 2 rfl) ?_
  refine q_Lxi (As := [.int p1, .int p2]) (rest := [.int (0 : Int32), .ref (G.2.1 47)]) E hh (c_X8_lasts l G _ _ _ _ _ _ hst h) (cwV 2 hts gL_lasts_X8_lasts rfl rfl rfl (by decide +kernel) ⟨Nat.le_of_ble_eq_true rfl, Nat.le_of_ble_eq_true rfl⟩) (va_recv (ci := 8) E.2.1 hh.1 rfl (WW_at_0 G σ)) rfl hl.1 rfl (Nat.le_of_ble_eq_true rfl) dL_lasts_5 ⟨Nat.le_of_ble_eq_true rfl, Nat.le_of_ble_eq_true rfl⟩ (fun kx sx H locs ce q9 h hh hce hcv hcl => ?_) (fun r5 s5 H locs h hh => ?_)
  · rcases h with ⟨rfl, h⟩ | ⟨rfl, h⟩
    · refine q_catch1 (x := ⟨0, 10, 13, 13⟩) (suf := [⟨0, 10, 17, 15⟩]) (name := "java/lang/IndexOutOfBoundsException") E htab (by decide) (by decide) (List.mem_cons_of_mem _ (List.mem_append_left _ (List.mem_append_left _ (List.mem_append_left _ (List.mem_append_left _ (List.mem_append_left _ (List.mem_append_left _ (List.mem_of_getElem? (i := 0) rfl)))))))) rfl (List.mem_of_getElem? (i := 0) rfl) hce hcv hcl ?_
      refine lv_astore (lv' := [(4, .ref q9), (0, .ref (G.2.1 0)), (1, .int p1), (2, .int p2), (3, .ref (G.2.1 47))]) hx hb dL_lasts_13 hl (by decide) rfl (fun ls hl => ?_)
      refine lv_iconst (v := (1 : Int32)) hx hb dL_lasts_15 (by decide) ?_
      exact ql_iret E hh hr hlocks h dL_lasts_16
    · refine q_catch2 (y := ⟨0, 10, 13, 13⟩) (x := ⟨0, 10, 17, 15⟩) (suf := []) (name := "java/lang/IllegalArgumentException") (nm1 := "java/lang/IndexOutOfBoundsException") E htab (by decide) (List.mem_cons_of_mem _ (List.mem_append_left _ (List.mem_append_left _ (List.mem_append_left _ (List.mem_append_left _ (List.mem_append_left _ (List.mem_append_left _ (List.mem_of_getElem? (i := 0) rfl)))))))) (List.mem_of_getElem? (i := 0) rfl) (by decide) (by decide) (List.mem_cons_of_mem _ (List.mem_append_left _ (List.mem_append_left _ (List.mem_append_left _ (List.mem_append_left _ (List.mem_append_left _ (List.mem_append_left _ (List.mem_of_getElem? (i := 1) rfl)))))))) rfl (List.mem_of_getElem? (i := 1) rfl) hce hcv hcl ?_
      refine lv_astore (lv' := [(4, .ref q9), (0, .ref (G.2.1 0)), (1, .int p1), (2, .int p2), (3, .ref (G.2.1 47))]) hx hb dL_lasts_17 hl (by decide) rfl (fun ls hl => ?_)
      refine lv_iconst (v := (2 : Int32)) hx hb dL_lasts_19 (by decide) ?_
      exact ql_iret E hh hr hlocks h dL_lasts_20
  · refine lv_i2l (v := r5.toInt64) hx hb dL_lasts_8 rfl ?_
    refine q_last E hh 47 (WW_at_47 G s5) (vp_in_nI (n := 0) (by decide) (by decide)) dL_lasts_9 (WW_so G s5 (vp_updL (go s5) (0 : Int32).toNatClampNeg r5.toInt64)) (fun H locs hh => ?_)
    refine lv_goto (tgt := 21) hx hb dL_lasts_10 (by decide) ?_
    refine lv_iconst (v := (0 : Int32)) hx hb dL_lasts_21 (by decide) ?_
    exact ql_iret0 E hh hr hlocks h dL_lasts_22
def f_L_wind (σ : St) (p1 : Int32) (Q : Int32 → St → Prop) : Prop :=
  f_X8_wind σ p1 (fun r4 s4 => Q (0 : Int32) (so s4 (vp_updL (go s4) (0 : Int32).toNatClampNeg r4.toInt64))) (fun kx sx => (kx = 2 ∧ Q (1 : Int32) sx))
set_option maxHeartbeats 4000000 in
set_option maxRecDepth 100000 in
theorem c_L_wind (l : Launch) (G : GG) (σ : St) (sz : Nat) (p1 : Int32) (Q : Int32 → St → Prop) (hst : l.stackTraces = false) (h : f_L_wind σ p1 Q) : CLi l yL_wind wsL_wind ({ frames := 8, cells := 1, slots := 6, locals := 132 }) [.ref (G.2.1 0), .int p1, .ref (G.2.1 47)] G σ sz Q := by
  refine va_MetW (cc := cL_wind) (maxL := 4) (ret := (some .int)) (hh := [(0, 9, 12, 15)]) (by decide) rfl ?_
  intro p e s m args below meth c s₁ B hml hv
  obtain ⟨rfl, hpre⟩ := hv
  have hr := B.returns
  have hlocks := B.notSynchronized
  obtain ⟨hsz, -⟩ := id hpre
  subst hsz
  obtain ⟨E, hh⟩ := EV.ofPre (⟨B.exec, B.bytes, hml, findClass_of_methodNamed B.named, atoms_spec (ws := wsL_wind) B.pre⟩ : CallFix p m c cL_wind 4 s _ wsL_wind RL) hpre
  have hx := E.1.1
  have hb := E.1.2.1
  have hown := E.1.2.2.2.1
  have hts := E.1.2.2.2.2
  have htab := vx_table (x := yL_wind) B (hts _ List.mem_cons_self)
  have hl := lv_entry ([.ref (G.2.1 0), .int p1, .ref (G.2.1 47)]) (n := 4) (Nat.le_of_ble_eq_true rfl)
  rw [lg_entry_eq]
  generalize (lg_sl ([.ref (G.2.1 0), .int p1, .ref (G.2.1 47)]) ++ List.replicate (4 - (lg_sl ([.ref (G.2.1 0), .int p1, .ref (G.2.1 47)])).length) Slot.unset).toArray = ls at hl ⊢
  have hl : lv_has ls 4 [(0, .ref (G.2.1 0)), (1, .int p1), (2, .ref (G.2.1 47))] := hl
  unfold f_L_wind at h
  refine lv_aload_n hx hb dL_wind_0 rfl (lv_at hl 2 rfl) ?_
  refine lv_iconst (v := (0 : Int32)) hx hb dL_wind_1 (by decide) ?_
  refine lv_aload_n hx hb dL_wind_2 rfl (lv_at hl 0 rfl) ?_
  refine lv_iload_n hx hb dL_wind_3 rfl (lv_at hl 1 rfl) ?_
  refine q_Lxi (As := [.int p1]) (rest := [.int (0 : Int32), .ref (G.2.1 47)]) E hh (c_X8_wind l G _ _ _ _ _ hst h) (cwV 1 hts gL_wind_X8_wind rfl rfl rfl (by decide +kernel) ⟨Nat.le_of_ble_eq_true rfl, Nat.le_of_ble_eq_true rfl⟩) (va_recv (ci := 8) E.2.1 hh.1 rfl (WW_at_0 G σ)) rfl hl.1 rfl (Nat.le_of_ble_eq_true rfl) dL_wind_4 ⟨Nat.le_of_ble_eq_true rfl, Nat.le_of_ble_eq_true rfl⟩ (fun kx sx H locs ce q9 h hh hce hcv hcl => ?_) (fun r4 s4 H locs h hh => ?_)
  · obtain ⟨rfl, h⟩ := h
    refine q_catch1 (x := ⟨0, 9, 12, 15⟩) (suf := []) (name := "java/lang/IllegalArgumentException") E htab (by decide) (by decide) (List.mem_cons_of_mem _ (List.mem_append_left _ (List.mem_append_left _ (List.mem_of_getElem? (i := 0) rfl)))) rfl (List.mem_of_getElem? (i := 1) rfl) hce hcv hcl ?_
    refine lv_astore_n (lv' := [(3, .ref q9), (0, .ref (G.2.1 0)), (1, .int p1), (2, .ref (G.2.1 47))]) hx hb dL_wind_12 rfl hl (by decide) rfl (fun ls hl => ?_)
    refine lv_iconst (v := (1 : Int32)) hx hb dL_wind_13 (by decide) ?_
    exact ql_iret E hh hr hlocks h dL_wind_14
  · refine lv_i2l (v := r4.toInt64) hx hb dL_wind_7 rfl ?_
    refine q_last E hh 47 (WW_at_47 G s4) (vp_in_nI (n := 0) (by decide) (by decide)) dL_wind_8 (WW_so G s4 (vp_updL (go s4) (0 : Int32).toNatClampNeg r4.toInt64)) (fun H locs hh => ?_)
    refine lv_goto (tgt := 15) hx hb dL_wind_9 (by decide) ?_
    refine lv_iconst (v := (0 : Int32)) hx hb dL_wind_15 (by decide) ?_
    exact ql_iret0 E hh hr hlocks h dL_wind_16
def f_L_move (σ : St) (p1 : Int32) (Q : Int32 → St → Prop) : Prop :=
  f_X8_move σ p1 (fun r4 s4 => Q (0 : Int32) (so s4 (vp_updL (go s4) (0 : Int32).toNatClampNeg r4.toInt64))) (fun kx sx => (kx = 2 ∧ Q (1 : Int32) sx))
set_option maxHeartbeats 4000000 in
set_option maxRecDepth 100000 in
theorem c_L_move (l : Launch) (G : GG) (σ : St) (sz : Nat) (p1 : Int32) (Q : Int32 → St → Prop) (hst : l.stackTraces = false) (h : f_L_move σ p1 Q) : CLi l yL_move wsL_move ({ frames := 7, cells := 1, slots := 6, locals := 141 }) [.ref (G.2.1 0), .int p1, .ref (G.2.1 47)] G σ sz Q := by
  refine va_MetW (cc := cL_move) (maxL := 4) (ret := (some .int)) (hh := [(0, 9, 12, 15)]) (by decide) rfl ?_
  intro p e s m args below meth c s₁ B hml hv
  obtain ⟨rfl, hpre⟩ := hv
  have hr := B.returns
  have hlocks := B.notSynchronized
  obtain ⟨hsz, -⟩ := id hpre
  subst hsz
  obtain ⟨E, hh⟩ := EV.ofPre (⟨B.exec, B.bytes, hml, findClass_of_methodNamed B.named, atoms_spec (ws := wsL_move) B.pre⟩ : CallFix p m c cL_move 4 s _ wsL_move RL) hpre
  have hx := E.1.1
  have hb := E.1.2.1
  have hown := E.1.2.2.2.1
  have hts := E.1.2.2.2.2
  have htab := vx_table (x := yL_move) B (hts _ List.mem_cons_self)
  have hl := lv_entry ([.ref (G.2.1 0), .int p1, .ref (G.2.1 47)]) (n := 4) (Nat.le_of_ble_eq_true rfl)
  rw [lg_entry_eq]
  generalize (lg_sl ([.ref (G.2.1 0), .int p1, .ref (G.2.1 47)]) ++ List.replicate (4 - (lg_sl ([.ref (G.2.1 0), .int p1, .ref (G.2.1 47)])).length) Slot.unset).toArray = ls at hl ⊢
  have hl : lv_has ls 4 [(0, .ref (G.2.1 0)), (1, .int p1), (2, .ref (G.2.1 47))] := hl
  unfold f_L_move at h
  refine lv_aload_n hx hb dL_move_0 rfl (lv_at hl 2 rfl) ?_
  refine lv_iconst (v := (0 : Int32)) hx hb dL_move_1 (by decide) ?_
  refine lv_aload_n hx hb dL_move_2 rfl (lv_at hl 0 rfl) ?_
  refine lv_iload_n hx hb dL_move_3 rfl (lv_at hl 1 rfl) ?_
  refine q_Lxi (As := [.int p1]) (rest := [.int (0 : Int32), .ref (G.2.1 47)]) E hh (c_X8_move l G _ _ _ _ _ hst h) (cwV 1 hts gL_move_X8_move rfl rfl rfl (by decide +kernel) ⟨Nat.le_of_ble_eq_true rfl, Nat.le_of_ble_eq_true rfl⟩) (va_recv (ci := 8) E.2.1 hh.1 rfl (WW_at_0 G σ)) rfl hl.1 rfl (Nat.le_of_ble_eq_true rfl) dL_move_4 ⟨Nat.le_of_ble_eq_true rfl, Nat.le_of_ble_eq_true rfl⟩ (fun kx sx H locs ce q9 h hh hce hcv hcl => ?_) (fun r4 s4 H locs h hh => ?_)
  · obtain ⟨rfl, h⟩ := h
    refine q_catch1 (x := ⟨0, 9, 12, 15⟩) (suf := []) (name := "java/lang/IllegalArgumentException") E htab (by decide) (by decide) (List.mem_cons_of_mem _ (List.mem_append_left _ (List.mem_append_left _ (List.mem_append_left _ (List.mem_append_left _ (List.mem_append_left _ (List.mem_append_left _ (List.mem_of_getElem? (i := 0) rfl)))))))) rfl (List.mem_of_getElem? (i := 1) rfl) hce hcv hcl ?_
    refine lv_astore_n (lv' := [(3, .ref q9), (0, .ref (G.2.1 0)), (1, .int p1), (2, .ref (G.2.1 47))]) hx hb dL_move_12 rfl hl (by decide) rfl (fun ls hl => ?_)
    refine lv_iconst (v := (1 : Int32)) hx hb dL_move_13 (by decide) ?_
    exact ql_iret E hh hr hlocks h dL_move_14
  · refine lv_i2l (v := r4.toInt64) hx hb dL_move_7 rfl ?_
    refine q_last E hh 47 (WW_at_47 G s4) (vp_in_nI (n := 0) (by decide) (by decide)) dL_move_8 (WW_so G s4 (vp_updL (go s4) (0 : Int32).toNatClampNeg r4.toInt64)) (fun H locs hh => ?_)
    refine lv_goto (tgt := 15) hx hb dL_move_9 (by decide) ?_
    refine lv_iconst (v := (0 : Int32)) hx hb dL_move_15 (by decide) ?_
    exact ql_iret0 E hh hr hlocks h dL_move_16
def f_L_mark (σ : St) (p1 : Int32) (Q : Int32 → St → Prop) : Prop :=
  f_X8_mark σ p1 (fun r4 s4 => Q (0 : Int32) (so s4 (vp_updL (go s4) (0 : Int32).toNatClampNeg r4.toInt64))) (fun kx sx => (kx = 2 ∧ Q (1 : Int32) sx))
set_option maxHeartbeats 4000000 in
set_option maxRecDepth 100000 in
theorem c_L_mark (l : Launch) (G : GG) (σ : St) (sz : Nat) (p1 : Int32) (Q : Int32 → St → Prop) (hst : l.stackTraces = false) (h : f_L_mark σ p1 Q) : CLi l yL_mark wsL_mark ({ frames := 7, cells := 1, slots := 6, locals := 111 }) [.ref (G.2.1 0), .int p1, .ref (G.2.1 47)] G σ sz Q := by
  refine va_MetW (cc := cL_mark) (maxL := 4) (ret := (some .int)) (hh := [(0, 9, 12, 15)]) (by decide) rfl ?_
  intro p e s m args below meth c s₁ B hml hv
  obtain ⟨rfl, hpre⟩ := hv
  have hr := B.returns
  have hlocks := B.notSynchronized
  obtain ⟨hsz, -⟩ := id hpre
  subst hsz
  obtain ⟨E, hh⟩ := EV.ofPre (⟨B.exec, B.bytes, hml, findClass_of_methodNamed B.named, atoms_spec (ws := wsL_mark) B.pre⟩ : CallFix p m c cL_mark 4 s _ wsL_mark RL) hpre
  have hx := E.1.1
  have hb := E.1.2.1
  have hown := E.1.2.2.2.1
  have hts := E.1.2.2.2.2
  have htab := vx_table (x := yL_mark) B (hts _ List.mem_cons_self)
  have hl := lv_entry ([.ref (G.2.1 0), .int p1, .ref (G.2.1 47)]) (n := 4) (Nat.le_of_ble_eq_true rfl)
  rw [lg_entry_eq]
  generalize (lg_sl ([.ref (G.2.1 0), .int p1, .ref (G.2.1 47)]) ++ List.replicate (4 - (lg_sl ([.ref (G.2.1 0), .int p1, .ref (G.2.1 47)])).length) Slot.unset).toArray = ls at hl ⊢
  have hl : lv_has ls 4 [(0, .ref (G.2.1 0)), (1, .int p1), (2, .ref (G.2.1 47))] := hl
  unfold f_L_mark at h
  refine lv_aload_n hx hb dL_mark_0 rfl (lv_at hl 2 rfl) ?_
  refine lv_iconst (v := (0 : Int32)) hx hb dL_mark_1 (by decide) ?_
  refine lv_aload_n hx hb dL_mark_2 rfl (lv_at hl 0 rfl) ?_
  refine lv_iload_n hx hb dL_mark_3 rfl (lv_at hl 1 rfl) ?_
  refine q_Lxi (As := [.int p1]) (rest := [.int (0 : Int32), .ref (G.2.1 47)]) E hh (c_X8_mark l G _ _ _ _ _ hst h) (cwV 1 hts gL_mark_X8_mark rfl rfl rfl (by decide +kernel) ⟨Nat.le_of_ble_eq_true rfl, Nat.le_of_ble_eq_true rfl⟩) (va_recv (ci := 8) E.2.1 hh.1 rfl (WW_at_0 G σ)) rfl hl.1 rfl (Nat.le_of_ble_eq_true rfl) dL_mark_4 ⟨Nat.le_of_ble_eq_true rfl, Nat.le_of_ble_eq_true rfl⟩ (fun kx sx H locs ce q9 h hh hce hcv hcl => ?_) (fun r4 s4 H locs h hh => ?_)
  · obtain ⟨rfl, h⟩ := h
    refine q_catch1 (x := ⟨0, 9, 12, 15⟩) (suf := []) (name := "java/lang/IllegalArgumentException") E htab (by decide) (by decide) (List.mem_cons_of_mem _ (List.mem_append_left _ (List.mem_append_left _ (List.mem_append_left _ (List.mem_of_getElem? (i := 0) rfl))))) rfl (List.mem_of_getElem? (i := 1) rfl) hce hcv hcl ?_
    refine lv_astore_n (lv' := [(3, .ref q9), (0, .ref (G.2.1 0)), (1, .int p1), (2, .ref (G.2.1 47))]) hx hb dL_mark_12 rfl hl (by decide) rfl (fun ls hl => ?_)
    refine lv_iconst (v := (1 : Int32)) hx hb dL_mark_13 (by decide) ?_
    exact ql_iret E hh hr hlocks h dL_mark_14
  · refine lv_i2l (v := r4.toInt64) hx hb dL_mark_7 rfl ?_
    refine q_last E hh 47 (WW_at_47 G s4) (vp_in_nI (n := 0) (by decide) (by decide)) dL_mark_8 (WW_so G s4 (vp_updL (go s4) (0 : Int32).toNatClampNeg r4.toInt64)) (fun H locs hh => ?_)
    refine lv_goto (tgt := 15) hx hb dL_mark_9 (by decide) ?_
    refine lv_iconst (v := (0 : Int32)) hx hb dL_mark_15 (by decide) ?_
    exact ql_iret0 E hh hr hlocks h dL_mark_16
def f_L_rule (σ : St) (p1 : Int32) (Q : Int32 → St → Prop) : Prop :=
  f_X8_rule σ p1 (fun r4 s4 => Q (0 : Int32) (so s4 (vp_updL (go s4) (0 : Int32).toNatClampNeg r4.toInt64))) (fun kx sx => (kx = 2 ∧ Q (1 : Int32) sx))
set_option maxHeartbeats 4000000 in
set_option maxRecDepth 100000 in
theorem c_L_rule (l : Launch) (G : GG) (σ : St) (sz : Nat) (p1 : Int32) (Q : Int32 → St → Prop) (hst : l.stackTraces = false) (h : f_L_rule σ p1 Q) : CLi l yL_rule wsL_rule ({ frames := 10, cells := 1, slots := 6, locals := 220 }) [.ref (G.2.1 0), .int p1, .ref (G.2.1 47)] G σ sz Q := by
  refine va_MetW (cc := cL_rule) (maxL := 4) (ret := (some .int)) (hh := [(0, 9, 12, 15)]) (by decide) rfl ?_
  intro p e s m args below meth c s₁ B hml hv
  obtain ⟨rfl, hpre⟩ := hv
  have hr := B.returns
  have hlocks := B.notSynchronized
  obtain ⟨hsz, -⟩ := id hpre
  subst hsz
  obtain ⟨E, hh⟩ := EV.ofPre (⟨B.exec, B.bytes, hml, findClass_of_methodNamed B.named, atoms_spec (ws := wsL_rule) B.pre⟩ : CallFix p m c cL_rule 4 s _ wsL_rule RL) hpre
  have hx := E.1.1
  have hb := E.1.2.1
  have hown := E.1.2.2.2.1
  have hts := E.1.2.2.2.2
  have htab := vx_table (x := yL_rule) B (hts _ List.mem_cons_self)
  have hl := lv_entry ([.ref (G.2.1 0), .int p1, .ref (G.2.1 47)]) (n := 4) (Nat.le_of_ble_eq_true rfl)
  rw [lg_entry_eq]
  generalize (lg_sl ([.ref (G.2.1 0), .int p1, .ref (G.2.1 47)]) ++ List.replicate (4 - (lg_sl ([.ref (G.2.1 0), .int p1, .ref (G.2.1 47)])).length) Slot.unset).toArray = ls at hl ⊢
  have hl : lv_has ls 4 [(0, .ref (G.2.1 0)), (1, .int p1), (2, .ref (G.2.1 47))] := hl
  unfold f_L_rule at h
  refine lv_aload_n hx hb dL_rule_0 rfl (lv_at hl 2 rfl) ?_
  refine lv_iconst (v := (0 : Int32)) hx hb dL_rule_1 (by decide) ?_
  refine lv_aload_n hx hb dL_rule_2 rfl (lv_at hl 0 rfl) ?_
  refine lv_iload_n hx hb dL_rule_3 rfl (lv_at hl 1 rfl) ?_
  refine q_Lxi (As := [.int p1]) (rest := [.int (0 : Int32), .ref (G.2.1 47)]) E hh (c_X8_rule l G _ _ _ _ _ hst h) (cwV 1 hts gL_rule_X8_rule rfl rfl rfl (by decide +kernel) ⟨Nat.le_of_ble_eq_true rfl, Nat.le_of_ble_eq_true rfl⟩) (va_recv (ci := 8) E.2.1 hh.1 rfl (WW_at_0 G σ)) rfl hl.1 rfl (Nat.le_of_ble_eq_true rfl) dL_rule_4 ⟨Nat.le_of_ble_eq_true rfl, Nat.le_of_ble_eq_true rfl⟩ (fun kx sx H locs ce q9 h hh hce hcv hcl => ?_) (fun r4 s4 H locs h hh => ?_)
  · obtain ⟨rfl, h⟩ := h
    refine q_catch1 (x := ⟨0, 9, 12, 15⟩) (suf := []) (name := "java/lang/IllegalArgumentException") E htab (by decide) (by decide) (List.mem_cons_of_mem _ (List.mem_append_left _ (List.mem_append_left _ (List.mem_append_left _ (List.mem_append_left _ (List.mem_append_left _ (List.mem_of_getElem? (i := 0) rfl))))))) rfl (List.mem_of_getElem? (i := 1) rfl) hce hcv hcl ?_
    refine lv_astore_n (lv' := [(3, .ref q9), (0, .ref (G.2.1 0)), (1, .int p1), (2, .ref (G.2.1 47))]) hx hb dL_rule_12 rfl hl (by decide) rfl (fun ls hl => ?_)
    refine lv_iconst (v := (1 : Int32)) hx hb dL_rule_13 (by decide) ?_
    exact ql_iret E hh hr hlocks h dL_rule_14
  · refine lv_i2l (v := r4.toInt64) hx hb dL_rule_7 rfl ?_
    refine q_last E hh 47 (WW_at_47 G s4) (vp_in_nI (n := 0) (by decide) (by decide)) dL_rule_8 (WW_so G s4 (vp_updL (go s4) (0 : Int32).toNatClampNeg r4.toInt64)) (fun H locs hh => ?_)
    refine lv_goto (tgt := 15) hx hb dL_rule_9 (by decide) ?_
    refine lv_iconst (v := (0 : Int32)) hx hb dL_rule_15 (by decide) ?_
    exact ql_iret0 E hh hr hlocks h dL_rule_16
def f_L_boat (σ : St)  (Q : Int32 → St → Prop) : Prop :=
  f_X8_boat σ (fun r3 s3 => Q (0 : Int32) (so s3 (vp_updL (go s3) (0 : Int32).toNatClampNeg r3.toInt64))) (fun kx sx => (kx = 3 ∧ Q (1 : Int32) sx))
set_option maxHeartbeats 4000000 in
set_option maxRecDepth 100000 in
theorem c_L_boat (l : Launch) (G : GG) (σ : St) (sz : Nat)  (Q : Int32 → St → Prop) (hst : l.stackTraces = false) (h : f_L_boat σ  Q) : CLi l yL_boat wsL_boat ({ frames := 7, cells := 1, slots := 6, locals := 110 }) [.ref (G.2.1 0), .ref (G.2.1 47)] G σ sz Q := by
  refine va_MetW (cc := cL_boat) (maxL := 3) (ret := (some .int)) (hh := [(0, 8, 11, 51)]) (by decide) rfl ?_
  intro p e s m args below meth c s₁ B hml hv
  obtain ⟨rfl, hpre⟩ := hv
  have hr := B.returns
  have hlocks := B.notSynchronized
  obtain ⟨hsz, -⟩ := id hpre
  subst hsz
  obtain ⟨E, hh⟩ := EV.ofPre (⟨B.exec, B.bytes, hml, findClass_of_methodNamed B.named, atoms_spec (ws := wsL_boat) B.pre⟩ : CallFix p m c cL_boat 3 s _ wsL_boat RL) hpre
  have hx := E.1.1
  have hb := E.1.2.1
  have hown := E.1.2.2.2.1
  have hts := E.1.2.2.2.2
  have htab := vx_table (x := yL_boat) B (hts _ List.mem_cons_self)
  have hl := lv_entry ([.ref (G.2.1 0), .ref (G.2.1 47)]) (n := 3) (Nat.le_of_ble_eq_true rfl)
  rw [lg_entry_eq]
  generalize (lg_sl ([.ref (G.2.1 0), .ref (G.2.1 47)]) ++ List.replicate (3 - (lg_sl ([.ref (G.2.1 0), .ref (G.2.1 47)])).length) Slot.unset).toArray = ls at hl ⊢
  have hl : lv_has ls 3 [(0, .ref (G.2.1 0)), (1, .ref (G.2.1 47))] := hl
  unfold f_L_boat at h
  refine lv_aload_n hx hb dL_boat_0 rfl (lv_at hl 1 rfl) ?_
  refine lv_iconst (v := (0 : Int32)) hx hb dL_boat_1 (by decide) ?_
  refine lv_aload_n hx hb dL_boat_2 rfl (lv_at hl 0 rfl) ?_
  refine q_Lxi (As := []) (rest := [.int (0 : Int32), .ref (G.2.1 47)]) E hh (c_X8_boat l G _ _  _ _ hst h) (cwV 0 hts gL_boat_X8_boat rfl rfl rfl (by decide +kernel) ⟨Nat.le_of_ble_eq_true rfl, Nat.le_of_ble_eq_true rfl⟩) (va_recv (ci := 8) E.2.1 hh.1 rfl (WW_at_0 G σ)) rfl hl.1 rfl (Nat.le_of_ble_eq_true rfl) dL_boat_3 ⟨Nat.le_of_ble_eq_true rfl, Nat.le_of_ble_eq_true rfl⟩ (fun kx sx H locs ce q9 h hh hce hcv hcl => ?_) (fun r3 s3 H locs h hh => ?_)
  · obtain ⟨rfl, h⟩ := h
    refine q_catch1 (x := ⟨0, 8, 11, 51⟩) (suf := []) (name := "java/lang/IllegalStateException") E htab (by decide) (by decide) (List.mem_cons_of_mem _ (List.mem_append_left _ (List.mem_append_left _ (List.mem_append_left _ (List.mem_of_getElem? (i := 0) rfl))))) rfl (List.mem_of_getElem? (i := 2) rfl) hce hcv hcl ?_
    refine lv_astore_n (lv' := [(2, .ref q9), (0, .ref (G.2.1 0)), (1, .ref (G.2.1 47))]) hx hb dL_boat_11 rfl hl (by decide) rfl (fun ls hl => ?_)
    refine lv_iconst (v := (1 : Int32)) hx hb dL_boat_12 (by decide) ?_
    exact ql_iret E hh hr hlocks h dL_boat_13
  · refine lv_i2l (v := r3.toInt64) hx hb dL_boat_6 rfl ?_
    refine q_last E hh 47 (WW_at_47 G s3) (vp_in_nI (n := 0) (by decide) (by decide)) dL_boat_7 (WW_so G s3 (vp_updL (go s3) (0 : Int32).toNatClampNeg r3.toInt64)) (fun H locs hh => ?_)
    refine lv_goto (tgt := 14) hx hb dL_boat_8 (by decide) ?_
    refine lv_iconst (v := (0 : Int32)) hx hb dL_boat_14 (by decide) ?_
    exact ql_iret0 E hh hr hlocks h dL_boat_15
def f_L_place (σ : St) (p1 : Int32) (p2 : Int32) (p3 : Int32) (p4 : Int32) (Q : Int32 → St → Prop) : Prop :=
  f_X8_place σ p1 p2 p3 p4 (fun r9 s9 => Q (0 : Int32) (so s9 (vp_updL (go s9) (0 : Int32).toNatClampNeg r9.toInt64))) (fun kx sx => (kx = 1 ∧ Q (1 : Int32) sx) ∨ (kx = 2 ∧ Q (2 : Int32) sx))
set_option maxHeartbeats 4000000 in
set_option maxRecDepth 100000 in
theorem c_L_place (l : Launch) (G : GG) (σ : St) (sz : Nat) (p1 : Int32) (p2 : Int32) (p3 : Int32) (p4 : Int32) (Q : Int32 → St → Prop) (hst : l.stackTraces = false) (h : f_L_place σ p1 p2 p3 p4 Q) : CLi l yL_place wsL_place ({ frames := 8, cells := 1, slots := 6, locals := 135 }) [.ref (G.2.1 0), .int p1, .int p2, .int p3, .int p4, .ref (G.2.1 47)] G σ sz Q := by
  refine va_MetW (cc := cL_place) (maxL := 7) (ret := (some .int)) (hh := [(0, 14, 17, 13), (0, 14, 21, 15)]) (by decide) rfl ?_
  intro p e s m args below meth c s₁ B hml hv
  obtain ⟨rfl, hpre⟩ := hv
  have hr := B.returns
  have hlocks := B.notSynchronized
  obtain ⟨hsz, -⟩ := id hpre
  subst hsz
  obtain ⟨E, hh⟩ := EV.ofPre (⟨B.exec, B.bytes, hml, findClass_of_methodNamed B.named, atoms_spec (ws := wsL_place) B.pre⟩ : CallFix p m c cL_place 7 s _ wsL_place RL) hpre
  have hx := E.1.1
  have hb := E.1.2.1
  have hown := E.1.2.2.2.1
  have hts := E.1.2.2.2.2
  have htab := vx_table (x := yL_place) B (hts _ List.mem_cons_self)
  have hl := lv_entry ([.ref (G.2.1 0), .int p1, .int p2, .int p3, .int p4, .ref (G.2.1 47)]) (n := 7) (Nat.le_of_ble_eq_true rfl)
  rw [lg_entry_eq]
  generalize (lg_sl ([.ref (G.2.1 0), .int p1, .int p2, .int p3, .int p4, .ref (G.2.1 47)]) ++ List.replicate (7 - (lg_sl ([.ref (G.2.1 0), .int p1, .int p2, .int p3, .int p4, .ref (G.2.1 47)])).length) Slot.unset).toArray = ls at hl ⊢
  have hl : lv_has ls 7 [(0, .ref (G.2.1 0)), (1, .int p1), (2, .int p2), (3, .int p3), (4, .int p4), (5, .ref (G.2.1 47))] := hl
  unfold f_L_place at h
  refine lv_aload hx hb dL_place_0 (lv_at hl 5 rfl) ?_
  refine lv_iconst (v := (0 : Int32)) hx hb dL_place_2 (by decide) ?_
  refine lv_aload_n hx hb dL_place_3 rfl (lv_at hl 0 rfl) ?_
  refine lv_iload_n hx hb dL_place_4 rfl (lv_at hl 1 rfl) ?_
  refine lv_iload_n hx hb dL_place_5 rfl (lv_at hl 2 rfl) ?_
  refine lv_iload_n hx hb dL_place_6 rfl (lv_at hl 3 rfl) ?_
  refine lv_iload hx hb dL_place_7 (lv_at hl 4 rfl) ?_
  refine q_Lxi (As := [.int p1, .int p2, .int p3, .int p4]) (rest := [.int (0 : Int32), .ref (G.2.1 47)]) E hh (c_X8_place l G _ _ _ _ _ _ _ _ hst h) (cwV 4 hts gL_place_X8_place rfl rfl rfl (by decide +kernel) ⟨Nat.le_of_ble_eq_true rfl, Nat.le_of_ble_eq_true rfl⟩) (va_recv (ci := 8) E.2.1 hh.1 rfl (WW_at_0 G σ)) rfl hl.1 rfl (Nat.le_of_ble_eq_true rfl) dL_place_9 ⟨Nat.le_of_ble_eq_true rfl, Nat.le_of_ble_eq_true rfl⟩ (fun kx sx H locs ce q9 h hh hce hcv hcl => ?_) (fun r9 s9 H locs h hh => ?_)
  · rcases h with ⟨rfl, h⟩ | ⟨rfl, h⟩
    · refine q_catch1 (x := ⟨0, 14, 17, 13⟩) (suf := [⟨0, 14, 21, 15⟩]) (name := "java/lang/IndexOutOfBoundsException") E htab (by decide) (by decide) (List.mem_cons_of_mem _ (List.mem_append_left _ (List.mem_append_left _ (List.mem_append_left _ (List.mem_append_left _ (List.mem_append_left _ (List.mem_of_getElem? (i := 0) rfl))))))) rfl (List.mem_of_getElem? (i := 0) rfl) hce hcv hcl ?_
      refine lv_astore (lv' := [(6, .ref q9), (0, .ref (G.2.1 0)), (1, .int p1), (2, .int p2), (3, .int p3), (4, .int p4), (5, .ref (G.2.1 47))]) hx hb dL_place_17 hl (by decide) rfl (fun ls hl => ?_)
      refine lv_iconst (v := (1 : Int32)) hx hb dL_place_19 (by decide) ?_
      exact ql_iret E hh hr hlocks h dL_place_20
    · refine q_catch2 (y := ⟨0, 14, 17, 13⟩) (x := ⟨0, 14, 21, 15⟩) (suf := []) (name := "java/lang/IllegalArgumentException") (nm1 := "java/lang/IndexOutOfBoundsException") E htab (by decide) (List.mem_cons_of_mem _ (List.mem_append_left _ (List.mem_append_left _ (List.mem_append_left _ (List.mem_append_left _ (List.mem_append_left _ (List.mem_of_getElem? (i := 0) rfl))))))) (List.mem_of_getElem? (i := 0) rfl) (by decide) (by decide) (List.mem_cons_of_mem _ (List.mem_append_left _ (List.mem_append_left _ (List.mem_append_left _ (List.mem_append_left _ (List.mem_append_left _ (List.mem_of_getElem? (i := 1) rfl))))))) rfl (List.mem_of_getElem? (i := 1) rfl) hce hcv hcl ?_
      refine lv_astore (lv' := [(6, .ref q9), (0, .ref (G.2.1 0)), (1, .int p1), (2, .int p2), (3, .int p3), (4, .int p4), (5, .ref (G.2.1 47))]) hx hb dL_place_21 hl (by decide) rfl (fun ls hl => ?_)
      refine lv_iconst (v := (2 : Int32)) hx hb dL_place_23 (by decide) ?_
      exact ql_iret E hh hr hlocks h dL_place_24
  · refine lv_i2l (v := r9.toInt64) hx hb dL_place_12 rfl ?_
    refine q_last E hh 47 (WW_at_47 G s9) (vp_in_nI (n := 0) (by decide) (by decide)) dL_place_13 (WW_so G s9 (vp_updL (go s9) (0 : Int32).toNatClampNeg r9.toInt64)) (fun H locs hh => ?_)
    refine lv_goto (tgt := 25) hx hb dL_place_14 (by decide) ?_
    refine lv_iconst (v := (0 : Int32)) hx hb dL_place_25 (by decide) ?_
    exact ql_iret0 E hh hr hlocks h dL_place_26
def f_L_clear (σ : St) (p1 : Int32) (p2 : Int32) (Q : Int32 → St → Prop) : Prop :=
  f_X8_clear σ p1 p2 (fun r5 s5 => Q (0 : Int32) (so s5 (vp_updL (go s5) (0 : Int32).toNatClampNeg r5.toInt64))) (fun kx sx => (kx = 1 ∧ Q (1 : Int32) sx))
set_option maxHeartbeats 4000000 in
set_option maxRecDepth 100000 in
theorem c_L_clear (l : Launch) (G : GG) (σ : St) (sz : Nat) (p1 : Int32) (p2 : Int32) (Q : Int32 → St → Prop) (hst : l.stackTraces = false) (h : f_L_clear σ p1 p2 Q) : CLi l yL_clear wsL_clear ({ frames := 8, cells := 1, slots := 6, locals := 183 }) [.ref (G.2.1 0), .int p1, .int p2, .ref (G.2.1 47)] G σ sz Q := by
  refine va_MetW (cc := cL_clear) (maxL := 5) (ret := (some .int)) (hh := [(0, 10, 13, 13)]) (by decide) rfl ?_
  intro p e s m args below meth c s₁ B hml hv
  obtain ⟨rfl, hpre⟩ := hv
  have hr := B.returns
  have hlocks := B.notSynchronized
  obtain ⟨hsz, -⟩ := id hpre
  subst hsz
  obtain ⟨E, hh⟩ := EV.ofPre (⟨B.exec, B.bytes, hml, findClass_of_methodNamed B.named, atoms_spec (ws := wsL_clear) B.pre⟩ : CallFix p m c cL_clear 5 s _ wsL_clear RL) hpre
  have hx := E.1.1
  have hb := E.1.2.1
  have hown := E.1.2.2.2.1
  have hts := E.1.2.2.2.2
  have htab := vx_table (x := yL_clear) B (hts _ List.mem_cons_self)
  have hl := lv_entry ([.ref (G.2.1 0), .int p1, .int p2, .ref (G.2.1 47)]) (n := 5) (Nat.le_of_ble_eq_true rfl)
  rw [lg_entry_eq]
  generalize (lg_sl ([.ref (G.2.1 0), .int p1, .int p2, .ref (G.2.1 47)]) ++ List.replicate (5 - (lg_sl ([.ref (G.2.1 0), .int p1, .int p2, .ref (G.2.1 47)])).length) Slot.unset).toArray = ls at hl ⊢
  have hl : lv_has ls 5 [(0, .ref (G.2.1 0)), (1, .int p1), (2, .int p2), (3, .ref (G.2.1 47))] := hl
  unfold f_L_clear at h
  refine lv_aload_n hx hb dL_clear_0 rfl (lv_at hl 3 rfl) ?_
  refine lv_iconst (v := (0 : Int32)) hx hb dL_clear_1 (by decide) ?_
  refine lv_aload_n hx hb dL_clear_2 rfl (lv_at hl 0 rfl) ?_
  refine lv_iload_n hx hb dL_clear_3 rfl (lv_at hl 1 rfl) ?_
  refine lv_iload_n hx hb dL_clear_4 rfl (lv_at hl 2 rfl) ?_
  refine q_Lxi (As := [.int p1, .int p2]) (rest := [.int (0 : Int32), .ref (G.2.1 47)]) E hh (c_X8_clear l G _ _ _ _ _ _ hst h) (cwV 2 hts gL_clear_X8_clear rfl rfl rfl (by decide +kernel) ⟨Nat.le_of_ble_eq_true rfl, Nat.le_of_ble_eq_true rfl⟩) (va_recv (ci := 8) E.2.1 hh.1 rfl (WW_at_0 G σ)) rfl hl.1 rfl (Nat.le_of_ble_eq_true rfl) dL_clear_5 ⟨Nat.le_of_ble_eq_true rfl, Nat.le_of_ble_eq_true rfl⟩ (fun kx sx H locs ce q9 h hh hce hcv hcl => ?_) (fun r5 s5 H locs h hh => ?_)
  · obtain ⟨rfl, h⟩ := h
    refine q_catch1 (x := ⟨0, 10, 13, 13⟩) (suf := []) (name := "java/lang/IndexOutOfBoundsException") E htab (by decide) (by decide) (List.mem_cons_of_mem _ (List.mem_append_left _ (List.mem_append_left _ (List.mem_append_left _ (List.mem_append_left _ (List.mem_append_left _ (List.mem_of_getElem? (i := 0) rfl))))))) rfl (List.mem_of_getElem? (i := 0) rfl) hce hcv hcl ?_
    refine lv_astore (lv' := [(4, .ref q9), (0, .ref (G.2.1 0)), (1, .int p1), (2, .int p2), (3, .ref (G.2.1 47))]) hx hb dL_clear_13 hl (by decide) rfl (fun ls hl => ?_)
    refine lv_iconst (v := (1 : Int32)) hx hb dL_clear_15 (by decide) ?_
    exact ql_iret E hh hr hlocks h dL_clear_16
  · refine lv_i2l (v := r5.toInt64) hx hb dL_clear_8 rfl ?_
    refine q_last E hh 47 (WW_at_47 G s5) (vp_in_nI (n := 0) (by decide) (by decide)) dL_clear_9 (WW_so G s5 (vp_updL (go s5) (0 : Int32).toNatClampNeg r5.toInt64)) (fun H locs hh => ?_)
    refine lv_goto (tgt := 17) hx hb dL_clear_10 (by decide) ?_
    refine lv_iconst (v := (0 : Int32)) hx hb dL_clear_17 (by decide) ?_
    exact ql_iret0 E hh hr hlocks h dL_clear_18
def f_L_finish (σ : St) (p1 : Int32) (Q : Int32 → St → Prop) : Prop :=
  f_X8_finish σ p1 (fun r4 s4 => Q (0 : Int32) (so s4 (vp_updL (go s4) (0 : Int32).toNatClampNeg r4.toInt64))) (fun kx sx => (kx = 1 ∧ Q (1 : Int32) sx))
set_option maxHeartbeats 4000000 in
set_option maxRecDepth 100000 in
theorem c_L_finish (l : Launch) (G : GG) (σ : St) (sz : Nat) (p1 : Int32) (Q : Int32 → St → Prop) (hst : l.stackTraces = false) (h : f_L_finish σ p1 Q) : CLi l yL_finish wsL_finish ({ frames := 8, cells := 1, slots := 6, locals := 132 }) [.ref (G.2.1 0), .int p1, .ref (G.2.1 47)] G σ sz Q := by
  refine va_MetW (cc := cL_finish) (maxL := 4) (ret := (some .int)) (hh := [(0, 9, 12, 13)]) (by decide) rfl ?_
  intro p e s m args below meth c s₁ B hml hv
  obtain ⟨rfl, hpre⟩ := hv
  have hr := B.returns
  have hlocks := B.notSynchronized
  obtain ⟨hsz, -⟩ := id hpre
  subst hsz
  obtain ⟨E, hh⟩ := EV.ofPre (⟨B.exec, B.bytes, hml, findClass_of_methodNamed B.named, atoms_spec (ws := wsL_finish) B.pre⟩ : CallFix p m c cL_finish 4 s _ wsL_finish RL) hpre
  have hx := E.1.1
  have hb := E.1.2.1
  have hown := E.1.2.2.2.1
  have hts := E.1.2.2.2.2
  have htab := vx_table (x := yL_finish) B (hts _ List.mem_cons_self)
  have hl := lv_entry ([.ref (G.2.1 0), .int p1, .ref (G.2.1 47)]) (n := 4) (Nat.le_of_ble_eq_true rfl)
  rw [lg_entry_eq]
  generalize (lg_sl ([.ref (G.2.1 0), .int p1, .ref (G.2.1 47)]) ++ List.replicate (4 - (lg_sl ([.ref (G.2.1 0), .int p1, .ref (G.2.1 47)])).length) Slot.unset).toArray = ls at hl ⊢
  have hl : lv_has ls 4 [(0, .ref (G.2.1 0)), (1, .int p1), (2, .ref (G.2.1 47))] := hl
  unfold f_L_finish at h
  refine lv_aload_n hx hb dL_finish_0 rfl (lv_at hl 2 rfl) ?_
  refine lv_iconst (v := (0 : Int32)) hx hb dL_finish_1 (by decide) ?_
  refine lv_aload_n hx hb dL_finish_2 rfl (lv_at hl 0 rfl) ?_
  refine lv_iload_n hx hb dL_finish_3 rfl (lv_at hl 1 rfl) ?_
  refine q_Lxi (As := [.int p1]) (rest := [.int (0 : Int32), .ref (G.2.1 47)]) E hh (c_X8_finish l G _ _ _ _ _ hst h) (cwV 1 hts gL_finish_X8_finish rfl rfl rfl (by decide +kernel) ⟨Nat.le_of_ble_eq_true rfl, Nat.le_of_ble_eq_true rfl⟩) (va_recv (ci := 8) E.2.1 hh.1 rfl (WW_at_0 G σ)) rfl hl.1 rfl (Nat.le_of_ble_eq_true rfl) dL_finish_4 ⟨Nat.le_of_ble_eq_true rfl, Nat.le_of_ble_eq_true rfl⟩ (fun kx sx H locs ce q9 h hh hce hcv hcl => ?_) (fun r4 s4 H locs h hh => ?_)
  · obtain ⟨rfl, h⟩ := h
    refine q_catch1 (x := ⟨0, 9, 12, 13⟩) (suf := []) (name := "java/lang/IndexOutOfBoundsException") E htab (by decide) (by decide) (List.mem_cons_of_mem _ (List.mem_append_left _ (List.mem_append_left _ (List.mem_append_left _ (List.mem_append_left _ (List.mem_of_getElem? (i := 0) rfl)))))) rfl (List.mem_of_getElem? (i := 0) rfl) hce hcv hcl ?_
    refine lv_astore_n (lv' := [(3, .ref q9), (0, .ref (G.2.1 0)), (1, .int p1), (2, .ref (G.2.1 47))]) hx hb dL_finish_12 rfl hl (by decide) rfl (fun ls hl => ?_)
    refine lv_iconst (v := (1 : Int32)) hx hb dL_finish_13 (by decide) ?_
    exact ql_iret E hh hr hlocks h dL_finish_14
  · refine lv_i2l (v := r4.toInt64) hx hb dL_finish_7 rfl ?_
    refine q_last E hh 47 (WW_at_47 G s4) (vp_in_nI (n := 0) (by decide) (by decide)) dL_finish_8 (WW_so G s4 (vp_updL (go s4) (0 : Int32).toNatClampNeg r4.toInt64)) (fun H locs hh => ?_)
    refine lv_goto (tgt := 15) hx hb dL_finish_9 (by decide) ?_
    refine lv_iconst (v := (0 : Int32)) hx hb dL_finish_15 (by decide) ?_
    exact ql_iret0 E hh hr hlocks h dL_finish_16
def f_L_points (σ : St) (p1 : Int32) (p2 : Int32) (Q : Int32 → St → Prop) : Prop :=
  f_X8_points σ p1 p2 (fun r5 s5 => Q (0 : Int32) (so s5 (vp_updL (go s5) (0 : Int32).toNatClampNeg r5.toInt64))) (fun kx sx => (kx = 1 ∧ Q (1 : Int32) sx))
set_option maxHeartbeats 4000000 in
set_option maxRecDepth 100000 in
theorem c_L_points (l : Launch) (G : GG) (σ : St) (sz : Nat) (p1 : Int32) (p2 : Int32) (Q : Int32 → St → Prop) (hst : l.stackTraces = false) (h : f_L_points σ p1 p2 Q) : CLi l yL_points wsL_points ({ frames := 8, cells := 1, slots := 6, locals := 133 }) [.ref (G.2.1 0), .int p1, .int p2, .ref (G.2.1 47)] G σ sz Q := by
  refine va_MetW (cc := cL_points) (maxL := 5) (ret := (some .int)) (hh := [(0, 10, 13, 13)]) (by decide) rfl ?_
  intro p e s m args below meth c s₁ B hml hv
  obtain ⟨rfl, hpre⟩ := hv
  have hr := B.returns
  have hlocks := B.notSynchronized
  obtain ⟨hsz, -⟩ := id hpre
  subst hsz
  obtain ⟨E, hh⟩ := EV.ofPre (⟨B.exec, B.bytes, hml, findClass_of_methodNamed B.named, atoms_spec (ws := wsL_points) B.pre⟩ : CallFix p m c cL_points 5 s _ wsL_points RL) hpre
  have hx := E.1.1
  have hb := E.1.2.1
  have hown := E.1.2.2.2.1
  have hts := E.1.2.2.2.2
  have htab := vx_table (x := yL_points) B (hts _ List.mem_cons_self)
  have hl := lv_entry ([.ref (G.2.1 0), .int p1, .int p2, .ref (G.2.1 47)]) (n := 5) (Nat.le_of_ble_eq_true rfl)
  rw [lg_entry_eq]
  generalize (lg_sl ([.ref (G.2.1 0), .int p1, .int p2, .ref (G.2.1 47)]) ++ List.replicate (5 - (lg_sl ([.ref (G.2.1 0), .int p1, .int p2, .ref (G.2.1 47)])).length) Slot.unset).toArray = ls at hl ⊢
  have hl : lv_has ls 5 [(0, .ref (G.2.1 0)), (1, .int p1), (2, .int p2), (3, .ref (G.2.1 47))] := hl
  unfold f_L_points at h
  refine lv_aload_n hx hb dL_points_0 rfl (lv_at hl 3 rfl) ?_
  refine lv_iconst (v := (0 : Int32)) hx hb dL_points_1 (by decide) ?_
  refine lv_aload_n hx hb dL_points_2 rfl (lv_at hl 0 rfl) ?_
  refine lv_iload_n hx hb dL_points_3 rfl (lv_at hl 1 rfl) ?_
  refine lv_iload_n hx hb dL_points_4 rfl (lv_at hl 2 rfl) ?_
  refine q_Lxi (As := [.int p1, .int p2]) (rest := [.int (0 : Int32), .ref (G.2.1 47)]) E hh (c_X8_points l G _ _ _ _ _ _ hst h) (cwV 2 hts gL_points_X8_points rfl rfl rfl (by decide +kernel) ⟨Nat.le_of_ble_eq_true rfl, Nat.le_of_ble_eq_true rfl⟩) (va_recv (ci := 8) E.2.1 hh.1 rfl (WW_at_0 G σ)) rfl hl.1 rfl (Nat.le_of_ble_eq_true rfl) dL_points_5 ⟨Nat.le_of_ble_eq_true rfl, Nat.le_of_ble_eq_true rfl⟩ (fun kx sx H locs ce q9 h hh hce hcv hcl => ?_) (fun r5 s5 H locs h hh => ?_)
  · obtain ⟨rfl, h⟩ := h
    refine q_catch1 (x := ⟨0, 10, 13, 13⟩) (suf := []) (name := "java/lang/IndexOutOfBoundsException") E htab (by decide) (by decide) (List.mem_cons_of_mem _ (List.mem_append_left _ (List.mem_append_left _ (List.mem_append_left _ (List.mem_append_left _ (List.mem_of_getElem? (i := 0) rfl)))))) rfl (List.mem_of_getElem? (i := 0) rfl) hce hcv hcl ?_
    refine lv_astore (lv' := [(4, .ref q9), (0, .ref (G.2.1 0)), (1, .int p1), (2, .int p2), (3, .ref (G.2.1 47))]) hx hb dL_points_13 hl (by decide) rfl (fun ls hl => ?_)
    refine lv_iconst (v := (1 : Int32)) hx hb dL_points_15 (by decide) ?_
    exact ql_iret E hh hr hlocks h dL_points_16
  · refine lv_i2l (v := r5.toInt64) hx hb dL_points_8 rfl ?_
    refine q_last E hh 47 (WW_at_47 G s5) (vp_in_nI (n := 0) (by decide) (by decide)) dL_points_9 (WW_so G s5 (vp_updL (go s5) (0 : Int32).toNatClampNeg r5.toInt64)) (fun H locs hh => ?_)
    refine lv_goto (tgt := 17) hx hb dL_points_10 (by decide) ?_
    refine lv_iconst (v := (0 : Int32)) hx hb dL_points_17 (by decide) ?_
    exact ql_iret0 E hh hr hlocks h dL_points_18
def f_L_score (σ : St) (p1 : Int32) (Q : Int32 → St → Prop) : Prop :=
  f_X8_score σ p1 (fun r4 s4 => Q (0 : Int32) (so s4 (vp_updL (go s4) (0 : Int32).toNatClampNeg r4.toInt64))) (fun kx sx => (kx = 1 ∧ Q (1 : Int32) sx))
set_option maxHeartbeats 4000000 in
set_option maxRecDepth 100000 in
theorem c_L_score (l : Launch) (G : GG) (σ : St) (sz : Nat) (p1 : Int32) (Q : Int32 → St → Prop) (hst : l.stackTraces = false) (h : f_L_score σ p1 Q) : CLi l yL_score wsL_score ({ frames := 8, cells := 1, slots := 6, locals := 132 }) [.ref (G.2.1 0), .int p1, .ref (G.2.1 47)] G σ sz Q := by
  refine va_MetW (cc := cL_score) (maxL := 4) (ret := (some .int)) (hh := [(0, 9, 12, 13)]) (by decide) rfl ?_
  intro p e s m args below meth c s₁ B hml hv
  obtain ⟨rfl, hpre⟩ := hv
  have hr := B.returns
  have hlocks := B.notSynchronized
  obtain ⟨hsz, -⟩ := id hpre
  subst hsz
  obtain ⟨E, hh⟩ := EV.ofPre (⟨B.exec, B.bytes, hml, findClass_of_methodNamed B.named, atoms_spec (ws := wsL_score) B.pre⟩ : CallFix p m c cL_score 4 s _ wsL_score RL) hpre
  have hx := E.1.1
  have hb := E.1.2.1
  have hown := E.1.2.2.2.1
  have hts := E.1.2.2.2.2
  have htab := vx_table (x := yL_score) B (hts _ List.mem_cons_self)
  have hl := lv_entry ([.ref (G.2.1 0), .int p1, .ref (G.2.1 47)]) (n := 4) (Nat.le_of_ble_eq_true rfl)
  rw [lg_entry_eq]
  generalize (lg_sl ([.ref (G.2.1 0), .int p1, .ref (G.2.1 47)]) ++ List.replicate (4 - (lg_sl ([.ref (G.2.1 0), .int p1, .ref (G.2.1 47)])).length) Slot.unset).toArray = ls at hl ⊢
  have hl : lv_has ls 4 [(0, .ref (G.2.1 0)), (1, .int p1), (2, .ref (G.2.1 47))] := hl
  unfold f_L_score at h
  refine lv_aload_n hx hb dL_score_0 rfl (lv_at hl 2 rfl) ?_
  refine lv_iconst (v := (0 : Int32)) hx hb dL_score_1 (by decide) ?_
  refine lv_aload_n hx hb dL_score_2 rfl (lv_at hl 0 rfl) ?_
  refine lv_iload_n hx hb dL_score_3 rfl (lv_at hl 1 rfl) ?_
  refine q_Lxi (As := [.int p1]) (rest := [.int (0 : Int32), .ref (G.2.1 47)]) E hh (c_X8_score l G _ _ _ _ _ hst h) (cwV 1 hts gL_score_X8_score rfl rfl rfl (by decide +kernel) ⟨Nat.le_of_ble_eq_true rfl, Nat.le_of_ble_eq_true rfl⟩) (va_recv (ci := 8) E.2.1 hh.1 rfl (WW_at_0 G σ)) rfl hl.1 rfl (Nat.le_of_ble_eq_true rfl) dL_score_4 ⟨Nat.le_of_ble_eq_true rfl, Nat.le_of_ble_eq_true rfl⟩ (fun kx sx H locs ce q9 h hh hce hcv hcl => ?_) (fun r4 s4 H locs h hh => ?_)
  · obtain ⟨rfl, h⟩ := h
    refine q_catch1 (x := ⟨0, 9, 12, 13⟩) (suf := []) (name := "java/lang/IndexOutOfBoundsException") E htab (by decide) (by decide) (List.mem_cons_of_mem _ (List.mem_append_left _ (List.mem_append_left _ (List.mem_append_left _ (List.mem_append_left _ (List.mem_append_left _ (List.mem_append_left _ (List.mem_of_getElem? (i := 0) rfl)))))))) rfl (List.mem_of_getElem? (i := 0) rfl) hce hcv hcl ?_
    refine lv_astore_n (lv' := [(3, .ref q9), (0, .ref (G.2.1 0)), (1, .int p1), (2, .ref (G.2.1 47))]) hx hb dL_score_12 rfl hl (by decide) rfl (fun ls hl => ?_)
    refine lv_iconst (v := (1 : Int32)) hx hb dL_score_13 (by decide) ?_
    exact ql_iret E hh hr hlocks h dL_score_14
  · refine lv_i2l (v := r4.toInt64) hx hb dL_score_7 rfl ?_
    refine q_last E hh 47 (WW_at_47 G s4) (vp_in_nI (n := 0) (by decide) (by decide)) dL_score_8 (WW_so G s4 (vp_updL (go s4) (0 : Int32).toNatClampNeg r4.toInt64)) (fun H locs hh => ?_)
    refine lv_goto (tgt := 15) hx hb dL_score_9 (by decide) ?_
    refine lv_iconst (v := (0 : Int32)) hx hb dL_score_15 (by decide) ?_
    exact ql_iret0 E hh hr hlocks h dL_score_16
def f_L_part (σ : St) (p1 : Int32) (Q : Int32 → St → Prop) : Prop :=
  f_X8_part σ p1 (fun r4 s4 => Q (0 : Int32) (so s4 (vp_updL (go s4) (0 : Int32).toNatClampNeg r4.toInt64))) (fun kx sx => (kx = 2 ∧ Q (1 : Int32) sx))
set_option maxHeartbeats 4000000 in
set_option maxRecDepth 100000 in
theorem c_L_part (l : Launch) (G : GG) (σ : St) (sz : Nat) (p1 : Int32) (Q : Int32 → St → Prop) (hst : l.stackTraces = false) (h : f_L_part σ p1 Q) : CLi l yL_part wsL_part ({ frames := 8, cells := 1, slots := 6, locals := 131 }) [.ref (G.2.1 0), .int p1, .ref (G.2.1 47)] G σ sz Q := by
  refine va_MetW (cc := cL_part) (maxL := 4) (ret := (some .int)) (hh := [(0, 9, 12, 15)]) (by decide) rfl ?_
  intro p e s m args below meth c s₁ B hml hv
  obtain ⟨rfl, hpre⟩ := hv
  have hr := B.returns
  have hlocks := B.notSynchronized
  obtain ⟨hsz, -⟩ := id hpre
  subst hsz
  obtain ⟨E, hh⟩ := EV.ofPre (⟨B.exec, B.bytes, hml, findClass_of_methodNamed B.named, atoms_spec (ws := wsL_part) B.pre⟩ : CallFix p m c cL_part 4 s _ wsL_part RL) hpre
  have hx := E.1.1
  have hb := E.1.2.1
  have hown := E.1.2.2.2.1
  have hts := E.1.2.2.2.2
  have htab := vx_table (x := yL_part) B (hts _ List.mem_cons_self)
  have hl := lv_entry ([.ref (G.2.1 0), .int p1, .ref (G.2.1 47)]) (n := 4) (Nat.le_of_ble_eq_true rfl)
  rw [lg_entry_eq]
  generalize (lg_sl ([.ref (G.2.1 0), .int p1, .ref (G.2.1 47)]) ++ List.replicate (4 - (lg_sl ([.ref (G.2.1 0), .int p1, .ref (G.2.1 47)])).length) Slot.unset).toArray = ls at hl ⊢
  have hl : lv_has ls 4 [(0, .ref (G.2.1 0)), (1, .int p1), (2, .ref (G.2.1 47))] := hl
  unfold f_L_part at h
  refine lv_aload_n hx hb dL_part_0 rfl (lv_at hl 2 rfl) ?_
  refine lv_iconst (v := (0 : Int32)) hx hb dL_part_1 (by decide) ?_
  refine lv_aload_n hx hb dL_part_2 rfl (lv_at hl 0 rfl) ?_
  refine lv_iload_n hx hb dL_part_3 rfl (lv_at hl 1 rfl) ?_
  refine q_Lxi (As := [.int p1]) (rest := [.int (0 : Int32), .ref (G.2.1 47)]) E hh (c_X8_part l G _ _ _ _ _ hst h) (cwV 1 hts gL_part_X8_part rfl rfl rfl (by decide +kernel) ⟨Nat.le_of_ble_eq_true rfl, Nat.le_of_ble_eq_true rfl⟩) (va_recv (ci := 8) E.2.1 hh.1 rfl (WW_at_0 G σ)) rfl hl.1 rfl (Nat.le_of_ble_eq_true rfl) dL_part_4 ⟨Nat.le_of_ble_eq_true rfl, Nat.le_of_ble_eq_true rfl⟩ (fun kx sx H locs ce q9 h hh hce hcv hcl => ?_) (fun r4 s4 H locs h hh => ?_)
  · obtain ⟨rfl, h⟩ := h
    refine q_catch1 (x := ⟨0, 9, 12, 15⟩) (suf := []) (name := "java/lang/IllegalArgumentException") E htab (by decide) (by decide) (List.mem_cons_of_mem _ (List.mem_append_left _ (List.mem_append_left _ (List.mem_append_left _ (List.mem_append_left _ (List.mem_append_left _ (List.mem_append_left _ (List.mem_append_left _ (List.mem_of_getElem? (i := 0) rfl))))))))) rfl (List.mem_of_getElem? (i := 1) rfl) hce hcv hcl ?_
    refine lv_astore_n (lv' := [(3, .ref q9), (0, .ref (G.2.1 0)), (1, .int p1), (2, .ref (G.2.1 47))]) hx hb dL_part_12 rfl hl (by decide) rfl (fun ls hl => ?_)
    refine lv_iconst (v := (1 : Int32)) hx hb dL_part_13 (by decide) ?_
    exact ql_iret E hh hr hlocks h dL_part_14
  · refine lv_i2l (v := r4.toInt64) hx hb dL_part_7 rfl ?_
    refine q_last E hh 47 (WW_at_47 G s4) (vp_in_nI (n := 0) (by decide) (by decide)) dL_part_8 (WW_so G s4 (vp_updL (go s4) (0 : Int32).toNatClampNeg r4.toInt64)) (fun H locs hh => ?_)
    refine lv_goto (tgt := 15) hx hb dL_part_9 (by decide) ?_
    refine lv_iconst (v := (0 : Int32)) hx hb dL_part_15 (by decide) ?_
    exact ql_iret0 E hh hr hlocks h dL_part_16
def f_L_promote (σ : St) (p1 : Int32) (Q : Int32 → St → Prop) : Prop :=
  f_X8_promote σ p1 (fun r4 s4 => Q (0 : Int32) (so s4 (vp_updL (go s4) (0 : Int32).toNatClampNeg r4.toInt64))) (fun kx sx => (kx = 2 ∧ Q (1 : Int32) sx))
set_option maxHeartbeats 4000000 in
set_option maxRecDepth 100000 in
theorem c_L_promote (l : Launch) (G : GG) (σ : St) (sz : Nat) (p1 : Int32) (Q : Int32 → St → Prop) (hst : l.stackTraces = false) (h : f_L_promote σ p1 Q) : CLi l yL_promote wsL_promote ({ frames := 8, cells := 1, slots := 6, locals := 132 }) [.ref (G.2.1 0), .int p1, .ref (G.2.1 47)] G σ sz Q := by
  refine va_MetW (cc := cL_promote) (maxL := 4) (ret := (some .int)) (hh := [(0, 9, 12, 15)]) (by decide) rfl ?_
  intro p e s m args below meth c s₁ B hml hv
  obtain ⟨rfl, hpre⟩ := hv
  have hr := B.returns
  have hlocks := B.notSynchronized
  obtain ⟨hsz, -⟩ := id hpre
  subst hsz
  obtain ⟨E, hh⟩ := EV.ofPre (⟨B.exec, B.bytes, hml, findClass_of_methodNamed B.named, atoms_spec (ws := wsL_promote) B.pre⟩ : CallFix p m c cL_promote 4 s _ wsL_promote RL) hpre
  have hx := E.1.1
  have hb := E.1.2.1
  have hown := E.1.2.2.2.1
  have hts := E.1.2.2.2.2
  have htab := vx_table (x := yL_promote) B (hts _ List.mem_cons_self)
  have hl := lv_entry ([.ref (G.2.1 0), .int p1, .ref (G.2.1 47)]) (n := 4) (Nat.le_of_ble_eq_true rfl)
  rw [lg_entry_eq]
  generalize (lg_sl ([.ref (G.2.1 0), .int p1, .ref (G.2.1 47)]) ++ List.replicate (4 - (lg_sl ([.ref (G.2.1 0), .int p1, .ref (G.2.1 47)])).length) Slot.unset).toArray = ls at hl ⊢
  have hl : lv_has ls 4 [(0, .ref (G.2.1 0)), (1, .int p1), (2, .ref (G.2.1 47))] := hl
  unfold f_L_promote at h
  refine lv_aload_n hx hb dL_promote_0 rfl (lv_at hl 2 rfl) ?_
  refine lv_iconst (v := (0 : Int32)) hx hb dL_promote_1 (by decide) ?_
  refine lv_aload_n hx hb dL_promote_2 rfl (lv_at hl 0 rfl) ?_
  refine lv_iload_n hx hb dL_promote_3 rfl (lv_at hl 1 rfl) ?_
  refine q_Lxi (As := [.int p1]) (rest := [.int (0 : Int32), .ref (G.2.1 47)]) E hh (c_X8_promote l G _ _ _ _ _ hst h) (cwV 1 hts gL_promote_X8_promote rfl rfl rfl (by decide +kernel) ⟨Nat.le_of_ble_eq_true rfl, Nat.le_of_ble_eq_true rfl⟩) (va_recv (ci := 8) E.2.1 hh.1 rfl (WW_at_0 G σ)) rfl hl.1 rfl (Nat.le_of_ble_eq_true rfl) dL_promote_4 ⟨Nat.le_of_ble_eq_true rfl, Nat.le_of_ble_eq_true rfl⟩ (fun kx sx H locs ce q9 h hh hce hcv hcl => ?_) (fun r4 s4 H locs h hh => ?_)
  · obtain ⟨rfl, h⟩ := h
    refine q_catch1 (x := ⟨0, 9, 12, 15⟩) (suf := []) (name := "java/lang/IllegalArgumentException") E htab (by decide) (by decide) (List.mem_cons_of_mem _ (List.mem_append_left _ (List.mem_append_left _ (List.mem_append_left _ (List.mem_append_left _ (List.mem_append_left _ (List.mem_append_left _ (List.mem_append_left _ (List.mem_of_getElem? (i := 0) rfl))))))))) rfl (List.mem_of_getElem? (i := 1) rfl) hce hcv hcl ?_
    refine lv_astore_n (lv' := [(3, .ref q9), (0, .ref (G.2.1 0)), (1, .int p1), (2, .ref (G.2.1 47))]) hx hb dL_promote_12 rfl hl (by decide) rfl (fun ls hl => ?_)
    refine lv_iconst (v := (1 : Int32)) hx hb dL_promote_13 (by decide) ?_
    exact ql_iret E hh hr hlocks h dL_promote_14
  · refine lv_i2l (v := r4.toInt64) hx hb dL_promote_7 rfl ?_
    refine q_last E hh 47 (WW_at_47 G s4) (vp_in_nI (n := 0) (by decide) (by decide)) dL_promote_8 (WW_so G s4 (vp_updL (go s4) (0 : Int32).toNatClampNeg r4.toInt64)) (fun H locs hh => ?_)
    refine lv_goto (tgt := 15) hx hb dL_promote_9 (by decide) ?_
    refine lv_iconst (v := (0 : Int32)) hx hb dL_promote_15 (by decide) ?_
    exact ql_iret0 E hh hr hlocks h dL_promote_16
def f_L_fleet (σ : St) (p1 : Int32) (Q : Int32 → St → Prop) : Prop :=
  f_X8_fleet σ p1 (fun r4 s4 => Q (0 : Int32) (so s4 (vp_updL (go s4) (0 : Int32).toNatClampNeg r4.toInt64))) (fun kx sx => (kx = 1 ∧ Q (1 : Int32) sx))
set_option maxHeartbeats 4000000 in
set_option maxRecDepth 100000 in
theorem c_L_fleet (l : Launch) (G : GG) (σ : St) (sz : Nat) (p1 : Int32) (Q : Int32 → St → Prop) (hst : l.stackTraces = false) (h : f_L_fleet σ p1 Q) : CLi l yL_fleet wsL_fleet ({ frames := 8, cells := 1, slots := 6, locals := 132 }) [.ref (G.2.1 0), .int p1, .ref (G.2.1 47)] G σ sz Q := by
  refine va_MetW (cc := cL_fleet) (maxL := 4) (ret := (some .int)) (hh := [(0, 9, 12, 13)]) (by decide) rfl ?_
  intro p e s m args below meth c s₁ B hml hv
  obtain ⟨rfl, hpre⟩ := hv
  have hr := B.returns
  have hlocks := B.notSynchronized
  obtain ⟨hsz, -⟩ := id hpre
  subst hsz
  obtain ⟨E, hh⟩ := EV.ofPre (⟨B.exec, B.bytes, hml, findClass_of_methodNamed B.named, atoms_spec (ws := wsL_fleet) B.pre⟩ : CallFix p m c cL_fleet 4 s _ wsL_fleet RL) hpre
  have hx := E.1.1
  have hb := E.1.2.1
  have hown := E.1.2.2.2.1
  have hts := E.1.2.2.2.2
  have htab := vx_table (x := yL_fleet) B (hts _ List.mem_cons_self)
  have hl := lv_entry ([.ref (G.2.1 0), .int p1, .ref (G.2.1 47)]) (n := 4) (Nat.le_of_ble_eq_true rfl)
  rw [lg_entry_eq]
  generalize (lg_sl ([.ref (G.2.1 0), .int p1, .ref (G.2.1 47)]) ++ List.replicate (4 - (lg_sl ([.ref (G.2.1 0), .int p1, .ref (G.2.1 47)])).length) Slot.unset).toArray = ls at hl ⊢
  have hl : lv_has ls 4 [(0, .ref (G.2.1 0)), (1, .int p1), (2, .ref (G.2.1 47))] := hl
  unfold f_L_fleet at h
  refine lv_aload_n hx hb dL_fleet_0 rfl (lv_at hl 2 rfl) ?_
  refine lv_iconst (v := (0 : Int32)) hx hb dL_fleet_1 (by decide) ?_
  refine lv_aload_n hx hb dL_fleet_2 rfl (lv_at hl 0 rfl) ?_
  refine lv_iload_n hx hb dL_fleet_3 rfl (lv_at hl 1 rfl) ?_
  refine q_Lxi (As := [.int p1]) (rest := [.int (0 : Int32), .ref (G.2.1 47)]) E hh (c_X8_fleet l G _ _ _ _ _ hst h) (cwV 1 hts gL_fleet_X8_fleet rfl rfl rfl (by decide +kernel) ⟨Nat.le_of_ble_eq_true rfl, Nat.le_of_ble_eq_true rfl⟩) (va_recv (ci := 8) E.2.1 hh.1 rfl (WW_at_0 G σ)) rfl hl.1 rfl (Nat.le_of_ble_eq_true rfl) dL_fleet_4 ⟨Nat.le_of_ble_eq_true rfl, Nat.le_of_ble_eq_true rfl⟩ (fun kx sx H locs ce q9 h hh hce hcv hcl => ?_) (fun r4 s4 H locs h hh => ?_)
  · obtain ⟨rfl, h⟩ := h
    refine q_catch1 (x := ⟨0, 9, 12, 13⟩) (suf := []) (name := "java/lang/IndexOutOfBoundsException") E htab (by decide) (by decide) (List.mem_cons_of_mem _ (List.mem_append_left _ (List.mem_append_left _ (List.mem_append_left _ (List.mem_append_left _ (List.mem_append_left _ (List.mem_of_getElem? (i := 0) rfl))))))) rfl (List.mem_of_getElem? (i := 0) rfl) hce hcv hcl ?_
    refine lv_astore_n (lv' := [(3, .ref q9), (0, .ref (G.2.1 0)), (1, .int p1), (2, .ref (G.2.1 47))]) hx hb dL_fleet_12 rfl hl (by decide) rfl (fun ls hl => ?_)
    refine lv_iconst (v := (1 : Int32)) hx hb dL_fleet_13 (by decide) ?_
    exact ql_iret E hh hr hlocks h dL_fleet_14
  · refine lv_i2l (v := r4.toInt64) hx hb dL_fleet_7 rfl ?_
    refine q_last E hh 47 (WW_at_47 G s4) (vp_in_nI (n := 0) (by decide) (by decide)) dL_fleet_8 (WW_so G s4 (vp_updL (go s4) (0 : Int32).toNatClampNeg r4.toInt64)) (fun H locs hh => ?_)
    refine lv_goto (tgt := 15) hx hb dL_fleet_9 (by decide) ?_
    refine lv_iconst (v := (0 : Int32)) hx hb dL_fleet_15 (by decide) ?_
    exact ql_iret0 E hh hr hlocks h dL_fleet_16
