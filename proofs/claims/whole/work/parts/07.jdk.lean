/-- a body of a class some of whose methods run natively: this one doesn't -/
theorem met_ofWF {l : Launch} {y : MethodName} {ws ws' : List Cond} {rm : Room} {Pc : Array Value → State → Prop} {Qc : Array Value → State → Outcome → State → Prop} {mc ms : Nat} {free : Addr → Prop} {cc : ByteArray} {maxL : Nat} {ret : Option FieldType}
    (hy : plainFor y = true) (hw : ws = Cond.code y cc maxL ret :: ws')
    (body : ∀ p e s m args below meth c s₁, BodyLoose p l y (headSpec ws rm) cc maxL ret e s m args below meth c s₁ → c.maxLocals = maxL → Pc args s →
      W p l e (headSpec ws rm).room s m args below meth c s.heap [] 0 0 (MQ below Qc args s mc ms free) (entryFrame m args maxL)) : Met l y ws rm Pc Qc mc ms free := by
  refine MetFree.of_bodySF (code := cc) (maxLocals := maxL) (ret := ret) hy ?_ ?_
  · intro args s m h hn
    obtain ⟨meth, c, h1, h2, h3, h4, h5, h6, -, -⟩ := Cond.code_spec hn (atoms_spec (ws := ws) h _ (by rw [hw]; exact List.mem_cons_self))
    exact ⟨meth, c, h1, h2, h3, h4, h5, h6⟩
  · intro p e s m args below meth c s₁ B hml hP _
    have hh0 : s₁.heap = s.heap := by rw [B.state]; rfl
    obtain ⟨t, a1, o, b1, b2, b3⟩ := body p e s m args below meth c s₁ B hml hP s₁ hh0 (Stand.of_body B)
    exact ⟨t, o, a1, b1, b2, ⟨b3.1, b3.2⟩⟩
def f_J3_checkIndex_8e157 (σ : St) (p0 : Int32) (p1 : Int32) (Q : Int32 → St → Prop) : Prop :=
  ((p0 < 0 → False) ∧ (¬ p0 < 0 → ((p0 < p1 → Q p0 σ) ∧ (¬ p0 < p1 → False))))
set_option maxHeartbeats 4000000 in
set_option maxRecDepth 100000 in
theorem c_J3_checkIndex_8e157_n (l : Launch) (G : GG) (σ : St) (sz : Nat) (p0 : Int32) (p1 : Int32) (Q : Int32 → St → Prop) (h : f_J3_checkIndex_8e157 σ p0 p1 Q) : CTi l yJ3_checkIndex_8e157 wsJ3_checkIndex_8e157 ({ frames := 0, cells := 0, slots := 0, locals := 0 }) [.int p0, .int p1, .null] G σ sz Q := by
  refine Met.ofW (cc := cJ3_checkIndex_8e157) (maxL := 3) (ret := (some .int)) (by decide) rfl ?_
  intro p e s m args below meth c s₁ B hml hv
  obtain ⟨rfl, hpre⟩ := hv
  have hr := B.returns
  have hlocks := B.notSynchronized
  obtain ⟨hsz, -⟩ := id hpre
  subst hsz
  obtain ⟨E, hh⟩ := EV.ofPre (⟨B.exec, B.bytes, hml, findClass_of_methodNamed B.named, atoms_spec (ws := wsJ3_checkIndex_8e157) B.pre⟩ : CallFix p m c cJ3_checkIndex_8e157 3 s _ wsJ3_checkIndex_8e157 RJ3) hpre
  have hx := E.1.1
  have hb := E.1.2.1
  have hown := E.1.2.2.2.1
  have hts := E.1.2.2.2.2
  have hl := lv_entry ([.int p0, .int p1, .null]) (n := 3) (Nat.le_of_ble_eq_true rfl)
  rw [lg_entry_eq]
  generalize (lg_sl ([.int p0, .int p1, .null]) ++ List.replicate (3 - (lg_sl ([.int p0, .int p1, .null])).length) Slot.unset).toArray = ls at hl ⊢
  have hl : lv_has ls 3 [(0, .int p0), (1, .int p1), (2, .null)] := hl
  unfold f_J3_checkIndex_8e157 at h
  refine lv_iload_n hx hb dJ3_checkIndex_8e157_0 rfl (lv_at hl 0 rfl) ?_
  refine lv_if_lt (tgt := 9) hx hb dJ3_checkIndex_8e157_1 (by decide) (fun c9 => ?_) (fun c9 => ?_)
  · have h := h.1 c9
    exact h.elim
  · have h := h.2 c9
    refine lv_iload_n hx hb dJ3_checkIndex_8e157_4 rfl (lv_at hl 0 rfl) ?_
    refine lv_iload_n hx hb dJ3_checkIndex_8e157_5 rfl (lv_at hl 1 rfl) ?_
    refine lv_icmp_lt (tgt := 16) hx hb dJ3_checkIndex_8e157_6 (by decide) (fun c9 => ?_) (fun c9 => ?_)
    · have h := h.1 c9
      refine lv_iload_n hx hb dJ3_checkIndex_8e157_16 rfl (lv_at hl 0 rfl) ?_
      exact q_iret E hh hr hlocks h dJ3_checkIndex_8e157_17
    · have h := h.2 c9
      exact h.elim
set_option maxHeartbeats 4000000 in
set_option maxRecDepth 100000 in
theorem c_J3_checkIndex_8e157_a (l : Launch) (G : GG) (σ : St) (sz : Nat) (p0 : Int32) (p1 : Int32) (pa : Nat) (Q : Int32 → St → Prop) (h : f_J3_checkIndex_8e157 σ p0 p1 Q) : CTi l yJ3_checkIndex_8e157 wsJ3_checkIndex_8e157 ({ frames := 0, cells := 0, slots := 0, locals := 0 }) [.int p0, .int p1, .ref pa] G σ sz Q := by
  refine Met.ofW (cc := cJ3_checkIndex_8e157) (maxL := 3) (ret := (some .int)) (by decide) rfl ?_
  intro p e s m args below meth c s₁ B hml hv
  obtain ⟨rfl, hpre⟩ := hv
  have hr := B.returns
  have hlocks := B.notSynchronized
  obtain ⟨hsz, -⟩ := id hpre
  subst hsz
  obtain ⟨E, hh⟩ := EV.ofPre (⟨B.exec, B.bytes, hml, findClass_of_methodNamed B.named, atoms_spec (ws := wsJ3_checkIndex_8e157) B.pre⟩ : CallFix p m c cJ3_checkIndex_8e157 3 s _ wsJ3_checkIndex_8e157 RJ3) hpre
  have hx := E.1.1
  have hb := E.1.2.1
  have hown := E.1.2.2.2.1
  have hts := E.1.2.2.2.2
  have hl := lv_entry ([.int p0, .int p1, .ref pa]) (n := 3) (Nat.le_of_ble_eq_true rfl)
  rw [lg_entry_eq]
  generalize (lg_sl ([.int p0, .int p1, .ref pa]) ++ List.replicate (3 - (lg_sl ([.int p0, .int p1, .ref pa])).length) Slot.unset).toArray = ls at hl ⊢
  have hl : lv_has ls 3 [(0, .int p0), (1, .int p1), (2, .ref pa)] := hl
  unfold f_J3_checkIndex_8e157 at h
  refine lv_iload_n hx hb dJ3_checkIndex_8e157_0 rfl (lv_at hl 0 rfl) ?_
  refine lv_if_lt (tgt := 9) hx hb dJ3_checkIndex_8e157_1 (by decide) (fun c9 => ?_) (fun c9 => ?_)
  · have h := h.1 c9
    exact h.elim
  · have h := h.2 c9
    refine lv_iload_n hx hb dJ3_checkIndex_8e157_4 rfl (lv_at hl 0 rfl) ?_
    refine lv_iload_n hx hb dJ3_checkIndex_8e157_5 rfl (lv_at hl 1 rfl) ?_
    refine lv_icmp_lt (tgt := 16) hx hb dJ3_checkIndex_8e157_6 (by decide) (fun c9 => ?_) (fun c9 => ?_)
    · have h := h.1 c9
      refine lv_iload_n hx hb dJ3_checkIndex_8e157_16 rfl (lv_at hl 0 rfl) ?_
      exact q_iret E hh hr hlocks h dJ3_checkIndex_8e157_17
    · have h := h.2 c9
      exact h.elim
def f_J0_checkIndex_df160 (σ : St) (p0 : Int32) (p1 : Int32) (Q : St → Prop) : Prop :=
  f_J3_checkIndex_8e157 σ p0 p1 (fun r5 s5 => Q s5)
set_option maxHeartbeats 4000000 in
set_option maxRecDepth 100000 in
theorem c_J0_checkIndex_df160 (l : Launch) (G : GG) (σ : St) (sz : Nat) (p0 : Int32) (p1 : Int32) (Q : St → Prop) (h : f_J0_checkIndex_df160 σ p0 p1 Q) : CTv l yJ0_checkIndex_df160 wsJ0_checkIndex_df160 ({ frames := 1, cells := 0, slots := 0, locals := 22 }) [.int p0, .int p1] G σ sz Q := by
  refine Met.ofW (cc := cJ0_checkIndex_df160) (maxL := 2) (ret := none) (by decide) rfl ?_
  intro p e s m args below meth c s₁ B hml hv
  obtain ⟨rfl, hpre⟩ := hv
  have hr := B.returns
  have hlocks := B.notSynchronized
  obtain ⟨hsz, -⟩ := id hpre
  subst hsz
  obtain ⟨E, hh⟩ := EV.ofPre (⟨B.exec, B.bytes, hml, findClass_of_methodNamed B.named, atoms_spec (ws := wsJ0_checkIndex_df160) B.pre⟩ : CallFix p m c cJ0_checkIndex_df160 2 s _ wsJ0_checkIndex_df160 RJ0) hpre
  have hx := E.1.1
  have hb := E.1.2.1
  have hown := E.1.2.2.2.1
  have hts := E.1.2.2.2.2
  have hl := lv_entry ([.int p0, .int p1]) (n := 2) (Nat.le_of_ble_eq_true rfl)
  rw [lg_entry_eq]
  generalize (lg_sl ([.int p0, .int p1]) ++ List.replicate (2 - (lg_sl ([.int p0, .int p1])).length) Slot.unset).toArray = ls at hl ⊢
  have hl : lv_has ls 2 [(0, .int p0), (1, .int p1)] := hl
  unfold f_J0_checkIndex_df160 at h
  refine lv_iload_n hx hb dJ0_checkIndex_df160_0 rfl (lv_at hl 0 rfl) ?_
  refine lv_iload_n hx hb dJ0_checkIndex_df160_1 rfl (lv_at hl 1 rfl) ?_
  rcases E.2.2.2.1.2.2.2.2.2.2.1 with hz | ⟨t, hz⟩
  · refine va_gets (own := RJ0) hx hb hz hh.2 hown (hts _ (List.mem_cons_of_mem _ (List.mem_of_getElem? (i := 0) rfl))) (fun _ h9 => h9) dJ0_checkIndex_df160_2 ?_
    refine q_Si (As := [.int p0, .int p1, .null]) (rest := []) E hh (c_J3_checkIndex_8e157_n l G _ _ _ _ _ h) (va_cwS 3 hts gJ0_checkIndex_df160_J3_checkIndex_8e157 rfl rfl rfl (by decide +kernel) ⟨Nat.le_of_ble_eq_true rfl, Nat.le_of_ble_eq_true rfl⟩) rfl hl.1 rfl (Nat.le_of_ble_eq_true rfl) dJ0_checkIndex_df160_5 ⟨Nat.zero_le _, Nat.zero_le _⟩ (fun r5 s5 H locs h hh => ?_)
    refine lv_pop hx hb dJ0_checkIndex_df160_8 rfl ?_
    exact q_vret E hh hr hlocks h dJ0_checkIndex_df160_9
  · refine va_gets (own := RJ0) hx hb hz hh.2 hown (hts _ (List.mem_cons_of_mem _ (List.mem_of_getElem? (i := 0) rfl))) (fun _ h9 => h9) dJ0_checkIndex_df160_2 ?_
    refine q_Si (As := [.int p0, .int p1, .ref t]) (rest := []) E hh (c_J3_checkIndex_8e157_a l G _ _ _ _ _ _ h) (va_cwS 3 hts gJ0_checkIndex_df160_J3_checkIndex_8e157 rfl rfl rfl (by decide +kernel) ⟨Nat.le_of_ble_eq_true rfl, Nat.le_of_ble_eq_true rfl⟩) rfl hl.1 rfl (Nat.le_of_ble_eq_true rfl) dJ0_checkIndex_df160_5 ⟨Nat.zero_le _, Nat.zero_le _⟩ (fun r5 s5 H locs h hh => ?_)
    refine lv_pop hx hb dJ0_checkIndex_df160_8 rfl ?_
    exact q_vret E hh hr hlocks h dJ0_checkIndex_df160_9
def f_J1_charAt_3b067 (σ : St) (p0 : Nat) (p1 : Int32) (Q : Int32 → St → Prop) : Prop :=
  (p0 < 7 ∧ f_J0_checkIndex_df160 σ p1 (nI (wLen.getD p0 0)) (fun s3 => ((p0 < 7 ∧ vp_in p1 (wLen.getD p0 0)) ∧ (zok .char ((((wByt.getD p0 []).getD p1.toNatClampNeg 0) &&& (255 : Int32)).toUInt32 % 65536).toInt32 ∧ Q ((((wByt.getD p0 []).getD p1.toNatClampNeg 0) &&& (255 : Int32)).toUInt32 % 65536).toInt32 s3))))
set_option maxHeartbeats 4000000 in
set_option maxRecDepth 100000 in
theorem c_J1_charAt_3b067 (l : Launch) (G : GG) (σ : St) (sz : Nat) (p0 : Nat) (p1 : Int32) (Q : Int32 → St → Prop) (h : f_J1_charAt_3b067 σ p0 p1 Q) : CTi l yJ1_charAt_3b067 wsJ1_charAt_3b067 ({ frames := 2, cells := 0, slots := 0, locals := 43 }) [.ref (G.2.2 (40 + p0)), .int p1] G σ sz Q := by
  refine Met.ofW (cc := cJ1_charAt_3b067) (maxL := 2) (ret := (some .char)) (by decide) rfl ?_
  intro p e s m args below meth c s₁ B hml hv
  obtain ⟨rfl, hpre⟩ := hv
  have hr := B.returns
  have hlocks := B.notSynchronized
  obtain ⟨hsz, -⟩ := id hpre
  subst hsz
  obtain ⟨E, hh⟩ := EV.ofPre (⟨B.exec, B.bytes, hml, findClass_of_methodNamed B.named, atoms_spec (ws := wsJ1_charAt_3b067) B.pre⟩ : CallFix p m c cJ1_charAt_3b067 2 s _ wsJ1_charAt_3b067 RJ1) hpre
  have hx := E.1.1
  have hb := E.1.2.1
  have hown := E.1.2.2.2.1
  have hts := E.1.2.2.2.2
  have hl := lv_entry ([.ref (G.2.2 (40 + p0)), .int p1]) (n := 2) (Nat.le_of_ble_eq_true rfl)
  rw [lg_entry_eq]
  generalize (lg_sl ([.ref (G.2.2 (40 + p0)), .int p1]) ++ List.replicate (2 - (lg_sl ([.ref (G.2.2 (40 + p0)), .int p1])).length) Slot.unset).toArray = ls at hl ⊢
  have hl : lv_has ls 2 [(0, .ref (G.2.2 (40 + p0))), (1, .int p1)] := hl
  unfold f_J1_charAt_3b067 at h
  refine lv_iload_n hx hb dJ1_charAt_3b067_0 rfl (lv_at hl 1 rfl) ?_
  refine lv_aload_n hx hb dJ1_charAt_3b067_1 rfl (lv_at hl 0 rfl) ?_
  obtain ⟨h0, h⟩ := h
  refine va_tlen (v := (nI (wLen.getD p0 0))) hx hb (E.2.2.2.1.2.2.2.2.2.2.2.1.1 _ h0).2.2.2 hh.2 rfl dJ1_charAt_3b067_2 ?_
  refine q_Sv (As := [.int p1, .int (nI (wLen.getD p0 0))]) (rest := []) E hh (c_J0_checkIndex_df160 l G _ _ _ _ _ h) (va_cwS 2 hts gJ1_charAt_3b067_J0_checkIndex_df160 rfl rfl rfl (by decide +kernel) ⟨Nat.le_of_ble_eq_true rfl, Nat.le_of_ble_eq_true rfl⟩) rfl hl.1 rfl (Nat.le_of_ble_eq_true rfl) dJ1_charAt_3b067_3 ⟨Nat.zero_le _, Nat.zero_le _⟩ (fun s3 H locs h hh => ?_)
  refine lv_aload_n hx hb dJ1_charAt_3b067_6 rfl (lv_at hl 0 rfl) ?_
  refine lv_iload_n hx hb dJ1_charAt_3b067_7 rfl (lv_at hl 1 rfl) ?_
  obtain ⟨h0, h⟩ := h
  refine va_tb (v := .int ((wByt.getD p0 []).getD p1.toNatClampNeg 0)) hx hb (E.2.2.2.1.2.2.2.2.2.2.2.1.1 _ h0.1).2.2.2 hh.2 h0.2 rfl dJ1_charAt_3b067_8 ?_
  refine lv_sipush (v := (255 : Int32)) hx hb dJ1_charAt_3b067_9 (by decide) ?_
  refine lv_iand hx hb dJ1_charAt_3b067_12 ?_
  refine lv_i2c (v := ((((wByt.getD p0 []).getD p1.toNatClampNeg 0) &&& (255 : Int32)).toUInt32 % 65536).toInt32) hx hb dJ1_charAt_3b067_13 rfl ?_
  exact q_zret (ty := .char) E hh hr hlocks h.1 h.2 dJ1_charAt_3b067_14
def f_J0_coder_7d493 (σ : St) (p0 : Nat) (Q : Int32 → St → Prop) : Prop :=
  (p0 < 7 ∧ Q (0 : Int32) σ)
set_option maxHeartbeats 4000000 in
set_option maxRecDepth 100000 in
theorem c_J0_coder_7d493 (l : Launch) (G : GG) (σ : St) (sz : Nat) (p0 : Nat) (Q : Int32 → St → Prop) (h : f_J0_coder_7d493 σ p0 Q) : CTi l yJ0_coder_7d493 wsJ0_coder_7d493 ({ frames := 0, cells := 0, slots := 0, locals := 0 }) [.ref (G.2.2 (20 + p0))] G σ sz Q := by
  refine Met.ofW (cc := cJ0_coder_7d493) (maxL := 1) (ret := (some .byte)) (by decide) rfl ?_
  intro p e s m args below meth c s₁ B hml hv
  obtain ⟨rfl, hpre⟩ := hv
  have hr := B.returns
  have hlocks := B.notSynchronized
  obtain ⟨hsz, -⟩ := id hpre
  subst hsz
  obtain ⟨E, hh⟩ := EV.ofPre (⟨B.exec, B.bytes, hml, findClass_of_methodNamed B.named, atoms_spec (ws := wsJ0_coder_7d493) B.pre⟩ : CallFix p m c cJ0_coder_7d493 1 s _ wsJ0_coder_7d493 RJ0) hpre
  have hx := E.1.1
  have hb := E.1.2.1
  have hown := E.1.2.2.2.1
  have hts := E.1.2.2.2.2
  have hl := lv_entry ([.ref (G.2.2 (20 + p0))]) (n := 1) (Nat.le_of_ble_eq_true rfl)
  rw [lg_entry_eq]
  generalize (lg_sl ([.ref (G.2.2 (20 + p0))]) ++ List.replicate (1 - (lg_sl ([.ref (G.2.2 (20 + p0))])).length) Slot.unset).toArray = ls at hl ⊢
  have hl : lv_has ls 1 [(0, .ref (G.2.2 (20 + p0)))] := hl
  unfold f_J0_coder_7d493 at h
  refine va_gets (own := RJ0) hx hb E.2.2.2.1.2.2.2.2.2.1 hh.2 hown (hts _ (List.mem_cons_of_mem _ (List.mem_of_getElem? (i := 0) rfl))) (fun _ h9 => h9) dJ0_coder_7d493_0 ?_
  refine lv_if_eq (tgt := 13) hx hb dJ0_coder_7d493_3 (by decide) (fun c9 => absurd c9 (by decide)) (fun c9 => ?_)
  refine lv_aload_n hx hb dJ0_coder_7d493_6 rfl (lv_at hl 0 rfl) ?_
  obtain ⟨h0, h⟩ := h
  refine vk_getf (own := RJ0) hx hb (E.2.2.2.1.2.2.2.2.2.2.2.1.1 _ h0).2.1 hh.2 hown (hts _ (List.mem_cons_of_mem _ (List.mem_of_getElem? (i := 1) rfl))) (fun _ h9 => h9) dJ0_coder_7d493_7 ?_
  refine lv_goto (tgt := 14) hx hb dJ0_coder_7d493_10 (by decide) ?_
  exact q_zret (ty := .byte) E hh hr hlocks rfl h dJ0_coder_7d493_14
def f_J0_isLatin1_aae02 (σ : St) (p0 : Nat) (Q : Int32 → St → Prop) : Prop :=
  (p0 < 7 ∧ Q (1 : Int32) σ)
set_option maxHeartbeats 4000000 in
set_option maxRecDepth 100000 in
theorem c_J0_isLatin1_aae02 (l : Launch) (G : GG) (σ : St) (sz : Nat) (p0 : Nat) (Q : Int32 → St → Prop) (h : f_J0_isLatin1_aae02 σ p0 Q) : CTi l yJ0_isLatin1_aae02 wsJ0_isLatin1_aae02 ({ frames := 0, cells := 0, slots := 0, locals := 0 }) [.ref (G.2.2 (20 + p0))] G σ sz Q := by
  refine Met.ofW (cc := cJ0_isLatin1_aae02) (maxL := 1) (ret := (some .boolean)) (by decide) rfl ?_
  intro p e s m args below meth c s₁ B hml hv
  obtain ⟨rfl, hpre⟩ := hv
  have hr := B.returns
  have hlocks := B.notSynchronized
  obtain ⟨hsz, -⟩ := id hpre
  subst hsz
  obtain ⟨E, hh⟩ := EV.ofPre (⟨B.exec, B.bytes, hml, findClass_of_methodNamed B.named, atoms_spec (ws := wsJ0_isLatin1_aae02) B.pre⟩ : CallFix p m c cJ0_isLatin1_aae02 1 s _ wsJ0_isLatin1_aae02 RJ0) hpre
  have hx := E.1.1
  have hb := E.1.2.1
  have hown := E.1.2.2.2.1
  have hts := E.1.2.2.2.2
  have hl := lv_entry ([.ref (G.2.2 (20 + p0))]) (n := 1) (Nat.le_of_ble_eq_true rfl)
  rw [lg_entry_eq]
  generalize (lg_sl ([.ref (G.2.2 (20 + p0))]) ++ List.replicate (1 - (lg_sl ([.ref (G.2.2 (20 + p0))])).length) Slot.unset).toArray = ls at hl ⊢
  have hl : lv_has ls 1 [(0, .ref (G.2.2 (20 + p0)))] := hl
  unfold f_J0_isLatin1_aae02 at h
  refine va_gets (own := RJ0) hx hb E.2.2.2.1.2.2.2.2.2.1 hh.2 hown (hts _ (List.mem_cons_of_mem _ (List.mem_of_getElem? (i := 0) rfl))) (fun _ h9 => h9) dJ0_isLatin1_aae02_0 ?_
  refine lv_if_eq (tgt := 17) hx hb dJ0_isLatin1_aae02_3 (by decide) (fun c9 => absurd c9 (by decide)) (fun c9 => ?_)
  refine lv_aload_n hx hb dJ0_isLatin1_aae02_6 rfl (lv_at hl 0 rfl) ?_
  obtain ⟨h0, h⟩ := h
  refine vk_getf (own := RJ0) hx hb (E.2.2.2.1.2.2.2.2.2.2.2.1.1 _ h0).2.1 hh.2 hown (hts _ (List.mem_cons_of_mem _ (List.mem_of_getElem? (i := 1) rfl))) (fun _ h9 => h9) dJ0_isLatin1_aae02_7 ?_
  refine lv_if_ne (tgt := 17) hx hb dJ0_isLatin1_aae02_10 (by decide) (fun c9 => absurd c9 (by decide)) (fun c9 => ?_)
  refine lv_iconst (v := (1 : Int32)) hx hb dJ0_isLatin1_aae02_13 (by decide) ?_
  refine lv_goto (tgt := 18) hx hb dJ0_isLatin1_aae02_14 (by decide) ?_
  exact q_zret (ty := .boolean) E hh hr hlocks rfl h dJ0_isLatin1_aae02_18
def f_J0_length_8abf5 (σ : St) (p0 : Nat) (Q : Int32 → St → Prop) : Prop :=
  (p0 < 7 ∧ (p0 < 7 ∧ (p0 < 7 ∧ f_J0_coder_7d493 σ p0 (fun r6 s6 => Q ((nI (wLen.getD p0 0)) >>> (r6 &&& 31)) s6))))
set_option maxHeartbeats 4000000 in
set_option maxRecDepth 100000 in
theorem c_J0_length_8abf5 (l : Launch) (G : GG) (σ : St) (sz : Nat) (p0 : Nat) (Q : Int32 → St → Prop) (h : f_J0_length_8abf5 σ p0 Q) : CTi l yJ0_length_8abf5 wsJ0_length_8abf5 ({ frames := 1, cells := 0, slots := 0, locals := 20 }) [.ref (G.2.2 (20 + p0))] G σ sz Q := by
  refine Met.ofW (cc := cJ0_length_8abf5) (maxL := 1) (ret := (some .int)) (by decide) rfl ?_
  intro p e s m args below meth c s₁ B hml hv
  obtain ⟨rfl, hpre⟩ := hv
  have hr := B.returns
  have hlocks := B.notSynchronized
  obtain ⟨hsz, -⟩ := id hpre
  subst hsz
  obtain ⟨E, hh⟩ := EV.ofPre (⟨B.exec, B.bytes, hml, findClass_of_methodNamed B.named, atoms_spec (ws := wsJ0_length_8abf5) B.pre⟩ : CallFix p m c cJ0_length_8abf5 1 s _ wsJ0_length_8abf5 RJ0) hpre
  have hx := E.1.1
  have hb := E.1.2.1
  have hown := E.1.2.2.2.1
  have hts := E.1.2.2.2.2
  have hl := lv_entry ([.ref (G.2.2 (20 + p0))]) (n := 1) (Nat.le_of_ble_eq_true rfl)
  rw [lg_entry_eq]
  generalize (lg_sl ([.ref (G.2.2 (20 + p0))]) ++ List.replicate (1 - (lg_sl ([.ref (G.2.2 (20 + p0))])).length) Slot.unset).toArray = ls at hl ⊢
  have hl : lv_has ls 1 [(0, .ref (G.2.2 (20 + p0)))] := hl
  unfold f_J0_length_8abf5 at h
  refine lv_aload_n hx hb dJ0_length_8abf5_0 rfl (lv_at hl 0 rfl) ?_
  obtain ⟨h0, h⟩ := h
  refine vk_getf (own := RJ0) hx hb (E.2.2.2.1.2.2.2.2.2.2.2.1.1 _ h0).2.2.1 hh.2 hown (hts _ (List.mem_cons_of_mem _ (List.mem_of_getElem? (i := 0) rfl))) (fun _ h9 => h9) dJ0_length_8abf5_1 ?_
  obtain ⟨h0, h⟩ := h
  refine va_tlen (v := (nI (wLen.getD p0 0))) hx hb (E.2.2.2.1.2.2.2.2.2.2.2.1.1 _ h0).2.2.2 hh.2 rfl dJ0_length_8abf5_4 ?_
  refine lv_aload_n hx hb dJ0_length_8abf5_5 rfl (lv_at hl 0 rfl) ?_
  obtain ⟨h0, h⟩ := h
  refine q_Vi (As := []) (rest := [.int (nI (wLen.getD p0 0))]) E hh (c_J0_coder_7d493 l G _ _ _ _ h) (cwV 0 hts gJ0_length_8abf5_J0_coder_7d493 rfl rfl rfl (by decide +kernel) ⟨Nat.le_of_ble_eq_true rfl, Nat.le_of_ble_eq_true rfl⟩) (vk_recv (adK := fun i => G.2.2 (20 + i)) (i := p0) E.2.2.2.1.2.2.2.2.2.2.2.1 h0 hh.2) rfl hl.1 rfl (Nat.le_of_ble_eq_true rfl) dJ0_length_8abf5_6 ⟨Nat.zero_le _, Nat.zero_le _⟩ (fun r6 s6 H locs h hh => ?_)
  refine lv_ishr hx hb dJ0_length_8abf5_9 ?_
  exact q_iret E hh hr hlocks h dJ0_length_8abf5_10
def f_J0_charAt_5068e (σ : St) (p0 : Nat) (p1 : Int32) (Q : Int32 → St → Prop) : Prop :=
  (p0 < 7 ∧ f_J0_isLatin1_aae02 σ p0 (fun r1 s1 => ((r1 = 0 → (p0 < 7 ∧ False)) ∧ (¬ r1 = 0 → (p0 < 7 ∧ f_J1_charAt_3b067 s1 p0 p1 (fun r12 s12 => (zok .char r12 ∧ Q r12 s12)))))))
set_option maxHeartbeats 4000000 in
set_option maxRecDepth 100000 in
theorem c_J0_charAt_5068e (l : Launch) (G : GG) (σ : St) (sz : Nat) (p0 : Nat) (p1 : Int32) (Q : Int32 → St → Prop) (h : f_J0_charAt_5068e σ p0 p1 Q) : CTi l yJ0_charAt_5068e wsJ0_charAt_5068e ({ frames := 3, cells := 0, slots := 0, locals := 64 }) [.ref (G.2.2 (20 + p0)), .int p1] G σ sz Q := by
  refine Met.ofW (cc := cJ0_charAt_5068e) (maxL := 2) (ret := (some .char)) (by decide) rfl ?_
  intro p e s m args below meth c s₁ B hml hv
  obtain ⟨rfl, hpre⟩ := hv
  have hr := B.returns
  have hlocks := B.notSynchronized
  obtain ⟨hsz, -⟩ := id hpre
  subst hsz
  obtain ⟨E, hh⟩ := EV.ofPre (⟨B.exec, B.bytes, hml, findClass_of_methodNamed B.named, atoms_spec (ws := wsJ0_charAt_5068e) B.pre⟩ : CallFix p m c cJ0_charAt_5068e 2 s _ wsJ0_charAt_5068e RJ0) hpre
  have hx := E.1.1
  have hb := E.1.2.1
  have hown := E.1.2.2.2.1
  have hts := E.1.2.2.2.2
  have hl := lv_entry ([.ref (G.2.2 (20 + p0)), .int p1]) (n := 2) (Nat.le_of_ble_eq_true rfl)
  rw [lg_entry_eq]
  generalize (lg_sl ([.ref (G.2.2 (20 + p0)), .int p1]) ++ List.replicate (2 - (lg_sl ([.ref (G.2.2 (20 + p0)), .int p1])).length) Slot.unset).toArray = ls at hl ⊢
  have hl : lv_has ls 2 [(0, .ref (G.2.2 (20 + p0))), (1, .int p1)] := hl
  unfold f_J0_charAt_5068e at h
  refine lv_aload_n hx hb dJ0_charAt_5068e_0 rfl (lv_at hl 0 rfl) ?_
  obtain ⟨h0, h⟩ := h
  refine q_Vi (As := []) (rest := []) E hh (c_J0_isLatin1_aae02 l G _ _ _ _ h) (cwV 0 hts gJ0_charAt_5068e_J0_isLatin1_aae02 rfl rfl rfl (by decide +kernel) ⟨Nat.le_of_ble_eq_true rfl, Nat.le_of_ble_eq_true rfl⟩) (vk_recv (adK := fun i => G.2.2 (20 + i)) (i := p0) E.2.2.2.1.2.2.2.2.2.2.2.1 h0 hh.2) rfl hl.1 rfl (Nat.le_of_ble_eq_true rfl) dJ0_charAt_5068e_1 ⟨Nat.zero_le _, Nat.zero_le _⟩ (fun r1 s1 H locs h hh => ?_)
  refine lv_if_eq (tgt := 16) hx hb dJ0_charAt_5068e_4 (by decide) (fun c9 => ?_) (fun c9 => ?_)
  · have h := h.1 c9
    refine lv_aload_n hx hb dJ0_charAt_5068e_16 rfl (lv_at hl 0 rfl) ?_
    obtain ⟨h0, h⟩ := h
    refine vk_getf (own := RJ0) hx hb (E.2.2.2.1.2.2.2.2.2.2.2.1.1 _ h0).2.2.1 hh.2 hown (hts _ (List.mem_cons_of_mem _ (List.mem_append_left _ (List.mem_of_getElem? (i := 0) rfl)))) (fun _ h9 => h9) dJ0_charAt_5068e_17 ?_
    exact h.elim
  · have h := h.2 c9
    refine lv_aload_n hx hb dJ0_charAt_5068e_7 rfl (lv_at hl 0 rfl) ?_
    obtain ⟨h0, h⟩ := h
    refine vk_getf (own := RJ0) hx hb (E.2.2.2.1.2.2.2.2.2.2.2.1.1 _ h0).2.2.1 hh.2 hown (hts _ (List.mem_cons_of_mem _ (List.mem_append_left _ (List.mem_of_getElem? (i := 0) rfl)))) (fun _ h9 => h9) dJ0_charAt_5068e_8 ?_
    refine lv_iload_n hx hb dJ0_charAt_5068e_11 rfl (lv_at hl 1 rfl) ?_
    refine q_Si (As := [.ref (G.2.2 (40 + p0)), .int p1]) (rest := []) E hh (c_J1_charAt_3b067 l G _ _ _ _ _ h) (va_cwS 2 hts gJ0_charAt_5068e_J1_charAt_3b067 rfl rfl rfl (by decide +kernel) ⟨Nat.le_of_ble_eq_true rfl, Nat.le_of_ble_eq_true rfl⟩) rfl hl.1 rfl (Nat.le_of_ble_eq_true rfl) dJ0_charAt_5068e_12 ⟨Nat.zero_le _, Nat.zero_le _⟩ (fun r12 s12 H locs h hh => ?_)
    exact q_zret (ty := .char) E hh hr hlocks h.1 h.2 dJ0_charAt_5068e_15
def f_J9_floorMod_7cf53 (σ : St) (p0 : Int32) (p1 : Int32) (Q : Int32 → St → Prop) : Prop :=
  (¬ p1 = 0 ∧ ((0 ≤ (p0 ^^^ p1) → Q (p0 - p0 / p1 * p1) σ) ∧ (¬ 0 ≤ (p0 ^^^ p1) → (((p0 - p0 / p1 * p1) = 0 → Q (p0 - p0 / p1 * p1) σ) ∧ (¬ (p0 - p0 / p1 * p1) = 0 → Q ((p0 - p0 / p1 * p1) + p1) σ)))))
set_option maxHeartbeats 4000000 in
set_option maxRecDepth 100000 in
theorem c_J9_floorMod_7cf53 (l : Launch) (G : GG) (σ : St) (sz : Nat) (p0 : Int32) (p1 : Int32) (Q : Int32 → St → Prop) (h : f_J9_floorMod_7cf53 σ p0 p1 Q) : CTi l yJ9_floorMod_7cf53 wsJ9_floorMod_7cf53 ({ frames := 0, cells := 0, slots := 0, locals := 0 }) [.int p0, .int p1] G σ sz Q := by
  refine met_ofWF (cc := cJ9_floorMod_7cf53) (maxL := 3) (ret := (some .int)) (by decide +kernel) rfl ?_
  intro p e s m args below meth c s₁ B hml hv
  obtain ⟨rfl, hpre⟩ := hv
  have hr := B.returns
  have hlocks := B.notSynchronized
  obtain ⟨hsz, -⟩ := id hpre
  subst hsz
  obtain ⟨E, hh⟩ := EV.ofPre (⟨B.exec, B.bytes, hml, findClass_of_methodNamed B.named, atoms_spec (ws := wsJ9_floorMod_7cf53) B.pre⟩ : CallFix p m c cJ9_floorMod_7cf53 3 s _ wsJ9_floorMod_7cf53 RJ9) hpre
  have hx := E.1.1
  have hb := E.1.2.1
  have hown := E.1.2.2.2.1
  have hts := E.1.2.2.2.2
  have hl := lv_entry ([.int p0, .int p1]) (n := 3) (Nat.le_of_ble_eq_true rfl)
  rw [lg_entry_eq]
  generalize (lg_sl ([.int p0, .int p1]) ++ List.replicate (3 - (lg_sl ([.int p0, .int p1])).length) Slot.unset).toArray = ls at hl ⊢
  have hl : lv_has ls 3 [(0, .int p0), (1, .int p1)] := hl
  unfold f_J9_floorMod_7cf53 at h
  refine lv_iload_n hx hb dJ9_floorMod_7cf53_0 rfl (lv_at hl 0 rfl) ?_
  refine lv_iload_n hx hb dJ9_floorMod_7cf53_1 rfl (lv_at hl 1 rfl) ?_
  obtain ⟨h0, h⟩ := h
  refine lv_irem hx hb dJ9_floorMod_7cf53_2 h0 ?_
  refine lv_istore_n (lv' := [(2, .int (p0 - p0 / p1 * p1)), (0, .int p0), (1, .int p1)]) hx hb dJ9_floorMod_7cf53_3 rfl hl (by decide) rfl (fun ls hl => ?_)
  refine lv_iload_n hx hb dJ9_floorMod_7cf53_4 rfl (lv_at hl 1 rfl) ?_
  refine lv_iload_n hx hb dJ9_floorMod_7cf53_5 rfl (lv_at hl 2 rfl) ?_
  refine lv_ixor hx hb dJ9_floorMod_7cf53_6 ?_
  refine lv_if_ge (tgt := 18) hx hb dJ9_floorMod_7cf53_7 (by decide) (fun c9 => ?_) (fun c9 => ?_)
  · have h := h.1 c9
    refine lv_iload_n hx hb dJ9_floorMod_7cf53_18 rfl (lv_at hl 0 rfl) ?_
    exact q_iret E hh hr hlocks h dJ9_floorMod_7cf53_19
  · have h := h.2 c9
    refine lv_iload_n hx hb dJ9_floorMod_7cf53_10 rfl (lv_at hl 0 rfl) ?_
    refine lv_if_eq (tgt := 18) hx hb dJ9_floorMod_7cf53_11 (by decide) (fun c9 => ?_) (fun c9 => ?_)
    · have h := h.1 c9
      refine lv_iload_n hx hb dJ9_floorMod_7cf53_18 rfl (lv_at hl 0 rfl) ?_
      exact q_iret E hh hr hlocks h dJ9_floorMod_7cf53_19
    · have h := h.2 c9
      refine lv_iload_n hx hb dJ9_floorMod_7cf53_14 rfl (lv_at hl 0 rfl) ?_
      refine lv_iload_n hx hb dJ9_floorMod_7cf53_15 rfl (lv_at hl 2 rfl) ?_
      refine lv_iadd hx hb dJ9_floorMod_7cf53_16 ?_
      exact q_iret E hh hr hlocks h dJ9_floorMod_7cf53_17
