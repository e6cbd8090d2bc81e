def f_X9_wind (σ : St) (p1 : Int32) (Q : Int32 → St → Prop) : Prop :=
  f_X9_isWay (si σ 23 (0 : Int32)) p1 (fun r7 s7 => ((¬ r7 = 0 → f_X9_bad s7 (0 : Int32) (1 : Int32) (fun r19 s19 => ((r19 = 0 → Q (gi s19 25) (si s19 25 p1)) ∧ (¬ r19 = 0 → Q (0 : Int32) s19)))) ∧ (r7 = 0 → f_X9_bad s7 (1 : Int32) (1 : Int32) (fun r19 s19 => ((r19 = 0 → Q (gi s19 25) (si s19 25 p1)) ∧ (¬ r19 = 0 → Q (0 : Int32) s19))))))
set_option maxHeartbeats 4000000 in
set_option maxRecDepth 100000 in
theorem c_X9_wind (l : Launch) (G : GG) (σ : St) (sz : Nat) (p1 : Int32) (Q : Int32 → St → Prop) (h : f_X9_wind σ p1 Q) : CTi l yX9_wind wsX9_wind ({ frames := 1, cells := 0, slots := 0, locals := 22 }) [.ref (G.2.1 28), .int p1] G σ sz Q := by
  refine Met.ofW (cc := cX9_wind) (maxL := 3) (ret := (some .int)) (by decide) rfl ?_
  intro p e s m args below meth c s₁ B hml hv
  obtain ⟨rfl, hpre⟩ := hv
  have hr := B.returns
  have hlocks := B.notSynchronized
  obtain ⟨hsz, -⟩ := id hpre
  subst hsz
  obtain ⟨E, hh⟩ := EV.ofPre (⟨B.exec, B.bytes, hml, findClass_of_methodNamed B.named, atoms_spec (ws := wsX9_wind) B.pre⟩ : CallFix p m c cX9_wind 3 s _ wsX9_wind RX9) hpre
  have hx := E.1.1
  have hb := E.1.2.1
  have hown := E.1.2.2.2.1
  have hts := E.1.2.2.2.2
  have h_inX9 : ∀ w ∈ wsX90, w ∈ wsX9_wind := (fun _ h9 => (List.mem_cons_of_mem _ (List.mem_append_right _ h9)))
  have hl := lv_entry ([.ref (G.2.1 28), .int p1]) (n := 3) (Nat.le_of_ble_eq_true rfl)
  rw [lg_entry_eq]
  generalize (lg_sl ([.ref (G.2.1 28), .int p1]) ++ List.replicate (3 - (lg_sl ([.ref (G.2.1 28), .int p1])).length) Slot.unset).toArray = ls at hl ⊢
  have hl : lv_has ls 3 [(0, .ref (G.2.1 28)), (1, .int p1)] := hl
  unfold f_X9_wind at h
  refine lv_aload_n hx hb dX9_wind_0 rfl (lv_at hl 0 rfl) ?_
  refine lv_iconst (v := (0 : Int32)) hx hb dX9_wind_1 (by decide) ?_
  refine q_put (T := TX9) E hh h_inX9 tyX9 tyX9_ok nmX9 28 (WW_at_28 G σ) rfl 0 (by decide) (List.mem_cons_of_mem _ (List.mem_append_left _ (List.mem_of_getElem? (i := 0) rfl))) rfl rfl (by decide +kernel) (Nat.le_of_ble_eq_true rfl) dX9_wind_2 (WW_si_23 G σ (0 : Int32)) (fun H locs hh => ?_)
  refine lv_aload_n hx hb dX9_wind_5 rfl (lv_at hl 0 rfl) ?_
  refine lv_iload_n hx hb dX9_wind_6 rfl (lv_at hl 1 rfl) ?_
  refine q_Si (As := [.int p1]) (rest := [.ref (G.2.1 28)]) E hh (c_X9_isWay l G _ _ _ _ h) (va_cwS 1 hts gX9_wind_X9_isWay rfl rfl rfl (by decide +kernel) ⟨Nat.le_of_ble_eq_true rfl, Nat.le_of_ble_eq_true rfl⟩) rfl hl.1 rfl (Nat.le_of_ble_eq_true rfl) dX9_wind_7 ⟨Nat.zero_le _, Nat.zero_le _⟩ (fun r7 s7 H locs h hh => ?_)
  refine lv_if_ne (tgt := 17) hx hb dX9_wind_10 (by decide) (fun c9 => ?_) (fun c9 => ?_)
  · have h := h.1 c9
    refine lv_iconst (v := (0 : Int32)) hx hb dX9_wind_17 (by decide) ?_
    refine lv_iconst (v := (1 : Int32)) hx hb dX9_wind_18 (by decide) ?_
    refine q_Vi (As := [.int (0 : Int32), .int (1 : Int32)]) (rest := []) E hh (c_X9_bad l G _ _ _ _ _ h) (cwV 2 hts gX9_wind_X9_bad rfl rfl rfl (by decide +kernel) ⟨Nat.le_of_ble_eq_true rfl, Nat.le_of_ble_eq_true rfl⟩) (va_recv (ci := 9) E.2.1 hh.1 rfl (WW_at_28 G s7)) rfl hl.1 rfl (Nat.le_of_ble_eq_true rfl) dX9_wind_19 ⟨Nat.zero_le _, Nat.zero_le _⟩ (fun r19 s19 H locs h hh => ?_)
    refine lv_if_eq (tgt := 27) hx hb dX9_wind_22 (by decide) (fun c9 => ?_) (fun c9 => ?_)
    · have h := h.1 c9
      refine lv_aload_n hx hb dX9_wind_27 rfl (lv_at hl 0 rfl) ?_
      refine q_get (T := TX9) (v := .int (gi s19 25)) E hh h_inX9 28 (WW_at_28 G s19) rfl 5 (by decide) (List.mem_cons_of_mem _ (List.mem_append_left _ (List.mem_of_getElem? (i := 1) rfl))) rfl rfl dX9_wind_28 ?_
      refine lv_istore_n (lv' := [(2, .int (gi s19 25)), (0, .ref (G.2.1 28)), (1, .int p1)]) hx hb dX9_wind_31 rfl hl (by decide) rfl (fun ls hl => ?_)
      refine lv_aload_n hx hb dX9_wind_32 rfl (lv_at hl 1 rfl) ?_
      refine lv_iload_n hx hb dX9_wind_33 rfl (lv_at hl 2 rfl) ?_
      refine q_put (T := TX9) E hh h_inX9 tyX9 tyX9_ok nmX9 28 (WW_at_28 G s19) rfl 5 (by decide) (List.mem_cons_of_mem _ (List.mem_append_left _ (List.mem_of_getElem? (i := 1) rfl))) rfl rfl (by decide +kernel) (Nat.le_of_ble_eq_true rfl) dX9_wind_34 (WW_si_25 G s19 p1) (fun H locs hh => ?_)
      refine lv_iload_n hx hb dX9_wind_37 rfl (lv_at hl 0 rfl) ?_
      exact q_iret E hh hr hlocks h dX9_wind_38
    · have h := h.2 c9
      refine lv_iconst (v := (0 : Int32)) hx hb dX9_wind_25 (by decide) ?_
      exact q_iret E hh hr hlocks h dX9_wind_26
  · have h := h.2 c9
    refine lv_iconst (v := (1 : Int32)) hx hb dX9_wind_13 (by decide) ?_
    refine lv_goto (tgt := 18) hx hb dX9_wind_14 (by decide) ?_
    refine lv_iconst (v := (1 : Int32)) hx hb dX9_wind_18 (by decide) ?_
    refine q_Vi (As := [.int (1 : Int32), .int (1 : Int32)]) (rest := []) E hh (c_X9_bad l G _ _ _ _ _ h) (cwV 2 hts gX9_wind_X9_bad rfl rfl rfl (by decide +kernel) ⟨Nat.le_of_ble_eq_true rfl, Nat.le_of_ble_eq_true rfl⟩) (va_recv (ci := 9) E.2.1 hh.1 rfl (WW_at_28 G s7)) rfl hl.1 rfl (Nat.le_of_ble_eq_true rfl) dX9_wind_19 ⟨Nat.zero_le _, Nat.zero_le _⟩ (fun r19 s19 H locs h hh => ?_)
    refine lv_if_eq (tgt := 27) hx hb dX9_wind_22 (by decide) (fun c9 => ?_) (fun c9 => ?_)
    · have h := h.1 c9
      refine lv_aload_n hx hb dX9_wind_27 rfl (lv_at hl 0 rfl) ?_
      refine q_get (T := TX9) (v := .int (gi s19 25)) E hh h_inX9 28 (WW_at_28 G s19) rfl 5 (by decide) (List.mem_cons_of_mem _ (List.mem_append_left _ (List.mem_of_getElem? (i := 1) rfl))) rfl rfl dX9_wind_28 ?_
      refine lv_istore_n (lv' := [(2, .int (gi s19 25)), (0, .ref (G.2.1 28)), (1, .int p1)]) hx hb dX9_wind_31 rfl hl (by decide) rfl (fun ls hl => ?_)
      refine lv_aload_n hx hb dX9_wind_32 rfl (lv_at hl 1 rfl) ?_
      refine lv_iload_n hx hb dX9_wind_33 rfl (lv_at hl 2 rfl) ?_
      refine q_put (T := TX9) E hh h_inX9 tyX9 tyX9_ok nmX9 28 (WW_at_28 G s19) rfl 5 (by decide) (List.mem_cons_of_mem _ (List.mem_append_left _ (List.mem_of_getElem? (i := 1) rfl))) rfl rfl (by decide +kernel) (Nat.le_of_ble_eq_true rfl) dX9_wind_34 (WW_si_25 G s19 p1) (fun H locs hh => ?_)
      refine lv_iload_n hx hb dX9_wind_37 rfl (lv_at hl 0 rfl) ?_
      exact q_iret E hh hr hlocks h dX9_wind_38
    · have h := h.2 c9
      refine lv_iconst (v := (0 : Int32)) hx hb dX9_wind_25 (by decide) ?_
      exact q_iret E hh hr hlocks h dX9_wind_26
def f_X9_stepped (σ : St) (p1 : Int32) (p2 : Int32) (Q : Int32 → St → Prop) : Prop :=
  f_X9_wayX σ (gi σ 25) (fun r9 s9 => f_X9_wayY s9 (gi s9 25) (fun r24 s24 => ((((p1 - p1 / (12 : Int32) * (12 : Int32)) + (p2 * r9)) < 0 → Q (-1 : Int32) s24) ∧ (¬ ((p1 - p1 / (12 : Int32) * (12 : Int32)) + (p2 * r9)) < 0 → ((((p1 / (12 : Int32)) + (p2 * r24)) < 0 → Q (-1 : Int32) s24) ∧ (¬ ((p1 / (12 : Int32)) + (p2 * r24)) < 0 → (((12 : Int32) ≤ ((p1 - p1 / (12 : Int32) * (12 : Int32)) + (p2 * r9)) → Q (-1 : Int32) s24) ∧ (¬ (12 : Int32) ≤ ((p1 - p1 / (12 : Int32) * (12 : Int32)) + (p2 * r9)) → ((((p1 / (12 : Int32)) + (p2 * r24)) < (12 : Int32) → Q (((12 : Int32) * ((p1 / (12 : Int32)) + (p2 * r24))) + ((p1 - p1 / (12 : Int32) * (12 : Int32)) + (p2 * r9))) s24) ∧ (¬ ((p1 / (12 : Int32)) + (p2 * r24)) < (12 : Int32) → Q (-1 : Int32) s24))))))))))
set_option maxHeartbeats 4000000 in
set_option maxRecDepth 100000 in
theorem c_X9_stepped (l : Launch) (G : GG) (σ : St) (sz : Nat) (p1 : Int32) (p2 : Int32) (Q : Int32 → St → Prop) (h : f_X9_stepped σ p1 p2 Q) : CTi l yX9_stepped wsX9_stepped ({ frames := 1, cells := 0, slots := 0, locals := 20 }) [.ref (G.2.1 28), .int p1, .int p2] G σ sz Q := by
  refine Met.ofW (cc := cX9_stepped) (maxL := 5) (ret := (some .int)) (by decide) rfl ?_
  intro p e s m args below meth c s₁ B hml hv
  obtain ⟨rfl, hpre⟩ := hv
  have hr := B.returns
  have hlocks := B.notSynchronized
  obtain ⟨hsz, -⟩ := id hpre
  subst hsz
  obtain ⟨E, hh⟩ := EV.ofPre (⟨B.exec, B.bytes, hml, findClass_of_methodNamed B.named, atoms_spec (ws := wsX9_stepped) B.pre⟩ : CallFix p m c cX9_stepped 5 s _ wsX9_stepped RX9) hpre
  have hx := E.1.1
  have hb := E.1.2.1
  have hown := E.1.2.2.2.1
  have hts := E.1.2.2.2.2
  have h_inX9 : ∀ w ∈ wsX90, w ∈ wsX9_stepped := (fun _ h9 => (List.mem_cons_of_mem _ (List.mem_append_right _ h9)))
  have hl := lv_entry ([.ref (G.2.1 28), .int p1, .int p2]) (n := 5) (Nat.le_of_ble_eq_true rfl)
  rw [lg_entry_eq]
  generalize (lg_sl ([.ref (G.2.1 28), .int p1, .int p2]) ++ List.replicate (5 - (lg_sl ([.ref (G.2.1 28), .int p1, .int p2])).length) Slot.unset).toArray = ls at hl ⊢
  have hl : lv_has ls 5 [(0, .ref (G.2.1 28)), (1, .int p1), (2, .int p2)] := hl
  unfold f_X9_stepped at h
  refine lv_iload_n hx hb dX9_stepped_0 rfl (lv_at hl 1 rfl) ?_
  refine lv_bipush (v := (12 : Int32)) hx hb dX9_stepped_1 (by decide) ?_
  refine lv_irem hx hb dX9_stepped_3 (by decide) ?_
  refine lv_iload_n hx hb dX9_stepped_4 rfl (lv_at hl 2 rfl) ?_
  refine lv_aload_n hx hb dX9_stepped_5 rfl (lv_at hl 0 rfl) ?_
  refine q_get (T := TX9) (v := .int (gi σ 25)) E hh h_inX9 28 (WW_at_28 G σ) rfl 5 (by decide) (List.mem_cons_of_mem _ (List.mem_append_left _ (List.mem_of_getElem? (i := 0) rfl))) rfl rfl dX9_stepped_6 ?_
  refine q_Si (As := [.int (gi σ 25)]) (rest := [.int p2, .int (p1 - p1 / (12 : Int32) * (12 : Int32))]) E hh (c_X9_wayX l G _ _ _ _ h) (va_cwS 1 hts gX9_stepped_X9_wayX rfl rfl rfl (by decide +kernel) ⟨Nat.le_of_ble_eq_true rfl, Nat.le_of_ble_eq_true rfl⟩) rfl hl.1 rfl (Nat.le_of_ble_eq_true rfl) dX9_stepped_9 ⟨Nat.zero_le _, Nat.zero_le _⟩ (fun r9 s9 H locs h hh => ?_)
  refine lv_imul hx hb dX9_stepped_12 ?_
  refine lv_iadd hx hb dX9_stepped_13 ?_
  refine lv_istore_n (lv' := [(3, .int ((p1 - p1 / (12 : Int32) * (12 : Int32)) + (p2 * r9))), (0, .ref (G.2.1 28)), (1, .int p1), (2, .int p2)]) hx hb dX9_stepped_14 rfl hl (by decide) rfl (fun ls hl => ?_)
  refine lv_iload_n hx hb dX9_stepped_15 rfl (lv_at hl 2 rfl) ?_
  refine lv_bipush (v := (12 : Int32)) hx hb dX9_stepped_16 (by decide) ?_
  refine lv_idiv hx hb dX9_stepped_18 (by decide) ?_
  refine lv_iload_n hx hb dX9_stepped_19 rfl (lv_at hl 3 rfl) ?_
  refine lv_aload_n hx hb dX9_stepped_20 rfl (lv_at hl 1 rfl) ?_
  refine q_get (T := TX9) (v := .int (gi s9 25)) E hh h_inX9 28 (WW_at_28 G s9) rfl 5 (by decide) (List.mem_cons_of_mem _ (List.mem_append_left _ (List.mem_of_getElem? (i := 0) rfl))) rfl rfl dX9_stepped_21 ?_
  refine q_Si (As := [.int (gi s9 25)]) (rest := [.int p2, .int (p1 / (12 : Int32))]) E hh (c_X9_wayY l G _ _ _ _ h) (va_cwS 1 hts gX9_stepped_X9_wayY rfl rfl rfl (by decide +kernel) ⟨Nat.le_of_ble_eq_true rfl, Nat.le_of_ble_eq_true rfl⟩) rfl hl.1 rfl (Nat.le_of_ble_eq_true rfl) dX9_stepped_24 ⟨Nat.zero_le _, Nat.zero_le _⟩ (fun r24 s24 H locs h hh => ?_)
  refine lv_imul hx hb dX9_stepped_27 ?_
  refine lv_iadd hx hb dX9_stepped_28 ?_
  refine lv_istore (lv' := [(4, .int ((p1 / (12 : Int32)) + (p2 * r24))), (3, .int ((p1 - p1 / (12 : Int32) * (12 : Int32)) + (p2 * r9))), (0, .ref (G.2.1 28)), (1, .int p1), (2, .int p2)]) hx hb dX9_stepped_29 hl (by decide) rfl (fun ls hl => ?_)
  refine lv_iload_n hx hb dX9_stepped_31 rfl (lv_at hl 1 rfl) ?_
  refine lv_if_lt (tgt := 53) hx hb dX9_stepped_32 (by decide) (fun c9 => ?_) (fun c9 => ?_)
  · have h := h.1 c9
    refine lv_iconst (v := (-1 : Int32)) hx hb dX9_stepped_53 (by decide) ?_
    refine lv_goto (tgt := 64) hx hb dX9_stepped_54 (by decide) ?_
    exact q_iret E hh hr hlocks h dX9_stepped_64
  · have h := h.2 c9
    refine lv_iload hx hb dX9_stepped_35 (lv_at hl 0 rfl) ?_
    refine lv_if_lt (tgt := 53) hx hb dX9_stepped_37 (by decide) (fun c9 => ?_) (fun c9 => ?_)
    · have h := h.1 c9
      refine lv_iconst (v := (-1 : Int32)) hx hb dX9_stepped_53 (by decide) ?_
      refine lv_goto (tgt := 64) hx hb dX9_stepped_54 (by decide) ?_
      exact q_iret E hh hr hlocks h dX9_stepped_64
    · have h := h.2 c9
      refine lv_iload_n hx hb dX9_stepped_40 rfl (lv_at hl 1 rfl) ?_
      refine lv_bipush (v := (12 : Int32)) hx hb dX9_stepped_41 (by decide) ?_
      refine lv_icmp_ge (tgt := 53) hx hb dX9_stepped_43 (by decide) (fun c9 => ?_) (fun c9 => ?_)
      · have h := h.1 c9
        refine lv_iconst (v := (-1 : Int32)) hx hb dX9_stepped_53 (by decide) ?_
        refine lv_goto (tgt := 64) hx hb dX9_stepped_54 (by decide) ?_
        exact q_iret E hh hr hlocks h dX9_stepped_64
      · have h := h.2 c9
        refine lv_iload hx hb dX9_stepped_46 (lv_at hl 0 rfl) ?_
        refine lv_bipush (v := (12 : Int32)) hx hb dX9_stepped_48 (by decide) ?_
        refine lv_icmp_lt (tgt := 57) hx hb dX9_stepped_50 (by decide) (fun c9 => ?_) (fun c9 => ?_)
        · have h := h.1 c9
          refine lv_bipush (v := (12 : Int32)) hx hb dX9_stepped_57 (by decide) ?_
          refine lv_iload hx hb dX9_stepped_59 (lv_at hl 0 rfl) ?_
          refine lv_imul hx hb dX9_stepped_61 ?_
          refine lv_iload_n hx hb dX9_stepped_62 rfl (lv_at hl 1 rfl) ?_
          refine lv_iadd hx hb dX9_stepped_63 ?_
          exact q_iret E hh hr hlocks h dX9_stepped_64
        · have h := h.2 c9
          refine lv_iconst (v := (-1 : Int32)) hx hb dX9_stepped_53 (by decide) ?_
          refine lv_goto (tgt := 64) hx hb dX9_stepped_54 (by decide) ?_
          exact q_iret E hh hr hlocks h dX9_stepped_64
def f_X9_lengthFrom_2 (Q : Int32 → St → Prop)  (rec : St → Int32 → Int32 → Prop) (σ : St) (l1 : Int32) (l2 : Int32) : Prop :=
  f_X9_stepped σ l1 l2 (fun r5 s5 => ((r5 < 0 → Q (l2 - (1 : Int32)) s5) ∧ (¬ r5 < 0 → f_X9_stepped s5 l1 l2 (fun r15 s15 => f_X9_isSafe s15 r15 (fun r18 s18 => ((r18 = 0 → Q (l2 - (1 : Int32)) s18) ∧ (¬ r18 = 0 → rec s18 l1 (l2 + 1))))))))
def f_X9_lengthFrom_2L (Q : Int32 → St → Prop)  : Nat → St → Int32 → Int32 → Prop
  | 0, _, _, _ => False
  | n + 1, σ, l1, l2 => f_X9_lengthFrom_2 Q  (f_X9_lengthFrom_2L Q  n) σ l1 l2
set_option maxHeartbeats 4000000 in
set_option maxRecDepth 100000 in
theorem w_X9_lengthFrom_2 {p : Program} {l : Launch} {e : Env} {s : State} {m : MethodId} {args : Array Value} {below : List Frame} {meth : Method} {c : Code} {G : GG} (E : EV p s m args c cX9_lengthFrom 3 wsX9_lengthFrom RX9 G (AD G s.heap.size)) (hr : meth.sig.returnType = (some .int)) (hlocks : meth.locks = false) {Q : Int32 → St → Prop}  : ∀ (n : Nat) (σ : St) (l1 : Int32) (l2 : Int32) (H : Heap) (locs : List Loc) (ls : Array Slot), f_X9_lengthFrom_2L Q  n σ l1 l2 → HH G (AD G s.heap.size) s σ H locs → lv_has ls 3 [(0, .ref (G.2.1 28)), (1, .int l1), (2, .int l2)] → W p l e ({ frames := 2, cells := 0, slots := 0, locals := 44 }) s m args below meth c H locs 0 0 (MQi below G args s Q) (F0 m 2 ls []) := by
  have hx := E.1.1
  have hb := E.1.2.1
  have hown := E.1.2.2.2.1
  have hts := E.1.2.2.2.2
  intro n
  induction n with
  | zero =>
    intro σ l1 l2 H locs ls h
    exact h.elim
  | succ n ih =>
    intro σ l1 l2 H locs ls h hh hl
    have h : f_X9_lengthFrom_2 Q  (f_X9_lengthFrom_2L Q  n) σ l1 l2 := h
    unfold f_X9_lengthFrom_2 at h
    refine lv_aload_n hx hb dX9_lengthFrom_2 rfl (lv_at hl 0 rfl) ?_
    refine lv_iload_n hx hb dX9_lengthFrom_3 rfl (lv_at hl 1 rfl) ?_
    refine lv_iload_n hx hb dX9_lengthFrom_4 rfl (lv_at hl 2 rfl) ?_
    refine q_Vi (As := [.int l1, .int l2]) (rest := []) E hh (c_X9_stepped l G _ _ _ _ _ h) (cwV 2 hts gX9_lengthFrom_X9_stepped rfl rfl rfl (by decide +kernel) ⟨Nat.le_of_ble_eq_true rfl, Nat.le_of_ble_eq_true rfl⟩) (va_recv (ci := 9) E.2.1 hh.1 rfl (WW_at_28 G σ)) rfl hl.1 rfl (Nat.le_of_ble_eq_true rfl) dX9_lengthFrom_5 ⟨Nat.zero_le _, Nat.zero_le _⟩ (fun r5 s5 H locs h hh => ?_)
    refine lv_if_lt (tgt := 30) hx hb dX9_lengthFrom_8 (by decide) (fun c9 => ?_) (fun c9 => ?_)
    · have h := h.1 c9
      refine lv_iload_n hx hb dX9_lengthFrom_30 rfl (lv_at hl 2 rfl) ?_
      refine lv_iconst (v := (1 : Int32)) hx hb dX9_lengthFrom_31 (by decide) ?_
      refine lv_isub hx hb dX9_lengthFrom_32 ?_
      exact q_iret E hh hr hlocks h dX9_lengthFrom_33
    · have h := h.2 c9
      refine lv_aload_n hx hb dX9_lengthFrom_11 rfl (lv_at hl 0 rfl) ?_
      refine lv_aload_n hx hb dX9_lengthFrom_12 rfl (lv_at hl 0 rfl) ?_
      refine lv_iload_n hx hb dX9_lengthFrom_13 rfl (lv_at hl 1 rfl) ?_
      refine lv_iload_n hx hb dX9_lengthFrom_14 rfl (lv_at hl 2 rfl) ?_
      refine q_Vi (As := [.int l1, .int l2]) (rest := [.ref (G.2.1 28)]) E hh (c_X9_stepped l G _ _ _ _ _ h) (cwV 2 hts gX9_lengthFrom_X9_stepped rfl rfl rfl (by decide +kernel) ⟨Nat.le_of_ble_eq_true rfl, Nat.le_of_ble_eq_true rfl⟩) (va_recv (ci := 9) E.2.1 hh.1 rfl (WW_at_28 G s5)) rfl hl.1 rfl (Nat.le_of_ble_eq_true rfl) dX9_lengthFrom_15 ⟨Nat.zero_le _, Nat.zero_le _⟩ (fun r15 s15 H locs h hh => ?_)
      refine q_Vi (As := [.int r15]) (rest := []) E hh (c_X9_isSafe l G _ _ _ _ h) (cwV 1 hts gX9_lengthFrom_X9_isSafe rfl rfl rfl (by decide +kernel) ⟨Nat.le_of_ble_eq_true rfl, Nat.le_of_ble_eq_true rfl⟩) (va_recv (ci := 9) E.2.1 hh.1 rfl (WW_at_28 G s15)) rfl hl.1 rfl (Nat.le_of_ble_eq_true rfl) dX9_lengthFrom_18 ⟨Nat.zero_le _, Nat.zero_le _⟩ (fun r18 s18 H locs h hh => ?_)
      refine lv_if_eq (tgt := 30) hx hb dX9_lengthFrom_21 (by decide) (fun c9 => ?_) (fun c9 => ?_)
      · have h := h.1 c9
        refine lv_iload_n hx hb dX9_lengthFrom_30 rfl (lv_at hl 2 rfl) ?_
        refine lv_iconst (v := (1 : Int32)) hx hb dX9_lengthFrom_31 (by decide) ?_
        refine lv_isub hx hb dX9_lengthFrom_32 ?_
        exact q_iret E hh hr hlocks h dX9_lengthFrom_33
      · have h := h.2 c9
        refine lv_iinc (v := (l2 + 1)) (lv' := [(2, .int (l2 + 1)), (0, .ref (G.2.1 28)), (1, .int l1)]) hx hb dX9_lengthFrom_24 hl (k := 2) rfl rfl (by decide) rfl (fun ls hl => ?_)
        refine lv_goto (tgt := 2) hx hb dX9_lengthFrom_27 (by decide) ?_
        exact ih _ _ _ _ _ _ h hh (lv_sub hl [1, 2, 0] rfl)
def f_X9_lengthFrom (σ : St) (p1 : Int32) (Q : Int32 → St → Prop) : Prop :=
  f_X9_lengthFrom_2L Q FU σ p1 (0 : Int32)
set_option maxHeartbeats 4000000 in
set_option maxRecDepth 100000 in
theorem c_X9_lengthFrom (l : Launch) (G : GG) (σ : St) (sz : Nat) (p1 : Int32) (Q : Int32 → St → Prop) (h : f_X9_lengthFrom σ p1 Q) : CTi l yX9_lengthFrom wsX9_lengthFrom ({ frames := 2, cells := 0, slots := 0, locals := 44 }) [.ref (G.2.1 28), .int p1] G σ sz Q := by
  refine Met.ofW (cc := cX9_lengthFrom) (maxL := 3) (ret := (some .int)) (by decide) rfl ?_
  intro p e s m args below meth c s₁ B hml hv
  obtain ⟨rfl, hpre⟩ := hv
  have hr := B.returns
  have hlocks := B.notSynchronized
  obtain ⟨hsz, -⟩ := id hpre
  subst hsz
  obtain ⟨E, hh⟩ := EV.ofPre (⟨B.exec, B.bytes, hml, findClass_of_methodNamed B.named, atoms_spec (ws := wsX9_lengthFrom) B.pre⟩ : CallFix p m c cX9_lengthFrom 3 s _ wsX9_lengthFrom RX9) hpre
  have hx := E.1.1
  have hb := E.1.2.1
  have hown := E.1.2.2.2.1
  have hts := E.1.2.2.2.2
  have hl := lv_entry ([.ref (G.2.1 28), .int p1]) (n := 3) (Nat.le_of_ble_eq_true rfl)
  rw [lg_entry_eq]
  generalize (lg_sl ([.ref (G.2.1 28), .int p1]) ++ List.replicate (3 - (lg_sl ([.ref (G.2.1 28), .int p1])).length) Slot.unset).toArray = ls at hl ⊢
  have hl : lv_has ls 3 [(0, .ref (G.2.1 28)), (1, .int p1)] := hl
  unfold f_X9_lengthFrom at h
  refine lv_iconst (v := (0 : Int32)) hx hb dX9_lengthFrom_0 (by decide) ?_
  refine lv_istore_n (lv' := [(2, .int (0 : Int32)), (0, .ref (G.2.1 28)), (1, .int p1)]) hx hb dX9_lengthFrom_1 rfl hl (by decide) rfl (fun ls hl => ?_)
  exact w_X9_lengthFrom_2 E hr hlocks  FU _ _ _ _ _ _ h hh (lv_sub hl [1, 2, 0] rfl)
def f_X9_course_11 (Q : Int32 → St → Prop)  (rec : St → Int32 → Int32 → Int32 → Prop) (σ : St) (l1 : Int32) (l2 : Int32) (l3 : Int32) : Prop :=
  (((144 : Int32) ≤ l3 → ((0 ≤ l2 → f_X9_stepped (si σ 26 l2) l2 l1 (fun r60 s60 => Q l1 (si s60 27 r60))) ∧ (¬ 0 ≤ l2 → Q (-1 : Int32) σ))) ∧ (¬ (144 : Int32) ≤ l3 → f_X9_lengthFrom σ l3 (fun r20 s20 => ((l1 < r20 → rec s20 r20 l3 (l3 + 1)) ∧ (¬ l1 < r20 → rec s20 l1 l2 (l3 + 1))))))
def f_X9_course_11L (Q : Int32 → St → Prop)  : Nat → St → Int32 → Int32 → Int32 → Prop
  | 0, _, _, _, _ => False
  | n + 1, σ, l1, l2, l3 => f_X9_course_11 Q  (f_X9_course_11L Q  n) σ l1 l2 l3
set_option maxHeartbeats 4000000 in
set_option maxRecDepth 100000 in
theorem w_X9_course_11 {p : Program} {l : Launch} {e : Env} {s : State} {m : MethodId} {args : Array Value} {below : List Frame} {meth : Method} {c : Code} {G : GG} (E : EV p s m args c cX9_course 5 wsX9_course RX9 G (AD G s.heap.size)) (hr : meth.sig.returnType = (some .int)) (hlocks : meth.locks = false) {Q : Int32 → St → Prop}  : ∀ (n : Nat) (σ : St) (l1 : Int32) (l2 : Int32) (l3 : Int32) (H : Heap) (locs : List Loc) (ls : Array Slot), f_X9_course_11L Q  n σ l1 l2 l3 → HH G (AD G s.heap.size) s σ H locs → lv_has ls 5 [(0, .ref (G.2.1 28)), (1, .int l1), (2, .int l2), (3, .int l3)] → W p l e ({ frames := 3, cells := 0, slots := 0, locals := 66 }) s m args below meth c H locs 0 0 (MQi below G args s Q) (F0 m 11 ls []) := by
  have hx := E.1.1
  have hb := E.1.2.1
  have hown := E.1.2.2.2.1
  have hts := E.1.2.2.2.2
  have h_inX9 : ∀ w ∈ wsX90, w ∈ wsX9_course := (fun _ h9 => (List.mem_cons_of_mem _ (List.mem_append_right _ h9)))
  intro n
  induction n with
  | zero =>
    intro σ l1 l2 l3 H locs ls h
    exact h.elim
  | succ n ih =>
    intro σ l1 l2 l3 H locs ls h hh hl
    have h : f_X9_course_11 Q  (f_X9_course_11L Q  n) σ l1 l2 l3 := h
    unfold f_X9_course_11 at h
    refine lv_iload_n hx hb dX9_course_11 rfl (lv_at hl 3 rfl) ?_
    refine lv_sipush (v := (144 : Int32)) hx hb dX9_course_12 (by decide) ?_
    refine lv_icmp_ge (tgt := 45) hx hb dX9_course_15 (by decide) (fun c9 => ?_) (fun c9 => ?_)
    · have h := h.1 c9
      refine lv_iload_n hx hb dX9_course_45 rfl (lv_at hl 2 rfl) ?_
      refine lv_if_ge (tgt := 51) hx hb dX9_course_46 (by decide) (fun c9 => ?_) (fun c9 => ?_)
      · have h := h.1 c9
        refine lv_aload_n hx hb dX9_course_51 rfl (lv_at hl 0 rfl) ?_
        refine lv_iload_n hx hb dX9_course_52 rfl (lv_at hl 2 rfl) ?_
        refine q_put (T := TX9) E hh h_inX9 tyX9 tyX9_ok nmX9 28 (WW_at_28 G σ) rfl 6 (by decide) (List.mem_cons_of_mem _ (List.mem_append_left _ (List.mem_append_left _ (List.mem_of_getElem? (i := 1) rfl)))) rfl rfl (by decide +kernel) (Nat.le_of_ble_eq_true rfl) dX9_course_53 (WW_si_26 G σ l2) (fun H locs hh => ?_)
        refine lv_aload_n hx hb dX9_course_56 rfl (lv_at hl 0 rfl) ?_
        refine lv_aload_n hx hb dX9_course_57 rfl (lv_at hl 0 rfl) ?_
        refine lv_iload_n hx hb dX9_course_58 rfl (lv_at hl 2 rfl) ?_
        refine lv_iload_n hx hb dX9_course_59 rfl (lv_at hl 1 rfl) ?_
        refine q_Vi (As := [.int l2, .int l1]) (rest := [.ref (G.2.1 28)]) E hh (c_X9_stepped l G _ _ _ _ _ h) (cwV 2 hts gX9_course_X9_stepped rfl rfl rfl (by decide +kernel) ⟨Nat.le_of_ble_eq_true rfl, Nat.le_of_ble_eq_true rfl⟩) (va_recv (ci := 9) E.2.1 hh.1 rfl (WW_at_28 G (si σ 26 l2))) rfl hl.1 rfl (Nat.le_of_ble_eq_true rfl) dX9_course_60 ⟨Nat.zero_le _, Nat.zero_le _⟩ (fun r60 s60 H locs h hh => ?_)
        refine q_put (T := TX9) E hh h_inX9 tyX9 tyX9_ok nmX9 28 (WW_at_28 G s60) rfl 7 (by decide) (List.mem_cons_of_mem _ (List.mem_append_left _ (List.mem_append_left _ (List.mem_of_getElem? (i := 2) rfl)))) rfl rfl (by decide +kernel) (Nat.le_of_ble_eq_true rfl) dX9_course_63 (WW_si_27 G s60 r60) (fun H locs hh => ?_)
        refine lv_iload_n hx hb dX9_course_66 rfl (lv_at hl 1 rfl) ?_
        exact q_iret E hh hr hlocks h dX9_course_67
      · have h := h.2 c9
        refine lv_iconst (v := (-1 : Int32)) hx hb dX9_course_49 (by decide) ?_
        exact q_iret E hh hr hlocks h dX9_course_50
    · have h := h.2 c9
      refine lv_aload_n hx hb dX9_course_18 rfl (lv_at hl 0 rfl) ?_
      refine lv_iload_n hx hb dX9_course_19 rfl (lv_at hl 3 rfl) ?_
      refine q_Vi (As := [.int l3]) (rest := []) E hh (c_X9_lengthFrom l G _ _ _ _ h) (cwV 1 hts gX9_course_X9_lengthFrom rfl rfl rfl (by decide +kernel) ⟨Nat.le_of_ble_eq_true rfl, Nat.le_of_ble_eq_true rfl⟩) (va_recv (ci := 9) E.2.1 hh.1 rfl (WW_at_28 G σ)) rfl hl.1 rfl (Nat.le_of_ble_eq_true rfl) dX9_course_20 ⟨Nat.zero_le _, Nat.zero_le _⟩ (fun r20 s20 H locs h hh => ?_)
      refine lv_istore (lv' := [(4, .int r20), (0, .ref (G.2.1 28)), (1, .int l1), (2, .int l2), (3, .int l3)]) hx hb dX9_course_23 hl (by decide) rfl (fun ls hl => ?_)
      refine lv_iload hx hb dX9_course_25 (lv_at hl 0 rfl) ?_
      refine lv_iload_n hx hb dX9_course_27 rfl (lv_at hl 2 rfl) ?_
      refine lv_icmp_gt (tgt := 34) hx hb dX9_course_28 (by decide) (fun c9 => ?_) (fun c9 => ?_)
      · have h := h.1 c9
        refine lv_iload hx hb dX9_course_34 (lv_at hl 0 rfl) ?_
        refine lv_istore_n (lv' := [(1, .int r20), (4, .int r20), (0, .ref (G.2.1 28)), (2, .int l2), (3, .int l3)]) hx hb dX9_course_36 rfl hl (by decide) rfl (fun ls hl => ?_)
        refine lv_iload_n hx hb dX9_course_37 rfl (lv_at hl 4 rfl) ?_
        refine lv_istore_n (lv' := [(2, .int l3), (1, .int r20), (4, .int r20), (0, .ref (G.2.1 28)), (3, .int l3)]) hx hb dX9_course_38 rfl hl (by decide) rfl (fun ls hl => ?_)
        refine lv_iinc (v := (l3 + 1)) (lv' := [(3, .int (l3 + 1)), (2, .int l3), (1, .int r20), (4, .int r20), (0, .ref (G.2.1 28))]) hx hb dX9_course_39 hl (k := 4) rfl rfl (by decide) rfl (fun ls hl => ?_)
        refine lv_goto (tgt := 11) hx hb dX9_course_42 (by decide) ?_
        exact ih _ _ _ _ _ _ _ h hh (lv_sub hl [4, 2, 1, 0] rfl)
      · have h := h.2 c9
        refine lv_goto (tgt := 39) hx hb dX9_course_31 (by decide) ?_
        refine lv_iinc (v := (l3 + 1)) (lv' := [(3, .int (l3 + 1)), (4, .int r20), (0, .ref (G.2.1 28)), (1, .int l1), (2, .int l2)]) hx hb dX9_course_39 hl (k := 4) rfl rfl (by decide) rfl (fun ls hl => ?_)
        refine lv_goto (tgt := 11) hx hb dX9_course_42 (by decide) ?_
        exact ih _ _ _ _ _ _ _ h hh (lv_sub hl [2, 3, 4, 0] rfl)
def f_X9_course (σ : St)  (Q : Int32 → St → Prop) : Prop :=
  f_X9_course_11L Q FU (si σ 23 (0 : Int32)) (0 : Int32) (-1 : Int32) (0 : Int32)
set_option maxHeartbeats 4000000 in
set_option maxRecDepth 100000 in
theorem c_X9_course (l : Launch) (G : GG) (σ : St) (sz : Nat)  (Q : Int32 → St → Prop) (h : f_X9_course σ  Q) : CTi l yX9_course wsX9_course ({ frames := 3, cells := 0, slots := 0, locals := 66 }) [.ref (G.2.1 28)] G σ sz Q := by
  refine Met.ofW (cc := cX9_course) (maxL := 5) (ret := (some .int)) (by decide) rfl ?_
  intro p e s m args below meth c s₁ B hml hv
  obtain ⟨rfl, hpre⟩ := hv
  have hr := B.returns
  have hlocks := B.notSynchronized
  obtain ⟨hsz, -⟩ := id hpre
  subst hsz
  obtain ⟨E, hh⟩ := EV.ofPre (⟨B.exec, B.bytes, hml, findClass_of_methodNamed B.named, atoms_spec (ws := wsX9_course) B.pre⟩ : CallFix p m c cX9_course 5 s _ wsX9_course RX9) hpre
  have hx := E.1.1
  have hb := E.1.2.1
  have hown := E.1.2.2.2.1
  have hts := E.1.2.2.2.2
  have h_inX9 : ∀ w ∈ wsX90, w ∈ wsX9_course := (fun _ h9 => (List.mem_cons_of_mem _ (List.mem_append_right _ h9)))
  have hl := lv_entry ([.ref (G.2.1 28)]) (n := 5) (Nat.le_of_ble_eq_true rfl)
  rw [lg_entry_eq]
  generalize (lg_sl ([.ref (G.2.1 28)]) ++ List.replicate (5 - (lg_sl ([.ref (G.2.1 28)])).length) Slot.unset).toArray = ls at hl ⊢
  have hl : lv_has ls 5 [(0, .ref (G.2.1 28))] := hl
  unfold f_X9_course at h
  refine lv_aload_n hx hb dX9_course_0 rfl (lv_at hl 0 rfl) ?_
  refine lv_iconst (v := (0 : Int32)) hx hb dX9_course_1 (by decide) ?_
  refine q_put (T := TX9) E hh h_inX9 tyX9 tyX9_ok nmX9 28 (WW_at_28 G σ) rfl 0 (by decide) (List.mem_cons_of_mem _ (List.mem_append_left _ (List.mem_append_left _ (List.mem_of_getElem? (i := 0) rfl)))) rfl rfl (by decide +kernel) (Nat.le_of_ble_eq_true rfl) dX9_course_2 (WW_si_23 G σ (0 : Int32)) (fun H locs hh => ?_)
  refine lv_iconst (v := (0 : Int32)) hx hb dX9_course_5 (by decide) ?_
  refine lv_istore_n (lv' := [(1, .int (0 : Int32)), (0, .ref (G.2.1 28))]) hx hb dX9_course_6 rfl hl (by decide) rfl (fun ls hl => ?_)
  refine lv_iconst (v := (-1 : Int32)) hx hb dX9_course_7 (by decide) ?_
  refine lv_istore_n (lv' := [(2, .int (-1 : Int32)), (1, .int (0 : Int32)), (0, .ref (G.2.1 28))]) hx hb dX9_course_8 rfl hl (by decide) rfl (fun ls hl => ?_)
  refine lv_iconst (v := (0 : Int32)) hx hb dX9_course_9 (by decide) ?_
  refine lv_istore_n (lv' := [(3, .int (0 : Int32)), (2, .int (-1 : Int32)), (1, .int (0 : Int32)), (0, .ref (G.2.1 28))]) hx hb dX9_course_10 rfl hl (by decide) rfl (fun ls hl => ?_)
  exact w_X9_course_11 E hr hlocks  FU _ _ _ _ _ _ _ h hh (lv_sub hl [3, 2, 1, 0] rfl)
def f_X9_move_110 (Q : Int32 → St → Prop) (K50 : St → Int32 → Int32 → Int32 → Int32 → Int32 → Prop) (K69 : St → Int32 → Int32 → Int32 → Int32 → Int32 → Int32 → Int32 → Prop) (σ : St) (l1 : Int32) (l2 : Int32) (l3 : Int32) (l4 : Int32) (l5 : Int32) (l6 : Int32) (l7 : Int32) (t0 : Int32) (t1 : Int32) : Prop :=
  ((l2 < (t0 + t1) → K69 σ l1 l2 l3 l4 l5 l6 (l7 + 1)) ∧ (¬ l2 < (t0 + t1) → ((¬ (t0 + t1) = l2 → K69 σ l1 (t0 + t1) l7 l5 l5 l6 (l7 + 1)) ∧ ((t0 + t1) = l2 → ((l3 < l7 → K69 σ l1 (t0 + t1) l7 l5 l5 l6 (l7 + 1)) ∧ (¬ l3 < l7 → K69 σ l1 l2 l3 l4 l5 l6 (l7 + 1)))))))
set_option maxHeartbeats 4000000 in
set_option maxRecDepth 100000 in
theorem w_X9_move_110 {p : Program} {l : Launch} {e : Env} {s : State} {m : MethodId} {args : Array Value} {below : List Frame} {meth : Method} {c : Code} {G : GG} (E : EV p s m args c cX9_move 9 wsX9_move RX9 G (AD G s.heap.size)) (hr : meth.sig.returnType = (some .int)) (hlocks : meth.locks = false) {Q : Int32 → St → Prop} {K50 : St → Int32 → Int32 → Int32 → Int32 → Int32 → Prop} {K69 : St → Int32 → Int32 → Int32 → Int32 → Int32 → Int32 → Int32 → Prop} (hK50 : ∀ (σ : St) (l1 : Int32) (l2 : Int32) (l3 : Int32) (l4 : Int32) (l5 : Int32) (H : Heap) (locs : List Loc) (ls : Array Slot), K50 σ l1 l2 l3 l4 l5 → HH G (AD G s.heap.size) s σ H locs → lv_has ls 9 [(0, .ref (G.2.1 28)), (1, .int l1), (2, .int l2), (3, .int l3), (4, .int l4), (5, .int l5)] → W p l e ({ frames := 3, cells := 0, slots := 0, locals := 66 }) s m args below meth c H locs 0 0 (MQi below G args s Q) (F0 m 50 ls [])) (hK69 : ∀ (σ : St) (l1 : Int32) (l2 : Int32) (l3 : Int32) (l4 : Int32) (l5 : Int32) (l6 : Int32) (l7 : Int32) (H : Heap) (locs : List Loc) (ls : Array Slot), K69 σ l1 l2 l3 l4 l5 l6 l7 → HH G (AD G s.heap.size) s σ H locs → lv_has ls 9 [(0, .ref (G.2.1 28)), (1, .int l1), (2, .int l2), (3, .int l3), (4, .int l4), (5, .int l5), (6, .int l6), (7, .int l7)] → W p l e ({ frames := 3, cells := 0, slots := 0, locals := 66 }) s m args below meth c H locs 0 0 (MQi below G args s Q) (F0 m 69 ls [])) : ∀ (σ : St) (l1 : Int32) (l2 : Int32) (l3 : Int32) (l4 : Int32) (l5 : Int32) (l6 : Int32) (l7 : Int32) (t0 : Int32) (t1 : Int32) (H : Heap) (locs : List Loc) (ls : Array Slot), f_X9_move_110 Q K50 K69 σ l1 l2 l3 l4 l5 l6 l7 t0 t1 → HH G (AD G s.heap.size) s σ H locs → lv_has ls 9 [(0, .ref (G.2.1 28)), (1, .int l1), (2, .int l2), (3, .int l3), (4, .int l4), (5, .int l5), (6, .int l6), (7, .int l7)] → W p l e ({ frames := 3, cells := 0, slots := 0, locals := 66 }) s m args below meth c H locs 0 0 (MQi below G args s Q) (F0 m 110 ls [.int t1, .int t0]) := by
  have hx := E.1.1
  have hb := E.1.2.1
  have hown := E.1.2.2.2.1
  have hts := E.1.2.2.2.2
  have h_inX9 : ∀ w ∈ wsX90, w ∈ wsX9_move := (fun _ h9 => (List.mem_cons_of_mem _ (List.mem_append_right _ h9)))
  intro σ l1 l2 l3 l4 l5 l6 l7 t0 t1 H locs ls h hh hl
  unfold f_X9_move_110 at h
  refine lv_iadd hx hb dX9_move_110 ?_
  refine lv_istore (lv' := [(8, .int (t0 + t1)), (0, .ref (G.2.1 28)), (1, .int l1), (2, .int l2), (3, .int l3), (4, .int l4), (5, .int l5), (6, .int l6), (7, .int l7)]) hx hb dX9_move_111 hl (by decide) rfl (fun ls hl => ?_)
  refine lv_iload hx hb dX9_move_113 (lv_at hl 0 rfl) ?_
  refine lv_iload_n hx hb dX9_move_115 rfl (lv_at hl 3 rfl) ?_
  refine lv_icmp_gt (tgt := 144) hx hb dX9_move_116 (by decide) (fun c9 => ?_) (fun c9 => ?_)
  · have h := h.1 c9
    refine lv_iinc (v := (l7 + 1)) (lv' := [(7, .int (l7 + 1)), (8, .int (t0 + t1)), (0, .ref (G.2.1 28)), (1, .int l1), (2, .int l2), (3, .int l3), (4, .int l4), (5, .int l5), (6, .int l6)]) hx hb dX9_move_144 hl (k := 8) rfl rfl (by decide) rfl (fun ls hl => ?_)
    refine lv_goto (tgt := 69) hx hb dX9_move_147 (by decide) ?_
    exact hK69 _ _ _ _ _ _ _ _ _ _ _ h hh (lv_sub hl [2, 3, 4, 5, 6, 7, 8, 0] rfl)
  · have h := h.2 c9
    refine lv_iload hx hb dX9_move_119 (lv_at hl 0 rfl) ?_
    refine lv_iload_n hx hb dX9_move_121 rfl (lv_at hl 3 rfl) ?_
    refine lv_icmp_ne (tgt := 134) hx hb dX9_move_122 (by decide) (fun c9 => ?_) (fun c9 => ?_)
    · have h := h.1 c9
      refine lv_iload hx hb dX9_move_134 (lv_at hl 0 rfl) ?_
      refine lv_istore_n (lv' := [(2, .int (t0 + t1)), (8, .int (t0 + t1)), (0, .ref (G.2.1 28)), (1, .int l1), (3, .int l3), (4, .int l4), (5, .int l5), (6, .int l6), (7, .int l7)]) hx hb dX9_move_136 rfl hl (by decide) rfl (fun ls hl => ?_)
      refine lv_iload hx hb dX9_move_137 (lv_at hl 8 rfl) ?_
      refine lv_istore_n (lv' := [(3, .int l7), (2, .int (t0 + t1)), (8, .int (t0 + t1)), (0, .ref (G.2.1 28)), (1, .int l1), (4, .int l4), (5, .int l5), (6, .int l6), (7, .int l7)]) hx hb dX9_move_139 rfl hl (by decide) rfl (fun ls hl => ?_)
      refine lv_iload hx hb dX9_move_140 (lv_at hl 6 rfl) ?_
      refine lv_istore (lv' := [(4, .int l5), (3, .int l7), (2, .int (t0 + t1)), (8, .int (t0 + t1)), (0, .ref (G.2.1 28)), (1, .int l1), (5, .int l5), (6, .int l6), (7, .int l7)]) hx hb dX9_move_142 hl (by decide) rfl (fun ls hl => ?_)
      refine lv_iinc (v := (l7 + 1)) (lv' := [(7, .int (l7 + 1)), (4, .int l5), (3, .int l7), (2, .int (t0 + t1)), (8, .int (t0 + t1)), (0, .ref (G.2.1 28)), (1, .int l1), (5, .int l5), (6, .int l6)]) hx hb dX9_move_144 hl (k := 8) rfl rfl (by decide) rfl (fun ls hl => ?_)
      refine lv_goto (tgt := 69) hx hb dX9_move_147 (by decide) ?_
      exact hK69 _ _ _ _ _ _ _ _ _ _ _ h hh (lv_sub hl [5, 6, 3, 2, 1, 7, 8, 0] rfl)
    · have h := h.2 c9
      refine lv_iload hx hb dX9_move_125 (lv_at hl 8 rfl) ?_
      refine lv_iload_n hx hb dX9_move_127 rfl (lv_at hl 4 rfl) ?_
      refine lv_icmp_gt (tgt := 134) hx hb dX9_move_128 (by decide) (fun c9 => ?_) (fun c9 => ?_)
      · have h := h.1 c9
        refine lv_iload hx hb dX9_move_134 (lv_at hl 0 rfl) ?_
        refine lv_istore_n (lv' := [(2, .int (t0 + t1)), (8, .int (t0 + t1)), (0, .ref (G.2.1 28)), (1, .int l1), (3, .int l3), (4, .int l4), (5, .int l5), (6, .int l6), (7, .int l7)]) hx hb dX9_move_136 rfl hl (by decide) rfl (fun ls hl => ?_)
        refine lv_iload hx hb dX9_move_137 (lv_at hl 8 rfl) ?_
        refine lv_istore_n (lv' := [(3, .int l7), (2, .int (t0 + t1)), (8, .int (t0 + t1)), (0, .ref (G.2.1 28)), (1, .int l1), (4, .int l4), (5, .int l5), (6, .int l6), (7, .int l7)]) hx hb dX9_move_139 rfl hl (by decide) rfl (fun ls hl => ?_)
        refine lv_iload hx hb dX9_move_140 (lv_at hl 6 rfl) ?_
        refine lv_istore (lv' := [(4, .int l5), (3, .int l7), (2, .int (t0 + t1)), (8, .int (t0 + t1)), (0, .ref (G.2.1 28)), (1, .int l1), (5, .int l5), (6, .int l6), (7, .int l7)]) hx hb dX9_move_142 hl (by decide) rfl (fun ls hl => ?_)
        refine lv_iinc (v := (l7 + 1)) (lv' := [(7, .int (l7 + 1)), (4, .int l5), (3, .int l7), (2, .int (t0 + t1)), (8, .int (t0 + t1)), (0, .ref (G.2.1 28)), (1, .int l1), (5, .int l5), (6, .int l6)]) hx hb dX9_move_144 hl (k := 8) rfl rfl (by decide) rfl (fun ls hl => ?_)
        refine lv_goto (tgt := 69) hx hb dX9_move_147 (by decide) ?_
        exact hK69 _ _ _ _ _ _ _ _ _ _ _ h hh (lv_sub hl [5, 6, 3, 2, 1, 7, 8, 0] rfl)
      · have h := h.2 c9
        refine lv_goto (tgt := 144) hx hb dX9_move_131 (by decide) ?_
        refine lv_iinc (v := (l7 + 1)) (lv' := [(7, .int (l7 + 1)), (8, .int (t0 + t1)), (0, .ref (G.2.1 28)), (1, .int l1), (2, .int l2), (3, .int l3), (4, .int l4), (5, .int l5), (6, .int l6)]) hx hb dX9_move_144 hl (k := 8) rfl rfl (by decide) rfl (fun ls hl => ?_)
        refine lv_goto (tgt := 69) hx hb dX9_move_147 (by decide) ?_
        exact hK69 _ _ _ _ _ _ _ _ _ _ _ h hh (lv_sub hl [2, 3, 4, 5, 6, 7, 8, 0] rfl)
def f_X9_move_69 (Q : Int32 → St → Prop) (K50 : St → Int32 → Int32 → Int32 → Int32 → Int32 → Prop) (rec : St → Int32 → Int32 → Int32 → Int32 → Int32 → Int32 → Int32 → Prop) (σ : St) (l1 : Int32) (l2 : Int32) (l3 : Int32) (l4 : Int32) (l5 : Int32) (l6 : Int32) (l7 : Int32) : Prop :=
  ((l6 < l7 → K50 σ l1 l2 l3 l4 (l5 + 1)) ∧ (¬ l6 < l7 → ((¬ l5 = (gi σ 26) → f_X9_stepped σ l5 l7 (fun r95 s95 => ((¬ r95 = (gi s95 27) → f_X9_move_110 Q K50 rec s95 l1 l2 l3 l4 l5 l6 l7 (1 : Int32) (1 : Int32)) ∧ (r95 = (gi s95 27) → f_X9_move_110 Q K50 rec s95 l1 l2 l3 l4 l5 l6 l7 (1 : Int32) (0 : Int32))))) ∧ (l5 = (gi σ 26) → f_X9_stepped σ l5 l7 (fun r95 s95 => ((¬ r95 = (gi s95 27) → f_X9_move_110 Q K50 rec s95 l1 l2 l3 l4 l5 l6 l7 (0 : Int32) (1 : Int32)) ∧ (r95 = (gi s95 27) → f_X9_move_110 Q K50 rec s95 l1 l2 l3 l4 l5 l6 l7 (0 : Int32) (0 : Int32))))))))
def f_X9_move_69L (Q : Int32 → St → Prop) (K50 : St → Int32 → Int32 → Int32 → Int32 → Int32 → Prop) : Nat → St → Int32 → Int32 → Int32 → Int32 → Int32 → Int32 → Int32 → Prop
  | 0, _, _, _, _, _, _, _, _ => False
  | n + 1, σ, l1, l2, l3, l4, l5, l6, l7 => f_X9_move_69 Q K50 (f_X9_move_69L Q K50 n) σ l1 l2 l3 l4 l5 l6 l7
set_option maxHeartbeats 4000000 in
set_option maxRecDepth 100000 in
theorem w_X9_move_69 {p : Program} {l : Launch} {e : Env} {s : State} {m : MethodId} {args : Array Value} {below : List Frame} {meth : Method} {c : Code} {G : GG} (E : EV p s m args c cX9_move 9 wsX9_move RX9 G (AD G s.heap.size)) (hr : meth.sig.returnType = (some .int)) (hlocks : meth.locks = false) {Q : Int32 → St → Prop} {K50 : St → Int32 → Int32 → Int32 → Int32 → Int32 → Prop} (hK50 : ∀ (σ : St) (l1 : Int32) (l2 : Int32) (l3 : Int32) (l4 : Int32) (l5 : Int32) (H : Heap) (locs : List Loc) (ls : Array Slot), K50 σ l1 l2 l3 l4 l5 → HH G (AD G s.heap.size) s σ H locs → lv_has ls 9 [(0, .ref (G.2.1 28)), (1, .int l1), (2, .int l2), (3, .int l3), (4, .int l4), (5, .int l5)] → W p l e ({ frames := 3, cells := 0, slots := 0, locals := 66 }) s m args below meth c H locs 0 0 (MQi below G args s Q) (F0 m 50 ls [])) : ∀ (n : Nat) (σ : St) (l1 : Int32) (l2 : Int32) (l3 : Int32) (l4 : Int32) (l5 : Int32) (l6 : Int32) (l7 : Int32) (H : Heap) (locs : List Loc) (ls : Array Slot), f_X9_move_69L Q K50 n σ l1 l2 l3 l4 l5 l6 l7 → HH G (AD G s.heap.size) s σ H locs → lv_has ls 9 [(0, .ref (G.2.1 28)), (1, .int l1), (2, .int l2), (3, .int l3), (4, .int l4), (5, .int l5), (6, .int l6), (7, .int l7)] → W p l e ({ frames := 3, cells := 0, slots := 0, locals := 66 }) s m args below meth c H locs 0 0 (MQi below G args s Q) (F0 m 69 ls []) := by
  have hx := E.1.1
  have hb := E.1.2.1
  have hown := E.1.2.2.2.1
  have hts := E.1.2.2.2.2
  have h_inX9 : ∀ w ∈ wsX90, w ∈ wsX9_move := (fun _ h9 => (List.mem_cons_of_mem _ (List.mem_append_right _ h9)))
  intro n
  induction n with
  | zero =>
    intro σ l1 l2 l3 l4 l5 l6 l7 H locs ls h
    exact h.elim
  | succ n ih =>
    intro σ l1 l2 l3 l4 l5 l6 l7 H locs ls h hh hl
    have h : f_X9_move_69 Q K50 (f_X9_move_69L Q K50 n) σ l1 l2 l3 l4 l5 l6 l7 := h
    unfold f_X9_move_69 at h
    refine lv_iload hx hb dX9_move_69 (lv_at hl 7 rfl) ?_
    refine lv_iload hx hb dX9_move_71 (lv_at hl 6 rfl) ?_
    refine lv_icmp_gt (tgt := 150) hx hb dX9_move_73 (by decide) (fun c9 => ?_) (fun c9 => ?_)
    · have h := h.1 c9
      refine lv_iinc (v := (l5 + 1)) (lv' := [(5, .int (l5 + 1)), (0, .ref (G.2.1 28)), (1, .int l1), (2, .int l2), (3, .int l3), (4, .int l4), (6, .int l6), (7, .int l7)]) hx hb dX9_move_150 hl (k := 5) rfl rfl (by decide) rfl (fun ls hl => ?_)
      refine lv_goto (tgt := 50) hx hb dX9_move_153 (by decide) ?_
      exact hK50 _ _ _ _ _ _ _ _ _ h hh (lv_sub hl [1, 2, 3, 4, 5, 0] rfl)
    · have h := h.2 c9
      refine lv_iload hx hb dX9_move_76 (lv_at hl 5 rfl) ?_
      refine lv_aload_n hx hb dX9_move_78 rfl (lv_at hl 0 rfl) ?_
      refine q_get (T := TX9) (v := .int (gi σ 26)) E hh h_inX9 28 (WW_at_28 G σ) rfl 6 (by decide) (List.mem_cons_of_mem _ (List.mem_append_left _ (List.mem_append_left _ (List.mem_of_getElem? (i := 1) rfl)))) rfl rfl dX9_move_79 ?_
      refine lv_icmp_ne (tgt := 89) hx hb dX9_move_82 (by decide) (fun c9 => ?_) (fun c9 => ?_)
      · have h := h.1 c9
        refine lv_iconst (v := (1 : Int32)) hx hb dX9_move_89 (by decide) ?_
        refine lv_aload_n hx hb dX9_move_90 rfl (lv_at hl 0 rfl) ?_
        refine lv_iload hx hb dX9_move_91 (lv_at hl 5 rfl) ?_
        refine lv_iload hx hb dX9_move_93 (lv_at hl 7 rfl) ?_
        refine q_Vi (As := [.int l5, .int l7]) (rest := [.int (1 : Int32)]) E hh (c_X9_stepped l G _ _ _ _ _ h) (cwV 2 hts gX9_move_X9_stepped rfl rfl rfl (by decide +kernel) ⟨Nat.le_of_ble_eq_true rfl, Nat.le_of_ble_eq_true rfl⟩) (va_recv (ci := 9) E.2.1 hh.1 rfl (WW_at_28 G σ)) rfl hl.1 rfl (Nat.le_of_ble_eq_true rfl) dX9_move_95 ⟨Nat.zero_le _, Nat.zero_le _⟩ (fun r95 s95 H locs h hh => ?_)
        refine lv_aload_n hx hb dX9_move_98 rfl (lv_at hl 0 rfl) ?_
        refine q_get (T := TX9) (v := .int (gi s95 27)) E hh h_inX9 28 (WW_at_28 G s95) rfl 7 (by decide) (List.mem_cons_of_mem _ (List.mem_append_left _ (List.mem_append_left _ (List.mem_of_getElem? (i := 2) rfl)))) rfl rfl dX9_move_99 ?_
        refine lv_icmp_ne (tgt := 109) hx hb dX9_move_102 (by decide) (fun c9 => ?_) (fun c9 => ?_)
        · have h := h.1 c9
          refine lv_iconst (v := (1 : Int32)) hx hb dX9_move_109 (by decide) ?_
          exact w_X9_move_110 E hr hlocks hK50 ih _ _ _ _ _ _ _ _ _ _ _ _ _ h hh (lv_sub hl [0, 1, 2, 3, 4, 5, 6, 7] rfl)
        · have h := h.2 c9
          refine lv_iconst (v := (0 : Int32)) hx hb dX9_move_105 (by decide) ?_
          refine lv_goto (tgt := 110) hx hb dX9_move_106 (by decide) ?_
          exact w_X9_move_110 E hr hlocks hK50 ih _ _ _ _ _ _ _ _ _ _ _ _ _ h hh (lv_sub hl [0, 1, 2, 3, 4, 5, 6, 7] rfl)
      · have h := h.2 c9
        refine lv_iconst (v := (0 : Int32)) hx hb dX9_move_85 (by decide) ?_
        refine lv_goto (tgt := 90) hx hb dX9_move_86 (by decide) ?_
        refine lv_aload_n hx hb dX9_move_90 rfl (lv_at hl 0 rfl) ?_
        refine lv_iload hx hb dX9_move_91 (lv_at hl 5 rfl) ?_
        refine lv_iload hx hb dX9_move_93 (lv_at hl 7 rfl) ?_
        refine q_Vi (As := [.int l5, .int l7]) (rest := [.int (0 : Int32)]) E hh (c_X9_stepped l G _ _ _ _ _ h) (cwV 2 hts gX9_move_X9_stepped rfl rfl rfl (by decide +kernel) ⟨Nat.le_of_ble_eq_true rfl, Nat.le_of_ble_eq_true rfl⟩) (va_recv (ci := 9) E.2.1 hh.1 rfl (WW_at_28 G σ)) rfl hl.1 rfl (Nat.le_of_ble_eq_true rfl) dX9_move_95 ⟨Nat.zero_le _, Nat.zero_le _⟩ (fun r95 s95 H locs h hh => ?_)
        refine lv_aload_n hx hb dX9_move_98 rfl (lv_at hl 0 rfl) ?_
        refine q_get (T := TX9) (v := .int (gi s95 27)) E hh h_inX9 28 (WW_at_28 G s95) rfl 7 (by decide) (List.mem_cons_of_mem _ (List.mem_append_left _ (List.mem_append_left _ (List.mem_of_getElem? (i := 2) rfl)))) rfl rfl dX9_move_99 ?_
        refine lv_icmp_ne (tgt := 109) hx hb dX9_move_102 (by decide) (fun c9 => ?_) (fun c9 => ?_)
        · have h := h.1 c9
          refine lv_iconst (v := (1 : Int32)) hx hb dX9_move_109 (by decide) ?_
          exact w_X9_move_110 E hr hlocks hK50 ih _ _ _ _ _ _ _ _ _ _ _ _ _ h hh (lv_sub hl [0, 1, 2, 3, 4, 5, 6, 7] rfl)
        · have h := h.2 c9
          refine lv_iconst (v := (0 : Int32)) hx hb dX9_move_105 (by decide) ?_
          refine lv_goto (tgt := 110) hx hb dX9_move_106 (by decide) ?_
          exact w_X9_move_110 E hr hlocks hK50 ih _ _ _ _ _ _ _ _ _ _ _ _ _ h hh (lv_sub hl [0, 1, 2, 3, 4, 5, 6, 7] rfl)
def f_X9_move_50 (Q : Int32 → St → Prop)  (rec : St → Int32 → Int32 → Int32 → Int32 → Int32 → Prop) (σ : St) (l1 : Int32) (l2 : Int32) (l3 : Int32) (l4 : Int32) (l5 : Int32) : Prop :=
  (((144 : Int32) ≤ l5 → ((0 ≤ l4 → f_X9_stepped (si σ 26 l4) l4 l3 (fun r174 s174 => Q l2 (si s174 27 r174))) ∧ (¬ 0 ≤ l4 → Q (-1 : Int32) σ))) ∧ (¬ (144 : Int32) ≤ l5 → f_X9_lengthFrom σ l5 (fun r61 s61 => f_X9_move_69L Q rec FU s61 l1 l2 l3 l4 l5 r61 l1)))
def f_X9_move_50L (Q : Int32 → St → Prop)  : Nat → St → Int32 → Int32 → Int32 → Int32 → Int32 → Prop
  | 0, _, _, _, _, _, _ => False
  | n + 1, σ, l1, l2, l3, l4, l5 => f_X9_move_50 Q  (f_X9_move_50L Q  n) σ l1 l2 l3 l4 l5
set_option maxHeartbeats 4000000 in
set_option maxRecDepth 100000 in
theorem w_X9_move_50 {p : Program} {l : Launch} {e : Env} {s : State} {m : MethodId} {args : Array Value} {below : List Frame} {meth : Method} {c : Code} {G : GG} (E : EV p s m args c cX9_move 9 wsX9_move RX9 G (AD G s.heap.size)) (hr : meth.sig.returnType = (some .int)) (hlocks : meth.locks = false) {Q : Int32 → St → Prop}  : ∀ (n : Nat) (σ : St) (l1 : Int32) (l2 : Int32) (l3 : Int32) (l4 : Int32) (l5 : Int32) (H : Heap) (locs : List Loc) (ls : Array Slot), f_X9_move_50L Q  n σ l1 l2 l3 l4 l5 → HH G (AD G s.heap.size) s σ H locs → lv_has ls 9 [(0, .ref (G.2.1 28)), (1, .int l1), (2, .int l2), (3, .int l3), (4, .int l4), (5, .int l5)] → W p l e ({ frames := 3, cells := 0, slots := 0, locals := 66 }) s m args below meth c H locs 0 0 (MQi below G args s Q) (F0 m 50 ls []) := by
  have hx := E.1.1
  have hb := E.1.2.1
  have hown := E.1.2.2.2.1
  have hts := E.1.2.2.2.2
  have h_inX9 : ∀ w ∈ wsX90, w ∈ wsX9_move := (fun _ h9 => (List.mem_cons_of_mem _ (List.mem_append_right _ h9)))
  intro n
  induction n with
  | zero =>
    intro σ l1 l2 l3 l4 l5 H locs ls h
    exact h.elim
  | succ n ih =>
    intro σ l1 l2 l3 l4 l5 H locs ls h hh hl
    have h : f_X9_move_50 Q  (f_X9_move_50L Q  n) σ l1 l2 l3 l4 l5 := h
    unfold f_X9_move_50 at h
    refine lv_iload hx hb dX9_move_50 (lv_at hl 5 rfl) ?_
    refine lv_sipush (v := (144 : Int32)) hx hb dX9_move_52 (by decide) ?_
    refine lv_icmp_ge (tgt := 156) hx hb dX9_move_55 (by decide) (fun c9 => ?_) (fun c9 => ?_)
    · have h := h.1 c9
      refine lv_iload hx hb dX9_move_156 (lv_at hl 4 rfl) ?_
      refine lv_if_ge (tgt := 163) hx hb dX9_move_158 (by decide) (fun c9 => ?_) (fun c9 => ?_)
      · have h := h.1 c9
        refine lv_aload_n hx hb dX9_move_163 rfl (lv_at hl 0 rfl) ?_
        refine lv_iload hx hb dX9_move_164 (lv_at hl 4 rfl) ?_
        refine q_put (T := TX9) E hh h_inX9 tyX9 tyX9_ok nmX9 28 (WW_at_28 G σ) rfl 6 (by decide) (List.mem_cons_of_mem _ (List.mem_append_left _ (List.mem_append_left _ (List.mem_of_getElem? (i := 1) rfl)))) rfl rfl (by decide +kernel) (Nat.le_of_ble_eq_true rfl) dX9_move_166 (WW_si_26 G σ l4) (fun H locs hh => ?_)
        refine lv_aload_n hx hb dX9_move_169 rfl (lv_at hl 0 rfl) ?_
        refine lv_aload_n hx hb dX9_move_170 rfl (lv_at hl 0 rfl) ?_
        refine lv_iload hx hb dX9_move_171 (lv_at hl 4 rfl) ?_
        refine lv_iload_n hx hb dX9_move_173 rfl (lv_at hl 3 rfl) ?_
        refine q_Vi (As := [.int l4, .int l3]) (rest := [.ref (G.2.1 28)]) E hh (c_X9_stepped l G _ _ _ _ _ h) (cwV 2 hts gX9_move_X9_stepped rfl rfl rfl (by decide +kernel) ⟨Nat.le_of_ble_eq_true rfl, Nat.le_of_ble_eq_true rfl⟩) (va_recv (ci := 9) E.2.1 hh.1 rfl (WW_at_28 G (si σ 26 l4))) rfl hl.1 rfl (Nat.le_of_ble_eq_true rfl) dX9_move_174 ⟨Nat.zero_le _, Nat.zero_le _⟩ (fun r174 s174 H locs h hh => ?_)
        refine q_put (T := TX9) E hh h_inX9 tyX9 tyX9_ok nmX9 28 (WW_at_28 G s174) rfl 7 (by decide) (List.mem_cons_of_mem _ (List.mem_append_left _ (List.mem_append_left _ (List.mem_of_getElem? (i := 2) rfl)))) rfl rfl (by decide +kernel) (Nat.le_of_ble_eq_true rfl) dX9_move_177 (WW_si_27 G s174 r174) (fun H locs hh => ?_)
        refine lv_iload_n hx hb dX9_move_180 rfl (lv_at hl 2 rfl) ?_
        exact q_iret E hh hr hlocks h dX9_move_181
      · have h := h.2 c9
        refine lv_iconst (v := (-1 : Int32)) hx hb dX9_move_161 (by decide) ?_
        exact q_iret E hh hr hlocks h dX9_move_162
    · have h := h.2 c9
      refine lv_aload_n hx hb dX9_move_58 rfl (lv_at hl 0 rfl) ?_
      refine lv_iload hx hb dX9_move_59 (lv_at hl 5 rfl) ?_
      refine q_Vi (As := [.int l5]) (rest := []) E hh (c_X9_lengthFrom l G _ _ _ _ h) (cwV 1 hts gX9_move_X9_lengthFrom rfl rfl rfl (by decide +kernel) ⟨Nat.le_of_ble_eq_true rfl, Nat.le_of_ble_eq_true rfl⟩) (va_recv (ci := 9) E.2.1 hh.1 rfl (WW_at_28 G σ)) rfl hl.1 rfl (Nat.le_of_ble_eq_true rfl) dX9_move_61 ⟨Nat.zero_le _, Nat.zero_le _⟩ (fun r61 s61 H locs h hh => ?_)
      refine lv_istore (lv' := [(6, .int r61), (0, .ref (G.2.1 28)), (1, .int l1), (2, .int l2), (3, .int l3), (4, .int l4), (5, .int l5)]) hx hb dX9_move_64 hl (by decide) rfl (fun ls hl => ?_)
      refine lv_iload_n hx hb dX9_move_66 rfl (lv_at hl 2 rfl) ?_
      refine lv_istore (lv' := [(7, .int l1), (6, .int r61), (0, .ref (G.2.1 28)), (1, .int l1), (2, .int l2), (3, .int l3), (4, .int l4), (5, .int l5)]) hx hb dX9_move_67 hl (by decide) rfl (fun ls hl => ?_)
      exact w_X9_move_69 E hr hlocks ih FU _ _ _ _ _ _ _ _ _ _ _ h hh (lv_sub hl [2, 3, 4, 5, 6, 7, 1, 0] rfl)
def f_X9_move_22 (Q : Int32 → St → Prop)  (σ : St) (l1 : Int32) (t1 : Int32) : Prop :=
  f_X9_bad σ t1 (1 : Int32) (fun r23 s23 => ((r23 = 0 → ((0 ≤ (gi s23 26) → f_X9_move_50L Q FU s23 l1 (3 : Int32) (0 : Int32) (-1 : Int32) (0 : Int32)) ∧ (¬ 0 ≤ (gi s23 26) → Q (-1 : Int32) s23))) ∧ (¬ r23 = 0 → Q (0 : Int32) s23)))
set_option maxHeartbeats 4000000 in
set_option maxRecDepth 100000 in
theorem w_X9_move_22 {p : Program} {l : Launch} {e : Env} {s : State} {m : MethodId} {args : Array Value} {below : List Frame} {meth : Method} {c : Code} {G : GG} (E : EV p s m args c cX9_move 9 wsX9_move RX9 G (AD G s.heap.size)) (hr : meth.sig.returnType = (some .int)) (hlocks : meth.locks = false) {Q : Int32 → St → Prop}  : ∀ (σ : St) (l1 : Int32) (t1 : Int32) (H : Heap) (locs : List Loc) (ls : Array Slot), f_X9_move_22 Q  σ l1 t1 → HH G (AD G s.heap.size) s σ H locs → lv_has ls 9 [(0, .ref (G.2.1 28)), (1, .int l1)] → W p l e ({ frames := 3, cells := 0, slots := 0, locals := 66 }) s m args below meth c H locs 0 0 (MQi below G args s Q) (F0 m 22 ls [.int t1, .ref (G.2.1 28)]) := by
  have hx := E.1.1
  have hb := E.1.2.1
  have hown := E.1.2.2.2.1
  have hts := E.1.2.2.2.2
  have h_inX9 : ∀ w ∈ wsX90, w ∈ wsX9_move := (fun _ h9 => (List.mem_cons_of_mem _ (List.mem_append_right _ h9)))
  intro σ l1 t1 H locs ls h hh hl
  unfold f_X9_move_22 at h
  refine lv_iconst (v := (1 : Int32)) hx hb dX9_move_22 (by decide) ?_
  refine q_Vi (As := [.int t1, .int (1 : Int32)]) (rest := []) E hh (c_X9_bad l G _ _ _ _ _ h) (cwV 2 hts gX9_move_X9_bad rfl rfl rfl (by decide +kernel) ⟨Nat.le_of_ble_eq_true rfl, Nat.le_of_ble_eq_true rfl⟩) (va_recv (ci := 9) E.2.1 hh.1 rfl (WW_at_28 G σ)) rfl hl.1 rfl (Nat.le_of_ble_eq_true rfl) dX9_move_23 ⟨Nat.zero_le _, Nat.zero_le _⟩ (fun r23 s23 H locs h hh => ?_)
  refine lv_if_eq (tgt := 31) hx hb dX9_move_26 (by decide) (fun c9 => ?_) (fun c9 => ?_)
  · have h := h.1 c9
    refine lv_aload_n hx hb dX9_move_31 rfl (lv_at hl 0 rfl) ?_
    refine q_get (T := TX9) (v := .int (gi s23 26)) E hh h_inX9 28 (WW_at_28 G s23) rfl 6 (by decide) (List.mem_cons_of_mem _ (List.mem_append_left _ (List.mem_append_left _ (List.mem_of_getElem? (i := 1) rfl)))) rfl rfl dX9_move_32 ?_
    refine lv_if_ge (tgt := 40) hx hb dX9_move_35 (by decide) (fun c9 => ?_) (fun c9 => ?_)
    · have h := h.1 c9
      refine lv_iconst (v := (3 : Int32)) hx hb dX9_move_40 (by decide) ?_
      refine lv_istore_n (lv' := [(2, .int (3 : Int32)), (0, .ref (G.2.1 28)), (1, .int l1)]) hx hb dX9_move_41 rfl hl (by decide) rfl (fun ls hl => ?_)
      refine lv_iconst (v := (0 : Int32)) hx hb dX9_move_42 (by decide) ?_
      refine lv_istore_n (lv' := [(3, .int (0 : Int32)), (2, .int (3 : Int32)), (0, .ref (G.2.1 28)), (1, .int l1)]) hx hb dX9_move_43 rfl hl (by decide) rfl (fun ls hl => ?_)
      refine lv_iconst (v := (-1 : Int32)) hx hb dX9_move_44 (by decide) ?_
      refine lv_istore (lv' := [(4, .int (-1 : Int32)), (3, .int (0 : Int32)), (2, .int (3 : Int32)), (0, .ref (G.2.1 28)), (1, .int l1)]) hx hb dX9_move_45 hl (by decide) rfl (fun ls hl => ?_)
      refine lv_iconst (v := (0 : Int32)) hx hb dX9_move_47 (by decide) ?_
      refine lv_istore (lv' := [(5, .int (0 : Int32)), (4, .int (-1 : Int32)), (3, .int (0 : Int32)), (2, .int (3 : Int32)), (0, .ref (G.2.1 28)), (1, .int l1)]) hx hb dX9_move_48 hl (by decide) rfl (fun ls hl => ?_)
      exact w_X9_move_50 E hr hlocks  FU _ _ _ _ _ _ _ _ _ h hh (lv_sub hl [4, 5, 3, 2, 1, 0] rfl)
    · have h := h.2 c9
      refine lv_iconst (v := (-1 : Int32)) hx hb dX9_move_38 (by decide) ?_
      exact q_iret E hh hr hlocks h dX9_move_39
  · have h := h.2 c9
    refine lv_iconst (v := (0 : Int32)) hx hb dX9_move_29 (by decide) ?_
    exact q_iret E hh hr hlocks h dX9_move_30
def f_X9_move (σ : St) (p1 : Int32) (Q : Int32 → St → Prop) : Prop :=
  ((p1 < (1 : Int32) → f_X9_move_22 Q (si σ 23 (0 : Int32)) p1 (1 : Int32)) ∧ (¬ p1 < (1 : Int32) → ((p1 ≤ (11 : Int32) → f_X9_move_22 Q (si σ 23 (0 : Int32)) p1 (0 : Int32)) ∧ (¬ p1 ≤ (11 : Int32) → f_X9_move_22 Q (si σ 23 (0 : Int32)) p1 (1 : Int32)))))
set_option maxHeartbeats 4000000 in
set_option maxRecDepth 100000 in
theorem c_X9_move (l : Launch) (G : GG) (σ : St) (sz : Nat) (p1 : Int32) (Q : Int32 → St → Prop) (h : f_X9_move σ p1 Q) : CTi l yX9_move wsX9_move ({ frames := 3, cells := 0, slots := 0, locals := 66 }) [.ref (G.2.1 28), .int p1] G σ sz Q := by
  refine Met.ofW (cc := cX9_move) (maxL := 9) (ret := (some .int)) (by decide) rfl ?_
  intro p e s m args below meth c s₁ B hml hv
  obtain ⟨rfl, hpre⟩ := hv
  have hr := B.returns
  have hlocks := B.notSynchronized
  obtain ⟨hsz, -⟩ := id hpre
  subst hsz
  obtain ⟨E, hh⟩ := EV.ofPre (⟨B.exec, B.bytes, hml, findClass_of_methodNamed B.named, atoms_spec (ws := wsX9_move) B.pre⟩ : CallFix p m c cX9_move 9 s _ wsX9_move RX9) hpre
  have hx := E.1.1
  have hb := E.1.2.1
  have hown := E.1.2.2.2.1
  have hts := E.1.2.2.2.2
  have h_inX9 : ∀ w ∈ wsX90, w ∈ wsX9_move := (fun _ h9 => (List.mem_cons_of_mem _ (List.mem_append_right _ h9)))
  have hl := lv_entry ([.ref (G.2.1 28), .int p1]) (n := 9) (Nat.le_of_ble_eq_true rfl)
  rw [lg_entry_eq]
  generalize (lg_sl ([.ref (G.2.1 28), .int p1]) ++ List.replicate (9 - (lg_sl ([.ref (G.2.1 28), .int p1])).length) Slot.unset).toArray = ls at hl ⊢
  have hl : lv_has ls 9 [(0, .ref (G.2.1 28)), (1, .int p1)] := hl
  unfold f_X9_move at h
  refine lv_aload_n hx hb dX9_move_0 rfl (lv_at hl 0 rfl) ?_
  refine lv_iconst (v := (0 : Int32)) hx hb dX9_move_1 (by decide) ?_
  refine q_put (T := TX9) E hh h_inX9 tyX9 tyX9_ok nmX9 28 (WW_at_28 G σ) rfl 0 (by decide) (List.mem_cons_of_mem _ (List.mem_append_left _ (List.mem_append_left _ (List.mem_of_getElem? (i := 0) rfl)))) rfl rfl (by decide +kernel) (Nat.le_of_ble_eq_true rfl) dX9_move_2 (WW_si_23 G σ (0 : Int32)) (fun H locs hh => ?_)
  refine lv_aload_n hx hb dX9_move_5 rfl (lv_at hl 0 rfl) ?_
  refine lv_iload_n hx hb dX9_move_6 rfl (lv_at hl 1 rfl) ?_
  refine lv_iconst (v := (1 : Int32)) hx hb dX9_move_7 (by decide) ?_
  refine lv_icmp_lt (tgt := 17) hx hb dX9_move_8 (by decide) (fun c9 => ?_) (fun c9 => ?_)
  · have h := h.1 c9
    refine lv_iconst (v := (1 : Int32)) hx hb dX9_move_17 (by decide) ?_
    refine lv_goto (tgt := 22) hx hb dX9_move_18 (by decide) ?_
    exact w_X9_move_22 E hr hlocks  _ _ _ _ _ _ h hh (lv_sub hl [0, 1] rfl)
  · have h := h.2 c9
    refine lv_iload_n hx hb dX9_move_11 rfl (lv_at hl 1 rfl) ?_
    refine lv_bipush (v := (11 : Int32)) hx hb dX9_move_12 (by decide) ?_
    refine lv_icmp_le (tgt := 21) hx hb dX9_move_14 (by decide) (fun c9 => ?_) (fun c9 => ?_)
    · have h := h.1 c9
      refine lv_iconst (v := (0 : Int32)) hx hb dX9_move_21 (by decide) ?_
      exact w_X9_move_22 E hr hlocks  _ _ _ _ _ _ h hh (lv_sub hl [0, 1] rfl)
    · have h := h.2 c9
      refine lv_iconst (v := (1 : Int32)) hx hb dX9_move_17 (by decide) ?_
      refine lv_goto (tgt := 22) hx hb dX9_move_18 (by decide) ?_
      exact w_X9_move_22 E hr hlocks  _ _ _ _ _ _ h hh (lv_sub hl [0, 1] rfl)
def f_X9_mark_20 (Q : Int32 → St → Prop)  (σ : St) (l1 : Int32) (t1 : Int32) : Prop :=
  f_X9_bad σ t1 (1 : Int32) (fun r21 s21 => ((r21 = 0 → ((¬ l1 = 0 → Q (gi s21 27) s21) ∧ (l1 = 0 → Q (gi s21 26) s21))) ∧ (¬ r21 = 0 → Q (0 : Int32) s21)))
set_option maxHeartbeats 4000000 in
set_option maxRecDepth 100000 in
theorem w_X9_mark_20 {p : Program} {l : Launch} {e : Env} {s : State} {m : MethodId} {args : Array Value} {below : List Frame} {meth : Method} {c : Code} {G : GG} (E : EV p s m args c cX9_mark 2 wsX9_mark RX9 G (AD G s.heap.size)) (hr : meth.sig.returnType = (some .int)) (hlocks : meth.locks = false) {Q : Int32 → St → Prop}  : ∀ (σ : St) (l1 : Int32) (t1 : Int32) (H : Heap) (locs : List Loc) (ls : Array Slot), f_X9_mark_20 Q  σ l1 t1 → HH G (AD G s.heap.size) s σ H locs → lv_has ls 2 [(0, .ref (G.2.1 28)), (1, .int l1)] → W p l e ({ frames := 1, cells := 0, slots := 0, locals := 22 }) s m args below meth c H locs 0 0 (MQi below G args s Q) (F0 m 20 ls [.int t1, .ref (G.2.1 28)]) := by
  have hx := E.1.1
  have hb := E.1.2.1
  have hown := E.1.2.2.2.1
  have hts := E.1.2.2.2.2
  have h_inX9 : ∀ w ∈ wsX90, w ∈ wsX9_mark := (fun _ h9 => (List.mem_cons_of_mem _ (List.mem_append_right _ h9)))
  intro σ l1 t1 H locs ls h hh hl
  unfold f_X9_mark_20 at h
  refine lv_iconst (v := (1 : Int32)) hx hb dX9_mark_20 (by decide) ?_
  refine q_Vi (As := [.int t1, .int (1 : Int32)]) (rest := []) E hh (c_X9_bad l G _ _ _ _ _ h) (cwV 2 hts gX9_mark_X9_bad rfl rfl rfl (by decide +kernel) ⟨Nat.le_of_ble_eq_true rfl, Nat.le_of_ble_eq_true rfl⟩) (va_recv (ci := 9) E.2.1 hh.1 rfl (WW_at_28 G σ)) rfl hl.1 rfl (Nat.le_of_ble_eq_true rfl) dX9_mark_21 ⟨Nat.zero_le _, Nat.zero_le _⟩ (fun r21 s21 H locs h hh => ?_)
  refine lv_if_eq (tgt := 31) hx hb dX9_mark_24 (by decide) (fun c9 => ?_) (fun c9 => ?_)
  · have h := h.1 c9
    refine lv_iload_n hx hb dX9_mark_31 rfl (lv_at hl 1 rfl) ?_
    refine lv_if_ne (tgt := 42) hx hb dX9_mark_32 (by decide) (fun c9 => ?_) (fun c9 => ?_)
    · have h := h.1 c9
      refine lv_aload_n hx hb dX9_mark_42 rfl (lv_at hl 0 rfl) ?_
      refine q_get (T := TX9) (v := .int (gi s21 27)) E hh h_inX9 28 (WW_at_28 G s21) rfl 7 (by decide) (List.mem_cons_of_mem _ (List.mem_append_left _ (List.mem_of_getElem? (i := 2) rfl))) rfl rfl dX9_mark_43 ?_
      exact q_iret E hh hr hlocks h dX9_mark_46
    · have h := h.2 c9
      refine lv_aload_n hx hb dX9_mark_35 rfl (lv_at hl 0 rfl) ?_
      refine q_get (T := TX9) (v := .int (gi s21 26)) E hh h_inX9 28 (WW_at_28 G s21) rfl 6 (by decide) (List.mem_cons_of_mem _ (List.mem_append_left _ (List.mem_of_getElem? (i := 1) rfl))) rfl rfl dX9_mark_36 ?_
      refine lv_goto (tgt := 46) hx hb dX9_mark_39 (by decide) ?_
      exact q_iret E hh hr hlocks h dX9_mark_46
  · have h := h.2 c9
    refine lv_iconst (v := (0 : Int32)) hx hb dX9_mark_27 (by decide) ?_
    refine lv_goto (tgt := 46) hx hb dX9_mark_28 (by decide) ?_
    exact q_iret E hh hr hlocks h dX9_mark_46
def f_X9_mark (σ : St) (p1 : Int32) (Q : Int32 → St → Prop) : Prop :=
  ((p1 < 0 → f_X9_mark_20 Q (si σ 23 (0 : Int32)) p1 (1 : Int32)) ∧ (¬ p1 < 0 → ((p1 ≤ (1 : Int32) → f_X9_mark_20 Q (si σ 23 (0 : Int32)) p1 (0 : Int32)) ∧ (¬ p1 ≤ (1 : Int32) → f_X9_mark_20 Q (si σ 23 (0 : Int32)) p1 (1 : Int32)))))
set_option maxHeartbeats 4000000 in
set_option maxRecDepth 100000 in
theorem c_X9_mark (l : Launch) (G : GG) (σ : St) (sz : Nat) (p1 : Int32) (Q : Int32 → St → Prop) (h : f_X9_mark σ p1 Q) : CTi l yX9_mark wsX9_mark ({ frames := 1, cells := 0, slots := 0, locals := 22 }) [.ref (G.2.1 28), .int p1] G σ sz Q := by
  refine Met.ofW (cc := cX9_mark) (maxL := 2) (ret := (some .int)) (by decide) rfl ?_
  intro p e s m args below meth c s₁ B hml hv
  obtain ⟨rfl, hpre⟩ := hv
  have hr := B.returns
  have hlocks := B.notSynchronized
  obtain ⟨hsz, -⟩ := id hpre
  subst hsz
  obtain ⟨E, hh⟩ := EV.ofPre (⟨B.exec, B.bytes, hml, findClass_of_methodNamed B.named, atoms_spec (ws := wsX9_mark) B.pre⟩ : CallFix p m c cX9_mark 2 s _ wsX9_mark RX9) hpre
  have hx := E.1.1
  have hb := E.1.2.1
  have hown := E.1.2.2.2.1
  have hts := E.1.2.2.2.2
  have h_inX9 : ∀ w ∈ wsX90, w ∈ wsX9_mark := (fun _ h9 => (List.mem_cons_of_mem _ (List.mem_append_right _ h9)))
  have hl := lv_entry ([.ref (G.2.1 28), .int p1]) (n := 2) (Nat.le_of_ble_eq_true rfl)
  rw [lg_entry_eq]
  generalize (lg_sl ([.ref (G.2.1 28), .int p1]) ++ List.replicate (2 - (lg_sl ([.ref (G.2.1 28), .int p1])).length) Slot.unset).toArray = ls at hl ⊢
  have hl : lv_has ls 2 [(0, .ref (G.2.1 28)), (1, .int p1)] := hl
  unfold f_X9_mark at h
  refine lv_aload_n hx hb dX9_mark_0 rfl (lv_at hl 0 rfl) ?_
  refine lv_iconst (v := (0 : Int32)) hx hb dX9_mark_1 (by decide) ?_
  refine q_put (T := TX9) E hh h_inX9 tyX9 tyX9_ok nmX9 28 (WW_at_28 G σ) rfl 0 (by decide) (List.mem_cons_of_mem _ (List.mem_append_left _ (List.mem_of_getElem? (i := 0) rfl))) rfl rfl (by decide +kernel) (Nat.le_of_ble_eq_true rfl) dX9_mark_2 (WW_si_23 G σ (0 : Int32)) (fun H locs hh => ?_)
  refine lv_aload_n hx hb dX9_mark_5 rfl (lv_at hl 0 rfl) ?_
  refine lv_iload_n hx hb dX9_mark_6 rfl (lv_at hl 1 rfl) ?_
  refine lv_if_lt (tgt := 15) hx hb dX9_mark_7 (by decide) (fun c9 => ?_) (fun c9 => ?_)
  · have h := h.1 c9
    refine lv_iconst (v := (1 : Int32)) hx hb dX9_mark_15 (by decide) ?_
    refine lv_goto (tgt := 20) hx hb dX9_mark_16 (by decide) ?_
    exact w_X9_mark_20 E hr hlocks  _ _ _ _ _ _ h hh (lv_sub hl [0, 1] rfl)
  · have h := h.2 c9
    refine lv_iload_n hx hb dX9_mark_10 rfl (lv_at hl 1 rfl) ?_
    refine lv_iconst (v := (1 : Int32)) hx hb dX9_mark_11 (by decide) ?_
    refine lv_icmp_le (tgt := 19) hx hb dX9_mark_12 (by decide) (fun c9 => ?_) (fun c9 => ?_)
    · have h := h.1 c9
      refine lv_iconst (v := (0 : Int32)) hx hb dX9_mark_19 (by decide) ?_
      exact w_X9_mark_20 E hr hlocks  _ _ _ _ _ _ h hh (lv_sub hl [0, 1] rfl)
    · have h := h.2 c9
      refine lv_iconst (v := (1 : Int32)) hx hb dX9_mark_15 (by decide) ?_
      refine lv_goto (tgt := 20) hx hb dX9_mark_16 (by decide) ?_
      exact w_X9_mark_20 E hr hlocks  _ _ _ _ _ _ h hh (lv_sub hl [0, 1] rfl)
def f_X9_holds_25 (Q : Int32 → St → Prop)  (rec : St → Int32 → Int32 → Prop) (σ : St) (l1 : Int32) (l2 : Int32) : Prop :=
  ((l1 < l2 → Q (0 : Int32) σ) ∧ (¬ l1 < l2 → f_X9_stepped σ (gi σ 26) l2 (fun r36 s36 => ((¬ r36 = (gi s36 27) → rec s36 l1 (l2 + 1)) ∧ (r36 = (gi s36 27) → Q (1 : Int32) s36)))))
def f_X9_holds_25L (Q : Int32 → St → Prop)  : Nat → St → Int32 → Int32 → Prop
  | 0, _, _, _ => False
  | n + 1, σ, l1, l2 => f_X9_holds_25 Q  (f_X9_holds_25L Q  n) σ l1 l2
set_option maxHeartbeats 4000000 in
set_option maxRecDepth 100000 in
theorem w_X9_holds_25 {p : Program} {l : Launch} {e : Env} {s : State} {m : MethodId} {args : Array Value} {below : List Frame} {meth : Method} {c : Code} {G : GG} (E : EV p s m args c cX9_holds 3 wsX9_holds RX9 G (AD G s.heap.size)) (hr : meth.sig.returnType = (some .boolean)) (hlocks : meth.locks = false) {Q : Int32 → St → Prop}  : ∀ (n : Nat) (σ : St) (l1 : Int32) (l2 : Int32) (H : Heap) (locs : List Loc) (ls : Array Slot), f_X9_holds_25L Q  n σ l1 l2 → HH G (AD G s.heap.size) s σ H locs → lv_has ls 3 [(0, .ref (G.2.1 28)), (1, .int l1), (2, .int l2)] → W p l e ({ frames := 3, cells := 0, slots := 0, locals := 66 }) s m args below meth c H locs 0 0 (MQi below G args s Q) (F0 m 25 ls []) := by
  have hx := E.1.1
  have hb := E.1.2.1
  have hown := E.1.2.2.2.1
  have hts := E.1.2.2.2.2
  have h_inX9 : ∀ w ∈ wsX90, w ∈ wsX9_holds := (fun _ h9 => (List.mem_cons_of_mem _ (List.mem_append_right _ h9)))
  intro n
  induction n with
  | zero =>
    intro σ l1 l2 H locs ls h
    exact h.elim
  | succ n ih =>
    intro σ l1 l2 H locs ls h hh hl
    have h : f_X9_holds_25 Q  (f_X9_holds_25L Q  n) σ l1 l2 := h
    unfold f_X9_holds_25 at h
    refine lv_iload_n hx hb dX9_holds_25 rfl (lv_at hl 2 rfl) ?_
    refine lv_iload_n hx hb dX9_holds_26 rfl (lv_at hl 1 rfl) ?_
    refine lv_icmp_gt (tgt := 54) hx hb dX9_holds_27 (by decide) (fun c9 => ?_) (fun c9 => ?_)
    · have h := h.1 c9
      refine lv_iconst (v := (0 : Int32)) hx hb dX9_holds_54 (by decide) ?_
      exact q_zret (ty := .boolean) E hh hr hlocks rfl h dX9_holds_55
    · have h := h.2 c9
      refine lv_aload_n hx hb dX9_holds_30 rfl (lv_at hl 0 rfl) ?_
      refine lv_aload_n hx hb dX9_holds_31 rfl (lv_at hl 0 rfl) ?_
      refine q_get (T := TX9) (v := .int (gi σ 26)) E hh h_inX9 28 (WW_at_28 G σ) rfl 6 (by decide) (List.mem_cons_of_mem _ (List.mem_append_left _ (List.mem_append_left _ (List.mem_of_getElem? (i := 1) rfl)))) rfl rfl dX9_holds_32 ?_
      refine lv_iload_n hx hb dX9_holds_35 rfl (lv_at hl 2 rfl) ?_
      refine q_Vi (As := [.int (gi σ 26), .int l2]) (rest := []) E hh (c_X9_stepped l G _ _ _ _ _ h) (cwV 2 hts gX9_holds_X9_stepped rfl rfl rfl (by decide +kernel) ⟨Nat.le_of_ble_eq_true rfl, Nat.le_of_ble_eq_true rfl⟩) (va_recv (ci := 9) E.2.1 hh.1 rfl (WW_at_28 G σ)) rfl hl.1 rfl (Nat.le_of_ble_eq_true rfl) dX9_holds_36 ⟨Nat.zero_le _, Nat.zero_le _⟩ (fun r36 s36 H locs h hh => ?_)
      refine lv_aload_n hx hb dX9_holds_39 rfl (lv_at hl 0 rfl) ?_
      refine q_get (T := TX9) (v := .int (gi s36 27)) E hh h_inX9 28 (WW_at_28 G s36) rfl 7 (by decide) (List.mem_cons_of_mem _ (List.mem_append_left _ (List.mem_append_left _ (List.mem_of_getElem? (i := 2) rfl)))) rfl rfl dX9_holds_40 ?_
      refine lv_icmp_ne (tgt := 48) hx hb dX9_holds_43 (by decide) (fun c9 => ?_) (fun c9 => ?_)
      · have h := h.1 c9
        refine lv_iinc (v := (l2 + 1)) (lv' := [(2, .int (l2 + 1)), (0, .ref (G.2.1 28)), (1, .int l1)]) hx hb dX9_holds_48 hl (k := 2) rfl rfl (by decide) rfl (fun ls hl => ?_)
        refine lv_goto (tgt := 25) hx hb dX9_holds_51 (by decide) ?_
        exact ih _ _ _ _ _ _ h hh (lv_sub hl [1, 2, 0] rfl)
      · have h := h.2 c9
        refine lv_iconst (v := (1 : Int32)) hx hb dX9_holds_46 (by decide) ?_
        exact q_zret (ty := .boolean) E hh hr hlocks rfl h dX9_holds_47
def f_X9_holds (σ : St)  (Q : Int32 → St → Prop) : Prop :=
  ((0 ≤ (gi (si σ 23 (0 : Int32)) 26) → f_X9_lengthFrom (si σ 23 (0 : Int32)) (gi (si σ 23 (0 : Int32)) 26) (fun r19 s19 => f_X9_holds_25L Q FU s19 r19 (1 : Int32))) ∧ (¬ 0 ≤ (gi (si σ 23 (0 : Int32)) 26) → Q (0 : Int32) (si σ 23 (0 : Int32))))
set_option maxHeartbeats 4000000 in
set_option maxRecDepth 100000 in
theorem c_X9_holds (l : Launch) (G : GG) (σ : St) (sz : Nat)  (Q : Int32 → St → Prop) (h : f_X9_holds σ  Q) : CTi l yX9_holds wsX9_holds ({ frames := 3, cells := 0, slots := 0, locals := 66 }) [.ref (G.2.1 28)] G σ sz Q := by
  refine Met.ofW (cc := cX9_holds) (maxL := 3) (ret := (some .boolean)) (by decide) rfl ?_
  intro p e s m args below meth c s₁ B hml hv
  obtain ⟨rfl, hpre⟩ := hv
  have hr := B.returns
  have hlocks := B.notSynchronized
  obtain ⟨hsz, -⟩ := id hpre
  subst hsz
  obtain ⟨E, hh⟩ := EV.ofPre (⟨B.exec, B.bytes, hml, findClass_of_methodNamed B.named, atoms_spec (ws := wsX9_holds) B.pre⟩ : CallFix p m c cX9_holds 3 s _ wsX9_holds RX9) hpre
  have hx := E.1.1
  have hb := E.1.2.1
  have hown := E.1.2.2.2.1
  have hts := E.1.2.2.2.2
  have h_inX9 : ∀ w ∈ wsX90, w ∈ wsX9_holds := (fun _ h9 => (List.mem_cons_of_mem _ (List.mem_append_right _ h9)))
  have hl := lv_entry ([.ref (G.2.1 28)]) (n := 3) (Nat.le_of_ble_eq_true rfl)
  rw [lg_entry_eq]
  generalize (lg_sl ([.ref (G.2.1 28)]) ++ List.replicate (3 - (lg_sl ([.ref (G.2.1 28)])).length) Slot.unset).toArray = ls at hl ⊢
  have hl : lv_has ls 3 [(0, .ref (G.2.1 28))] := hl
  unfold f_X9_holds at h
  refine lv_aload_n hx hb dX9_holds_0 rfl (lv_at hl 0 rfl) ?_
  refine lv_iconst (v := (0 : Int32)) hx hb dX9_holds_1 (by decide) ?_
  refine q_put (T := TX9) E hh h_inX9 tyX9 tyX9_ok nmX9 28 (WW_at_28 G σ) rfl 0 (by decide) (List.mem_cons_of_mem _ (List.mem_append_left _ (List.mem_append_left _ (List.mem_of_getElem? (i := 0) rfl)))) rfl rfl (by decide +kernel) (Nat.le_of_ble_eq_true rfl) dX9_holds_2 (WW_si_23 G σ (0 : Int32)) (fun H locs hh => ?_)
  refine lv_aload_n hx hb dX9_holds_5 rfl (lv_at hl 0 rfl) ?_
  refine q_get (T := TX9) (v := .int (gi (si σ 23 (0 : Int32)) 26)) E hh h_inX9 28 (WW_at_28 G (si σ 23 (0 : Int32))) rfl 6 (by decide) (List.mem_cons_of_mem _ (List.mem_append_left _ (List.mem_append_left _ (List.mem_of_getElem? (i := 1) rfl)))) rfl rfl dX9_holds_6 ?_
  refine lv_if_ge (tgt := 14) hx hb dX9_holds_9 (by decide) (fun c9 => ?_) (fun c9 => ?_)
  · have h := h.1 c9
    refine lv_aload_n hx hb dX9_holds_14 rfl (lv_at hl 0 rfl) ?_
    refine lv_aload_n hx hb dX9_holds_15 rfl (lv_at hl 0 rfl) ?_
    refine q_get (T := TX9) (v := .int (gi (si σ 23 (0 : Int32)) 26)) E hh h_inX9 28 (WW_at_28 G (si σ 23 (0 : Int32))) rfl 6 (by decide) (List.mem_cons_of_mem _ (List.mem_append_left _ (List.mem_append_left _ (List.mem_of_getElem? (i := 1) rfl)))) rfl rfl dX9_holds_16 ?_
    refine q_Vi (As := [.int (gi (si σ 23 (0 : Int32)) 26)]) (rest := []) E hh (c_X9_lengthFrom l G _ _ _ _ h) (cwV 1 hts gX9_holds_X9_lengthFrom rfl rfl rfl (by decide +kernel) ⟨Nat.le_of_ble_eq_true rfl, Nat.le_of_ble_eq_true rfl⟩) (va_recv (ci := 9) E.2.1 hh.1 rfl (WW_at_28 G (si σ 23 (0 : Int32)))) rfl hl.1 rfl (Nat.le_of_ble_eq_true rfl) dX9_holds_19 ⟨Nat.zero_le _, Nat.zero_le _⟩ (fun r19 s19 H locs h hh => ?_)
    refine lv_istore_n (lv' := [(1, .int r19), (0, .ref (G.2.1 28))]) hx hb dX9_holds_22 rfl hl (by decide) rfl (fun ls hl => ?_)
    refine lv_iconst (v := (1 : Int32)) hx hb dX9_holds_23 (by decide) ?_
    refine lv_istore_n (lv' := [(2, .int (1 : Int32)), (1, .int r19), (0, .ref (G.2.1 28))]) hx hb dX9_holds_24 rfl hl (by decide) rfl (fun ls hl => ?_)
    exact w_X9_holds_25 E hr hlocks  FU _ _ _ _ _ _ h hh (lv_sub hl [2, 1, 0] rfl)
  · have h := h.2 c9
    refine lv_iconst (v := (0 : Int32)) hx hb dX9_holds_12 (by decide) ?_
    exact q_zret (ty := .boolean) E hh hr hlocks rfl h dX9_holds_13
def f_X9_feed_77 (Q : Int32 → St → Prop) (K23 : St → Int32 → Int32 → Int32 → Int32 → Int32 → Int32 → Prop) (rec : St → Int32 → Int32 → Int32 → Int32 → Int32 → Int32 → Int32 → Int32 → Prop) (σ : St) (l1 : Int32) (l2 : Int32) (l3 : Int32) (l4 : Int32) (l5 : Int32) (l6 : Int32) (l7 : Int32) (l8 : Int32) : Prop :=
  ((l8 < 0 → K23 σ l1 l2 l3 l4 l5 (l6 + 1)) ∧ (¬ l8 < 0 → (vp_in (gi σ 28) 200 ∧ rec (si (sa σ 32 (upd (ga σ 32) (gi σ 28).toNatClampNeg (vp_nar .byte (l7 >>> (l8 &&& 31)).toInt8.toInt32))) 28 ((gi (sa σ 32 (upd (ga σ 32) (gi σ 28).toNatClampNeg (vp_nar .byte (l7 >>> (l8 &&& 31)).toInt8.toInt32))) 28) + (1 : Int32))) l1 l2 l3 l4 l5 l6 l7 (l8 + (-8)))))
def f_X9_feed_77L (Q : Int32 → St → Prop) (K23 : St → Int32 → Int32 → Int32 → Int32 → Int32 → Int32 → Prop) : Nat → St → Int32 → Int32 → Int32 → Int32 → Int32 → Int32 → Int32 → Int32 → Prop
  | 0, _, _, _, _, _, _, _, _, _ => False
  | n + 1, σ, l1, l2, l3, l4, l5, l6, l7, l8 => f_X9_feed_77 Q K23 (f_X9_feed_77L Q K23 n) σ l1 l2 l3 l4 l5 l6 l7 l8
set_option maxHeartbeats 4000000 in
set_option maxRecDepth 100000 in
theorem w_X9_feed_77 {p : Program} {l : Launch} {e : Env} {s : State} {m : MethodId} {args : Array Value} {below : List Frame} {meth : Method} {c : Code} {G : GG} (E : EV p s m args c cX9_feed 9 wsX9_feed RX9 G (AD G s.heap.size)) (hr : meth.sig.returnType = (some .int)) (hlocks : meth.locks = false) {Q : Int32 → St → Prop} {K23 : St → Int32 → Int32 → Int32 → Int32 → Int32 → Int32 → Prop} (hK23 : ∀ (σ : St) (l1 : Int32) (l2 : Int32) (l3 : Int32) (l4 : Int32) (l5 : Int32) (l6 : Int32) (H : Heap) (locs : List Loc) (ls : Array Slot), K23 σ l1 l2 l3 l4 l5 l6 → HH G (AD G s.heap.size) s σ H locs → lv_has ls 9 [(0, .ref (G.2.1 28)), (1, .int l1), (2, .int l2), (3, .int l3), (4, .int l4), (5, .int l5), (6, .int l6)] → W p l e ({ frames := 0, cells := 0, slots := 0, locals := 0 }) s m args below meth c H locs 0 0 (MQi below G args s Q) (F0 m 23 ls [])) : ∀ (n : Nat) (σ : St) (l1 : Int32) (l2 : Int32) (l3 : Int32) (l4 : Int32) (l5 : Int32) (l6 : Int32) (l7 : Int32) (l8 : Int32) (H : Heap) (locs : List Loc) (ls : Array Slot), f_X9_feed_77L Q K23 n σ l1 l2 l3 l4 l5 l6 l7 l8 → HH G (AD G s.heap.size) s σ H locs → lv_has ls 9 [(0, .ref (G.2.1 28)), (1, .int l1), (2, .int l2), (3, .int l3), (4, .int l4), (5, .int l5), (6, .int l6), (7, .int l7), (8, .int l8)] → W p l e ({ frames := 0, cells := 0, slots := 0, locals := 0 }) s m args below meth c H locs 0 0 (MQi below G args s Q) (F0 m 77 ls []) := by
  have hx := E.1.1
  have hb := E.1.2.1
  have hown := E.1.2.2.2.1
  have hts := E.1.2.2.2.2
  have h_inX9 : ∀ w ∈ wsX90, w ∈ wsX9_feed := (fun _ h9 => (List.mem_cons_of_mem _ (List.mem_append_right _ h9)))
  intro n
  induction n with
  | zero =>
    intro σ l1 l2 l3 l4 l5 l6 l7 l8 H locs ls h
    exact h.elim
  | succ n ih =>
    intro σ l1 l2 l3 l4 l5 l6 l7 l8 H locs ls h hh hl
    have h : f_X9_feed_77 Q K23 (f_X9_feed_77L Q K23 n) σ l1 l2 l3 l4 l5 l6 l7 l8 := h
    unfold f_X9_feed_77 at h
    refine lv_iload hx hb dX9_feed_77 (lv_at hl 8 rfl) ?_
    refine lv_if_lt (tgt := 113) hx hb dX9_feed_79 (by decide) (fun c9 => ?_) (fun c9 => ?_)
    · have h := h.1 c9
      refine lv_iinc (v := (l6 + 1)) (lv' := [(6, .int (l6 + 1)), (0, .ref (G.2.1 28)), (1, .int l1), (2, .int l2), (3, .int l3), (4, .int l4), (5, .int l5), (7, .int l7), (8, .int l8)]) hx hb dX9_feed_113 hl (k := 6) rfl rfl (by decide) rfl (fun ls hl => ?_)
      refine lv_goto (tgt := 23) hx hb dX9_feed_116 (by decide) ?_
      exact hK23 _ _ _ _ _ _ _ _ _ _ h hh (lv_sub hl [1, 2, 3, 4, 5, 6, 0] rfl)
    · have h := h.2 c9
      refine lv_aload_n hx hb dX9_feed_82 rfl (lv_at hl 0 rfl) ?_
      refine q_get (T := TX9) (v := .ref (G.2.1 32)) E hh h_inX9 28 (WW_at_28 G σ) rfl 8 (by decide) (List.mem_cons_of_mem _ (List.mem_append_left _ (List.mem_of_getElem? (i := 2) rfl))) rfl rfl dX9_feed_83 ?_
      refine lv_aload_n hx hb dX9_feed_86 rfl (lv_at hl 0 rfl) ?_
      refine q_get (T := TX9) (v := .int (gi σ 28)) E hh h_inX9 28 (WW_at_28 G σ) rfl 9 (by decide) (List.mem_cons_of_mem _ (List.mem_append_left _ (List.mem_of_getElem? (i := 1) rfl))) rfl rfl dX9_feed_87 ?_
      refine lv_iload hx hb dX9_feed_90 (lv_at hl 7 rfl) ?_
      refine lv_iload hx hb dX9_feed_92 (lv_at hl 8 rfl) ?_
      refine lv_ishr hx hb dX9_feed_94 ?_
      refine lv_i2b (v := (l7 >>> (l8 &&& 31)).toInt8.toInt32) hx hb dX9_feed_95 rfl ?_
      obtain ⟨h0, h⟩ := h
      refine q_bast E hh 32 (WW_at_32 G σ) h0 dX9_feed_96 (WW_sa_32 G σ (upd (ga σ 32) (gi σ 28).toNatClampNeg (vp_nar .byte (l7 >>> (l8 &&& 31)).toInt8.toInt32))) (fun H locs hh => ?_)
      refine lv_aload_n hx hb dX9_feed_97 rfl (lv_at hl 0 rfl) ?_
      refine lv_dup hx hb dX9_feed_98 rfl ?_
      refine q_get (T := TX9) (v := .int (gi (sa σ 32 (upd (ga σ 32) (gi σ 28).toNatClampNeg (vp_nar .byte (l7 >>> (l8 &&& 31)).toInt8.toInt32))) 28)) E hh h_inX9 28 (WW_at_28 G (sa σ 32 (upd (ga σ 32) (gi σ 28).toNatClampNeg (vp_nar .byte (l7 >>> (l8 &&& 31)).toInt8.toInt32)))) rfl 9 (by decide) (List.mem_cons_of_mem _ (List.mem_append_left _ (List.mem_of_getElem? (i := 1) rfl))) rfl rfl dX9_feed_99 ?_
      refine lv_iconst (v := (1 : Int32)) hx hb dX9_feed_102 (by decide) ?_
      refine lv_iadd hx hb dX9_feed_103 ?_
      refine q_put (T := TX9) E hh h_inX9 tyX9 tyX9_ok nmX9 28 (WW_at_28 G (sa σ 32 (upd (ga σ 32) (gi σ 28).toNatClampNeg (vp_nar .byte (l7 >>> (l8 &&& 31)).toInt8.toInt32)))) rfl 9 (by decide) (List.mem_cons_of_mem _ (List.mem_append_left _ (List.mem_of_getElem? (i := 1) rfl))) rfl rfl (by decide +kernel) (Nat.le_of_ble_eq_true rfl) dX9_feed_104 (WW_si_28 G (sa σ 32 (upd (ga σ 32) (gi σ 28).toNatClampNeg (vp_nar .byte (l7 >>> (l8 &&& 31)).toInt8.toInt32))) ((gi (sa σ 32 (upd (ga σ 32) (gi σ 28).toNatClampNeg (vp_nar .byte (l7 >>> (l8 &&& 31)).toInt8.toInt32))) 28) + (1 : Int32))) (fun H locs hh => ?_)
      refine lv_iinc (v := (l8 + (-8))) (lv' := [(8, .int (l8 + (-8))), (0, .ref (G.2.1 28)), (1, .int l1), (2, .int l2), (3, .int l3), (4, .int l4), (5, .int l5), (6, .int l6), (7, .int l7)]) hx hb dX9_feed_107 hl (k := 8) rfl rfl (by decide) rfl (fun ls hl => ?_)
      refine lv_goto (tgt := 77) hx hb dX9_feed_110 (by decide) ?_
      exact ih _ _ _ _ _ _ _ _ _ _ _ _ h hh (lv_sub hl [1, 2, 3, 4, 5, 6, 7, 8, 0] rfl)
def f_X9_feed_23 (Q : Int32 → St → Prop)  (rec : St → Int32 → Int32 → Int32 → Int32 → Int32 → Int32 → Prop) (σ : St) (l1 : Int32) (l2 : Int32) (l3 : Int32) (l4 : Int32) (l5 : Int32) (l6 : Int32) : Prop :=
  (((5 : Int32) ≤ l6 → Q (gi σ 28) σ) ∧ (¬ (5 : Int32) ≤ l6 → ((¬ l6 = 0 → ((¬ l6 = (1 : Int32) → ((¬ l6 = (2 : Int32) → ((¬ l6 = (3 : Int32) → f_X9_feed_77L Q rec FU σ l1 l2 l3 l4 l5 l6 l5 (24 : Int32)) ∧ (l6 = (3 : Int32) → f_X9_feed_77L Q rec FU σ l1 l2 l3 l4 l5 l6 l4 (24 : Int32)))) ∧ (l6 = (2 : Int32) → f_X9_feed_77L Q rec FU σ l1 l2 l3 l4 l5 l6 l3 (24 : Int32)))) ∧ (l6 = (1 : Int32) → f_X9_feed_77L Q rec FU σ l1 l2 l3 l4 l5 l6 l2 (24 : Int32)))) ∧ (l6 = 0 → f_X9_feed_77L Q rec FU σ l1 l2 l3 l4 l5 l6 l1 (24 : Int32)))))
def f_X9_feed_23L (Q : Int32 → St → Prop)  : Nat → St → Int32 → Int32 → Int32 → Int32 → Int32 → Int32 → Prop
  | 0, _, _, _, _, _, _, _ => False
  | n + 1, σ, l1, l2, l3, l4, l5, l6 => f_X9_feed_23 Q  (f_X9_feed_23L Q  n) σ l1 l2 l3 l4 l5 l6
set_option maxHeartbeats 4000000 in
set_option maxRecDepth 100000 in
theorem w_X9_feed_23 {p : Program} {l : Launch} {e : Env} {s : State} {m : MethodId} {args : Array Value} {below : List Frame} {meth : Method} {c : Code} {G : GG} (E : EV p s m args c cX9_feed 9 wsX9_feed RX9 G (AD G s.heap.size)) (hr : meth.sig.returnType = (some .int)) (hlocks : meth.locks = false) {Q : Int32 → St → Prop}  : ∀ (n : Nat) (σ : St) (l1 : Int32) (l2 : Int32) (l3 : Int32) (l4 : Int32) (l5 : Int32) (l6 : Int32) (H : Heap) (locs : List Loc) (ls : Array Slot), f_X9_feed_23L Q  n σ l1 l2 l3 l4 l5 l6 → HH G (AD G s.heap.size) s σ H locs → lv_has ls 9 [(0, .ref (G.2.1 28)), (1, .int l1), (2, .int l2), (3, .int l3), (4, .int l4), (5, .int l5), (6, .int l6)] → W p l e ({ frames := 0, cells := 0, slots := 0, locals := 0 }) s m args below meth c H locs 0 0 (MQi below G args s Q) (F0 m 23 ls []) := by
  have hx := E.1.1
  have hb := E.1.2.1
  have hown := E.1.2.2.2.1
  have hts := E.1.2.2.2.2
  have h_inX9 : ∀ w ∈ wsX90, w ∈ wsX9_feed := (fun _ h9 => (List.mem_cons_of_mem _ (List.mem_append_right _ h9)))
  intro n
  induction n with
  | zero =>
    intro σ l1 l2 l3 l4 l5 l6 H locs ls h
    exact h.elim
  | succ n ih =>
    intro σ l1 l2 l3 l4 l5 l6 H locs ls h hh hl
    have h : f_X9_feed_23 Q  (f_X9_feed_23L Q  n) σ l1 l2 l3 l4 l5 l6 := h
    unfold f_X9_feed_23 at h
    refine lv_iload hx hb dX9_feed_23 (lv_at hl 6 rfl) ?_
    refine lv_iconst (v := (5 : Int32)) hx hb dX9_feed_25 (by decide) ?_
    refine lv_icmp_ge (tgt := 119) hx hb dX9_feed_26 (by decide) (fun c9 => ?_) (fun c9 => ?_)
    · have h := h.1 c9
      refine lv_aload_n hx hb dX9_feed_119 rfl (lv_at hl 0 rfl) ?_
      refine q_get (T := TX9) (v := .int (gi σ 28)) E hh h_inX9 28 (WW_at_28 G σ) rfl 9 (by decide) (List.mem_cons_of_mem _ (List.mem_append_left _ (List.mem_of_getElem? (i := 1) rfl))) rfl rfl dX9_feed_120 ?_
      exact q_iret E hh hr hlocks h dX9_feed_123
    · have h := h.2 c9
      refine lv_iload hx hb dX9_feed_29 (lv_at hl 6 rfl) ?_
      refine lv_if_ne (tgt := 38) hx hb dX9_feed_31 (by decide) (fun c9 => ?_) (fun c9 => ?_)
      · have h := h.1 c9
        refine lv_iload hx hb dX9_feed_38 (lv_at hl 6 rfl) ?_
        refine lv_iconst (v := (1 : Int32)) hx hb dX9_feed_40 (by decide) ?_
        refine lv_icmp_ne (tgt := 48) hx hb dX9_feed_41 (by decide) (fun c9 => ?_) (fun c9 => ?_)
        · have h := h.1 c9
          refine lv_iload hx hb dX9_feed_48 (lv_at hl 6 rfl) ?_
          refine lv_iconst (v := (2 : Int32)) hx hb dX9_feed_50 (by decide) ?_
          refine lv_icmp_ne (tgt := 58) hx hb dX9_feed_51 (by decide) (fun c9 => ?_) (fun c9 => ?_)
          · have h := h.1 c9
            refine lv_iload hx hb dX9_feed_58 (lv_at hl 6 rfl) ?_
            refine lv_iconst (v := (3 : Int32)) hx hb dX9_feed_60 (by decide) ?_
            refine lv_icmp_ne (tgt := 69) hx hb dX9_feed_61 (by decide) (fun c9 => ?_) (fun c9 => ?_)
            · have h := h.1 c9
              refine lv_iload hx hb dX9_feed_69 (lv_at hl 5 rfl) ?_
              refine lv_istore (lv' := [(7, .int l5), (0, .ref (G.2.1 28)), (1, .int l1), (2, .int l2), (3, .int l3), (4, .int l4), (5, .int l5), (6, .int l6)]) hx hb dX9_feed_71 hl (by decide) rfl (fun ls hl => ?_)
              refine lv_bipush (v := (24 : Int32)) hx hb dX9_feed_73 (by decide) ?_
              refine lv_istore (lv' := [(8, .int (24 : Int32)), (7, .int l5), (0, .ref (G.2.1 28)), (1, .int l1), (2, .int l2), (3, .int l3), (4, .int l4), (5, .int l5), (6, .int l6)]) hx hb dX9_feed_75 hl (by decide) rfl (fun ls hl => ?_)
              exact w_X9_feed_77 E hr hlocks ih FU _ _ _ _ _ _ _ _ _ _ _ _ h hh (lv_sub hl [2, 3, 4, 5, 6, 7, 8, 1, 0] rfl)
            · have h := h.2 c9
              refine lv_iload hx hb dX9_feed_64 (lv_at hl 4 rfl) ?_
              refine lv_goto (tgt := 71) hx hb dX9_feed_66 (by decide) ?_
              refine lv_istore (lv' := [(7, .int l4), (0, .ref (G.2.1 28)), (1, .int l1), (2, .int l2), (3, .int l3), (4, .int l4), (5, .int l5), (6, .int l6)]) hx hb dX9_feed_71 hl (by decide) rfl (fun ls hl => ?_)
              refine lv_bipush (v := (24 : Int32)) hx hb dX9_feed_73 (by decide) ?_
              refine lv_istore (lv' := [(8, .int (24 : Int32)), (7, .int l4), (0, .ref (G.2.1 28)), (1, .int l1), (2, .int l2), (3, .int l3), (4, .int l4), (5, .int l5), (6, .int l6)]) hx hb dX9_feed_75 hl (by decide) rfl (fun ls hl => ?_)
              exact w_X9_feed_77 E hr hlocks ih FU _ _ _ _ _ _ _ _ _ _ _ _ h hh (lv_sub hl [2, 3, 4, 5, 6, 7, 8, 1, 0] rfl)
          · have h := h.2 c9
            refine lv_iload_n hx hb dX9_feed_54 rfl (lv_at hl 3 rfl) ?_
            refine lv_goto (tgt := 71) hx hb dX9_feed_55 (by decide) ?_
            refine lv_istore (lv' := [(7, .int l3), (0, .ref (G.2.1 28)), (1, .int l1), (2, .int l2), (3, .int l3), (4, .int l4), (5, .int l5), (6, .int l6)]) hx hb dX9_feed_71 hl (by decide) rfl (fun ls hl => ?_)
            refine lv_bipush (v := (24 : Int32)) hx hb dX9_feed_73 (by decide) ?_
            refine lv_istore (lv' := [(8, .int (24 : Int32)), (7, .int l3), (0, .ref (G.2.1 28)), (1, .int l1), (2, .int l2), (3, .int l3), (4, .int l4), (5, .int l5), (6, .int l6)]) hx hb dX9_feed_75 hl (by decide) rfl (fun ls hl => ?_)
            exact w_X9_feed_77 E hr hlocks ih FU _ _ _ _ _ _ _ _ _ _ _ _ h hh (lv_sub hl [2, 3, 4, 5, 6, 7, 8, 1, 0] rfl)
        · have h := h.2 c9
          refine lv_iload_n hx hb dX9_feed_44 rfl (lv_at hl 2 rfl) ?_
          refine lv_goto (tgt := 71) hx hb dX9_feed_45 (by decide) ?_
          refine lv_istore (lv' := [(7, .int l2), (0, .ref (G.2.1 28)), (1, .int l1), (2, .int l2), (3, .int l3), (4, .int l4), (5, .int l5), (6, .int l6)]) hx hb dX9_feed_71 hl (by decide) rfl (fun ls hl => ?_)
          refine lv_bipush (v := (24 : Int32)) hx hb dX9_feed_73 (by decide) ?_
          refine lv_istore (lv' := [(8, .int (24 : Int32)), (7, .int l2), (0, .ref (G.2.1 28)), (1, .int l1), (2, .int l2), (3, .int l3), (4, .int l4), (5, .int l5), (6, .int l6)]) hx hb dX9_feed_75 hl (by decide) rfl (fun ls hl => ?_)
          exact w_X9_feed_77 E hr hlocks ih FU _ _ _ _ _ _ _ _ _ _ _ _ h hh (lv_sub hl [2, 3, 4, 5, 6, 7, 8, 1, 0] rfl)
      · have h := h.2 c9
        refine lv_iload_n hx hb dX9_feed_34 rfl (lv_at hl 1 rfl) ?_
        refine lv_goto (tgt := 71) hx hb dX9_feed_35 (by decide) ?_
        refine lv_istore (lv' := [(7, .int l1), (0, .ref (G.2.1 28)), (1, .int l1), (2, .int l2), (3, .int l3), (4, .int l4), (5, .int l5), (6, .int l6)]) hx hb dX9_feed_71 hl (by decide) rfl (fun ls hl => ?_)
        refine lv_bipush (v := (24 : Int32)) hx hb dX9_feed_73 (by decide) ?_
        refine lv_istore (lv' := [(8, .int (24 : Int32)), (7, .int l1), (0, .ref (G.2.1 28)), (1, .int l1), (2, .int l2), (3, .int l3), (4, .int l4), (5, .int l5), (6, .int l6)]) hx hb dX9_feed_75 hl (by decide) rfl (fun ls hl => ?_)
        exact w_X9_feed_77 E hr hlocks ih FU _ _ _ _ _ _ _ _ _ _ _ _ h hh (lv_sub hl [2, 3, 4, 5, 6, 7, 8, 1, 0] rfl)
def f_X9_feed (σ : St) (p1 : Int32) (p2 : Int32) (p3 : Int32) (p4 : Int32) (p5 : Int32) (Q : Int32 → St → Prop) : Prop :=
  ((((gi (si σ 23 (0 : Int32)) 28) + (20 : Int32)) ≤ (200 : Int32) → f_X9_feed_23L Q FU (si σ 23 (0 : Int32)) p1 p2 p3 p4 p5 (0 : Int32)) ∧ (¬ ((gi (si σ 23 (0 : Int32)) 28) + (20 : Int32)) ≤ (200 : Int32) → Q (-1 : Int32) (si σ 23 (0 : Int32))))
set_option maxHeartbeats 4000000 in
set_option maxRecDepth 100000 in
theorem c_X9_feed (l : Launch) (G : GG) (σ : St) (sz : Nat) (p1 : Int32) (p2 : Int32) (p3 : Int32) (p4 : Int32) (p5 : Int32) (Q : Int32 → St → Prop) (h : f_X9_feed σ p1 p2 p3 p4 p5 Q) : CTi l yX9_feed wsX9_feed ({ frames := 0, cells := 0, slots := 0, locals := 0 }) [.ref (G.2.1 28), .int p1, .int p2, .int p3, .int p4, .int p5] G σ sz Q := by
  refine Met.ofW (cc := cX9_feed) (maxL := 9) (ret := (some .int)) (by decide) rfl ?_
  intro p e s m args below meth c s₁ B hml hv
  obtain ⟨rfl, hpre⟩ := hv
  have hr := B.returns
  have hlocks := B.notSynchronized
  obtain ⟨hsz, -⟩ := id hpre
  subst hsz
  obtain ⟨E, hh⟩ := EV.ofPre (⟨B.exec, B.bytes, hml, findClass_of_methodNamed B.named, atoms_spec (ws := wsX9_feed) B.pre⟩ : CallFix p m c cX9_feed 9 s _ wsX9_feed RX9) hpre
  have hx := E.1.1
  have hb := E.1.2.1
  have hown := E.1.2.2.2.1
  have hts := E.1.2.2.2.2
  have h_inX9 : ∀ w ∈ wsX90, w ∈ wsX9_feed := (fun _ h9 => (List.mem_cons_of_mem _ (List.mem_append_right _ h9)))
  have hl := lv_entry ([.ref (G.2.1 28), .int p1, .int p2, .int p3, .int p4, .int p5]) (n := 9) (Nat.le_of_ble_eq_true rfl)
  rw [lg_entry_eq]
  generalize (lg_sl ([.ref (G.2.1 28), .int p1, .int p2, .int p3, .int p4, .int p5]) ++ List.replicate (9 - (lg_sl ([.ref (G.2.1 28), .int p1, .int p2, .int p3, .int p4, .int p5])).length) Slot.unset).toArray = ls at hl ⊢
  have hl : lv_has ls 9 [(0, .ref (G.2.1 28)), (1, .int p1), (2, .int p2), (3, .int p3), (4, .int p4), (5, .int p5)] := hl
  unfold f_X9_feed at h
  refine lv_aload_n hx hb dX9_feed_0 rfl (lv_at hl 0 rfl) ?_
  refine lv_iconst (v := (0 : Int32)) hx hb dX9_feed_1 (by decide) ?_
  refine q_put (T := TX9) E hh h_inX9 tyX9 tyX9_ok nmX9 28 (WW_at_28 G σ) rfl 0 (by decide) (List.mem_cons_of_mem _ (List.mem_append_left _ (List.mem_of_getElem? (i := 0) rfl))) rfl rfl (by decide +kernel) (Nat.le_of_ble_eq_true rfl) dX9_feed_2 (WW_si_23 G σ (0 : Int32)) (fun H locs hh => ?_)
  refine lv_aload_n hx hb dX9_feed_5 rfl (lv_at hl 0 rfl) ?_
  refine q_get (T := TX9) (v := .int (gi (si σ 23 (0 : Int32)) 28)) E hh h_inX9 28 (WW_at_28 G (si σ 23 (0 : Int32))) rfl 9 (by decide) (List.mem_cons_of_mem _ (List.mem_append_left _ (List.mem_of_getElem? (i := 1) rfl))) rfl rfl dX9_feed_6 ?_
  refine lv_bipush (v := (20 : Int32)) hx hb dX9_feed_9 (by decide) ?_
  refine lv_iadd hx hb dX9_feed_11 ?_
  refine lv_sipush (v := (200 : Int32)) hx hb dX9_feed_12 (by decide) ?_
  refine lv_icmp_le (tgt := 20) hx hb dX9_feed_15 (by decide) (fun c9 => ?_) (fun c9 => ?_)
  · have h := h.1 c9
    refine lv_iconst (v := (0 : Int32)) hx hb dX9_feed_20 (by decide) ?_
    refine lv_istore (lv' := [(6, .int (0 : Int32)), (0, .ref (G.2.1 28)), (1, .int p1), (2, .int p2), (3, .int p3), (4, .int p4), (5, .int p5)]) hx hb dX9_feed_21 hl (by decide) rfl (fun ls hl => ?_)
    exact w_X9_feed_23 E hr hlocks  FU _ _ _ _ _ _ _ _ _ _ h hh (lv_sub hl [1, 2, 3, 4, 5, 6, 0] rfl)
  · have h := h.2 c9
    refine lv_iconst (v := (-1 : Int32)) hx hb dX9_feed_18 (by decide) ?_
    exact q_iret E hh hr hlocks h dX9_feed_19
def f_X9_byteAt (σ : St) (p1 : Int32) (Q : Int32 → St → Prop) : Prop :=
  (((gi σ 29) ≤ p1 → Q (0 : Int32) σ) ∧ (¬ (gi σ 29) ≤ p1 → (vp_in p1 200 ∧ Q ((ga σ 32 p1.toNatClampNeg) &&& (255 : Int32)) σ)))
set_option maxHeartbeats 4000000 in
set_option maxRecDepth 100000 in
theorem c_X9_byteAt (l : Launch) (G : GG) (σ : St) (sz : Nat) (p1 : Int32) (Q : Int32 → St → Prop) (h : f_X9_byteAt σ p1 Q) : CTi l yX9_byteAt wsX9_byteAt ({ frames := 0, cells := 0, slots := 0, locals := 0 }) [.ref (G.2.1 28), .int p1] G σ sz Q := by
  refine Met.ofW (cc := cX9_byteAt) (maxL := 2) (ret := (some .int)) (by decide) rfl ?_
  intro p e s m args below meth c s₁ B hml hv
  obtain ⟨rfl, hpre⟩ := hv
  have hr := B.returns
  have hlocks := B.notSynchronized
  obtain ⟨hsz, -⟩ := id hpre
  subst hsz
  obtain ⟨E, hh⟩ := EV.ofPre (⟨B.exec, B.bytes, hml, findClass_of_methodNamed B.named, atoms_spec (ws := wsX9_byteAt) B.pre⟩ : CallFix p m c cX9_byteAt 2 s _ wsX9_byteAt RX9) hpre
  have hx := E.1.1
  have hb := E.1.2.1
  have hown := E.1.2.2.2.1
  have hts := E.1.2.2.2.2
  have h_inX9 : ∀ w ∈ wsX90, w ∈ wsX9_byteAt := (fun _ h9 => (List.mem_cons_of_mem _ (List.mem_append_right _ h9)))
  have hl := lv_entry ([.ref (G.2.1 28), .int p1]) (n := 2) (Nat.le_of_ble_eq_true rfl)
  rw [lg_entry_eq]
  generalize (lg_sl ([.ref (G.2.1 28), .int p1]) ++ List.replicate (2 - (lg_sl ([.ref (G.2.1 28), .int p1])).length) Slot.unset).toArray = ls at hl ⊢
  have hl : lv_has ls 2 [(0, .ref (G.2.1 28)), (1, .int p1)] := hl
  unfold f_X9_byteAt at h
  refine lv_iload_n hx hb dX9_byteAt_0 rfl (lv_at hl 1 rfl) ?_
  refine lv_aload_n hx hb dX9_byteAt_1 rfl (lv_at hl 0 rfl) ?_
  refine q_get (T := TX9) (v := .int (gi σ 29)) E hh h_inX9 28 (WW_at_28 G σ) rfl 10 (by decide) (List.mem_cons_of_mem _ (List.mem_append_left _ (List.mem_of_getElem? (i := 0) rfl))) rfl rfl dX9_byteAt_2 ?_
  refine lv_icmp_ge (tgt := 21) hx hb dX9_byteAt_5 (by decide) (fun c9 => ?_) (fun c9 => ?_)
  · have h := h.1 c9
    refine lv_iconst (v := (0 : Int32)) hx hb dX9_byteAt_21 (by decide) ?_
    exact q_iret E hh hr hlocks h dX9_byteAt_22
  · have h := h.2 c9
    refine lv_aload_n hx hb dX9_byteAt_8 rfl (lv_at hl 0 rfl) ?_
    refine q_get (T := TX9) (v := .ref (G.2.1 32)) E hh h_inX9 28 (WW_at_28 G σ) rfl 8 (by decide) (List.mem_cons_of_mem _ (List.mem_append_left _ (List.mem_of_getElem? (i := 1) rfl))) rfl rfl dX9_byteAt_9 ?_
    refine lv_iload_n hx hb dX9_byteAt_12 rfl (lv_at hl 1 rfl) ?_
    obtain ⟨h0, h⟩ := h
    refine q_bald E hh 32 (WW_at_32 G σ) h0 dX9_byteAt_13 ?_
    refine lv_sipush (v := (255 : Int32)) hx hb dX9_byteAt_14 (by decide) ?_
    refine lv_iand hx hb dX9_byteAt_17 ?_
    refine lv_goto (tgt := 22) hx hb dX9_byteAt_18 (by decide) ?_
    exact q_iret E hh hr hlocks h dX9_byteAt_22
def f_X9_blanks_0 (Q : St → Prop)  (rec : St → Prop) (σ : St)  : Prop :=
  (((gi σ 29) ≤ (gi σ 30) → Q σ) ∧ (¬ (gi σ 29) ≤ (gi σ 30) → f_X9_byteAt σ (gi σ 30) (fun r16 s16 => ((¬ r16 = (32 : Int32) → Q s16) ∧ (r16 = (32 : Int32) → rec (si s16 30 ((gi s16 30) + (1 : Int32))))))))
def f_X9_blanks_0L (Q : St → Prop)  : Nat → St → Prop
  | 0, _ => False
  | n + 1, σ => f_X9_blanks_0 Q  (f_X9_blanks_0L Q  n) σ 
set_option maxHeartbeats 4000000 in
set_option maxRecDepth 100000 in
theorem w_X9_blanks_0 {p : Program} {l : Launch} {e : Env} {s : State} {m : MethodId} {args : Array Value} {below : List Frame} {meth : Method} {c : Code} {G : GG} (E : EV p s m args c cX9_blanks 1 wsX9_blanks RX9 G (AD G s.heap.size)) (hr : meth.sig.returnType = none) (hlocks : meth.locks = false) {Q : St → Prop}  : ∀ (n : Nat) (σ : St)  (H : Heap) (locs : List Loc) (ls : Array Slot), f_X9_blanks_0L Q  n σ  → HH G (AD G s.heap.size) s σ H locs → lv_has ls 1 [(0, .ref (G.2.1 28))] → W p l e ({ frames := 1, cells := 0, slots := 0, locals := 21 }) s m args below meth c H locs 0 0 (MQv below G args s Q) (F0 m 0 ls []) := by
  have hx := E.1.1
  have hb := E.1.2.1
  have hown := E.1.2.2.2.1
  have hts := E.1.2.2.2.2
  have h_inX9 : ∀ w ∈ wsX90, w ∈ wsX9_blanks := (fun _ h9 => (List.mem_cons_of_mem _ (List.mem_append_right _ h9)))
  intro n
  induction n with
  | zero =>
    intro σ  H locs ls h
    exact h.elim
  | succ n ih =>
    intro σ  H locs ls h hh hl
    have h : f_X9_blanks_0 Q  (f_X9_blanks_0L Q  n) σ  := h
    unfold f_X9_blanks_0 at h
    refine lv_aload_n hx hb dX9_blanks_0 rfl (lv_at hl 0 rfl) ?_
    refine q_get (T := TX9) (v := .int (gi σ 30)) E hh h_inX9 28 (WW_at_28 G σ) rfl 11 (by decide) (List.mem_cons_of_mem _ (List.mem_append_left _ (List.mem_of_getElem? (i := 0) rfl))) rfl rfl dX9_blanks_1 ?_
    refine lv_aload_n hx hb dX9_blanks_4 rfl (lv_at hl 0 rfl) ?_
    refine q_get (T := TX9) (v := .int (gi σ 29)) E hh h_inX9 28 (WW_at_28 G σ) rfl 10 (by decide) (List.mem_cons_of_mem _ (List.mem_append_left _ (List.mem_of_getElem? (i := 1) rfl))) rfl rfl dX9_blanks_5 ?_
    refine lv_icmp_ge (tgt := 37) hx hb dX9_blanks_8 (by decide) (fun c9 => ?_) (fun c9 => ?_)
    · have h := h.1 c9
      exact q_vret E hh hr hlocks h dX9_blanks_37
    · have h := h.2 c9
      refine lv_aload_n hx hb dX9_blanks_11 rfl (lv_at hl 0 rfl) ?_
      refine lv_aload_n hx hb dX9_blanks_12 rfl (lv_at hl 0 rfl) ?_
      refine q_get (T := TX9) (v := .int (gi σ 30)) E hh h_inX9 28 (WW_at_28 G σ) rfl 11 (by decide) (List.mem_cons_of_mem _ (List.mem_append_left _ (List.mem_of_getElem? (i := 0) rfl))) rfl rfl dX9_blanks_13 ?_
      refine q_Vi (As := [.int (gi σ 30)]) (rest := []) E hh (c_X9_byteAt l G _ _ _ _ h) (cwV 1 hts gX9_blanks_X9_byteAt rfl rfl rfl (by decide +kernel) ⟨Nat.le_of_ble_eq_true rfl, Nat.le_of_ble_eq_true rfl⟩) (va_recv (ci := 9) E.2.1 hh.1 rfl (WW_at_28 G σ)) rfl hl.1 rfl (Nat.le_of_ble_eq_true rfl) dX9_blanks_16 ⟨Nat.zero_le _, Nat.zero_le _⟩ (fun r16 s16 H locs h hh => ?_)
      refine lv_bipush (v := (32 : Int32)) hx hb dX9_blanks_19 (by decide) ?_
      refine lv_icmp_ne (tgt := 37) hx hb dX9_blanks_21 (by decide) (fun c9 => ?_) (fun c9 => ?_)
      · have h := h.1 c9
        exact q_vret E hh hr hlocks h dX9_blanks_37
      · have h := h.2 c9
        refine lv_aload_n hx hb dX9_blanks_24 rfl (lv_at hl 0 rfl) ?_
        refine lv_dup hx hb dX9_blanks_25 rfl ?_
        refine q_get (T := TX9) (v := .int (gi s16 30)) E hh h_inX9 28 (WW_at_28 G s16) rfl 11 (by decide) (List.mem_cons_of_mem _ (List.mem_append_left _ (List.mem_of_getElem? (i := 0) rfl))) rfl rfl dX9_blanks_26 ?_
        refine lv_iconst (v := (1 : Int32)) hx hb dX9_blanks_29 (by decide) ?_
        refine lv_iadd hx hb dX9_blanks_30 ?_
        refine q_put (T := TX9) E hh h_inX9 tyX9 tyX9_ok nmX9 28 (WW_at_28 G s16) rfl 11 (by decide) (List.mem_cons_of_mem _ (List.mem_append_left _ (List.mem_of_getElem? (i := 0) rfl))) rfl rfl (by decide +kernel) (Nat.le_of_ble_eq_true rfl) dX9_blanks_31 (WW_si_30 G s16 ((gi s16 30) + (1 : Int32))) (fun H locs hh => ?_)
        refine lv_goto (tgt := 0) hx hb dX9_blanks_34 (by decide) ?_
        exact ih _ _ _ _ h hh (lv_sub hl [0] rfl)
def f_X9_blanks (σ : St)  (Q : St → Prop) : Prop :=
  f_X9_blanks_0L Q FU σ
set_option maxHeartbeats 4000000 in
set_option maxRecDepth 100000 in
theorem c_X9_blanks (l : Launch) (G : GG) (σ : St) (sz : Nat)  (Q : St → Prop) (h : f_X9_blanks σ  Q) : CTv l yX9_blanks wsX9_blanks ({ frames := 1, cells := 0, slots := 0, locals := 21 }) [.ref (G.2.1 28)] G σ sz Q := by
  refine Met.ofW (cc := cX9_blanks) (maxL := 1) (ret := none) (by decide) rfl ?_
  intro p e s m args below meth c s₁ B hml hv
  obtain ⟨rfl, hpre⟩ := hv
  have hr := B.returns
  have hlocks := B.notSynchronized
  obtain ⟨hsz, -⟩ := id hpre
  subst hsz
  obtain ⟨E, hh⟩ := EV.ofPre (⟨B.exec, B.bytes, hml, findClass_of_methodNamed B.named, atoms_spec (ws := wsX9_blanks) B.pre⟩ : CallFix p m c cX9_blanks 1 s _ wsX9_blanks RX9) hpre
  have hx := E.1.1
  have hb := E.1.2.1
  have hown := E.1.2.2.2.1
  have hts := E.1.2.2.2.2
  have h_inX9 : ∀ w ∈ wsX90, w ∈ wsX9_blanks := (fun _ h9 => (List.mem_cons_of_mem _ (List.mem_append_right _ h9)))
  have hl := lv_entry ([.ref (G.2.1 28)]) (n := 1) (Nat.le_of_ble_eq_true rfl)
  rw [lg_entry_eq]
  generalize (lg_sl ([.ref (G.2.1 28)]) ++ List.replicate (1 - (lg_sl ([.ref (G.2.1 28)])).length) Slot.unset).toArray = ls at hl ⊢
  have hl : lv_has ls 1 [(0, .ref (G.2.1 28))] := hl
  unfold f_X9_blanks at h
  exact w_X9_blanks_0 E hr hlocks  FU _ _ _ _ h hh (lv_sub hl [0] rfl)
def f_X9_isSmall (σ : St) (p0 : Int32) (Q : Int32 → St → Prop) : Prop :=
  ((p0 < (97 : Int32) → Q (0 : Int32) σ) ∧ (¬ p0 < (97 : Int32) → (((122 : Int32) < p0 → Q (0 : Int32) σ) ∧ (¬ (122 : Int32) < p0 → Q (1 : Int32) σ))))
set_option maxHeartbeats 4000000 in
set_option maxRecDepth 100000 in
theorem c_X9_isSmall (l : Launch) (G : GG) (σ : St) (sz : Nat) (p0 : Int32) (Q : Int32 → St → Prop) (h : f_X9_isSmall σ p0 Q) : CTi l yX9_isSmall wsX9_isSmall ({ frames := 0, cells := 0, slots := 0, locals := 0 }) [.int p0] G σ sz Q := by
  refine Met.ofW (cc := cX9_isSmall) (maxL := 1) (ret := (some .boolean)) (by decide) rfl ?_
  intro p e s m args below meth c s₁ B hml hv
  obtain ⟨rfl, hpre⟩ := hv
  have hr := B.returns
  have hlocks := B.notSynchronized
  obtain ⟨hsz, -⟩ := id hpre
  subst hsz
  obtain ⟨E, hh⟩ := EV.ofPre (⟨B.exec, B.bytes, hml, findClass_of_methodNamed B.named, atoms_spec (ws := wsX9_isSmall) B.pre⟩ : CallFix p m c cX9_isSmall 1 s _ wsX9_isSmall RX9) hpre
  have hx := E.1.1
  have hb := E.1.2.1
  have hown := E.1.2.2.2.1
  have hts := E.1.2.2.2.2
  have hl := lv_entry ([.int p0]) (n := 1) (Nat.le_of_ble_eq_true rfl)
  rw [lg_entry_eq]
  generalize (lg_sl ([.int p0]) ++ List.replicate (1 - (lg_sl ([.int p0])).length) Slot.unset).toArray = ls at hl ⊢
  have hl : lv_has ls 1 [(0, .int p0)] := hl
  unfold f_X9_isSmall at h
  refine lv_iload_n hx hb dX9_isSmall_0 rfl (lv_at hl 0 rfl) ?_
  refine lv_bipush (v := (97 : Int32)) hx hb dX9_isSmall_1 (by decide) ?_
  refine lv_icmp_lt (tgt := 16) hx hb dX9_isSmall_3 (by decide) (fun c9 => ?_) (fun c9 => ?_)
  · have h := h.1 c9
    refine lv_iconst (v := (0 : Int32)) hx hb dX9_isSmall_16 (by decide) ?_
    exact q_zret (ty := .boolean) E hh hr hlocks rfl h dX9_isSmall_17
  · have h := h.2 c9
    refine lv_iload_n hx hb dX9_isSmall_6 rfl (lv_at hl 0 rfl) ?_
    refine lv_bipush (v := (122 : Int32)) hx hb dX9_isSmall_7 (by decide) ?_
    refine lv_icmp_gt (tgt := 16) hx hb dX9_isSmall_9 (by decide) (fun c9 => ?_) (fun c9 => ?_)
    · have h := h.1 c9
      refine lv_iconst (v := (0 : Int32)) hx hb dX9_isSmall_16 (by decide) ?_
      exact q_zret (ty := .boolean) E hh hr hlocks rfl h dX9_isSmall_17
    · have h := h.2 c9
      refine lv_iconst (v := (1 : Int32)) hx hb dX9_isSmall_12 (by decide) ?_
      refine lv_goto (tgt := 17) hx hb dX9_isSmall_13 (by decide) ?_
      exact q_zret (ty := .boolean) E hh hr hlocks rfl h dX9_isSmall_17
def f_X9_isDigit (σ : St) (p0 : Int32) (Q : Int32 → St → Prop) : Prop :=
  ((p0 < (48 : Int32) → Q (0 : Int32) σ) ∧ (¬ p0 < (48 : Int32) → (((57 : Int32) < p0 → Q (0 : Int32) σ) ∧ (¬ (57 : Int32) < p0 → Q (1 : Int32) σ))))
set_option maxHeartbeats 4000000 in
set_option maxRecDepth 100000 in
theorem c_X9_isDigit (l : Launch) (G : GG) (σ : St) (sz : Nat) (p0 : Int32) (Q : Int32 → St → Prop) (h : f_X9_isDigit σ p0 Q) : CTi l yX9_isDigit wsX9_isDigit ({ frames := 0, cells := 0, slots := 0, locals := 0 }) [.int p0] G σ sz Q := by
  refine Met.ofW (cc := cX9_isDigit) (maxL := 1) (ret := (some .boolean)) (by decide) rfl ?_
  intro p e s m args below meth c s₁ B hml hv
  obtain ⟨rfl, hpre⟩ := hv
  have hr := B.returns
  have hlocks := B.notSynchronized
  obtain ⟨hsz, -⟩ := id hpre
  subst hsz
  obtain ⟨E, hh⟩ := EV.ofPre (⟨B.exec, B.bytes, hml, findClass_of_methodNamed B.named, atoms_spec (ws := wsX9_isDigit) B.pre⟩ : CallFix p m c cX9_isDigit 1 s _ wsX9_isDigit RX9) hpre
  have hx := E.1.1
  have hb := E.1.2.1
  have hown := E.1.2.2.2.1
  have hts := E.1.2.2.2.2
  have hl := lv_entry ([.int p0]) (n := 1) (Nat.le_of_ble_eq_true rfl)
  rw [lg_entry_eq]
  generalize (lg_sl ([.int p0]) ++ List.replicate (1 - (lg_sl ([.int p0])).length) Slot.unset).toArray = ls at hl ⊢
  have hl : lv_has ls 1 [(0, .int p0)] := hl
  unfold f_X9_isDigit at h
  refine lv_iload_n hx hb dX9_isDigit_0 rfl (lv_at hl 0 rfl) ?_
  refine lv_bipush (v := (48 : Int32)) hx hb dX9_isDigit_1 (by decide) ?_
  refine lv_icmp_lt (tgt := 16) hx hb dX9_isDigit_3 (by decide) (fun c9 => ?_) (fun c9 => ?_)
  · have h := h.1 c9
    refine lv_iconst (v := (0 : Int32)) hx hb dX9_isDigit_16 (by decide) ?_
    exact q_zret (ty := .boolean) E hh hr hlocks rfl h dX9_isDigit_17
  · have h := h.2 c9
    refine lv_iload_n hx hb dX9_isDigit_6 rfl (lv_at hl 0 rfl) ?_
    refine lv_bipush (v := (57 : Int32)) hx hb dX9_isDigit_7 (by decide) ?_
    refine lv_icmp_gt (tgt := 16) hx hb dX9_isDigit_9 (by decide) (fun c9 => ?_) (fun c9 => ?_)
    · have h := h.1 c9
      refine lv_iconst (v := (0 : Int32)) hx hb dX9_isDigit_16 (by decide) ?_
      exact q_zret (ty := .boolean) E hh hr hlocks rfl h dX9_isDigit_17
    · have h := h.2 c9
      refine lv_iconst (v := (1 : Int32)) hx hb dX9_isDigit_12 (by decide) ?_
      refine lv_goto (tgt := 17) hx hb dX9_isDigit_13 (by decide) ?_
      exact q_zret (ty := .boolean) E hh hr hlocks rfl h dX9_isDigit_17
def f_X9_wrong (σ : St) (p1 : Int32) (p2 : Int32) (Q : St → Prop) : Prop :=
  (((gi σ 31) ≤ 0 → Q (si (si σ 31 p1) 32 p2)) ∧ (¬ (gi σ 31) ≤ 0 → Q σ))
set_option maxHeartbeats 4000000 in
set_option maxRecDepth 100000 in
theorem c_X9_wrong (l : Launch) (G : GG) (σ : St) (sz : Nat) (p1 : Int32) (p2 : Int32) (Q : St → Prop) (h : f_X9_wrong σ p1 p2 Q) : CTv l yX9_wrong wsX9_wrong ({ frames := 0, cells := 0, slots := 0, locals := 0 }) [.ref (G.2.1 28), .int p1, .int p2] G σ sz Q := by
  refine Met.ofW (cc := cX9_wrong) (maxL := 3) (ret := none) (by decide) rfl ?_
  intro p e s m args below meth c s₁ B hml hv
  obtain ⟨rfl, hpre⟩ := hv
  have hr := B.returns
  have hlocks := B.notSynchronized
  obtain ⟨hsz, -⟩ := id hpre
  subst hsz
  obtain ⟨E, hh⟩ := EV.ofPre (⟨B.exec, B.bytes, hml, findClass_of_methodNamed B.named, atoms_spec (ws := wsX9_wrong) B.pre⟩ : CallFix p m c cX9_wrong 3 s _ wsX9_wrong RX9) hpre
  have hx := E.1.1
  have hb := E.1.2.1
  have hown := E.1.2.2.2.1
  have hts := E.1.2.2.2.2
  have h_inX9 : ∀ w ∈ wsX90, w ∈ wsX9_wrong := (fun _ h9 => (List.mem_cons_of_mem _ (List.mem_append_right _ h9)))
  have hl := lv_entry ([.ref (G.2.1 28), .int p1, .int p2]) (n := 3) (Nat.le_of_ble_eq_true rfl)
  rw [lg_entry_eq]
  generalize (lg_sl ([.ref (G.2.1 28), .int p1, .int p2]) ++ List.replicate (3 - (lg_sl ([.ref (G.2.1 28), .int p1, .int p2])).length) Slot.unset).toArray = ls at hl ⊢
  have hl : lv_has ls 3 [(0, .ref (G.2.1 28)), (1, .int p1), (2, .int p2)] := hl
  unfold f_X9_wrong at h
  refine lv_aload_n hx hb dX9_wrong_0 rfl (lv_at hl 0 rfl) ?_
  refine q_get (T := TX9) (v := .int (gi σ 31)) E hh h_inX9 28 (WW_at_28 G σ) rfl 12 (by decide) (List.mem_cons_of_mem _ (List.mem_append_left _ (List.mem_of_getElem? (i := 0) rfl))) rfl rfl dX9_wrong_1 ?_
  refine lv_if_le (tgt := 8) hx hb dX9_wrong_4 (by decide) (fun c9 => ?_) (fun c9 => ?_)
  · have h := h.1 c9
    refine lv_aload_n hx hb dX9_wrong_8 rfl (lv_at hl 0 rfl) ?_
    refine lv_iload_n hx hb dX9_wrong_9 rfl (lv_at hl 1 rfl) ?_
    refine q_put (T := TX9) E hh h_inX9 tyX9 tyX9_ok nmX9 28 (WW_at_28 G σ) rfl 12 (by decide) (List.mem_cons_of_mem _ (List.mem_append_left _ (List.mem_of_getElem? (i := 0) rfl))) rfl rfl (by decide +kernel) (Nat.le_of_ble_eq_true rfl) dX9_wrong_10 (WW_si_31 G σ p1) (fun H locs hh => ?_)
    refine lv_aload_n hx hb dX9_wrong_13 rfl (lv_at hl 0 rfl) ?_
    refine lv_iload_n hx hb dX9_wrong_14 rfl (lv_at hl 2 rfl) ?_
    refine q_put (T := TX9) E hh h_inX9 tyX9 tyX9_ok nmX9 28 (WW_at_28 G (si σ 31 p1)) rfl 13 (by decide) (List.mem_cons_of_mem _ (List.mem_append_left _ (List.mem_of_getElem? (i := 1) rfl))) rfl rfl (by decide +kernel) (Nat.le_of_ble_eq_true rfl) dX9_wrong_15 (WW_si_32 G (si σ 31 p1) p2) (fun H locs hh => ?_)
    exact q_vret E hh hr hlocks h dX9_wrong_18
  · have h := h.2 c9
    exact q_vret E hh hr hlocks h dX9_wrong_7
