def f_X9_fault (σ : St)  (Q : Int32 → St → Prop) : Prop :=
  Q (gi (si σ 23 (0 : Int32)) 32) (si σ 23 (0 : Int32))
set_option maxHeartbeats 4000000 in
set_option maxRecDepth 100000 in
theorem c_X9_fault (l : Launch) (G : GG) (σ : St) (sz : Nat)  (Q : Int32 → St → Prop) (h : f_X9_fault σ  Q) : CTi l yX9_fault wsX9_fault ({ frames := 0, cells := 0, slots := 0, locals := 0 }) [.ref (G.2.1 28)] G σ sz Q := by
  refine Met.ofW (cc := cX9_fault) (maxL := 1) (ret := (some .int)) (by decide) rfl ?_
  intro p e s m args below meth c s₁ B hml hv
  obtain ⟨rfl, hpre⟩ := hv
  have hr := B.returns
  have hlocks := B.notSynchronized
  obtain ⟨hsz, -⟩ := id hpre
  subst hsz
  obtain ⟨E, hh⟩ := EV.ofPre (⟨B.exec, B.bytes, hml, findClass_of_methodNamed B.named, atoms_spec (ws := wsX9_fault) B.pre⟩ : CallFix p m c cX9_fault 1 s _ wsX9_fault RX9) hpre
  have hx := E.1.1
  have hb := E.1.2.1
  have hown := E.1.2.2.2.1
  have hts := E.1.2.2.2.2
  have h_inX9 : ∀ w ∈ wsX90, w ∈ wsX9_fault := (fun _ h9 => (List.mem_cons_of_mem _ (List.mem_append_right _ h9)))
  have hl := lv_entry ([.ref (G.2.1 28)]) (n := 1) (Nat.le_of_ble_eq_true rfl)
  rw [lg_entry_eq]
  generalize (lg_sl ([.ref (G.2.1 28)]) ++ List.replicate (1 - (lg_sl ([.ref (G.2.1 28)])).length) Slot.unset).toArray = ls at hl ⊢
  have hl : lv_has ls 1 [(0, .ref (G.2.1 28))] := hl
  unfold f_X9_fault at h
  refine lv_aload_n hx hb dX9_fault_0 rfl (lv_at hl 0 rfl) ?_
  refine lv_iconst (v := (0 : Int32)) hx hb dX9_fault_1 (by decide) ?_
  refine q_put (T := TX9) E hh h_inX9 tyX9 tyX9_ok nmX9 28 (WW_at_28 G σ) rfl 0 (by decide) (List.mem_cons_of_mem _ (List.mem_append_left _ (List.mem_of_getElem? (i := 0) rfl))) rfl rfl (by decide +kernel) (Nat.le_of_ble_eq_true rfl) dX9_fault_2 (WW_si_23 G σ (0 : Int32)) (fun H locs hh => ?_)
  refine lv_aload_n hx hb dX9_fault_5 rfl (lv_at hl 0 rfl) ?_
  refine q_get (T := TX9) (v := .int (gi (si σ 23 (0 : Int32)) 32)) E hh h_inX9 28 (WW_at_28 G (si σ 23 (0 : Int32))) rfl 13 (by decide) (List.mem_cons_of_mem _ (List.mem_append_left _ (List.mem_of_getElem? (i := 1) rfl))) rfl rfl dX9_fault_6 ?_
  exact q_iret E hh hr hlocks h dX9_fault_9
def f_X9_boat_31 (Q : Int32 → St → Prop)  (rec : St → Int32 → Prop) (σ : St) (l1 : Int32) : Prop :=
  (((gi σ 42) ≤ l1 → Q ((gi (si σ 41 ((gi σ 41) + (1 : Int32))) 41) - (1 : Int32)) (si σ 41 ((gi σ 41) + (1 : Int32)))) ∧ (¬ (gi σ 42) ≤ l1 → (vp_in l1 20 ∧ (vp_in (((16 : Int32) * l1) + (gi σ 41)) 320 ∧ rec (sa σ 38 (upd (ga σ 38) (((16 : Int32) * l1) + (gi σ 41)).toNatClampNeg ((ga σ 39 l1.toNatClampNeg) + (1 : Int32)))) (l1 + 1)))))
def f_X9_boat_31L (Q : Int32 → St → Prop)  : Nat → St → Int32 → Prop
  | 0, _, _ => False
  | n + 1, σ, l1 => f_X9_boat_31 Q  (f_X9_boat_31L Q  n) σ l1
set_option maxHeartbeats 4000000 in
set_option maxRecDepth 100000 in
theorem w_X9_boat_31 {p : Program} {l : Launch} {e : Env} {s : State} {m : MethodId} {args : Array Value} {below : List Frame} {meth : Method} {c : Code} {G : GG} (E : EV p s m args c cX9_boat 2 wsX9_boat RX9 G (AD G s.heap.size)) (hr : meth.sig.returnType = (some .int)) (hlocks : meth.locks = false) {Q : Int32 → St → Prop}  : ∀ (n : Nat) (σ : St) (l1 : Int32) (H : Heap) (locs : List Loc) (ls : Array Slot), f_X9_boat_31L Q  n σ l1 → HH G (AD G s.heap.size) s σ H locs → lv_has ls 2 [(0, .ref (G.2.1 28)), (1, .int l1)] → W p l e ({ frames := 1, cells := 0, slots := 0, locals := 22 }) s m args below meth c H locs 0 0 (MQi below G args s Q) (F0 m 31 ls []) := by
  have hx := E.1.1
  have hb := E.1.2.1
  have hown := E.1.2.2.2.1
  have hts := E.1.2.2.2.2
  have h_inX9 : ∀ w ∈ wsX90, w ∈ wsX9_boat := (fun _ h9 => (List.mem_cons_of_mem _ (List.mem_append_right _ h9)))
  intro n
  induction n with
  | zero =>
    intro σ l1 H locs ls h
    exact h.elim
  | succ n ih =>
    intro σ l1 H locs ls h hh hl
    have h : f_X9_boat_31 Q  (f_X9_boat_31L Q  n) σ l1 := h
    unfold f_X9_boat_31 at h
    refine lv_iload_n hx hb dX9_boat_31 rfl (lv_at hl 1 rfl) ?_
    refine lv_aload_n hx hb dX9_boat_32 rfl (lv_at hl 0 rfl) ?_
    refine q_get (T := TX9) (v := .int (gi σ 42)) E hh h_inX9 28 (WW_at_28 G σ) rfl 30 (by decide) (List.mem_cons_of_mem _ (List.mem_append_left _ (List.mem_of_getElem? (i := 2) rfl))) rfl rfl dX9_boat_33 ?_
    refine lv_icmp_ge (tgt := 67) hx hb dX9_boat_36 (by decide) (fun c9 => ?_) (fun c9 => ?_)
    · have h := h.1 c9
      refine lv_aload_n hx hb dX9_boat_67 rfl (lv_at hl 0 rfl) ?_
      refine lv_dup hx hb dX9_boat_68 rfl ?_
      refine q_get (T := TX9) (v := .int (gi σ 41)) E hh h_inX9 28 (WW_at_28 G σ) rfl 27 (by decide) (List.mem_cons_of_mem _ (List.mem_append_left _ (List.mem_of_getElem? (i := 1) rfl))) rfl rfl dX9_boat_69 ?_
      refine lv_iconst (v := (1 : Int32)) hx hb dX9_boat_72 (by decide) ?_
      refine lv_iadd hx hb dX9_boat_73 ?_
      refine q_put (T := TX9) E hh h_inX9 tyX9 tyX9_ok nmX9 28 (WW_at_28 G σ) rfl 27 (by decide) (List.mem_cons_of_mem _ (List.mem_append_left _ (List.mem_of_getElem? (i := 1) rfl))) rfl rfl (by decide +kernel) (Nat.le_of_ble_eq_true rfl) dX9_boat_74 (WW_si_41 G σ ((gi σ 41) + (1 : Int32))) (fun H locs hh => ?_)
      refine lv_aload_n hx hb dX9_boat_77 rfl (lv_at hl 0 rfl) ?_
      refine q_get (T := TX9) (v := .int (gi (si σ 41 ((gi σ 41) + (1 : Int32))) 41)) E hh h_inX9 28 (WW_at_28 G (si σ 41 ((gi σ 41) + (1 : Int32)))) rfl 27 (by decide) (List.mem_cons_of_mem _ (List.mem_append_left _ (List.mem_of_getElem? (i := 1) rfl))) rfl rfl dX9_boat_78 ?_
      refine lv_iconst (v := (1 : Int32)) hx hb dX9_boat_81 (by decide) ?_
      refine lv_isub hx hb dX9_boat_82 ?_
      exact q_iret E hh hr hlocks h dX9_boat_83
    · have h := h.2 c9
      refine lv_aload_n hx hb dX9_boat_39 rfl (lv_at hl 0 rfl) ?_
      refine q_get (T := TX9) (v := .ref (G.2.1 38)) E hh h_inX9 28 (WW_at_28 G σ) rfl 28 (by decide) (List.mem_cons_of_mem _ (List.mem_append_left _ (List.mem_of_getElem? (i := 3) rfl))) rfl rfl dX9_boat_40 ?_
      refine lv_bipush (v := (16 : Int32)) hx hb dX9_boat_43 (by decide) ?_
      refine lv_iload_n hx hb dX9_boat_45 rfl (lv_at hl 1 rfl) ?_
      refine lv_imul hx hb dX9_boat_46 ?_
      refine lv_aload_n hx hb dX9_boat_47 rfl (lv_at hl 0 rfl) ?_
      refine q_get (T := TX9) (v := .int (gi σ 41)) E hh h_inX9 28 (WW_at_28 G σ) rfl 27 (by decide) (List.mem_cons_of_mem _ (List.mem_append_left _ (List.mem_of_getElem? (i := 1) rfl))) rfl rfl dX9_boat_48 ?_
      refine lv_iadd hx hb dX9_boat_51 ?_
      refine lv_aload_n hx hb dX9_boat_52 rfl (lv_at hl 0 rfl) ?_
      refine q_get (T := TX9) (v := .ref (G.2.1 39)) E hh h_inX9 28 (WW_at_28 G σ) rfl 29 (by decide) (List.mem_cons_of_mem _ (List.mem_append_left _ (List.mem_of_getElem? (i := 4) rfl))) rfl rfl dX9_boat_53 ?_
      refine lv_iload_n hx hb dX9_boat_56 rfl (lv_at hl 1 rfl) ?_
      obtain ⟨h0, h⟩ := h
      refine q_iald E hh 39 (WW_at_39 G σ) h0 dX9_boat_57 ?_
      refine lv_iconst (v := (1 : Int32)) hx hb dX9_boat_58 (by decide) ?_
      refine lv_iadd hx hb dX9_boat_59 ?_
      obtain ⟨h0, h⟩ := h
      refine q_iast E hh 38 (WW_at_38 G σ) h0 dX9_boat_60 (WW_sa_38 G σ (upd (ga σ 38) (((16 : Int32) * l1) + (gi σ 41)).toNatClampNeg ((ga σ 39 l1.toNatClampNeg) + (1 : Int32)))) (fun H locs hh => ?_)
      refine lv_iinc (v := (l1 + 1)) (lv' := [(1, .int (l1 + 1)), (0, .ref (G.2.1 28))]) hx hb dX9_boat_61 hl (k := 1) rfl rfl (by decide) rfl (fun ls hl => ?_)
      refine lv_goto (tgt := 31) hx hb dX9_boat_64 (by decide) ?_
      exact ih _ _ _ _ _ h hh (lv_sub hl [1, 0] rfl)
def f_X9_boat (σ : St)  (Q : Int32 → St → Prop) : Prop :=
  ((¬ (gi (si σ 23 (0 : Int32)) 41) = (16 : Int32) → f_X9_bad (si σ 23 (0 : Int32)) (0 : Int32) (1 : Int32) (fun r21 s21 => ((r21 = 0 → f_X9_boat_31L Q FU s21 (0 : Int32)) ∧ (¬ r21 = 0 → Q (0 : Int32) s21)))) ∧ ((gi (si σ 23 (0 : Int32)) 41) = (16 : Int32) → f_X9_bad (si σ 23 (0 : Int32)) (1 : Int32) (1 : Int32) (fun r21 s21 => ((r21 = 0 → f_X9_boat_31L Q FU s21 (0 : Int32)) ∧ (¬ r21 = 0 → Q (0 : Int32) s21)))))
set_option maxHeartbeats 4000000 in
set_option maxRecDepth 100000 in
theorem c_X9_boat (l : Launch) (G : GG) (σ : St) (sz : Nat)  (Q : Int32 → St → Prop) (h : f_X9_boat σ  Q) : CTi l yX9_boat wsX9_boat ({ frames := 1, cells := 0, slots := 0, locals := 22 }) [.ref (G.2.1 28)] G σ sz Q := by
  refine Met.ofW (cc := cX9_boat) (maxL := 2) (ret := (some .int)) (by decide) rfl ?_
  intro p e s m args below meth c s₁ B hml hv
  obtain ⟨rfl, hpre⟩ := hv
  have hr := B.returns
  have hlocks := B.notSynchronized
  obtain ⟨hsz, -⟩ := id hpre
  subst hsz
  obtain ⟨E, hh⟩ := EV.ofPre (⟨B.exec, B.bytes, hml, findClass_of_methodNamed B.named, atoms_spec (ws := wsX9_boat) B.pre⟩ : CallFix p m c cX9_boat 2 s _ wsX9_boat RX9) hpre
  have hx := E.1.1
  have hb := E.1.2.1
  have hown := E.1.2.2.2.1
  have hts := E.1.2.2.2.2
  have h_inX9 : ∀ w ∈ wsX90, w ∈ wsX9_boat := (fun _ h9 => (List.mem_cons_of_mem _ (List.mem_append_right _ h9)))
  have hl := lv_entry ([.ref (G.2.1 28)]) (n := 2) (Nat.le_of_ble_eq_true rfl)
  rw [lg_entry_eq]
  generalize (lg_sl ([.ref (G.2.1 28)]) ++ List.replicate (2 - (lg_sl ([.ref (G.2.1 28)])).length) Slot.unset).toArray = ls at hl ⊢
  have hl : lv_has ls 2 [(0, .ref (G.2.1 28))] := hl
  unfold f_X9_boat at h
  refine lv_aload_n hx hb dX9_boat_0 rfl (lv_at hl 0 rfl) ?_
  refine lv_iconst (v := (0 : Int32)) hx hb dX9_boat_1 (by decide) ?_
  refine q_put (T := TX9) E hh h_inX9 tyX9 tyX9_ok nmX9 28 (WW_at_28 G σ) rfl 0 (by decide) (List.mem_cons_of_mem _ (List.mem_append_left _ (List.mem_of_getElem? (i := 0) rfl))) rfl rfl (by decide +kernel) (Nat.le_of_ble_eq_true rfl) dX9_boat_2 (WW_si_23 G σ (0 : Int32)) (fun H locs hh => ?_)
  refine lv_aload_n hx hb dX9_boat_5 rfl (lv_at hl 0 rfl) ?_
  refine lv_aload_n hx hb dX9_boat_6 rfl (lv_at hl 0 rfl) ?_
  refine q_get (T := TX9) (v := .int (gi (si σ 23 (0 : Int32)) 41)) E hh h_inX9 28 (WW_at_28 G (si σ 23 (0 : Int32))) rfl 27 (by decide) (List.mem_cons_of_mem _ (List.mem_append_left _ (List.mem_of_getElem? (i := 1) rfl))) rfl rfl dX9_boat_7 ?_
  refine lv_bipush (v := (16 : Int32)) hx hb dX9_boat_10 (by decide) ?_
  refine lv_icmp_ne (tgt := 19) hx hb dX9_boat_12 (by decide) (fun c9 => ?_) (fun c9 => ?_)
  · have h := h.1 c9
    refine lv_iconst (v := (0 : Int32)) hx hb dX9_boat_19 (by decide) ?_
    refine lv_iconst (v := (1 : Int32)) hx hb dX9_boat_20 (by decide) ?_
    refine q_Vi (As := [.int (0 : Int32), .int (1 : Int32)]) (rest := []) E hh (c_X9_bad l G _ _ _ _ _ h) (cwV 2 hts gX9_boat_X9_bad rfl rfl rfl (by decide +kernel) ⟨Nat.le_of_ble_eq_true rfl, Nat.le_of_ble_eq_true rfl⟩) (va_recv (ci := 9) E.2.1 hh.1 rfl (WW_at_28 G (si σ 23 (0 : Int32)))) rfl hl.1 rfl (Nat.le_of_ble_eq_true rfl) dX9_boat_21 ⟨Nat.zero_le _, Nat.zero_le _⟩ (fun r21 s21 H locs h hh => ?_)
    refine lv_if_eq (tgt := 29) hx hb dX9_boat_24 (by decide) (fun c9 => ?_) (fun c9 => ?_)
    · have h := h.1 c9
      refine lv_iconst (v := (0 : Int32)) hx hb dX9_boat_29 (by decide) ?_
      refine lv_istore_n (lv' := [(1, .int (0 : Int32)), (0, .ref (G.2.1 28))]) hx hb dX9_boat_30 rfl hl (by decide) rfl (fun ls hl => ?_)
      exact w_X9_boat_31 E hr hlocks  FU _ _ _ _ _ h hh (lv_sub hl [1, 0] rfl)
    · have h := h.2 c9
      refine lv_iconst (v := (0 : Int32)) hx hb dX9_boat_27 (by decide) ?_
      exact q_iret E hh hr hlocks h dX9_boat_28
  · have h := h.2 c9
    refine lv_iconst (v := (1 : Int32)) hx hb dX9_boat_15 (by decide) ?_
    refine lv_goto (tgt := 20) hx hb dX9_boat_16 (by decide) ?_
    refine lv_iconst (v := (1 : Int32)) hx hb dX9_boat_20 (by decide) ?_
    refine q_Vi (As := [.int (1 : Int32), .int (1 : Int32)]) (rest := []) E hh (c_X9_bad l G _ _ _ _ _ h) (cwV 2 hts gX9_boat_X9_bad rfl rfl rfl (by decide +kernel) ⟨Nat.le_of_ble_eq_true rfl, Nat.le_of_ble_eq_true rfl⟩) (va_recv (ci := 9) E.2.1 hh.1 rfl (WW_at_28 G (si σ 23 (0 : Int32)))) rfl hl.1 rfl (Nat.le_of_ble_eq_true rfl) dX9_boat_21 ⟨Nat.zero_le _, Nat.zero_le _⟩ (fun r21 s21 H locs h hh => ?_)
    refine lv_if_eq (tgt := 29) hx hb dX9_boat_24 (by decide) (fun c9 => ?_) (fun c9 => ?_)
    · have h := h.1 c9
      refine lv_iconst (v := (0 : Int32)) hx hb dX9_boat_29 (by decide) ?_
      refine lv_istore_n (lv' := [(1, .int (0 : Int32)), (0, .ref (G.2.1 28))]) hx hb dX9_boat_30 rfl hl (by decide) rfl (fun ls hl => ?_)
      exact w_X9_boat_31 E hr hlocks  FU _ _ _ _ _ h hh (lv_sub hl [1, 0] rfl)
    · have h := h.2 c9
      refine lv_iconst (v := (0 : Int32)) hx hb dX9_boat_27 (by decide) ?_
      exact q_iret E hh hr hlocks h dX9_boat_28
def f_X9_isBoat (σ : St) (p1 : Int32) (Q : Int32 → St → Prop) : Prop :=
  ((p1 < 0 → Q (0 : Int32) σ) ∧ (¬ p1 < 0 → (((gi σ 41) ≤ p1 → Q (0 : Int32) σ) ∧ (¬ (gi σ 41) ≤ p1 → Q (1 : Int32) σ))))
set_option maxHeartbeats 4000000 in
set_option maxRecDepth 100000 in
theorem c_X9_isBoat (l : Launch) (G : GG) (σ : St) (sz : Nat) (p1 : Int32) (Q : Int32 → St → Prop) (h : f_X9_isBoat σ p1 Q) : CTi l yX9_isBoat wsX9_isBoat ({ frames := 0, cells := 0, slots := 0, locals := 0 }) [.ref (G.2.1 28), .int p1] G σ sz Q := by
  refine Met.ofW (cc := cX9_isBoat) (maxL := 2) (ret := (some .boolean)) (by decide) rfl ?_
  intro p e s m args below meth c s₁ B hml hv
  obtain ⟨rfl, hpre⟩ := hv
  have hr := B.returns
  have hlocks := B.notSynchronized
  obtain ⟨hsz, -⟩ := id hpre
  subst hsz
  obtain ⟨E, hh⟩ := EV.ofPre (⟨B.exec, B.bytes, hml, findClass_of_methodNamed B.named, atoms_spec (ws := wsX9_isBoat) B.pre⟩ : CallFix p m c cX9_isBoat 2 s _ wsX9_isBoat RX9) hpre
  have hx := E.1.1
  have hb := E.1.2.1
  have hown := E.1.2.2.2.1
  have hts := E.1.2.2.2.2
  have h_inX9 : ∀ w ∈ wsX90, w ∈ wsX9_isBoat := (fun _ h9 => (List.mem_cons_of_mem _ (List.mem_append_right _ h9)))
  have hl := lv_entry ([.ref (G.2.1 28), .int p1]) (n := 2) (Nat.le_of_ble_eq_true rfl)
  rw [lg_entry_eq]
  generalize (lg_sl ([.ref (G.2.1 28), .int p1]) ++ List.replicate (2 - (lg_sl ([.ref (G.2.1 28), .int p1])).length) Slot.unset).toArray = ls at hl ⊢
  have hl : lv_has ls 2 [(0, .ref (G.2.1 28)), (1, .int p1)] := hl
  unfold f_X9_isBoat at h
  refine lv_iload_n hx hb dX9_isBoat_0 rfl (lv_at hl 1 rfl) ?_
  refine lv_if_lt (tgt := 16) hx hb dX9_isBoat_1 (by decide) (fun c9 => ?_) (fun c9 => ?_)
  · have h := h.1 c9
    refine lv_iconst (v := (0 : Int32)) hx hb dX9_isBoat_16 (by decide) ?_
    exact q_zret (ty := .boolean) E hh hr hlocks rfl h dX9_isBoat_17
  · have h := h.2 c9
    refine lv_iload_n hx hb dX9_isBoat_4 rfl (lv_at hl 1 rfl) ?_
    refine lv_aload_n hx hb dX9_isBoat_5 rfl (lv_at hl 0 rfl) ?_
    refine q_get (T := TX9) (v := .int (gi σ 41)) E hh h_inX9 28 (WW_at_28 G σ) rfl 27 (by decide) (List.mem_cons_of_mem _ (List.mem_append_left _ (List.mem_of_getElem? (i := 0) rfl))) rfl rfl dX9_isBoat_6 ?_
    refine lv_icmp_ge (tgt := 16) hx hb dX9_isBoat_9 (by decide) (fun c9 => ?_) (fun c9 => ?_)
    · have h := h.1 c9
      refine lv_iconst (v := (0 : Int32)) hx hb dX9_isBoat_16 (by decide) ?_
      exact q_zret (ty := .boolean) E hh hr hlocks rfl h dX9_isBoat_17
    · have h := h.2 c9
      refine lv_iconst (v := (1 : Int32)) hx hb dX9_isBoat_12 (by decide) ?_
      refine lv_goto (tgt := 17) hx hb dX9_isBoat_13 (by decide) ?_
      exact q_zret (ty := .boolean) E hh hr hlocks rfl h dX9_isBoat_17
def f_X9_tackOf (σ : St) (p1 : Int32) (Q : Int32 → St → Prop) : Prop :=
  (vp_in p1 16 ∧ ((((((gi σ 25) - (ga σ 37 p1.toNatClampNeg)) + (8 : Int32)) - (((gi σ 25) - (ga σ 37 p1.toNatClampNeg)) + (8 : Int32)) / (8 : Int32) * (8 : Int32)) = 0 → Q (0 : Int32) σ) ∧ (¬ ((((gi σ 25) - (ga σ 37 p1.toNatClampNeg)) + (8 : Int32)) - (((gi σ 25) - (ga σ 37 p1.toNatClampNeg)) + (8 : Int32)) / (8 : Int32) * (8 : Int32)) = 0 → ((¬ ((((gi σ 25) - (ga σ 37 p1.toNatClampNeg)) + (8 : Int32)) - (((gi σ 25) - (ga σ 37 p1.toNatClampNeg)) + (8 : Int32)) / (8 : Int32) * (8 : Int32)) = (4 : Int32) → (((4 : Int32) ≤ ((((gi σ 25) - (ga σ 37 p1.toNatClampNeg)) + (8 : Int32)) - (((gi σ 25) - (ga σ 37 p1.toNatClampNeg)) + (8 : Int32)) / (8 : Int32) * (8 : Int32)) → Q (2 : Int32) σ) ∧ (¬ (4 : Int32) ≤ ((((gi σ 25) - (ga σ 37 p1.toNatClampNeg)) + (8 : Int32)) - (((gi σ 25) - (ga σ 37 p1.toNatClampNeg)) + (8 : Int32)) / (8 : Int32) * (8 : Int32)) → Q (1 : Int32) σ))) ∧ (((((gi σ 25) - (ga σ 37 p1.toNatClampNeg)) + (8 : Int32)) - (((gi σ 25) - (ga σ 37 p1.toNatClampNeg)) + (8 : Int32)) / (8 : Int32) * (8 : Int32)) = (4 : Int32) → Q (0 : Int32) σ)))))
set_option maxHeartbeats 4000000 in
set_option maxRecDepth 100000 in
theorem c_X9_tackOf (l : Launch) (G : GG) (σ : St) (sz : Nat) (p1 : Int32) (Q : Int32 → St → Prop) (h : f_X9_tackOf σ p1 Q) : CTi l yX9_tackOf wsX9_tackOf ({ frames := 0, cells := 0, slots := 0, locals := 0 }) [.ref (G.2.1 28), .int p1] G σ sz Q := by
  refine Met.ofW (cc := cX9_tackOf) (maxL := 3) (ret := (some .int)) (by decide) rfl ?_
  intro p e s m args below meth c s₁ B hml hv
  obtain ⟨rfl, hpre⟩ := hv
  have hr := B.returns
  have hlocks := B.notSynchronized
  obtain ⟨hsz, -⟩ := id hpre
  subst hsz
  obtain ⟨E, hh⟩ := EV.ofPre (⟨B.exec, B.bytes, hml, findClass_of_methodNamed B.named, atoms_spec (ws := wsX9_tackOf) B.pre⟩ : CallFix p m c cX9_tackOf 3 s _ wsX9_tackOf RX9) hpre
  have hx := E.1.1
  have hb := E.1.2.1
  have hown := E.1.2.2.2.1
  have hts := E.1.2.2.2.2
  have h_inX9 : ∀ w ∈ wsX90, w ∈ wsX9_tackOf := (fun _ h9 => (List.mem_cons_of_mem _ (List.mem_append_right _ h9)))
  have hl := lv_entry ([.ref (G.2.1 28), .int p1]) (n := 3) (Nat.le_of_ble_eq_true rfl)
  rw [lg_entry_eq]
  generalize (lg_sl ([.ref (G.2.1 28), .int p1]) ++ List.replicate (3 - (lg_sl ([.ref (G.2.1 28), .int p1])).length) Slot.unset).toArray = ls at hl ⊢
  have hl : lv_has ls 3 [(0, .ref (G.2.1 28)), (1, .int p1)] := hl
  unfold f_X9_tackOf at h
  refine lv_aload_n hx hb dX9_tackOf_0 rfl (lv_at hl 0 rfl) ?_
  refine q_get (T := TX9) (v := .int (gi σ 25)) E hh h_inX9 28 (WW_at_28 G σ) rfl 5 (by decide) (List.mem_cons_of_mem _ (List.mem_append_left _ (List.mem_of_getElem? (i := 0) rfl))) rfl rfl dX9_tackOf_1 ?_
  refine lv_aload_n hx hb dX9_tackOf_4 rfl (lv_at hl 0 rfl) ?_
  refine q_get (T := TX9) (v := .ref (G.2.1 37)) E hh h_inX9 28 (WW_at_28 G σ) rfl 26 (by decide) (List.mem_cons_of_mem _ (List.mem_append_left _ (List.mem_of_getElem? (i := 1) rfl))) rfl rfl dX9_tackOf_5 ?_
  refine lv_iload_n hx hb dX9_tackOf_8 rfl (lv_at hl 1 rfl) ?_
  obtain ⟨h0, h⟩ := h
  refine q_iald E hh 37 (WW_at_37 G σ) h0 dX9_tackOf_9 ?_
  refine lv_isub hx hb dX9_tackOf_10 ?_
  refine lv_bipush (v := (8 : Int32)) hx hb dX9_tackOf_11 (by decide) ?_
  refine lv_iadd hx hb dX9_tackOf_13 ?_
  refine lv_bipush (v := (8 : Int32)) hx hb dX9_tackOf_14 (by decide) ?_
  refine lv_irem hx hb dX9_tackOf_16 (by decide) ?_
  refine lv_istore_n (lv' := [(2, .int ((((gi σ 25) - (ga σ 37 p1.toNatClampNeg)) + (8 : Int32)) - (((gi σ 25) - (ga σ 37 p1.toNatClampNeg)) + (8 : Int32)) / (8 : Int32) * (8 : Int32))), (0, .ref (G.2.1 28)), (1, .int p1)]) hx hb dX9_tackOf_17 rfl hl (by decide) rfl (fun ls hl => ?_)
  refine lv_iload_n hx hb dX9_tackOf_18 rfl (lv_at hl 0 rfl) ?_
  refine lv_if_eq (tgt := 27) hx hb dX9_tackOf_19 (by decide) (fun c9 => ?_) (fun c9 => ?_)
  · have h := h.1 c9
    refine lv_iconst (v := (0 : Int32)) hx hb dX9_tackOf_27 (by decide) ?_
    refine lv_goto (tgt := 41) hx hb dX9_tackOf_28 (by decide) ?_
    exact q_iret E hh hr hlocks h dX9_tackOf_41
  · have h := h.2 c9
    refine lv_iload_n hx hb dX9_tackOf_22 rfl (lv_at hl 0 rfl) ?_
    refine lv_iconst (v := (4 : Int32)) hx hb dX9_tackOf_23 (by decide) ?_
    refine lv_icmp_ne (tgt := 31) hx hb dX9_tackOf_24 (by decide) (fun c9 => ?_) (fun c9 => ?_)
    · have h := h.1 c9
      refine lv_iload_n hx hb dX9_tackOf_31 rfl (lv_at hl 0 rfl) ?_
      refine lv_iconst (v := (4 : Int32)) hx hb dX9_tackOf_32 (by decide) ?_
      refine lv_icmp_ge (tgt := 40) hx hb dX9_tackOf_33 (by decide) (fun c9 => ?_) (fun c9 => ?_)
      · have h := h.1 c9
        refine lv_iconst (v := (2 : Int32)) hx hb dX9_tackOf_40 (by decide) ?_
        exact q_iret E hh hr hlocks h dX9_tackOf_41
      · have h := h.2 c9
        refine lv_iconst (v := (1 : Int32)) hx hb dX9_tackOf_36 (by decide) ?_
        refine lv_goto (tgt := 41) hx hb dX9_tackOf_37 (by decide) ?_
        exact q_iret E hh hr hlocks h dX9_tackOf_41
    · have h := h.2 c9
      refine lv_iconst (v := (0 : Int32)) hx hb dX9_tackOf_27 (by decide) ?_
      refine lv_goto (tgt := 41) hx hb dX9_tackOf_28 (by decide) ?_
      exact q_iret E hh hr hlocks h dX9_tackOf_41
def f_X9_isPoint (σ : St) (p0 : Int32) (Q : Int32 → St → Prop) : Prop :=
  ((p0 < 0 → Q (0 : Int32) σ) ∧ (¬ p0 < 0 → (((1000 : Int32) < p0 → Q (0 : Int32) σ) ∧ (¬ (1000 : Int32) < p0 → Q (1 : Int32) σ))))
set_option maxHeartbeats 4000000 in
set_option maxRecDepth 100000 in
theorem c_X9_isPoint (l : Launch) (G : GG) (σ : St) (sz : Nat) (p0 : Int32) (Q : Int32 → St → Prop) (h : f_X9_isPoint σ p0 Q) : CTi l yX9_isPoint wsX9_isPoint ({ frames := 0, cells := 0, slots := 0, locals := 0 }) [.int p0] G σ sz Q := by
  refine Met.ofW (cc := cX9_isPoint) (maxL := 1) (ret := (some .boolean)) (by decide) rfl ?_
  intro p e s m args below meth c s₁ B hml hv
  obtain ⟨rfl, hpre⟩ := hv
  have hr := B.returns
  have hlocks := B.notSynchronized
  obtain ⟨hsz, -⟩ := id hpre
  subst hsz
  obtain ⟨E, hh⟩ := EV.ofPre (⟨B.exec, B.bytes, hml, findClass_of_methodNamed B.named, atoms_spec (ws := wsX9_isPoint) B.pre⟩ : CallFix p m c cX9_isPoint 1 s _ wsX9_isPoint RX9) hpre
  have hx := E.1.1
  have hb := E.1.2.1
  have hown := E.1.2.2.2.1
  have hts := E.1.2.2.2.2
  have hl := lv_entry ([.int p0]) (n := 1) (Nat.le_of_ble_eq_true rfl)
  rw [lg_entry_eq]
  generalize (lg_sl ([.int p0]) ++ List.replicate (1 - (lg_sl ([.int p0])).length) Slot.unset).toArray = ls at hl ⊢
  have hl : lv_has ls 1 [(0, .int p0)] := hl
  unfold f_X9_isPoint at h
  refine lv_iload_n hx hb dX9_isPoint_0 rfl (lv_at hl 0 rfl) ?_
  refine lv_if_lt (tgt := 15) hx hb dX9_isPoint_1 (by decide) (fun c9 => ?_) (fun c9 => ?_)
  · have h := h.1 c9
    refine lv_iconst (v := (0 : Int32)) hx hb dX9_isPoint_15 (by decide) ?_
    exact q_zret (ty := .boolean) E hh hr hlocks rfl h dX9_isPoint_16
  · have h := h.2 c9
    refine lv_iload_n hx hb dX9_isPoint_4 rfl (lv_at hl 0 rfl) ?_
    refine lv_sipush (v := (1000 : Int32)) hx hb dX9_isPoint_5 (by decide) ?_
    refine lv_icmp_gt (tgt := 15) hx hb dX9_isPoint_8 (by decide) (fun c9 => ?_) (fun c9 => ?_)
    · have h := h.1 c9
      refine lv_iconst (v := (0 : Int32)) hx hb dX9_isPoint_15 (by decide) ?_
      exact q_zret (ty := .boolean) E hh hr hlocks rfl h dX9_isPoint_16
    · have h := h.2 c9
      refine lv_iconst (v := (1 : Int32)) hx hb dX9_isPoint_11 (by decide) ?_
      refine lv_goto (tgt := 16) hx hb dX9_isPoint_12 (by decide) ?_
      exact q_zret (ty := .boolean) E hh hr hlocks rfl h dX9_isPoint_16
def f_X9_place_54 (Q : Int32 → St → Prop)  (σ : St) (l1 : Int32) (l2 : Int32) (l3 : Int32) (l4 : Int32) (t1 : Int32) : Prop :=
  f_X9_bad σ t1 (2 : Int32) (fun r55 s55 => ((r55 = 0 → (vp_in l1 16 ∧ (vp_in l1 16 ∧ (vp_in l1 16 ∧ f_X9_tackOf (sa (sa (sa s55 35 (upd (ga s55 35) l1.toNatClampNeg l2)) 36 (upd (ga (sa s55 35 (upd (ga s55 35) l1.toNatClampNeg l2)) 36) l1.toNatClampNeg l3)) 37 (upd (ga (sa (sa s55 35 (upd (ga s55 35) l1.toNatClampNeg l2)) 36 (upd (ga (sa s55 35 (upd (ga s55 35) l1.toNatClampNeg l2)) 36) l1.toNatClampNeg l3)) 37) l1.toNatClampNeg l4)) l1 (fun r87 s87 => Q r87 s87))))) ∧ (¬ r55 = 0 → Q (0 : Int32) s55)))
set_option maxHeartbeats 4000000 in
set_option maxRecDepth 100000 in
theorem w_X9_place_54 {p : Program} {l : Launch} {e : Env} {s : State} {m : MethodId} {args : Array Value} {below : List Frame} {meth : Method} {c : Code} {G : GG} (E : EV p s m args c cX9_place 5 wsX9_place RX9 G (AD G s.heap.size)) (hr : meth.sig.returnType = (some .int)) (hlocks : meth.locks = false) {Q : Int32 → St → Prop}  : ∀ (σ : St) (l1 : Int32) (l2 : Int32) (l3 : Int32) (l4 : Int32) (t1 : Int32) (H : Heap) (locs : List Loc) (ls : Array Slot), f_X9_place_54 Q  σ l1 l2 l3 l4 t1 → HH G (AD G s.heap.size) s σ H locs → lv_has ls 5 [(0, .ref (G.2.1 28)), (1, .int l1), (2, .int l2), (3, .int l3), (4, .int l4)] → W p l e ({ frames := 1, cells := 0, slots := 0, locals := 22 }) s m args below meth c H locs 0 0 (MQi below G args s Q) (F0 m 54 ls [.int t1, .ref (G.2.1 28)]) := by
  have hx := E.1.1
  have hb := E.1.2.1
  have hown := E.1.2.2.2.1
  have hts := E.1.2.2.2.2
  have h_inX9 : ∀ w ∈ wsX90, w ∈ wsX9_place := (fun _ h9 => (List.mem_cons_of_mem _ (List.mem_append_right _ h9)))
  intro σ l1 l2 l3 l4 t1 H locs ls h hh hl
  unfold f_X9_place_54 at h
  refine lv_iconst (v := (2 : Int32)) hx hb dX9_place_54 (by decide) ?_
  refine q_Vi (As := [.int t1, .int (2 : Int32)]) (rest := []) E hh (c_X9_bad l G _ _ _ _ _ h) (cwV 2 hts gX9_place_X9_bad rfl rfl rfl (by decide +kernel) ⟨Nat.le_of_ble_eq_true rfl, Nat.le_of_ble_eq_true rfl⟩) (va_recv (ci := 9) E.2.1 hh.1 rfl (WW_at_28 G σ)) rfl hl.1 rfl (Nat.le_of_ble_eq_true rfl) dX9_place_55 ⟨Nat.zero_le _, Nat.zero_le _⟩ (fun r55 s55 H locs h hh => ?_)
  refine lv_if_eq (tgt := 63) hx hb dX9_place_58 (by decide) (fun c9 => ?_) (fun c9 => ?_)
  · have h := h.1 c9
    refine lv_aload_n hx hb dX9_place_63 rfl (lv_at hl 0 rfl) ?_
    refine q_get (T := TX9) (v := .ref (G.2.1 35)) E hh h_inX9 28 (WW_at_28 G s55) rfl 24 (by decide) (List.mem_cons_of_mem _ (List.mem_append_left _ (List.mem_append_left _ (List.mem_of_getElem? (i := 1) rfl)))) rfl rfl dX9_place_64 ?_
    refine lv_iload_n hx hb dX9_place_67 rfl (lv_at hl 1 rfl) ?_
    refine lv_iload_n hx hb dX9_place_68 rfl (lv_at hl 2 rfl) ?_
    obtain ⟨h0, h⟩ := h
    refine q_iast E hh 35 (WW_at_35 G s55) h0 dX9_place_69 (WW_sa_35 G s55 (upd (ga s55 35) l1.toNatClampNeg l2)) (fun H locs hh => ?_)
    refine lv_aload_n hx hb dX9_place_70 rfl (lv_at hl 0 rfl) ?_
    refine q_get (T := TX9) (v := .ref (G.2.1 36)) E hh h_inX9 28 (WW_at_28 G (sa s55 35 (upd (ga s55 35) l1.toNatClampNeg l2))) rfl 25 (by decide) (List.mem_cons_of_mem _ (List.mem_append_left _ (List.mem_append_left _ (List.mem_of_getElem? (i := 2) rfl)))) rfl rfl dX9_place_71 ?_
    refine lv_iload_n hx hb dX9_place_74 rfl (lv_at hl 1 rfl) ?_
    refine lv_iload_n hx hb dX9_place_75 rfl (lv_at hl 3 rfl) ?_
    obtain ⟨h0, h⟩ := h
    refine q_iast E hh 36 (WW_at_36 G (sa s55 35 (upd (ga s55 35) l1.toNatClampNeg l2))) h0 dX9_place_76 (WW_sa_36 G (sa s55 35 (upd (ga s55 35) l1.toNatClampNeg l2)) (upd (ga (sa s55 35 (upd (ga s55 35) l1.toNatClampNeg l2)) 36) l1.toNatClampNeg l3)) (fun H locs hh => ?_)
    refine lv_aload_n hx hb dX9_place_77 rfl (lv_at hl 0 rfl) ?_
    refine q_get (T := TX9) (v := .ref (G.2.1 37)) E hh h_inX9 28 (WW_at_28 G (sa (sa s55 35 (upd (ga s55 35) l1.toNatClampNeg l2)) 36 (upd (ga (sa s55 35 (upd (ga s55 35) l1.toNatClampNeg l2)) 36) l1.toNatClampNeg l3))) rfl 26 (by decide) (List.mem_cons_of_mem _ (List.mem_append_left _ (List.mem_append_left _ (List.mem_of_getElem? (i := 3) rfl)))) rfl rfl dX9_place_78 ?_
    refine lv_iload_n hx hb dX9_place_81 rfl (lv_at hl 1 rfl) ?_
    refine lv_iload hx hb dX9_place_82 (lv_at hl 4 rfl) ?_
    obtain ⟨h0, h⟩ := h
    refine q_iast E hh 37 (WW_at_37 G (sa (sa s55 35 (upd (ga s55 35) l1.toNatClampNeg l2)) 36 (upd (ga (sa s55 35 (upd (ga s55 35) l1.toNatClampNeg l2)) 36) l1.toNatClampNeg l3))) h0 dX9_place_84 (WW_sa_37 G (sa (sa s55 35 (upd (ga s55 35) l1.toNatClampNeg l2)) 36 (upd (ga (sa s55 35 (upd (ga s55 35) l1.toNatClampNeg l2)) 36) l1.toNatClampNeg l3)) (upd (ga (sa (sa s55 35 (upd (ga s55 35) l1.toNatClampNeg l2)) 36 (upd (ga (sa s55 35 (upd (ga s55 35) l1.toNatClampNeg l2)) 36) l1.toNatClampNeg l3)) 37) l1.toNatClampNeg l4)) (fun H locs hh => ?_)
    refine lv_aload_n hx hb dX9_place_85 rfl (lv_at hl 0 rfl) ?_
    refine lv_iload_n hx hb dX9_place_86 rfl (lv_at hl 1 rfl) ?_
    refine q_Vi (As := [.int l1]) (rest := []) E hh (c_X9_tackOf l G _ _ _ _ h) (cwV 1 hts gX9_place_X9_tackOf rfl rfl rfl (by decide +kernel) ⟨Nat.le_of_ble_eq_true rfl, Nat.le_of_ble_eq_true rfl⟩) (va_recv (ci := 9) E.2.1 hh.1 rfl (WW_at_28 G (sa (sa (sa s55 35 (upd (ga s55 35) l1.toNatClampNeg l2)) 36 (upd (ga (sa s55 35 (upd (ga s55 35) l1.toNatClampNeg l2)) 36) l1.toNatClampNeg l3)) 37 (upd (ga (sa (sa s55 35 (upd (ga s55 35) l1.toNatClampNeg l2)) 36 (upd (ga (sa s55 35 (upd (ga s55 35) l1.toNatClampNeg l2)) 36) l1.toNatClampNeg l3)) 37) l1.toNatClampNeg l4)))) rfl hl.1 rfl (Nat.le_of_ble_eq_true rfl) dX9_place_87 ⟨Nat.zero_le _, Nat.zero_le _⟩ (fun r87 s87 H locs h hh => ?_)
    exact q_iret E hh hr hlocks h dX9_place_90
  · have h := h.2 c9
    refine lv_iconst (v := (0 : Int32)) hx hb dX9_place_61 (by decide) ?_
    exact q_iret E hh hr hlocks h dX9_place_62
def f_X9_place_19 (Q : Int32 → St → Prop)  (σ : St) (l1 : Int32) (l2 : Int32) (l3 : Int32) (l4 : Int32) (t1 : Int32) : Prop :=
  f_X9_bad σ t1 (1 : Int32) (fun r20 s20 => ((¬ r20 = 0 → Q (0 : Int32) s20) ∧ (r20 = 0 → f_X9_isPoint s20 l2 (fun r28 s28 => ((r28 = 0 → f_X9_place_54 Q s28 l1 l2 l3 l4 (1 : Int32)) ∧ (¬ r28 = 0 → f_X9_isPoint s28 l3 (fun r35 s35 => ((r35 = 0 → f_X9_place_54 Q s35 l1 l2 l3 l4 (1 : Int32)) ∧ (¬ r35 = 0 → f_X9_isWay s35 l4 (fun r43 s43 => ((¬ r43 = 0 → f_X9_place_54 Q s43 l1 l2 l3 l4 (0 : Int32)) ∧ (r43 = 0 → f_X9_place_54 Q s43 l1 l2 l3 l4 (1 : Int32)))))))))))))
set_option maxHeartbeats 4000000 in
set_option maxRecDepth 100000 in
theorem w_X9_place_19 {p : Program} {l : Launch} {e : Env} {s : State} {m : MethodId} {args : Array Value} {below : List Frame} {meth : Method} {c : Code} {G : GG} (E : EV p s m args c cX9_place 5 wsX9_place RX9 G (AD G s.heap.size)) (hr : meth.sig.returnType = (some .int)) (hlocks : meth.locks = false) {Q : Int32 → St → Prop}  : ∀ (σ : St) (l1 : Int32) (l2 : Int32) (l3 : Int32) (l4 : Int32) (t1 : Int32) (H : Heap) (locs : List Loc) (ls : Array Slot), f_X9_place_19 Q  σ l1 l2 l3 l4 t1 → HH G (AD G s.heap.size) s σ H locs → lv_has ls 5 [(0, .ref (G.2.1 28)), (1, .int l1), (2, .int l2), (3, .int l3), (4, .int l4)] → W p l e ({ frames := 1, cells := 0, slots := 0, locals := 22 }) s m args below meth c H locs 0 0 (MQi below G args s Q) (F0 m 19 ls [.int t1, .ref (G.2.1 28)]) := by
  have hx := E.1.1
  have hb := E.1.2.1
  have hown := E.1.2.2.2.1
  have hts := E.1.2.2.2.2
  have h_inX9 : ∀ w ∈ wsX90, w ∈ wsX9_place := (fun _ h9 => (List.mem_cons_of_mem _ (List.mem_append_right _ h9)))
  intro σ l1 l2 l3 l4 t1 H locs ls h hh hl
  unfold f_X9_place_19 at h
  refine lv_iconst (v := (1 : Int32)) hx hb dX9_place_19 (by decide) ?_
  refine q_Vi (As := [.int t1, .int (1 : Int32)]) (rest := []) E hh (c_X9_bad l G _ _ _ _ _ h) (cwV 2 hts gX9_place_X9_bad rfl rfl rfl (by decide +kernel) ⟨Nat.le_of_ble_eq_true rfl, Nat.le_of_ble_eq_true rfl⟩) (va_recv (ci := 9) E.2.1 hh.1 rfl (WW_at_28 G σ)) rfl hl.1 rfl (Nat.le_of_ble_eq_true rfl) dX9_place_20 ⟨Nat.zero_le _, Nat.zero_le _⟩ (fun r20 s20 H locs h hh => ?_)
  refine lv_if_ne (tgt := 61) hx hb dX9_place_23 (by decide) (fun c9 => ?_) (fun c9 => ?_)
  · have h := h.1 c9
    refine lv_iconst (v := (0 : Int32)) hx hb dX9_place_61 (by decide) ?_
    exact q_iret E hh hr hlocks h dX9_place_62
  · have h := h.2 c9
    refine lv_aload_n hx hb dX9_place_26 rfl (lv_at hl 0 rfl) ?_
    refine lv_iload_n hx hb dX9_place_27 rfl (lv_at hl 2 rfl) ?_
    refine q_Si (As := [.int l2]) (rest := [.ref (G.2.1 28)]) E hh (c_X9_isPoint l G _ _ _ _ h) (va_cwS 1 hts gX9_place_X9_isPoint rfl rfl rfl (by decide +kernel) ⟨Nat.le_of_ble_eq_true rfl, Nat.le_of_ble_eq_true rfl⟩) rfl hl.1 rfl (Nat.le_of_ble_eq_true rfl) dX9_place_28 ⟨Nat.zero_le _, Nat.zero_le _⟩ (fun r28 s28 H locs h hh => ?_)
    refine lv_if_eq (tgt := 49) hx hb dX9_place_31 (by decide) (fun c9 => ?_) (fun c9 => ?_)
    · have h := h.1 c9
      refine lv_iconst (v := (1 : Int32)) hx hb dX9_place_49 (by decide) ?_
      refine lv_goto (tgt := 54) hx hb dX9_place_50 (by decide) ?_
      exact w_X9_place_54 E hr hlocks  _ _ _ _ _ _ _ _ _ h hh (lv_sub hl [0, 1, 2, 3, 4] rfl)
    · have h := h.2 c9
      refine lv_iload_n hx hb dX9_place_34 rfl (lv_at hl 3 rfl) ?_
      refine q_Si (As := [.int l3]) (rest := [.ref (G.2.1 28)]) E hh (c_X9_isPoint l G _ _ _ _ h) (va_cwS 1 hts gX9_place_X9_isPoint rfl rfl rfl (by decide +kernel) ⟨Nat.le_of_ble_eq_true rfl, Nat.le_of_ble_eq_true rfl⟩) rfl hl.1 rfl (Nat.le_of_ble_eq_true rfl) dX9_place_35 ⟨Nat.zero_le _, Nat.zero_le _⟩ (fun r35 s35 H locs h hh => ?_)
      refine lv_if_eq (tgt := 49) hx hb dX9_place_38 (by decide) (fun c9 => ?_) (fun c9 => ?_)
      · have h := h.1 c9
        refine lv_iconst (v := (1 : Int32)) hx hb dX9_place_49 (by decide) ?_
        refine lv_goto (tgt := 54) hx hb dX9_place_50 (by decide) ?_
        exact w_X9_place_54 E hr hlocks  _ _ _ _ _ _ _ _ _ h hh (lv_sub hl [0, 1, 2, 3, 4] rfl)
      · have h := h.2 c9
        refine lv_iload hx hb dX9_place_41 (lv_at hl 4 rfl) ?_
        refine q_Si (As := [.int l4]) (rest := [.ref (G.2.1 28)]) E hh (c_X9_isWay l G _ _ _ _ h) (va_cwS 1 hts gX9_place_X9_isWay rfl rfl rfl (by decide +kernel) ⟨Nat.le_of_ble_eq_true rfl, Nat.le_of_ble_eq_true rfl⟩) rfl hl.1 rfl (Nat.le_of_ble_eq_true rfl) dX9_place_43 ⟨Nat.zero_le _, Nat.zero_le _⟩ (fun r43 s43 H locs h hh => ?_)
        refine lv_if_ne (tgt := 53) hx hb dX9_place_46 (by decide) (fun c9 => ?_) (fun c9 => ?_)
        · have h := h.1 c9
          refine lv_iconst (v := (0 : Int32)) hx hb dX9_place_53 (by decide) ?_
          exact w_X9_place_54 E hr hlocks  _ _ _ _ _ _ _ _ _ h hh (lv_sub hl [0, 1, 2, 3, 4] rfl)
        · have h := h.2 c9
          refine lv_iconst (v := (1 : Int32)) hx hb dX9_place_49 (by decide) ?_
          refine lv_goto (tgt := 54) hx hb dX9_place_50 (by decide) ?_
          exact w_X9_place_54 E hr hlocks  _ _ _ _ _ _ _ _ _ h hh (lv_sub hl [0, 1, 2, 3, 4] rfl)
def f_X9_place (σ : St) (p1 : Int32) (p2 : Int32) (p3 : Int32) (p4 : Int32) (Q : Int32 → St → Prop) : Prop :=
  f_X9_isBoat (si σ 23 (0 : Int32)) p1 (fun r8 s8 => ((¬ r8 = 0 → f_X9_place_19 Q s8 p1 p2 p3 p4 (0 : Int32)) ∧ (r8 = 0 → f_X9_place_19 Q s8 p1 p2 p3 p4 (1 : Int32))))
set_option maxHeartbeats 4000000 in
set_option maxRecDepth 100000 in
theorem c_X9_place (l : Launch) (G : GG) (σ : St) (sz : Nat) (p1 : Int32) (p2 : Int32) (p3 : Int32) (p4 : Int32) (Q : Int32 → St → Prop) (h : f_X9_place σ p1 p2 p3 p4 Q) : CTi l yX9_place wsX9_place ({ frames := 1, cells := 0, slots := 0, locals := 22 }) [.ref (G.2.1 28), .int p1, .int p2, .int p3, .int p4] G σ sz Q := by
  refine Met.ofW (cc := cX9_place) (maxL := 5) (ret := (some .int)) (by decide) rfl ?_
  intro p e s m args below meth c s₁ B hml hv
  obtain ⟨rfl, hpre⟩ := hv
  have hr := B.returns
  have hlocks := B.notSynchronized
  obtain ⟨hsz, -⟩ := id hpre
  subst hsz
  obtain ⟨E, hh⟩ := EV.ofPre (⟨B.exec, B.bytes, hml, findClass_of_methodNamed B.named, atoms_spec (ws := wsX9_place) B.pre⟩ : CallFix p m c cX9_place 5 s _ wsX9_place RX9) hpre
  have hx := E.1.1
  have hb := E.1.2.1
  have hown := E.1.2.2.2.1
  have hts := E.1.2.2.2.2
  have h_inX9 : ∀ w ∈ wsX90, w ∈ wsX9_place := (fun _ h9 => (List.mem_cons_of_mem _ (List.mem_append_right _ h9)))
  have hl := lv_entry ([.ref (G.2.1 28), .int p1, .int p2, .int p3, .int p4]) (n := 5) (Nat.le_of_ble_eq_true rfl)
  rw [lg_entry_eq]
  generalize (lg_sl ([.ref (G.2.1 28), .int p1, .int p2, .int p3, .int p4]) ++ List.replicate (5 - (lg_sl ([.ref (G.2.1 28), .int p1, .int p2, .int p3, .int p4])).length) Slot.unset).toArray = ls at hl ⊢
  have hl : lv_has ls 5 [(0, .ref (G.2.1 28)), (1, .int p1), (2, .int p2), (3, .int p3), (4, .int p4)] := hl
  unfold f_X9_place at h
  refine lv_aload_n hx hb dX9_place_0 rfl (lv_at hl 0 rfl) ?_
  refine lv_iconst (v := (0 : Int32)) hx hb dX9_place_1 (by decide) ?_
  refine q_put (T := TX9) E hh h_inX9 tyX9 tyX9_ok nmX9 28 (WW_at_28 G σ) rfl 0 (by decide) (List.mem_cons_of_mem _ (List.mem_append_left _ (List.mem_append_left _ (List.mem_of_getElem? (i := 0) rfl)))) rfl rfl (by decide +kernel) (Nat.le_of_ble_eq_true rfl) dX9_place_2 (WW_si_23 G σ (0 : Int32)) (fun H locs hh => ?_)
  refine lv_aload_n hx hb dX9_place_5 rfl (lv_at hl 0 rfl) ?_
  refine lv_aload_n hx hb dX9_place_6 rfl (lv_at hl 0 rfl) ?_
  refine lv_iload_n hx hb dX9_place_7 rfl (lv_at hl 1 rfl) ?_
  refine q_Vi (As := [.int p1]) (rest := [.ref (G.2.1 28)]) E hh (c_X9_isBoat l G _ _ _ _ h) (cwV 1 hts gX9_place_X9_isBoat rfl rfl rfl (by decide +kernel) ⟨Nat.le_of_ble_eq_true rfl, Nat.le_of_ble_eq_true rfl⟩) (va_recv (ci := 9) E.2.1 hh.1 rfl (WW_at_28 G (si σ 23 (0 : Int32)))) rfl hl.1 rfl (Nat.le_of_ble_eq_true rfl) dX9_place_8 ⟨Nat.zero_le _, Nat.zero_le _⟩ (fun r8 s8 H locs h hh => ?_)
  refine lv_if_ne (tgt := 18) hx hb dX9_place_11 (by decide) (fun c9 => ?_) (fun c9 => ?_)
  · have h := h.1 c9
    refine lv_iconst (v := (0 : Int32)) hx hb dX9_place_18 (by decide) ?_
    exact w_X9_place_19 E hr hlocks  _ _ _ _ _ _ _ _ _ h hh (lv_sub hl [0, 1, 2, 3, 4] rfl)
  · have h := h.2 c9
    refine lv_iconst (v := (1 : Int32)) hx hb dX9_place_14 (by decide) ?_
    refine lv_goto (tgt := 19) hx hb dX9_place_15 (by decide) ?_
    exact w_X9_place_19 E hr hlocks  _ _ _ _ _ _ _ _ _ h hh (lv_sub hl [0, 1, 2, 3, 4] rfl)
def f_X9_far (σ : St) (p1 : Int32) (p2 : Int32) (Q : Int32 → St → Prop) : Prop :=
  (vp_in p1 16 ∧ f_X9_wayX σ p2 (fun r7 s7 => (vp_in p1 16 ∧ f_X9_wayY s7 p2 (fun r18 s18 => Q (((ga σ 35 p1.toNatClampNeg) * r7) + ((ga s7 36 p1.toNatClampNeg) * r18)) s18))))
set_option maxHeartbeats 4000000 in
set_option maxRecDepth 100000 in
theorem c_X9_far (l : Launch) (G : GG) (σ : St) (sz : Nat) (p1 : Int32) (p2 : Int32) (Q : Int32 → St → Prop) (h : f_X9_far σ p1 p2 Q) : CTi l yX9_far wsX9_far ({ frames := 1, cells := 0, slots := 0, locals := 20 }) [.ref (G.2.1 28), .int p1, .int p2] G σ sz Q := by
  refine Met.ofW (cc := cX9_far) (maxL := 3) (ret := (some .int)) (by decide) rfl ?_
  intro p e s m args below meth c s₁ B hml hv
  obtain ⟨rfl, hpre⟩ := hv
  have hr := B.returns
  have hlocks := B.notSynchronized
  obtain ⟨hsz, -⟩ := id hpre
  subst hsz
  obtain ⟨E, hh⟩ := EV.ofPre (⟨B.exec, B.bytes, hml, findClass_of_methodNamed B.named, atoms_spec (ws := wsX9_far) B.pre⟩ : CallFix p m c cX9_far 3 s _ wsX9_far RX9) hpre
  have hx := E.1.1
  have hb := E.1.2.1
  have hown := E.1.2.2.2.1
  have hts := E.1.2.2.2.2
  have h_inX9 : ∀ w ∈ wsX90, w ∈ wsX9_far := (fun _ h9 => (List.mem_cons_of_mem _ (List.mem_append_right _ h9)))
  have hl := lv_entry ([.ref (G.2.1 28), .int p1, .int p2]) (n := 3) (Nat.le_of_ble_eq_true rfl)
  rw [lg_entry_eq]
  generalize (lg_sl ([.ref (G.2.1 28), .int p1, .int p2]) ++ List.replicate (3 - (lg_sl ([.ref (G.2.1 28), .int p1, .int p2])).length) Slot.unset).toArray = ls at hl ⊢
  have hl : lv_has ls 3 [(0, .ref (G.2.1 28)), (1, .int p1), (2, .int p2)] := hl
  unfold f_X9_far at h
  refine lv_aload_n hx hb dX9_far_0 rfl (lv_at hl 0 rfl) ?_
  refine q_get (T := TX9) (v := .ref (G.2.1 35)) E hh h_inX9 28 (WW_at_28 G σ) rfl 24 (by decide) (List.mem_cons_of_mem _ (List.mem_append_left _ (List.mem_of_getElem? (i := 0) rfl))) rfl rfl dX9_far_1 ?_
  refine lv_iload_n hx hb dX9_far_4 rfl (lv_at hl 1 rfl) ?_
  obtain ⟨h0, h⟩ := h
  refine q_iald E hh 35 (WW_at_35 G σ) h0 dX9_far_5 ?_
  refine lv_iload_n hx hb dX9_far_6 rfl (lv_at hl 2 rfl) ?_
  refine q_Si (As := [.int p2]) (rest := [.int (ga σ 35 p1.toNatClampNeg)]) E hh (c_X9_wayX l G _ _ _ _ h) (va_cwS 1 hts gX9_far_X9_wayX rfl rfl rfl (by decide +kernel) ⟨Nat.le_of_ble_eq_true rfl, Nat.le_of_ble_eq_true rfl⟩) rfl hl.1 rfl (Nat.le_of_ble_eq_true rfl) dX9_far_7 ⟨Nat.zero_le _, Nat.zero_le _⟩ (fun r7 s7 H locs h hh => ?_)
  refine lv_imul hx hb dX9_far_10 ?_
  refine lv_aload_n hx hb dX9_far_11 rfl (lv_at hl 0 rfl) ?_
  refine q_get (T := TX9) (v := .ref (G.2.1 36)) E hh h_inX9 28 (WW_at_28 G s7) rfl 25 (by decide) (List.mem_cons_of_mem _ (List.mem_append_left _ (List.mem_of_getElem? (i := 1) rfl))) rfl rfl dX9_far_12 ?_
  refine lv_iload_n hx hb dX9_far_15 rfl (lv_at hl 1 rfl) ?_
  obtain ⟨h0, h⟩ := h
  refine q_iald E hh 36 (WW_at_36 G s7) h0 dX9_far_16 ?_
  refine lv_iload_n hx hb dX9_far_17 rfl (lv_at hl 2 rfl) ?_
  refine q_Si (As := [.int p2]) (rest := [.int (ga s7 36 p1.toNatClampNeg), .int ((ga σ 35 p1.toNatClampNeg) * r7)]) E hh (c_X9_wayY l G _ _ _ _ h) (va_cwS 1 hts gX9_far_X9_wayY rfl rfl rfl (by decide +kernel) ⟨Nat.le_of_ble_eq_true rfl, Nat.le_of_ble_eq_true rfl⟩) rfl hl.1 rfl (Nat.le_of_ble_eq_true rfl) dX9_far_18 ⟨Nat.zero_le _, Nat.zero_le _⟩ (fun r18 s18 H locs h hh => ?_)
  refine lv_imul hx hb dX9_far_21 ?_
  refine lv_iadd hx hb dX9_far_22 ?_
  exact q_iret E hh hr hlocks h dX9_far_23
def f_X9_clear_45 (Q : Int32 → St → Prop)  (rec : St → Int32 → Int32 → Int32 → Prop) (σ : St) (l1 : Int32) (l2 : Int32) (l3 : Int32) : Prop :=
  (((gi σ 36) ≤ l3 → Q (-1 : Int32) σ) ∧ (¬ (gi σ 36) ≤ l3 → f_X9_tackOf σ l1 (fun r55 s55 => f_X9_tackOf s55 l2 (fun r62 s62 => (vp_in l3 3 ∧ ((¬ (ga s62 33 l3.toNatClampNeg) = 0 → (vp_in l3 3 ∧ ((¬ (ga s62 33 l3.toNatClampNeg) = (1 : Int32) → (vp_in l1 16 ∧ (vp_in l2 16 ∧ ((¬ (ga s62 37 l1.toNatClampNeg) = (ga s62 37 l2.toNatClampNeg) → rec s62 l1 l2 (l3 + 1)) ∧ ((ga s62 37 l1.toNatClampNeg) = (ga s62 37 l2.toNatClampNeg) → (vp_in l1 16 ∧ f_X9_far s62 l1 (ga s62 37 l1.toNatClampNeg) (fun r198 s198 => (vp_in l1 16 ∧ f_X9_far s198 l2 (ga s198 37 l1.toNatClampNeg) (fun r209 s209 => ((r198 = r209 → rec s209 l1 l2 (l3 + 1)) ∧ (¬ r198 = r209 → (vp_in l1 16 ∧ f_X9_far s209 l1 (ga s209 37 l1.toNatClampNeg) (fun r223 s223 => (vp_in l1 16 ∧ f_X9_far s223 l2 (ga s223 37 l1.toNatClampNeg) (fun r234 s234 => ((r234 ≤ r223 → Q l2 s234) ∧ (¬ r234 ≤ r223 → Q l1 s234))))))))))))))))) ∧ ((ga s62 33 l3.toNatClampNeg) = (1 : Int32) → ((r55 ≤ 0 → rec s62 l1 l2 (l3 + 1)) ∧ (¬ r55 ≤ 0 → ((¬ r55 = r62 → rec s62 l1 l2 (l3 + 1)) ∧ (r55 = r62 → f_X9_far s62 l1 (gi s62 25) (fun r133 s133 => f_X9_far s133 l2 (gi s133 25) (fun r142 s142 => ((r133 = r142 → rec s142 l1 l2 (l3 + 1)) ∧ (¬ r133 = r142 → f_X9_far s142 l1 (gi s142 25) (fun r154 s154 => f_X9_far s154 l2 (gi s154 25) (fun r163 s163 => ((r154 ≤ r163 → Q l2 s163) ∧ (¬ r154 ≤ r163 → Q l1 s163)))))))))))))))) ∧ ((ga s62 33 l3.toNatClampNeg) = 0 → ((r55 ≤ 0 → rec s62 l1 l2 (l3 + 1)) ∧ (¬ r55 ≤ 0 → ((r62 ≤ 0 → rec s62 l1 l2 (l3 + 1)) ∧ (¬ r62 ≤ 0 → ((r55 = r62 → rec s62 l1 l2 (l3 + 1)) ∧ (¬ r55 = r62 → ((¬ r55 = (2 : Int32) → Q l2 s62) ∧ (r55 = (2 : Int32) → Q l1 s62)))))))))))))))
def f_X9_clear_45L (Q : Int32 → St → Prop)  : Nat → St → Int32 → Int32 → Int32 → Prop
  | 0, _, _, _, _ => False
  | n + 1, σ, l1, l2, l3 => f_X9_clear_45 Q  (f_X9_clear_45L Q  n) σ l1 l2 l3
set_option maxHeartbeats 4000000 in
set_option maxRecDepth 100000 in
theorem w_X9_clear_45 {p : Program} {l : Launch} {e : Env} {s : State} {m : MethodId} {args : Array Value} {below : List Frame} {meth : Method} {c : Code} {G : GG} (E : EV p s m args c cX9_clear 6 wsX9_clear RX9 G (AD G s.heap.size)) (hr : meth.sig.returnType = (some .int)) (hlocks : meth.locks = false) {Q : Int32 → St → Prop}  : ∀ (n : Nat) (σ : St) (l1 : Int32) (l2 : Int32) (l3 : Int32) (H : Heap) (locs : List Loc) (ls : Array Slot), f_X9_clear_45L Q  n σ l1 l2 l3 → HH G (AD G s.heap.size) s σ H locs → lv_has ls 6 [(0, .ref (G.2.1 28)), (1, .int l1), (2, .int l2), (3, .int l3)] → W p l e ({ frames := 2, cells := 0, slots := 0, locals := 42 }) s m args below meth c H locs 0 0 (MQi below G args s Q) (F0 m 45 ls []) := by
  have hx := E.1.1
  have hb := E.1.2.1
  have hown := E.1.2.2.2.1
  have hts := E.1.2.2.2.2
  have h_inX9 : ∀ w ∈ wsX90, w ∈ wsX9_clear := (fun _ h9 => (List.mem_cons_of_mem _ (List.mem_append_right _ h9)))
  intro n
  induction n with
  | zero =>
    intro σ l1 l2 l3 H locs ls h
    exact h.elim
  | succ n ih =>
    intro σ l1 l2 l3 H locs ls h hh hl
    have h : f_X9_clear_45 Q  (f_X9_clear_45L Q  n) σ l1 l2 l3 := h
    unfold f_X9_clear_45 at h
    refine lv_iload_n hx hb dX9_clear_45 rfl (lv_at hl 3 rfl) ?_
    refine lv_aload_n hx hb dX9_clear_46 rfl (lv_at hl 0 rfl) ?_
    refine q_get (T := TX9) (v := .int (gi σ 36)) E hh h_inX9 28 (WW_at_28 G σ) rfl 17 (by decide) (List.mem_cons_of_mem _ (List.mem_append_left _ (List.mem_append_left _ (List.mem_of_getElem? (i := 1) rfl)))) rfl rfl dX9_clear_47 ?_
    refine lv_icmp_ge (tgt := 252) hx hb dX9_clear_50 (by decide) (fun c9 => ?_) (fun c9 => ?_)
    · have h := h.1 c9
      refine lv_iconst (v := (-1 : Int32)) hx hb dX9_clear_252 (by decide) ?_
      exact q_iret E hh hr hlocks h dX9_clear_253
    · have h := h.2 c9
      refine lv_aload_n hx hb dX9_clear_53 rfl (lv_at hl 0 rfl) ?_
      refine lv_iload_n hx hb dX9_clear_54 rfl (lv_at hl 1 rfl) ?_
      refine q_Vi (As := [.int l1]) (rest := []) E hh (c_X9_tackOf l G _ _ _ _ h) (cwV 1 hts gX9_clear_X9_tackOf rfl rfl rfl (by decide +kernel) ⟨Nat.le_of_ble_eq_true rfl, Nat.le_of_ble_eq_true rfl⟩) (va_recv (ci := 9) E.2.1 hh.1 rfl (WW_at_28 G σ)) rfl hl.1 rfl (Nat.le_of_ble_eq_true rfl) dX9_clear_55 ⟨Nat.zero_le _, Nat.zero_le _⟩ (fun r55 s55 H locs h hh => ?_)
      refine lv_istore (lv' := [(4, .int r55), (0, .ref (G.2.1 28)), (1, .int l1), (2, .int l2), (3, .int l3)]) hx hb dX9_clear_58 hl (by decide) rfl (fun ls hl => ?_)
      refine lv_aload_n hx hb dX9_clear_60 rfl (lv_at hl 1 rfl) ?_
      refine lv_iload_n hx hb dX9_clear_61 rfl (lv_at hl 3 rfl) ?_
      refine q_Vi (As := [.int l2]) (rest := []) E hh (c_X9_tackOf l G _ _ _ _ h) (cwV 1 hts gX9_clear_X9_tackOf rfl rfl rfl (by decide +kernel) ⟨Nat.le_of_ble_eq_true rfl, Nat.le_of_ble_eq_true rfl⟩) (va_recv (ci := 9) E.2.1 hh.1 rfl (WW_at_28 G s55)) rfl hl.1 rfl (Nat.le_of_ble_eq_true rfl) dX9_clear_62 ⟨Nat.zero_le _, Nat.zero_le _⟩ (fun r62 s62 H locs h hh => ?_)
      refine lv_istore (lv' := [(5, .int r62), (4, .int r55), (0, .ref (G.2.1 28)), (1, .int l1), (2, .int l2), (3, .int l3)]) hx hb dX9_clear_65 hl (by decide) rfl (fun ls hl => ?_)
      refine lv_aload_n hx hb dX9_clear_67 rfl (lv_at hl 2 rfl) ?_
      refine q_get (T := TX9) (v := .ref (G.2.1 33)) E hh h_inX9 28 (WW_at_28 G s62) rfl 18 (by decide) (List.mem_cons_of_mem _ (List.mem_append_left _ (List.mem_append_left _ (List.mem_of_getElem? (i := 2) rfl)))) rfl rfl dX9_clear_68 ?_
      refine lv_iload_n hx hb dX9_clear_71 rfl (lv_at hl 5 rfl) ?_
      obtain ⟨h0, h⟩ := h
      refine q_iald E hh 33 (WW_at_33 G s62) h0 dX9_clear_72 ?_
      refine lv_if_ne (tgt := 105) hx hb dX9_clear_73 (by decide) (fun c9 => ?_) (fun c9 => ?_)
      · have h := h.1 c9
        refine lv_aload_n hx hb dX9_clear_105 rfl (lv_at hl 2 rfl) ?_
        refine q_get (T := TX9) (v := .ref (G.2.1 33)) E hh h_inX9 28 (WW_at_28 G s62) rfl 18 (by decide) (List.mem_cons_of_mem _ (List.mem_append_left _ (List.mem_append_left _ (List.mem_of_getElem? (i := 2) rfl)))) rfl rfl dX9_clear_106 ?_
        refine lv_iload_n hx hb dX9_clear_109 rfl (lv_at hl 5 rfl) ?_
        obtain ⟨h0, h⟩ := h
        refine q_iald E hh 33 (WW_at_33 G s62) h0 dX9_clear_110 ?_
        refine lv_iconst (v := (1 : Int32)) hx hb dX9_clear_111 (by decide) ?_
        refine lv_icmp_ne (tgt := 175) hx hb dX9_clear_112 (by decide) (fun c9 => ?_) (fun c9 => ?_)
        · have h := h.1 c9
          refine lv_aload_n hx hb dX9_clear_175 rfl (lv_at hl 2 rfl) ?_
          refine q_get (T := TX9) (v := .ref (G.2.1 37)) E hh h_inX9 28 (WW_at_28 G s62) rfl 26 (by decide) (List.mem_cons_of_mem _ (List.mem_append_left _ (List.mem_append_left _ (List.mem_of_getElem? (i := 4) rfl)))) rfl rfl dX9_clear_176 ?_
          refine lv_iload_n hx hb dX9_clear_179 rfl (lv_at hl 3 rfl) ?_
          obtain ⟨h0, h⟩ := h
          refine q_iald E hh 37 (WW_at_37 G s62) h0 dX9_clear_180 ?_
          refine lv_aload_n hx hb dX9_clear_181 rfl (lv_at hl 2 rfl) ?_
          refine q_get (T := TX9) (v := .ref (G.2.1 37)) E hh h_inX9 28 (WW_at_28 G s62) rfl 26 (by decide) (List.mem_cons_of_mem _ (List.mem_append_left _ (List.mem_append_left _ (List.mem_of_getElem? (i := 4) rfl)))) rfl rfl dX9_clear_182 ?_
          refine lv_iload_n hx hb dX9_clear_185 rfl (lv_at hl 4 rfl) ?_
          obtain ⟨h0, h⟩ := h
          refine q_iald E hh 37 (WW_at_37 G s62) h0 dX9_clear_186 ?_
          refine lv_icmp_ne (tgt := 246) hx hb dX9_clear_187 (by decide) (fun c9 => ?_) (fun c9 => ?_)
          · have h := h.1 c9
            refine lv_iinc (v := (l3 + 1)) (lv' := [(3, .int (l3 + 1)), (5, .int r62), (4, .int r55), (0, .ref (G.2.1 28)), (1, .int l1), (2, .int l2)]) hx hb dX9_clear_246 hl (k := 5) rfl rfl (by decide) rfl (fun ls hl => ?_)
            refine lv_goto (tgt := 45) hx hb dX9_clear_249 (by decide) ?_
            exact ih _ _ _ _ _ _ _ h hh (lv_sub hl [3, 4, 5, 0] rfl)
          · have h := h.2 c9
            refine lv_aload_n hx hb dX9_clear_190 rfl (lv_at hl 2 rfl) ?_
            refine lv_iload_n hx hb dX9_clear_191 rfl (lv_at hl 3 rfl) ?_
            refine lv_aload_n hx hb dX9_clear_192 rfl (lv_at hl 2 rfl) ?_
            refine q_get (T := TX9) (v := .ref (G.2.1 37)) E hh h_inX9 28 (WW_at_28 G s62) rfl 26 (by decide) (List.mem_cons_of_mem _ (List.mem_append_left _ (List.mem_append_left _ (List.mem_of_getElem? (i := 4) rfl)))) rfl rfl dX9_clear_193 ?_
            refine lv_iload_n hx hb dX9_clear_196 rfl (lv_at hl 3 rfl) ?_
            obtain ⟨h0, h⟩ := h
            refine q_iald E hh 37 (WW_at_37 G s62) h0 dX9_clear_197 ?_
            refine q_Vi (As := [.int l1, .int (ga s62 37 l1.toNatClampNeg)]) (rest := []) E hh (c_X9_far l G _ _ _ _ _ h) (cwV 2 hts gX9_clear_X9_far rfl rfl rfl (by decide +kernel) ⟨Nat.le_of_ble_eq_true rfl, Nat.le_of_ble_eq_true rfl⟩) (va_recv (ci := 9) E.2.1 hh.1 rfl (WW_at_28 G s62)) rfl hl.1 rfl (Nat.le_of_ble_eq_true rfl) dX9_clear_198 ⟨Nat.zero_le _, Nat.zero_le _⟩ (fun r198 s198 H locs h hh => ?_)
            refine lv_aload_n hx hb dX9_clear_201 rfl (lv_at hl 2 rfl) ?_
            refine lv_iload_n hx hb dX9_clear_202 rfl (lv_at hl 4 rfl) ?_
            refine lv_aload_n hx hb dX9_clear_203 rfl (lv_at hl 2 rfl) ?_
            refine q_get (T := TX9) (v := .ref (G.2.1 37)) E hh h_inX9 28 (WW_at_28 G s198) rfl 26 (by decide) (List.mem_cons_of_mem _ (List.mem_append_left _ (List.mem_append_left _ (List.mem_of_getElem? (i := 4) rfl)))) rfl rfl dX9_clear_204 ?_
            refine lv_iload_n hx hb dX9_clear_207 rfl (lv_at hl 3 rfl) ?_
            obtain ⟨h0, h⟩ := h
            refine q_iald E hh 37 (WW_at_37 G s198) h0 dX9_clear_208 ?_
            refine q_Vi (As := [.int l2, .int (ga s198 37 l1.toNatClampNeg)]) (rest := [.int r198]) E hh (c_X9_far l G _ _ _ _ _ h) (cwV 2 hts gX9_clear_X9_far rfl rfl rfl (by decide +kernel) ⟨Nat.le_of_ble_eq_true rfl, Nat.le_of_ble_eq_true rfl⟩) (va_recv (ci := 9) E.2.1 hh.1 rfl (WW_at_28 G s198)) rfl hl.1 rfl (Nat.le_of_ble_eq_true rfl) dX9_clear_209 ⟨Nat.zero_le _, Nat.zero_le _⟩ (fun r209 s209 H locs h hh => ?_)
            refine lv_icmp_eq (tgt := 246) hx hb dX9_clear_212 (by decide) (fun c9 => ?_) (fun c9 => ?_)
            · have h := h.1 c9
              refine lv_iinc (v := (l3 + 1)) (lv' := [(3, .int (l3 + 1)), (5, .int r62), (4, .int r55), (0, .ref (G.2.1 28)), (1, .int l1), (2, .int l2)]) hx hb dX9_clear_246 hl (k := 5) rfl rfl (by decide) rfl (fun ls hl => ?_)
              refine lv_goto (tgt := 45) hx hb dX9_clear_249 (by decide) ?_
              exact ih _ _ _ _ _ _ _ h hh (lv_sub hl [3, 4, 5, 0] rfl)
            · have h := h.2 c9
              refine lv_aload_n hx hb dX9_clear_215 rfl (lv_at hl 2 rfl) ?_
              refine lv_iload_n hx hb dX9_clear_216 rfl (lv_at hl 3 rfl) ?_
              refine lv_aload_n hx hb dX9_clear_217 rfl (lv_at hl 2 rfl) ?_
              refine q_get (T := TX9) (v := .ref (G.2.1 37)) E hh h_inX9 28 (WW_at_28 G s209) rfl 26 (by decide) (List.mem_cons_of_mem _ (List.mem_append_left _ (List.mem_append_left _ (List.mem_of_getElem? (i := 4) rfl)))) rfl rfl dX9_clear_218 ?_
              refine lv_iload_n hx hb dX9_clear_221 rfl (lv_at hl 3 rfl) ?_
              obtain ⟨h0, h⟩ := h
              refine q_iald E hh 37 (WW_at_37 G s209) h0 dX9_clear_222 ?_
              refine q_Vi (As := [.int l1, .int (ga s209 37 l1.toNatClampNeg)]) (rest := []) E hh (c_X9_far l G _ _ _ _ _ h) (cwV 2 hts gX9_clear_X9_far rfl rfl rfl (by decide +kernel) ⟨Nat.le_of_ble_eq_true rfl, Nat.le_of_ble_eq_true rfl⟩) (va_recv (ci := 9) E.2.1 hh.1 rfl (WW_at_28 G s209)) rfl hl.1 rfl (Nat.le_of_ble_eq_true rfl) dX9_clear_223 ⟨Nat.zero_le _, Nat.zero_le _⟩ (fun r223 s223 H locs h hh => ?_)
              refine lv_aload_n hx hb dX9_clear_226 rfl (lv_at hl 2 rfl) ?_
              refine lv_iload_n hx hb dX9_clear_227 rfl (lv_at hl 4 rfl) ?_
              refine lv_aload_n hx hb dX9_clear_228 rfl (lv_at hl 2 rfl) ?_
              refine q_get (T := TX9) (v := .ref (G.2.1 37)) E hh h_inX9 28 (WW_at_28 G s223) rfl 26 (by decide) (List.mem_cons_of_mem _ (List.mem_append_left _ (List.mem_append_left _ (List.mem_of_getElem? (i := 4) rfl)))) rfl rfl dX9_clear_229 ?_
              refine lv_iload_n hx hb dX9_clear_232 rfl (lv_at hl 3 rfl) ?_
              obtain ⟨h0, h⟩ := h
              refine q_iald E hh 37 (WW_at_37 G s223) h0 dX9_clear_233 ?_
              refine q_Vi (As := [.int l2, .int (ga s223 37 l1.toNatClampNeg)]) (rest := [.int r223]) E hh (c_X9_far l G _ _ _ _ _ h) (cwV 2 hts gX9_clear_X9_far rfl rfl rfl (by decide +kernel) ⟨Nat.le_of_ble_eq_true rfl, Nat.le_of_ble_eq_true rfl⟩) (va_recv (ci := 9) E.2.1 hh.1 rfl (WW_at_28 G s223)) rfl hl.1 rfl (Nat.le_of_ble_eq_true rfl) dX9_clear_234 ⟨Nat.zero_le _, Nat.zero_le _⟩ (fun r234 s234 H locs h hh => ?_)
              refine lv_icmp_ge (tgt := 244) hx hb dX9_clear_237 (by decide) (fun c9 => ?_) (fun c9 => ?_)
              · have h := h.1 c9
                refine lv_iload_n hx hb dX9_clear_244 rfl (lv_at hl 4 rfl) ?_
                exact q_iret E hh hr hlocks h dX9_clear_245
              · have h := h.2 c9
                refine lv_iload_n hx hb dX9_clear_240 rfl (lv_at hl 3 rfl) ?_
                refine lv_goto (tgt := 245) hx hb dX9_clear_241 (by decide) ?_
                exact q_iret E hh hr hlocks h dX9_clear_245
        · have h := h.2 c9
          refine lv_iload hx hb dX9_clear_115 (lv_at hl 1 rfl) ?_
          refine lv_if_le (tgt := 246) hx hb dX9_clear_117 (by decide) (fun c9 => ?_) (fun c9 => ?_)
          · have h := h.1 c9
            refine lv_iinc (v := (l3 + 1)) (lv' := [(3, .int (l3 + 1)), (5, .int r62), (4, .int r55), (0, .ref (G.2.1 28)), (1, .int l1), (2, .int l2)]) hx hb dX9_clear_246 hl (k := 5) rfl rfl (by decide) rfl (fun ls hl => ?_)
            refine lv_goto (tgt := 45) hx hb dX9_clear_249 (by decide) ?_
            exact ih _ _ _ _ _ _ _ h hh (lv_sub hl [3, 4, 5, 0] rfl)
          · have h := h.2 c9
            refine lv_iload hx hb dX9_clear_120 (lv_at hl 1 rfl) ?_
            refine lv_iload hx hb dX9_clear_122 (lv_at hl 0 rfl) ?_
            refine lv_icmp_ne (tgt := 246) hx hb dX9_clear_124 (by decide) (fun c9 => ?_) (fun c9 => ?_)
            · have h := h.1 c9
              refine lv_iinc (v := (l3 + 1)) (lv' := [(3, .int (l3 + 1)), (5, .int r62), (4, .int r55), (0, .ref (G.2.1 28)), (1, .int l1), (2, .int l2)]) hx hb dX9_clear_246 hl (k := 5) rfl rfl (by decide) rfl (fun ls hl => ?_)
              refine lv_goto (tgt := 45) hx hb dX9_clear_249 (by decide) ?_
              exact ih _ _ _ _ _ _ _ h hh (lv_sub hl [3, 4, 5, 0] rfl)
            · have h := h.2 c9
              refine lv_aload_n hx hb dX9_clear_127 rfl (lv_at hl 2 rfl) ?_
              refine lv_iload_n hx hb dX9_clear_128 rfl (lv_at hl 3 rfl) ?_
              refine lv_aload_n hx hb dX9_clear_129 rfl (lv_at hl 2 rfl) ?_
              refine q_get (T := TX9) (v := .int (gi s62 25)) E hh h_inX9 28 (WW_at_28 G s62) rfl 5 (by decide) (List.mem_cons_of_mem _ (List.mem_append_left _ (List.mem_append_left _ (List.mem_of_getElem? (i := 3) rfl)))) rfl rfl dX9_clear_130 ?_
              refine q_Vi (As := [.int l1, .int (gi s62 25)]) (rest := []) E hh (c_X9_far l G _ _ _ _ _ h) (cwV 2 hts gX9_clear_X9_far rfl rfl rfl (by decide +kernel) ⟨Nat.le_of_ble_eq_true rfl, Nat.le_of_ble_eq_true rfl⟩) (va_recv (ci := 9) E.2.1 hh.1 rfl (WW_at_28 G s62)) rfl hl.1 rfl (Nat.le_of_ble_eq_true rfl) dX9_clear_133 ⟨Nat.zero_le _, Nat.zero_le _⟩ (fun r133 s133 H locs h hh => ?_)
              refine lv_aload_n hx hb dX9_clear_136 rfl (lv_at hl 2 rfl) ?_
              refine lv_iload_n hx hb dX9_clear_137 rfl (lv_at hl 4 rfl) ?_
              refine lv_aload_n hx hb dX9_clear_138 rfl (lv_at hl 2 rfl) ?_
              refine q_get (T := TX9) (v := .int (gi s133 25)) E hh h_inX9 28 (WW_at_28 G s133) rfl 5 (by decide) (List.mem_cons_of_mem _ (List.mem_append_left _ (List.mem_append_left _ (List.mem_of_getElem? (i := 3) rfl)))) rfl rfl dX9_clear_139 ?_
              refine q_Vi (As := [.int l2, .int (gi s133 25)]) (rest := [.int r133]) E hh (c_X9_far l G _ _ _ _ _ h) (cwV 2 hts gX9_clear_X9_far rfl rfl rfl (by decide +kernel) ⟨Nat.le_of_ble_eq_true rfl, Nat.le_of_ble_eq_true rfl⟩) (va_recv (ci := 9) E.2.1 hh.1 rfl (WW_at_28 G s133)) rfl hl.1 rfl (Nat.le_of_ble_eq_true rfl) dX9_clear_142 ⟨Nat.zero_le _, Nat.zero_le _⟩ (fun r142 s142 H locs h hh => ?_)
              refine lv_icmp_eq (tgt := 246) hx hb dX9_clear_145 (by decide) (fun c9 => ?_) (fun c9 => ?_)
              · have h := h.1 c9
                refine lv_iinc (v := (l3 + 1)) (lv' := [(3, .int (l3 + 1)), (5, .int r62), (4, .int r55), (0, .ref (G.2.1 28)), (1, .int l1), (2, .int l2)]) hx hb dX9_clear_246 hl (k := 5) rfl rfl (by decide) rfl (fun ls hl => ?_)
                refine lv_goto (tgt := 45) hx hb dX9_clear_249 (by decide) ?_
                exact ih _ _ _ _ _ _ _ h hh (lv_sub hl [3, 4, 5, 0] rfl)
              · have h := h.2 c9
                refine lv_aload_n hx hb dX9_clear_148 rfl (lv_at hl 2 rfl) ?_
                refine lv_iload_n hx hb dX9_clear_149 rfl (lv_at hl 3 rfl) ?_
                refine lv_aload_n hx hb dX9_clear_150 rfl (lv_at hl 2 rfl) ?_
                refine q_get (T := TX9) (v := .int (gi s142 25)) E hh h_inX9 28 (WW_at_28 G s142) rfl 5 (by decide) (List.mem_cons_of_mem _ (List.mem_append_left _ (List.mem_append_left _ (List.mem_of_getElem? (i := 3) rfl)))) rfl rfl dX9_clear_151 ?_
                refine q_Vi (As := [.int l1, .int (gi s142 25)]) (rest := []) E hh (c_X9_far l G _ _ _ _ _ h) (cwV 2 hts gX9_clear_X9_far rfl rfl rfl (by decide +kernel) ⟨Nat.le_of_ble_eq_true rfl, Nat.le_of_ble_eq_true rfl⟩) (va_recv (ci := 9) E.2.1 hh.1 rfl (WW_at_28 G s142)) rfl hl.1 rfl (Nat.le_of_ble_eq_true rfl) dX9_clear_154 ⟨Nat.zero_le _, Nat.zero_le _⟩ (fun r154 s154 H locs h hh => ?_)
                refine lv_aload_n hx hb dX9_clear_157 rfl (lv_at hl 2 rfl) ?_
                refine lv_iload_n hx hb dX9_clear_158 rfl (lv_at hl 4 rfl) ?_
                refine lv_aload_n hx hb dX9_clear_159 rfl (lv_at hl 2 rfl) ?_
                refine q_get (T := TX9) (v := .int (gi s154 25)) E hh h_inX9 28 (WW_at_28 G s154) rfl 5 (by decide) (List.mem_cons_of_mem _ (List.mem_append_left _ (List.mem_append_left _ (List.mem_of_getElem? (i := 3) rfl)))) rfl rfl dX9_clear_160 ?_
                refine q_Vi (As := [.int l2, .int (gi s154 25)]) (rest := [.int r154]) E hh (c_X9_far l G _ _ _ _ _ h) (cwV 2 hts gX9_clear_X9_far rfl rfl rfl (by decide +kernel) ⟨Nat.le_of_ble_eq_true rfl, Nat.le_of_ble_eq_true rfl⟩) (va_recv (ci := 9) E.2.1 hh.1 rfl (WW_at_28 G s154)) rfl hl.1 rfl (Nat.le_of_ble_eq_true rfl) dX9_clear_163 ⟨Nat.zero_le _, Nat.zero_le _⟩ (fun r163 s163 H locs h hh => ?_)
                refine lv_icmp_le (tgt := 173) hx hb dX9_clear_166 (by decide) (fun c9 => ?_) (fun c9 => ?_)
                · have h := h.1 c9
                  refine lv_iload_n hx hb dX9_clear_173 rfl (lv_at hl 4 rfl) ?_
                  exact q_iret E hh hr hlocks h dX9_clear_174
                · have h := h.2 c9
                  refine lv_iload_n hx hb dX9_clear_169 rfl (lv_at hl 3 rfl) ?_
                  refine lv_goto (tgt := 174) hx hb dX9_clear_170 (by decide) ?_
                  exact q_iret E hh hr hlocks h dX9_clear_174
      · have h := h.2 c9
        refine lv_iload hx hb dX9_clear_76 (lv_at hl 1 rfl) ?_
        refine lv_if_le (tgt := 246) hx hb dX9_clear_78 (by decide) (fun c9 => ?_) (fun c9 => ?_)
        · have h := h.1 c9
          refine lv_iinc (v := (l3 + 1)) (lv' := [(3, .int (l3 + 1)), (5, .int r62), (4, .int r55), (0, .ref (G.2.1 28)), (1, .int l1), (2, .int l2)]) hx hb dX9_clear_246 hl (k := 5) rfl rfl (by decide) rfl (fun ls hl => ?_)
          refine lv_goto (tgt := 45) hx hb dX9_clear_249 (by decide) ?_
          exact ih _ _ _ _ _ _ _ h hh (lv_sub hl [3, 4, 5, 0] rfl)
        · have h := h.2 c9
          refine lv_iload hx hb dX9_clear_81 (lv_at hl 0 rfl) ?_
          refine lv_if_le (tgt := 246) hx hb dX9_clear_83 (by decide) (fun c9 => ?_) (fun c9 => ?_)
          · have h := h.1 c9
            refine lv_iinc (v := (l3 + 1)) (lv' := [(3, .int (l3 + 1)), (5, .int r62), (4, .int r55), (0, .ref (G.2.1 28)), (1, .int l1), (2, .int l2)]) hx hb dX9_clear_246 hl (k := 5) rfl rfl (by decide) rfl (fun ls hl => ?_)
            refine lv_goto (tgt := 45) hx hb dX9_clear_249 (by decide) ?_
            exact ih _ _ _ _ _ _ _ h hh (lv_sub hl [3, 4, 5, 0] rfl)
          · have h := h.2 c9
            refine lv_iload hx hb dX9_clear_86 (lv_at hl 1 rfl) ?_
            refine lv_iload hx hb dX9_clear_88 (lv_at hl 0 rfl) ?_
            refine lv_icmp_eq (tgt := 246) hx hb dX9_clear_90 (by decide) (fun c9 => ?_) (fun c9 => ?_)
            · have h := h.1 c9
              refine lv_iinc (v := (l3 + 1)) (lv' := [(3, .int (l3 + 1)), (5, .int r62), (4, .int r55), (0, .ref (G.2.1 28)), (1, .int l1), (2, .int l2)]) hx hb dX9_clear_246 hl (k := 5) rfl rfl (by decide) rfl (fun ls hl => ?_)
              refine lv_goto (tgt := 45) hx hb dX9_clear_249 (by decide) ?_
              exact ih _ _ _ _ _ _ _ h hh (lv_sub hl [3, 4, 5, 0] rfl)
            · have h := h.2 c9
              refine lv_iload hx hb dX9_clear_93 (lv_at hl 1 rfl) ?_
              refine lv_iconst (v := (2 : Int32)) hx hb dX9_clear_95 (by decide) ?_
              refine lv_icmp_ne (tgt := 103) hx hb dX9_clear_96 (by decide) (fun c9 => ?_) (fun c9 => ?_)
              · have h := h.1 c9
                refine lv_iload_n hx hb dX9_clear_103 rfl (lv_at hl 4 rfl) ?_
                exact q_iret E hh hr hlocks h dX9_clear_104
              · have h := h.2 c9
                refine lv_iload_n hx hb dX9_clear_99 rfl (lv_at hl 3 rfl) ?_
                refine lv_goto (tgt := 104) hx hb dX9_clear_100 (by decide) ?_
                exact q_iret E hh hr hlocks h dX9_clear_104
def f_X9_clear_22 (Q : Int32 → St → Prop)  (σ : St) (l1 : Int32) (l2 : Int32) : Prop :=
  f_X9_bad σ (1 : Int32) (1 : Int32) (fun r28 s28 => ((r28 = 0 → ((¬ l1 = l2 → f_X9_clear_45L Q FU s28 l1 l2 (0 : Int32)) ∧ (l1 = l2 → Q (-1 : Int32) s28))) ∧ (¬ r28 = 0 → Q (0 : Int32) s28)))
set_option maxHeartbeats 4000000 in
set_option maxRecDepth 100000 in
theorem w_X9_clear_22 {p : Program} {l : Launch} {e : Env} {s : State} {m : MethodId} {args : Array Value} {below : List Frame} {meth : Method} {c : Code} {G : GG} (E : EV p s m args c cX9_clear 6 wsX9_clear RX9 G (AD G s.heap.size)) (hr : meth.sig.returnType = (some .int)) (hlocks : meth.locks = false) {Q : Int32 → St → Prop}  : ∀ (σ : St) (l1 : Int32) (l2 : Int32) (H : Heap) (locs : List Loc) (ls : Array Slot), f_X9_clear_22 Q  σ l1 l2 → HH G (AD G s.heap.size) s σ H locs → lv_has ls 6 [(0, .ref (G.2.1 28)), (1, .int l1), (2, .int l2)] → W p l e ({ frames := 2, cells := 0, slots := 0, locals := 42 }) s m args below meth c H locs 0 0 (MQi below G args s Q) (F0 m 22 ls [.ref (G.2.1 28)]) := by
  have hx := E.1.1
  have hb := E.1.2.1
  have hown := E.1.2.2.2.1
  have hts := E.1.2.2.2.2
  have h_inX9 : ∀ w ∈ wsX90, w ∈ wsX9_clear := (fun _ h9 => (List.mem_cons_of_mem _ (List.mem_append_right _ h9)))
  intro σ l1 l2 H locs ls h hh hl
  unfold f_X9_clear_22 at h
  refine lv_iconst (v := (1 : Int32)) hx hb dX9_clear_22 (by decide) ?_
  refine lv_goto (tgt := 27) hx hb dX9_clear_23 (by decide) ?_
  refine lv_iconst (v := (1 : Int32)) hx hb dX9_clear_27 (by decide) ?_
  refine q_Vi (As := [.int (1 : Int32), .int (1 : Int32)]) (rest := []) E hh (c_X9_bad l G _ _ _ _ _ h) (cwV 2 hts gX9_clear_X9_bad rfl rfl rfl (by decide +kernel) ⟨Nat.le_of_ble_eq_true rfl, Nat.le_of_ble_eq_true rfl⟩) (va_recv (ci := 9) E.2.1 hh.1 rfl (WW_at_28 G σ)) rfl hl.1 rfl (Nat.le_of_ble_eq_true rfl) dX9_clear_28 ⟨Nat.zero_le _, Nat.zero_le _⟩ (fun r28 s28 H locs h hh => ?_)
  refine lv_if_eq (tgt := 36) hx hb dX9_clear_31 (by decide) (fun c9 => ?_) (fun c9 => ?_)
  · have h := h.1 c9
    refine lv_iload_n hx hb dX9_clear_36 rfl (lv_at hl 1 rfl) ?_
    refine lv_iload_n hx hb dX9_clear_37 rfl (lv_at hl 2 rfl) ?_
    refine lv_icmp_ne (tgt := 43) hx hb dX9_clear_38 (by decide) (fun c9 => ?_) (fun c9 => ?_)
    · have h := h.1 c9
      refine lv_iconst (v := (0 : Int32)) hx hb dX9_clear_43 (by decide) ?_
      refine lv_istore_n (lv' := [(3, .int (0 : Int32)), (0, .ref (G.2.1 28)), (1, .int l1), (2, .int l2)]) hx hb dX9_clear_44 rfl hl (by decide) rfl (fun ls hl => ?_)
      exact w_X9_clear_45 E hr hlocks  FU _ _ _ _ _ _ _ h hh (lv_sub hl [1, 2, 3, 0] rfl)
    · have h := h.2 c9
      refine lv_iconst (v := (-1 : Int32)) hx hb dX9_clear_41 (by decide) ?_
      exact q_iret E hh hr hlocks h dX9_clear_42
  · have h := h.2 c9
    refine lv_iconst (v := (0 : Int32)) hx hb dX9_clear_34 (by decide) ?_
    exact q_iret E hh hr hlocks h dX9_clear_35
def f_X9_clear (σ : St) (p1 : Int32) (p2 : Int32) (Q : Int32 → St → Prop) : Prop :=
  f_X9_isBoat (si σ 23 (0 : Int32)) p1 (fun r8 s8 => ((r8 = 0 → f_X9_clear_22 Q s8 p1 p2) ∧ (¬ r8 = 0 → f_X9_isBoat s8 p2 (fun r16 s16 => ((¬ r16 = 0 → f_X9_bad s16 (0 : Int32) (1 : Int32) (fun r28 s28 => ((r28 = 0 → ((¬ p1 = p2 → f_X9_clear_45L Q FU s28 p1 p2 (0 : Int32)) ∧ (p1 = p2 → Q (-1 : Int32) s28))) ∧ (¬ r28 = 0 → Q (0 : Int32) s28)))) ∧ (r16 = 0 → f_X9_clear_22 Q s16 p1 p2))))))
set_option maxHeartbeats 4000000 in
set_option maxRecDepth 100000 in
theorem c_X9_clear (l : Launch) (G : GG) (σ : St) (sz : Nat) (p1 : Int32) (p2 : Int32) (Q : Int32 → St → Prop) (h : f_X9_clear σ p1 p2 Q) : CTi l yX9_clear wsX9_clear ({ frames := 2, cells := 0, slots := 0, locals := 42 }) [.ref (G.2.1 28), .int p1, .int p2] G σ sz Q := by
  refine Met.ofW (cc := cX9_clear) (maxL := 6) (ret := (some .int)) (by decide) rfl ?_
  intro p e s m args below meth c s₁ B hml hv
  obtain ⟨rfl, hpre⟩ := hv
  have hr := B.returns
  have hlocks := B.notSynchronized
  obtain ⟨hsz, -⟩ := id hpre
  subst hsz
  obtain ⟨E, hh⟩ := EV.ofPre (⟨B.exec, B.bytes, hml, findClass_of_methodNamed B.named, atoms_spec (ws := wsX9_clear) B.pre⟩ : CallFix p m c cX9_clear 6 s _ wsX9_clear RX9) hpre
  have hx := E.1.1
  have hb := E.1.2.1
  have hown := E.1.2.2.2.1
  have hts := E.1.2.2.2.2
  have h_inX9 : ∀ w ∈ wsX90, w ∈ wsX9_clear := (fun _ h9 => (List.mem_cons_of_mem _ (List.mem_append_right _ h9)))
  have hl := lv_entry ([.ref (G.2.1 28), .int p1, .int p2]) (n := 6) (Nat.le_of_ble_eq_true rfl)
  rw [lg_entry_eq]
  generalize (lg_sl ([.ref (G.2.1 28), .int p1, .int p2]) ++ List.replicate (6 - (lg_sl ([.ref (G.2.1 28), .int p1, .int p2])).length) Slot.unset).toArray = ls at hl ⊢
  have hl : lv_has ls 6 [(0, .ref (G.2.1 28)), (1, .int p1), (2, .int p2)] := hl
  unfold f_X9_clear at h
  refine lv_aload_n hx hb dX9_clear_0 rfl (lv_at hl 0 rfl) ?_
  refine lv_iconst (v := (0 : Int32)) hx hb dX9_clear_1 (by decide) ?_
  refine q_put (T := TX9) E hh h_inX9 tyX9 tyX9_ok nmX9 28 (WW_at_28 G σ) rfl 0 (by decide) (List.mem_cons_of_mem _ (List.mem_append_left _ (List.mem_append_left _ (List.mem_of_getElem? (i := 0) rfl)))) rfl rfl (by decide +kernel) (Nat.le_of_ble_eq_true rfl) dX9_clear_2 (WW_si_23 G σ (0 : Int32)) (fun H locs hh => ?_)
  refine lv_aload_n hx hb dX9_clear_5 rfl (lv_at hl 0 rfl) ?_
  refine lv_aload_n hx hb dX9_clear_6 rfl (lv_at hl 0 rfl) ?_
  refine lv_iload_n hx hb dX9_clear_7 rfl (lv_at hl 1 rfl) ?_
  refine q_Vi (As := [.int p1]) (rest := [.ref (G.2.1 28)]) E hh (c_X9_isBoat l G _ _ _ _ h) (cwV 1 hts gX9_clear_X9_isBoat rfl rfl rfl (by decide +kernel) ⟨Nat.le_of_ble_eq_true rfl, Nat.le_of_ble_eq_true rfl⟩) (va_recv (ci := 9) E.2.1 hh.1 rfl (WW_at_28 G (si σ 23 (0 : Int32)))) rfl hl.1 rfl (Nat.le_of_ble_eq_true rfl) dX9_clear_8 ⟨Nat.zero_le _, Nat.zero_le _⟩ (fun r8 s8 H locs h hh => ?_)
  refine lv_if_eq (tgt := 22) hx hb dX9_clear_11 (by decide) (fun c9 => ?_) (fun c9 => ?_)
  · have h := h.1 c9
    exact w_X9_clear_22 E hr hlocks  _ _ _ _ _ _ h hh (lv_sub hl [0, 1, 2] rfl)
  · have h := h.2 c9
    refine lv_aload_n hx hb dX9_clear_14 rfl (lv_at hl 0 rfl) ?_
    refine lv_iload_n hx hb dX9_clear_15 rfl (lv_at hl 2 rfl) ?_
    refine q_Vi (As := [.int p2]) (rest := [.ref (G.2.1 28)]) E hh (c_X9_isBoat l G _ _ _ _ h) (cwV 1 hts gX9_clear_X9_isBoat rfl rfl rfl (by decide +kernel) ⟨Nat.le_of_ble_eq_true rfl, Nat.le_of_ble_eq_true rfl⟩) (va_recv (ci := 9) E.2.1 hh.1 rfl (WW_at_28 G s8)) rfl hl.1 rfl (Nat.le_of_ble_eq_true rfl) dX9_clear_16 ⟨Nat.zero_le _, Nat.zero_le _⟩ (fun r16 s16 H locs h hh => ?_)
    refine lv_if_ne (tgt := 26) hx hb dX9_clear_19 (by decide) (fun c9 => ?_) (fun c9 => ?_)
    · have h := h.1 c9
      refine lv_iconst (v := (0 : Int32)) hx hb dX9_clear_26 (by decide) ?_
      refine lv_iconst (v := (1 : Int32)) hx hb dX9_clear_27 (by decide) ?_
      refine q_Vi (As := [.int (0 : Int32), .int (1 : Int32)]) (rest := []) E hh (c_X9_bad l G _ _ _ _ _ h) (cwV 2 hts gX9_clear_X9_bad rfl rfl rfl (by decide +kernel) ⟨Nat.le_of_ble_eq_true rfl, Nat.le_of_ble_eq_true rfl⟩) (va_recv (ci := 9) E.2.1 hh.1 rfl (WW_at_28 G s16)) rfl hl.1 rfl (Nat.le_of_ble_eq_true rfl) dX9_clear_28 ⟨Nat.zero_le _, Nat.zero_le _⟩ (fun r28 s28 H locs h hh => ?_)
      refine lv_if_eq (tgt := 36) hx hb dX9_clear_31 (by decide) (fun c9 => ?_) (fun c9 => ?_)
      · have h := h.1 c9
        refine lv_iload_n hx hb dX9_clear_36 rfl (lv_at hl 1 rfl) ?_
        refine lv_iload_n hx hb dX9_clear_37 rfl (lv_at hl 2 rfl) ?_
        refine lv_icmp_ne (tgt := 43) hx hb dX9_clear_38 (by decide) (fun c9 => ?_) (fun c9 => ?_)
        · have h := h.1 c9
          refine lv_iconst (v := (0 : Int32)) hx hb dX9_clear_43 (by decide) ?_
          refine lv_istore_n (lv' := [(3, .int (0 : Int32)), (0, .ref (G.2.1 28)), (1, .int p1), (2, .int p2)]) hx hb dX9_clear_44 rfl hl (by decide) rfl (fun ls hl => ?_)
          exact w_X9_clear_45 E hr hlocks  FU _ _ _ _ _ _ _ h hh (lv_sub hl [1, 2, 3, 0] rfl)
        · have h := h.2 c9
          refine lv_iconst (v := (-1 : Int32)) hx hb dX9_clear_41 (by decide) ?_
          exact q_iret E hh hr hlocks h dX9_clear_42
      · have h := h.2 c9
        refine lv_iconst (v := (0 : Int32)) hx hb dX9_clear_34 (by decide) ?_
        exact q_iret E hh hr hlocks h dX9_clear_35
    · have h := h.2 c9
      exact w_X9_clear_22 E hr hlocks  _ _ _ _ _ _ h hh (lv_sub hl [0, 1, 2] rfl)
def f_X9_finish_19 (Q : Int32 → St → Prop)  (σ : St) (l1 : Int32) (t1 : Int32) : Prop :=
  f_X9_bad σ t1 (1 : Int32) (fun r20 s20 => ((r20 = 0 → (vp_in l1 16 ∧ (((ga s20 40 l1.toNatClampNeg) ≤ 0 → ((¬ (gi s20 42) = (20 : Int32) → (vp_in l1 16 ∧ Q (gi (sa (si s20 43 ((gi s20 43) + (1 : Int32))) 40 (upd (ga (si s20 43 ((gi s20 43) + (1 : Int32))) 40) l1.toNatClampNeg (gi (si s20 43 ((gi s20 43) + (1 : Int32))) 43))) 43) (sa (si s20 43 ((gi s20 43) + (1 : Int32))) 40 (upd (ga (si s20 43 ((gi s20 43) + (1 : Int32))) 40) l1.toNatClampNeg (gi (si s20 43 ((gi s20 43) + (1 : Int32))) 43))))) ∧ ((gi s20 42) = (20 : Int32) → Q (-2 : Int32) s20))) ∧ (¬ (ga s20 40 l1.toNatClampNeg) ≤ 0 → Q (-1 : Int32) s20)))) ∧ (¬ r20 = 0 → Q (0 : Int32) s20)))
set_option maxHeartbeats 4000000 in
set_option maxRecDepth 100000 in
theorem w_X9_finish_19 {p : Program} {l : Launch} {e : Env} {s : State} {m : MethodId} {args : Array Value} {below : List Frame} {meth : Method} {c : Code} {G : GG} (E : EV p s m args c cX9_finish 2 wsX9_finish RX9 G (AD G s.heap.size)) (hr : meth.sig.returnType = (some .int)) (hlocks : meth.locks = false) {Q : Int32 → St → Prop}  : ∀ (σ : St) (l1 : Int32) (t1 : Int32) (H : Heap) (locs : List Loc) (ls : Array Slot), f_X9_finish_19 Q  σ l1 t1 → HH G (AD G s.heap.size) s σ H locs → lv_has ls 2 [(0, .ref (G.2.1 28)), (1, .int l1)] → W p l e ({ frames := 1, cells := 0, slots := 0, locals := 22 }) s m args below meth c H locs 0 0 (MQi below G args s Q) (F0 m 19 ls [.int t1, .ref (G.2.1 28)]) := by
  have hx := E.1.1
  have hb := E.1.2.1
  have hown := E.1.2.2.2.1
  have hts := E.1.2.2.2.2
  have h_inX9 : ∀ w ∈ wsX90, w ∈ wsX9_finish := (fun _ h9 => (List.mem_cons_of_mem _ (List.mem_append_right _ h9)))
  intro σ l1 t1 H locs ls h hh hl
  unfold f_X9_finish_19 at h
  refine lv_iconst (v := (1 : Int32)) hx hb dX9_finish_19 (by decide) ?_
  refine q_Vi (As := [.int t1, .int (1 : Int32)]) (rest := []) E hh (c_X9_bad l G _ _ _ _ _ h) (cwV 2 hts gX9_finish_X9_bad rfl rfl rfl (by decide +kernel) ⟨Nat.le_of_ble_eq_true rfl, Nat.le_of_ble_eq_true rfl⟩) (va_recv (ci := 9) E.2.1 hh.1 rfl (WW_at_28 G σ)) rfl hl.1 rfl (Nat.le_of_ble_eq_true rfl) dX9_finish_20 ⟨Nat.zero_le _, Nat.zero_le _⟩ (fun r20 s20 H locs h hh => ?_)
  refine lv_if_eq (tgt := 28) hx hb dX9_finish_23 (by decide) (fun c9 => ?_) (fun c9 => ?_)
  · have h := h.1 c9
    refine lv_aload_n hx hb dX9_finish_28 rfl (lv_at hl 0 rfl) ?_
    refine q_get (T := TX9) (v := .ref (G.2.1 40)) E hh h_inX9 28 (WW_at_28 G s20) rfl 32 (by decide) (List.mem_cons_of_mem _ (List.mem_append_left _ (List.mem_of_getElem? (i := 1) rfl))) rfl rfl dX9_finish_29 ?_
    refine lv_iload_n hx hb dX9_finish_32 rfl (lv_at hl 1 rfl) ?_
    obtain ⟨h0, h⟩ := h
    refine q_iald E hh 40 (WW_at_40 G s20) h0 dX9_finish_33 ?_
    refine lv_if_le (tgt := 39) hx hb dX9_finish_34 (by decide) (fun c9 => ?_) (fun c9 => ?_)
    · have h := h.1 c9
      refine lv_aload_n hx hb dX9_finish_39 rfl (lv_at hl 0 rfl) ?_
      refine q_get (T := TX9) (v := .int (gi s20 42)) E hh h_inX9 28 (WW_at_28 G s20) rfl 30 (by decide) (List.mem_cons_of_mem _ (List.mem_append_left _ (List.mem_of_getElem? (i := 2) rfl))) rfl rfl dX9_finish_40 ?_
      refine lv_bipush (v := (20 : Int32)) hx hb dX9_finish_43 (by decide) ?_
      refine lv_icmp_ne (tgt := 51) hx hb dX9_finish_45 (by decide) (fun c9 => ?_) (fun c9 => ?_)
      · have h := h.1 c9
        refine lv_aload_n hx hb dX9_finish_51 rfl (lv_at hl 0 rfl) ?_
        refine lv_dup hx hb dX9_finish_52 rfl ?_
        refine q_get (T := TX9) (v := .int (gi s20 43)) E hh h_inX9 28 (WW_at_28 G s20) rfl 31 (by decide) (List.mem_cons_of_mem _ (List.mem_append_left _ (List.mem_of_getElem? (i := 3) rfl))) rfl rfl dX9_finish_53 ?_
        refine lv_iconst (v := (1 : Int32)) hx hb dX9_finish_56 (by decide) ?_
        refine lv_iadd hx hb dX9_finish_57 ?_
        refine q_put (T := TX9) E hh h_inX9 tyX9 tyX9_ok nmX9 28 (WW_at_28 G s20) rfl 31 (by decide) (List.mem_cons_of_mem _ (List.mem_append_left _ (List.mem_of_getElem? (i := 3) rfl))) rfl rfl (by decide +kernel) (Nat.le_of_ble_eq_true rfl) dX9_finish_58 (WW_si_43 G s20 ((gi s20 43) + (1 : Int32))) (fun H locs hh => ?_)
        refine lv_aload_n hx hb dX9_finish_61 rfl (lv_at hl 0 rfl) ?_
        refine q_get (T := TX9) (v := .ref (G.2.1 40)) E hh h_inX9 28 (WW_at_28 G (si s20 43 ((gi s20 43) + (1 : Int32)))) rfl 32 (by decide) (List.mem_cons_of_mem _ (List.mem_append_left _ (List.mem_of_getElem? (i := 1) rfl))) rfl rfl dX9_finish_62 ?_
        refine lv_iload_n hx hb dX9_finish_65 rfl (lv_at hl 1 rfl) ?_
        refine lv_aload_n hx hb dX9_finish_66 rfl (lv_at hl 0 rfl) ?_
        refine q_get (T := TX9) (v := .int (gi (si s20 43 ((gi s20 43) + (1 : Int32))) 43)) E hh h_inX9 28 (WW_at_28 G (si s20 43 ((gi s20 43) + (1 : Int32)))) rfl 31 (by decide) (List.mem_cons_of_mem _ (List.mem_append_left _ (List.mem_of_getElem? (i := 3) rfl))) rfl rfl dX9_finish_67 ?_
        obtain ⟨h0, h⟩ := h
        refine q_iast E hh 40 (WW_at_40 G (si s20 43 ((gi s20 43) + (1 : Int32)))) h0 dX9_finish_70 (WW_sa_40 G (si s20 43 ((gi s20 43) + (1 : Int32))) (upd (ga (si s20 43 ((gi s20 43) + (1 : Int32))) 40) l1.toNatClampNeg (gi (si s20 43 ((gi s20 43) + (1 : Int32))) 43))) (fun H locs hh => ?_)
        refine lv_aload_n hx hb dX9_finish_71 rfl (lv_at hl 0 rfl) ?_
        refine q_get (T := TX9) (v := .int (gi (sa (si s20 43 ((gi s20 43) + (1 : Int32))) 40 (upd (ga (si s20 43 ((gi s20 43) + (1 : Int32))) 40) l1.toNatClampNeg (gi (si s20 43 ((gi s20 43) + (1 : Int32))) 43))) 43)) E hh h_inX9 28 (WW_at_28 G (sa (si s20 43 ((gi s20 43) + (1 : Int32))) 40 (upd (ga (si s20 43 ((gi s20 43) + (1 : Int32))) 40) l1.toNatClampNeg (gi (si s20 43 ((gi s20 43) + (1 : Int32))) 43)))) rfl 31 (by decide) (List.mem_cons_of_mem _ (List.mem_append_left _ (List.mem_of_getElem? (i := 3) rfl))) rfl rfl dX9_finish_72 ?_
        exact q_iret E hh hr hlocks h dX9_finish_75
      · have h := h.2 c9
        refine lv_bipush (v := (-2 : Int32)) hx hb dX9_finish_48 (by decide) ?_
        exact q_iret E hh hr hlocks h dX9_finish_50
    · have h := h.2 c9
      refine lv_iconst (v := (-1 : Int32)) hx hb dX9_finish_37 (by decide) ?_
      exact q_iret E hh hr hlocks h dX9_finish_38
  · have h := h.2 c9
    refine lv_iconst (v := (0 : Int32)) hx hb dX9_finish_26 (by decide) ?_
    exact q_iret E hh hr hlocks h dX9_finish_27
def f_X9_finish (σ : St) (p1 : Int32) (Q : Int32 → St → Prop) : Prop :=
  f_X9_isBoat (si σ 23 (0 : Int32)) p1 (fun r8 s8 => ((¬ r8 = 0 → f_X9_finish_19 Q s8 p1 (0 : Int32)) ∧ (r8 = 0 → f_X9_finish_19 Q s8 p1 (1 : Int32))))
set_option maxHeartbeats 4000000 in
set_option maxRecDepth 100000 in
theorem c_X9_finish (l : Launch) (G : GG) (σ : St) (sz : Nat) (p1 : Int32) (Q : Int32 → St → Prop) (h : f_X9_finish σ p1 Q) : CTi l yX9_finish wsX9_finish ({ frames := 1, cells := 0, slots := 0, locals := 22 }) [.ref (G.2.1 28), .int p1] G σ sz Q := by
  refine Met.ofW (cc := cX9_finish) (maxL := 2) (ret := (some .int)) (by decide) rfl ?_
  intro p e s m args below meth c s₁ B hml hv
  obtain ⟨rfl, hpre⟩ := hv
  have hr := B.returns
  have hlocks := B.notSynchronized
  obtain ⟨hsz, -⟩ := id hpre
  subst hsz
  obtain ⟨E, hh⟩ := EV.ofPre (⟨B.exec, B.bytes, hml, findClass_of_methodNamed B.named, atoms_spec (ws := wsX9_finish) B.pre⟩ : CallFix p m c cX9_finish 2 s _ wsX9_finish RX9) hpre
  have hx := E.1.1
  have hb := E.1.2.1
  have hown := E.1.2.2.2.1
  have hts := E.1.2.2.2.2
  have h_inX9 : ∀ w ∈ wsX90, w ∈ wsX9_finish := (fun _ h9 => (List.mem_cons_of_mem _ (List.mem_append_right _ h9)))
  have hl := lv_entry ([.ref (G.2.1 28), .int p1]) (n := 2) (Nat.le_of_ble_eq_true rfl)
  rw [lg_entry_eq]
  generalize (lg_sl ([.ref (G.2.1 28), .int p1]) ++ List.replicate (2 - (lg_sl ([.ref (G.2.1 28), .int p1])).length) Slot.unset).toArray = ls at hl ⊢
  have hl : lv_has ls 2 [(0, .ref (G.2.1 28)), (1, .int p1)] := hl
  unfold f_X9_finish at h
  refine lv_aload_n hx hb dX9_finish_0 rfl (lv_at hl 0 rfl) ?_
  refine lv_iconst (v := (0 : Int32)) hx hb dX9_finish_1 (by decide) ?_
  refine q_put (T := TX9) E hh h_inX9 tyX9 tyX9_ok nmX9 28 (WW_at_28 G σ) rfl 0 (by decide) (List.mem_cons_of_mem _ (List.mem_append_left _ (List.mem_of_getElem? (i := 0) rfl))) rfl rfl (by decide +kernel) (Nat.le_of_ble_eq_true rfl) dX9_finish_2 (WW_si_23 G σ (0 : Int32)) (fun H locs hh => ?_)
  refine lv_aload_n hx hb dX9_finish_5 rfl (lv_at hl 0 rfl) ?_
  refine lv_aload_n hx hb dX9_finish_6 rfl (lv_at hl 0 rfl) ?_
  refine lv_iload_n hx hb dX9_finish_7 rfl (lv_at hl 1 rfl) ?_
  refine q_Vi (As := [.int p1]) (rest := [.ref (G.2.1 28)]) E hh (c_X9_isBoat l G _ _ _ _ h) (cwV 1 hts gX9_finish_X9_isBoat rfl rfl rfl (by decide +kernel) ⟨Nat.le_of_ble_eq_true rfl, Nat.le_of_ble_eq_true rfl⟩) (va_recv (ci := 9) E.2.1 hh.1 rfl (WW_at_28 G (si σ 23 (0 : Int32)))) rfl hl.1 rfl (Nat.le_of_ble_eq_true rfl) dX9_finish_8 ⟨Nat.zero_le _, Nat.zero_le _⟩ (fun r8 s8 H locs h hh => ?_)
  refine lv_if_ne (tgt := 18) hx hb dX9_finish_11 (by decide) (fun c9 => ?_) (fun c9 => ?_)
  · have h := h.1 c9
    refine lv_iconst (v := (0 : Int32)) hx hb dX9_finish_18 (by decide) ?_
    exact w_X9_finish_19 E hr hlocks  _ _ _ _ _ _ h hh (lv_sub hl [0, 1] rfl)
  · have h := h.2 c9
    refine lv_iconst (v := (1 : Int32)) hx hb dX9_finish_14 (by decide) ?_
    refine lv_goto (tgt := 19) hx hb dX9_finish_15 (by decide) ?_
    exact w_X9_finish_19 E hr hlocks  _ _ _ _ _ _ h hh (lv_sub hl [0, 1] rfl)
def f_X9_end_25 (Q : Int32 → St → Prop)  (rec : St → Int32 → Prop) (σ : St) (l1 : Int32) : Prop :=
  (((gi σ 41) ≤ l1 → (vp_in (gi σ 42) 20 ∧ Q ((gi (si (si (sa σ 39 (upd (ga σ 39) (gi σ 42).toNatClampNeg (gi σ 41))) 43 (0 : Int32)) 42 ((gi (si (sa σ 39 (upd (ga σ 39) (gi σ 42).toNatClampNeg (gi σ 41))) 43 (0 : Int32)) 42) + (1 : Int32))) 42) - (1 : Int32)) (si (si (sa σ 39 (upd (ga σ 39) (gi σ 42).toNatClampNeg (gi σ 41))) 43 (0 : Int32)) 42 ((gi (si (sa σ 39 (upd (ga σ 39) (gi σ 42).toNatClampNeg (gi σ 41))) 43 (0 : Int32)) 42) + (1 : Int32))))) ∧ (¬ (gi σ 41) ≤ l1 → (vp_in l1 16 ∧ (((ga σ 40 l1.toNatClampNeg) ≤ 0 → (vp_in (((16 : Int32) * (gi σ 42)) + l1) 320 ∧ (vp_in l1 16 ∧ rec (sa (sa σ 38 (upd (ga σ 38) (((16 : Int32) * (gi σ 42)) + l1).toNatClampNeg ((gi σ 41) + (1 : Int32)))) 40 (upd (ga (sa σ 38 (upd (ga σ 38) (((16 : Int32) * (gi σ 42)) + l1).toNatClampNeg ((gi σ 41) + (1 : Int32)))) 40) l1.toNatClampNeg (0 : Int32))) (l1 + 1)))) ∧ (¬ (ga σ 40 l1.toNatClampNeg) ≤ 0 → (vp_in l1 16 ∧ (vp_in (((16 : Int32) * (gi σ 42)) + l1) 320 ∧ (vp_in l1 16 ∧ rec (sa (sa σ 38 (upd (ga σ 38) (((16 : Int32) * (gi σ 42)) + l1).toNatClampNeg (ga σ 40 l1.toNatClampNeg))) 40 (upd (ga (sa σ 38 (upd (ga σ 38) (((16 : Int32) * (gi σ 42)) + l1).toNatClampNeg (ga σ 40 l1.toNatClampNeg))) 40) l1.toNatClampNeg (0 : Int32))) (l1 + 1)))))))))
def f_X9_end_25L (Q : Int32 → St → Prop)  : Nat → St → Int32 → Prop
  | 0, _, _ => False
  | n + 1, σ, l1 => f_X9_end_25 Q  (f_X9_end_25L Q  n) σ l1
set_option maxHeartbeats 4000000 in
set_option maxRecDepth 100000 in
theorem w_X9_end_25 {p : Program} {l : Launch} {e : Env} {s : State} {m : MethodId} {args : Array Value} {below : List Frame} {meth : Method} {c : Code} {G : GG} (E : EV p s m args c cX9_end 2 wsX9_end RX9 G (AD G s.heap.size)) (hr : meth.sig.returnType = (some .int)) (hlocks : meth.locks = false) {Q : Int32 → St → Prop}  : ∀ (n : Nat) (σ : St) (l1 : Int32) (H : Heap) (locs : List Loc) (ls : Array Slot), f_X9_end_25L Q  n σ l1 → HH G (AD G s.heap.size) s σ H locs → lv_has ls 2 [(0, .ref (G.2.1 28)), (1, .int l1)] → W p l e ({ frames := 0, cells := 0, slots := 0, locals := 0 }) s m args below meth c H locs 0 0 (MQi below G args s Q) (F0 m 25 ls []) := by
  have hx := E.1.1
  have hb := E.1.2.1
  have hown := E.1.2.2.2.1
  have hts := E.1.2.2.2.2
  have h_inX9 : ∀ w ∈ wsX90, w ∈ wsX9_end := (fun _ h9 => (List.mem_cons_of_mem _ (List.mem_append_right _ h9)))
  intro n
  induction n with
  | zero =>
    intro σ l1 H locs ls h
    exact h.elim
  | succ n ih =>
    intro σ l1 H locs ls h hh hl
    have h : f_X9_end_25 Q  (f_X9_end_25L Q  n) σ l1 := h
    unfold f_X9_end_25 at h
    refine lv_iload_n hx hb dX9_end_25 rfl (lv_at hl 1 rfl) ?_
    refine lv_aload_n hx hb dX9_end_26 rfl (lv_at hl 0 rfl) ?_
    refine q_get (T := TX9) (v := .int (gi σ 41)) E hh h_inX9 28 (WW_at_28 G σ) rfl 27 (by decide) (List.mem_cons_of_mem _ (List.mem_append_left _ (List.mem_of_getElem? (i := 2) rfl))) rfl rfl dX9_end_27 ?_
    refine lv_icmp_ge (tgt := 84) hx hb dX9_end_30 (by decide) (fun c9 => ?_) (fun c9 => ?_)
    · have h := h.1 c9
      refine lv_aload_n hx hb dX9_end_84 rfl (lv_at hl 0 rfl) ?_
      refine q_get (T := TX9) (v := .ref (G.2.1 39)) E hh h_inX9 28 (WW_at_28 G σ) rfl 29 (by decide) (List.mem_cons_of_mem _ (List.mem_append_left _ (List.mem_of_getElem? (i := 5) rfl))) rfl rfl dX9_end_85 ?_
      refine lv_aload_n hx hb dX9_end_88 rfl (lv_at hl 0 rfl) ?_
      refine q_get (T := TX9) (v := .int (gi σ 42)) E hh h_inX9 28 (WW_at_28 G σ) rfl 30 (by decide) (List.mem_cons_of_mem _ (List.mem_append_left _ (List.mem_of_getElem? (i := 1) rfl))) rfl rfl dX9_end_89 ?_
      refine lv_aload_n hx hb dX9_end_92 rfl (lv_at hl 0 rfl) ?_
      refine q_get (T := TX9) (v := .int (gi σ 41)) E hh h_inX9 28 (WW_at_28 G σ) rfl 27 (by decide) (List.mem_cons_of_mem _ (List.mem_append_left _ (List.mem_of_getElem? (i := 2) rfl))) rfl rfl dX9_end_93 ?_
      obtain ⟨h0, h⟩ := h
      refine q_iast E hh 39 (WW_at_39 G σ) h0 dX9_end_96 (WW_sa_39 G σ (upd (ga σ 39) (gi σ 42).toNatClampNeg (gi σ 41))) (fun H locs hh => ?_)
      refine lv_aload_n hx hb dX9_end_97 rfl (lv_at hl 0 rfl) ?_
      refine lv_iconst (v := (0 : Int32)) hx hb dX9_end_98 (by decide) ?_
      refine q_put (T := TX9) E hh h_inX9 tyX9 tyX9_ok nmX9 28 (WW_at_28 G (sa σ 39 (upd (ga σ 39) (gi σ 42).toNatClampNeg (gi σ 41)))) rfl 31 (by decide) (List.mem_cons_of_mem _ (List.mem_append_left _ (List.mem_of_getElem? (i := 6) rfl))) rfl rfl (by decide +kernel) (Nat.le_of_ble_eq_true rfl) dX9_end_99 (WW_si_43 G (sa σ 39 (upd (ga σ 39) (gi σ 42).toNatClampNeg (gi σ 41))) (0 : Int32)) (fun H locs hh => ?_)
      refine lv_aload_n hx hb dX9_end_102 rfl (lv_at hl 0 rfl) ?_
      refine lv_dup hx hb dX9_end_103 rfl ?_
      refine q_get (T := TX9) (v := .int (gi (si (sa σ 39 (upd (ga σ 39) (gi σ 42).toNatClampNeg (gi σ 41))) 43 (0 : Int32)) 42)) E hh h_inX9 28 (WW_at_28 G (si (sa σ 39 (upd (ga σ 39) (gi σ 42).toNatClampNeg (gi σ 41))) 43 (0 : Int32))) rfl 30 (by decide) (List.mem_cons_of_mem _ (List.mem_append_left _ (List.mem_of_getElem? (i := 1) rfl))) rfl rfl dX9_end_104 ?_
      refine lv_iconst (v := (1 : Int32)) hx hb dX9_end_107 (by decide) ?_
      refine lv_iadd hx hb dX9_end_108 ?_
      refine q_put (T := TX9) E hh h_inX9 tyX9 tyX9_ok nmX9 28 (WW_at_28 G (si (sa σ 39 (upd (ga σ 39) (gi σ 42).toNatClampNeg (gi σ 41))) 43 (0 : Int32))) rfl 30 (by decide) (List.mem_cons_of_mem _ (List.mem_append_left _ (List.mem_of_getElem? (i := 1) rfl))) rfl rfl (by decide +kernel) (Nat.le_of_ble_eq_true rfl) dX9_end_109 (WW_si_42 G (si (sa σ 39 (upd (ga σ 39) (gi σ 42).toNatClampNeg (gi σ 41))) 43 (0 : Int32)) ((gi (si (sa σ 39 (upd (ga σ 39) (gi σ 42).toNatClampNeg (gi σ 41))) 43 (0 : Int32)) 42) + (1 : Int32))) (fun H locs hh => ?_)
      refine lv_aload_n hx hb dX9_end_112 rfl (lv_at hl 0 rfl) ?_
      refine q_get (T := TX9) (v := .int (gi (si (si (sa σ 39 (upd (ga σ 39) (gi σ 42).toNatClampNeg (gi σ 41))) 43 (0 : Int32)) 42 ((gi (si (sa σ 39 (upd (ga σ 39) (gi σ 42).toNatClampNeg (gi σ 41))) 43 (0 : Int32)) 42) + (1 : Int32))) 42)) E hh h_inX9 28 (WW_at_28 G (si (si (sa σ 39 (upd (ga σ 39) (gi σ 42).toNatClampNeg (gi σ 41))) 43 (0 : Int32)) 42 ((gi (si (sa σ 39 (upd (ga σ 39) (gi σ 42).toNatClampNeg (gi σ 41))) 43 (0 : Int32)) 42) + (1 : Int32)))) rfl 30 (by decide) (List.mem_cons_of_mem _ (List.mem_append_left _ (List.mem_of_getElem? (i := 1) rfl))) rfl rfl dX9_end_113 ?_
      refine lv_iconst (v := (1 : Int32)) hx hb dX9_end_116 (by decide) ?_
      refine lv_isub hx hb dX9_end_117 ?_
      exact q_iret E hh hr hlocks h dX9_end_118
    · have h := h.2 c9
      refine lv_aload_n hx hb dX9_end_33 rfl (lv_at hl 0 rfl) ?_
      refine q_get (T := TX9) (v := .ref (G.2.1 38)) E hh h_inX9 28 (WW_at_28 G σ) rfl 28 (by decide) (List.mem_cons_of_mem _ (List.mem_append_left _ (List.mem_of_getElem? (i := 3) rfl))) rfl rfl dX9_end_34 ?_
      refine lv_bipush (v := (16 : Int32)) hx hb dX9_end_37 (by decide) ?_
      refine lv_aload_n hx hb dX9_end_39 rfl (lv_at hl 0 rfl) ?_
      refine q_get (T := TX9) (v := .int (gi σ 42)) E hh h_inX9 28 (WW_at_28 G σ) rfl 30 (by decide) (List.mem_cons_of_mem _ (List.mem_append_left _ (List.mem_of_getElem? (i := 1) rfl))) rfl rfl dX9_end_40 ?_
      refine lv_imul hx hb dX9_end_43 ?_
      refine lv_iload_n hx hb dX9_end_44 rfl (lv_at hl 1 rfl) ?_
      refine lv_iadd hx hb dX9_end_45 ?_
      refine lv_aload_n hx hb dX9_end_46 rfl (lv_at hl 0 rfl) ?_
      refine q_get (T := TX9) (v := .ref (G.2.1 40)) E hh h_inX9 28 (WW_at_28 G σ) rfl 32 (by decide) (List.mem_cons_of_mem _ (List.mem_append_left _ (List.mem_of_getElem? (i := 4) rfl))) rfl rfl dX9_end_47 ?_
      refine lv_iload_n hx hb dX9_end_50 rfl (lv_at hl 1 rfl) ?_
      obtain ⟨h0, h⟩ := h
      refine q_iald E hh 40 (WW_at_40 G σ) h0 dX9_end_51 ?_
      refine lv_if_le (tgt := 64) hx hb dX9_end_52 (by decide) (fun c9 => ?_) (fun c9 => ?_)
      · have h := h.1 c9
        refine lv_aload_n hx hb dX9_end_64 rfl (lv_at hl 0 rfl) ?_
        refine q_get (T := TX9) (v := .int (gi σ 41)) E hh h_inX9 28 (WW_at_28 G σ) rfl 27 (by decide) (List.mem_cons_of_mem _ (List.mem_append_left _ (List.mem_of_getElem? (i := 2) rfl))) rfl rfl dX9_end_65 ?_
        refine lv_iconst (v := (1 : Int32)) hx hb dX9_end_68 (by decide) ?_
        refine lv_iadd hx hb dX9_end_69 ?_
        obtain ⟨h0, h⟩ := h
        refine q_iast E hh 38 (WW_at_38 G σ) h0 dX9_end_70 (WW_sa_38 G σ (upd (ga σ 38) (((16 : Int32) * (gi σ 42)) + l1).toNatClampNeg ((gi σ 41) + (1 : Int32)))) (fun H locs hh => ?_)
        refine lv_aload_n hx hb dX9_end_71 rfl (lv_at hl 0 rfl) ?_
        refine q_get (T := TX9) (v := .ref (G.2.1 40)) E hh h_inX9 28 (WW_at_28 G (sa σ 38 (upd (ga σ 38) (((16 : Int32) * (gi σ 42)) + l1).toNatClampNeg ((gi σ 41) + (1 : Int32))))) rfl 32 (by decide) (List.mem_cons_of_mem _ (List.mem_append_left _ (List.mem_of_getElem? (i := 4) rfl))) rfl rfl dX9_end_72 ?_
        refine lv_iload_n hx hb dX9_end_75 rfl (lv_at hl 1 rfl) ?_
        refine lv_iconst (v := (0 : Int32)) hx hb dX9_end_76 (by decide) ?_
        obtain ⟨h0, h⟩ := h
        refine q_iast E hh 40 (WW_at_40 G (sa σ 38 (upd (ga σ 38) (((16 : Int32) * (gi σ 42)) + l1).toNatClampNeg ((gi σ 41) + (1 : Int32))))) h0 dX9_end_77 (WW_sa_40 G (sa σ 38 (upd (ga σ 38) (((16 : Int32) * (gi σ 42)) + l1).toNatClampNeg ((gi σ 41) + (1 : Int32)))) (upd (ga (sa σ 38 (upd (ga σ 38) (((16 : Int32) * (gi σ 42)) + l1).toNatClampNeg ((gi σ 41) + (1 : Int32)))) 40) l1.toNatClampNeg (0 : Int32))) (fun H locs hh => ?_)
        refine lv_iinc (v := (l1 + 1)) (lv' := [(1, .int (l1 + 1)), (0, .ref (G.2.1 28))]) hx hb dX9_end_78 hl (k := 1) rfl rfl (by decide) rfl (fun ls hl => ?_)
        refine lv_goto (tgt := 25) hx hb dX9_end_81 (by decide) ?_
        exact ih _ _ _ _ _ h hh (lv_sub hl [1, 0] rfl)
      · have h := h.2 c9
        refine lv_aload_n hx hb dX9_end_55 rfl (lv_at hl 0 rfl) ?_
        refine q_get (T := TX9) (v := .ref (G.2.1 40)) E hh h_inX9 28 (WW_at_28 G σ) rfl 32 (by decide) (List.mem_cons_of_mem _ (List.mem_append_left _ (List.mem_of_getElem? (i := 4) rfl))) rfl rfl dX9_end_56 ?_
        refine lv_iload_n hx hb dX9_end_59 rfl (lv_at hl 1 rfl) ?_
        obtain ⟨h0, h⟩ := h
        refine q_iald E hh 40 (WW_at_40 G σ) h0 dX9_end_60 ?_
        refine lv_goto (tgt := 70) hx hb dX9_end_61 (by decide) ?_
        obtain ⟨h0, h⟩ := h
        refine q_iast E hh 38 (WW_at_38 G σ) h0 dX9_end_70 (WW_sa_38 G σ (upd (ga σ 38) (((16 : Int32) * (gi σ 42)) + l1).toNatClampNeg (ga σ 40 l1.toNatClampNeg))) (fun H locs hh => ?_)
        refine lv_aload_n hx hb dX9_end_71 rfl (lv_at hl 0 rfl) ?_
        refine q_get (T := TX9) (v := .ref (G.2.1 40)) E hh h_inX9 28 (WW_at_28 G (sa σ 38 (upd (ga σ 38) (((16 : Int32) * (gi σ 42)) + l1).toNatClampNeg (ga σ 40 l1.toNatClampNeg)))) rfl 32 (by decide) (List.mem_cons_of_mem _ (List.mem_append_left _ (List.mem_of_getElem? (i := 4) rfl))) rfl rfl dX9_end_72 ?_
        refine lv_iload_n hx hb dX9_end_75 rfl (lv_at hl 1 rfl) ?_
        refine lv_iconst (v := (0 : Int32)) hx hb dX9_end_76 (by decide) ?_
        obtain ⟨h0, h⟩ := h
        refine q_iast E hh 40 (WW_at_40 G (sa σ 38 (upd (ga σ 38) (((16 : Int32) * (gi σ 42)) + l1).toNatClampNeg (ga σ 40 l1.toNatClampNeg)))) h0 dX9_end_77 (WW_sa_40 G (sa σ 38 (upd (ga σ 38) (((16 : Int32) * (gi σ 42)) + l1).toNatClampNeg (ga σ 40 l1.toNatClampNeg))) (upd (ga (sa σ 38 (upd (ga σ 38) (((16 : Int32) * (gi σ 42)) + l1).toNatClampNeg (ga σ 40 l1.toNatClampNeg))) 40) l1.toNatClampNeg (0 : Int32))) (fun H locs hh => ?_)
        refine lv_iinc (v := (l1 + 1)) (lv' := [(1, .int (l1 + 1)), (0, .ref (G.2.1 28))]) hx hb dX9_end_78 hl (k := 1) rfl rfl (by decide) rfl (fun ls hl => ?_)
        refine lv_goto (tgt := 25) hx hb dX9_end_81 (by decide) ?_
        exact ih _ _ _ _ _ h hh (lv_sub hl [1, 0] rfl)
def f_X9_end (σ : St)  (Q : Int32 → St → Prop) : Prop :=
  (((gi (si σ 23 (0 : Int32)) 42) = (20 : Int32) → Q (-1 : Int32) (si σ 23 (0 : Int32))) ∧ (¬ (gi (si σ 23 (0 : Int32)) 42) = (20 : Int32) → ((¬ (gi (si σ 23 (0 : Int32)) 41) = 0 → f_X9_end_25L Q FU (si σ 23 (0 : Int32)) (0 : Int32)) ∧ ((gi (si σ 23 (0 : Int32)) 41) = 0 → Q (-1 : Int32) (si σ 23 (0 : Int32))))))
set_option maxHeartbeats 4000000 in
set_option maxRecDepth 100000 in
theorem c_X9_end (l : Launch) (G : GG) (σ : St) (sz : Nat)  (Q : Int32 → St → Prop) (h : f_X9_end σ  Q) : CTi l yX9_end wsX9_end ({ frames := 0, cells := 0, slots := 0, locals := 0 }) [.ref (G.2.1 28)] G σ sz Q := by
  refine Met.ofW (cc := cX9_end) (maxL := 2) (ret := (some .int)) (by decide) rfl ?_
  intro p e s m args below meth c s₁ B hml hv
  obtain ⟨rfl, hpre⟩ := hv
  have hr := B.returns
  have hlocks := B.notSynchronized
  obtain ⟨hsz, -⟩ := id hpre
  subst hsz
  obtain ⟨E, hh⟩ := EV.ofPre (⟨B.exec, B.bytes, hml, findClass_of_methodNamed B.named, atoms_spec (ws := wsX9_end) B.pre⟩ : CallFix p m c cX9_end 2 s _ wsX9_end RX9) hpre
  have hx := E.1.1
  have hb := E.1.2.1
  have hown := E.1.2.2.2.1
  have hts := E.1.2.2.2.2
  have h_inX9 : ∀ w ∈ wsX90, w ∈ wsX9_end := (fun _ h9 => (List.mem_cons_of_mem _ (List.mem_append_right _ h9)))
  have hl := lv_entry ([.ref (G.2.1 28)]) (n := 2) (Nat.le_of_ble_eq_true rfl)
  rw [lg_entry_eq]
  generalize (lg_sl ([.ref (G.2.1 28)]) ++ List.replicate (2 - (lg_sl ([.ref (G.2.1 28)])).length) Slot.unset).toArray = ls at hl ⊢
  have hl : lv_has ls 2 [(0, .ref (G.2.1 28))] := hl
  unfold f_X9_end at h
  refine lv_aload_n hx hb dX9_end_0 rfl (lv_at hl 0 rfl) ?_
  refine lv_iconst (v := (0 : Int32)) hx hb dX9_end_1 (by decide) ?_
  refine q_put (T := TX9) E hh h_inX9 tyX9 tyX9_ok nmX9 28 (WW_at_28 G σ) rfl 0 (by decide) (List.mem_cons_of_mem _ (List.mem_append_left _ (List.mem_of_getElem? (i := 0) rfl))) rfl rfl (by decide +kernel) (Nat.le_of_ble_eq_true rfl) dX9_end_2 (WW_si_23 G σ (0 : Int32)) (fun H locs hh => ?_)
  refine lv_aload_n hx hb dX9_end_5 rfl (lv_at hl 0 rfl) ?_
  refine q_get (T := TX9) (v := .int (gi (si σ 23 (0 : Int32)) 42)) E hh h_inX9 28 (WW_at_28 G (si σ 23 (0 : Int32))) rfl 30 (by decide) (List.mem_cons_of_mem _ (List.mem_append_left _ (List.mem_of_getElem? (i := 1) rfl))) rfl rfl dX9_end_6 ?_
  refine lv_bipush (v := (20 : Int32)) hx hb dX9_end_9 (by decide) ?_
  refine lv_icmp_eq (tgt := 21) hx hb dX9_end_11 (by decide) (fun c9 => ?_) (fun c9 => ?_)
  · have h := h.1 c9
    refine lv_iconst (v := (-1 : Int32)) hx hb dX9_end_21 (by decide) ?_
    exact q_iret E hh hr hlocks h dX9_end_22
  · have h := h.2 c9
    refine lv_aload_n hx hb dX9_end_14 rfl (lv_at hl 0 rfl) ?_
    refine q_get (T := TX9) (v := .int (gi (si σ 23 (0 : Int32)) 41)) E hh h_inX9 28 (WW_at_28 G (si σ 23 (0 : Int32))) rfl 27 (by decide) (List.mem_cons_of_mem _ (List.mem_append_left _ (List.mem_of_getElem? (i := 2) rfl))) rfl rfl dX9_end_15 ?_
    refine lv_if_ne (tgt := 23) hx hb dX9_end_18 (by decide) (fun c9 => ?_) (fun c9 => ?_)
    · have h := h.1 c9
      refine lv_iconst (v := (0 : Int32)) hx hb dX9_end_23 (by decide) ?_
      refine lv_istore_n (lv' := [(1, .int (0 : Int32)), (0, .ref (G.2.1 28))]) hx hb dX9_end_24 rfl hl (by decide) rfl (fun ls hl => ?_)
      exact w_X9_end_25 E hr hlocks  FU _ _ _ _ _ h hh (lv_sub hl [1, 0] rfl)
    · have h := h.2 c9
      refine lv_iconst (v := (-1 : Int32)) hx hb dX9_end_21 (by decide) ?_
      exact q_iret E hh hr hlocks h dX9_end_22
