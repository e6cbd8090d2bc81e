def f_X9_isWord_6 (Q : Int32 → St → Prop)  (rec : St → Nat → Int32 → Prop) (σ : St) (l1 : Nat) (l2 : Int32) : Prop :=
  (l1 < 7 ∧ f_J0_length_8abf5 σ l1 (fun r8 s8 => ((r8 ≤ l2 → (l1 < 7 ∧ f_J0_length_8abf5 s8 l1 (fun r46 s46 => f_X9_byteAt s46 ((gi s8 30) + r46) (fun r50 s50 => f_X9_isSmall s50 r50 (fun r53 s53 => ((¬ r53 = 0 → Q (0 : Int32) s53) ∧ (r53 = 0 → Q (1 : Int32) s53))))))) ∧ (¬ r8 ≤ l2 → f_X9_byteAt s8 ((gi s8 30) + l2) (fun r21 s21 => (l1 < 7 ∧ f_J0_charAt_5068e s21 l1 l2 (fun r26 s26 => ((r21 = r26 → rec s26 l1 (l2 + 1)) ∧ (¬ r21 = r26 → Q (0 : Int32) s26)))))))))
def f_X9_isWord_6L (Q : Int32 → St → Prop)  : Nat → St → Nat → Int32 → Prop
  | 0, _, _, _ => False
  | n + 1, σ, l1, l2 => f_X9_isWord_6 Q  (f_X9_isWord_6L Q  n) σ l1 l2
set_option maxHeartbeats 4000000 in
set_option maxRecDepth 100000 in
theorem w_X9_isWord_6 {p : Program} {l : Launch} {e : Env} {s : State} {m : MethodId} {args : Array Value} {below : List Frame} {meth : Method} {c : Code} {G : GG} (E : EV p s m args c cX9_isWord 3 wsX9_isWord RX9 G (AD G s.heap.size)) (hr : meth.sig.returnType = (some .boolean)) (hlocks : meth.locks = false) {Q : Int32 → St → Prop}  : ∀ (n : Nat) (σ : St) (l1 : Nat) (l2 : Int32) (H : Heap) (locs : List Loc) (ls : Array Slot), f_X9_isWord_6L Q  n σ l1 l2 → HH G (AD G s.heap.size) s σ H locs → lv_has ls 3 [(0, .ref (G.2.1 28)), (1, .ref (G.2.2 (20 + l1))), (2, .int l2)] → W p l e ({ frames := 4, cells := 0, slots := 0, locals := 85 }) s m args below meth c H locs 0 0 (MQi below G args s Q) (F0 m 6 ls []) := by
  have hx := E.1.1
  have hb := E.1.2.1
  have hown := E.1.2.2.2.1
  have hts := E.1.2.2.2.2
  have h_inX9 : ∀ w ∈ wsX90, w ∈ wsX9_isWord := (fun _ h9 => (List.mem_cons_of_mem _ (List.mem_append_right _ h9)))
  intro n
  induction n with
  | zero =>
    intro σ l1 l2 H locs ls h
    exact h.elim
  | succ n ih =>
    intro σ l1 l2 H locs ls h hh hl
    have h : f_X9_isWord_6 Q  (f_X9_isWord_6L Q  n) σ l1 l2 := h
    unfold f_X9_isWord_6 at h
    refine lv_iload_n hx hb dX9_isWord_6 rfl (lv_at hl 2 rfl) ?_
    refine lv_aload_n hx hb dX9_isWord_7 rfl (lv_at hl 1 rfl) ?_
    obtain ⟨h0, h⟩ := h
    refine q_Vi (As := []) (rest := [.int l2]) E hh (c_J0_length_8abf5 l G _ _ _ _ h) (cwV 0 hts gX9_isWord_J0_length_8abf5 rfl rfl rfl (by decide +kernel) ⟨Nat.le_of_ble_eq_true rfl, Nat.le_of_ble_eq_true rfl⟩) (vk_recv (adK := fun i => G.2.2 (20 + i)) (i := l1) E.2.2.2.1.2.2.2.2.2.2.2.1 h0 hh.2) rfl hl.1 rfl (Nat.le_of_ble_eq_true rfl) dX9_isWord_8 ⟨Nat.zero_le _, Nat.zero_le _⟩ (fun r8 s8 H locs h hh => ?_)
    refine lv_icmp_ge (tgt := 40) hx hb dX9_isWord_11 (by decide) (fun c9 => ?_) (fun c9 => ?_)
    · have h := h.1 c9
      refine lv_aload_n hx hb dX9_isWord_40 rfl (lv_at hl 0 rfl) ?_
      refine lv_aload_n hx hb dX9_isWord_41 rfl (lv_at hl 0 rfl) ?_
      refine q_get (T := TX9) (v := .int (gi s8 30)) E hh h_inX9 28 (WW_at_28 G s8) rfl 11 (by decide) (List.mem_cons_of_mem _ (List.mem_append_left _ (List.mem_append_left _ (List.mem_of_getElem? (i := 0) rfl)))) rfl rfl dX9_isWord_42 ?_
      refine lv_aload_n hx hb dX9_isWord_45 rfl (lv_at hl 1 rfl) ?_
      obtain ⟨h0, h⟩ := h
      refine q_Vi (As := []) (rest := [.int (gi s8 30), .ref (G.2.1 28)]) E hh (c_J0_length_8abf5 l G _ _ _ _ h) (cwV 0 hts gX9_isWord_J0_length_8abf5 rfl rfl rfl (by decide +kernel) ⟨Nat.le_of_ble_eq_true rfl, Nat.le_of_ble_eq_true rfl⟩) (vk_recv (adK := fun i => G.2.2 (20 + i)) (i := l1) E.2.2.2.1.2.2.2.2.2.2.2.1 h0 hh.2) rfl hl.1 rfl (Nat.le_of_ble_eq_true rfl) dX9_isWord_46 ⟨Nat.zero_le _, Nat.zero_le _⟩ (fun r46 s46 H locs h hh => ?_)
      refine lv_iadd hx hb dX9_isWord_49 ?_
      refine q_Vi (As := [.int ((gi s8 30) + r46)]) (rest := []) E hh (c_X9_byteAt l G _ _ _ _ h) (cwV 1 hts gX9_isWord_X9_byteAt rfl rfl rfl (by decide +kernel) ⟨Nat.le_of_ble_eq_true rfl, Nat.le_of_ble_eq_true rfl⟩) (va_recv (ci := 9) E.2.1 hh.1 rfl (WW_at_28 G s46)) rfl hl.1 rfl (Nat.le_of_ble_eq_true rfl) dX9_isWord_50 ⟨Nat.zero_le _, Nat.zero_le _⟩ (fun r50 s50 H locs h hh => ?_)
      refine q_Si (As := [.int r50]) (rest := []) E hh (c_X9_isSmall l G _ _ _ _ h) (va_cwS 1 hts gX9_isWord_X9_isSmall rfl rfl rfl (by decide +kernel) ⟨Nat.le_of_ble_eq_true rfl, Nat.le_of_ble_eq_true rfl⟩) rfl hl.1 rfl (Nat.le_of_ble_eq_true rfl) dX9_isWord_53 ⟨Nat.zero_le _, Nat.zero_le _⟩ (fun r53 s53 H locs h hh => ?_)
      refine lv_if_ne (tgt := 63) hx hb dX9_isWord_56 (by decide) (fun c9 => ?_) (fun c9 => ?_)
      · have h := h.1 c9
        refine lv_iconst (v := (0 : Int32)) hx hb dX9_isWord_63 (by decide) ?_
        exact q_zret (ty := .boolean) E hh hr hlocks rfl h dX9_isWord_64
      · have h := h.2 c9
        refine lv_iconst (v := (1 : Int32)) hx hb dX9_isWord_59 (by decide) ?_
        refine lv_goto (tgt := 64) hx hb dX9_isWord_60 (by decide) ?_
        exact q_zret (ty := .boolean) E hh hr hlocks rfl h dX9_isWord_64
    · have h := h.2 c9
      refine lv_aload_n hx hb dX9_isWord_14 rfl (lv_at hl 0 rfl) ?_
      refine lv_aload_n hx hb dX9_isWord_15 rfl (lv_at hl 0 rfl) ?_
      refine q_get (T := TX9) (v := .int (gi s8 30)) E hh h_inX9 28 (WW_at_28 G s8) rfl 11 (by decide) (List.mem_cons_of_mem _ (List.mem_append_left _ (List.mem_append_left _ (List.mem_of_getElem? (i := 0) rfl)))) rfl rfl dX9_isWord_16 ?_
      refine lv_iload_n hx hb dX9_isWord_19 rfl (lv_at hl 2 rfl) ?_
      refine lv_iadd hx hb dX9_isWord_20 ?_
      refine q_Vi (As := [.int ((gi s8 30) + l2)]) (rest := []) E hh (c_X9_byteAt l G _ _ _ _ h) (cwV 1 hts gX9_isWord_X9_byteAt rfl rfl rfl (by decide +kernel) ⟨Nat.le_of_ble_eq_true rfl, Nat.le_of_ble_eq_true rfl⟩) (va_recv (ci := 9) E.2.1 hh.1 rfl (WW_at_28 G s8)) rfl hl.1 rfl (Nat.le_of_ble_eq_true rfl) dX9_isWord_21 ⟨Nat.zero_le _, Nat.zero_le _⟩ (fun r21 s21 H locs h hh => ?_)
      refine lv_aload_n hx hb dX9_isWord_24 rfl (lv_at hl 1 rfl) ?_
      refine lv_iload_n hx hb dX9_isWord_25 rfl (lv_at hl 2 rfl) ?_
      obtain ⟨h0, h⟩ := h
      refine q_Vi (As := [.int l2]) (rest := [.int r21]) E hh (c_J0_charAt_5068e l G _ _ _ _ _ h) (cwV 1 hts gX9_isWord_J0_charAt_5068e rfl rfl rfl (by decide +kernel) ⟨Nat.le_of_ble_eq_true rfl, Nat.le_of_ble_eq_true rfl⟩) (vk_recv (adK := fun i => G.2.2 (20 + i)) (i := l1) E.2.2.2.1.2.2.2.2.2.2.2.1 h0 hh.2) rfl hl.1 rfl (Nat.le_of_ble_eq_true rfl) dX9_isWord_26 ⟨Nat.zero_le _, Nat.zero_le _⟩ (fun r26 s26 H locs h hh => ?_)
      refine lv_icmp_eq (tgt := 34) hx hb dX9_isWord_29 (by decide) (fun c9 => ?_) (fun c9 => ?_)
      · have h := h.1 c9
        refine lv_iinc (v := (l2 + 1)) (lv' := [(2, .int (l2 + 1)), (0, .ref (G.2.1 28)), (1, .ref (G.2.2 (20 + l1)))]) hx hb dX9_isWord_34 hl (k := 2) rfl rfl (by decide) rfl (fun ls hl => ?_)
        refine lv_goto (tgt := 6) hx hb dX9_isWord_37 (by decide) ?_
        exact ih _ _ _ _ _ _ h hh (lv_sub hl [1, 2, 0] rfl)
      · have h := h.2 c9
        refine lv_iconst (v := (0 : Int32)) hx hb dX9_isWord_32 (by decide) ?_
        exact q_zret (ty := .boolean) E hh hr hlocks rfl h dX9_isWord_33
def f_X9_isWord (σ : St) (p1 : Nat) (Q : Int32 → St → Prop) : Prop :=
  f_X9_blanks σ (fun s1 => f_X9_isWord_6L Q FU s1 p1 (0 : Int32))
set_option maxHeartbeats 4000000 in
set_option maxRecDepth 100000 in
theorem c_X9_isWord (l : Launch) (G : GG) (σ : St) (sz : Nat) (p1 : Nat) (Q : Int32 → St → Prop) (h : f_X9_isWord σ p1 Q) : CTi l yX9_isWord wsX9_isWord ({ frames := 4, cells := 0, slots := 0, locals := 85 }) [.ref (G.2.1 28), .ref (G.2.2 (20 + p1))] G σ sz Q := by
  refine Met.ofW (cc := cX9_isWord) (maxL := 3) (ret := (some .boolean)) (by decide) rfl ?_
  intro p e s m args below meth c s₁ B hml hv
  obtain ⟨rfl, hpre⟩ := hv
  have hr := B.returns
  have hlocks := B.notSynchronized
  obtain ⟨hsz, -⟩ := id hpre
  subst hsz
  obtain ⟨E, hh⟩ := EV.ofPre (⟨B.exec, B.bytes, hml, findClass_of_methodNamed B.named, atoms_spec (ws := wsX9_isWord) B.pre⟩ : CallFix p m c cX9_isWord 3 s _ wsX9_isWord RX9) hpre
  have hx := E.1.1
  have hb := E.1.2.1
  have hown := E.1.2.2.2.1
  have hts := E.1.2.2.2.2
  have h_inX9 : ∀ w ∈ wsX90, w ∈ wsX9_isWord := (fun _ h9 => (List.mem_cons_of_mem _ (List.mem_append_right _ h9)))
  have hl := lv_entry ([.ref (G.2.1 28), .ref (G.2.2 (20 + p1))]) (n := 3) (Nat.le_of_ble_eq_true rfl)
  rw [lg_entry_eq]
  generalize (lg_sl ([.ref (G.2.1 28), .ref (G.2.2 (20 + p1))]) ++ List.replicate (3 - (lg_sl ([.ref (G.2.1 28), .ref (G.2.2 (20 + p1))])).length) Slot.unset).toArray = ls at hl ⊢
  have hl : lv_has ls 3 [(0, .ref (G.2.1 28)), (1, .ref (G.2.2 (20 + p1)))] := hl
  unfold f_X9_isWord at h
  refine lv_aload_n hx hb dX9_isWord_0 rfl (lv_at hl 0 rfl) ?_
  refine q_Vv (As := []) (rest := []) E hh (c_X9_blanks l G _ _  _ h) (cwV 0 hts gX9_isWord_X9_blanks rfl rfl rfl (by decide +kernel) ⟨Nat.le_of_ble_eq_true rfl, Nat.le_of_ble_eq_true rfl⟩) (va_recv (ci := 9) E.2.1 hh.1 rfl (WW_at_28 G σ)) rfl hl.1 rfl (Nat.le_of_ble_eq_true rfl) dX9_isWord_1 ⟨Nat.zero_le _, Nat.zero_le _⟩ (fun s1 H locs h hh => ?_)
  refine lv_iconst (v := (0 : Int32)) hx hb dX9_isWord_4 (by decide) ?_
  refine lv_istore_n (lv' := [(2, .int (0 : Int32)), (0, .ref (G.2.1 28)), (1, .ref (G.2.2 (20 + p1)))]) hx hb dX9_isWord_5 rfl hl (by decide) rfl (fun ls hl => ?_)
  exact w_X9_isWord_6 E hr hlocks  FU _ _ _ _ _ _ h hh (lv_sub hl [1, 2, 0] rfl)
def f_X9_eat_20 (Q : Int32 → St → Prop)  (σ : St) (l1 : Nat) (t0 : Int32) : Prop :=
  ((t0 = 0 → (zok .boolean t0 ∧ Q t0 σ)) ∧ (¬ t0 = 0 → (l1 < 7 ∧ f_J0_length_8abf5 σ l1 (fun r31 s31 => (zok .boolean t0 ∧ Q t0 (si s31 30 ((gi σ 30) + r31)))))))
set_option maxHeartbeats 4000000 in
set_option maxRecDepth 100000 in
theorem w_X9_eat_20 {p : Program} {l : Launch} {e : Env} {s : State} {m : MethodId} {args : Array Value} {below : List Frame} {meth : Method} {c : Code} {G : GG} (E : EV p s m args c cX9_eat 3 wsX9_eat RX9 G (AD G s.heap.size)) (hr : meth.sig.returnType = (some .boolean)) (hlocks : meth.locks = false) {Q : Int32 → St → Prop}  : ∀ (σ : St) (l1 : Nat) (t0 : Int32) (H : Heap) (locs : List Loc) (ls : Array Slot), f_X9_eat_20 Q  σ l1 t0 → HH G (AD G s.heap.size) s σ H locs → lv_has ls 3 [(0, .ref (G.2.1 28)), (1, .ref (G.2.2 (20 + l1)))] → W p l e ({ frames := 5, cells := 0, slots := 0, locals := 107 }) s m args below meth c H locs 0 0 (MQi below G args s Q) (F0 m 20 ls [.int t0]) := by
  have hx := E.1.1
  have hb := E.1.2.1
  have hown := E.1.2.2.2.1
  have hts := E.1.2.2.2.2
  have h_inX9 : ∀ w ∈ wsX90, w ∈ wsX9_eat := (fun _ h9 => (List.mem_cons_of_mem _ (List.mem_append_right _ h9)))
  intro σ l1 t0 H locs ls h hh hl
  unfold f_X9_eat_20 at h
  refine lv_istore_n (lv' := [(2, .int t0), (0, .ref (G.2.1 28)), (1, .ref (G.2.2 (20 + l1)))]) hx hb dX9_eat_20 rfl hl (by decide) rfl (fun ls hl => ?_)
  refine lv_iload_n hx hb dX9_eat_21 rfl (lv_at hl 0 rfl) ?_
  refine lv_if_eq (tgt := 38) hx hb dX9_eat_22 (by decide) (fun c9 => ?_) (fun c9 => ?_)
  · have h := h.1 c9
    refine lv_iload_n hx hb dX9_eat_38 rfl (lv_at hl 0 rfl) ?_
    exact q_zret (ty := .boolean) E hh hr hlocks h.1 h.2 dX9_eat_39
  · have h := h.2 c9
    refine lv_aload_n hx hb dX9_eat_25 rfl (lv_at hl 1 rfl) ?_
    refine lv_dup hx hb dX9_eat_26 rfl ?_
    refine q_get (T := TX9) (v := .int (gi σ 30)) E hh h_inX9 28 (WW_at_28 G σ) rfl 11 (by decide) (List.mem_cons_of_mem _ (List.mem_append_left _ (List.mem_append_left _ (List.mem_of_getElem? (i := 1) rfl)))) rfl rfl dX9_eat_27 ?_
    refine lv_aload_n hx hb dX9_eat_30 rfl (lv_at hl 2 rfl) ?_
    obtain ⟨h0, h⟩ := h
    refine q_Vi (As := []) (rest := [.int (gi σ 30), .ref (G.2.1 28)]) E hh (c_J0_length_8abf5 l G _ _ _ _ h) (cwV 0 hts gX9_eat_J0_length_8abf5 rfl rfl rfl (by decide +kernel) ⟨Nat.le_of_ble_eq_true rfl, Nat.le_of_ble_eq_true rfl⟩) (vk_recv (adK := fun i => G.2.2 (20 + i)) (i := l1) E.2.2.2.1.2.2.2.2.2.2.2.1 h0 hh.2) rfl hl.1 rfl (Nat.le_of_ble_eq_true rfl) dX9_eat_31 ⟨Nat.zero_le _, Nat.zero_le _⟩ (fun r31 s31 H locs h hh => ?_)
    refine lv_iadd hx hb dX9_eat_34 ?_
    refine q_put (T := TX9) E hh h_inX9 tyX9 tyX9_ok nmX9 28 (WW_at_28 G s31) rfl 11 (by decide) (List.mem_cons_of_mem _ (List.mem_append_left _ (List.mem_append_left _ (List.mem_of_getElem? (i := 1) rfl)))) rfl rfl (by decide +kernel) (Nat.le_of_ble_eq_true rfl) dX9_eat_35 (WW_si_30 G s31 ((gi σ 30) + r31)) (fun H locs hh => ?_)
    refine lv_iload_n hx hb dX9_eat_38 rfl (lv_at hl 0 rfl) ?_
    exact q_zret (ty := .boolean) E hh hr hlocks h.1 h.2 dX9_eat_39
def f_X9_eat (σ : St) (p1 : Nat) (Q : Int32 → St → Prop) : Prop :=
  ((¬ (gi σ 31) = 0 → f_X9_eat_20 Q σ p1 (0 : Int32)) ∧ ((gi σ 31) = 0 → f_X9_isWord σ p1 (fun r9 s9 => ((r9 = 0 → f_X9_eat_20 Q s9 p1 (0 : Int32)) ∧ (¬ r9 = 0 → f_X9_eat_20 Q s9 p1 (1 : Int32))))))
set_option maxHeartbeats 4000000 in
set_option maxRecDepth 100000 in
theorem c_X9_eat (l : Launch) (G : GG) (σ : St) (sz : Nat) (p1 : Nat) (Q : Int32 → St → Prop) (h : f_X9_eat σ p1 Q) : CTi l yX9_eat wsX9_eat ({ frames := 5, cells := 0, slots := 0, locals := 107 }) [.ref (G.2.1 28), .ref (G.2.2 (20 + p1))] G σ sz Q := by
  refine Met.ofW (cc := cX9_eat) (maxL := 3) (ret := (some .boolean)) (by decide) rfl ?_
  intro p e s m args below meth c s₁ B hml hv
  obtain ⟨rfl, hpre⟩ := hv
  have hr := B.returns
  have hlocks := B.notSynchronized
  obtain ⟨hsz, -⟩ := id hpre
  subst hsz
  obtain ⟨E, hh⟩ := EV.ofPre (⟨B.exec, B.bytes, hml, findClass_of_methodNamed B.named, atoms_spec (ws := wsX9_eat) B.pre⟩ : CallFix p m c cX9_eat 3 s _ wsX9_eat RX9) hpre
  have hx := E.1.1
  have hb := E.1.2.1
  have hown := E.1.2.2.2.1
  have hts := E.1.2.2.2.2
  have h_inX9 : ∀ w ∈ wsX90, w ∈ wsX9_eat := (fun _ h9 => (List.mem_cons_of_mem _ (List.mem_append_right _ h9)))
  have hl := lv_entry ([.ref (G.2.1 28), .ref (G.2.2 (20 + p1))]) (n := 3) (Nat.le_of_ble_eq_true rfl)
  rw [lg_entry_eq]
  generalize (lg_sl ([.ref (G.2.1 28), .ref (G.2.2 (20 + p1))]) ++ List.replicate (3 - (lg_sl ([.ref (G.2.1 28), .ref (G.2.2 (20 + p1))])).length) Slot.unset).toArray = ls at hl ⊢
  have hl : lv_has ls 3 [(0, .ref (G.2.1 28)), (1, .ref (G.2.2 (20 + p1)))] := hl
  unfold f_X9_eat at h
  refine lv_aload_n hx hb dX9_eat_0 rfl (lv_at hl 0 rfl) ?_
  refine q_get (T := TX9) (v := .int (gi σ 31)) E hh h_inX9 28 (WW_at_28 G σ) rfl 12 (by decide) (List.mem_cons_of_mem _ (List.mem_append_left _ (List.mem_append_left _ (List.mem_of_getElem? (i := 0) rfl)))) rfl rfl dX9_eat_1 ?_
  refine lv_if_ne (tgt := 19) hx hb dX9_eat_4 (by decide) (fun c9 => ?_) (fun c9 => ?_)
  · have h := h.1 c9
    refine lv_iconst (v := (0 : Int32)) hx hb dX9_eat_19 (by decide) ?_
    exact w_X9_eat_20 E hr hlocks  _ _ _ _ _ _ h hh (lv_sub hl [0, 1] rfl)
  · have h := h.2 c9
    refine lv_aload_n hx hb dX9_eat_7 rfl (lv_at hl 0 rfl) ?_
    refine lv_aload_n hx hb dX9_eat_8 rfl (lv_at hl 1 rfl) ?_
    refine q_Vi (As := [.ref (G.2.2 (20 + p1))]) (rest := []) E hh (c_X9_isWord l G _ _ _ _ h) (cwV 1 hts gX9_eat_X9_isWord rfl rfl rfl (by decide +kernel) ⟨Nat.le_of_ble_eq_true rfl, Nat.le_of_ble_eq_true rfl⟩) (va_recv (ci := 9) E.2.1 hh.1 rfl (WW_at_28 G σ)) rfl hl.1 rfl (Nat.le_of_ble_eq_true rfl) dX9_eat_9 ⟨Nat.zero_le _, Nat.zero_le _⟩ (fun r9 s9 H locs h hh => ?_)
    refine lv_if_eq (tgt := 19) hx hb dX9_eat_12 (by decide) (fun c9 => ?_) (fun c9 => ?_)
    · have h := h.1 c9
      refine lv_iconst (v := (0 : Int32)) hx hb dX9_eat_19 (by decide) ?_
      exact w_X9_eat_20 E hr hlocks  _ _ _ _ _ _ h hh (lv_sub hl [0, 1] rfl)
    · have h := h.2 c9
      refine lv_iconst (v := (1 : Int32)) hx hb dX9_eat_15 (by decide) ?_
      refine lv_goto (tgt := 20) hx hb dX9_eat_16 (by decide) ?_
      exact w_X9_eat_20 E hr hlocks  _ _ _ _ _ _ h hh (lv_sub hl [0, 1] rfl)
def f_X9_number_45 (Q : Int32 → St → Prop)  (rec : St → Int32 → Int32 → Prop) (σ : St) (l1 : Int32) (l2 : Int32) : Prop :=
  f_X9_byteAt σ (gi σ 30) (fun r50 s50 => f_X9_isDigit s50 r50 (fun r53 s53 => ((r53 = 0 → ((l2 ≤ (5000 : Int32) → Q l2 s53) ∧ (¬ l2 ≤ (5000 : Int32) → f_X9_wrong s53 (2 : Int32) l1 (fun s110 => Q l2 s110)))) ∧ (¬ r53 = 0 → ((l2 ≤ (10000 : Int32) → f_X9_byteAt s53 (gi s53 30) (fun r79 s79 => rec (si s79 30 ((gi s79 30) + (1 : Int32))) l1 ((((10 : Int32) * l2) + r79) - (48 : Int32)))) ∧ (¬ l2 ≤ (10000 : Int32) → rec (si s53 30 ((gi s53 30) + (1 : Int32))) l1 l2))))))
def f_X9_number_45L (Q : Int32 → St → Prop)  : Nat → St → Int32 → Int32 → Prop
  | 0, _, _, _ => False
  | n + 1, σ, l1, l2 => f_X9_number_45 Q  (f_X9_number_45L Q  n) σ l1 l2
set_option maxHeartbeats 4000000 in
set_option maxRecDepth 100000 in
theorem w_X9_number_45 {p : Program} {l : Launch} {e : Env} {s : State} {m : MethodId} {args : Array Value} {below : List Frame} {meth : Method} {c : Code} {G : GG} (E : EV p s m args c cX9_number 3 wsX9_number RX9 G (AD G s.heap.size)) (hr : meth.sig.returnType = (some .int)) (hlocks : meth.locks = false) {Q : Int32 → St → Prop}  : ∀ (n : Nat) (σ : St) (l1 : Int32) (l2 : Int32) (H : Heap) (locs : List Loc) (ls : Array Slot), f_X9_number_45L Q  n σ l1 l2 → HH G (AD G s.heap.size) s σ H locs → lv_has ls 3 [(0, .ref (G.2.1 28)), (1, .int l1), (2, .int l2)] → W p l e ({ frames := 2, cells := 0, slots := 0, locals := 41 }) s m args below meth c H locs 0 0 (MQi below G args s Q) (F0 m 45 ls []) := by
  have hx := E.1.1
  have hb := E.1.2.1
  have hown := E.1.2.2.2.1
  have hts := E.1.2.2.2.2
  have h_inX9 : ∀ w ∈ wsX90, w ∈ wsX9_number := (fun _ h9 => (List.mem_cons_of_mem _ (List.mem_append_right _ h9)))
  intro n
  induction n with
  | zero =>
    intro σ l1 l2 H locs ls h
    exact h.elim
  | succ n ih =>
    intro σ l1 l2 H locs ls h hh hl
    have h : f_X9_number_45 Q  (f_X9_number_45L Q  n) σ l1 l2 := h
    unfold f_X9_number_45 at h
    refine lv_aload_n hx hb dX9_number_45 rfl (lv_at hl 0 rfl) ?_
    refine lv_aload_n hx hb dX9_number_46 rfl (lv_at hl 0 rfl) ?_
    refine q_get (T := TX9) (v := .int (gi σ 30)) E hh h_inX9 28 (WW_at_28 G σ) rfl 11 (by decide) (List.mem_cons_of_mem _ (List.mem_append_left _ (List.mem_of_getElem? (i := 1) rfl))) rfl rfl dX9_number_47 ?_
    refine q_Vi (As := [.int (gi σ 30)]) (rest := []) E hh (c_X9_byteAt l G _ _ _ _ h) (cwV 1 hts gX9_number_X9_byteAt rfl rfl rfl (by decide +kernel) ⟨Nat.le_of_ble_eq_true rfl, Nat.le_of_ble_eq_true rfl⟩) (va_recv (ci := 9) E.2.1 hh.1 rfl (WW_at_28 G σ)) rfl hl.1 rfl (Nat.le_of_ble_eq_true rfl) dX9_number_50 ⟨Nat.zero_le _, Nat.zero_le _⟩ (fun r50 s50 H locs h hh => ?_)
    refine q_Si (As := [.int r50]) (rest := []) E hh (c_X9_isDigit l G _ _ _ _ h) (va_cwS 1 hts gX9_number_X9_isDigit rfl rfl rfl (by decide +kernel) ⟨Nat.le_of_ble_eq_true rfl, Nat.le_of_ble_eq_true rfl⟩) rfl hl.1 rfl (Nat.le_of_ble_eq_true rfl) dX9_number_53 ⟨Nat.zero_le _, Nat.zero_le _⟩ (fun r53 s53 H locs h hh => ?_)
    refine lv_if_eq (tgt := 100) hx hb dX9_number_56 (by decide) (fun c9 => ?_) (fun c9 => ?_)
    · have h := h.1 c9
      refine lv_iload_n hx hb dX9_number_100 rfl (lv_at hl 2 rfl) ?_
      refine lv_sipush (v := (5000 : Int32)) hx hb dX9_number_101 (by decide) ?_
      refine lv_icmp_le (tgt := 113) hx hb dX9_number_104 (by decide) (fun c9 => ?_) (fun c9 => ?_)
      · have h := h.1 c9
        refine lv_iload_n hx hb dX9_number_113 rfl (lv_at hl 2 rfl) ?_
        exact q_iret E hh hr hlocks h dX9_number_114
      · have h := h.2 c9
        refine lv_aload_n hx hb dX9_number_107 rfl (lv_at hl 0 rfl) ?_
        refine lv_iconst (v := (2 : Int32)) hx hb dX9_number_108 (by decide) ?_
        refine lv_iload_n hx hb dX9_number_109 rfl (lv_at hl 1 rfl) ?_
        refine q_Vv (As := [.int (2 : Int32), .int l1]) (rest := []) E hh (c_X9_wrong l G _ _ _ _ _ h) (cwV 2 hts gX9_number_X9_wrong rfl rfl rfl (by decide +kernel) ⟨Nat.le_of_ble_eq_true rfl, Nat.le_of_ble_eq_true rfl⟩) (va_recv (ci := 9) E.2.1 hh.1 rfl (WW_at_28 G s53)) rfl hl.1 rfl (Nat.le_of_ble_eq_true rfl) dX9_number_110 ⟨Nat.zero_le _, Nat.zero_le _⟩ (fun s110 H locs h hh => ?_)
        refine lv_iload_n hx hb dX9_number_113 rfl (lv_at hl 2 rfl) ?_
        exact q_iret E hh hr hlocks h dX9_number_114
    · have h := h.2 c9
      refine lv_iload_n hx hb dX9_number_59 rfl (lv_at hl 2 rfl) ?_
      refine lv_sipush (v := (10000 : Int32)) hx hb dX9_number_60 (by decide) ?_
      refine lv_icmp_le (tgt := 70) hx hb dX9_number_63 (by decide) (fun c9 => ?_) (fun c9 => ?_)
      · have h := h.1 c9
        refine lv_bipush (v := (10 : Int32)) hx hb dX9_number_70 (by decide) ?_
        refine lv_iload_n hx hb dX9_number_72 rfl (lv_at hl 2 rfl) ?_
        refine lv_imul hx hb dX9_number_73 ?_
        refine lv_aload_n hx hb dX9_number_74 rfl (lv_at hl 0 rfl) ?_
        refine lv_aload_n hx hb dX9_number_75 rfl (lv_at hl 0 rfl) ?_
        refine q_get (T := TX9) (v := .int (gi s53 30)) E hh h_inX9 28 (WW_at_28 G s53) rfl 11 (by decide) (List.mem_cons_of_mem _ (List.mem_append_left _ (List.mem_of_getElem? (i := 1) rfl))) rfl rfl dX9_number_76 ?_
        refine q_Vi (As := [.int (gi s53 30)]) (rest := [.int ((10 : Int32) * l2)]) E hh (c_X9_byteAt l G _ _ _ _ h) (cwV 1 hts gX9_number_X9_byteAt rfl rfl rfl (by decide +kernel) ⟨Nat.le_of_ble_eq_true rfl, Nat.le_of_ble_eq_true rfl⟩) (va_recv (ci := 9) E.2.1 hh.1 rfl (WW_at_28 G s53)) rfl hl.1 rfl (Nat.le_of_ble_eq_true rfl) dX9_number_79 ⟨Nat.zero_le _, Nat.zero_le _⟩ (fun r79 s79 H locs h hh => ?_)
        refine lv_iadd hx hb dX9_number_82 ?_
        refine lv_bipush (v := (48 : Int32)) hx hb dX9_number_83 (by decide) ?_
        refine lv_isub hx hb dX9_number_85 ?_
        refine lv_istore_n (lv' := [(2, .int ((((10 : Int32) * l2) + r79) - (48 : Int32))), (0, .ref (G.2.1 28)), (1, .int l1)]) hx hb dX9_number_86 rfl hl (by decide) rfl (fun ls hl => ?_)
        refine lv_aload_n hx hb dX9_number_87 rfl (lv_at hl 1 rfl) ?_
        refine lv_dup hx hb dX9_number_88 rfl ?_
        refine q_get (T := TX9) (v := .int (gi s79 30)) E hh h_inX9 28 (WW_at_28 G s79) rfl 11 (by decide) (List.mem_cons_of_mem _ (List.mem_append_left _ (List.mem_of_getElem? (i := 1) rfl))) rfl rfl dX9_number_89 ?_
        refine lv_iconst (v := (1 : Int32)) hx hb dX9_number_92 (by decide) ?_
        refine lv_iadd hx hb dX9_number_93 ?_
        refine q_put (T := TX9) E hh h_inX9 tyX9 tyX9_ok nmX9 28 (WW_at_28 G s79) rfl 11 (by decide) (List.mem_cons_of_mem _ (List.mem_append_left _ (List.mem_of_getElem? (i := 1) rfl))) rfl rfl (by decide +kernel) (Nat.le_of_ble_eq_true rfl) dX9_number_94 (WW_si_30 G s79 ((gi s79 30) + (1 : Int32))) (fun H locs hh => ?_)
        refine lv_goto (tgt := 45) hx hb dX9_number_97 (by decide) ?_
        exact ih _ _ _ _ _ _ h hh (lv_sub hl [1, 2, 0] rfl)
      · have h := h.2 c9
        refine lv_iload_n hx hb dX9_number_66 rfl (lv_at hl 2 rfl) ?_
        refine lv_goto (tgt := 86) hx hb dX9_number_67 (by decide) ?_
        refine lv_istore_n (lv' := [(2, .int l2), (0, .ref (G.2.1 28)), (1, .int l1)]) hx hb dX9_number_86 rfl hl (by decide) rfl (fun ls hl => ?_)
        refine lv_aload_n hx hb dX9_number_87 rfl (lv_at hl 1 rfl) ?_
        refine lv_dup hx hb dX9_number_88 rfl ?_
        refine q_get (T := TX9) (v := .int (gi s53 30)) E hh h_inX9 28 (WW_at_28 G s53) rfl 11 (by decide) (List.mem_cons_of_mem _ (List.mem_append_left _ (List.mem_of_getElem? (i := 1) rfl))) rfl rfl dX9_number_89 ?_
        refine lv_iconst (v := (1 : Int32)) hx hb dX9_number_92 (by decide) ?_
        refine lv_iadd hx hb dX9_number_93 ?_
        refine q_put (T := TX9) E hh h_inX9 tyX9 tyX9_ok nmX9 28 (WW_at_28 G s53) rfl 11 (by decide) (List.mem_cons_of_mem _ (List.mem_append_left _ (List.mem_of_getElem? (i := 1) rfl))) rfl rfl (by decide +kernel) (Nat.le_of_ble_eq_true rfl) dX9_number_94 (WW_si_30 G s53 ((gi s53 30) + (1 : Int32))) (fun H locs hh => ?_)
        refine lv_goto (tgt := 45) hx hb dX9_number_97 (by decide) ?_
        exact ih _ _ _ _ _ _ h hh (lv_sub hl [1, 2, 0] rfl)
def f_X9_number (σ : St)  (Q : Int32 → St → Prop) : Prop :=
  (((gi σ 31) ≤ 0 → f_X9_blanks σ (fun s10 => f_X9_byteAt s10 (gi s10 30) (fun r23 s23 => f_X9_isDigit s23 r23 (fun r26 s26 => ((¬ r26 = 0 → f_X9_number_45L Q FU s26 (gi s10 30) (0 : Int32)) ∧ (r26 = 0 → f_X9_wrong s26 (1 : Int32) (gi s26 30) (fun s38 => Q (0 : Int32) s38))))))) ∧ (¬ (gi σ 31) ≤ 0 → Q (0 : Int32) σ))
set_option maxHeartbeats 4000000 in
set_option maxRecDepth 100000 in
theorem c_X9_number (l : Launch) (G : GG) (σ : St) (sz : Nat)  (Q : Int32 → St → Prop) (h : f_X9_number σ  Q) : CTi l yX9_number wsX9_number ({ frames := 2, cells := 0, slots := 0, locals := 41 }) [.ref (G.2.1 28)] G σ sz Q := by
  refine Met.ofW (cc := cX9_number) (maxL := 3) (ret := (some .int)) (by decide) rfl ?_
  intro p e s m args below meth c s₁ B hml hv
  obtain ⟨rfl, hpre⟩ := hv
  have hr := B.returns
  have hlocks := B.notSynchronized
  obtain ⟨hsz, -⟩ := id hpre
  subst hsz
  obtain ⟨E, hh⟩ := EV.ofPre (⟨B.exec, B.bytes, hml, findClass_of_methodNamed B.named, atoms_spec (ws := wsX9_number) B.pre⟩ : CallFix p m c cX9_number 3 s _ wsX9_number RX9) hpre
  have hx := E.1.1
  have hb := E.1.2.1
  have hown := E.1.2.2.2.1
  have hts := E.1.2.2.2.2
  have h_inX9 : ∀ w ∈ wsX90, w ∈ wsX9_number := (fun _ h9 => (List.mem_cons_of_mem _ (List.mem_append_right _ h9)))
  have hl := lv_entry ([.ref (G.2.1 28)]) (n := 3) (Nat.le_of_ble_eq_true rfl)
  rw [lg_entry_eq]
  generalize (lg_sl ([.ref (G.2.1 28)]) ++ List.replicate (3 - (lg_sl ([.ref (G.2.1 28)])).length) Slot.unset).toArray = ls at hl ⊢
  have hl : lv_has ls 3 [(0, .ref (G.2.1 28))] := hl
  unfold f_X9_number at h
  refine lv_aload_n hx hb dX9_number_0 rfl (lv_at hl 0 rfl) ?_
  refine q_get (T := TX9) (v := .int (gi σ 31)) E hh h_inX9 28 (WW_at_28 G σ) rfl 12 (by decide) (List.mem_cons_of_mem _ (List.mem_append_left _ (List.mem_of_getElem? (i := 0) rfl))) rfl rfl dX9_number_1 ?_
  refine lv_if_le (tgt := 9) hx hb dX9_number_4 (by decide) (fun c9 => ?_) (fun c9 => ?_)
  · have h := h.1 c9
    refine lv_aload_n hx hb dX9_number_9 rfl (lv_at hl 0 rfl) ?_
    refine q_Vv (As := []) (rest := []) E hh (c_X9_blanks l G _ _  _ h) (cwV 0 hts gX9_number_X9_blanks rfl rfl rfl (by decide +kernel) ⟨Nat.le_of_ble_eq_true rfl, Nat.le_of_ble_eq_true rfl⟩) (va_recv (ci := 9) E.2.1 hh.1 rfl (WW_at_28 G σ)) rfl hl.1 rfl (Nat.le_of_ble_eq_true rfl) dX9_number_10 ⟨Nat.zero_le _, Nat.zero_le _⟩ (fun s10 H locs h hh => ?_)
    refine lv_aload_n hx hb dX9_number_13 rfl (lv_at hl 0 rfl) ?_
    refine q_get (T := TX9) (v := .int (gi s10 30)) E hh h_inX9 28 (WW_at_28 G s10) rfl 11 (by decide) (List.mem_cons_of_mem _ (List.mem_append_left _ (List.mem_of_getElem? (i := 1) rfl))) rfl rfl dX9_number_14 ?_
    refine lv_istore_n (lv' := [(1, .int (gi s10 30)), (0, .ref (G.2.1 28))]) hx hb dX9_number_17 rfl hl (by decide) rfl (fun ls hl => ?_)
    refine lv_aload_n hx hb dX9_number_18 rfl (lv_at hl 1 rfl) ?_
    refine lv_aload_n hx hb dX9_number_19 rfl (lv_at hl 1 rfl) ?_
    refine q_get (T := TX9) (v := .int (gi s10 30)) E hh h_inX9 28 (WW_at_28 G s10) rfl 11 (by decide) (List.mem_cons_of_mem _ (List.mem_append_left _ (List.mem_of_getElem? (i := 1) rfl))) rfl rfl dX9_number_20 ?_
    refine q_Vi (As := [.int (gi s10 30)]) (rest := []) E hh (c_X9_byteAt l G _ _ _ _ h) (cwV 1 hts gX9_number_X9_byteAt rfl rfl rfl (by decide +kernel) ⟨Nat.le_of_ble_eq_true rfl, Nat.le_of_ble_eq_true rfl⟩) (va_recv (ci := 9) E.2.1 hh.1 rfl (WW_at_28 G s10)) rfl hl.1 rfl (Nat.le_of_ble_eq_true rfl) dX9_number_23 ⟨Nat.zero_le _, Nat.zero_le _⟩ (fun r23 s23 H locs h hh => ?_)
    refine q_Si (As := [.int r23]) (rest := []) E hh (c_X9_isDigit l G _ _ _ _ h) (va_cwS 1 hts gX9_number_X9_isDigit rfl rfl rfl (by decide +kernel) ⟨Nat.le_of_ble_eq_true rfl, Nat.le_of_ble_eq_true rfl⟩) rfl hl.1 rfl (Nat.le_of_ble_eq_true rfl) dX9_number_26 ⟨Nat.zero_le _, Nat.zero_le _⟩ (fun r26 s26 H locs h hh => ?_)
    refine lv_if_ne (tgt := 43) hx hb dX9_number_29 (by decide) (fun c9 => ?_) (fun c9 => ?_)
    · have h := h.1 c9
      refine lv_iconst (v := (0 : Int32)) hx hb dX9_number_43 (by decide) ?_
      refine lv_istore_n (lv' := [(2, .int (0 : Int32)), (1, .int (gi s10 30)), (0, .ref (G.2.1 28))]) hx hb dX9_number_44 rfl hl (by decide) rfl (fun ls hl => ?_)
      exact w_X9_number_45 E hr hlocks  FU _ _ _ _ _ _ h hh (lv_sub hl [2, 1, 0] rfl)
    · have h := h.2 c9
      refine lv_aload_n hx hb dX9_number_32 rfl (lv_at hl 1 rfl) ?_
      refine lv_iconst (v := (1 : Int32)) hx hb dX9_number_33 (by decide) ?_
      refine lv_aload_n hx hb dX9_number_34 rfl (lv_at hl 1 rfl) ?_
      refine q_get (T := TX9) (v := .int (gi s26 30)) E hh h_inX9 28 (WW_at_28 G s26) rfl 11 (by decide) (List.mem_cons_of_mem _ (List.mem_append_left _ (List.mem_of_getElem? (i := 1) rfl))) rfl rfl dX9_number_35 ?_
      refine q_Vv (As := [.int (1 : Int32), .int (gi s26 30)]) (rest := []) E hh (c_X9_wrong l G _ _ _ _ _ h) (cwV 2 hts gX9_number_X9_wrong rfl rfl rfl (by decide +kernel) ⟨Nat.le_of_ble_eq_true rfl, Nat.le_of_ble_eq_true rfl⟩) (va_recv (ci := 9) E.2.1 hh.1 rfl (WW_at_28 G s26)) rfl hl.1 rfl (Nat.le_of_ble_eq_true rfl) dX9_number_38 ⟨Nat.zero_le _, Nat.zero_le _⟩ (fun s38 H locs h hh => ?_)
      refine lv_iconst (v := (0 : Int32)) hx hb dX9_number_41 (by decide) ?_
      exact q_iret E hh hr hlocks h dX9_number_42
  · have h := h.2 c9
    refine lv_iconst (v := (0 : Int32)) hx hb dX9_number_7 (by decide) ?_
    exact q_iret E hh hr hlocks h dX9_number_8
def f_X9_wayHere (σ : St)  (Q : Int32 → St → Prop) : Prop :=
  f_X9_isWord σ 4 (fun r3 s3 => ((r3 = 0 → f_X9_isWord s3 5 (fun r16 s16 => ((r16 = 0 → f_X9_isWord s16 6 (fun r29 s29 => ((r29 = 0 → Q (-1 : Int32) s29) ∧ (¬ r29 = 0 → Q (2 : Int32) s29)))) ∧ (¬ r16 = 0 → Q (1 : Int32) s16)))) ∧ (¬ r3 = 0 → Q (0 : Int32) s3)))
set_option maxHeartbeats 4000000 in
set_option maxRecDepth 100000 in
theorem c_X9_wayHere (l : Launch) (G : GG) (σ : St) (sz : Nat)  (Q : Int32 → St → Prop) (h : f_X9_wayHere σ  Q) : CTi l yX9_wayHere wsX9_wayHere ({ frames := 5, cells := 0, slots := 0, locals := 107 }) [.ref (G.2.1 28)] G σ sz Q := by
  refine Met.ofW (cc := cX9_wayHere) (maxL := 1) (ret := (some .int)) (by decide) rfl ?_
  intro p e s m args below meth c s₁ B hml hv
  obtain ⟨rfl, hpre⟩ := hv
  have hr := B.returns
  have hlocks := B.notSynchronized
  obtain ⟨hsz, -⟩ := id hpre
  subst hsz
  obtain ⟨E, hh⟩ := EV.ofPre (⟨B.exec, B.bytes, hml, findClass_of_methodNamed B.named, atoms_spec (ws := wsX9_wayHere) B.pre⟩ : CallFix p m c cX9_wayHere 1 s _ wsX9_wayHere RX9) hpre
  have hx := E.1.1
  have hb := E.1.2.1
  have hown := E.1.2.2.2.1
  have hts := E.1.2.2.2.2
  have hl := lv_entry ([.ref (G.2.1 28)]) (n := 1) (Nat.le_of_ble_eq_true rfl)
  rw [lg_entry_eq]
  generalize (lg_sl ([.ref (G.2.1 28)]) ++ List.replicate (1 - (lg_sl ([.ref (G.2.1 28)])).length) Slot.unset).toArray = ls at hl ⊢
  have hl : lv_has ls 1 [(0, .ref (G.2.1 28))] := hl
  unfold f_X9_wayHere at h
  refine lv_aload_n hx hb dX9_wayHere_0 rfl (lv_at hl 0 rfl) ?_
  refine va_ldcS (own := RX9) (q := G.2.2 (20 + 4)) hx hb hown (E.2.2.2.1.1.2.2.1 ("IceRegattaModel", 174, "starboard", 24) (List.mem_of_getElem? (i := 7) rfl)) dX9_wayHere_1 ?_
  refine q_Vi (As := [.ref (G.2.2 (20 + 4))]) (rest := []) E hh (c_X9_isWord l G _ _ _ _ h) (cwV 1 hts gX9_wayHere_X9_isWord rfl rfl rfl (by decide +kernel) ⟨Nat.le_of_ble_eq_true rfl, Nat.le_of_ble_eq_true rfl⟩) (va_recv (ci := 9) E.2.1 hh.1 rfl (WW_at_28 G σ)) rfl hl.1 rfl (Nat.le_of_ble_eq_true rfl) dX9_wayHere_3 ⟨Nat.zero_le _, Nat.zero_le _⟩ (fun r3 s3 H locs h hh => ?_)
  refine lv_if_eq (tgt := 13) hx hb dX9_wayHere_6 (by decide) (fun c9 => ?_) (fun c9 => ?_)
  · have h := h.1 c9
    refine lv_aload_n hx hb dX9_wayHere_13 rfl (lv_at hl 0 rfl) ?_
    refine va_ldcS (own := RX9) (q := G.2.2 (20 + 5)) hx hb hown (E.2.2.2.1.1.2.2.1 ("IceRegattaModel", 176, "leeward", 25) (List.mem_of_getElem? (i := 8) rfl)) dX9_wayHere_14 ?_
    refine q_Vi (As := [.ref (G.2.2 (20 + 5))]) (rest := []) E hh (c_X9_isWord l G _ _ _ _ h) (cwV 1 hts gX9_wayHere_X9_isWord rfl rfl rfl (by decide +kernel) ⟨Nat.le_of_ble_eq_true rfl, Nat.le_of_ble_eq_true rfl⟩) (va_recv (ci := 9) E.2.1 hh.1 rfl (WW_at_28 G s3)) rfl hl.1 rfl (Nat.le_of_ble_eq_true rfl) dX9_wayHere_16 ⟨Nat.zero_le _, Nat.zero_le _⟩ (fun r16 s16 H locs h hh => ?_)
    refine lv_if_eq (tgt := 26) hx hb dX9_wayHere_19 (by decide) (fun c9 => ?_) (fun c9 => ?_)
    · have h := h.1 c9
      refine lv_aload_n hx hb dX9_wayHere_26 rfl (lv_at hl 0 rfl) ?_
      refine va_ldcS (own := RX9) (q := G.2.2 (20 + 6)) hx hb hown (E.2.2.2.1.1.2.2.1 ("IceRegattaModel", 178, "ahead", 26) (List.mem_of_getElem? (i := 9) rfl)) dX9_wayHere_27 ?_
      refine q_Vi (As := [.ref (G.2.2 (20 + 6))]) (rest := []) E hh (c_X9_isWord l G _ _ _ _ h) (cwV 1 hts gX9_wayHere_X9_isWord rfl rfl rfl (by decide +kernel) ⟨Nat.le_of_ble_eq_true rfl, Nat.le_of_ble_eq_true rfl⟩) (va_recv (ci := 9) E.2.1 hh.1 rfl (WW_at_28 G s16)) rfl hl.1 rfl (Nat.le_of_ble_eq_true rfl) dX9_wayHere_29 ⟨Nat.zero_le _, Nat.zero_le _⟩ (fun r29 s29 H locs h hh => ?_)
      refine lv_if_eq (tgt := 39) hx hb dX9_wayHere_32 (by decide) (fun c9 => ?_) (fun c9 => ?_)
      · have h := h.1 c9
        refine lv_iconst (v := (-1 : Int32)) hx hb dX9_wayHere_39 (by decide) ?_
        exact q_iret E hh hr hlocks h dX9_wayHere_40
      · have h := h.2 c9
        refine lv_iconst (v := (2 : Int32)) hx hb dX9_wayHere_35 (by decide) ?_
        refine lv_goto (tgt := 40) hx hb dX9_wayHere_36 (by decide) ?_
        exact q_iret E hh hr hlocks h dX9_wayHere_40
    · have h := h.2 c9
      refine lv_iconst (v := (1 : Int32)) hx hb dX9_wayHere_22 (by decide) ?_
      refine lv_goto (tgt := 40) hx hb dX9_wayHere_23 (by decide) ?_
      exact q_iret E hh hr hlocks h dX9_wayHere_40
  · have h := h.2 c9
    refine lv_iconst (v := (0 : Int32)) hx hb dX9_wayHere_9 (by decide) ?_
    refine lv_goto (tgt := 40) hx hb dX9_wayHere_10 (by decide) ?_
    exact q_iret E hh hr hlocks h dX9_wayHere_40
def f_X9_ways_36 (Q : St → Prop) (K23 : St → Int32 → Prop) (rec : St → Int32 → Int32 → Prop) (σ : St) (l1 : Int32) (l2 : Int32) : Prop :=
  (((gi σ 40) ≤ l2 → (((gi σ 31) ≤ 0 → (vp_in (gi σ 40) 3 ∧ ((¬ l1 = 0 → ((¬ l1 = (1 : Int32) → f_X9_wayHere (si (si (sa σ 34 (upd (ga σ 34) (gi σ 40).toNatClampNeg l1)) 40 ((gi (sa σ 34 (upd (ga σ 34) (gi σ 40).toNatClampNeg l1)) 40) + (1 : Int32))) 30 ((gi (si (sa σ 34 (upd (ga σ 34) (gi σ 40).toNatClampNeg l1)) 40 ((gi (sa σ 34 (upd (ga σ 34) (gi σ 40).toNatClampNeg l1)) 40) + (1 : Int32))) 30) + (5 : Int32))) (fun r127 s127 => K23 s127 r127)) ∧ (l1 = (1 : Int32) → f_X9_wayHere (si (si (sa σ 34 (upd (ga σ 34) (gi σ 40).toNatClampNeg l1)) 40 ((gi (sa σ 34 (upd (ga σ 34) (gi σ 40).toNatClampNeg l1)) 40) + (1 : Int32))) 30 ((gi (si (sa σ 34 (upd (ga σ 34) (gi σ 40).toNatClampNeg l1)) 40 ((gi (sa σ 34 (upd (ga σ 34) (gi σ 40).toNatClampNeg l1)) 40) + (1 : Int32))) 30) + (7 : Int32))) (fun r127 s127 => K23 s127 r127)))) ∧ (l1 = 0 → f_X9_wayHere (si (si (sa σ 34 (upd (ga σ 34) (gi σ 40).toNatClampNeg l1)) 40 ((gi (sa σ 34 (upd (ga σ 34) (gi σ 40).toNatClampNeg l1)) 40) + (1 : Int32))) 30 ((gi (si (sa σ 34 (upd (ga σ 34) (gi σ 40).toNatClampNeg l1)) 40 ((gi (sa σ 34 (upd (ga σ 34) (gi σ 40).toNatClampNeg l1)) 40) + (1 : Int32))) 30) + (9 : Int32))) (fun r127 s127 => K23 s127 r127))))) ∧ (¬ (gi σ 31) ≤ 0 → Q σ))) ∧ (¬ (gi σ 40) ≤ l2 → (vp_in l2 3 ∧ ((¬ (ga σ 34 l2.toNatClampNeg) = l1 → rec σ l1 (l2 + 1)) ∧ ((ga σ 34 l2.toNatClampNeg) = l1 → f_X9_wrong σ (1 : Int32) (gi σ 30) (fun s60 => rec s60 l1 (l2 + 1)))))))
def f_X9_ways_36L (Q : St → Prop) (K23 : St → Int32 → Prop) : Nat → St → Int32 → Int32 → Prop
  | 0, _, _, _ => False
  | n + 1, σ, l1, l2 => f_X9_ways_36 Q K23 (f_X9_ways_36L Q K23 n) σ l1 l2
set_option maxHeartbeats 4000000 in
set_option maxRecDepth 100000 in
theorem w_X9_ways_36 {p : Program} {l : Launch} {e : Env} {s : State} {m : MethodId} {args : Array Value} {below : List Frame} {meth : Method} {c : Code} {G : GG} (E : EV p s m args c cX9_ways 3 wsX9_ways RX9 G (AD G s.heap.size)) (hr : meth.sig.returnType = none) (hlocks : meth.locks = false) {Q : St → Prop} {K23 : St → Int32 → Prop} (hK23 : ∀ (σ : St) (l1 : Int32) (H : Heap) (locs : List Loc) (ls : Array Slot), K23 σ l1 → HH G (AD G s.heap.size) s σ H locs → lv_has ls 3 [(0, .ref (G.2.1 28)), (1, .int l1)] → W p l e ({ frames := 6, cells := 0, slots := 0, locals := 127 }) s m args below meth c H locs 0 0 (MQv below G args s Q) (F0 m 23 ls [])) : ∀ (n : Nat) (σ : St) (l1 : Int32) (l2 : Int32) (H : Heap) (locs : List Loc) (ls : Array Slot), f_X9_ways_36L Q K23 n σ l1 l2 → HH G (AD G s.heap.size) s σ H locs → lv_has ls 3 [(0, .ref (G.2.1 28)), (1, .int l1), (2, .int l2)] → W p l e ({ frames := 6, cells := 0, slots := 0, locals := 127 }) s m args below meth c H locs 0 0 (MQv below G args s Q) (F0 m 36 ls []) := by
  have hx := E.1.1
  have hb := E.1.2.1
  have hown := E.1.2.2.2.1
  have hts := E.1.2.2.2.2
  have h_inX9 : ∀ w ∈ wsX90, w ∈ wsX9_ways := (fun _ h9 => (List.mem_cons_of_mem _ (List.mem_append_right _ h9)))
  intro n
  induction n with
  | zero =>
    intro σ l1 l2 H locs ls h
    exact h.elim
  | succ n ih =>
    intro σ l1 l2 H locs ls h hh hl
    have h : f_X9_ways_36 Q K23 (f_X9_ways_36L Q K23 n) σ l1 l2 := h
    unfold f_X9_ways_36 at h
    refine lv_iload_n hx hb dX9_ways_36 rfl (lv_at hl 2 rfl) ?_
    refine lv_aload_n hx hb dX9_ways_37 rfl (lv_at hl 0 rfl) ?_
    refine q_get (T := TX9) (v := .int (gi σ 40)) E hh h_inX9 28 (WW_at_28 G σ) rfl 22 (by decide) (List.mem_cons_of_mem _ (List.mem_append_left _ (List.mem_append_left _ (List.mem_of_getElem? (i := 0) rfl)))) rfl rfl dX9_ways_38 ?_
    refine lv_icmp_ge (tgt := 69) hx hb dX9_ways_41 (by decide) (fun c9 => ?_) (fun c9 => ?_)
    · have h := h.1 c9
      refine lv_aload_n hx hb dX9_ways_69 rfl (lv_at hl 0 rfl) ?_
      refine q_get (T := TX9) (v := .int (gi σ 31)) E hh h_inX9 28 (WW_at_28 G σ) rfl 12 (by decide) (List.mem_cons_of_mem _ (List.mem_append_left _ (List.mem_append_left _ (List.mem_of_getElem? (i := 2) rfl)))) rfl rfl dX9_ways_70 ?_
      refine lv_if_le (tgt := 77) hx hb dX9_ways_73 (by decide) (fun c9 => ?_) (fun c9 => ?_)
      · have h := h.1 c9
        refine lv_aload_n hx hb dX9_ways_77 rfl (lv_at hl 0 rfl) ?_
        refine q_get (T := TX9) (v := .ref (G.2.1 34)) E hh h_inX9 28 (WW_at_28 G σ) rfl 23 (by decide) (List.mem_cons_of_mem _ (List.mem_append_left _ (List.mem_append_left _ (List.mem_of_getElem? (i := 3) rfl)))) rfl rfl dX9_ways_78 ?_
        refine lv_aload_n hx hb dX9_ways_81 rfl (lv_at hl 0 rfl) ?_
        refine q_get (T := TX9) (v := .int (gi σ 40)) E hh h_inX9 28 (WW_at_28 G σ) rfl 22 (by decide) (List.mem_cons_of_mem _ (List.mem_append_left _ (List.mem_append_left _ (List.mem_of_getElem? (i := 0) rfl)))) rfl rfl dX9_ways_82 ?_
        refine lv_iload_n hx hb dX9_ways_85 rfl (lv_at hl 1 rfl) ?_
        obtain ⟨h0, h⟩ := h
        refine q_iast E hh 34 (WW_at_34 G σ) h0 dX9_ways_86 (WW_sa_34 G σ (upd (ga σ 34) (gi σ 40).toNatClampNeg l1)) (fun H locs hh => ?_)
        refine lv_aload_n hx hb dX9_ways_87 rfl (lv_at hl 0 rfl) ?_
        refine lv_dup hx hb dX9_ways_88 rfl ?_
        refine q_get (T := TX9) (v := .int (gi (sa σ 34 (upd (ga σ 34) (gi σ 40).toNatClampNeg l1)) 40)) E hh h_inX9 28 (WW_at_28 G (sa σ 34 (upd (ga σ 34) (gi σ 40).toNatClampNeg l1))) rfl 22 (by decide) (List.mem_cons_of_mem _ (List.mem_append_left _ (List.mem_append_left _ (List.mem_of_getElem? (i := 0) rfl)))) rfl rfl dX9_ways_89 ?_
        refine lv_iconst (v := (1 : Int32)) hx hb dX9_ways_92 (by decide) ?_
        refine lv_iadd hx hb dX9_ways_93 ?_
        refine q_put (T := TX9) E hh h_inX9 tyX9 tyX9_ok nmX9 28 (WW_at_28 G (sa σ 34 (upd (ga σ 34) (gi σ 40).toNatClampNeg l1))) rfl 22 (by decide) (List.mem_cons_of_mem _ (List.mem_append_left _ (List.mem_append_left _ (List.mem_of_getElem? (i := 0) rfl)))) rfl rfl (by decide +kernel) (Nat.le_of_ble_eq_true rfl) dX9_ways_94 (WW_si_40 G (sa σ 34 (upd (ga σ 34) (gi σ 40).toNatClampNeg l1)) ((gi (sa σ 34 (upd (ga σ 34) (gi σ 40).toNatClampNeg l1)) 40) + (1 : Int32))) (fun H locs hh => ?_)
        refine lv_aload_n hx hb dX9_ways_97 rfl (lv_at hl 0 rfl) ?_
        refine lv_dup hx hb dX9_ways_98 rfl ?_
        refine q_get (T := TX9) (v := .int (gi (si (sa σ 34 (upd (ga σ 34) (gi σ 40).toNatClampNeg l1)) 40 ((gi (sa σ 34 (upd (ga σ 34) (gi σ 40).toNatClampNeg l1)) 40) + (1 : Int32))) 30)) E hh h_inX9 28 (WW_at_28 G (si (sa σ 34 (upd (ga σ 34) (gi σ 40).toNatClampNeg l1)) 40 ((gi (sa σ 34 (upd (ga σ 34) (gi σ 40).toNatClampNeg l1)) 40) + (1 : Int32)))) rfl 11 (by decide) (List.mem_cons_of_mem _ (List.mem_append_left _ (List.mem_append_left _ (List.mem_of_getElem? (i := 1) rfl)))) rfl rfl dX9_ways_99 ?_
        refine lv_iload_n hx hb dX9_ways_102 rfl (lv_at hl 1 rfl) ?_
        refine lv_if_ne (tgt := 111) hx hb dX9_ways_103 (by decide) (fun c9 => ?_) (fun c9 => ?_)
        · have h := h.1 c9
          refine lv_iload_n hx hb dX9_ways_111 rfl (lv_at hl 1 rfl) ?_
          refine lv_iconst (v := (1 : Int32)) hx hb dX9_ways_112 (by decide) ?_
          refine lv_icmp_ne (tgt := 121) hx hb dX9_ways_113 (by decide) (fun c9 => ?_) (fun c9 => ?_)
          · have h := h.1 c9
            refine lv_iconst (v := (5 : Int32)) hx hb dX9_ways_121 (by decide) ?_
            refine lv_iadd hx hb dX9_ways_122 ?_
            refine q_put (T := TX9) E hh h_inX9 tyX9 tyX9_ok nmX9 28 (WW_at_28 G (si (sa σ 34 (upd (ga σ 34) (gi σ 40).toNatClampNeg l1)) 40 ((gi (sa σ 34 (upd (ga σ 34) (gi σ 40).toNatClampNeg l1)) 40) + (1 : Int32)))) rfl 11 (by decide) (List.mem_cons_of_mem _ (List.mem_append_left _ (List.mem_append_left _ (List.mem_of_getElem? (i := 1) rfl)))) rfl rfl (by decide +kernel) (Nat.le_of_ble_eq_true rfl) dX9_ways_123 (WW_si_30 G (si (sa σ 34 (upd (ga σ 34) (gi σ 40).toNatClampNeg l1)) 40 ((gi (sa σ 34 (upd (ga σ 34) (gi σ 40).toNatClampNeg l1)) 40) + (1 : Int32))) ((gi (si (sa σ 34 (upd (ga σ 34) (gi σ 40).toNatClampNeg l1)) 40 ((gi (sa σ 34 (upd (ga σ 34) (gi σ 40).toNatClampNeg l1)) 40) + (1 : Int32))) 30) + (5 : Int32))) (fun H locs hh => ?_)
            refine lv_aload_n hx hb dX9_ways_126 rfl (lv_at hl 0 rfl) ?_
            refine q_Vi (As := []) (rest := []) E hh (c_X9_wayHere l G _ _  _ h) (cwV 0 hts gX9_ways_X9_wayHere rfl rfl rfl (by decide +kernel) ⟨Nat.le_of_ble_eq_true rfl, Nat.le_of_ble_eq_true rfl⟩) (va_recv (ci := 9) E.2.1 hh.1 rfl (WW_at_28 G (si (si (sa σ 34 (upd (ga σ 34) (gi σ 40).toNatClampNeg l1)) 40 ((gi (sa σ 34 (upd (ga σ 34) (gi σ 40).toNatClampNeg l1)) 40) + (1 : Int32))) 30 ((gi (si (sa σ 34 (upd (ga σ 34) (gi σ 40).toNatClampNeg l1)) 40 ((gi (sa σ 34 (upd (ga σ 34) (gi σ 40).toNatClampNeg l1)) 40) + (1 : Int32))) 30) + (5 : Int32))))) rfl hl.1 rfl (Nat.le_of_ble_eq_true rfl) dX9_ways_127 ⟨Nat.zero_le _, Nat.zero_le _⟩ (fun r127 s127 H locs h hh => ?_)
            refine lv_istore_n (lv' := [(1, .int r127), (0, .ref (G.2.1 28)), (2, .int l2)]) hx hb dX9_ways_130 rfl hl (by decide) rfl (fun ls hl => ?_)
            refine lv_goto (tgt := 23) hx hb dX9_ways_131 (by decide) ?_
            exact hK23 _ _ _ _ _ h hh (lv_sub hl [1, 0] rfl)
          · have h := h.2 c9
            refine lv_bipush (v := (7 : Int32)) hx hb dX9_ways_116 (by decide) ?_
            refine lv_goto (tgt := 122) hx hb dX9_ways_118 (by decide) ?_
            refine lv_iadd hx hb dX9_ways_122 ?_
            refine q_put (T := TX9) E hh h_inX9 tyX9 tyX9_ok nmX9 28 (WW_at_28 G (si (sa σ 34 (upd (ga σ 34) (gi σ 40).toNatClampNeg l1)) 40 ((gi (sa σ 34 (upd (ga σ 34) (gi σ 40).toNatClampNeg l1)) 40) + (1 : Int32)))) rfl 11 (by decide) (List.mem_cons_of_mem _ (List.mem_append_left _ (List.mem_append_left _ (List.mem_of_getElem? (i := 1) rfl)))) rfl rfl (by decide +kernel) (Nat.le_of_ble_eq_true rfl) dX9_ways_123 (WW_si_30 G (si (sa σ 34 (upd (ga σ 34) (gi σ 40).toNatClampNeg l1)) 40 ((gi (sa σ 34 (upd (ga σ 34) (gi σ 40).toNatClampNeg l1)) 40) + (1 : Int32))) ((gi (si (sa σ 34 (upd (ga σ 34) (gi σ 40).toNatClampNeg l1)) 40 ((gi (sa σ 34 (upd (ga σ 34) (gi σ 40).toNatClampNeg l1)) 40) + (1 : Int32))) 30) + (7 : Int32))) (fun H locs hh => ?_)
            refine lv_aload_n hx hb dX9_ways_126 rfl (lv_at hl 0 rfl) ?_
            refine q_Vi (As := []) (rest := []) E hh (c_X9_wayHere l G _ _  _ h) (cwV 0 hts gX9_ways_X9_wayHere rfl rfl rfl (by decide +kernel) ⟨Nat.le_of_ble_eq_true rfl, Nat.le_of_ble_eq_true rfl⟩) (va_recv (ci := 9) E.2.1 hh.1 rfl (WW_at_28 G (si (si (sa σ 34 (upd (ga σ 34) (gi σ 40).toNatClampNeg l1)) 40 ((gi (sa σ 34 (upd (ga σ 34) (gi σ 40).toNatClampNeg l1)) 40) + (1 : Int32))) 30 ((gi (si (sa σ 34 (upd (ga σ 34) (gi σ 40).toNatClampNeg l1)) 40 ((gi (sa σ 34 (upd (ga σ 34) (gi σ 40).toNatClampNeg l1)) 40) + (1 : Int32))) 30) + (7 : Int32))))) rfl hl.1 rfl (Nat.le_of_ble_eq_true rfl) dX9_ways_127 ⟨Nat.zero_le _, Nat.zero_le _⟩ (fun r127 s127 H locs h hh => ?_)
            refine lv_istore_n (lv' := [(1, .int r127), (0, .ref (G.2.1 28)), (2, .int l2)]) hx hb dX9_ways_130 rfl hl (by decide) rfl (fun ls hl => ?_)
            refine lv_goto (tgt := 23) hx hb dX9_ways_131 (by decide) ?_
            exact hK23 _ _ _ _ _ h hh (lv_sub hl [1, 0] rfl)
        · have h := h.2 c9
          refine lv_bipush (v := (9 : Int32)) hx hb dX9_ways_106 (by decide) ?_
          refine lv_goto (tgt := 122) hx hb dX9_ways_108 (by decide) ?_
          refine lv_iadd hx hb dX9_ways_122 ?_
          refine q_put (T := TX9) E hh h_inX9 tyX9 tyX9_ok nmX9 28 (WW_at_28 G (si (sa σ 34 (upd (ga σ 34) (gi σ 40).toNatClampNeg l1)) 40 ((gi (sa σ 34 (upd (ga σ 34) (gi σ 40).toNatClampNeg l1)) 40) + (1 : Int32)))) rfl 11 (by decide) (List.mem_cons_of_mem _ (List.mem_append_left _ (List.mem_append_left _ (List.mem_of_getElem? (i := 1) rfl)))) rfl rfl (by decide +kernel) (Nat.le_of_ble_eq_true rfl) dX9_ways_123 (WW_si_30 G (si (sa σ 34 (upd (ga σ 34) (gi σ 40).toNatClampNeg l1)) 40 ((gi (sa σ 34 (upd (ga σ 34) (gi σ 40).toNatClampNeg l1)) 40) + (1 : Int32))) ((gi (si (sa σ 34 (upd (ga σ 34) (gi σ 40).toNatClampNeg l1)) 40 ((gi (sa σ 34 (upd (ga σ 34) (gi σ 40).toNatClampNeg l1)) 40) + (1 : Int32))) 30) + (9 : Int32))) (fun H locs hh => ?_)
          refine lv_aload_n hx hb dX9_ways_126 rfl (lv_at hl 0 rfl) ?_
          refine q_Vi (As := []) (rest := []) E hh (c_X9_wayHere l G _ _  _ h) (cwV 0 hts gX9_ways_X9_wayHere rfl rfl rfl (by decide +kernel) ⟨Nat.le_of_ble_eq_true rfl, Nat.le_of_ble_eq_true rfl⟩) (va_recv (ci := 9) E.2.1 hh.1 rfl (WW_at_28 G (si (si (sa σ 34 (upd (ga σ 34) (gi σ 40).toNatClampNeg l1)) 40 ((gi (sa σ 34 (upd (ga σ 34) (gi σ 40).toNatClampNeg l1)) 40) + (1 : Int32))) 30 ((gi (si (sa σ 34 (upd (ga σ 34) (gi σ 40).toNatClampNeg l1)) 40 ((gi (sa σ 34 (upd (ga σ 34) (gi σ 40).toNatClampNeg l1)) 40) + (1 : Int32))) 30) + (9 : Int32))))) rfl hl.1 rfl (Nat.le_of_ble_eq_true rfl) dX9_ways_127 ⟨Nat.zero_le _, Nat.zero_le _⟩ (fun r127 s127 H locs h hh => ?_)
          refine lv_istore_n (lv' := [(1, .int r127), (0, .ref (G.2.1 28)), (2, .int l2)]) hx hb dX9_ways_130 rfl hl (by decide) rfl (fun ls hl => ?_)
          refine lv_goto (tgt := 23) hx hb dX9_ways_131 (by decide) ?_
          exact hK23 _ _ _ _ _ h hh (lv_sub hl [1, 0] rfl)
      · have h := h.2 c9
        exact q_vret E hh hr hlocks h dX9_ways_76
    · have h := h.2 c9
      refine lv_aload_n hx hb dX9_ways_44 rfl (lv_at hl 0 rfl) ?_
      refine q_get (T := TX9) (v := .ref (G.2.1 34)) E hh h_inX9 28 (WW_at_28 G σ) rfl 23 (by decide) (List.mem_cons_of_mem _ (List.mem_append_left _ (List.mem_append_left _ (List.mem_of_getElem? (i := 3) rfl)))) rfl rfl dX9_ways_45 ?_
      refine lv_iload_n hx hb dX9_ways_48 rfl (lv_at hl 2 rfl) ?_
      obtain ⟨h0, h⟩ := h
      refine q_iald E hh 34 (WW_at_34 G σ) h0 dX9_ways_49 ?_
      refine lv_iload_n hx hb dX9_ways_50 rfl (lv_at hl 1 rfl) ?_
      refine lv_icmp_ne (tgt := 63) hx hb dX9_ways_51 (by decide) (fun c9 => ?_) (fun c9 => ?_)
      · have h := h.1 c9
        refine lv_iinc (v := (l2 + 1)) (lv' := [(2, .int (l2 + 1)), (0, .ref (G.2.1 28)), (1, .int l1)]) hx hb dX9_ways_63 hl (k := 2) rfl rfl (by decide) rfl (fun ls hl => ?_)
        refine lv_goto (tgt := 36) hx hb dX9_ways_66 (by decide) ?_
        exact ih _ _ _ _ _ _ h hh (lv_sub hl [1, 2, 0] rfl)
      · have h := h.2 c9
        refine lv_aload_n hx hb dX9_ways_54 rfl (lv_at hl 0 rfl) ?_
        refine lv_iconst (v := (1 : Int32)) hx hb dX9_ways_55 (by decide) ?_
        refine lv_aload_n hx hb dX9_ways_56 rfl (lv_at hl 0 rfl) ?_
        refine q_get (T := TX9) (v := .int (gi σ 30)) E hh h_inX9 28 (WW_at_28 G σ) rfl 11 (by decide) (List.mem_cons_of_mem _ (List.mem_append_left _ (List.mem_append_left _ (List.mem_of_getElem? (i := 1) rfl)))) rfl rfl dX9_ways_57 ?_
        refine q_Vv (As := [.int (1 : Int32), .int (gi σ 30)]) (rest := []) E hh (c_X9_wrong l G _ _ _ _ _ h) (cwV 2 hts gX9_ways_X9_wrong rfl rfl rfl (by decide +kernel) ⟨Nat.le_of_ble_eq_true rfl, Nat.le_of_ble_eq_true rfl⟩) (va_recv (ci := 9) E.2.1 hh.1 rfl (WW_at_28 G σ)) rfl hl.1 rfl (Nat.le_of_ble_eq_true rfl) dX9_ways_60 ⟨Nat.zero_le _, Nat.zero_le _⟩ (fun s60 H locs h hh => ?_)
        refine lv_iinc (v := (l2 + 1)) (lv' := [(2, .int (l2 + 1)), (0, .ref (G.2.1 28)), (1, .int l1)]) hx hb dX9_ways_63 hl (k := 2) rfl rfl (by decide) rfl (fun ls hl => ?_)
        refine lv_goto (tgt := 36) hx hb dX9_ways_66 (by decide) ?_
        exact ih _ _ _ _ _ _ h hh (lv_sub hl [1, 2, 0] rfl)
def f_X9_ways_23 (Q : St → Prop)  (rec : St → Int32 → Prop) (σ : St) (l1 : Int32) : Prop :=
  ((l1 < 0 → Q σ) ∧ (¬ l1 < 0 → ((¬ (gi σ 31) = 0 → Q σ) ∧ ((gi σ 31) = 0 → f_X9_ways_36L Q rec FU σ l1 (0 : Int32)))))
def f_X9_ways_23L (Q : St → Prop)  : Nat → St → Int32 → Prop
  | 0, _, _ => False
  | n + 1, σ, l1 => f_X9_ways_23 Q  (f_X9_ways_23L Q  n) σ l1
set_option maxHeartbeats 4000000 in
set_option maxRecDepth 100000 in
theorem w_X9_ways_23 {p : Program} {l : Launch} {e : Env} {s : State} {m : MethodId} {args : Array Value} {below : List Frame} {meth : Method} {c : Code} {G : GG} (E : EV p s m args c cX9_ways 3 wsX9_ways RX9 G (AD G s.heap.size)) (hr : meth.sig.returnType = none) (hlocks : meth.locks = false) {Q : St → Prop}  : ∀ (n : Nat) (σ : St) (l1 : Int32) (H : Heap) (locs : List Loc) (ls : Array Slot), f_X9_ways_23L Q  n σ l1 → HH G (AD G s.heap.size) s σ H locs → lv_has ls 3 [(0, .ref (G.2.1 28)), (1, .int l1)] → W p l e ({ frames := 6, cells := 0, slots := 0, locals := 127 }) s m args below meth c H locs 0 0 (MQv below G args s Q) (F0 m 23 ls []) := by
  have hx := E.1.1
  have hb := E.1.2.1
  have hown := E.1.2.2.2.1
  have hts := E.1.2.2.2.2
  have h_inX9 : ∀ w ∈ wsX90, w ∈ wsX9_ways := (fun _ h9 => (List.mem_cons_of_mem _ (List.mem_append_right _ h9)))
  intro n
  induction n with
  | zero =>
    intro σ l1 H locs ls h
    exact h.elim
  | succ n ih =>
    intro σ l1 H locs ls h hh hl
    have h : f_X9_ways_23 Q  (f_X9_ways_23L Q  n) σ l1 := h
    unfold f_X9_ways_23 at h
    refine lv_iload_n hx hb dX9_ways_23 rfl (lv_at hl 1 rfl) ?_
    refine lv_if_lt (tgt := 134) hx hb dX9_ways_24 (by decide) (fun c9 => ?_) (fun c9 => ?_)
    · have h := h.1 c9
      exact q_vret E hh hr hlocks h dX9_ways_134
    · have h := h.2 c9
      refine lv_aload_n hx hb dX9_ways_27 rfl (lv_at hl 0 rfl) ?_
      refine q_get (T := TX9) (v := .int (gi σ 31)) E hh h_inX9 28 (WW_at_28 G σ) rfl 12 (by decide) (List.mem_cons_of_mem _ (List.mem_append_left _ (List.mem_append_left _ (List.mem_of_getElem? (i := 2) rfl)))) rfl rfl dX9_ways_28 ?_
      refine lv_if_ne (tgt := 134) hx hb dX9_ways_31 (by decide) (fun c9 => ?_) (fun c9 => ?_)
      · have h := h.1 c9
        exact q_vret E hh hr hlocks h dX9_ways_134
      · have h := h.2 c9
        refine lv_iconst (v := (0 : Int32)) hx hb dX9_ways_34 (by decide) ?_
        refine lv_istore_n (lv' := [(2, .int (0 : Int32)), (0, .ref (G.2.1 28)), (1, .int l1)]) hx hb dX9_ways_35 rfl hl (by decide) rfl (fun ls hl => ?_)
        exact w_X9_ways_36 E hr hlocks ih FU _ _ _ _ _ _ h hh (lv_sub hl [1, 2, 0] rfl)
def f_X9_ways (σ : St)  (Q : St → Prop) : Prop :=
  f_X9_wayHere (si σ 40 (0 : Int32)) (fun r6 s6 => ((0 ≤ r6 → f_X9_ways_23L Q FU s6 r6) ∧ (¬ 0 ≤ r6 → f_X9_wrong s6 (1 : Int32) (gi s6 30) (fun s20 => f_X9_ways_23L Q FU s20 r6))))
set_option maxHeartbeats 4000000 in
set_option maxRecDepth 100000 in
theorem c_X9_ways (l : Launch) (G : GG) (σ : St) (sz : Nat)  (Q : St → Prop) (h : f_X9_ways σ  Q) : CTv l yX9_ways wsX9_ways ({ frames := 6, cells := 0, slots := 0, locals := 127 }) [.ref (G.2.1 28)] G σ sz Q := by
  refine Met.ofW (cc := cX9_ways) (maxL := 3) (ret := none) (by decide) rfl ?_
  intro p e s m args below meth c s₁ B hml hv
  obtain ⟨rfl, hpre⟩ := hv
  have hr := B.returns
  have hlocks := B.notSynchronized
  obtain ⟨hsz, -⟩ := id hpre
  subst hsz
  obtain ⟨E, hh⟩ := EV.ofPre (⟨B.exec, B.bytes, hml, findClass_of_methodNamed B.named, atoms_spec (ws := wsX9_ways) B.pre⟩ : CallFix p m c cX9_ways 3 s _ wsX9_ways RX9) hpre
  have hx := E.1.1
  have hb := E.1.2.1
  have hown := E.1.2.2.2.1
  have hts := E.1.2.2.2.2
  have h_inX9 : ∀ w ∈ wsX90, w ∈ wsX9_ways := (fun _ h9 => (List.mem_cons_of_mem _ (List.mem_append_right _ h9)))
  have hl := lv_entry ([.ref (G.2.1 28)]) (n := 3) (Nat.le_of_ble_eq_true rfl)
  rw [lg_entry_eq]
  generalize (lg_sl ([.ref (G.2.1 28)]) ++ List.replicate (3 - (lg_sl ([.ref (G.2.1 28)])).length) Slot.unset).toArray = ls at hl ⊢
  have hl : lv_has ls 3 [(0, .ref (G.2.1 28))] := hl
  unfold f_X9_ways at h
  refine lv_aload_n hx hb dX9_ways_0 rfl (lv_at hl 0 rfl) ?_
  refine lv_iconst (v := (0 : Int32)) hx hb dX9_ways_1 (by decide) ?_
  refine q_put (T := TX9) E hh h_inX9 tyX9 tyX9_ok nmX9 28 (WW_at_28 G σ) rfl 22 (by decide) (List.mem_cons_of_mem _ (List.mem_append_left _ (List.mem_append_left _ (List.mem_of_getElem? (i := 0) rfl)))) rfl rfl (by decide +kernel) (Nat.le_of_ble_eq_true rfl) dX9_ways_2 (WW_si_40 G σ (0 : Int32)) (fun H locs hh => ?_)
  refine lv_aload_n hx hb dX9_ways_5 rfl (lv_at hl 0 rfl) ?_
  refine q_Vi (As := []) (rest := []) E hh (c_X9_wayHere l G _ _  _ h) (cwV 0 hts gX9_ways_X9_wayHere rfl rfl rfl (by decide +kernel) ⟨Nat.le_of_ble_eq_true rfl, Nat.le_of_ble_eq_true rfl⟩) (va_recv (ci := 9) E.2.1 hh.1 rfl (WW_at_28 G (si σ 40 (0 : Int32)))) rfl hl.1 rfl (Nat.le_of_ble_eq_true rfl) dX9_ways_6 ⟨Nat.zero_le _, Nat.zero_le _⟩ (fun r6 s6 H locs h hh => ?_)
  refine lv_istore_n (lv' := [(1, .int r6), (0, .ref (G.2.1 28))]) hx hb dX9_ways_9 rfl hl (by decide) rfl (fun ls hl => ?_)
  refine lv_iload_n hx hb dX9_ways_10 rfl (lv_at hl 0 rfl) ?_
  refine lv_if_ge (tgt := 23) hx hb dX9_ways_11 (by decide) (fun c9 => ?_) (fun c9 => ?_)
  · have h := h.1 c9
    exact w_X9_ways_23 E hr hlocks  FU _ _ _ _ _ h hh (lv_sub hl [1, 0] rfl)
  · have h := h.2 c9
    refine lv_aload_n hx hb dX9_ways_14 rfl (lv_at hl 1 rfl) ?_
    refine lv_iconst (v := (1 : Int32)) hx hb dX9_ways_15 (by decide) ?_
    refine lv_aload_n hx hb dX9_ways_16 rfl (lv_at hl 1 rfl) ?_
    refine q_get (T := TX9) (v := .int (gi s6 30)) E hh h_inX9 28 (WW_at_28 G s6) rfl 11 (by decide) (List.mem_cons_of_mem _ (List.mem_append_left _ (List.mem_append_left _ (List.mem_of_getElem? (i := 1) rfl)))) rfl rfl dX9_ways_17 ?_
    refine q_Vv (As := [.int (1 : Int32), .int (gi s6 30)]) (rest := []) E hh (c_X9_wrong l G _ _ _ _ _ h) (cwV 2 hts gX9_ways_X9_wrong rfl rfl rfl (by decide +kernel) ⟨Nat.le_of_ble_eq_true rfl, Nat.le_of_ble_eq_true rfl⟩) (va_recv (ci := 9) E.2.1 hh.1 rfl (WW_at_28 G s6)) rfl hl.1 rfl (Nat.le_of_ble_eq_true rfl) dX9_ways_20 ⟨Nat.zero_le _, Nat.zero_le _⟩ (fun s20 H locs h hh => ?_)
    exact w_X9_ways_23 E hr hlocks  FU _ _ _ _ _ h hh (lv_sub hl [1, 0] rfl)
def f_X9_clause_91 (Q : St → Prop)  (σ : St)  : Prop :=
  (((gi σ 31) ≤ 0 → f_X9_blanks σ (fun s100 => f_X9_byteAt s100 (gi s100 30) (fun r108 s108 => ((r108 = (59 : Int32) → Q (si s108 30 ((gi s108 30) + (1 : Int32)))) ∧ (¬ r108 = (59 : Int32) → f_X9_wrong s108 (1 : Int32) (gi s108 30) (fun s122 => Q (si s122 30 ((gi s122 30) + (1 : Int32))))))))) ∧ (¬ (gi σ 31) ≤ 0 → Q σ))
set_option maxHeartbeats 4000000 in
set_option maxRecDepth 100000 in
theorem w_X9_clause_91 {p : Program} {l : Launch} {e : Env} {s : State} {m : MethodId} {args : Array Value} {below : List Frame} {meth : Method} {c : Code} {G : GG} (E : EV p s m args c cX9_clause 1 wsX9_clause RX9 G (AD G s.heap.size)) (hr : meth.sig.returnType = none) (hlocks : meth.locks = false) {Q : St → Prop}  : ∀ (σ : St)  (H : Heap) (locs : List Loc) (ls : Array Slot), f_X9_clause_91 Q  σ  → HH G (AD G s.heap.size) s σ H locs → lv_has ls 1 [(0, .ref (G.2.1 28))] → W p l e ({ frames := 7, cells := 0, slots := 0, locals := 149 }) s m args below meth c H locs 0 0 (MQv below G args s Q) (F0 m 91 ls []) := by
  have hx := E.1.1
  have hb := E.1.2.1
  have hown := E.1.2.2.2.1
  have hts := E.1.2.2.2.2
  have h_inX9 : ∀ w ∈ wsX90, w ∈ wsX9_clause := (fun _ h9 => (List.mem_cons_of_mem _ (List.mem_append_right _ h9)))
  intro σ  H locs ls h hh hl
  unfold f_X9_clause_91 at h
  refine lv_aload_n hx hb dX9_clause_91 rfl (lv_at hl 0 rfl) ?_
  refine q_get (T := TX9) (v := .int (gi σ 31)) E hh h_inX9 28 (WW_at_28 G σ) rfl 12 (by decide) (List.mem_cons_of_mem _ (List.mem_append_left _ (List.mem_append_left _ (List.mem_of_getElem? (i := 4) rfl)))) rfl rfl dX9_clause_92 ?_
  refine lv_if_le (tgt := 99) hx hb dX9_clause_95 (by decide) (fun c9 => ?_) (fun c9 => ?_)
  · have h := h.1 c9
    refine lv_aload_n hx hb dX9_clause_99 rfl (lv_at hl 0 rfl) ?_
    refine q_Vv (As := []) (rest := []) E hh (c_X9_blanks l G _ _  _ h) (cwV 0 hts gX9_clause_X9_blanks rfl rfl rfl (by decide +kernel) ⟨Nat.le_of_ble_eq_true rfl, Nat.le_of_ble_eq_true rfl⟩) (va_recv (ci := 9) E.2.1 hh.1 rfl (WW_at_28 G σ)) rfl hl.1 rfl (Nat.le_of_ble_eq_true rfl) dX9_clause_100 ⟨Nat.zero_le _, Nat.zero_le _⟩ (fun s100 H locs h hh => ?_)
    refine lv_aload_n hx hb dX9_clause_103 rfl (lv_at hl 0 rfl) ?_
    refine lv_aload_n hx hb dX9_clause_104 rfl (lv_at hl 0 rfl) ?_
    refine q_get (T := TX9) (v := .int (gi s100 30)) E hh h_inX9 28 (WW_at_28 G s100) rfl 11 (by decide) (List.mem_cons_of_mem _ (List.mem_append_left _ (List.mem_append_left _ (List.mem_of_getElem? (i := 2) rfl)))) rfl rfl dX9_clause_105 ?_
    refine q_Vi (As := [.int (gi s100 30)]) (rest := []) E hh (c_X9_byteAt l G _ _ _ _ h) (cwV 1 hts gX9_clause_X9_byteAt rfl rfl rfl (by decide +kernel) ⟨Nat.le_of_ble_eq_true rfl, Nat.le_of_ble_eq_true rfl⟩) (va_recv (ci := 9) E.2.1 hh.1 rfl (WW_at_28 G s100)) rfl hl.1 rfl (Nat.le_of_ble_eq_true rfl) dX9_clause_108 ⟨Nat.zero_le _, Nat.zero_le _⟩ (fun r108 s108 H locs h hh => ?_)
    refine lv_bipush (v := (59 : Int32)) hx hb dX9_clause_111 (by decide) ?_
    refine lv_icmp_eq (tgt := 125) hx hb dX9_clause_113 (by decide) (fun c9 => ?_) (fun c9 => ?_)
    · have h := h.1 c9
      refine lv_aload_n hx hb dX9_clause_125 rfl (lv_at hl 0 rfl) ?_
      refine lv_dup hx hb dX9_clause_126 rfl ?_
      refine q_get (T := TX9) (v := .int (gi s108 30)) E hh h_inX9 28 (WW_at_28 G s108) rfl 11 (by decide) (List.mem_cons_of_mem _ (List.mem_append_left _ (List.mem_append_left _ (List.mem_of_getElem? (i := 2) rfl)))) rfl rfl dX9_clause_127 ?_
      refine lv_iconst (v := (1 : Int32)) hx hb dX9_clause_130 (by decide) ?_
      refine lv_iadd hx hb dX9_clause_131 ?_
      refine q_put (T := TX9) E hh h_inX9 tyX9 tyX9_ok nmX9 28 (WW_at_28 G s108) rfl 11 (by decide) (List.mem_cons_of_mem _ (List.mem_append_left _ (List.mem_append_left _ (List.mem_of_getElem? (i := 2) rfl)))) rfl rfl (by decide +kernel) (Nat.le_of_ble_eq_true rfl) dX9_clause_132 (WW_si_30 G s108 ((gi s108 30) + (1 : Int32))) (fun H locs hh => ?_)
      exact q_vret E hh hr hlocks h dX9_clause_135
    · have h := h.2 c9
      refine lv_aload_n hx hb dX9_clause_116 rfl (lv_at hl 0 rfl) ?_
      refine lv_iconst (v := (1 : Int32)) hx hb dX9_clause_117 (by decide) ?_
      refine lv_aload_n hx hb dX9_clause_118 rfl (lv_at hl 0 rfl) ?_
      refine q_get (T := TX9) (v := .int (gi s108 30)) E hh h_inX9 28 (WW_at_28 G s108) rfl 11 (by decide) (List.mem_cons_of_mem _ (List.mem_append_left _ (List.mem_append_left _ (List.mem_of_getElem? (i := 2) rfl)))) rfl rfl dX9_clause_119 ?_
      refine q_Vv (As := [.int (1 : Int32), .int (gi s108 30)]) (rest := []) E hh (c_X9_wrong l G _ _ _ _ _ h) (cwV 2 hts gX9_clause_X9_wrong rfl rfl rfl (by decide +kernel) ⟨Nat.le_of_ble_eq_true rfl, Nat.le_of_ble_eq_true rfl⟩) (va_recv (ci := 9) E.2.1 hh.1 rfl (WW_at_28 G s108)) rfl hl.1 rfl (Nat.le_of_ble_eq_true rfl) dX9_clause_122 ⟨Nat.zero_le _, Nat.zero_le _⟩ (fun s122 H locs h hh => ?_)
      refine lv_aload_n hx hb dX9_clause_125 rfl (lv_at hl 0 rfl) ?_
      refine lv_dup hx hb dX9_clause_126 rfl ?_
      refine q_get (T := TX9) (v := .int (gi s122 30)) E hh h_inX9 28 (WW_at_28 G s122) rfl 11 (by decide) (List.mem_cons_of_mem _ (List.mem_append_left _ (List.mem_append_left _ (List.mem_of_getElem? (i := 2) rfl)))) rfl rfl dX9_clause_127 ?_
      refine lv_iconst (v := (1 : Int32)) hx hb dX9_clause_130 (by decide) ?_
      refine lv_iadd hx hb dX9_clause_131 ?_
      refine q_put (T := TX9) E hh h_inX9 tyX9 tyX9_ok nmX9 28 (WW_at_28 G s122) rfl 11 (by decide) (List.mem_cons_of_mem _ (List.mem_append_left _ (List.mem_append_left _ (List.mem_of_getElem? (i := 2) rfl)))) rfl rfl (by decide +kernel) (Nat.le_of_ble_eq_true rfl) dX9_clause_132 (WW_si_30 G s122 ((gi s122 30) + (1 : Int32))) (fun H locs hh => ?_)
      exact q_vret E hh hr hlocks h dX9_clause_135
  · have h := h.2 c9
    exact q_vret E hh hr hlocks h dX9_clause_98
def f_X9_clause (σ : St)  (Q : St → Prop) : Prop :=
  f_X9_eat σ 0 (fun r3 s3 => ((r3 = 0 → f_X9_eat s3 1 (fun r23 s23 => ((r23 = 0 → f_X9_eat s23 2 (fun r69 s69 => ((r69 = 0 → f_X9_wrong s69 (1 : Int32) (gi s69 30) (fun s88 => f_X9_clause_91 Q s88)) ∧ (¬ r69 = 0 → f_X9_ways s69 (fun s76 => f_X9_clause_91 Q s76))))) ∧ (¬ r23 = 0 → f_X9_number s23 (fun r31 s31 => f_X9_eat (si s31 38 r31) 3 (fun r40 s40 => ((¬ r40 = 0 → f_X9_number s40 (fun r57 s57 => f_X9_clause_91 Q (si s57 39 r57))) ∧ (r40 = 0 → f_X9_wrong s40 (1 : Int32) (gi s40 30) (fun s52 => f_X9_number s52 (fun r57 s57 => f_X9_clause_91 Q (si s57 39 r57))))))))))) ∧ (¬ r3 = 0 → f_X9_number s3 (fun r11 s11 => f_X9_clause_91 Q (si s11 37 r11)))))
set_option maxHeartbeats 4000000 in
set_option maxRecDepth 100000 in
theorem c_X9_clause (l : Launch) (G : GG) (σ : St) (sz : Nat)  (Q : St → Prop) (h : f_X9_clause σ  Q) : CTv l yX9_clause wsX9_clause ({ frames := 7, cells := 0, slots := 0, locals := 149 }) [.ref (G.2.1 28)] G σ sz Q := by
  refine Met.ofW (cc := cX9_clause) (maxL := 1) (ret := none) (by decide) rfl ?_
  intro p e s m args below meth c s₁ B hml hv
  obtain ⟨rfl, hpre⟩ := hv
  have hr := B.returns
  have hlocks := B.notSynchronized
  obtain ⟨hsz, -⟩ := id hpre
  subst hsz
  obtain ⟨E, hh⟩ := EV.ofPre (⟨B.exec, B.bytes, hml, findClass_of_methodNamed B.named, atoms_spec (ws := wsX9_clause) B.pre⟩ : CallFix p m c cX9_clause 1 s _ wsX9_clause RX9) hpre
  have hx := E.1.1
  have hb := E.1.2.1
  have hown := E.1.2.2.2.1
  have hts := E.1.2.2.2.2
  have h_inX9 : ∀ w ∈ wsX90, w ∈ wsX9_clause := (fun _ h9 => (List.mem_cons_of_mem _ (List.mem_append_right _ h9)))
  have hl := lv_entry ([.ref (G.2.1 28)]) (n := 1) (Nat.le_of_ble_eq_true rfl)
  rw [lg_entry_eq]
  generalize (lg_sl ([.ref (G.2.1 28)]) ++ List.replicate (1 - (lg_sl ([.ref (G.2.1 28)])).length) Slot.unset).toArray = ls at hl ⊢
  have hl : lv_has ls 1 [(0, .ref (G.2.1 28))] := hl
  unfold f_X9_clause at h
  refine lv_aload_n hx hb dX9_clause_0 rfl (lv_at hl 0 rfl) ?_
  refine va_ldcS (own := RX9) (q := G.2.2 (20 + 0)) hx hb hown (E.2.2.2.1.1.2.2.1 ("IceRegattaModel", 186, "ice", 20) (List.mem_of_getElem? (i := 10) rfl)) dX9_clause_1 ?_
  refine q_Vi (As := [.ref (G.2.2 (20 + 0))]) (rest := []) E hh (c_X9_eat l G _ _ _ _ h) (cwV 1 hts gX9_clause_X9_eat rfl rfl rfl (by decide +kernel) ⟨Nat.le_of_ble_eq_true rfl, Nat.le_of_ble_eq_true rfl⟩) (va_recv (ci := 9) E.2.1 hh.1 rfl (WW_at_28 G σ)) rfl hl.1 rfl (Nat.le_of_ble_eq_true rfl) dX9_clause_3 ⟨Nat.zero_le _, Nat.zero_le _⟩ (fun r3 s3 H locs h hh => ?_)
  refine lv_if_eq (tgt := 20) hx hb dX9_clause_6 (by decide) (fun c9 => ?_) (fun c9 => ?_)
  · have h := h.1 c9
    refine lv_aload_n hx hb dX9_clause_20 rfl (lv_at hl 0 rfl) ?_
    refine va_ldcS (own := RX9) (q := G.2.2 (20 + 1)) hx hb hown (E.2.2.2.1.1.2.2.1 ("IceRegattaModel", 197, "drop", 21) (List.mem_of_getElem? (i := 11) rfl)) dX9_clause_21 ?_
    refine q_Vi (As := [.ref (G.2.2 (20 + 1))]) (rest := []) E hh (c_X9_eat l G _ _ _ _ h) (cwV 1 hts gX9_clause_X9_eat rfl rfl rfl (by decide +kernel) ⟨Nat.le_of_ble_eq_true rfl, Nat.le_of_ble_eq_true rfl⟩) (va_recv (ci := 9) E.2.1 hh.1 rfl (WW_at_28 G s3)) rfl hl.1 rfl (Nat.le_of_ble_eq_true rfl) dX9_clause_23 ⟨Nat.zero_le _, Nat.zero_le _⟩ (fun r23 s23 H locs h hh => ?_)
    refine lv_if_eq (tgt := 66) hx hb dX9_clause_26 (by decide) (fun c9 => ?_) (fun c9 => ?_)
    · have h := h.1 c9
      refine lv_aload_n hx hb dX9_clause_66 rfl (lv_at hl 0 rfl) ?_
      refine va_ldcS (own := RX9) (q := G.2.2 (20 + 2)) hx hb hown (E.2.2.2.1.1.2.2.1 ("IceRegattaModel", 207, "way", 22) (List.mem_of_getElem? (i := 13) rfl)) dX9_clause_67 ?_
      refine q_Vi (As := [.ref (G.2.2 (20 + 2))]) (rest := []) E hh (c_X9_eat l G _ _ _ _ h) (cwV 1 hts gX9_clause_X9_eat rfl rfl rfl (by decide +kernel) ⟨Nat.le_of_ble_eq_true rfl, Nat.le_of_ble_eq_true rfl⟩) (va_recv (ci := 9) E.2.1 hh.1 rfl (WW_at_28 G s23)) rfl hl.1 rfl (Nat.le_of_ble_eq_true rfl) dX9_clause_69 ⟨Nat.zero_le _, Nat.zero_le _⟩ (fun r69 s69 H locs h hh => ?_)
      refine lv_if_eq (tgt := 82) hx hb dX9_clause_72 (by decide) (fun c9 => ?_) (fun c9 => ?_)
      · have h := h.1 c9
        refine lv_aload_n hx hb dX9_clause_82 rfl (lv_at hl 0 rfl) ?_
        refine lv_iconst (v := (1 : Int32)) hx hb dX9_clause_83 (by decide) ?_
        refine lv_aload_n hx hb dX9_clause_84 rfl (lv_at hl 0 rfl) ?_
        refine q_get (T := TX9) (v := .int (gi s69 30)) E hh h_inX9 28 (WW_at_28 G s69) rfl 11 (by decide) (List.mem_cons_of_mem _ (List.mem_append_left _ (List.mem_append_left _ (List.mem_of_getElem? (i := 2) rfl)))) rfl rfl dX9_clause_85 ?_
        refine q_Vv (As := [.int (1 : Int32), .int (gi s69 30)]) (rest := []) E hh (c_X9_wrong l G _ _ _ _ _ h) (cwV 2 hts gX9_clause_X9_wrong rfl rfl rfl (by decide +kernel) ⟨Nat.le_of_ble_eq_true rfl, Nat.le_of_ble_eq_true rfl⟩) (va_recv (ci := 9) E.2.1 hh.1 rfl (WW_at_28 G s69)) rfl hl.1 rfl (Nat.le_of_ble_eq_true rfl) dX9_clause_88 ⟨Nat.zero_le _, Nat.zero_le _⟩ (fun s88 H locs h hh => ?_)
        exact w_X9_clause_91 E hr hlocks  _ _ _ _ h hh (lv_sub hl [0] rfl)
      · have h := h.2 c9
        refine lv_aload_n hx hb dX9_clause_75 rfl (lv_at hl 0 rfl) ?_
        refine q_Vv (As := []) (rest := []) E hh (c_X9_ways l G _ _  _ h) (cwV 0 hts gX9_clause_X9_ways rfl rfl rfl (by decide +kernel) ⟨Nat.le_of_ble_eq_true rfl, Nat.le_of_ble_eq_true rfl⟩) (va_recv (ci := 9) E.2.1 hh.1 rfl (WW_at_28 G s69)) rfl hl.1 rfl (Nat.le_of_ble_eq_true rfl) dX9_clause_76 ⟨Nat.zero_le _, Nat.zero_le _⟩ (fun s76 H locs h hh => ?_)
        refine lv_goto (tgt := 91) hx hb dX9_clause_79 (by decide) ?_
        exact w_X9_clause_91 E hr hlocks  _ _ _ _ h hh (lv_sub hl [0] rfl)
    · have h := h.2 c9
      refine lv_aload_n hx hb dX9_clause_29 rfl (lv_at hl 0 rfl) ?_
      refine lv_aload_n hx hb dX9_clause_30 rfl (lv_at hl 0 rfl) ?_
      refine q_Vi (As := []) (rest := [.ref (G.2.1 28)]) E hh (c_X9_number l G _ _  _ h) (cwV 0 hts gX9_clause_X9_number rfl rfl rfl (by decide +kernel) ⟨Nat.le_of_ble_eq_true rfl, Nat.le_of_ble_eq_true rfl⟩) (va_recv (ci := 9) E.2.1 hh.1 rfl (WW_at_28 G s23)) rfl hl.1 rfl (Nat.le_of_ble_eq_true rfl) dX9_clause_31 ⟨Nat.zero_le _, Nat.zero_le _⟩ (fun r31 s31 H locs h hh => ?_)
      refine q_put (T := TX9) E hh h_inX9 tyX9 tyX9_ok nmX9 28 (WW_at_28 G s31) rfl 20 (by decide) (List.mem_cons_of_mem _ (List.mem_append_left _ (List.mem_append_left _ (List.mem_of_getElem? (i := 1) rfl)))) rfl rfl (by decide +kernel) (Nat.le_of_ble_eq_true rfl) dX9_clause_34 (WW_si_38 G s31 r31) (fun H locs hh => ?_)
      refine lv_aload_n hx hb dX9_clause_37 rfl (lv_at hl 0 rfl) ?_
      refine va_ldcS (own := RX9) (q := G.2.2 (20 + 3)) hx hb hown (E.2.2.2.1.1.2.2.1 ("IceRegattaModel", 202, "from", 23) (List.mem_of_getElem? (i := 12) rfl)) dX9_clause_38 ?_
      refine q_Vi (As := [.ref (G.2.2 (20 + 3))]) (rest := []) E hh (c_X9_eat l G _ _ _ _ h) (cwV 1 hts gX9_clause_X9_eat rfl rfl rfl (by decide +kernel) ⟨Nat.le_of_ble_eq_true rfl, Nat.le_of_ble_eq_true rfl⟩) (va_recv (ci := 9) E.2.1 hh.1 rfl (WW_at_28 G (si s31 38 r31))) rfl hl.1 rfl (Nat.le_of_ble_eq_true rfl) dX9_clause_40 ⟨Nat.zero_le _, Nat.zero_le _⟩ (fun r40 s40 H locs h hh => ?_)
      refine lv_if_ne (tgt := 55) hx hb dX9_clause_43 (by decide) (fun c9 => ?_) (fun c9 => ?_)
      · have h := h.1 c9
        refine lv_aload_n hx hb dX9_clause_55 rfl (lv_at hl 0 rfl) ?_
        refine lv_aload_n hx hb dX9_clause_56 rfl (lv_at hl 0 rfl) ?_
        refine q_Vi (As := []) (rest := [.ref (G.2.1 28)]) E hh (c_X9_number l G _ _  _ h) (cwV 0 hts gX9_clause_X9_number rfl rfl rfl (by decide +kernel) ⟨Nat.le_of_ble_eq_true rfl, Nat.le_of_ble_eq_true rfl⟩) (va_recv (ci := 9) E.2.1 hh.1 rfl (WW_at_28 G s40)) rfl hl.1 rfl (Nat.le_of_ble_eq_true rfl) dX9_clause_57 ⟨Nat.zero_le _, Nat.zero_le _⟩ (fun r57 s57 H locs h hh => ?_)
        refine q_put (T := TX9) E hh h_inX9 tyX9 tyX9_ok nmX9 28 (WW_at_28 G s57) rfl 21 (by decide) (List.mem_cons_of_mem _ (List.mem_append_left _ (List.mem_append_left _ (List.mem_of_getElem? (i := 3) rfl)))) rfl rfl (by decide +kernel) (Nat.le_of_ble_eq_true rfl) dX9_clause_60 (WW_si_39 G s57 r57) (fun H locs hh => ?_)
        refine lv_goto (tgt := 91) hx hb dX9_clause_63 (by decide) ?_
        exact w_X9_clause_91 E hr hlocks  _ _ _ _ h hh (lv_sub hl [0] rfl)
      · have h := h.2 c9
        refine lv_aload_n hx hb dX9_clause_46 rfl (lv_at hl 0 rfl) ?_
        refine lv_iconst (v := (1 : Int32)) hx hb dX9_clause_47 (by decide) ?_
        refine lv_aload_n hx hb dX9_clause_48 rfl (lv_at hl 0 rfl) ?_
        refine q_get (T := TX9) (v := .int (gi s40 30)) E hh h_inX9 28 (WW_at_28 G s40) rfl 11 (by decide) (List.mem_cons_of_mem _ (List.mem_append_left _ (List.mem_append_left _ (List.mem_of_getElem? (i := 2) rfl)))) rfl rfl dX9_clause_49 ?_
        refine q_Vv (As := [.int (1 : Int32), .int (gi s40 30)]) (rest := []) E hh (c_X9_wrong l G _ _ _ _ _ h) (cwV 2 hts gX9_clause_X9_wrong rfl rfl rfl (by decide +kernel) ⟨Nat.le_of_ble_eq_true rfl, Nat.le_of_ble_eq_true rfl⟩) (va_recv (ci := 9) E.2.1 hh.1 rfl (WW_at_28 G s40)) rfl hl.1 rfl (Nat.le_of_ble_eq_true rfl) dX9_clause_52 ⟨Nat.zero_le _, Nat.zero_le _⟩ (fun s52 H locs h hh => ?_)
        refine lv_aload_n hx hb dX9_clause_55 rfl (lv_at hl 0 rfl) ?_
        refine lv_aload_n hx hb dX9_clause_56 rfl (lv_at hl 0 rfl) ?_
        refine q_Vi (As := []) (rest := [.ref (G.2.1 28)]) E hh (c_X9_number l G _ _  _ h) (cwV 0 hts gX9_clause_X9_number rfl rfl rfl (by decide +kernel) ⟨Nat.le_of_ble_eq_true rfl, Nat.le_of_ble_eq_true rfl⟩) (va_recv (ci := 9) E.2.1 hh.1 rfl (WW_at_28 G s52)) rfl hl.1 rfl (Nat.le_of_ble_eq_true rfl) dX9_clause_57 ⟨Nat.zero_le _, Nat.zero_le _⟩ (fun r57 s57 H locs h hh => ?_)
        refine q_put (T := TX9) E hh h_inX9 tyX9 tyX9_ok nmX9 28 (WW_at_28 G s57) rfl 21 (by decide) (List.mem_cons_of_mem _ (List.mem_append_left _ (List.mem_append_left _ (List.mem_of_getElem? (i := 3) rfl)))) rfl rfl (by decide +kernel) (Nat.le_of_ble_eq_true rfl) dX9_clause_60 (WW_si_39 G s57 r57) (fun H locs hh => ?_)
        refine lv_goto (tgt := 91) hx hb dX9_clause_63 (by decide) ?_
        exact w_X9_clause_91 E hr hlocks  _ _ _ _ h hh (lv_sub hl [0] rfl)
  · have h := h.2 c9
    refine lv_aload_n hx hb dX9_clause_9 rfl (lv_at hl 0 rfl) ?_
    refine lv_aload_n hx hb dX9_clause_10 rfl (lv_at hl 0 rfl) ?_
    refine q_Vi (As := []) (rest := [.ref (G.2.1 28)]) E hh (c_X9_number l G _ _  _ h) (cwV 0 hts gX9_clause_X9_number rfl rfl rfl (by decide +kernel) ⟨Nat.le_of_ble_eq_true rfl, Nat.le_of_ble_eq_true rfl⟩) (va_recv (ci := 9) E.2.1 hh.1 rfl (WW_at_28 G s3)) rfl hl.1 rfl (Nat.le_of_ble_eq_true rfl) dX9_clause_11 ⟨Nat.zero_le _, Nat.zero_le _⟩ (fun r11 s11 H locs h hh => ?_)
    refine q_put (T := TX9) E hh h_inX9 tyX9 tyX9_ok nmX9 28 (WW_at_28 G s11) rfl 19 (by decide) (List.mem_cons_of_mem _ (List.mem_append_left _ (List.mem_append_left _ (List.mem_of_getElem? (i := 0) rfl)))) rfl rfl (by decide +kernel) (Nat.le_of_ble_eq_true rfl) dX9_clause_14 (WW_si_37 G s11 r11) (fun H locs hh => ?_)
    refine lv_goto (tgt := 91) hx hb dX9_clause_17 (by decide) ?_
    exact w_X9_clause_91 E hr hlocks  _ _ _ _ h hh (lv_sub hl [0] rfl)
def f_X9_rule_225 (Q : Int32 → St → Prop)  (rec : St → Int32 → Int32 → Prop) (σ : St) (l2 : Int32) (l3 : Int32) : Prop :=
  (((gi σ 36) ≤ l3 → Q l2 (si σ 33 l2)) ∧ (¬ (gi σ 36) ≤ l3 → (vp_in l3 3 ∧ (vp_in l3 3 ∧ rec (sa σ 33 (upd (ga σ 33) l3.toNatClampNeg (ga σ 34 l3.toNatClampNeg))) l2 (l3 + 1)))))
def f_X9_rule_225L (Q : Int32 → St → Prop)  : Nat → St → Int32 → Int32 → Prop
  | 0, _, _, _ => False
  | n + 1, σ, l2, l3 => f_X9_rule_225 Q  (f_X9_rule_225L Q  n) σ l2 l3
set_option maxHeartbeats 4000000 in
set_option maxRecDepth 100000 in
theorem w_X9_rule_225 {p : Program} {l : Launch} {e : Env} {s : State} {m : MethodId} {args : Array Value} {below : List Frame} {meth : Method} {c : Code} {G : GG} (E : EV p s m args c cX9_rule 4 wsX9_rule RX9 G (AD G s.heap.size)) (hr : meth.sig.returnType = (some .int)) (hlocks : meth.locks = false) {Q : Int32 → St → Prop}  : ∀ (n : Nat) (σ : St) (l2 : Int32) (l3 : Int32) (H : Heap) (locs : List Loc) (ls : Array Slot), f_X9_rule_225L Q  n σ l2 l3 → HH G (AD G s.heap.size) s σ H locs → lv_has ls 4 [(0, .ref (G.2.1 28)), (2, .int l2), (3, .int l3)] → W p l e ({ frames := 8, cells := 0, slots := 0, locals := 169 }) s m args below meth c H locs 0 0 (MQi below G args s Q) (F0 m 225 ls []) := by
  have hx := E.1.1
  have hb := E.1.2.1
  have hown := E.1.2.2.2.1
  have hts := E.1.2.2.2.2
  have h_inX9 : ∀ w ∈ wsX90, w ∈ wsX9_rule := (fun _ h9 => (List.mem_cons_of_mem _ (List.mem_append_right _ h9)))
  intro n
  induction n with
  | zero =>
    intro σ l2 l3 H locs ls h
    exact h.elim
  | succ n ih =>
    intro σ l2 l3 H locs ls h hh hl
    have h : f_X9_rule_225 Q  (f_X9_rule_225L Q  n) σ l2 l3 := h
    unfold f_X9_rule_225 at h
    refine lv_iload_n hx hb dX9_rule_225 rfl (lv_at hl 2 rfl) ?_
    refine lv_aload_n hx hb dX9_rule_226 rfl (lv_at hl 0 rfl) ?_
    refine q_get (T := TX9) (v := .int (gi σ 36)) E hh h_inX9 28 (WW_at_28 G σ) rfl 17 (by decide) (List.mem_cons_of_mem _ (List.mem_append_left _ (List.mem_append_left _ (List.mem_of_getElem? (i := 13) rfl)))) rfl rfl dX9_rule_227 ?_
    refine lv_icmp_ge (tgt := 251) hx hb dX9_rule_230 (by decide) (fun c9 => ?_) (fun c9 => ?_)
    · have h := h.1 c9
      refine lv_aload_n hx hb dX9_rule_251 rfl (lv_at hl 0 rfl) ?_
      refine lv_iload_n hx hb dX9_rule_252 rfl (lv_at hl 1 rfl) ?_
      refine q_put (T := TX9) E hh h_inX9 tyX9 tyX9_ok nmX9 28 (WW_at_28 G σ) rfl 14 (by decide) (List.mem_cons_of_mem _ (List.mem_append_left _ (List.mem_append_left _ (List.mem_of_getElem? (i := 16) rfl)))) rfl rfl (by decide +kernel) (Nat.le_of_ble_eq_true rfl) dX9_rule_253 (WW_si_33 G σ l2) (fun H locs hh => ?_)
      refine lv_iload_n hx hb dX9_rule_256 rfl (lv_at hl 1 rfl) ?_
      exact q_iret E hh hr hlocks h dX9_rule_257
    · have h := h.2 c9
      refine lv_aload_n hx hb dX9_rule_233 rfl (lv_at hl 0 rfl) ?_
      refine q_get (T := TX9) (v := .ref (G.2.1 33)) E hh h_inX9 28 (WW_at_28 G σ) rfl 18 (by decide) (List.mem_cons_of_mem _ (List.mem_append_left _ (List.mem_append_left _ (List.mem_of_getElem? (i := 14) rfl)))) rfl rfl dX9_rule_234 ?_
      refine lv_iload_n hx hb dX9_rule_237 rfl (lv_at hl 2 rfl) ?_
      refine lv_aload_n hx hb dX9_rule_238 rfl (lv_at hl 0 rfl) ?_
      refine q_get (T := TX9) (v := .ref (G.2.1 34)) E hh h_inX9 28 (WW_at_28 G σ) rfl 23 (by decide) (List.mem_cons_of_mem _ (List.mem_append_left _ (List.mem_append_left _ (List.mem_of_getElem? (i := 15) rfl)))) rfl rfl dX9_rule_239 ?_
      refine lv_iload_n hx hb dX9_rule_242 rfl (lv_at hl 2 rfl) ?_
      obtain ⟨h0, h⟩ := h
      refine q_iald E hh 34 (WW_at_34 G σ) h0 dX9_rule_243 ?_
      obtain ⟨h0, h⟩ := h
      refine q_iast E hh 33 (WW_at_33 G σ) h0 dX9_rule_244 (WW_sa_33 G σ (upd (ga σ 33) l3.toNatClampNeg (ga σ 34 l3.toNatClampNeg))) (fun H locs hh => ?_)
      refine lv_iinc (v := (l3 + 1)) (lv' := [(3, .int (l3 + 1)), (0, .ref (G.2.1 28)), (2, .int l2)]) hx hb dX9_rule_245 hl (k := 2) rfl rfl (by decide) rfl (fun ls hl => ?_)
      refine lv_goto (tgt := 225) hx hb dX9_rule_248 (by decide) ?_
      exact ih _ _ _ _ _ _ h hh (lv_sub hl [1, 2, 0] rfl)
def f_X9_rule_176 (Q : Int32 → St → Prop)  (σ : St) (l2 : Int32) : Prop :=
  (((gi σ 31) ≤ 0 → f_X9_rule_225L Q FU (si (si (si (si σ 24 (gi σ 37)) 34 (gi (si σ 24 (gi σ 37)) 38)) 35 (gi (si (si σ 24 (gi σ 37)) 34 (gi (si σ 24 (gi σ 37)) 38)) 39)) 36 (gi (si (si (si σ 24 (gi σ 37)) 34 (gi (si σ 24 (gi σ 37)) 38)) 35 (gi (si (si σ 24 (gi σ 37)) 34 (gi (si σ 24 (gi σ 37)) 38)) 39)) 40)) l2 (0 : Int32)) ∧ (¬ (gi σ 31) ≤ 0 → Q ((gi σ 31) - (10 : Int32)) σ))
set_option maxHeartbeats 4000000 in
set_option maxRecDepth 100000 in
theorem w_X9_rule_176 {p : Program} {l : Launch} {e : Env} {s : State} {m : MethodId} {args : Array Value} {below : List Frame} {meth : Method} {c : Code} {G : GG} (E : EV p s m args c cX9_rule 4 wsX9_rule RX9 G (AD G s.heap.size)) (hr : meth.sig.returnType = (some .int)) (hlocks : meth.locks = false) {Q : Int32 → St → Prop}  : ∀ (σ : St) (l2 : Int32) (H : Heap) (locs : List Loc) (ls : Array Slot), f_X9_rule_176 Q  σ l2 → HH G (AD G s.heap.size) s σ H locs → lv_has ls 4 [(0, .ref (G.2.1 28)), (2, .int l2)] → W p l e ({ frames := 8, cells := 0, slots := 0, locals := 169 }) s m args below meth c H locs 0 0 (MQi below G args s Q) (F0 m 176 ls []) := by
  have hx := E.1.1
  have hb := E.1.2.1
  have hown := E.1.2.2.2.1
  have hts := E.1.2.2.2.2
  have h_inX9 : ∀ w ∈ wsX90, w ∈ wsX9_rule := (fun _ h9 => (List.mem_cons_of_mem _ (List.mem_append_right _ h9)))
  intro σ l2 H locs ls h hh hl
  unfold f_X9_rule_176 at h
  refine lv_aload_n hx hb dX9_rule_176 rfl (lv_at hl 0 rfl) ?_
  refine q_get (T := TX9) (v := .int (gi σ 31)) E hh h_inX9 28 (WW_at_28 G σ) rfl 12 (by decide) (List.mem_cons_of_mem _ (List.mem_append_left _ (List.mem_append_left _ (List.mem_of_getElem? (i := 4) rfl)))) rfl rfl dX9_rule_177 ?_
  refine lv_if_le (tgt := 191) hx hb dX9_rule_180 (by decide) (fun c9 => ?_) (fun c9 => ?_)
  · have h := h.1 c9
    refine lv_aload_n hx hb dX9_rule_191 rfl (lv_at hl 0 rfl) ?_
    refine lv_aload_n hx hb dX9_rule_192 rfl (lv_at hl 0 rfl) ?_
    refine q_get (T := TX9) (v := .int (gi σ 37)) E hh h_inX9 28 (WW_at_28 G σ) rfl 19 (by decide) (List.mem_cons_of_mem _ (List.mem_append_left _ (List.mem_append_left _ (List.mem_of_getElem? (i := 6) rfl)))) rfl rfl dX9_rule_193 ?_
    refine q_put (T := TX9) E hh h_inX9 tyX9 tyX9_ok nmX9 28 (WW_at_28 G σ) rfl 4 (by decide) (List.mem_cons_of_mem _ (List.mem_append_left _ (List.mem_append_left _ (List.mem_of_getElem? (i := 10) rfl)))) rfl rfl (by decide +kernel) (Nat.le_of_ble_eq_true rfl) dX9_rule_196 (WW_si_24 G σ (gi σ 37)) (fun H locs hh => ?_)
    refine lv_aload_n hx hb dX9_rule_199 rfl (lv_at hl 0 rfl) ?_
    refine lv_aload_n hx hb dX9_rule_200 rfl (lv_at hl 0 rfl) ?_
    refine q_get (T := TX9) (v := .int (gi (si σ 24 (gi σ 37)) 38)) E hh h_inX9 28 (WW_at_28 G (si σ 24 (gi σ 37))) rfl 20 (by decide) (List.mem_cons_of_mem _ (List.mem_append_left _ (List.mem_append_left _ (List.mem_of_getElem? (i := 7) rfl)))) rfl rfl dX9_rule_201 ?_
    refine q_put (T := TX9) E hh h_inX9 tyX9 tyX9_ok nmX9 28 (WW_at_28 G (si σ 24 (gi σ 37))) rfl 15 (by decide) (List.mem_cons_of_mem _ (List.mem_append_left _ (List.mem_append_left _ (List.mem_of_getElem? (i := 11) rfl)))) rfl rfl (by decide +kernel) (Nat.le_of_ble_eq_true rfl) dX9_rule_204 (WW_si_34 G (si σ 24 (gi σ 37)) (gi (si σ 24 (gi σ 37)) 38)) (fun H locs hh => ?_)
    refine lv_aload_n hx hb dX9_rule_207 rfl (lv_at hl 0 rfl) ?_
    refine lv_aload_n hx hb dX9_rule_208 rfl (lv_at hl 0 rfl) ?_
    refine q_get (T := TX9) (v := .int (gi (si (si σ 24 (gi σ 37)) 34 (gi (si σ 24 (gi σ 37)) 38)) 39)) E hh h_inX9 28 (WW_at_28 G (si (si σ 24 (gi σ 37)) 34 (gi (si σ 24 (gi σ 37)) 38))) rfl 21 (by decide) (List.mem_cons_of_mem _ (List.mem_append_left _ (List.mem_append_left _ (List.mem_of_getElem? (i := 8) rfl)))) rfl rfl dX9_rule_209 ?_
    refine q_put (T := TX9) E hh h_inX9 tyX9 tyX9_ok nmX9 28 (WW_at_28 G (si (si σ 24 (gi σ 37)) 34 (gi (si σ 24 (gi σ 37)) 38))) rfl 16 (by decide) (List.mem_cons_of_mem _ (List.mem_append_left _ (List.mem_append_left _ (List.mem_of_getElem? (i := 12) rfl)))) rfl rfl (by decide +kernel) (Nat.le_of_ble_eq_true rfl) dX9_rule_212 (WW_si_35 G (si (si σ 24 (gi σ 37)) 34 (gi (si σ 24 (gi σ 37)) 38)) (gi (si (si σ 24 (gi σ 37)) 34 (gi (si σ 24 (gi σ 37)) 38)) 39)) (fun H locs hh => ?_)
    refine lv_aload_n hx hb dX9_rule_215 rfl (lv_at hl 0 rfl) ?_
    refine lv_aload_n hx hb dX9_rule_216 rfl (lv_at hl 0 rfl) ?_
    refine q_get (T := TX9) (v := .int (gi (si (si (si σ 24 (gi σ 37)) 34 (gi (si σ 24 (gi σ 37)) 38)) 35 (gi (si (si σ 24 (gi σ 37)) 34 (gi (si σ 24 (gi σ 37)) 38)) 39)) 40)) E hh h_inX9 28 (WW_at_28 G (si (si (si σ 24 (gi σ 37)) 34 (gi (si σ 24 (gi σ 37)) 38)) 35 (gi (si (si σ 24 (gi σ 37)) 34 (gi (si σ 24 (gi σ 37)) 38)) 39))) rfl 22 (by decide) (List.mem_cons_of_mem _ (List.mem_append_left _ (List.mem_append_left _ (List.mem_of_getElem? (i := 9) rfl)))) rfl rfl dX9_rule_217 ?_
    refine q_put (T := TX9) E hh h_inX9 tyX9 tyX9_ok nmX9 28 (WW_at_28 G (si (si (si σ 24 (gi σ 37)) 34 (gi (si σ 24 (gi σ 37)) 38)) 35 (gi (si (si σ 24 (gi σ 37)) 34 (gi (si σ 24 (gi σ 37)) 38)) 39))) rfl 17 (by decide) (List.mem_cons_of_mem _ (List.mem_append_left _ (List.mem_append_left _ (List.mem_of_getElem? (i := 13) rfl)))) rfl rfl (by decide +kernel) (Nat.le_of_ble_eq_true rfl) dX9_rule_220 (WW_si_36 G (si (si (si σ 24 (gi σ 37)) 34 (gi (si σ 24 (gi σ 37)) 38)) 35 (gi (si (si σ 24 (gi σ 37)) 34 (gi (si σ 24 (gi σ 37)) 38)) 39)) (gi (si (si (si σ 24 (gi σ 37)) 34 (gi (si σ 24 (gi σ 37)) 38)) 35 (gi (si (si σ 24 (gi σ 37)) 34 (gi (si σ 24 (gi σ 37)) 38)) 39)) 40)) (fun H locs hh => ?_)
    refine lv_iconst (v := (0 : Int32)) hx hb dX9_rule_223 (by decide) ?_
    refine lv_istore_n (lv' := [(3, .int (0 : Int32)), (0, .ref (G.2.1 28)), (2, .int l2)]) hx hb dX9_rule_224 rfl hl (by decide) rfl (fun ls hl => ?_)
    exact w_X9_rule_225 E hr hlocks  FU _ _ _ _ _ _ h hh (lv_sub hl [1, 2, 0] rfl)
  · have h := h.2 c9
    refine lv_aload_n hx hb dX9_rule_183 rfl (lv_at hl 0 rfl) ?_
    refine q_get (T := TX9) (v := .int (gi σ 31)) E hh h_inX9 28 (WW_at_28 G σ) rfl 12 (by decide) (List.mem_cons_of_mem _ (List.mem_append_left _ (List.mem_append_left _ (List.mem_of_getElem? (i := 4) rfl)))) rfl rfl dX9_rule_184 ?_
    refine lv_bipush (v := (10 : Int32)) hx hb dX9_rule_187 (by decide) ?_
    refine lv_isub hx hb dX9_rule_189 ?_
    exact q_iret E hh hr hlocks h dX9_rule_190
def f_X9_rule_135 (Q : Int32 → St → Prop) (K85 : St → Int32 → Prop) (σ : St) (l2 : Int32) (t0 : Int32) : Prop :=
  ((¬ l2 = (10 : Int32) → f_X9_clause σ (fun s163 => f_X9_blanks s163 (fun s170 => K85 s170 (l2 + 1)))) ∧ (l2 = (10 : Int32) → ((t0 = 0 → f_X9_wrong σ (1 : Int32) (gi σ 30) (fun s156 => K85 s156 l2)) ∧ (¬ t0 = 0 → f_X9_wrong σ (3 : Int32) (gi σ 30) (fun s156 => K85 s156 l2)))))
set_option maxHeartbeats 4000000 in
set_option maxRecDepth 100000 in
theorem w_X9_rule_135 {p : Program} {l : Launch} {e : Env} {s : State} {m : MethodId} {args : Array Value} {below : List Frame} {meth : Method} {c : Code} {G : GG} (E : EV p s m args c cX9_rule 4 wsX9_rule RX9 G (AD G s.heap.size)) (hr : meth.sig.returnType = (some .int)) (hlocks : meth.locks = false) {Q : Int32 → St → Prop} {K85 : St → Int32 → Prop} (hK85 : ∀ (σ : St) (l2 : Int32) (H : Heap) (locs : List Loc) (ls : Array Slot), K85 σ l2 → HH G (AD G s.heap.size) s σ H locs → lv_has ls 4 [(0, .ref (G.2.1 28)), (2, .int l2)] → W p l e ({ frames := 8, cells := 0, slots := 0, locals := 169 }) s m args below meth c H locs 0 0 (MQi below G args s Q) (F0 m 85 ls [])) : ∀ (σ : St) (l2 : Int32) (t0 : Int32) (H : Heap) (locs : List Loc) (ls : Array Slot), f_X9_rule_135 Q K85 σ l2 t0 → HH G (AD G s.heap.size) s σ H locs → lv_has ls 4 [(0, .ref (G.2.1 28)), (2, .int l2)] → W p l e ({ frames := 8, cells := 0, slots := 0, locals := 169 }) s m args below meth c H locs 0 0 (MQi below G args s Q) (F0 m 135 ls [.int t0]) := by
  have hx := E.1.1
  have hb := E.1.2.1
  have hown := E.1.2.2.2.1
  have hts := E.1.2.2.2.2
  have h_inX9 : ∀ w ∈ wsX90, w ∈ wsX9_rule := (fun _ h9 => (List.mem_cons_of_mem _ (List.mem_append_right _ h9)))
  intro σ l2 t0 H locs ls h hh hl
  unfold f_X9_rule_135 at h
  refine lv_istore_n (lv' := [(3, .int t0), (0, .ref (G.2.1 28)), (2, .int l2)]) hx hb dX9_rule_135 rfl hl (by decide) rfl (fun ls hl => ?_)
  refine lv_iload_n hx hb dX9_rule_136 rfl (lv_at hl 2 rfl) ?_
  refine lv_bipush (v := (10 : Int32)) hx hb dX9_rule_137 (by decide) ?_
  refine lv_icmp_ne (tgt := 162) hx hb dX9_rule_139 (by decide) (fun c9 => ?_) (fun c9 => ?_)
  · have h := h.1 c9
    refine lv_aload_n hx hb dX9_rule_162 rfl (lv_at hl 1 rfl) ?_
    refine q_Vv (As := []) (rest := []) E hh (c_X9_clause l G _ _  _ h) (cwV 0 hts gX9_rule_X9_clause rfl rfl rfl (by decide +kernel) ⟨Nat.le_of_ble_eq_true rfl, Nat.le_of_ble_eq_true rfl⟩) (va_recv (ci := 9) E.2.1 hh.1 rfl (WW_at_28 G σ)) rfl hl.1 rfl (Nat.le_of_ble_eq_true rfl) dX9_rule_163 ⟨Nat.zero_le _, Nat.zero_le _⟩ (fun s163 H locs h hh => ?_)
    refine lv_iinc (v := (l2 + 1)) (lv' := [(2, .int (l2 + 1)), (3, .int t0), (0, .ref (G.2.1 28))]) hx hb dX9_rule_166 hl (k := 2) rfl rfl (by decide) rfl (fun ls hl => ?_)
    refine lv_aload_n hx hb dX9_rule_169 rfl (lv_at hl 2 rfl) ?_
    refine q_Vv (As := []) (rest := []) E hh (c_X9_blanks l G _ _  _ h) (cwV 0 hts gX9_rule_X9_blanks rfl rfl rfl (by decide +kernel) ⟨Nat.le_of_ble_eq_true rfl, Nat.le_of_ble_eq_true rfl⟩) (va_recv (ci := 9) E.2.1 hh.1 rfl (WW_at_28 G s163)) rfl hl.1 rfl (Nat.le_of_ble_eq_true rfl) dX9_rule_170 ⟨Nat.zero_le _, Nat.zero_le _⟩ (fun s170 H locs h hh => ?_)
    refine lv_goto (tgt := 85) hx hb dX9_rule_173 (by decide) ?_
    exact hK85 _ _ _ _ _ h hh (lv_sub hl [2, 0] rfl)
  · have h := h.2 c9
    refine lv_aload_n hx hb dX9_rule_142 rfl (lv_at hl 1 rfl) ?_
    refine lv_iload_n hx hb dX9_rule_143 rfl (lv_at hl 0 rfl) ?_
    refine lv_if_eq (tgt := 151) hx hb dX9_rule_144 (by decide) (fun c9 => ?_) (fun c9 => ?_)
    · have h := h.1 c9
      refine lv_iconst (v := (1 : Int32)) hx hb dX9_rule_151 (by decide) ?_
      refine lv_aload_n hx hb dX9_rule_152 rfl (lv_at hl 1 rfl) ?_
      refine q_get (T := TX9) (v := .int (gi σ 30)) E hh h_inX9 28 (WW_at_28 G σ) rfl 11 (by decide) (List.mem_cons_of_mem _ (List.mem_append_left _ (List.mem_append_left _ (List.mem_of_getElem? (i := 3) rfl)))) rfl rfl dX9_rule_153 ?_
      refine q_Vv (As := [.int (1 : Int32), .int (gi σ 30)]) (rest := []) E hh (c_X9_wrong l G _ _ _ _ _ h) (cwV 2 hts gX9_rule_X9_wrong rfl rfl rfl (by decide +kernel) ⟨Nat.le_of_ble_eq_true rfl, Nat.le_of_ble_eq_true rfl⟩) (va_recv (ci := 9) E.2.1 hh.1 rfl (WW_at_28 G σ)) rfl hl.1 rfl (Nat.le_of_ble_eq_true rfl) dX9_rule_156 ⟨Nat.zero_le _, Nat.zero_le _⟩ (fun s156 H locs h hh => ?_)
      refine lv_goto (tgt := 173) hx hb dX9_rule_159 (by decide) ?_
      refine lv_goto (tgt := 85) hx hb dX9_rule_173 (by decide) ?_
      exact hK85 _ _ _ _ _ h hh (lv_sub hl [1, 2] rfl)
    · have h := h.2 c9
      refine lv_iconst (v := (3 : Int32)) hx hb dX9_rule_147 (by decide) ?_
      refine lv_goto (tgt := 152) hx hb dX9_rule_148 (by decide) ?_
      refine lv_aload_n hx hb dX9_rule_152 rfl (lv_at hl 1 rfl) ?_
      refine q_get (T := TX9) (v := .int (gi σ 30)) E hh h_inX9 28 (WW_at_28 G σ) rfl 11 (by decide) (List.mem_cons_of_mem _ (List.mem_append_left _ (List.mem_append_left _ (List.mem_of_getElem? (i := 3) rfl)))) rfl rfl dX9_rule_153 ?_
      refine q_Vv (As := [.int (3 : Int32), .int (gi σ 30)]) (rest := []) E hh (c_X9_wrong l G _ _ _ _ _ h) (cwV 2 hts gX9_rule_X9_wrong rfl rfl rfl (by decide +kernel) ⟨Nat.le_of_ble_eq_true rfl, Nat.le_of_ble_eq_true rfl⟩) (va_recv (ci := 9) E.2.1 hh.1 rfl (WW_at_28 G σ)) rfl hl.1 rfl (Nat.le_of_ble_eq_true rfl) dX9_rule_156 ⟨Nat.zero_le _, Nat.zero_le _⟩ (fun s156 H locs h hh => ?_)
      refine lv_goto (tgt := 173) hx hb dX9_rule_159 (by decide) ?_
      refine lv_goto (tgt := 85) hx hb dX9_rule_173 (by decide) ?_
      exact hK85 _ _ _ _ _ h hh (lv_sub hl [1, 2] rfl)
def f_X9_rule_85 (Q : Int32 → St → Prop)  (rec : St → Int32 → Prop) (σ : St) (l2 : Int32) : Prop :=
  ((¬ (gi σ 31) = 0 → f_X9_rule_176 Q σ l2) ∧ ((gi σ 31) = 0 → (((gi σ 29) ≤ (gi σ 30) → f_X9_rule_176 Q σ l2) ∧ (¬ (gi σ 29) ≤ (gi σ 30) → f_X9_isWord σ 0 (fun r106 s106 => ((¬ r106 = 0 → f_X9_rule_135 Q rec s106 l2 (1 : Int32)) ∧ (r106 = 0 → f_X9_isWord s106 1 (fun r115 s115 => ((¬ r115 = 0 → f_X9_rule_135 Q rec s115 l2 (1 : Int32)) ∧ (r115 = 0 → f_X9_isWord s115 2 (fun r124 s124 => ((r124 = 0 → f_X9_rule_135 Q rec s124 l2 (0 : Int32)) ∧ (¬ r124 = 0 → f_X9_rule_135 Q rec s124 l2 (1 : Int32))))))))))))))
def f_X9_rule_85L (Q : Int32 → St → Prop)  : Nat → St → Int32 → Prop
  | 0, _, _ => False
  | n + 1, σ, l2 => f_X9_rule_85 Q  (f_X9_rule_85L Q  n) σ l2
set_option maxHeartbeats 4000000 in
set_option maxRecDepth 100000 in
theorem w_X9_rule_85 {p : Program} {l : Launch} {e : Env} {s : State} {m : MethodId} {args : Array Value} {below : List Frame} {meth : Method} {c : Code} {G : GG} (E : EV p s m args c cX9_rule 4 wsX9_rule RX9 G (AD G s.heap.size)) (hr : meth.sig.returnType = (some .int)) (hlocks : meth.locks = false) {Q : Int32 → St → Prop}  : ∀ (n : Nat) (σ : St) (l2 : Int32) (H : Heap) (locs : List Loc) (ls : Array Slot), f_X9_rule_85L Q  n σ l2 → HH G (AD G s.heap.size) s σ H locs → lv_has ls 4 [(0, .ref (G.2.1 28)), (2, .int l2)] → W p l e ({ frames := 8, cells := 0, slots := 0, locals := 169 }) s m args below meth c H locs 0 0 (MQi below G args s Q) (F0 m 85 ls []) := by
  have hx := E.1.1
  have hb := E.1.2.1
  have hown := E.1.2.2.2.1
  have hts := E.1.2.2.2.2
  have h_inX9 : ∀ w ∈ wsX90, w ∈ wsX9_rule := (fun _ h9 => (List.mem_cons_of_mem _ (List.mem_append_right _ h9)))
  intro n
  induction n with
  | zero =>
    intro σ l2 H locs ls h
    exact h.elim
  | succ n ih =>
    intro σ l2 H locs ls h hh hl
    have h : f_X9_rule_85 Q  (f_X9_rule_85L Q  n) σ l2 := h
    unfold f_X9_rule_85 at h
    refine lv_aload_n hx hb dX9_rule_85 rfl (lv_at hl 0 rfl) ?_
    refine q_get (T := TX9) (v := .int (gi σ 31)) E hh h_inX9 28 (WW_at_28 G σ) rfl 12 (by decide) (List.mem_cons_of_mem _ (List.mem_append_left _ (List.mem_append_left _ (List.mem_of_getElem? (i := 4) rfl)))) rfl rfl dX9_rule_86 ?_
    refine lv_if_ne (tgt := 176) hx hb dX9_rule_89 (by decide) (fun c9 => ?_) (fun c9 => ?_)
    · have h := h.1 c9
      exact w_X9_rule_176 E hr hlocks  _ _ _ _ _ h hh (lv_sub hl [0, 1] rfl)
    · have h := h.2 c9
      refine lv_aload_n hx hb dX9_rule_92 rfl (lv_at hl 0 rfl) ?_
      refine q_get (T := TX9) (v := .int (gi σ 30)) E hh h_inX9 28 (WW_at_28 G σ) rfl 11 (by decide) (List.mem_cons_of_mem _ (List.mem_append_left _ (List.mem_append_left _ (List.mem_of_getElem? (i := 3) rfl)))) rfl rfl dX9_rule_93 ?_
      refine lv_aload_n hx hb dX9_rule_96 rfl (lv_at hl 0 rfl) ?_
      refine q_get (T := TX9) (v := .int (gi σ 29)) E hh h_inX9 28 (WW_at_28 G σ) rfl 10 (by decide) (List.mem_cons_of_mem _ (List.mem_append_left _ (List.mem_append_left _ (List.mem_of_getElem? (i := 2) rfl)))) rfl rfl dX9_rule_97 ?_
      refine lv_icmp_ge (tgt := 176) hx hb dX9_rule_100 (by decide) (fun c9 => ?_) (fun c9 => ?_)
      · have h := h.1 c9
        exact w_X9_rule_176 E hr hlocks  _ _ _ _ _ h hh (lv_sub hl [0, 1] rfl)
      · have h := h.2 c9
        refine lv_aload_n hx hb dX9_rule_103 rfl (lv_at hl 0 rfl) ?_
        refine va_ldcS (own := RX9) (q := G.2.2 (20 + 0)) hx hb hown (E.2.2.2.1.1.2.2.1 ("IceRegattaModel", 186, "ice", 20) (List.mem_of_getElem? (i := 10) rfl)) dX9_rule_104 ?_
        refine q_Vi (As := [.ref (G.2.2 (20 + 0))]) (rest := []) E hh (c_X9_isWord l G _ _ _ _ h) (cwV 1 hts gX9_rule_X9_isWord rfl rfl rfl (by decide +kernel) ⟨Nat.le_of_ble_eq_true rfl, Nat.le_of_ble_eq_true rfl⟩) (va_recv (ci := 9) E.2.1 hh.1 rfl (WW_at_28 G σ)) rfl hl.1 rfl (Nat.le_of_ble_eq_true rfl) dX9_rule_106 ⟨Nat.zero_le _, Nat.zero_le _⟩ (fun r106 s106 H locs h hh => ?_)
        refine lv_if_ne (tgt := 130) hx hb dX9_rule_109 (by decide) (fun c9 => ?_) (fun c9 => ?_)
        · have h := h.1 c9
          refine lv_iconst (v := (1 : Int32)) hx hb dX9_rule_130 (by decide) ?_
          refine lv_goto (tgt := 135) hx hb dX9_rule_131 (by decide) ?_
          exact w_X9_rule_135 E hr hlocks ih _ _ _ _ _ _ h hh (lv_sub hl [0, 1] rfl)
        · have h := h.2 c9
          refine lv_aload_n hx hb dX9_rule_112 rfl (lv_at hl 0 rfl) ?_
          refine va_ldcS (own := RX9) (q := G.2.2 (20 + 1)) hx hb hown (E.2.2.2.1.1.2.2.1 ("IceRegattaModel", 197, "drop", 21) (List.mem_of_getElem? (i := 11) rfl)) dX9_rule_113 ?_
          refine q_Vi (As := [.ref (G.2.2 (20 + 1))]) (rest := []) E hh (c_X9_isWord l G _ _ _ _ h) (cwV 1 hts gX9_rule_X9_isWord rfl rfl rfl (by decide +kernel) ⟨Nat.le_of_ble_eq_true rfl, Nat.le_of_ble_eq_true rfl⟩) (va_recv (ci := 9) E.2.1 hh.1 rfl (WW_at_28 G s106)) rfl hl.1 rfl (Nat.le_of_ble_eq_true rfl) dX9_rule_115 ⟨Nat.zero_le _, Nat.zero_le _⟩ (fun r115 s115 H locs h hh => ?_)
          refine lv_if_ne (tgt := 130) hx hb dX9_rule_118 (by decide) (fun c9 => ?_) (fun c9 => ?_)
          · have h := h.1 c9
            refine lv_iconst (v := (1 : Int32)) hx hb dX9_rule_130 (by decide) ?_
            refine lv_goto (tgt := 135) hx hb dX9_rule_131 (by decide) ?_
            exact w_X9_rule_135 E hr hlocks ih _ _ _ _ _ _ h hh (lv_sub hl [0, 1] rfl)
          · have h := h.2 c9
            refine lv_aload_n hx hb dX9_rule_121 rfl (lv_at hl 0 rfl) ?_
            refine va_ldcS (own := RX9) (q := G.2.2 (20 + 2)) hx hb hown (E.2.2.2.1.1.2.2.1 ("IceRegattaModel", 207, "way", 22) (List.mem_of_getElem? (i := 13) rfl)) dX9_rule_122 ?_
            refine q_Vi (As := [.ref (G.2.2 (20 + 2))]) (rest := []) E hh (c_X9_isWord l G _ _ _ _ h) (cwV 1 hts gX9_rule_X9_isWord rfl rfl rfl (by decide +kernel) ⟨Nat.le_of_ble_eq_true rfl, Nat.le_of_ble_eq_true rfl⟩) (va_recv (ci := 9) E.2.1 hh.1 rfl (WW_at_28 G s115)) rfl hl.1 rfl (Nat.le_of_ble_eq_true rfl) dX9_rule_124 ⟨Nat.zero_le _, Nat.zero_le _⟩ (fun r124 s124 H locs h hh => ?_)
            refine lv_if_eq (tgt := 134) hx hb dX9_rule_127 (by decide) (fun c9 => ?_) (fun c9 => ?_)
            · have h := h.1 c9
              refine lv_iconst (v := (0 : Int32)) hx hb dX9_rule_134 (by decide) ?_
              exact w_X9_rule_135 E hr hlocks ih _ _ _ _ _ _ h hh (lv_sub hl [0, 1] rfl)
            · have h := h.2 c9
              refine lv_iconst (v := (1 : Int32)) hx hb dX9_rule_130 (by decide) ?_
              refine lv_goto (tgt := 135) hx hb dX9_rule_131 (by decide) ?_
              exact w_X9_rule_135 E hr hlocks ih _ _ _ _ _ _ h hh (lv_sub hl [0, 1] rfl)
def f_X9_rule_23 (Q : Int32 → St → Prop)  (σ : St) (l1 : Int32) (t1 : Int32) : Prop :=
  f_X9_bad σ t1 (1 : Int32) (fun r24 s24 => ((r24 = 0 → f_X9_blanks (si (si (si (si (si (si (si (si (si s24 29 l1) 28 (0 : Int32)) 30 (0 : Int32)) 31 (0 : Int32)) 32 (-1 : Int32)) 37 (150 : Int32)) 38 (0 : Int32)) 39 (-1 : Int32)) 40 (0 : Int32)) (fun s82 => f_X9_rule_85L Q FU s82 (0 : Int32))) ∧ (¬ r24 = 0 → Q (0 : Int32) s24)))
set_option maxHeartbeats 4000000 in
set_option maxRecDepth 100000 in
theorem w_X9_rule_23 {p : Program} {l : Launch} {e : Env} {s : State} {m : MethodId} {args : Array Value} {below : List Frame} {meth : Method} {c : Code} {G : GG} (E : EV p s m args c cX9_rule 4 wsX9_rule RX9 G (AD G s.heap.size)) (hr : meth.sig.returnType = (some .int)) (hlocks : meth.locks = false) {Q : Int32 → St → Prop}  : ∀ (σ : St) (l1 : Int32) (t1 : Int32) (H : Heap) (locs : List Loc) (ls : Array Slot), f_X9_rule_23 Q  σ l1 t1 → HH G (AD G s.heap.size) s σ H locs → lv_has ls 4 [(0, .ref (G.2.1 28)), (1, .int l1)] → W p l e ({ frames := 8, cells := 0, slots := 0, locals := 169 }) s m args below meth c H locs 0 0 (MQi below G args s Q) (F0 m 23 ls [.int t1, .ref (G.2.1 28)]) := by
  have hx := E.1.1
  have hb := E.1.2.1
  have hown := E.1.2.2.2.1
  have hts := E.1.2.2.2.2
  have h_inX9 : ∀ w ∈ wsX90, w ∈ wsX9_rule := (fun _ h9 => (List.mem_cons_of_mem _ (List.mem_append_right _ h9)))
  intro σ l1 t1 H locs ls h hh hl
  unfold f_X9_rule_23 at h
  refine lv_iconst (v := (1 : Int32)) hx hb dX9_rule_23 (by decide) ?_
  refine q_Vi (As := [.int t1, .int (1 : Int32)]) (rest := []) E hh (c_X9_bad l G _ _ _ _ _ h) (cwV 2 hts gX9_rule_X9_bad rfl rfl rfl (by decide +kernel) ⟨Nat.le_of_ble_eq_true rfl, Nat.le_of_ble_eq_true rfl⟩) (va_recv (ci := 9) E.2.1 hh.1 rfl (WW_at_28 G σ)) rfl hl.1 rfl (Nat.le_of_ble_eq_true rfl) dX9_rule_24 ⟨Nat.zero_le _, Nat.zero_le _⟩ (fun r24 s24 H locs h hh => ?_)
  refine lv_if_eq (tgt := 32) hx hb dX9_rule_27 (by decide) (fun c9 => ?_) (fun c9 => ?_)
  · have h := h.1 c9
    refine lv_aload_n hx hb dX9_rule_32 rfl (lv_at hl 0 rfl) ?_
    refine lv_iload_n hx hb dX9_rule_33 rfl (lv_at hl 1 rfl) ?_
    refine q_put (T := TX9) E hh h_inX9 tyX9 tyX9_ok nmX9 28 (WW_at_28 G s24) rfl 10 (by decide) (List.mem_cons_of_mem _ (List.mem_append_left _ (List.mem_append_left _ (List.mem_of_getElem? (i := 2) rfl)))) rfl rfl (by decide +kernel) (Nat.le_of_ble_eq_true rfl) dX9_rule_34 (WW_si_29 G s24 l1) (fun H locs hh => ?_)
    refine lv_aload_n hx hb dX9_rule_37 rfl (lv_at hl 0 rfl) ?_
    refine lv_iconst (v := (0 : Int32)) hx hb dX9_rule_38 (by decide) ?_
    refine q_put (T := TX9) E hh h_inX9 tyX9 tyX9_ok nmX9 28 (WW_at_28 G (si s24 29 l1)) rfl 9 (by decide) (List.mem_cons_of_mem _ (List.mem_append_left _ (List.mem_append_left _ (List.mem_of_getElem? (i := 1) rfl)))) rfl rfl (by decide +kernel) (Nat.le_of_ble_eq_true rfl) dX9_rule_39 (WW_si_28 G (si s24 29 l1) (0 : Int32)) (fun H locs hh => ?_)
    refine lv_aload_n hx hb dX9_rule_42 rfl (lv_at hl 0 rfl) ?_
    refine lv_iconst (v := (0 : Int32)) hx hb dX9_rule_43 (by decide) ?_
    refine q_put (T := TX9) E hh h_inX9 tyX9 tyX9_ok nmX9 28 (WW_at_28 G (si (si s24 29 l1) 28 (0 : Int32))) rfl 11 (by decide) (List.mem_cons_of_mem _ (List.mem_append_left _ (List.mem_append_left _ (List.mem_of_getElem? (i := 3) rfl)))) rfl rfl (by decide +kernel) (Nat.le_of_ble_eq_true rfl) dX9_rule_44 (WW_si_30 G (si (si s24 29 l1) 28 (0 : Int32)) (0 : Int32)) (fun H locs hh => ?_)
    refine lv_aload_n hx hb dX9_rule_47 rfl (lv_at hl 0 rfl) ?_
    refine lv_iconst (v := (0 : Int32)) hx hb dX9_rule_48 (by decide) ?_
    refine q_put (T := TX9) E hh h_inX9 tyX9 tyX9_ok nmX9 28 (WW_at_28 G (si (si (si s24 29 l1) 28 (0 : Int32)) 30 (0 : Int32))) rfl 12 (by decide) (List.mem_cons_of_mem _ (List.mem_append_left _ (List.mem_append_left _ (List.mem_of_getElem? (i := 4) rfl)))) rfl rfl (by decide +kernel) (Nat.le_of_ble_eq_true rfl) dX9_rule_49 (WW_si_31 G (si (si (si s24 29 l1) 28 (0 : Int32)) 30 (0 : Int32)) (0 : Int32)) (fun H locs hh => ?_)
    refine lv_aload_n hx hb dX9_rule_52 rfl (lv_at hl 0 rfl) ?_
    refine lv_iconst (v := (-1 : Int32)) hx hb dX9_rule_53 (by decide) ?_
    refine q_put (T := TX9) E hh h_inX9 tyX9 tyX9_ok nmX9 28 (WW_at_28 G (si (si (si (si s24 29 l1) 28 (0 : Int32)) 30 (0 : Int32)) 31 (0 : Int32))) rfl 13 (by decide) (List.mem_cons_of_mem _ (List.mem_append_left _ (List.mem_append_left _ (List.mem_of_getElem? (i := 5) rfl)))) rfl rfl (by decide +kernel) (Nat.le_of_ble_eq_true rfl) dX9_rule_54 (WW_si_32 G (si (si (si (si s24 29 l1) 28 (0 : Int32)) 30 (0 : Int32)) 31 (0 : Int32)) (-1 : Int32)) (fun H locs hh => ?_)
    refine lv_aload_n hx hb dX9_rule_57 rfl (lv_at hl 0 rfl) ?_
    refine lv_sipush (v := (150 : Int32)) hx hb dX9_rule_58 (by decide) ?_
    refine q_put (T := TX9) E hh h_inX9 tyX9 tyX9_ok nmX9 28 (WW_at_28 G (si (si (si (si (si s24 29 l1) 28 (0 : Int32)) 30 (0 : Int32)) 31 (0 : Int32)) 32 (-1 : Int32))) rfl 19 (by decide) (List.mem_cons_of_mem _ (List.mem_append_left _ (List.mem_append_left _ (List.mem_of_getElem? (i := 6) rfl)))) rfl rfl (by decide +kernel) (Nat.le_of_ble_eq_true rfl) dX9_rule_61 (WW_si_37 G (si (si (si (si (si s24 29 l1) 28 (0 : Int32)) 30 (0 : Int32)) 31 (0 : Int32)) 32 (-1 : Int32)) (150 : Int32)) (fun H locs hh => ?_)
    refine lv_aload_n hx hb dX9_rule_64 rfl (lv_at hl 0 rfl) ?_
    refine lv_iconst (v := (0 : Int32)) hx hb dX9_rule_65 (by decide) ?_
    refine q_put (T := TX9) E hh h_inX9 tyX9 tyX9_ok nmX9 28 (WW_at_28 G (si (si (si (si (si (si s24 29 l1) 28 (0 : Int32)) 30 (0 : Int32)) 31 (0 : Int32)) 32 (-1 : Int32)) 37 (150 : Int32))) rfl 20 (by decide) (List.mem_cons_of_mem _ (List.mem_append_left _ (List.mem_append_left _ (List.mem_of_getElem? (i := 7) rfl)))) rfl rfl (by decide +kernel) (Nat.le_of_ble_eq_true rfl) dX9_rule_66 (WW_si_38 G (si (si (si (si (si (si s24 29 l1) 28 (0 : Int32)) 30 (0 : Int32)) 31 (0 : Int32)) 32 (-1 : Int32)) 37 (150 : Int32)) (0 : Int32)) (fun H locs hh => ?_)
    refine lv_aload_n hx hb dX9_rule_69 rfl (lv_at hl 0 rfl) ?_
    refine lv_iconst (v := (-1 : Int32)) hx hb dX9_rule_70 (by decide) ?_
    refine q_put (T := TX9) E hh h_inX9 tyX9 tyX9_ok nmX9 28 (WW_at_28 G (si (si (si (si (si (si (si s24 29 l1) 28 (0 : Int32)) 30 (0 : Int32)) 31 (0 : Int32)) 32 (-1 : Int32)) 37 (150 : Int32)) 38 (0 : Int32))) rfl 21 (by decide) (List.mem_cons_of_mem _ (List.mem_append_left _ (List.mem_append_left _ (List.mem_of_getElem? (i := 8) rfl)))) rfl rfl (by decide +kernel) (Nat.le_of_ble_eq_true rfl) dX9_rule_71 (WW_si_39 G (si (si (si (si (si (si (si s24 29 l1) 28 (0 : Int32)) 30 (0 : Int32)) 31 (0 : Int32)) 32 (-1 : Int32)) 37 (150 : Int32)) 38 (0 : Int32)) (-1 : Int32)) (fun H locs hh => ?_)
    refine lv_aload_n hx hb dX9_rule_74 rfl (lv_at hl 0 rfl) ?_
    refine lv_iconst (v := (0 : Int32)) hx hb dX9_rule_75 (by decide) ?_
    refine q_put (T := TX9) E hh h_inX9 tyX9 tyX9_ok nmX9 28 (WW_at_28 G (si (si (si (si (si (si (si (si s24 29 l1) 28 (0 : Int32)) 30 (0 : Int32)) 31 (0 : Int32)) 32 (-1 : Int32)) 37 (150 : Int32)) 38 (0 : Int32)) 39 (-1 : Int32))) rfl 22 (by decide) (List.mem_cons_of_mem _ (List.mem_append_left _ (List.mem_append_left _ (List.mem_of_getElem? (i := 9) rfl)))) rfl rfl (by decide +kernel) (Nat.le_of_ble_eq_true rfl) dX9_rule_76 (WW_si_40 G (si (si (si (si (si (si (si (si s24 29 l1) 28 (0 : Int32)) 30 (0 : Int32)) 31 (0 : Int32)) 32 (-1 : Int32)) 37 (150 : Int32)) 38 (0 : Int32)) 39 (-1 : Int32)) (0 : Int32)) (fun H locs hh => ?_)
    refine lv_iconst (v := (0 : Int32)) hx hb dX9_rule_79 (by decide) ?_
    refine lv_istore_n (lv' := [(2, .int (0 : Int32)), (0, .ref (G.2.1 28)), (1, .int l1)]) hx hb dX9_rule_80 rfl hl (by decide) rfl (fun ls hl => ?_)
    refine lv_aload_n hx hb dX9_rule_81 rfl (lv_at hl 1 rfl) ?_
    refine q_Vv (As := []) (rest := []) E hh (c_X9_blanks l G _ _  _ h) (cwV 0 hts gX9_rule_X9_blanks rfl rfl rfl (by decide +kernel) ⟨Nat.le_of_ble_eq_true rfl, Nat.le_of_ble_eq_true rfl⟩) (va_recv (ci := 9) E.2.1 hh.1 rfl (WW_at_28 G (si (si (si (si (si (si (si (si (si s24 29 l1) 28 (0 : Int32)) 30 (0 : Int32)) 31 (0 : Int32)) 32 (-1 : Int32)) 37 (150 : Int32)) 38 (0 : Int32)) 39 (-1 : Int32)) 40 (0 : Int32)))) rfl hl.1 rfl (Nat.le_of_ble_eq_true rfl) dX9_rule_82 ⟨Nat.zero_le _, Nat.zero_le _⟩ (fun s82 H locs h hh => ?_)
    exact w_X9_rule_85 E hr hlocks  FU _ _ _ _ _ h hh (lv_sub hl [1, 0] rfl)
  · have h := h.2 c9
    refine lv_iconst (v := (0 : Int32)) hx hb dX9_rule_30 (by decide) ?_
    exact q_iret E hh hr hlocks h dX9_rule_31
def f_X9_rule (σ : St) (p1 : Int32) (Q : Int32 → St → Prop) : Prop :=
  ((p1 < 0 → f_X9_rule_23 Q (si σ 23 (0 : Int32)) p1 (1 : Int32)) ∧ (¬ p1 < 0 → ((p1 ≤ (gi (si σ 23 (0 : Int32)) 28) → f_X9_rule_23 Q (si σ 23 (0 : Int32)) p1 (0 : Int32)) ∧ (¬ p1 ≤ (gi (si σ 23 (0 : Int32)) 28) → f_X9_rule_23 Q (si σ 23 (0 : Int32)) p1 (1 : Int32)))))
set_option maxHeartbeats 4000000 in
set_option maxRecDepth 100000 in
theorem c_X9_rule (l : Launch) (G : GG) (σ : St) (sz : Nat) (p1 : Int32) (Q : Int32 → St → Prop) (h : f_X9_rule σ p1 Q) : CTi l yX9_rule wsX9_rule ({ frames := 8, cells := 0, slots := 0, locals := 169 }) [.ref (G.2.1 28), .int p1] G σ sz Q := by
  refine Met.ofW (cc := cX9_rule) (maxL := 4) (ret := (some .int)) (by decide) rfl ?_
  intro p e s m args below meth c s₁ B hml hv
  obtain ⟨rfl, hpre⟩ := hv
  have hr := B.returns
  have hlocks := B.notSynchronized
  obtain ⟨hsz, -⟩ := id hpre
  subst hsz
  obtain ⟨E, hh⟩ := EV.ofPre (⟨B.exec, B.bytes, hml, findClass_of_methodNamed B.named, atoms_spec (ws := wsX9_rule) B.pre⟩ : CallFix p m c cX9_rule 4 s _ wsX9_rule RX9) hpre
  have hx := E.1.1
  have hb := E.1.2.1
  have hown := E.1.2.2.2.1
  have hts := E.1.2.2.2.2
  have h_inX9 : ∀ w ∈ wsX90, w ∈ wsX9_rule := (fun _ h9 => (List.mem_cons_of_mem _ (List.mem_append_right _ h9)))
  have hl := lv_entry ([.ref (G.2.1 28), .int p1]) (n := 4) (Nat.le_of_ble_eq_true rfl)
  rw [lg_entry_eq]
  generalize (lg_sl ([.ref (G.2.1 28), .int p1]) ++ List.replicate (4 - (lg_sl ([.ref (G.2.1 28), .int p1])).length) Slot.unset).toArray = ls at hl ⊢
  have hl : lv_has ls 4 [(0, .ref (G.2.1 28)), (1, .int p1)] := hl
  unfold f_X9_rule at h
  refine lv_aload_n hx hb dX9_rule_0 rfl (lv_at hl 0 rfl) ?_
  refine lv_iconst (v := (0 : Int32)) hx hb dX9_rule_1 (by decide) ?_
  refine q_put (T := TX9) E hh h_inX9 tyX9 tyX9_ok nmX9 28 (WW_at_28 G σ) rfl 0 (by decide) (List.mem_cons_of_mem _ (List.mem_append_left _ (List.mem_append_left _ (List.mem_of_getElem? (i := 0) rfl)))) rfl rfl (by decide +kernel) (Nat.le_of_ble_eq_true rfl) dX9_rule_2 (WW_si_23 G σ (0 : Int32)) (fun H locs hh => ?_)
  refine lv_aload_n hx hb dX9_rule_5 rfl (lv_at hl 0 rfl) ?_
  refine lv_iload_n hx hb dX9_rule_6 rfl (lv_at hl 1 rfl) ?_
  refine lv_if_lt (tgt := 18) hx hb dX9_rule_7 (by decide) (fun c9 => ?_) (fun c9 => ?_)
  · have h := h.1 c9
    refine lv_iconst (v := (1 : Int32)) hx hb dX9_rule_18 (by decide) ?_
    refine lv_goto (tgt := 23) hx hb dX9_rule_19 (by decide) ?_
    exact w_X9_rule_23 E hr hlocks  _ _ _ _ _ _ h hh (lv_sub hl [0, 1] rfl)
  · have h := h.2 c9
    refine lv_iload_n hx hb dX9_rule_10 rfl (lv_at hl 1 rfl) ?_
    refine lv_aload_n hx hb dX9_rule_11 rfl (lv_at hl 0 rfl) ?_
    refine q_get (T := TX9) (v := .int (gi (si σ 23 (0 : Int32)) 28)) E hh h_inX9 28 (WW_at_28 G (si σ 23 (0 : Int32))) rfl 9 (by decide) (List.mem_cons_of_mem _ (List.mem_append_left _ (List.mem_append_left _ (List.mem_of_getElem? (i := 1) rfl)))) rfl rfl dX9_rule_12 ?_
    refine lv_icmp_le (tgt := 22) hx hb dX9_rule_15 (by decide) (fun c9 => ?_) (fun c9 => ?_)
    · have h := h.1 c9
      refine lv_iconst (v := (0 : Int32)) hx hb dX9_rule_22 (by decide) ?_
      exact w_X9_rule_23 E hr hlocks  _ _ _ _ _ _ h hh (lv_sub hl [0, 1] rfl)
    · have h := h.2 c9
      refine lv_iconst (v := (1 : Int32)) hx hb dX9_rule_18 (by decide) ?_
      refine lv_goto (tgt := 23) hx hb dX9_rule_19 (by decide) ?_
      exact w_X9_rule_23 E hr hlocks  _ _ _ _ _ _ h hh (lv_sub hl [0, 1] rfl)
