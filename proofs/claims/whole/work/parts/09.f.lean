def f_X9_fleet (σ : St) (p1 : Int32) (Q : Int32 → St → Prop) : Prop :=
  f_X9_isBoat (si σ 23 (0 : Int32)) p1 (fun r8 s8 => ((¬ r8 = 0 → f_X9_bad s8 (0 : Int32) (1 : Int32) (fun r20 s20 => ((r20 = 0 → (vp_in p1 16 ∧ Q (ga s20 43 p1.toNatClampNeg) s20)) ∧ (¬ r20 = 0 → Q (0 : Int32) s20)))) ∧ (r8 = 0 → f_X9_bad s8 (1 : Int32) (1 : Int32) (fun r20 s20 => ((r20 = 0 → (vp_in p1 16 ∧ Q (ga s20 43 p1.toNatClampNeg) s20)) ∧ (¬ r20 = 0 → Q (0 : Int32) s20))))))
set_option maxHeartbeats 4000000 in
set_option maxRecDepth 100000 in
theorem c_X9_fleet (l : Launch) (G : GG) (σ : St) (sz : Nat) (p1 : Int32) (Q : Int32 → St → Prop) (h : f_X9_fleet σ p1 Q) : CTi l yX9_fleet wsX9_fleet ({ frames := 1, cells := 0, slots := 0, locals := 22 }) [.ref (G.2.1 28), .int p1] G σ sz Q := by
  refine Met.ofW (cc := cX9_fleet) (maxL := 2) (ret := (some .int)) (by decide) rfl ?_
  intro p e s m args below meth c s₁ B hml hv
  obtain ⟨rfl, hpre⟩ := hv
  have hr := B.returns
  have hlocks := B.notSynchronized
  obtain ⟨hsz, -⟩ := id hpre
  subst hsz
  obtain ⟨E, hh⟩ := EV.ofPre (⟨B.exec, B.bytes, hml, findClass_of_methodNamed B.named, atoms_spec (ws := wsX9_fleet) B.pre⟩ : CallFix p m c cX9_fleet 2 s _ wsX9_fleet RX9) hpre
  have hx := E.1.1
  have hb := E.1.2.1
  have hown := E.1.2.2.2.1
  have hts := E.1.2.2.2.2
  have h_inX9 : ∀ w ∈ wsX90, w ∈ wsX9_fleet := (fun _ h9 => (List.mem_cons_of_mem _ (List.mem_append_right _ h9)))
  have hl := lv_entry ([.ref (G.2.1 28), .int p1]) (n := 2) (Nat.le_of_ble_eq_true rfl)
  rw [lg_entry_eq]
  generalize (lg_sl ([.ref (G.2.1 28), .int p1]) ++ List.replicate (2 - (lg_sl ([.ref (G.2.1 28), .int p1])).length) Slot.unset).toArray = ls at hl ⊢
  have hl : lv_has ls 2 [(0, .ref (G.2.1 28)), (1, .int p1)] := hl
  unfold f_X9_fleet at h
  refine lv_aload_n hx hb dX9_fleet_0 rfl (lv_at hl 0 rfl) ?_
  refine lv_iconst (v := (0 : Int32)) hx hb dX9_fleet_1 (by decide) ?_
  refine q_put (T := TX9) E hh h_inX9 tyX9 tyX9_ok nmX9 28 (WW_at_28 G σ) rfl 0 (by decide) (List.mem_cons_of_mem _ (List.mem_append_left _ (List.mem_of_getElem? (i := 0) rfl))) rfl rfl (by decide +kernel) (Nat.le_of_ble_eq_true rfl) dX9_fleet_2 (WW_si_23 G σ (0 : Int32)) (fun H locs hh => ?_)
  refine lv_aload_n hx hb dX9_fleet_5 rfl (lv_at hl 0 rfl) ?_
  refine lv_aload_n hx hb dX9_fleet_6 rfl (lv_at hl 0 rfl) ?_
  refine lv_iload_n hx hb dX9_fleet_7 rfl (lv_at hl 1 rfl) ?_
  refine q_Vi (As := [.int p1]) (rest := [.ref (G.2.1 28)]) E hh (c_X9_isBoat l G _ _ _ _ h) (cwV 1 hts gX9_fleet_X9_isBoat rfl rfl rfl (by decide +kernel) ⟨Nat.le_of_ble_eq_true rfl, Nat.le_of_ble_eq_true rfl⟩) (va_recv (ci := 9) E.2.1 hh.1 rfl (WW_at_28 G (si σ 23 (0 : Int32)))) rfl hl.1 rfl (Nat.le_of_ble_eq_true rfl) dX9_fleet_8 ⟨Nat.zero_le _, Nat.zero_le _⟩ (fun r8 s8 H locs h hh => ?_)
  refine lv_if_ne (tgt := 18) hx hb dX9_fleet_11 (by decide) (fun c9 => ?_) (fun c9 => ?_)
  · have h := h.1 c9
    refine lv_iconst (v := (0 : Int32)) hx hb dX9_fleet_18 (by decide) ?_
    refine lv_iconst (v := (1 : Int32)) hx hb dX9_fleet_19 (by decide) ?_
    refine q_Vi (As := [.int (0 : Int32), .int (1 : Int32)]) (rest := []) E hh (c_X9_bad l G _ _ _ _ _ h) (cwV 2 hts gX9_fleet_X9_bad rfl rfl rfl (by decide +kernel) ⟨Nat.le_of_ble_eq_true rfl, Nat.le_of_ble_eq_true rfl⟩) (va_recv (ci := 9) E.2.1 hh.1 rfl (WW_at_28 G s8)) rfl hl.1 rfl (Nat.le_of_ble_eq_true rfl) dX9_fleet_20 ⟨Nat.zero_le _, Nat.zero_le _⟩ (fun r20 s20 H locs h hh => ?_)
    refine lv_if_eq (tgt := 30) hx hb dX9_fleet_23 (by decide) (fun c9 => ?_) (fun c9 => ?_)
    · have h := h.1 c9
      refine lv_aload_n hx hb dX9_fleet_30 rfl (lv_at hl 0 rfl) ?_
      refine q_get (T := TX9) (v := .ref (G.2.1 43)) E hh h_inX9 28 (WW_at_28 G s20) rfl 35 (by decide) (List.mem_cons_of_mem _ (List.mem_append_left _ (List.mem_of_getElem? (i := 1) rfl))) rfl rfl dX9_fleet_31 ?_
      refine lv_iload_n hx hb dX9_fleet_34 rfl (lv_at hl 1 rfl) ?_
      obtain ⟨h0, h⟩ := h
      refine q_iald E hh 43 (WW_at_43 G s20) h0 dX9_fleet_35 ?_
      exact q_iret E hh hr hlocks h dX9_fleet_36
    · have h := h.2 c9
      refine lv_iconst (v := (0 : Int32)) hx hb dX9_fleet_26 (by decide) ?_
      refine lv_goto (tgt := 36) hx hb dX9_fleet_27 (by decide) ?_
      exact q_iret E hh hr hlocks h dX9_fleet_36
  · have h := h.2 c9
    refine lv_iconst (v := (1 : Int32)) hx hb dX9_fleet_14 (by decide) ?_
    refine lv_goto (tgt := 19) hx hb dX9_fleet_15 (by decide) ?_
    refine lv_iconst (v := (1 : Int32)) hx hb dX9_fleet_19 (by decide) ?_
    refine q_Vi (As := [.int (1 : Int32), .int (1 : Int32)]) (rest := []) E hh (c_X9_bad l G _ _ _ _ _ h) (cwV 2 hts gX9_fleet_X9_bad rfl rfl rfl (by decide +kernel) ⟨Nat.le_of_ble_eq_true rfl, Nat.le_of_ble_eq_true rfl⟩) (va_recv (ci := 9) E.2.1 hh.1 rfl (WW_at_28 G s8)) rfl hl.1 rfl (Nat.le_of_ble_eq_true rfl) dX9_fleet_20 ⟨Nat.zero_le _, Nat.zero_le _⟩ (fun r20 s20 H locs h hh => ?_)
    refine lv_if_eq (tgt := 30) hx hb dX9_fleet_23 (by decide) (fun c9 => ?_) (fun c9 => ?_)
    · have h := h.1 c9
      refine lv_aload_n hx hb dX9_fleet_30 rfl (lv_at hl 0 rfl) ?_
      refine q_get (T := TX9) (v := .ref (G.2.1 43)) E hh h_inX9 28 (WW_at_28 G s20) rfl 35 (by decide) (List.mem_cons_of_mem _ (List.mem_append_left _ (List.mem_of_getElem? (i := 1) rfl))) rfl rfl dX9_fleet_31 ?_
      refine lv_iload_n hx hb dX9_fleet_34 rfl (lv_at hl 1 rfl) ?_
      obtain ⟨h0, h⟩ := h
      refine q_iald E hh 43 (WW_at_43 G s20) h0 dX9_fleet_35 ?_
      exact q_iret E hh hr hlocks h dX9_fleet_36
    · have h := h.2 c9
      refine lv_iconst (v := (0 : Int32)) hx hb dX9_fleet_26 (by decide) ?_
      refine lv_goto (tgt := 36) hx hb dX9_fleet_27 (by decide) ?_
      exact q_iret E hh hr hlocks h dX9_fleet_36
def f_X9_noise (σ : St) (p1 : Int32) (Q : Int32 → St → Prop) : Prop :=
  ((¬ (gi (si σ 23 (0 : Int32)) 44) = (20 : Int32) → (vp_in (gi (si σ 23 (0 : Int32)) 44) 20 ∧ Q (gi (si (sa (si σ 23 (0 : Int32)) 45 (upd (ga (si σ 23 (0 : Int32)) 45) (gi (si σ 23 (0 : Int32)) 44).toNatClampNeg p1)) 44 ((gi (sa (si σ 23 (0 : Int32)) 45 (upd (ga (si σ 23 (0 : Int32)) 45) (gi (si σ 23 (0 : Int32)) 44).toNatClampNeg p1)) 44) + (1 : Int32))) 44) (si (sa (si σ 23 (0 : Int32)) 45 (upd (ga (si σ 23 (0 : Int32)) 45) (gi (si σ 23 (0 : Int32)) 44).toNatClampNeg p1)) 44 ((gi (sa (si σ 23 (0 : Int32)) 45 (upd (ga (si σ 23 (0 : Int32)) 45) (gi (si σ 23 (0 : Int32)) 44).toNatClampNeg p1)) 44) + (1 : Int32))))) ∧ ((gi (si σ 23 (0 : Int32)) 44) = (20 : Int32) → Q (-1 : Int32) (si σ 23 (0 : Int32))))
set_option maxHeartbeats 4000000 in
set_option maxRecDepth 100000 in
theorem c_X9_noise (l : Launch) (G : GG) (σ : St) (sz : Nat) (p1 : Int32) (Q : Int32 → St → Prop) (h : f_X9_noise σ p1 Q) : CTi l yX9_noise wsX9_noise ({ frames := 0, cells := 0, slots := 0, locals := 0 }) [.ref (G.2.1 28), .int p1] G σ sz Q := by
  refine Met.ofW (cc := cX9_noise) (maxL := 2) (ret := (some .int)) (by decide) rfl ?_
  intro p e s m args below meth c s₁ B hml hv
  obtain ⟨rfl, hpre⟩ := hv
  have hr := B.returns
  have hlocks := B.notSynchronized
  obtain ⟨hsz, -⟩ := id hpre
  subst hsz
  obtain ⟨E, hh⟩ := EV.ofPre (⟨B.exec, B.bytes, hml, findClass_of_methodNamed B.named, atoms_spec (ws := wsX9_noise) B.pre⟩ : CallFix p m c cX9_noise 2 s _ wsX9_noise RX9) hpre
  have hx := E.1.1
  have hb := E.1.2.1
  have hown := E.1.2.2.2.1
  have hts := E.1.2.2.2.2
  have h_inX9 : ∀ w ∈ wsX90, w ∈ wsX9_noise := (fun _ h9 => (List.mem_cons_of_mem _ (List.mem_append_right _ h9)))
  have hl := lv_entry ([.ref (G.2.1 28), .int p1]) (n := 2) (Nat.le_of_ble_eq_true rfl)
  rw [lg_entry_eq]
  generalize (lg_sl ([.ref (G.2.1 28), .int p1]) ++ List.replicate (2 - (lg_sl ([.ref (G.2.1 28), .int p1])).length) Slot.unset).toArray = ls at hl ⊢
  have hl : lv_has ls 2 [(0, .ref (G.2.1 28)), (1, .int p1)] := hl
  unfold f_X9_noise at h
  refine lv_aload_n hx hb dX9_noise_0 rfl (lv_at hl 0 rfl) ?_
  refine lv_iconst (v := (0 : Int32)) hx hb dX9_noise_1 (by decide) ?_
  refine q_put (T := TX9) E hh h_inX9 tyX9 tyX9_ok nmX9 28 (WW_at_28 G σ) rfl 0 (by decide) (List.mem_cons_of_mem _ (List.mem_append_left _ (List.mem_of_getElem? (i := 0) rfl))) rfl rfl (by decide +kernel) (Nat.le_of_ble_eq_true rfl) dX9_noise_2 (WW_si_23 G σ (0 : Int32)) (fun H locs hh => ?_)
  refine lv_aload_n hx hb dX9_noise_5 rfl (lv_at hl 0 rfl) ?_
  refine q_get (T := TX9) (v := .int (gi (si σ 23 (0 : Int32)) 44)) E hh h_inX9 28 (WW_at_28 G (si σ 23 (0 : Int32))) rfl 38 (by decide) (List.mem_cons_of_mem _ (List.mem_append_left _ (List.mem_of_getElem? (i := 1) rfl))) rfl rfl dX9_noise_6 ?_
  refine lv_bipush (v := (20 : Int32)) hx hb dX9_noise_9 (by decide) ?_
  refine lv_icmp_ne (tgt := 16) hx hb dX9_noise_11 (by decide) (fun c9 => ?_) (fun c9 => ?_)
  · have h := h.1 c9
    refine lv_aload_n hx hb dX9_noise_16 rfl (lv_at hl 0 rfl) ?_
    refine q_get (T := TX9) (v := .ref (G.2.1 45)) E hh h_inX9 28 (WW_at_28 G (si σ 23 (0 : Int32))) rfl 37 (by decide) (List.mem_cons_of_mem _ (List.mem_append_left _ (List.mem_of_getElem? (i := 2) rfl))) rfl rfl dX9_noise_17 ?_
    refine lv_aload_n hx hb dX9_noise_20 rfl (lv_at hl 0 rfl) ?_
    refine q_get (T := TX9) (v := .int (gi (si σ 23 (0 : Int32)) 44)) E hh h_inX9 28 (WW_at_28 G (si σ 23 (0 : Int32))) rfl 38 (by decide) (List.mem_cons_of_mem _ (List.mem_append_left _ (List.mem_of_getElem? (i := 1) rfl))) rfl rfl dX9_noise_21 ?_
    refine lv_iload_n hx hb dX9_noise_24 rfl (lv_at hl 1 rfl) ?_
    obtain ⟨h0, h⟩ := h
    refine q_iast E hh 45 (WW_at_45 G (si σ 23 (0 : Int32))) h0 dX9_noise_25 (WW_sa_45 G (si σ 23 (0 : Int32)) (upd (ga (si σ 23 (0 : Int32)) 45) (gi (si σ 23 (0 : Int32)) 44).toNatClampNeg p1)) (fun H locs hh => ?_)
    refine lv_aload_n hx hb dX9_noise_26 rfl (lv_at hl 0 rfl) ?_
    refine lv_dup hx hb dX9_noise_27 rfl ?_
    refine q_get (T := TX9) (v := .int (gi (sa (si σ 23 (0 : Int32)) 45 (upd (ga (si σ 23 (0 : Int32)) 45) (gi (si σ 23 (0 : Int32)) 44).toNatClampNeg p1)) 44)) E hh h_inX9 28 (WW_at_28 G (sa (si σ 23 (0 : Int32)) 45 (upd (ga (si σ 23 (0 : Int32)) 45) (gi (si σ 23 (0 : Int32)) 44).toNatClampNeg p1))) rfl 38 (by decide) (List.mem_cons_of_mem _ (List.mem_append_left _ (List.mem_of_getElem? (i := 1) rfl))) rfl rfl dX9_noise_28 ?_
    refine lv_iconst (v := (1 : Int32)) hx hb dX9_noise_31 (by decide) ?_
    refine lv_iadd hx hb dX9_noise_32 ?_
    refine q_put (T := TX9) E hh h_inX9 tyX9 tyX9_ok nmX9 28 (WW_at_28 G (sa (si σ 23 (0 : Int32)) 45 (upd (ga (si σ 23 (0 : Int32)) 45) (gi (si σ 23 (0 : Int32)) 44).toNatClampNeg p1))) rfl 38 (by decide) (List.mem_cons_of_mem _ (List.mem_append_left _ (List.mem_of_getElem? (i := 1) rfl))) rfl rfl (by decide +kernel) (Nat.le_of_ble_eq_true rfl) dX9_noise_33 (WW_si_44 G (sa (si σ 23 (0 : Int32)) 45 (upd (ga (si σ 23 (0 : Int32)) 45) (gi (si σ 23 (0 : Int32)) 44).toNatClampNeg p1)) ((gi (sa (si σ 23 (0 : Int32)) 45 (upd (ga (si σ 23 (0 : Int32)) 45) (gi (si σ 23 (0 : Int32)) 44).toNatClampNeg p1)) 44) + (1 : Int32))) (fun H locs hh => ?_)
    refine lv_aload_n hx hb dX9_noise_36 rfl (lv_at hl 0 rfl) ?_
    refine q_get (T := TX9) (v := .int (gi (si (sa (si σ 23 (0 : Int32)) 45 (upd (ga (si σ 23 (0 : Int32)) 45) (gi (si σ 23 (0 : Int32)) 44).toNatClampNeg p1)) 44 ((gi (sa (si σ 23 (0 : Int32)) 45 (upd (ga (si σ 23 (0 : Int32)) 45) (gi (si σ 23 (0 : Int32)) 44).toNatClampNeg p1)) 44) + (1 : Int32))) 44)) E hh h_inX9 28 (WW_at_28 G (si (sa (si σ 23 (0 : Int32)) 45 (upd (ga (si σ 23 (0 : Int32)) 45) (gi (si σ 23 (0 : Int32)) 44).toNatClampNeg p1)) 44 ((gi (sa (si σ 23 (0 : Int32)) 45 (upd (ga (si σ 23 (0 : Int32)) 45) (gi (si σ 23 (0 : Int32)) 44).toNatClampNeg p1)) 44) + (1 : Int32)))) rfl 38 (by decide) (List.mem_cons_of_mem _ (List.mem_append_left _ (List.mem_of_getElem? (i := 1) rfl))) rfl rfl dX9_noise_37 ?_
    exact q_iret E hh hr hlocks h dX9_noise_40
  · have h := h.2 c9
    refine lv_iconst (v := (-1 : Int32)) hx hb dX9_noise_14 (by decide) ?_
    exact q_iret E hh hr hlocks h dX9_noise_15
def f_X9_draw_67 (Q : Int32 → St → Prop)  (rec : St → Int32 → Int32 → Prop) (σ : St) (l1 : Int32) (l2 : Int32) : Prop :=
  ((l2 ≤ 0 → Q (gi (si σ 44 (0 : Int32)) 41) (si σ 44 (0 : Int32))) ∧ (¬ l2 ≤ 0 → (vp_in l1 20 ∧ (¬ (l2 + (1 : Int32)).toInt64 = 0 ∧ (vp_in l2 16 ∧ (vp_in (((ga σ 45 l1.toNatClampNeg).toInt64 &&& (4294967295 : Int64)) - ((ga σ 45 l1.toNatClampNeg).toInt64 &&& (4294967295 : Int64)) / (l2 + (1 : Int32)).toInt64 * (l2 + (1 : Int32)).toInt64).toInt32 16 ∧ (vp_in l2 16 ∧ (vp_in (((ga σ 45 l1.toNatClampNeg).toInt64 &&& (4294967295 : Int64)) - ((ga σ 45 l1.toNatClampNeg).toInt64 &&& (4294967295 : Int64)) / (l2 + (1 : Int32)).toInt64 * (l2 + (1 : Int32)).toInt64).toInt32 16 ∧ rec (sa (sa σ 46 (upd (ga σ 46) l2.toNatClampNeg (ga σ 46 (((ga σ 45 l1.toNatClampNeg).toInt64 &&& (4294967295 : Int64)) - ((ga σ 45 l1.toNatClampNeg).toInt64 &&& (4294967295 : Int64)) / (l2 + (1 : Int32)).toInt64 * (l2 + (1 : Int32)).toInt64).toInt32.toNatClampNeg))) 46 (upd (ga (sa σ 46 (upd (ga σ 46) l2.toNatClampNeg (ga σ 46 (((ga σ 45 l1.toNatClampNeg).toInt64 &&& (4294967295 : Int64)) - ((ga σ 45 l1.toNatClampNeg).toInt64 &&& (4294967295 : Int64)) / (l2 + (1 : Int32)).toInt64 * (l2 + (1 : Int32)).toInt64).toInt32.toNatClampNeg))) 46) (((ga σ 45 l1.toNatClampNeg).toInt64 &&& (4294967295 : Int64)) - ((ga σ 45 l1.toNatClampNeg).toInt64 &&& (4294967295 : Int64)) / (l2 + (1 : Int32)).toInt64 * (l2 + (1 : Int32)).toInt64).toInt32.toNatClampNeg (ga σ 46 l2.toNatClampNeg))) (l1 + 1) (l2 + (-1))))))))))
def f_X9_draw_67L (Q : Int32 → St → Prop)  : Nat → St → Int32 → Int32 → Prop
  | 0, _, _, _ => False
  | n + 1, σ, l1, l2 => f_X9_draw_67 Q  (f_X9_draw_67L Q  n) σ l1 l2
set_option maxHeartbeats 4000000 in
set_option maxRecDepth 100000 in
theorem w_X9_draw_67 {p : Program} {l : Launch} {e : Env} {s : State} {m : MethodId} {args : Array Value} {below : List Frame} {meth : Method} {c : Code} {G : GG} (E : EV p s m args c cX9_draw 5 wsX9_draw RX9 G (AD G s.heap.size)) (hr : meth.sig.returnType = (some .int)) (hlocks : meth.locks = false) {Q : Int32 → St → Prop}  : ∀ (n : Nat) (σ : St) (l1 : Int32) (l2 : Int32) (H : Heap) (locs : List Loc) (ls : Array Slot), f_X9_draw_67L Q  n σ l1 l2 → HH G (AD G s.heap.size) s σ H locs → lv_has ls 5 [(0, .ref (G.2.1 28)), (1, .int l1), (2, .int l2)] → W p l e ({ frames := 0, cells := 0, slots := 0, locals := 0 }) s m args below meth c H locs 0 0 (MQi below G args s Q) (F0 m 67 ls []) := by
  have hx := E.1.1
  have hb := E.1.2.1
  have hown := E.1.2.2.2.1
  have hts := E.1.2.2.2.2
  have h_inX9 : ∀ w ∈ wsX90, w ∈ wsX9_draw := (fun _ h9 => (List.mem_cons_of_mem _ (List.mem_append_right _ h9)))
  intro n
  induction n with
  | zero =>
    intro σ l1 l2 H locs ls h
    exact h.elim
  | succ n ih =>
    intro σ l1 l2 H locs ls h hh hl
    have h : f_X9_draw_67 Q  (f_X9_draw_67L Q  n) σ l1 l2 := h
    unfold f_X9_draw_67 at h
    refine lv_iload_n hx hb dX9_draw_67 rfl (lv_at hl 2 rfl) ?_
    refine lv_if_le (tgt := 126) hx hb dX9_draw_68 (by decide) (fun c9 => ?_) (fun c9 => ?_)
    · have h := h.1 c9
      refine lv_aload_n hx hb dX9_draw_126 rfl (lv_at hl 0 rfl) ?_
      refine lv_iconst (v := (0 : Int32)) hx hb dX9_draw_127 (by decide) ?_
      refine q_put (T := TX9) E hh h_inX9 tyX9 tyX9_ok nmX9 28 (WW_at_28 G σ) rfl 38 (by decide) (List.mem_cons_of_mem _ (List.mem_append_left _ (List.mem_of_getElem? (i := 2) rfl))) rfl rfl (by decide +kernel) (Nat.le_of_ble_eq_true rfl) dX9_draw_128 (WW_si_44 G σ (0 : Int32)) (fun H locs hh => ?_)
      refine lv_aload_n hx hb dX9_draw_131 rfl (lv_at hl 0 rfl) ?_
      refine q_get (T := TX9) (v := .int (gi (si σ 44 (0 : Int32)) 41)) E hh h_inX9 28 (WW_at_28 G (si σ 44 (0 : Int32))) rfl 27 (by decide) (List.mem_cons_of_mem _ (List.mem_append_left _ (List.mem_of_getElem? (i := 1) rfl))) rfl rfl dX9_draw_132 ?_
      exact q_iret E hh hr hlocks h dX9_draw_135
    · have h := h.2 c9
      refine lv_aload_n hx hb dX9_draw_71 rfl (lv_at hl 0 rfl) ?_
      refine q_get (T := TX9) (v := .ref (G.2.1 45)) E hh h_inX9 28 (WW_at_28 G σ) rfl 37 (by decide) (List.mem_cons_of_mem _ (List.mem_append_left _ (List.mem_of_getElem? (i := 5) rfl))) rfl rfl dX9_draw_72 ?_
      refine lv_iload_n hx hb dX9_draw_75 rfl (lv_at hl 1 rfl) ?_
      obtain ⟨h0, h⟩ := h
      refine q_iald E hh 45 (WW_at_45 G σ) h0 dX9_draw_76 ?_
      refine lv_i2l (v := (ga σ 45 l1.toNatClampNeg).toInt64) hx hb dX9_draw_77 rfl ?_
      refine lv_ldc2 (own := RX9) (v := (4294967295 : Int64)) hx hb hown (hts _ (List.mem_cons_of_mem _ (List.mem_append_left _ (List.mem_of_getElem? (i := 6) rfl)))) dX9_draw_78 ?_
      refine lv_land hx hb dX9_draw_81 ?_
      refine lv_iload_n hx hb dX9_draw_82 rfl (lv_at hl 2 rfl) ?_
      refine lv_iconst (v := (1 : Int32)) hx hb dX9_draw_83 (by decide) ?_
      refine lv_iadd hx hb dX9_draw_84 ?_
      refine lv_i2l (v := (l2 + (1 : Int32)).toInt64) hx hb dX9_draw_85 rfl ?_
      obtain ⟨h0, h⟩ := h
      refine lv_lrem hx hb dX9_draw_86 h0 ?_
      refine lv_l2i (v := (((ga σ 45 l1.toNatClampNeg).toInt64 &&& (4294967295 : Int64)) - ((ga σ 45 l1.toNatClampNeg).toInt64 &&& (4294967295 : Int64)) / (l2 + (1 : Int32)).toInt64 * (l2 + (1 : Int32)).toInt64).toInt32) hx hb dX9_draw_87 rfl ?_
      refine lv_istore_n (lv' := [(3, .int (((ga σ 45 l1.toNatClampNeg).toInt64 &&& (4294967295 : Int64)) - ((ga σ 45 l1.toNatClampNeg).toInt64 &&& (4294967295 : Int64)) / (l2 + (1 : Int32)).toInt64 * (l2 + (1 : Int32)).toInt64).toInt32), (0, .ref (G.2.1 28)), (1, .int l1), (2, .int l2)]) hx hb dX9_draw_88 rfl hl (by decide) rfl (fun ls hl => ?_)
      refine lv_iinc (v := (l1 + 1)) (lv' := [(1, .int (l1 + 1)), (3, .int (((ga σ 45 l1.toNatClampNeg).toInt64 &&& (4294967295 : Int64)) - ((ga σ 45 l1.toNatClampNeg).toInt64 &&& (4294967295 : Int64)) / (l2 + (1 : Int32)).toInt64 * (l2 + (1 : Int32)).toInt64).toInt32), (0, .ref (G.2.1 28)), (2, .int l2)]) hx hb dX9_draw_89 hl (k := 2) rfl rfl (by decide) rfl (fun ls hl => ?_)
      refine lv_aload_n hx hb dX9_draw_92 rfl (lv_at hl 2 rfl) ?_
      refine q_get (T := TX9) (v := .ref (G.2.1 46)) E hh h_inX9 28 (WW_at_28 G σ) rfl 40 (by decide) (List.mem_cons_of_mem _ (List.mem_append_left _ (List.mem_of_getElem? (i := 4) rfl))) rfl rfl dX9_draw_93 ?_
      refine lv_iload_n hx hb dX9_draw_96 rfl (lv_at hl 3 rfl) ?_
      obtain ⟨h0, h⟩ := h
      refine q_iald E hh 46 (WW_at_46 G σ) h0 dX9_draw_97 ?_
      refine lv_istore (lv' := [(4, .int (ga σ 46 l2.toNatClampNeg)), (1, .int (l1 + 1)), (3, .int (((ga σ 45 l1.toNatClampNeg).toInt64 &&& (4294967295 : Int64)) - ((ga σ 45 l1.toNatClampNeg).toInt64 &&& (4294967295 : Int64)) / (l2 + (1 : Int32)).toInt64 * (l2 + (1 : Int32)).toInt64).toInt32), (0, .ref (G.2.1 28)), (2, .int l2)]) hx hb dX9_draw_98 hl (by decide) rfl (fun ls hl => ?_)
      refine lv_aload_n hx hb dX9_draw_100 rfl (lv_at hl 3 rfl) ?_
      refine q_get (T := TX9) (v := .ref (G.2.1 46)) E hh h_inX9 28 (WW_at_28 G σ) rfl 40 (by decide) (List.mem_cons_of_mem _ (List.mem_append_left _ (List.mem_of_getElem? (i := 4) rfl))) rfl rfl dX9_draw_101 ?_
      refine lv_iload_n hx hb dX9_draw_104 rfl (lv_at hl 4 rfl) ?_
      refine lv_aload_n hx hb dX9_draw_105 rfl (lv_at hl 3 rfl) ?_
      refine q_get (T := TX9) (v := .ref (G.2.1 46)) E hh h_inX9 28 (WW_at_28 G σ) rfl 40 (by decide) (List.mem_cons_of_mem _ (List.mem_append_left _ (List.mem_of_getElem? (i := 4) rfl))) rfl rfl dX9_draw_106 ?_
      refine lv_iload_n hx hb dX9_draw_109 rfl (lv_at hl 2 rfl) ?_
      obtain ⟨h0, h⟩ := h
      refine q_iald E hh 46 (WW_at_46 G σ) h0 dX9_draw_110 ?_
      obtain ⟨h0, h⟩ := h
      refine q_iast E hh 46 (WW_at_46 G σ) h0 dX9_draw_111 (WW_sa_46 G σ (upd (ga σ 46) l2.toNatClampNeg (ga σ 46 (((ga σ 45 l1.toNatClampNeg).toInt64 &&& (4294967295 : Int64)) - ((ga σ 45 l1.toNatClampNeg).toInt64 &&& (4294967295 : Int64)) / (l2 + (1 : Int32)).toInt64 * (l2 + (1 : Int32)).toInt64).toInt32.toNatClampNeg))) (fun H locs hh => ?_)
      refine lv_aload_n hx hb dX9_draw_112 rfl (lv_at hl 3 rfl) ?_
      refine q_get (T := TX9) (v := .ref (G.2.1 46)) E hh h_inX9 28 (WW_at_28 G (sa σ 46 (upd (ga σ 46) l2.toNatClampNeg (ga σ 46 (((ga σ 45 l1.toNatClampNeg).toInt64 &&& (4294967295 : Int64)) - ((ga σ 45 l1.toNatClampNeg).toInt64 &&& (4294967295 : Int64)) / (l2 + (1 : Int32)).toInt64 * (l2 + (1 : Int32)).toInt64).toInt32.toNatClampNeg)))) rfl 40 (by decide) (List.mem_cons_of_mem _ (List.mem_append_left _ (List.mem_of_getElem? (i := 4) rfl))) rfl rfl dX9_draw_113 ?_
      refine lv_iload_n hx hb dX9_draw_116 rfl (lv_at hl 2 rfl) ?_
      refine lv_iload hx hb dX9_draw_117 (lv_at hl 0 rfl) ?_
      obtain ⟨h0, h⟩ := h
      refine q_iast E hh 46 (WW_at_46 G (sa σ 46 (upd (ga σ 46) l2.toNatClampNeg (ga σ 46 (((ga σ 45 l1.toNatClampNeg).toInt64 &&& (4294967295 : Int64)) - ((ga σ 45 l1.toNatClampNeg).toInt64 &&& (4294967295 : Int64)) / (l2 + (1 : Int32)).toInt64 * (l2 + (1 : Int32)).toInt64).toInt32.toNatClampNeg)))) h0 dX9_draw_119 (WW_sa_46 G (sa σ 46 (upd (ga σ 46) l2.toNatClampNeg (ga σ 46 (((ga σ 45 l1.toNatClampNeg).toInt64 &&& (4294967295 : Int64)) - ((ga σ 45 l1.toNatClampNeg).toInt64 &&& (4294967295 : Int64)) / (l2 + (1 : Int32)).toInt64 * (l2 + (1 : Int32)).toInt64).toInt32.toNatClampNeg))) (upd (ga (sa σ 46 (upd (ga σ 46) l2.toNatClampNeg (ga σ 46 (((ga σ 45 l1.toNatClampNeg).toInt64 &&& (4294967295 : Int64)) - ((ga σ 45 l1.toNatClampNeg).toInt64 &&& (4294967295 : Int64)) / (l2 + (1 : Int32)).toInt64 * (l2 + (1 : Int32)).toInt64).toInt32.toNatClampNeg))) 46) (((ga σ 45 l1.toNatClampNeg).toInt64 &&& (4294967295 : Int64)) - ((ga σ 45 l1.toNatClampNeg).toInt64 &&& (4294967295 : Int64)) / (l2 + (1 : Int32)).toInt64 * (l2 + (1 : Int32)).toInt64).toInt32.toNatClampNeg (ga σ 46 l2.toNatClampNeg))) (fun H locs hh => ?_)
      refine lv_iinc (v := (l2 + (-1))) (lv' := [(2, .int (l2 + (-1))), (4, .int (ga σ 46 l2.toNatClampNeg)), (1, .int (l1 + 1)), (3, .int (((ga σ 45 l1.toNatClampNeg).toInt64 &&& (4294967295 : Int64)) - ((ga σ 45 l1.toNatClampNeg).toInt64 &&& (4294967295 : Int64)) / (l2 + (1 : Int32)).toInt64 * (l2 + (1 : Int32)).toInt64).toInt32), (0, .ref (G.2.1 28))]) hx hb dX9_draw_120 hl (k := 4) rfl rfl (by decide) rfl (fun ls hl => ?_)
      refine lv_goto (tgt := 67) hx hb dX9_draw_123 (by decide) ?_
      exact ih _ _ _ _ _ _ h hh (lv_sub hl [4, 2, 0] rfl)
def f_X9_draw_37 (Q : Int32 → St → Prop)  (rec : St → Int32 → Prop) (σ : St) (l1 : Int32) : Prop :=
  (((gi σ 41) ≤ l1 → f_X9_draw_67L Q FU σ (0 : Int32) ((gi σ 41) - (1 : Int32))) ∧ (¬ (gi σ 41) ≤ l1 → (vp_in l1 16 ∧ rec (sa σ 46 (upd (ga σ 46) l1.toNatClampNeg l1)) (l1 + 1))))
def f_X9_draw_37L (Q : Int32 → St → Prop)  : Nat → St → Int32 → Prop
  | 0, _, _ => False
  | n + 1, σ, l1 => f_X9_draw_37 Q  (f_X9_draw_37L Q  n) σ l1
set_option maxHeartbeats 4000000 in
set_option maxRecDepth 100000 in
theorem w_X9_draw_37 {p : Program} {l : Launch} {e : Env} {s : State} {m : MethodId} {args : Array Value} {below : List Frame} {meth : Method} {c : Code} {G : GG} (E : EV p s m args c cX9_draw 5 wsX9_draw RX9 G (AD G s.heap.size)) (hr : meth.sig.returnType = (some .int)) (hlocks : meth.locks = false) {Q : Int32 → St → Prop}  : ∀ (n : Nat) (σ : St) (l1 : Int32) (H : Heap) (locs : List Loc) (ls : Array Slot), f_X9_draw_37L Q  n σ l1 → HH G (AD G s.heap.size) s σ H locs → lv_has ls 5 [(0, .ref (G.2.1 28)), (1, .int l1)] → W p l e ({ frames := 0, cells := 0, slots := 0, locals := 0 }) s m args below meth c H locs 0 0 (MQi below G args s Q) (F0 m 37 ls []) := by
  have hx := E.1.1
  have hb := E.1.2.1
  have hown := E.1.2.2.2.1
  have hts := E.1.2.2.2.2
  have h_inX9 : ∀ w ∈ wsX90, w ∈ wsX9_draw := (fun _ h9 => (List.mem_cons_of_mem _ (List.mem_append_right _ h9)))
  intro n
  induction n with
  | zero =>
    intro σ l1 H locs ls h
    exact h.elim
  | succ n ih =>
    intro σ l1 H locs ls h hh hl
    have h : f_X9_draw_37 Q  (f_X9_draw_37L Q  n) σ l1 := h
    unfold f_X9_draw_37 at h
    refine lv_iload_n hx hb dX9_draw_37 rfl (lv_at hl 1 rfl) ?_
    refine lv_aload_n hx hb dX9_draw_38 rfl (lv_at hl 0 rfl) ?_
    refine q_get (T := TX9) (v := .int (gi σ 41)) E hh h_inX9 28 (WW_at_28 G σ) rfl 27 (by decide) (List.mem_cons_of_mem _ (List.mem_append_left _ (List.mem_of_getElem? (i := 1) rfl))) rfl rfl dX9_draw_39 ?_
    refine lv_icmp_ge (tgt := 58) hx hb dX9_draw_42 (by decide) (fun c9 => ?_) (fun c9 => ?_)
    · have h := h.1 c9
      refine lv_iconst (v := (0 : Int32)) hx hb dX9_draw_58 (by decide) ?_
      refine lv_istore_n (lv' := [(1, .int (0 : Int32)), (0, .ref (G.2.1 28))]) hx hb dX9_draw_59 rfl hl (by decide) rfl (fun ls hl => ?_)
      refine lv_aload_n hx hb dX9_draw_60 rfl (lv_at hl 1 rfl) ?_
      refine q_get (T := TX9) (v := .int (gi σ 41)) E hh h_inX9 28 (WW_at_28 G σ) rfl 27 (by decide) (List.mem_cons_of_mem _ (List.mem_append_left _ (List.mem_of_getElem? (i := 1) rfl))) rfl rfl dX9_draw_61 ?_
      refine lv_iconst (v := (1 : Int32)) hx hb dX9_draw_64 (by decide) ?_
      refine lv_isub hx hb dX9_draw_65 ?_
      refine lv_istore_n (lv' := [(2, .int ((gi σ 41) - (1 : Int32))), (1, .int (0 : Int32)), (0, .ref (G.2.1 28))]) hx hb dX9_draw_66 rfl hl (by decide) rfl (fun ls hl => ?_)
      exact w_X9_draw_67 E hr hlocks  FU _ _ _ _ _ _ h hh (lv_sub hl [2, 1, 0] rfl)
    · have h := h.2 c9
      refine lv_aload_n hx hb dX9_draw_45 rfl (lv_at hl 0 rfl) ?_
      refine q_get (T := TX9) (v := .ref (G.2.1 46)) E hh h_inX9 28 (WW_at_28 G σ) rfl 40 (by decide) (List.mem_cons_of_mem _ (List.mem_append_left _ (List.mem_of_getElem? (i := 4) rfl))) rfl rfl dX9_draw_46 ?_
      refine lv_iload_n hx hb dX9_draw_49 rfl (lv_at hl 1 rfl) ?_
      refine lv_iload_n hx hb dX9_draw_50 rfl (lv_at hl 1 rfl) ?_
      obtain ⟨h0, h⟩ := h
      refine q_iast E hh 46 (WW_at_46 G σ) h0 dX9_draw_51 (WW_sa_46 G σ (upd (ga σ 46) l1.toNatClampNeg l1)) (fun H locs hh => ?_)
      refine lv_iinc (v := (l1 + 1)) (lv' := [(1, .int (l1 + 1)), (0, .ref (G.2.1 28))]) hx hb dX9_draw_52 hl (k := 1) rfl rfl (by decide) rfl (fun ls hl => ?_)
      refine lv_goto (tgt := 37) hx hb dX9_draw_55 (by decide) ?_
      exact ih _ _ _ _ _ h hh (lv_sub hl [1, 0] rfl)
def f_X9_draw (σ : St)  (Q : Int32 → St → Prop) : Prop :=
  (((gi (si σ 23 (0 : Int32)) 41) = 0 → Q (-1 : Int32) (si σ 23 (0 : Int32))) ∧ (¬ (gi (si σ 23 (0 : Int32)) 41) = 0 → ((((gi (si σ 23 (0 : Int32)) 41) - (1 : Int32)) ≤ (gi (si σ 23 (0 : Int32)) 44) → f_X9_draw_37L Q FU (si (si σ 23 (0 : Int32)) 45 (gi (si σ 23 (0 : Int32)) 41)) (0 : Int32)) ∧ (¬ ((gi (si σ 23 (0 : Int32)) 41) - (1 : Int32)) ≤ (gi (si σ 23 (0 : Int32)) 44) → Q (-1 : Int32) (si σ 23 (0 : Int32))))))
set_option maxHeartbeats 4000000 in
set_option maxRecDepth 100000 in
theorem c_X9_draw (l : Launch) (G : GG) (σ : St) (sz : Nat)  (Q : Int32 → St → Prop) (h : f_X9_draw σ  Q) : CTi l yX9_draw wsX9_draw ({ frames := 0, cells := 0, slots := 0, locals := 0 }) [.ref (G.2.1 28)] G σ sz Q := by
  refine Met.ofW (cc := cX9_draw) (maxL := 5) (ret := (some .int)) (by decide) rfl ?_
  intro p e s m args below meth c s₁ B hml hv
  obtain ⟨rfl, hpre⟩ := hv
  have hr := B.returns
  have hlocks := B.notSynchronized
  obtain ⟨hsz, -⟩ := id hpre
  subst hsz
  obtain ⟨E, hh⟩ := EV.ofPre (⟨B.exec, B.bytes, hml, findClass_of_methodNamed B.named, atoms_spec (ws := wsX9_draw) B.pre⟩ : CallFix p m c cX9_draw 5 s _ wsX9_draw RX9) hpre
  have hx := E.1.1
  have hb := E.1.2.1
  have hown := E.1.2.2.2.1
  have hts := E.1.2.2.2.2
  have h_inX9 : ∀ w ∈ wsX90, w ∈ wsX9_draw := (fun _ h9 => (List.mem_cons_of_mem _ (List.mem_append_right _ h9)))
  have hl := lv_entry ([.ref (G.2.1 28)]) (n := 5) (Nat.le_of_ble_eq_true rfl)
  rw [lg_entry_eq]
  generalize (lg_sl ([.ref (G.2.1 28)]) ++ List.replicate (5 - (lg_sl ([.ref (G.2.1 28)])).length) Slot.unset).toArray = ls at hl ⊢
  have hl : lv_has ls 5 [(0, .ref (G.2.1 28))] := hl
  unfold f_X9_draw at h
  refine lv_aload_n hx hb dX9_draw_0 rfl (lv_at hl 0 rfl) ?_
  refine lv_iconst (v := (0 : Int32)) hx hb dX9_draw_1 (by decide) ?_
  refine q_put (T := TX9) E hh h_inX9 tyX9 tyX9_ok nmX9 28 (WW_at_28 G σ) rfl 0 (by decide) (List.mem_cons_of_mem _ (List.mem_append_left _ (List.mem_of_getElem? (i := 0) rfl))) rfl rfl (by decide +kernel) (Nat.le_of_ble_eq_true rfl) dX9_draw_2 (WW_si_23 G σ (0 : Int32)) (fun H locs hh => ?_)
  refine lv_aload_n hx hb dX9_draw_5 rfl (lv_at hl 0 rfl) ?_
  refine q_get (T := TX9) (v := .int (gi (si σ 23 (0 : Int32)) 41)) E hh h_inX9 28 (WW_at_28 G (si σ 23 (0 : Int32))) rfl 27 (by decide) (List.mem_cons_of_mem _ (List.mem_append_left _ (List.mem_of_getElem? (i := 1) rfl))) rfl rfl dX9_draw_6 ?_
  refine lv_if_eq (tgt := 25) hx hb dX9_draw_9 (by decide) (fun c9 => ?_) (fun c9 => ?_)
  · have h := h.1 c9
    refine lv_iconst (v := (-1 : Int32)) hx hb dX9_draw_25 (by decide) ?_
    exact q_iret E hh hr hlocks h dX9_draw_26
  · have h := h.2 c9
    refine lv_aload_n hx hb dX9_draw_12 rfl (lv_at hl 0 rfl) ?_
    refine q_get (T := TX9) (v := .int (gi (si σ 23 (0 : Int32)) 44)) E hh h_inX9 28 (WW_at_28 G (si σ 23 (0 : Int32))) rfl 38 (by decide) (List.mem_cons_of_mem _ (List.mem_append_left _ (List.mem_of_getElem? (i := 2) rfl))) rfl rfl dX9_draw_13 ?_
    refine lv_aload_n hx hb dX9_draw_16 rfl (lv_at hl 0 rfl) ?_
    refine q_get (T := TX9) (v := .int (gi (si σ 23 (0 : Int32)) 41)) E hh h_inX9 28 (WW_at_28 G (si σ 23 (0 : Int32))) rfl 27 (by decide) (List.mem_cons_of_mem _ (List.mem_append_left _ (List.mem_of_getElem? (i := 1) rfl))) rfl rfl dX9_draw_17 ?_
    refine lv_iconst (v := (1 : Int32)) hx hb dX9_draw_20 (by decide) ?_
    refine lv_isub hx hb dX9_draw_21 ?_
    refine lv_icmp_ge (tgt := 27) hx hb dX9_draw_22 (by decide) (fun c9 => ?_) (fun c9 => ?_)
    · have h := h.1 c9
      refine lv_aload_n hx hb dX9_draw_27 rfl (lv_at hl 0 rfl) ?_
      refine lv_aload_n hx hb dX9_draw_28 rfl (lv_at hl 0 rfl) ?_
      refine q_get (T := TX9) (v := .int (gi (si σ 23 (0 : Int32)) 41)) E hh h_inX9 28 (WW_at_28 G (si σ 23 (0 : Int32))) rfl 27 (by decide) (List.mem_cons_of_mem _ (List.mem_append_left _ (List.mem_of_getElem? (i := 1) rfl))) rfl rfl dX9_draw_29 ?_
      refine q_put (T := TX9) E hh h_inX9 tyX9 tyX9_ok nmX9 28 (WW_at_28 G (si σ 23 (0 : Int32))) rfl 39 (by decide) (List.mem_cons_of_mem _ (List.mem_append_left _ (List.mem_of_getElem? (i := 3) rfl))) rfl rfl (by decide +kernel) (Nat.le_of_ble_eq_true rfl) dX9_draw_32 (WW_si_45 G (si σ 23 (0 : Int32)) (gi (si σ 23 (0 : Int32)) 41)) (fun H locs hh => ?_)
      refine lv_iconst (v := (0 : Int32)) hx hb dX9_draw_35 (by decide) ?_
      refine lv_istore_n (lv' := [(1, .int (0 : Int32)), (0, .ref (G.2.1 28))]) hx hb dX9_draw_36 rfl hl (by decide) rfl (fun ls hl => ?_)
      exact w_X9_draw_37 E hr hlocks  FU _ _ _ _ _ h hh (lv_sub hl [1, 0] rfl)
    · have h := h.2 c9
      refine lv_iconst (v := (-1 : Int32)) hx hb dX9_draw_25 (by decide) ?_
      exact q_iret E hh hr hlocks h dX9_draw_26
def f_X9_lot (σ : St) (p1 : Int32) (Q : Int32 → St → Prop) : Prop :=
  ((p1 < 0 → Q (-1 : Int32) (si σ 23 (0 : Int32))) ∧ (¬ p1 < 0 → (((gi (si σ 23 (0 : Int32)) 45) ≤ p1 → Q (-1 : Int32) (si σ 23 (0 : Int32))) ∧ (¬ (gi (si σ 23 (0 : Int32)) 45) ≤ p1 → (vp_in p1 16 ∧ Q (ga (si σ 23 (0 : Int32)) 46 p1.toNatClampNeg) (si σ 23 (0 : Int32)))))))
set_option maxHeartbeats 4000000 in
set_option maxRecDepth 100000 in
theorem c_X9_lot (l : Launch) (G : GG) (σ : St) (sz : Nat) (p1 : Int32) (Q : Int32 → St → Prop) (h : f_X9_lot σ p1 Q) : CTi l yX9_lot wsX9_lot ({ frames := 0, cells := 0, slots := 0, locals := 0 }) [.ref (G.2.1 28), .int p1] G σ sz Q := by
  refine Met.ofW (cc := cX9_lot) (maxL := 2) (ret := (some .int)) (by decide) rfl ?_
  intro p e s m args below meth c s₁ B hml hv
  obtain ⟨rfl, hpre⟩ := hv
  have hr := B.returns
  have hlocks := B.notSynchronized
  obtain ⟨hsz, -⟩ := id hpre
  subst hsz
  obtain ⟨E, hh⟩ := EV.ofPre (⟨B.exec, B.bytes, hml, findClass_of_methodNamed B.named, atoms_spec (ws := wsX9_lot) B.pre⟩ : CallFix p m c cX9_lot 2 s _ wsX9_lot RX9) hpre
  have hx := E.1.1
  have hb := E.1.2.1
  have hown := E.1.2.2.2.1
  have hts := E.1.2.2.2.2
  have h_inX9 : ∀ w ∈ wsX90, w ∈ wsX9_lot := (fun _ h9 => (List.mem_cons_of_mem _ (List.mem_append_right _ h9)))
  have hl := lv_entry ([.ref (G.2.1 28), .int p1]) (n := 2) (Nat.le_of_ble_eq_true rfl)
  rw [lg_entry_eq]
  generalize (lg_sl ([.ref (G.2.1 28), .int p1]) ++ List.replicate (2 - (lg_sl ([.ref (G.2.1 28), .int p1])).length) Slot.unset).toArray = ls at hl ⊢
  have hl : lv_has ls 2 [(0, .ref (G.2.1 28)), (1, .int p1)] := hl
  unfold f_X9_lot at h
  refine lv_aload_n hx hb dX9_lot_0 rfl (lv_at hl 0 rfl) ?_
  refine lv_iconst (v := (0 : Int32)) hx hb dX9_lot_1 (by decide) ?_
  refine q_put (T := TX9) E hh h_inX9 tyX9 tyX9_ok nmX9 28 (WW_at_28 G σ) rfl 0 (by decide) (List.mem_cons_of_mem _ (List.mem_append_left _ (List.mem_of_getElem? (i := 0) rfl))) rfl rfl (by decide +kernel) (Nat.le_of_ble_eq_true rfl) dX9_lot_2 (WW_si_23 G σ (0 : Int32)) (fun H locs hh => ?_)
  refine lv_iload_n hx hb dX9_lot_5 rfl (lv_at hl 1 rfl) ?_
  refine lv_if_lt (tgt := 26) hx hb dX9_lot_6 (by decide) (fun c9 => ?_) (fun c9 => ?_)
  · have h := h.1 c9
    refine lv_iconst (v := (-1 : Int32)) hx hb dX9_lot_26 (by decide) ?_
    exact q_iret E hh hr hlocks h dX9_lot_27
  · have h := h.2 c9
    refine lv_iload_n hx hb dX9_lot_9 rfl (lv_at hl 1 rfl) ?_
    refine lv_aload_n hx hb dX9_lot_10 rfl (lv_at hl 0 rfl) ?_
    refine q_get (T := TX9) (v := .int (gi (si σ 23 (0 : Int32)) 45)) E hh h_inX9 28 (WW_at_28 G (si σ 23 (0 : Int32))) rfl 39 (by decide) (List.mem_cons_of_mem _ (List.mem_append_left _ (List.mem_of_getElem? (i := 1) rfl))) rfl rfl dX9_lot_11 ?_
    refine lv_icmp_ge (tgt := 26) hx hb dX9_lot_14 (by decide) (fun c9 => ?_) (fun c9 => ?_)
    · have h := h.1 c9
      refine lv_iconst (v := (-1 : Int32)) hx hb dX9_lot_26 (by decide) ?_
      exact q_iret E hh hr hlocks h dX9_lot_27
    · have h := h.2 c9
      refine lv_aload_n hx hb dX9_lot_17 rfl (lv_at hl 0 rfl) ?_
      refine q_get (T := TX9) (v := .ref (G.2.1 46)) E hh h_inX9 28 (WW_at_28 G (si σ 23 (0 : Int32))) rfl 40 (by decide) (List.mem_cons_of_mem _ (List.mem_append_left _ (List.mem_of_getElem? (i := 2) rfl))) rfl rfl dX9_lot_18 ?_
      refine lv_iload_n hx hb dX9_lot_21 rfl (lv_at hl 1 rfl) ?_
      obtain ⟨h0, h⟩ := h
      refine q_iald E hh 46 (WW_at_46 G (si σ 23 (0 : Int32))) h0 dX9_lot_22 ?_
      refine lv_goto (tgt := 27) hx hb dX9_lot_23 (by decide) ?_
      exact q_iret E hh hr hlocks h dX9_lot_27
def f_X9_count (σ : St) (p1 : Int32) (Q : Int32 → St → Prop) : Prop :=
  ((p1 = (0 : Int32) → Q (gi (si σ 23 (0 : Int32)) 41) (si σ 23 (0 : Int32))) ∧ (¬ p1 = (0 : Int32) → ((p1 = (1 : Int32) → Q (gi (si σ 23 (0 : Int32)) 42) (si σ 23 (0 : Int32))) ∧ (¬ p1 = (1 : Int32) → ((p1 = (2 : Int32) → Q (gi (si σ 23 (0 : Int32)) 33) (si σ 23 (0 : Int32))) ∧ (¬ p1 = (2 : Int32) → ((p1 = (3 : Int32) → f_X9_safeMany (si σ 23 (0 : Int32)) (fun r64 s64 => Q r64 s64)) ∧ (¬ p1 = (3 : Int32) → ((p1 = (4 : Int32) → Q (gi (si σ 23 (0 : Int32)) 44) (si σ 23 (0 : Int32))) ∧ (¬ p1 = (4 : Int32) → ((p1 = (5 : Int32) → Q (gi (si σ 23 (0 : Int32)) 28) (si σ 23 (0 : Int32))) ∧ (¬ p1 = (5 : Int32) → ((p1 = (6 : Int32) → Q (gi (si σ 23 (0 : Int32)) 43) (si σ 23 (0 : Int32))) ∧ (¬ p1 = (6 : Int32) → Q (-1 : Int32) (si σ 23 (0 : Int32))))))))))))))))
set_option maxHeartbeats 4000000 in
set_option maxRecDepth 100000 in
theorem c_X9_count (l : Launch) (G : GG) (σ : St) (sz : Nat) (p1 : Int32) (Q : Int32 → St → Prop) (h : f_X9_count σ p1 Q) : CTi l yX9_count wsX9_count ({ frames := 2, cells := 0, slots := 0, locals := 43 }) [.ref (G.2.1 28), .int p1] G σ sz Q := by
  refine Met.ofW (cc := cX9_count) (maxL := 2) (ret := (some .int)) (by decide) rfl ?_
  intro p e s m args below meth c s₁ B hml hv
  obtain ⟨rfl, hpre⟩ := hv
  have hr := B.returns
  have hlocks := B.notSynchronized
  obtain ⟨hsz, -⟩ := id hpre
  subst hsz
  obtain ⟨E, hh⟩ := EV.ofPre (⟨B.exec, B.bytes, hml, findClass_of_methodNamed B.named, atoms_spec (ws := wsX9_count) B.pre⟩ : CallFix p m c cX9_count 2 s _ wsX9_count RX9) hpre
  have hx := E.1.1
  have hb := E.1.2.1
  have hown := E.1.2.2.2.1
  have hts := E.1.2.2.2.2
  have h_inX9 : ∀ w ∈ wsX90, w ∈ wsX9_count := (fun _ h9 => (List.mem_cons_of_mem _ (List.mem_append_right _ h9)))
  have hl := lv_entry ([.ref (G.2.1 28), .int p1]) (n := 2) (Nat.le_of_ble_eq_true rfl)
  rw [lg_entry_eq]
  generalize (lg_sl ([.ref (G.2.1 28), .int p1]) ++ List.replicate (2 - (lg_sl ([.ref (G.2.1 28), .int p1])).length) Slot.unset).toArray = ls at hl ⊢
  have hl : lv_has ls 2 [(0, .ref (G.2.1 28)), (1, .int p1)] := hl
  unfold f_X9_count at h
  refine lv_aload_n hx hb dX9_count_0 rfl (lv_at hl 0 rfl) ?_
  refine lv_iconst (v := (0 : Int32)) hx hb dX9_count_1 (by decide) ?_
  refine q_put (T := TX9) E hh h_inX9 tyX9 tyX9_ok nmX9 28 (WW_at_28 G σ) rfl 0 (by decide) (List.mem_cons_of_mem _ (List.mem_append_left _ (List.mem_of_getElem? (i := 0) rfl))) rfl rfl (by decide +kernel) (Nat.le_of_ble_eq_true rfl) dX9_count_2 (WW_si_23 G σ (0 : Int32)) (fun H locs hh => ?_)
  refine lv_iload_n hx hb dX9_count_5 rfl (lv_at hl 1 rfl) ?_
  by_cases c9_0 : p1 = (0 : Int32)
  · have h := h.1 c9_0
    refine lv_tableIn (tgt := 48) hx hb dX9_count_6 (by rw [c9_0]; decide) (by rw [c9_0]; decide) (by rw [c9_0] <;> rfl) (by decide) ?_
    refine lv_aload_n hx hb dX9_count_48 rfl (lv_at hl 0 rfl) ?_
    refine q_get (T := TX9) (v := .int (gi (si σ 23 (0 : Int32)) 41)) E hh h_inX9 28 (WW_at_28 G (si σ 23 (0 : Int32))) rfl 27 (by decide) (List.mem_cons_of_mem _ (List.mem_append_left _ (List.mem_of_getElem? (i := 1) rfl))) rfl rfl dX9_count_49 ?_
    exact q_iret E hh hr hlocks h dX9_count_52
  have h := h.2 c9_0
  by_cases c9_1 : p1 = (1 : Int32)
  · have h := h.1 c9_1
    refine lv_tableIn (tgt := 53) hx hb dX9_count_6 (by rw [c9_1]; decide) (by rw [c9_1]; decide) (by rw [c9_1] <;> rfl) (by decide) ?_
    refine lv_aload_n hx hb dX9_count_53 rfl (lv_at hl 0 rfl) ?_
    refine q_get (T := TX9) (v := .int (gi (si σ 23 (0 : Int32)) 42)) E hh h_inX9 28 (WW_at_28 G (si σ 23 (0 : Int32))) rfl 30 (by decide) (List.mem_cons_of_mem _ (List.mem_append_left _ (List.mem_of_getElem? (i := 2) rfl))) rfl rfl dX9_count_54 ?_
    exact q_iret E hh hr hlocks h dX9_count_57
  have h := h.2 c9_1
  by_cases c9_2 : p1 = (2 : Int32)
  · have h := h.1 c9_2
    refine lv_tableIn (tgt := 58) hx hb dX9_count_6 (by rw [c9_2]; decide) (by rw [c9_2]; decide) (by rw [c9_2] <;> rfl) (by decide) ?_
    refine lv_aload_n hx hb dX9_count_58 rfl (lv_at hl 0 rfl) ?_
    refine q_get (T := TX9) (v := .int (gi (si σ 23 (0 : Int32)) 33)) E hh h_inX9 28 (WW_at_28 G (si σ 23 (0 : Int32))) rfl 14 (by decide) (List.mem_cons_of_mem _ (List.mem_append_left _ (List.mem_of_getElem? (i := 3) rfl))) rfl rfl dX9_count_59 ?_
    exact q_iret E hh hr hlocks h dX9_count_62
  have h := h.2 c9_2
  by_cases c9_3 : p1 = (3 : Int32)
  · have h := h.1 c9_3
    refine lv_tableIn (tgt := 63) hx hb dX9_count_6 (by rw [c9_3]; decide) (by rw [c9_3]; decide) (by rw [c9_3] <;> rfl) (by decide) ?_
    refine lv_aload_n hx hb dX9_count_63 rfl (lv_at hl 0 rfl) ?_
    refine q_Vi (As := []) (rest := []) E hh (c_X9_safeMany l G _ _  _ h) (cwV 0 hts gX9_count_X9_safeMany rfl rfl rfl (by decide +kernel) ⟨Nat.le_of_ble_eq_true rfl, Nat.le_of_ble_eq_true rfl⟩) (va_recv (ci := 9) E.2.1 hh.1 rfl (WW_at_28 G (si σ 23 (0 : Int32)))) rfl hl.1 rfl (Nat.le_of_ble_eq_true rfl) dX9_count_64 ⟨Nat.zero_le _, Nat.zero_le _⟩ (fun r64 s64 H locs h hh => ?_)
    exact q_iret E hh hr hlocks h dX9_count_67
  have h := h.2 c9_3
  by_cases c9_4 : p1 = (4 : Int32)
  · have h := h.1 c9_4
    refine lv_tableIn (tgt := 68) hx hb dX9_count_6 (by rw [c9_4]; decide) (by rw [c9_4]; decide) (by rw [c9_4] <;> rfl) (by decide) ?_
    refine lv_aload_n hx hb dX9_count_68 rfl (lv_at hl 0 rfl) ?_
    refine q_get (T := TX9) (v := .int (gi (si σ 23 (0 : Int32)) 44)) E hh h_inX9 28 (WW_at_28 G (si σ 23 (0 : Int32))) rfl 38 (by decide) (List.mem_cons_of_mem _ (List.mem_append_left _ (List.mem_of_getElem? (i := 4) rfl))) rfl rfl dX9_count_69 ?_
    exact q_iret E hh hr hlocks h dX9_count_72
  have h := h.2 c9_4
  by_cases c9_5 : p1 = (5 : Int32)
  · have h := h.1 c9_5
    refine lv_tableIn (tgt := 73) hx hb dX9_count_6 (by rw [c9_5]; decide) (by rw [c9_5]; decide) (by rw [c9_5] <;> rfl) (by decide) ?_
    refine lv_aload_n hx hb dX9_count_73 rfl (lv_at hl 0 rfl) ?_
    refine q_get (T := TX9) (v := .int (gi (si σ 23 (0 : Int32)) 28)) E hh h_inX9 28 (WW_at_28 G (si σ 23 (0 : Int32))) rfl 9 (by decide) (List.mem_cons_of_mem _ (List.mem_append_left _ (List.mem_of_getElem? (i := 5) rfl))) rfl rfl dX9_count_74 ?_
    exact q_iret E hh hr hlocks h dX9_count_77
  have h := h.2 c9_5
  by_cases c9_6 : p1 = (6 : Int32)
  · have h := h.1 c9_6
    refine lv_tableIn (tgt := 78) hx hb dX9_count_6 (by rw [c9_6]; decide) (by rw [c9_6]; decide) (by rw [c9_6] <;> rfl) (by decide) ?_
    refine lv_aload_n hx hb dX9_count_78 rfl (lv_at hl 0 rfl) ?_
    refine q_get (T := TX9) (v := .int (gi (si σ 23 (0 : Int32)) 43)) E hh h_inX9 28 (WW_at_28 G (si σ 23 (0 : Int32))) rfl 31 (by decide) (List.mem_cons_of_mem _ (List.mem_append_left _ (List.mem_of_getElem? (i := 6) rfl))) rfl rfl dX9_count_79 ?_
    exact q_iret E hh hr hlocks h dX9_count_82
  have h := h.2 c9_6
  refine lv_tableOut (tgt := 83) hx hb dX9_count_6 (by have z0 := lv_neT c9_0 (show ((0 : Int32)).toInt = 0 by decide); have z1 := lv_neT c9_1 (show ((1 : Int32)).toInt = 1 by decide); have z2 := lv_neT c9_2 (show ((2 : Int32)).toInt = 2 by decide); have z3 := lv_neT c9_3 (show ((3 : Int32)).toInt = 3 by decide); have z4 := lv_neT c9_4 (show ((4 : Int32)).toInt = 4 by decide); have z5 := lv_neT c9_5 (show ((5 : Int32)).toInt = 5 by decide); have z6 := lv_neT c9_6 (show ((6 : Int32)).toInt = 6 by decide); omega) (by decide) ?_
  refine lv_iconst (v := (-1 : Int32)) hx hb dX9_count_83 (by decide) ?_
  exact q_iret E hh hr hlocks h dX9_count_84
