abbrev nar : List Cond := flatC (Jvm.Cond.and given_1 narrow_1)
def mK : List Nat := [186, 197, 207, 202, 174, 176, 178]
def tK : List Nat := [61, 67, 69, 95, 117, 119, 121]
def gK : List Nat := [83, 123, 136, 142, 164, 185, 214, 266, 268, 270, 275, 277, 279, 281]
abbrev mT (i : Nat) : Term := .string "IceRegattaModel" (mK.getD i 0)
set_option maxRecDepth 100000 in
theorem sm1 : ∀ i, i < 7 → Cond.exactly (mT i) "java/lang/String" ∈ nar := by decide +kernel
set_option maxRecDepth 100000 in
theorem sm2 : ∀ i, i < 7 → Cond.eq (.field (mT i) "java/lang/String" "coder" "B") (.int 0) ∈ nar := by decide +kernel
set_option maxRecDepth 100000 in
theorem sm3 : ∀ i, i < 7 → Cond.arrayOf (.field (mT i) "java/lang/String" "value" "[B") .byte ∈ nar := by decide +kernel
set_option maxRecDepth 100000 in
theorem sm4 : ∀ i, i < 7 → Cond.eq (.length (.field (mT i) "java/lang/String" "value" "[B")) (.int (Int32.ofNat (wLen.getD i 0))) ∈ nar := by decide +kernel
set_option maxRecDepth 100000 in
theorem sm5 : ∀ i, i < 7 → ∀ j, j < wLen.getD i 0 → Cond.eq (.elem (.field (mT i) "java/lang/String" "value" "[B") (.int (Int32.ofNat j))) (.int ((wByt.getD i []).getD j 0)) ∈ nar := by decide +kernel
set_option maxRecDepth 100000 in
theorem sm6 : ∀ i, i < 7 → Cond.eq (.string "IceRegatta$Tape" (tK.getD i 0)) (mT i) ∈ nar := by decide +kernel
set_option maxRecDepth 100000 in
theorem sm7 : ∀ i, i < 14 → Cond.exactly (.string "IceRegatta" (gK.getD i 0)) "java/lang/String" ∈ nar := by decide +kernel
set_option maxRecDepth 100000 in
theorem sm8 : ∀ q ∈ strL, Cond.stringRef q.1 q.2.1 q.2.2.1 ∈ lw_tbl := by decide +kernel
set_option maxRecDepth 100000 in
theorem sm9 : ∀ q ∈ nwF, Cond.fieldLinkNest q.1 q.2.1 q.2.2.1 q.2.2.2.1 q.2.2.2.2.1 q.2.2.2.2.2 ∈ lw_tbl := by decide +kernel
set_option maxRecDepth 100000 in
theorem sm10 : ∀ q ∈ nwM, Cond.methodLinkNest q.1 q.2.1 q.2.2.1 q.2.2.2 ∈ lw_tbl := by decide +kernel
set_option maxRecDepth 100000 in
theorem sm11 : ∀ q ∈ xwC, Cond.castable q.1 q.2 ∈ lw_tbl := by decide +kernel
set_option maxRecDepth 100000 in
theorem sm12 : ∀ q ∈ xwD, Cond.declares q ∈ lw_tbl := by decide +kernel
set_option maxRecDepth 100000 in
theorem sm13 : ∀ q ∈ xwN, Cond.not (.castable q.1 q.2) ∈ nar := by decide +kernel
theorem inj7 : ∀ i j : Fin 7, wLen.getD i.val 0 = wLen.getD j.val 0 → (wByt.getD i.val []).getD 0 0 = (wByt.getD j.val []).getD 0 0 → i = j := by decide
set_option maxHeartbeats 4000000 in
set_option maxRecDepth 100000 in
theorem st_facts {b : Nat} {s : State} (hts : ∀ w ∈ lw_tbl, w.before #[Value.ref b] s = true) (hgv : (Jvm.Cond.and given_1 narrow_1).before #[Value.ref b] s = true) :
    ∃ (D : va_G) (cst : Nat → Nat), va_K D vwCl (TYS (D, fun _ => 0, cst)) s ∧ ST (D, fun _ => 0, cst) (fun q : Nat => s.heap.size ≤ q) s s.heap := by
  have hs := flat_of_before _ hgv
  have hA : ∀ a : Nat, a < s.heap.size → ¬ (fun q : Nat => s.heap.size ≤ q) a := fun a h => Nat.not_le.mpr h
  obtain ⟨c0, i0, h0⟩ := u_known (C := RX0) (T := TX0) (N := 4) (n := 4) hts wl_x0 (hts (.instantiable RX0 4) (by decide +kernel))
  obtain ⟨c1, i1, h1⟩ := u_known (C := RX1) (T := TX1) (N := 2) (n := 2) hts wl_x1 (hts (.instantiable RX1 2) (by decide +kernel))
  obtain ⟨c2, i2, h2⟩ := u_known (C := RX2) (T := TX2) (N := 2) (n := 2) hts wl_x2 (hts (.instantiable RX2 2) (by decide +kernel))
  obtain ⟨c3, i3, h3⟩ := u_known (C := RX3) (T := TX3) (N := 3) (n := 3) hts wl_x3 (hts (.instantiable RX3 3) (by decide +kernel))
  obtain ⟨c4, i4, h4⟩ := u_known (C := RX4) (T := TX4) (N := 4) (n := 4) hts wl_x4 (hts (.instantiable RX4 4) (by decide +kernel))
  obtain ⟨c5, i5, h5⟩ := u_known (C := RX5) (T := TX5) (N := 7) (n := 7) hts wl_x5 (hts (.instantiable RX5 7) (by decide +kernel))
  obtain ⟨c6, i6, h6⟩ := u_known (C := RX6) (T := TX6) (N := 6) (n := 6) hts wl_x6 (hts (.instantiable RX6 6) (by decide +kernel))
  obtain ⟨c7, i7, h7⟩ := u_known (C := RX7) (T := TX7) (N := 7) (n := 7) hts wl_x7 (hts (.instantiable RX7 7) (by decide +kernel))
  obtain ⟨c8, i8, h8⟩ := u_known (C := RX8) (T := TX8) (N := 9) (n := 9) hts wl_x8 (hts (.instantiable RX8 9) (by decide +kernel))
  obtain ⟨c9, i9, h9⟩ := u_known (C := RX9) (T := TX9) (N := 41) (n := 41) hts wl_x9 (hts (.instantiable RX9 41) (by decide +kernel))
  obtain ⟨k0, ka0, kb0⟩ := arr_k (hts (.arrayClass .int) (by decide +kernel))
  obtain ⟨k1, ka1, kb1⟩ := arr_k (hts (.arrayClass .boolean) (by decide +kernel))
  obtain ⟨k2, ka2, kb2⟩ := arr_k (hts (.arrayClass .byte) (by decide +kernel))
  obtain ⟨k3, ka3, kb3⟩ := arr_k (hts (.arrayClass .long) (by decide +kernel))
  obtain ⟨tx, etx, htx⟩ := va_Tof (args := #[Value.ref b]) (s := s) (tm := .static "IceRegatta" "STEP_X" "[I") (ty := .int) (N := 8) (f := fun j => .int (stX.getD j 0)) (A := fun q : Nat => s.heap.size ≤ q) (by decide) (hs _ (by decide +kernel)) (va_eqt (z := Int32.ofNat 8) (hs _ (by decide +kernel))) (fun j hj => va_eqt (hs _ ((show ∀ j, j < 8 → Cond.eq (.elem (.static "IceRegatta" "STEP_X" "[I") (.int (Int32.ofNat j))) (.int (stX.getD j 0)) ∈ nar by decide +kernel) j hj))) hA
  obtain ⟨ty, ety, hty⟩ := va_Tof (args := #[Value.ref b]) (s := s) (tm := .static "IceRegatta" "STEP_Y" "[I") (ty := .int) (N := 8) (f := fun j => .int (stY.getD j 0)) (A := fun q : Nat => s.heap.size ≤ q) (by decide) (hs _ (by decide +kernel)) (va_eqt (z := Int32.ofNat 8) (hs _ (by decide +kernel))) (fun j hj => va_eqt (hs _ ((show ∀ j, j < 8 → Cond.eq (.elem (.static "IceRegatta" "STEP_Y" "[I") (.int (Int32.ofNat j))) (.int (stY.getD j 0)) ∈ nar by decide +kernel) j hj))) hA
  have hw0 : ∀ i : Nat, ∃ q : Nat × Nat, i < 7 → (va_O "java/lang/String" q.1 (fun q : Nat => s.heap.size ≤ q) s s.heap ∧ va_OF "java/lang/String" "coder" "B" (.int 0) q.1 (fun q : Nat => s.heap.size ≤ q) s s.heap ∧ va_OF "java/lang/String" "value" "[B" (.ref q.2) q.1 (fun q : Nat => s.heap.size ≤ q) s s.heap ∧ va_T .byte q.2 (wLen.getD i 0) (fun j => .int ((wByt.getD i []).getD j 0)) (fun q : Nat => s.heap.size ≤ q) s s.heap) ∧ (mT i).eval #[Value.ref b] s none [] s = some (.ref q.1) := by
    intro i
    by_cases hi : i < 7
    · obtain ⟨q, h⟩ := str1 (args := #[Value.ref b]) (s := s) (tm := mT i) (n := wLen.getD i 0) (byt := wByt.getD i []) (A := fun q : Nat => s.heap.size ≤ q) (by have := wl_le hi; unfold wl_ at this; omega) (hs _ (sm1 i hi)) (hs _ (sm2 i hi)) (hs _ (sm3 i hi)) (hs _ (sm4 i hi)) (fun j hj => hs _ (sm5 i hi j hj)) hA
      exact ⟨q, fun _ => h⟩
    · exact ⟨(0, 0), fun h => absurd h hi⟩
  obtain ⟨aw, hw⟩ := Classical.axiomOfChoice hw0
  have hg0 : ∀ i : Nat, ∃ a : Nat, i < 14 → (Term.string "IceRegatta" (gK.getD i 0)).eval #[Value.ref b] s none [] s = some (.ref a) := by
    intro i
    by_cases hi : i < 14
    · obtain ⟨a, c, cell, k, q1, -⟩ := Cond.exactly_spec (args := #[Value.ref b]) (first := s) (o := none) (s := s) (idx := []) (hs _ (sm7 i hi))
      exact ⟨a, fun _ => q1⟩
    · exact ⟨0, fun h => absurd h hi⟩
  obtain ⟨ag, hg⟩ := Classical.axiomOfChoice hg0
  refine ⟨(fun k => ([c0, c1, c2, c3, c4, c5, c6, c7, c8, c9] : List ClassId).getD k 0, fun k => ([i0, i1, i2, i3, i4, i5, i6, i7, i8, i9] : List (Nat → Nat)).getD k (fun _ => 0)), fun k => if k < 6 then ([k0, k1, k2, k3, tx, ty] : List Nat).getD k 0 else if k < 27 then (aw (k - 20)).1 else if k < 47 then (aw (k - 40)).2 else ag (k - 60), ⟨?_, ?_⟩, ⟨?_, ?_, ?_, ?_, ?_, ?_⟩, ?_⟩
  · intro k q hq
    match k, hq with
    | 0, hq => cases hq; exact h0
    | 1, hq => cases hq; exact h1
    | 2, hq => cases hq; exact h2
    | 3, hq => cases hq; exact h3
    | 4, hq => cases hq; exact h4
    | 5, hq => cases hq; exact h5
    | 6, hq => cases hq; exact h6
    | 7, hq => cases hq; exact h7
    | 8, hq => cases hq; exact h8
    | 9, hq => cases hq; exact h9
    | k + 10, hq => simp [vwCl] at hq
  · intro k q hq
    match k, hq with
    | 0, hq => cases hq; exact ⟨ka0, kb0⟩
    | 1, hq => cases hq; exact ⟨ka1, kb1⟩
    | 2, hq => cases hq; exact ⟨ka2, kb2⟩
    | 3, hq => cases hq; exact ⟨ka3, kb3⟩
    | k + 4, hq => simp [TYS] at hq
  · exact fun q hq => va_Nw.of rfl (hts _ (sm9 q hq))
  · exact fun q hq => va_Nw.of rfl (hts _ (sm10 q hq))
  · exact List.forall_mem_cons.mpr ⟨vk_R.of (hts _ (sm8 _ (List.mem_of_getElem? (i := 0) rfl))) (Cond.eq_refs (hs _ (sm6 0 (by decide))) (hw 0 (by decide)).2 rfl), List.forall_mem_cons.mpr ⟨vk_R.of (hts _ (sm8 _ (List.mem_of_getElem? (i := 1) rfl))) (Cond.eq_refs (hs _ (sm6 1 (by decide))) (hw 1 (by decide)).2 rfl), List.forall_mem_cons.mpr ⟨vk_R.of (hts _ (sm8 _ (List.mem_of_getElem? (i := 2) rfl))) (Cond.eq_refs (hs _ (sm6 2 (by decide))) (hw 2 (by decide)).2 rfl), List.forall_mem_cons.mpr ⟨vk_R.of (hts _ (sm8 _ (List.mem_of_getElem? (i := 3) rfl))) (Cond.eq_refs (hs _ (sm6 3 (by decide))) (hw 3 (by decide)).2 rfl), List.forall_mem_cons.mpr ⟨vk_R.of (hts _ (sm8 _ (List.mem_of_getElem? (i := 4) rfl))) (Cond.eq_refs (hs _ (sm6 4 (by decide))) (hw 4 (by decide)).2 rfl), List.forall_mem_cons.mpr ⟨vk_R.of (hts _ (sm8 _ (List.mem_of_getElem? (i := 5) rfl))) (Cond.eq_refs (hs _ (sm6 5 (by decide))) (hw 5 (by decide)).2 rfl), List.forall_mem_cons.mpr ⟨vk_R.of (hts _ (sm8 _ (List.mem_of_getElem? (i := 6) rfl))) (Cond.eq_refs (hs _ (sm6 6 (by decide))) (hw 6 (by decide)).2 rfl), List.forall_mem_cons.mpr ⟨vk_R.of (hts _ (sm8 _ (List.mem_of_getElem? (i := 7) rfl))) ((hw 4 (by decide)).2), List.forall_mem_cons.mpr ⟨vk_R.of (hts _ (sm8 _ (List.mem_of_getElem? (i := 8) rfl))) ((hw 5 (by decide)).2), List.forall_mem_cons.mpr ⟨vk_R.of (hts _ (sm8 _ (List.mem_of_getElem? (i := 9) rfl))) ((hw 6 (by decide)).2), List.forall_mem_cons.mpr ⟨vk_R.of (hts _ (sm8 _ (List.mem_of_getElem? (i := 10) rfl))) ((hw 0 (by decide)).2), List.forall_mem_cons.mpr ⟨vk_R.of (hts _ (sm8 _ (List.mem_of_getElem? (i := 11) rfl))) ((hw 1 (by decide)).2), List.forall_mem_cons.mpr ⟨vk_R.of (hts _ (sm8 _ (List.mem_of_getElem? (i := 12) rfl))) ((hw 3 (by decide)).2), List.forall_mem_cons.mpr ⟨vk_R.of (hts _ (sm8 _ (List.mem_of_getElem? (i := 13) rfl))) ((hw 2 (by decide)).2), List.forall_mem_cons.mpr ⟨vk_R.of (hts _ (sm8 _ (List.mem_of_getElem? (i := 14) rfl))) (hg 0 (by decide)), List.forall_mem_cons.mpr ⟨vk_R.of (hts _ (sm8 _ (List.mem_of_getElem? (i := 15) rfl))) (hg 1 (by decide)), List.forall_mem_cons.mpr ⟨vk_R.of (hts _ (sm8 _ (List.mem_of_getElem? (i := 16) rfl))) (hg 2 (by decide)), List.forall_mem_cons.mpr ⟨vk_R.of (hts _ (sm8 _ (List.mem_of_getElem? (i := 17) rfl))) (hg 3 (by decide)), List.forall_mem_cons.mpr ⟨vk_R.of (hts _ (sm8 _ (List.mem_of_getElem? (i := 18) rfl))) (hg 4 (by decide)), List.forall_mem_cons.mpr ⟨vk_R.of (hts _ (sm8 _ (List.mem_of_getElem? (i := 19) rfl))) (hg 5 (by decide)), List.forall_mem_cons.mpr ⟨vk_R.of (hts _ (sm8 _ (List.mem_of_getElem? (i := 20) rfl))) (hg 6 (by decide)), List.forall_mem_cons.mpr ⟨vk_R.of (hts _ (sm8 _ (List.mem_of_getElem? (i := 21) rfl))) (hg 7 (by decide)), List.forall_mem_cons.mpr ⟨vk_R.of (hts _ (sm8 _ (List.mem_of_getElem? (i := 22) rfl))) (hg 8 (by decide)), List.forall_mem_cons.mpr ⟨vk_R.of (hts _ (sm8 _ (List.mem_of_getElem? (i := 23) rfl))) (hg 9 (by decide)), List.forall_mem_cons.mpr ⟨vk_R.of (hts _ (sm8 _ (List.mem_of_getElem? (i := 24) rfl))) (hg 10 (by decide)), List.forall_mem_cons.mpr ⟨vk_R.of (hts _ (sm8 _ (List.mem_of_getElem? (i := 25) rfl))) (hg 11 (by decide)), List.forall_mem_cons.mpr ⟨vk_R.of (hts _ (sm8 _ (List.mem_of_getElem? (i := 26) rfl))) (hg 12 (by decide)), List.forall_mem_cons.mpr ⟨vk_R.of (hts _ (sm8 _ (List.mem_of_getElem? (i := 27) rfl))) (hg 13 (by decide)), fun _ h => absurd h List.not_mem_nil⟩⟩⟩⟩⟩⟩⟩⟩⟩⟩⟩⟩⟩⟩⟩⟩⟩⟩⟩⟩⟩⟩⟩⟩⟩⟩⟩⟩
  · exact fun q hq => va_Nw.of rfl (hts _ (sm11 q hq))
  · exact fun q hq => va_Nw.of rfl (hts _ (sm12 q hq))
  · exact fun q hq => va_Nc.of (hs _ (sm13 q hq))
  · refine ⟨va_Zof (hts _ (by decide +kernel)) (hts _ (by decide +kernel)) etx hA, htx, va_Zof (hts _ (by decide +kernel)) (hts _ (by decide +kernel)) ety hA, hty, va_Zof (hts _ (by decide +kernel)) (hts _ (by decide +kernel)) (va_eqt (hs _ (by decide +kernel))) hA, va_Zqof (hts _ (by decide +kernel)) (hts _ (by decide +kernel)) (hs _ (by decide +kernel)) hA, ⟨?_, ?_⟩, vx_Zqof (hts _ (by decide +kernel)) (hts _ (by decide +kernel)) (hs _ (by decide +kernel)) hA, vx_Zqof (hts _ (by decide +kernel)) (hts _ (by decide +kernel)) (hs _ (by decide +kernel)) hA⟩
    · intro i hi
      have e1 : (fun k => if k < 6 then ([k0, k1, k2, k3, tx, ty] : List Nat).getD k 0 else if k < 27 then (aw (k - 20)).1 else if k < 47 then (aw (k - 40)).2 else ag (k - 60)) (20 + i) = (aw i).1 := by
        show (if 20 + i < 6 then _ else if 20 + i < 27 then _ else _) = _
        rw [if_neg (by omega), if_pos (by omega), show 20 + i - 20 = i by omega]
      have e2 : (fun k => if k < 6 then ([k0, k1, k2, k3, tx, ty] : List Nat).getD k 0 else if k < 27 then (aw (k - 20)).1 else if k < 47 then (aw (k - 40)).2 else ag (k - 60)) (40 + i) = (aw i).2 := by
        show (if 40 + i < 6 then _ else if 40 + i < 27 then _ else if 40 + i < 47 then _ else _) = _
        rw [if_neg (by omega), if_neg (by omega), if_pos (by omega), show 40 + i - 40 = i by omega]
      have h := (hw i hi).1
      rw [← e1, ← e2] at h
      exact h
    · intro i j hi hj e
      have e1 : ∀ i, i < 7 → (fun k => if k < 6 then ([k0, k1, k2, k3, tx, ty] : List Nat).getD k 0 else if k < 27 then (aw (k - 20)).1 else if k < 47 then (aw (k - 40)).2 else ag (k - 60)) (20 + i) = (aw i).1 := by
        intro i hi
        show (if 20 + i < 6 then _ else if 20 + i < 27 then _ else _) = _
        rw [if_neg (by omega), if_pos (by omega), show 20 + i - 20 = i by omega]
      have e : (aw i).1 = (aw j).1 := (e1 i hi).symm.trans (e.trans (e1 j hj))
      have a := (hw i hi).1
      have b := (hw j hj).1
      rw [e] at a
      have ev := of_one a.2.2.1 b.2.2.1
      have ev : (aw i).2 = (aw j).2 := Value.ref.inj ev
      have aT := a.2.2.2
      rw [ev] at aT
      have l1 := wl_le hi
      have l2 := wl_le hj
      unfold wl_ at l1 l2
      obtain ⟨g1, g2⟩ := t_same aT b.2.2.2 (by omega) (by omega) (by omega) (by omega)
      have := inj7 ⟨i, hi⟩ ⟨j, hj⟩ g1 (Value.int.inj g2)
      exact congrArg Fin.val this
