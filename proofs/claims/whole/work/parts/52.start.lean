set_option maxHeartbeats 16000000 in
set_option maxRecDepth 100000 in
theorem whole_start {p : Program} {e : Env} {s : State} {m : MethodId} {below : List Frame} {meth : Method} {c : Code} (l : Launch) (hst : l.stackTraces = false) {b L : Nat} {xs : Nat → Int32} (hL : L ≤ 3072) (C0 : lw_At p s m meth c b L xs) : W p l e room_1 s m #[Value.ref b] below meth c s.heap [] 0 0 (lw_Z below #[Value.ref b] s) (entryFrame m ([Value.ref b] : List Value).toArray 7) := by
  obtain ⟨hx, hb, hr, hml, hown, hts, hX, hbl, hlocks, hgv⟩ := id C0
  obtain ⟨D, cst, hK4, hST⟩ := st_facts hts hgv
  have htsL : ∀ w ∈ wsL_law, w.before #[Value.ref b] s = true := fun w h => hts w (wsL_law_in w h)
  have hN : NWM s := hST.1.2.1
  have hK : va_K D vwCl (TY3 (D, fun _ => 0, cst)) s := hK4.sub [0, 1, 2] rfl
  have hA : ∀ q : Nat, s.heap.size ≤ q → (fun q : Nat => s.heap.size ≤ q) q := fun _ h => h
  have hS : va_S (fun q : Nat => s.heap.size ≤ q) s.heap s.heap [] := va_S.rf
  have hP : va_P D vwCl [] s.heap := fun k q h => by simp at h
  have hD : va_D (fun q : Nat => s.heap.size ≤ q) [] := ⟨fun i j p q h => by simp at h, fun k q h => by simp at h⟩
  have hl := lv_entry ([.ref b]) (n := 7) (Nat.le_of_ble_eq_true rfl)
  rw [lg_entry_eq]
  generalize (lg_sl ([.ref b]) ++ List.replicate (7 - (lg_sl ([.ref b])).length) Slot.unset).toArray = ls at hl ⊢
  have hl : lv_has ls 7 [(0, .ref b)] := hl
  refine va_new (D := D) (ci := 8) (fs := [.null, .null, .null, .null, .null, .null, .null, .null, .int 0]) (C := RX8) (T := TX8) (N := 9) hx hb htsL inlX8 tyX8 tyX8_ok hown (htsL (.classLink RL 8 RX8) (by decide +kernel)) (htsL (.instantiable RX8 9) (by decide +kernel)) (htsL (.initialized RX8) (by decide +kernel)) hK hP hD hS hA rfl (fun j hj => by rcases (show j = 0 ∨ j = 1 ∨ j = 2 ∨ j = 3 ∨ j = 4 ∨ j = 5 ∨ j = 6 ∨ j = 7 ∨ j = 8 by omega) with rfl | rfl | rfl | rfl | rfl | rfl | rfl | rfl | rfl <;> rfl) (Nat.le_of_ble_eq_true rfl) (Nat.le_of_ble_eq_true rfl) dL_law_0 (fun q0 H hP hD hS => ?_)
  refine W.widen (k := 1) (n := 9) (Nat.le_of_ble_eq_true rfl) (Nat.le_of_ble_eq_true rfl) ?_
  refine lv_dup hx hb dL_law_3 rfl ?_
  refine n_after (G := (D, fun _ => 0, cst)) (ws := []) (e0 := .inr (8, [.null, .null, .null, .null, .null, .null, .null, .null, .int 0])) (C := CK_X8 (D, fun _ => 0, cst) q0) (va_runI (As := []) (rest := [.ref q0]) ⟨hx, hb, hml, hown, htsL⟩ (k_X8_init l (D, fun _ => 0, cst) q0 H.size) (cwI 0 htsL gL_law_X8_init rfl rfl rfl (htsL (.initialized RX8) (by decide +kernel)) (htsL (.methodLink RL 78 yX8_init) (by decide +kernel)) (htsL (.instanceMethod yX8_init) (by decide +kernel)) rfl (by decide +kernel) ⟨Nat.le_of_ble_eq_true rfl, Nat.le_of_ble_eq_true rfl⟩) ⟨NP.blind _ _ _ _ _, fun U hU hW => ⟨rfl, NP.at (G := (D, fun _ => 0, cst)) (ws := []) hK hN hP hU hW⟩⟩ rfl rfl hl.1 rfl (lv_room (Nat.le_of_ble_eq_true rfl)) dL_law_4 ⟨Nat.le_of_ble_eq_true rfl, Nat.le_of_ble_eq_true rfl⟩) hP hD hS hA (fun b0 H locs hP hD hS => ?_)
  have hP : va_P D vwCl (CK_X8 (D, fun _ => 0, cst) q0 b0) H := hP
  have hD : va_D (fun q : Nat => s.heap.size ≤ q) (CK_X8 (D, fun _ => 0, cst) q0 b0) := hD
  refine W.widen (k := 28) (n := 1190) (Nat.le_of_ble_eq_true rfl) (Nat.le_of_ble_eq_true rfl) ?_
  refine lv_astore_n (lv' := [(1, .ref q0), (0, .ref b)]) hx hb dL_law_7 rfl hl (by decide) rfl (fun ls hl => ?_)
  refine va_new (D := D) (ci := 9) (fs := [.int 0, .null, .null, .null, .int 0, .int 0, .int 0, .int 0, .null, .int 0, .int 0, .int 0, .int 0, .int 0, .int 0, .int 0, .int 0, .int 0, .null, .int 0, .int 0, .int 0, .int 0, .null, .null, .null, .null, .int 0, .null, .null, .int 0, .int 0, .null, .null, .null, .null, .null, .null, .int 0, .int 0, .null]) (C := RX9) (T := TX9) (N := 41) hx hb htsL inlX9 tyX9 tyX9_ok hown (htsL (.classLink RL 79 RX9) (by decide +kernel)) (htsL (.instantiable RX9 41) (by decide +kernel)) (htsL (.initialized RX9) (by decide +kernel)) hK hP hD hS hA rfl (fun j hj => by rcases (show j = 0 ∨ j = 1 ∨ j = 2 ∨ j = 3 ∨ j = 4 ∨ j = 5 ∨ j = 6 ∨ j = 7 ∨ j = 8 ∨ j = 9 ∨ j = 10 ∨ j = 11 ∨ j = 12 ∨ j = 13 ∨ j = 14 ∨ j = 15 ∨ j = 16 ∨ j = 17 ∨ j = 18 ∨ j = 19 ∨ j = 20 ∨ j = 21 ∨ j = 22 ∨ j = 23 ∨ j = 24 ∨ j = 25 ∨ j = 26 ∨ j = 27 ∨ j = 28 ∨ j = 29 ∨ j = 30 ∨ j = 31 ∨ j = 32 ∨ j = 33 ∨ j = 34 ∨ j = 35 ∨ j = 36 ∨ j = 37 ∨ j = 38 ∨ j = 39 ∨ j = 40 by omega) with rfl | rfl | rfl | rfl | rfl | rfl | rfl | rfl | rfl | rfl | rfl | rfl | rfl | rfl | rfl | rfl | rfl | rfl | rfl | rfl | rfl | rfl | rfl | rfl | rfl | rfl | rfl | rfl | rfl | rfl | rfl | rfl | rfl | rfl | rfl | rfl | rfl | rfl | rfl | rfl | rfl <;> rfl) (Nat.le_of_ble_eq_true rfl) (Nat.le_of_ble_eq_true rfl) dL_law_8 (fun q1 H hP hD hS => ?_)
  refine W.widen (k := 29) (n := 1231) (Nat.le_of_ble_eq_true rfl) (Nat.le_of_ble_eq_true rfl) ?_
  refine lv_dup hx hb dL_law_11 rfl ?_
  refine n_after (G := (D, fun _ => 0, cst)) (ws := CK_X8 (D, fun _ => 0, cst) q0 b0) (e0 := .inr (9, [.int 0, .null, .null, .null, .int 0, .int 0, .int 0, .int 0, .null, .int 0, .int 0, .int 0, .int 0, .int 0, .int 0, .int 0, .int 0, .int 0, .null, .int 0, .int 0, .int 0, .int 0, .null, .null, .null, .null, .int 0, .null, .null, .int 0, .int 0, .null, .null, .null, .null, .null, .null, .int 0, .int 0, .null])) (C := CK_X9 (D, fun _ => 0, cst) q1) (va_runI (As := []) (rest := [.ref q1]) ⟨hx, hb, hml, hown, htsL⟩ (k_X9_init l (D, fun _ => 0, cst) q1 H.size) (cwI 0 htsL gL_law_X9_init rfl rfl rfl (htsL (.initialized RX9) (by decide +kernel)) (htsL (.methodLink RL 81 yX9_init) (by decide +kernel)) (htsL (.instanceMethod yX9_init) (by decide +kernel)) rfl (by decide +kernel) ⟨Nat.le_of_ble_eq_true rfl, Nat.le_of_ble_eq_true rfl⟩) ⟨NP.blind _ _ _ _ _, fun U hU hW => ⟨rfl, NP.at (G := (D, fun _ => 0, cst)) (ws := CK_X8 (D, fun _ => 0, cst) q0 b0) hK hN hP hU hW⟩⟩ rfl rfl hl.1 rfl (lv_room (Nat.le_of_ble_eq_true rfl)) dL_law_12 ⟨Nat.le_of_ble_eq_true rfl, Nat.le_of_ble_eq_true rfl⟩) hP hD hS hA (fun b1 H locs hP hD hS => ?_)
  have hP : va_P D vwCl (CK_X8 (D, fun _ => 0, cst) q0 b0 ++ CK_X9 (D, fun _ => 0, cst) q1 b1) H := hP
  have hD : va_D (fun q : Nat => s.heap.size ≤ q) (CK_X8 (D, fun _ => 0, cst) q0 b0 ++ CK_X9 (D, fun _ => 0, cst) q1 b1) := hD
  refine W.widen (k := 47) (n := 2373) (Nat.le_of_ble_eq_true rfl) (Nat.le_of_ble_eq_true rfl) ?_
  refine lv_astore_n (lv' := [(2, .ref q1), (1, .ref q0), (0, .ref b)]) hx hb dL_law_15 rfl hl (by decide) rfl (fun ls hl => ?_)
  refine lv_iconst (v := 1) hx hb dL_law_16 (by decide) ?_
  refine va_newa (atype := .long) (a0 := (1, .inr (.inl (fun _ => 0)))) (N' := 1) hx hb (htsL (.arrayClass .long) (by decide +kernel)) rfl hK4 hP hD hS hA (fun _ => rfl) (by decide) (by decide) (by decide) (Nat.le_of_ble_eq_true rfl) (Nat.le_of_ble_eq_true rfl) dL_law_17 (fun q2 cA H hK5 hP hD hS => ?_)
  have e1 : s.vm.findClass ("[" ++ FieldType.long.toString) = some cA := (hK5.2 4 (cA, .long) rfl).2
  have e2 : s.vm.findClass ("[" ++ FieldType.long.toString) = some (cst 3) := (hK4.2 3 (cst 3, .long) rfl).2
  cases Option.some.inj (e1.symm.trans e2)
  refine W.widen (k := 48) (n := 2374) (Nat.le_of_ble_eq_true rfl) (Nat.le_of_ble_eq_true rfl) ?_
  refine lv_astore_n (lv' := [(3, .ref q2), (2, .ref q1), (1, .ref q0), (0, .ref b)]) hx hb dL_law_19 rfl hl (by decide) rfl (fun ls hl => ?_)
  refine lv_iconst (v := 0) hx hb dL_law_20 (by decide) ?_
  refine lv_istore (lv' := [(4, .int 0), (3, .ref q2), (2, .ref q1), (1, .ref q0), (0, .ref b)]) hx hb dL_law_21 hl (by decide) rfl (fun ls hl => ?_)
  have hP : va_P D vwCl (WW (D, fun k => ([q0, b0 0, b0 4, b0 5, b0 9, b0 7, b0 11, b0 15, b0 21, b0 24, b0 1, b0 2, b0 3, b0 6, b0 10, b0 8, b0 12, b0 13, b0 14, b0 16, b0 17, b0 18, b0 19, b0 20, b0 22, b0 23, b0 25, b0 26, q1, b1 0, b1 1, b1 2, b1 3, b1 4, b1 5, b1 6, b1 7, b1 8, b1 9, b1 10, b1 11, b1 12, b1 13, b1 14, b1 15, b1 16, b1 17, q2] : List Nat).getD k 0, cst) st0) H := hP.sub [0, 1, 5, 6, 10, 8, 12, 16, 22, 25, 2, 3, 4, 7, 11, 9, 13, 14, 15, 17, 18, 19, 20, 21, 23, 24, 26, 27, 28, 29, 30, 31, 32, 33, 34, 35, 36, 37, 38, 39, 40, 41, 42, 43, 44, 45, 46, 47] rfl
  have hD : va_D (fun q : Nat => s.heap.size ≤ q) (WW (D, fun k => ([q0, b0 0, b0 4, b0 5, b0 9, b0 7, b0 11, b0 15, b0 21, b0 24, b0 1, b0 2, b0 3, b0 6, b0 10, b0 8, b0 12, b0 13, b0 14, b0 16, b0 17, b0 18, b0 19, b0 20, b0 22, b0 23, b0 25, b0 26, q1, b1 0, b1 1, b1 2, b1 3, b1 4, b1 5, b1 6, b1 7, b1 8, b1 9, b1 10, b1 11, b1 12, b1 13, b1 14, b1 15, b1 16, b1 17, q2] : List Nat).getD k 0, cst) st0) := hD.sub [0, 1, 5, 6, 10, 8, 12, 16, 22, 25, 2, 3, 4, 7, 11, 9, 13, 14, 15, 17, 18, 19, 20, 21, 23, 24, 26, 27, 28, 29, 30, 31, 32, 33, 34, 35, 36, 37, 38, 39, 40, 41, 42, 43, 44, 45, 46, 47] (by decide) rfl
  generalize hG : ((D, fun k => ([q0, b0 0, b0 4, b0 5, b0 9, b0 7, b0 11, b0 15, b0 21, b0 24, b0 1, b0 2, b0 3, b0 6, b0 10, b0 8, b0 12, b0 13, b0 14, b0 16, b0 17, b0 18, b0 19, b0 20, b0 22, b0 23, b0 25, b0 26, q1, b1 0, b1 1, b1 2, b1 3, b1 4, b1 5, b1 6, b1 7, b1 8, b1 9, b1 10, b1 11, b1 12, b1 13, b1 14, b1 15, b1 16, b1 17, q2] : List Nat).getD k 0, cst) : GG) = G at hP hD
  have hat : ∀ k : Nat, k < 48 → ∃ x, (WW G st0)[k]? = some x ∧ x.1 = G.2.1 k := by
    intro k hk
    obtain ⟨x, hx9⟩ : ∃ x, (WW G st0)[k]? = some x := ⟨_, List.getElem?_eq_getElem (by rw [WW_len]; exact hk)⟩
    exact ⟨x, hx9, (WW_fst G st0 hx9).2⟩
  have hap : APART G := by
    intro i j hi hj e
    obtain ⟨x, x1, x2⟩ := hat i hi
    obtain ⟨y, y1, y2⟩ := hat j hj
    exact hD.1 i j x y x1 y1 (by rw [x2, y2]; exact e)
  have hin : ∀ k : Nat, k < 48 → (fun q : Nat => s.heap.size ≤ q) (G.2.1 k) := by
    intro k hk
    obtain ⟨x, x1, x2⟩ := hat k hk
    rw [← x2]
    exact hD.2 k x x1
  have hP' : va_P G.1 vwCl (WW G st0) H := by rw [← hG] at hP ⊢; exact hP
  have hK' : va_K G.1 vwCl (TYS G) s := by rw [← hG]; exact hK4
  have hST' : ST G (fun q : Nat => s.heap.size ≤ q) s s.heap := by rw [← hG]; exact hST
  have E : EV p s m #[Value.ref b] c cL_law 7 wsL_law RL G (fun q : Nat => s.heap.size ≤ q) := ⟨⟨hx, hb, hml, hown, htsL⟩, hK', ⟨hap, hin⟩, hST', hA⟩
  have hl : lv_has ls 7 [(0, .ref b), (1, .ref (G.2.1 0)), (2, .ref (G.2.1 28)), (3, .ref (G.2.1 47)), (4, .int (nI 0))] := by rw [← hG]; exact lv_sub hl [4, 3, 2, 1, 0] rfl
  exact w_L_law_23 E hr hlocks hst hX hbl 600 st0 (nI 0) 48 2374 H _ ls (law_loop hL 600 0 st0 inv_0 (by omega) (by omega)) (by omega) (by omega) ⟨hP', hS⟩ hl
