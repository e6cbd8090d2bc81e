-- boat
def btf (f s : Nat → Int32) (n i : Nat) : Nat → Int32 := fun k => if k % 16 = n ∧ k / 16 < i then s (k / 16) + 1 else f k
theorem btf_0 (f s : Nat → Int32) (n : Nat) : btf f s n 0 = f := by funext k; simp [btf]
theorem btf_up (f s : Nat → Int32) {n : Nat} (hn : n < 16) (i : Nat) : upd (btf f s n i) (16 * i + n) (s i + 1) = btf f s n (i + 1) := by
  funext k
  by_cases h : k = 16 * i + n
  · subst h
    have h1 : (16 * i + n) / 16 = i := by omega
    have h2 : (16 * i + n) % 16 = n := by omega
    rw [upd_at]
    unfold btf
    rw [h1, h2, if_pos ⟨rfl, by omega⟩]
  · rw [pk_un h]
    unfold btf
    by_cases h3 : k % 16 = n ∧ k / 16 < i
    · rw [if_pos h3, if_pos ⟨h3.1, by omega⟩]
    · rw [if_neg h3, if_neg]
      rintro ⟨q1, q2⟩
      exact h3 ⟨q1, by omega⟩
theorem l_boat {σ : St} {n r : Nat} (hn : n < 16) (hr : r ≤ 20) (e41 : gi σ 41 = nI n) (e42 : gi σ 42 = nI r) {Q : Int32 → St → Prop} (h : Q (nI n) (si (sa σ 38 (btf (ga σ 38) (ga σ 39) n r)) 41 (nI (n + 1)))) :
    ∀ k m i : Nat, i + k = r → k < m → f_X9_boat_31L Q m (sa σ 38 (btf (ga σ 38) (ga σ 39) n i)) (nI i) := by
  intro k
  induction k with
  | zero =>
    intro m i hi hm
    obtain ⟨m, rfl, -⟩ := suc_of hm
    obtain rfl : i = r := by omega
    show f_X9_boat_31 Q _ _ _
    unfold f_X9_boat_31
    rw [gi_sa, gi_sa, e41, e42]
    refine br1 (nI_le (by omega) (by omega)) ?_
    rw [gi_si, if_pos rfl, nI_1, nI_pred]
    exact h
  | succ k ih =>
    intro m i hi hm
    obtain ⟨m, rfl, -⟩ := suc_of hm
    show f_X9_boat_31 Q _ _ _
    unfold f_X9_boat_31
    rw [gi_sa, gi_sa, e41, e42, show (16 : Int32) = nI 16 from rfl, pk_mul, nI_add, cl (by omega : 16 * i + n < 2 ^ 31), cl (by omega : i < 2 ^ 31), nI_1 i]
    refine br0 (nI_ge (by omega) (by omega)) ⟨v_in (by omega) (by decide), v_in (by omega) (by decide), ?_⟩
    have ih := ih m (i + 1) (by omega) (by omega)
    rw [← btf_up _ _ hn] at ih
    rw [sa_sa]
    exact ih
theorem pr_boat {σ : St} (h : INVX σ) : PT σ (fun Q X => f_X8_boat σ Q X) (fun s Q => f_X9_boat s Q) [(0, 0), (3, 1)] := by
  obtain ⟨w, n, r, tp, h⟩ := h
  obtain ⟨hi, hc, ht, hr, ⟨e1, e2, e3, e4⟩, ⟨f1, f2, f3, f4, f5, f6, f7, f8⟩, ⟨g1, g2⟩, hl⟩ := id h
  by_cases hn : n < 16
  · refine ⟨0, 0, nI n, si σ 18 (nI (n + 1)), by decide, fun Q X hQ _ => ?_, fun g => ⟨nI n, si (sa (si (so (si σ 18 (nI (n + 1))) g) 23 0) 38 (btf (ga σ 38) (ga σ 39) n r)) 41 (nI (n + 1)), fun Q hQ => ?_, rfl, fun _ => rfl, rfl, ?_⟩⟩
    · show f_X8_boat σ Q X
      unfold f_X8_boat
      rw [e2]
      refine br1 (nI_lt hn (by decide)) ?_
      rw [gi_si, if_pos rfl, nI_1, nI_pred]
      exact hQ rfl
    · show f_X9_boat (so _ g) Q
      unfold f_X9_boat
      have e41 : gi (si (so (si σ 18 (nI (n + 1))) g) 23 0) 41 = nI n := e3
      rw [e41]
      refine bn1 (fun q => ?_) ?_
      · have := (nI_eq (a := n) (b := 16) (by omega) (by decide)).mp q
        omega
      rw [t_bad.2]
      refine br1 rfl ?_
      have := l_boat (σ := si (so (si σ 18 (nI (n + 1))) g) 23 0) hn f1 e41 f3 hQ r FU 0 (by omega) (by rw [FU_eq]; omega)
      rw [btf_0, sa_self] at this
      exact this
    · refine INVX.of (w := w) (n := n + 1) (r := r) (t := tp) ⟨hi, hc, ht, hr, ⟨by omega, rfl, rfl, e4⟩, ⟨f1, f2, f3, f4, ?_, f6, f7, ?_⟩, ⟨?_, g2⟩, hl⟩
      · intro j hj
        obtain ⟨a, b, c⟩ := f5 j hj
        exact ⟨a, fun q => b (by omega), c⟩
      · intro i hi
        obtain ⟨a, b⟩ := f8 i hi
        refine ⟨a, fun j hj => ?_⟩
        obtain ⟨b1, b2, b3⟩ := b j hj
        refine ⟨b1, fun q => ?_, fun q => b3 (by omega)⟩
        show ga σ 19 (16 * i + j) = btf (ga σ 38) (ga σ 39) n r (16 * i + j)
        have h1 : (16 * i + j) / 16 = i := by omega
        have h2 : (16 * i + j) % 16 = j := by omega
        unfold btf
        rw [h1, h2]
        by_cases hjn : j = n
        · rw [if_pos ⟨hjn, hi⟩]; exact b3 (by omega)
        · rw [if_neg (fun q => hjn q.1)]; exact b2 (by omega)
      · intro j hj
        obtain ⟨a, b, c⟩ := g1 j hj
        exact ⟨a, b, fun q => c (by omega)⟩
  · obtain rfl : n = 16 := by omega
    refine ⟨3, 1, 0, σ, by decide, fun Q X _ hX => ?_, fun g => ⟨0, si (si (so σ g) 23 0) 23 1, fun Q hQ => ?_, rfl, fun hh => absurd hh (by decide), rfl, INVX.of h⟩⟩
    · show f_X8_boat σ Q X
      unfold f_X8_boat
      rw [e2]
      exact br0 (by decide) (hX (by decide))
    · show f_X9_boat (so σ g) Q
      unfold f_X9_boat
      refine bn0 e3 ?_
      rw [t_bad.1]
      exact br0 (by decide) hQ
-- finish
theorem cnz_le (f : Nat → Int32) : ∀ k, cnz f k ≤ k := by
  intro k
  induction k with
  | zero => exact Nat.le_refl _
  | succ k ih =>
    unfold cnz
    by_cases h : f k = 0
    · rw [if_pos h]; omega
    · rw [if_neg h]; omega
theorem cnz_up (f : Nat → Int32) {j : Nat} {x : Int32} (h0 : f j = 0) (hx : ¬ x = 0) : ∀ k, cnz (upd f j x) k = cnz f k + (if j < k then 1 else 0) := by
  intro k
  induction k with
  | zero => simp [cnz]
  | succ k ih =>
    unfold cnz
    rw [ih]
    by_cases hk : k = j
    · subst hk
      rw [upd_at, if_neg hx, if_pos h0, if_neg (by omega), if_pos (by omega)]
    · rw [pk_un hk]
      by_cases h3 : j < k
      · rw [if_pos h3, if_pos (by omega : j < k + 1)]; omega
      · rw [if_neg h3, if_neg (by omega : ¬ j < k + 1)]; omega
theorem pr_finish {σ : St} (h : INVX σ) (c : Int32) : PT σ (f_X8_finish σ c) (fun s => f_X9_finish s c) [(0, 0), (1, 1)] := by
  obtain ⟨w, n, r, tp, h⟩ := h
  obtain ⟨hi, hc, ht, hr, ⟨e1, e2, e3, e4⟩, ⟨f1, f2, f3, f4, f5, f6, f7, f8⟩, hfl, hl⟩ := id h
  rcases c_boat c (n := n) (by omega) with hb | ⟨j, hj, rfl⟩
  · refine ⟨1, 1, 0, σ, by decide, fun Q X _ hX => ?_, fun g => ⟨0, si (si (so σ g) 23 0) 23 1, fun Q hQ => ?_, rfl, fun hh => absurd hh (by decide), rfl, INVX.of h⟩⟩
    · unfold f_X8_finish
      rw [s_needBoat e2, if_pos hb]
      exact hX (by decide)
    · show f_X9_finish (so σ g) c Q
      unfold f_X9_finish f_X9_finish_19
      rw [t_isBoat (σ := si (so σ g) 23 0) (n := n) e3, if_pos hb]
      refine bn0 rfl ?_
      rw [t_bad.1]
      exact br0 (by decide) hQ
  · have hb := b_ok hj (by omega : n < 2 ^ 31)
    have hv := v_in (by omega : j < 16) (by decide)
    obtain ⟨p1, p2, v, hv16, pv⟩ := f5 j (by omega)
    -- the class and the reference, up to the place
    have hx : ∀ (Q : Int32 → St → Prop) (X : Nat → St → Prop), f_X5_takeFinish σ (nI j) (fun r s => Q r s) → f_X8_finish σ (nI j) Q X := by
      intro Q X hq
      unfold f_X8_finish
      rw [s_needBoat e2, if_neg hb]
      exact hq
    have hm : ∀ (s : St) (Q : Int32 → St → Prop), gi s 41 = nI n → (((ga (si s 23 0) 40 j) ≤ 0 → ((¬ (gi (si s 23 0) 42) = (20 : Int32) → Q (gi s 43 + 1) (sa (si (si s 23 0) 43 (gi s 43 + 1)) 40 (upd (ga s 40) j (gi s 43 + 1)))) ∧ ((gi (si s 23 0) 42) = (20 : Int32) → Q (-2 : Int32) (si s 23 0)))) ∧ (¬ (ga (si s 23 0) 40 j) ≤ 0 → Q (-1 : Int32) (si s 23 0))) → f_X9_finish s (nI j) Q := by
      intro s Q hs hq
      unfold f_X9_finish f_X9_finish_19
      rw [t_isBoat (σ := si s 23 0) (n := n) hs, if_neg hb]
      refine bn1 (by decide) ?_
      rw [t_bad.2, cl (by omega : j < 2 ^ 31)]
      refine br1 rfl ⟨hv, ⟨fun q => ⟨fun q2 => ⟨hv, ?_⟩, fun q2 => (hq.1 q).2 q2⟩, fun q => hq.2 q⟩⟩
      exact (hq.1 q).1 q2
    by_cases hr20 : r = 20
    · subst hr20
      have z := f4 rfl j (by omega)
      refine ⟨0, 0, -2, σ, by decide, fun Q X hQ _ => hx Q X ?_, fun g => ⟨-2, si (so σ g) 23 0, fun Q hQ => hm _ Q e3 ?_, rfl, fun _ => rfl, rfl, INVX.of h⟩⟩
      · unfold f_X5_takeFinish
        rw [f2]
        exact br0 (by decide) (hQ rfl)
      · refine br1 ?_ (bn0 f3 hQ)
        show ga σ 40 j ≤ 0
        rw [← p1, z]; decide
    · have h20 : ¬ nI r = (20 : Int32) := fun q => hr20 ((nI_eq (a := r) (b := 20) (by omega) (by decide)).mp q)
      by_cases hv0 : v = 0
      · subst hv0
        have z : ga σ 20 j = 0 := pv
        have hcn := cnz_up (ga σ 20) z (x := 1) (by decide) 16
        rw [if_pos (by omega : j < 16)] at hcn
        have hle := cnz_le (upd (ga σ 20) j 1) 16
        have h3 : gi σ 20 + 1 = nI (cnz (ga σ 20) 16 + 1) := by rw [f6, nI_1]
        refine ⟨0, 0, gi σ 20 + 1, sa (si σ 20 (gi σ 20 + 1)) 20 (upd (ga σ 20) j (gi σ 20 + 1)), by decide, fun Q X hQ _ => hx Q X ?_, fun g => ⟨gi σ 43 + 1, sa (si (si (so (sa (si σ 20 (gi σ 20 + 1)) 20 (upd (ga σ 20) j (gi σ 20 + 1))) g) 23 0) 43 (gi σ 43 + 1)) 40 (upd (ga σ 40) j (gi σ 43 + 1)), fun Q hQ => hm _ Q e3 ?_, rfl, fun _ => by rw [f7], rfl, ?_⟩⟩
        · unfold f_X5_takeFinish
          rw [f2, cl (by omega : j < 2 ^ 31)]
          exact br1 (nI_lt (b := 20) (by omega) (by decide)) ⟨hv, br1 z ⟨hv, hQ rfl⟩⟩
        · refine br1 ?_ (bn1 ?_ hQ)
          · show ga σ 40 j ≤ 0
            rw [← p1, z]; decide
          · show ¬ gi σ 42 = 20
            rw [f3]; exact h20
        · have hne : ¬ nI (cnz (ga σ 20) 16 + 1) = 0 := nI_ne0 (by omega) (by omega)
          refine INVX.of (w := w) (n := n) (r := r) (t := tp) ⟨hi, hc, ht, hr, ⟨e1, e2, e3, e4⟩, ⟨f1, f2, f3, fun q => absurd q hr20, ?_, ?_, ?_, f8⟩, hfl, hl⟩
          · intro i hi
            show upd (ga σ 20) j (gi σ 20 + 1) i = upd (ga σ 40) j (gi σ 43 + 1) i ∧ (n ≤ i → upd (ga σ 20) j (gi σ 20 + 1) i = 0) ∧ ∃ v, v ≤ 16 ∧ upd (ga σ 20) j (gi σ 20 + 1) i = nI v
            by_cases q : i = j
            · subst q
              rw [upd_at, upd_at, f7]
              exact ⟨rfl, fun q => absurd q (by omega), _, by omega, h3⟩
            · rw [pk_un q, pk_un q]
              exact f5 i hi
          · show gi σ 20 + 1 = nI (cnz (upd (ga σ 20) j (gi σ 20 + 1)) 16)
            rw [h3, cnz_up _ z hne, if_pos (by omega : j < 16)]
          · show gi σ 43 + 1 = gi σ 20 + 1
            rw [f7]
      · refine ⟨0, 0, -1, σ, by decide, fun Q X hQ _ => hx Q X ?_, fun g => ⟨-1, si (so σ g) 23 0, fun Q hQ => hm _ Q e3 ?_, rfl, fun _ => rfl, rfl, INVX.of h⟩⟩
        · unfold f_X5_takeFinish
          rw [f2, cl (by omega : j < 2 ^ 31)]
          refine br1 (nI_lt (b := 20) (by omega) (by decide)) ⟨hv, br0 ?_ (hQ rfl)⟩
          rw [pv]; exact nI_ne0 (by omega) (by omega)
        · refine br0 ?_ hQ
          show ¬ ga σ 40 j ≤ 0
          rw [← p1, pv]; exact nI_nle (by omega) (by omega)
