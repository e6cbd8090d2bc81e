theorem vn_b (v : Int32) : vp_nar .boolean v = 0 ∨ vp_nar .boolean v = 1 := by
  have h : ∀ b : Bool, (if b then (1 : Int32) else 0) = 0 ∨ (if b then (1 : Int32) else 0) = 1 := by decide
  have e : narrow .boolean (.int v) = .int (v &&& 1) := rfl
  have e2 : vp_nar .boolean v = v &&& 1 := by unfold vp_nar; rw [e]
  rw [e2]
  obtain ⟨j, hj, he⟩ := pk_andE v (m := 1) 1 rfl
  rw [he]
  rcases (show j = 0 ∨ j = 1 by omega) with rfl | rfl
  · exact Or.inl rfl
  · exact Or.inr rfl
theorem zok_01 {v : Int32} (h : v = 0 ∨ v = 1) : zok .boolean v := by
  rcases h with rfl | rfl <;> rfl
theorem pr_crack {σ : St} (h : INVX σ) (c v : Int32) : PT σ (f_X8_crack σ c v) (fun s => f_X9_crack s c v) [(0, 0), (1, 1)] := by
  obtain ⟨w, n, r, tp, h⟩ := h
  rcases c_cell c with hc | ⟨j, hj, rfl⟩
  · refine ⟨1, 1, 0, σ, by decide, fun Q X _ hX => ?_, fun g => ⟨0, si (so σ g) 23 1, fun Q hQ => ?_, rfl, fun hh => absurd hh (by decide), rfl, INVX.of h⟩⟩
    · unfold f_X8_crack
      rw [s_needCell, if_pos hc]
      exact hX (by decide)
    · show f_X9_crack (so σ g) c v Q
      unfold f_X9_crack
      rw [t_isCell, if_pos hc, if_pos hc]
      simp [hQ]
  · have hc := c_ok hj
    have hv := v_in hj (by decide)
    obtain ⟨⟨a1, a2, a3, a4⟩, hrest⟩ := h
    refine ⟨0, 0, ga σ 12 j, sa σ 12 (upd (ga σ 12) j (vp_nar .boolean v)), by decide, fun Q X hQ _ => ?_, fun g => ⟨ga σ 31 j, sa (si (so (sa σ 12 (upd (ga σ 12) j (vp_nar .boolean v))) g) 23 0) 31 (upd (ga σ 31) j (vp_nar .boolean v)), fun Q hQ => ?_, rfl, fun _ => by rw [a3], rfl, ?_⟩⟩
    · unfold f_X8_crack f_X3_setCracked
      rw [s_needCell, if_neg hc, cl (by omega : j < 2 ^ 31)]
      exact ⟨hv, hv, zok_01 (a4 j), zok_01 (a4 j), hQ rfl⟩
    · show f_X9_crack (so _ g) (nI j) v Q
      unfold f_X9_crack
      rw [t_isCell, if_neg hc, if_neg hc]
      refine ⟨fun _ => ?_, fun hh => absurd hh (by decide)⟩
      rw [cl (by omega : j < 2 ^ 31)]
      exact ⟨hv, hv, zok_01 (by show ga σ 31 j = 0 ∨ ga σ 31 j = 1; rw [← a3]; exact a4 j), hQ⟩
    · refine INVX.of (w := w) (n := n) (r := r) (t := tp) ⟨⟨a1, a2, ?_, fun i => ?_⟩, hrest⟩
      · show upd (ga σ 12) j _ = upd (ga σ 31) j _
        rw [a3]
      · show upd (ga σ 12) j _ i = 0 ∨ upd (ga σ 12) j _ i = 1
        unfold upd
        by_cases e : i = j
        · rw [if_pos e]; exact vn_b v
        · rw [if_neg e]; exact a4 i
-- hour: every cell's two bounds
def hrf (f : Nat → Int32) (d : Int32) (c : Nat) : Nat → Int32 := fun j => if j < c then clampT (f j + d) else f j
theorem hrf_0 (f : Nat → Int32) (d : Int32) : hrf f d 0 = f := by funext j; simp [hrf]
theorem hrf_at (f : Nat → Int32) (d : Int32) (c : Nat) : hrf f d c c = f c := by simp [hrf]
theorem hrf_up (f : Nat → Int32) (d : Int32) (c : Nat) : upd (hrf f d c) c (clampT (f c + d)) = hrf f d (c + 1) := by
  funext j
  unfold upd hrf
  by_cases h : j = c
  · subst h
    rw [if_pos rfl, if_pos (by omega)]
  · rw [if_neg h]
    by_cases h2 : j < c
    · rw [if_pos h2, if_pos (by omega)]
    · rw [if_neg h2, if_neg (by omega)]
theorem sa_sa (σ : St) (k : Nat) (f g : Nat → Int32) : sa (sa σ k f) k g = sa σ k g := by
  unfold sa
  congr 2
  funext j
  unfold va_up
  by_cases h : j = k <;> simp [h]
theorem sa_comm (σ : St) {k l : Nat} (h : k ≠ l) (f g : Nat → Int32) : sa (sa σ k f) l g = sa (sa σ l g) k f := by
  unfold sa
  congr 2
  funext j
  unfold va_up
  by_cases h1 : j = k
  · by_cases h2 : j = l
    · exact absurd (h1.symm.trans h2) h
    · simp only [if_pos h1, if_neg h2]
  · by_cases h2 : j = l
    · simp only [if_neg h1, if_pos h2]
    · simp only [if_neg h1, if_neg h2]
theorem sa_self (σ : St) (k : Nat) : sa σ k (ga σ k) = σ := by
  unfold sa ga
  have : va_up σ.2.1 k (σ.2.1 k) = σ.2.1 := by
    funext j
    unfold va_up
    by_cases h : j = k <;> simp [h]
  rw [this]
theorem l_passHour {σ : St} {d e : Int32} {Q : St → Prop} (h : Q (sa (sa σ 10 (hrf (ga σ 10) d 144)) 11 (hrf (ga σ 11) e 144))) : ∀ k n c : Nat, c + k = 144 → k < n → f_X3_passHour_34L Q n (sa (sa σ 10 (hrf (ga σ 10) d c)) 11 (hrf (ga σ 11) e c)) d e (nI c) := by
  intro k
  induction k with
  | zero =>
    intro n c hc hn
    obtain ⟨n, rfl, -⟩ := suc_of hn
    obtain rfl : c = 144 := by omega
    show f_X3_passHour_34 Q _ _ _ _ _
    unfold f_X3_passHour_34
    exact ⟨fun _ => h, fun hh => absurd (by decide) hh⟩
  | succ k ih =>
    intro n c hc hn
    obtain ⟨n, rfl, hn'⟩ := suc_of hn
    have hlt : c < 144 := by omega
    have hv := v_in hlt (by decide)
    show f_X3_passHour_34 Q _ _ _ _ _
    unfold f_X3_passHour_34
    refine ⟨fun hh => absurd hh (nI_ge hlt (by decide)), fun _ => ⟨hv, ?_⟩⟩
    rw [s_within, cl (by omega : c < 2 ^ 31)]
    refine ⟨hv, hv, ?_⟩
    rw [s_within, nI_1]
    refine ⟨hv, ?_⟩
    have ih := ih n (c + 1) (by omega) (by omega)
    have e1 : (ga (sa (sa σ 10 (hrf (ga σ 10) d c)) 11 (hrf (ga σ 11) e c)) 10) = hrf (ga σ 10) d c := rfl
    have e2 : ∀ F : Nat → Int32, (ga (sa (sa (sa σ 10 (hrf (ga σ 10) d c)) 11 (hrf (ga σ 11) e c)) 10 F) 11) = hrf (ga σ 11) e c := fun _ => rfl
    rw [e2, e1, hrf_at, hrf_at, hrf_up, hrf_up]
    have e3 : sa (sa (sa (sa σ 10 (hrf (ga σ 10) d c)) 11 (hrf (ga σ 11) e c)) 10 (hrf (ga σ 10) d (c + 1))) 11 (hrf (ga σ 11) e (c + 1)) = sa (sa σ 10 (hrf (ga σ 10) d (c + 1))) 11 (hrf (ga σ 11) e (c + 1)) := by
      rw [sa_comm (sa σ 10 (hrf (ga σ 10) d c)) (by decide : (11 : Nat) ≠ 10), sa_sa, sa_sa]
    rw [e3]
    exact ih
/-- what an hour adds to the lower bound, to the upper one -/
def hl1 (t : Int32) : Int32 := if 0 ≤ t then (-3 : Int32) * t else (-t) / (4 : Int32)
def hl2 (t : Int32) : Int32 := if 0 ≤ t then -t else ((3 : Int32) - t) / (4 : Int32)
theorem s_passHour {σ : St} {t : Int32} {Q : St → Prop} (h : Q (sa (sa σ 10 (hrf (ga σ 10) (hl1 t) 144)) 11 (hrf (ga σ 11) (hl2 t) 144))) : f_X3_passHour σ t Q := by
  have key := l_passHour (d := hl1 t) (e := hl2 t) h 144 FU 0 rfl (by decide)
  rw [hrf_0, hrf_0] at key
  have e3 : sa (sa σ 10 (ga σ 10)) 11 (ga σ 11) = σ := by rw [sa_self, sa_self]
  rw [e3] at key
  unfold f_X3_passHour f_X3_passHour_15
  by_cases ht : 0 ≤ t
  · simp only [hl1, hl2, if_pos ht] at key
    exact ⟨fun _ => ⟨fun _ => key, fun q => absurd ht q⟩, fun q => absurd ht q⟩
  · simp only [hl1, hl2, if_neg ht] at key
    exact ⟨fun q => absurd q ht, fun _ => ⟨fun q => absurd q ht, fun _ => key⟩⟩
theorem l_hour {σ : St} {d e : Int32} {Q : Int32 → St → Prop} (h : Q (sct (hrf (ga σ 29) d 144) (ga σ 31) (gi σ 24) 144) (sa (sa σ 29 (hrf (ga σ 29) d 144)) 30 (hrf (ga σ 30) e 144))) : ∀ k n c : Nat, c + k = 144 → k < n → f_X9_hour_61L Q n (sa (sa σ 29 (hrf (ga σ 29) d c)) 30 (hrf (ga σ 30) e c)) d e (nI c) := by
  intro k
  induction k with
  | zero =>
    intro n c hc hn
    obtain ⟨n, rfl, -⟩ := suc_of hn
    obtain rfl : c = 144 := by omega
    show f_X9_hour_61 Q _ _ _ _ _
    unfold f_X9_hour_61
    exact ⟨fun _ => t_safeMany h, fun hh => absurd (by decide) hh⟩
  | succ k ih =>
    intro n c hc hn
    obtain ⟨n, rfl, hn'⟩ := suc_of hn
    have hlt : c < 144 := by omega
    have hv := v_in hlt (by decide)
    show f_X9_hour_61 Q _ _ _ _ _
    unfold f_X9_hour_61
    refine ⟨fun hh => absurd hh (nI_ge hlt (by decide)), fun _ => ⟨hv, ?_⟩⟩
    rw [t_within, cl (by omega : c < 2 ^ 31)]
    refine ⟨hv, hv, ?_⟩
    rw [t_within, nI_1]
    refine ⟨hv, ?_⟩
    have ih := ih n (c + 1) (by omega) (by omega)
    have e1 : (ga (sa (sa σ 29 (hrf (ga σ 29) d c)) 30 (hrf (ga σ 30) e c)) 29) = hrf (ga σ 29) d c := rfl
    have e2 : ∀ F : Nat → Int32, (ga (sa (sa (sa σ 29 (hrf (ga σ 29) d c)) 30 (hrf (ga σ 30) e c)) 29 F) 30) = hrf (ga σ 30) e c := fun _ => rfl
    rw [e2, e1, hrf_at, hrf_at, hrf_up, hrf_up]
    have e3 : sa (sa (sa (sa σ 29 (hrf (ga σ 29) d c)) 30 (hrf (ga σ 30) e c)) 29 (hrf (ga σ 29) d (c + 1))) 30 (hrf (ga σ 30) e (c + 1)) = sa (sa σ 29 (hrf (ga σ 29) d (c + 1))) 30 (hrf (ga σ 30) e (c + 1)) := by
      rw [sa_comm (sa σ 29 (hrf (ga σ 29) d c)) (by decide : (30 : Nat) ≠ 29), sa_sa, sa_sa]
    rw [e3]
    exact ih
theorem pr_hour {σ : St} (h : INVX σ) (t : Int32) : PT σ (f_X8_hour σ t) (fun s => f_X9_hour s t) [(0, 0), (2, 1)] := by
  obtain ⟨w, n, r, tp, h⟩ := h
  by_cases hb : t < -40 ∨ 20 < t
  · refine ⟨2, 1, 0, σ, by decide, fun Q X _ hX => ?_, fun g => ⟨0, si (si (so σ g) 23 0) 23 1, fun Q hQ => ?_, rfl, fun hh => absurd hh (by decide), rfl, INVX.of h⟩⟩
    · unfold f_X8_hour
      rw [s_needDegrees, if_pos hb]
      exact hX (by decide)
    · show f_X9_hour (so σ g) t Q
      unfold f_X9_hour
      rw [t_isDegrees, if_pos hb]
      refine ⟨fun hh => absurd rfl hh, fun _ => ?_⟩
      unfold f_X9_hour_18
      rw [t_bad.1]
      exact ⟨fun hh => absurd hh (by decide), fun _ => hQ⟩
  · obtain ⟨⟨a1, a2, a3, a4⟩, b, c, ⟨d1, ⟨i, hi, d2, d3⟩, d4⟩, hrest⟩ := h
    refine ⟨0, 0, sct (hrf (ga σ 10) (hl1 t) 144) (ga σ 12) (gi σ 9) 144, sa (sa σ 10 (hrf (ga σ 10) (hl1 t) 144)) 11 (hrf (ga σ 11) (hl2 t) 144), by decide, fun Q X hQ _ => ?_, fun g => ⟨sct (hrf (ga σ 29) (hl1 t) 144) (ga σ 31) (gi σ 24) 144, sa (sa (si (so (sa (sa σ 10 (hrf (ga σ 10) (hl1 t) 144)) 11 (hrf (ga σ 11) (hl2 t) 144)) g) 23 0) 29 (hrf (ga σ 29) (hl1 t) 144)) 30 (hrf (ga σ 30) (hl2 t) 144), fun Q hQ => ?_, rfl, fun _ => by rw [a1, a3, d2, d3], rfl, ?_⟩⟩
    · unfold f_X8_hour
      rw [s_needDegrees, if_neg hb]
      exact s_passHour (s_safeCells (hQ rfl))
    · show f_X9_hour (so _ g) t Q
      unfold f_X9_hour
      rw [t_isDegrees, if_neg hb]
      refine ⟨fun _ => ?_, fun hh => absurd hh (by decide)⟩
      unfold f_X9_hour_18
      rw [t_bad.2]
      refine ⟨fun _ => ?_, fun hh => absurd rfl hh⟩
      have key := l_hour (σ := si (so (sa (sa σ 10 (hrf (ga σ 10) (hl1 t) 144)) 11 (hrf (ga σ 11) (hl2 t) 144)) g) 23 0) (d := hl1 t) (e := hl2 t) (Q := Q) hQ 144 FU 0 rfl (by decide)
      rw [hrf_0, hrf_0, sa_self, sa_self] at key
      unfold f_X9_hour_42
      by_cases ht : 0 ≤ t
      · simp only [hl1, hl2, if_pos ht] at key ⊢
        exact ⟨fun _ => ⟨fun _ => key, fun q => absurd ht q⟩, fun q => absurd ht q⟩
      · simp only [hl1, hl2, if_neg ht] at key ⊢
        exact ⟨fun q => absurd q ht, fun _ => ⟨fun q => absurd q ht, fun _ => key⟩⟩
    · refine INVX.of (w := w) (n := n) (r := r) (t := tp) ⟨⟨?_, ?_, a3, a4⟩, b, c, ⟨d1, ⟨i, hi, d2, d3⟩, d4⟩, hrest⟩
      · show hrf (ga σ 10) _ 144 = hrf (ga σ 29) _ 144
        rw [a1]
      · show hrf (ga σ 11) _ 144 = hrf (ga σ 30) _ 144
        rw [a2]
theorem pr_ice {σ : St} (h : INVX σ) (c v : Int32) : PT σ (f_X8_ice σ c v) (fun s => f_X9_ice s c v) [(0, 0), (1, 1), (2, 2)] := by
  obtain ⟨w, n, r, tp, h⟩ := h
  rcases c_cell c with hc | ⟨j, hj, rfl⟩
  · refine ⟨1, 1, 0, σ, by decide, fun Q X _ hX => ?_, fun g => ⟨0, si (so σ g) 23 1, fun Q hQ => ?_, rfl, fun hh => absurd hh (by decide), rfl, INVX.of h⟩⟩
    · unfold f_X8_ice
      rw [s_needCell, if_pos hc]
      exact hX (by decide)
    · show f_X9_ice (so σ g) c v Q
      unfold f_X9_ice
      rw [t_isCell, if_pos hc, if_pos hc]
      simp [hQ]
  · have hc := c_ok hj
    have hv := v_in hj (by decide)
    obtain ⟨⟨a1, a2, a3, a4⟩, b, c, ⟨d1, ⟨i, hi, d2, d3⟩, d4⟩, hrest⟩ := id h
    by_cases hb : v < 0 ∨ 2 < v
    · have n0 : ¬ v = 0 := fun e => by subst e; revert hb; decide
      have n1 : ¬ v = 1 := fun e => by subst e; revert hb; decide
      have n2 : ¬ v = 2 := fun e => by subst e; revert hb; decide
      refine ⟨2, 2, 0, σ, by decide, fun Q X _ hX => ?_, fun g => ⟨0, si (si (so σ g) 23 0) 23 2, fun Q hQ => ?_, rfl, fun hh => absurd hh (by decide), rfl, INVX.of h⟩⟩
      · unfold f_X8_ice
        rw [s_needCell, if_neg hc]
        exact ⟨fun q => absurd q n0, fun _ => ⟨fun q => absurd q n1, fun _ => ⟨fun q => absurd q n2, fun _ => hX (by decide)⟩⟩⟩
      · show f_X9_ice (so σ g) (nI j) v Q
        unfold f_X9_ice
        rw [t_isCell, if_neg hc, if_neg hc]
        refine ⟨fun hh => absurd hh (by decide), fun _ => ?_⟩
        have key : f_X9_ice_23 Q (si (so σ g) 23 0) (nI j) v 1 := by
          unfold f_X9_ice_23
          rw [t_bad.1]
          exact ⟨fun hh => absurd hh (by decide), fun _ => hQ⟩
        refine ⟨fun _ => key, fun q1 => ⟨fun q2 => ?_, fun _ => key⟩⟩
        rcases hb with q | q
        · exact absurd q q1
        · exact absurd q (by simp only [i_lt, i_le] at *; omega)
    · have hm : ∀ (s : St) (Q : Int32 → St → Prop), f_X9_ice_23 Q (si s 23 0) (nI j) v 0 → f_X9_ice s (nI j) v Q := by
        intro s Q hq
        unfold f_X9_ice
        rw [t_isCell, if_neg hc, if_neg hc]
        refine ⟨fun hh => absurd hh (by decide), fun _ => ⟨fun q => absurd (Or.inl q) hb, fun _ => ⟨fun _ => hq, fun q => absurd (Or.inr (by simp only [i_lt, i_le] at *; omega)) hb⟩⟩⟩
      have hv3 : v = 0 ∨ v = 1 ∨ v = 2 := by
        have l0 : (0 : Int32).toInt = 0 := rfl
        have l1 : (1 : Int32).toInt = 1 := rfl
        have l2 : (2 : Int32).toInt = 2 := rfl
        have h1 : ¬ v < 0 := fun q => hb (Or.inl q)
        have h2 : ¬ 2 < v := fun q => hb (Or.inr q)
        simp only [i_lt, i_eq] at *
        omega
      have e1 : sfv (ga σ 10) (ga σ 12) (gi σ 9) j = sfv (ga σ 29) (ga σ 31) (gi σ 24) j := by rw [a1, a3, d2, d3]
      rcases hv3 with rfl | rfl | rfl
      · refine ⟨0, 0, ga σ 10 j, σ, by decide, fun Q X hQ _ => ?_, fun g => ⟨ga σ 29 j, si (so σ g) 23 0, fun Q hQ => hm _ Q ?_, rfl, fun _ => by rw [a1], rfl, INVX.of h⟩⟩
        · unfold f_X8_ice f_X3_lowOf
          rw [s_needCell, if_neg hc, cl (by omega : j < 2 ^ 31)]
          exact ⟨fun _ => ⟨hv, hQ rfl⟩, fun q => absurd rfl q⟩
        · unfold f_X9_ice_23
          rw [t_bad.2, cl (by omega : j < 2 ^ 31)]
          exact ⟨fun _ => ⟨fun q => absurd rfl q, fun _ => ⟨hv, hQ⟩⟩, fun q => absurd rfl q⟩
      · refine ⟨0, 0, ga σ 11 j, σ, by decide, fun Q X hQ _ => ?_, fun g => ⟨ga σ 30 j, si (so σ g) 23 0, fun Q hQ => hm _ Q ?_, rfl, fun _ => by rw [a2], rfl, INVX.of h⟩⟩
        · unfold f_X8_ice f_X3_highOf
          rw [s_needCell, if_neg hc, cl (by omega : j < 2 ^ 31)]
          exact ⟨fun q => absurd q (by decide), fun _ => ⟨fun _ => ⟨hv, hQ rfl⟩, fun q => absurd rfl q⟩⟩
        · unfold f_X9_ice_23
          rw [t_bad.2, cl (by omega : j < 2 ^ 31)]
          exact ⟨fun _ => ⟨fun _ => ⟨fun q => absurd rfl q, fun _ => ⟨hv, hQ⟩⟩, fun q => absurd q (by decide)⟩, fun q => absurd rfl q⟩
      · refine ⟨0, 0, sfv (ga σ 10) (ga σ 12) (gi σ 9) j, σ, by decide, fun Q X hQ _ => ?_, fun g => ⟨sfv (ga σ 29) (ga σ 31) (gi σ 24) j, si (so σ g) 23 0, fun Q hQ => hm _ Q ?_, rfl, fun _ => e1.symm, rfl, INVX.of h⟩⟩
        · unfold f_X8_ice
          rw [s_needCell, if_neg hc]
          refine ⟨fun q => absurd q (by decide), fun _ => ⟨fun q => absurd q (by decide), fun _ => ⟨fun _ => ?_, fun q => absurd rfl q⟩⟩⟩
          rw [s_isSafe hj]
          rcases sfv_01 (ga σ 10) (ga σ 12) (gi σ 9) j with e | e <;> rw [e] at hQ ⊢
          · exact ⟨fun _ => hQ rfl, fun q => absurd rfl q⟩
          · exact ⟨fun q => absurd q (by decide), fun _ => hQ rfl⟩
        · unfold f_X9_ice_23
          rw [t_bad.2]
          refine ⟨fun _ => ⟨fun _ => ⟨fun _ => ?_, fun q => absurd q (by decide)⟩, fun q => absurd q (by decide)⟩, fun q => absurd rfl q⟩
          rw [t_isSafe hj]
          have hQ : Q (sfv (ga σ 29) (ga σ 31) (gi σ 24) j) (si (so σ g) 23 0) := hQ
          show ((sfv (ga σ 29) (ga σ 31) (gi σ 24) j = 0 → _) ∧ (¬ sfv (ga σ 29) (ga σ 31) (gi σ 24) j = 0 → _))
          rcases sfv_01 (ga σ 29) (ga σ 31) (gi σ 24) j with e | e <;> rw [e] at hQ ⊢
          · exact ⟨fun _ => hQ, fun q => absurd rfl q⟩
          · exact ⟨fun q => absurd q (by decide), fun _ => hQ⟩
theorem pr_lasts {σ : St} (h : INVX σ) (c t : Int32) : PT σ (f_X8_lasts σ c t) (fun s => f_X9_lasts s c t) [(0, 0), (1, 1), (2, 2)] := by
  obtain ⟨w, n, r, tp, h⟩ := h
  rcases c_cell c with hc | ⟨j, hj, rfl⟩
  · refine ⟨1, 1, 0, σ, by decide, fun Q X _ hX => ?_, fun g => ⟨0, si (so σ g) 23 1, fun Q hQ => ?_, rfl, fun hh => absurd hh (by decide), rfl, INVX.of h⟩⟩
    · unfold f_X8_lasts
      rw [s_needCell, if_pos hc]
      exact hX (by decide)
    · show f_X9_lasts (so σ g) c t Q
      unfold f_X9_lasts
      rw [t_isCell, if_pos hc, if_pos hc]
      simp [hQ]
  · have hc := c_ok hj
    have hv := v_in hj (by decide)
    obtain ⟨⟨a1, a2, a3, a4⟩, b, c, ⟨d1, ⟨i, hi, d2, d3⟩, d4⟩, hrest⟩ := id h
    by_cases hb : t < -40 ∨ 20 < t
    · refine ⟨2, 2, 0, σ, by decide, fun Q X _ hX => ?_, fun g => ⟨0, si (si (so σ g) 23 0) 23 2, fun Q hQ => ?_, rfl, fun hh => absurd hh (by decide), rfl, INVX.of h⟩⟩
      · unfold f_X8_lasts
        rw [s_needCell, if_neg hc, s_needDegrees, if_pos hb]
        exact hX (by decide)
      · show f_X9_lasts (so σ g) (nI j) t Q
        unfold f_X9_lasts
        rw [t_isCell, if_neg hc, if_neg hc]
        refine ⟨fun hh => absurd hh (by decide), fun _ => ?_⟩
        rw [t_isDegrees, if_pos hb]
        refine ⟨fun hh => absurd rfl hh, fun _ => ?_⟩
        unfold f_X9_lasts_21
        rw [t_bad.1]
        exact ⟨fun hh => absurd hh (by decide), fun _ => hQ⟩
    · have e1 : sfv (ga σ 10) (ga σ 12) (gi σ 9) j = sfv (ga σ 29) (ga σ 31) (gi σ 24) j := by rw [a1, a3, d2, d3]
      have h3 : ¬ t ≤ 0 → ¬ (3 : Int32) * t = 0 := by
        intro ht e
        have l20 : (20 : Int32).toInt = 20 := rfl
        obtain ⟨k, hk, rfl⟩ := nI_of2 (n := 20) l20 (x := t) (by simp only [i_lt, i_le] at *; omega) (by simp only [i_lt, i_le, not_or] at *; omega)
        have : (3 : Int32) * nI k = nI (3 * k) := pk_mul 3 k
        rw [this] at e
        rcases Nat.eq_zero_or_pos k with rfl | hp
        · exact ht (by decide)
        · exact nI_ne0 (by omega : 0 < 3 * k) (by omega) e
      have hm : ∀ (s : St) (Q : Int32 → St → Prop), f_X9_lasts_21 Q (si s 23 0) (nI j) t 0 → f_X9_lasts s (nI j) t Q := by
        intro s Q hq
        unfold f_X9_lasts
        rw [t_isCell, if_neg hc, if_neg hc]
        refine ⟨fun hh => absurd hh (by decide), fun _ => ?_⟩
        rw [t_isDegrees, if_neg hb]
        exact ⟨fun _ => hq, fun q => absurd q (by decide)⟩
      have i0 : (0 : Int32) < gi σ 9 ↔ ¬ gi σ 24 = 0 := by
        rw [d2, d3]
        rcases Nat.eq_zero_or_pos i with rfl | hp
        · decide
        · exact ⟨fun _ => nI_ne0 hp (by omega), fun _ => nI_lt (a := 0) hp (by omega)⟩
      rcases sfv_01 (ga σ 10) (ga σ 12) (gi σ 9) j with e | e
      · refine ⟨0, 0, 0, σ, by decide, fun Q X hQ _ => ?_, fun g => ⟨0, si (so σ g) 23 0, fun Q hQ => hm _ Q ?_, rfl, fun _ => rfl, rfl, INVX.of h⟩⟩
        · unfold f_X8_lasts f_X3_safeHours
          rw [s_needCell, if_neg hc, s_needDegrees, if_neg hb, s_isSafe hj, e]
          exact ⟨fun q => absurd rfl q, fun _ => hQ rfl⟩
        · unfold f_X9_lasts_21
          rw [t_bad.2]
          refine ⟨fun _ => ?_, fun q => absurd rfl q⟩
          rw [t_isSafe hj]
          have e2 : sfv (ga (si (so σ g) 23 0) 29) (ga (si (so σ g) 23 0) 31) (gi (si (so σ g) 23 0) 24) j = 0 := e1.symm.trans e
          rw [e2]
          exact ⟨fun q => absurd rfl q, fun _ => hQ⟩
      · have e2 : ∀ g, sfv (ga (si (so σ g) 23 0) 29) (ga (si (so σ g) 23 0) 31) (gi (si (so σ g) 23 0) 24) j = 1 := fun g => e1.symm.trans e
        by_cases ht : t ≤ 0
        · refine ⟨0, 0, -1, σ, by decide, fun Q X hQ _ => ?_, fun g => ⟨-1, si (so σ g) 23 0, fun Q hQ => hm _ Q ?_, rfl, fun _ => rfl, rfl, INVX.of h⟩⟩
          · unfold f_X8_lasts f_X3_safeHours
            rw [s_needCell, if_neg hc, s_needDegrees, if_neg hb, s_isSafe hj, e]
            exact ⟨fun _ => ⟨fun _ => hQ rfl, fun q => absurd ht q⟩, fun q => absurd q (by decide)⟩
          · unfold f_X9_lasts_21
            rw [t_bad.2]
            refine ⟨fun _ => ?_, fun q => absurd rfl q⟩
            rw [t_isSafe hj, e2]
            exact ⟨fun _ => ⟨fun _ => hQ, fun q => absurd ht q⟩, fun q => absurd q (by decide)⟩
        · by_cases hp : (0 : Int32) < gi σ 9
          · refine ⟨0, 0, (ga σ 10 j - gi σ 9) / (3 * t), σ, by decide, fun Q X hQ _ => ?_, fun g => ⟨(ga σ 29 j - gi σ 24) / (3 * t), si (so σ g) 23 0, fun Q hQ => hm _ Q ?_, rfl, fun _ => by rw [a1, d2, d3], rfl, INVX.of h⟩⟩
            · unfold f_X8_lasts f_X3_safeHours
              rw [s_needCell, if_neg hc, s_needDegrees, if_neg hb, s_isSafe hj, e, cl (by omega : j < 2 ^ 31)]
              exact ⟨fun _ => ⟨fun q => absurd q ht, fun _ => ⟨fun _ => ⟨hv, h3 ht, hQ rfl⟩, fun q => absurd hp q⟩⟩, fun q => absurd q (by decide)⟩
            · unfold f_X9_lasts_21
              rw [t_bad.2]
              refine ⟨fun _ => ?_, fun q => absurd rfl q⟩
              rw [t_isSafe hj, e2, cl (by omega : j < 2 ^ 31)]
              exact ⟨fun _ => ⟨fun q => absurd q ht, fun _ => ⟨fun _ => ⟨hv, h3 ht, hQ⟩, fun q => absurd q (i0.mp hp)⟩⟩, fun q => absurd q (by decide)⟩
          · refine ⟨0, 0, -1, σ, by decide, fun Q X hQ _ => ?_, fun g => ⟨-1, si (so σ g) 23 0, fun Q hQ => hm _ Q ?_, rfl, fun _ => rfl, rfl, INVX.of h⟩⟩
            · unfold f_X8_lasts f_X3_safeHours
              rw [s_needCell, if_neg hc, s_needDegrees, if_neg hb, s_isSafe hj, e]
              exact ⟨fun _ => ⟨fun q => absurd q ht, fun _ => ⟨fun q => absurd q hp, fun _ => hQ rfl⟩⟩, fun q => absurd q (by decide)⟩
            · unfold f_X9_lasts_21
              rw [t_bad.2]
              refine ⟨fun _ => ?_, fun q => absurd rfl q⟩
              rw [t_isSafe hj, e2]
              have hz : gi (si (so σ g) 23 0) 24 = 0 := Classical.byContradiction (fun q => hp (i0.mpr q))
              exact ⟨fun _ => ⟨fun q => absurd q ht, fun _ => ⟨fun q => absurd hz q, fun _ => hQ⟩⟩, fun q => absurd q (by decide)⟩
