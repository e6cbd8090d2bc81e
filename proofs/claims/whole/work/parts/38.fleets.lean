theorem s_needFleet {σ : St} {c : Int32} {Q : St → Prop} {X : Nat → St → Prop} : f_X8_needFleetNumber σ c Q X ↔ (if c < 0 ∨ ¬ c ≤ 16 then X 2 σ else Q σ) := by
  unfold f_X8_needFleetNumber
  by_cases h1 : c < 0 <;> by_cases h2 : c ≤ 16 <;> simp [h1, h2]
theorem nb0 : vp_nar .boolean (0 : Int32) = 0 := by decide
theorem nb1 : vp_nar .boolean (1 : Int32) = 1 := by decide
-- part
def ptf (f : Nat → Int32) (π : Nat → Nat) (q : Nat) : Nat → Nat → Int32
  | 0 => f
  | c + 1 => upd (ptf f π q c) (π c) (if c < q then 0 else 1)
theorem ptf_0 (f : Nat → Int32) (π : Nat → Nat) (q : Nat) : ptf f π q 0 = f := rfl
theorem l_partX {σ : St} {π : Nat → Nat} {n q : Nat} (hn : n ≤ 16) (hq : q ≤ 16) (e : ∀ k, k < n → π k < n ∧ ga σ 23 k = nI (π k)) {Q : Int32 → St → Prop} (h : Q (nI (min n q)) (sa σ 24 (ptf (ga σ 24) π q n))) : ∀ k m c : Nat, c + k = n → k < m → f_X2_partRanked_3L Q m (sa σ 24 (ptf (ga σ 24) π q c)) (nI n) (nI q) (nI c) := by
  intro k
  induction k with
  | zero =>
    intro m c hc hm
    obtain ⟨m, rfl, -⟩ := suc_of hm
    obtain rfl : c = n := by omega
    show f_X2_partRanked_3 Q _ _ _ _ _
    unfold f_X2_partRanked_3
    rw [ifmin _ _ (by omega) (by omega)]
    exact br1 (nI_le (by omega) (by omega)) h
  | succ k ih =>
    intro m c hc hm
    obtain ⟨m, rfl, -⟩ := suc_of hm
    show f_X2_partRanked_3 Q _ _ _ _ _
    unfold f_X2_partRanked_3
    obtain ⟨e1, e2⟩ := e c (by omega)
    have e2' : ga (sa σ 24 (ptf (ga σ 24) π q c)) 23 c = nI (π c) := e2
    rw [cl (by omega : c < 2 ^ 31), e2', s_isBoatNumber, if_neg (bn_ok (by omega)), e2', cl (by omega : π c < 2 ^ 31), nb0, nb1, sa_sa, sa_sa, nI_1]
    have vc := v_in (by omega : c < 16) (by decide : 16 < 2 ^ 31)
    have vp := v_in (by omega : π c < 16) (by decide : 16 < 2 ^ 31)
    refine br0 (nI_ge (by omega) (by omega)) (br0 (nI_ge (b := 16) (by omega) (by decide)) ⟨vc, br0 (by decide) ⟨vc, ?_⟩⟩)
    have ih := ih m (c + 1) (by omega) (by omega)
    unfold ptf at ih
    by_cases z : c < q
    · rw [if_pos z] at ih
      exact br1 (nI_lt z (by omega)) ⟨vp, ih⟩
    · rw [if_neg z] at ih
      exact br0 (nI_nlt (by omega) (by omega)) ⟨vp, ih⟩
theorem l_partM {σ : St} {π : Nat → Nat} {n q : Nat} (hn : n ≤ 16) (hq : q ≤ 16) (e41 : gi σ 41 = nI n) (e : ∀ k, k < n → π k < n ∧ ga σ 42 k = nI (π k)) {Q : Int32 → St → Prop} (h : Q (nI (min n q)) (sa σ 43 (ptf (ga σ 43) π q n))) : ∀ k m c : Nat, c + k = n → k < m → f_X9_part_36L Q m (sa σ 43 (ptf (ga σ 43) π q c)) (nI q) (nI c) := by
  intro k
  induction k with
  | zero =>
    intro m c hc hm
    obtain ⟨m, rfl, -⟩ := suc_of hm
    obtain rfl : c = n := by omega
    show f_X9_part_36 Q _ _ _ _
    unfold f_X9_part_36
    rw [gi_sa, e41]
    refine br1 (nI_le (by omega) (by omega)) ?_
    by_cases z : c ≤ q
    · rw [Nat.min_eq_left z] at h; exact br1 (nI_le z (by omega)) h
    · rw [Nat.min_eq_right (by omega)] at h; exact br0 (nI_ge (by omega) (by omega)) h
  | succ k ih =>
    intro m c hc hm
    obtain ⟨m, rfl, -⟩ := suc_of hm
    show f_X9_part_36 Q _ _ _ _
    unfold f_X9_part_36
    obtain ⟨e1, e2⟩ := e c (by omega)
    have e2' : ga (sa σ 43 (ptf (ga σ 43) π q c)) 42 c = nI (π c) := e2
    rw [gi_sa, e41, cl (by omega : c < 2 ^ 31), e2', cl (by omega : π c < 2 ^ 31), sa_sa, sa_sa, nI_1]
    have vc := v_in (by omega : c < 16) (by decide : 16 < 2 ^ 31)
    have vp := v_in (by omega : π c < 16) (by decide : 16 < 2 ^ 31)
    refine br0 (nI_ge (by omega) (by omega)) ⟨vc, ?_⟩
    have ih := ih m (c + 1) (by omega) (by omega)
    unfold ptf at ih
    by_cases z : c < q
    · rw [if_pos z] at ih
      exact br0 (nI_ge z (by omega)) ⟨vp, ih⟩
    · rw [if_neg z] at ih
      exact br1 (nI_le (by omega) (by omega)) ⟨vp, ih⟩
theorem ptf_ok {f g : Nat → Int32} {π : Nat → Nat} {q n : Nat} (hp : ∀ k, k < n → π k < n) (h : ∀ j, j < 16 → f j = g j ∧ (f j = 0 ∨ f j = 1) ∧ (n ≤ j → f j = 0)) : ∀ c, c ≤ n → ∀ j, j < 16 → ptf f π q c j = ptf g π q c j ∧ (ptf f π q c j = 0 ∨ ptf f π q c j = 1) ∧ (n ≤ j → ptf f π q c j = 0) := by
  intro c
  induction c with
  | zero => intro _; exact h
  | succ c ih =>
    intro hc j hj
    unfold ptf
    have := hp c (by omega)
    by_cases e : j = π c
    · subst e
      rw [upd_at, upd_at]
      refine ⟨rfl, ?_, fun q => absurd q (by omega)⟩
      by_cases z : c < q
      · rw [if_pos z]; exact Or.inl rfl
      · rw [if_neg z]; exact Or.inr rfl
    · rw [pk_un e, pk_un e]; exact ih (by omega) j hj
theorem c_fleet {c : Int32} (h : ¬ (c < 0 ∨ ¬ c ≤ 16)) : ∃ q, q ≤ 16 ∧ c = nI q := by
  refine nI_of2 (M := 16) rfl (fun z => h (Or.inl z)) ?_
  by_cases z : c ≤ 16
  · exact z
  · exact absurd (Or.inr z) h
theorem pr_part {σ : St} (h : INVX σ) (x : Int32) : PT σ (f_X8_part σ x) (fun s => f_X9_part s x) [(0, 0), (2, 1)] := by
  obtain ⟨w, n, r, tp, h⟩ := h
  obtain ⟨f21, f22, f23, π, p1, p2, p3, p4⟩ := ranks h
  obtain ⟨hi, hc, ht, hr, ⟨e1, e2, e3, e4⟩, hrc, ⟨g1, g2⟩, hl⟩ := id h
  by_cases hb : x < 0 ∨ ¬ x ≤ 16
  · refine ⟨2, 1, 0, σ, by decide, fun Q X _ hX => ?_, fun g => ⟨0, si (si (so σ g) 23 0) 23 1, fun Q hQ => ?_, rfl, fun hh => absurd hh (by decide), rfl, INVX.of h⟩⟩
    · unfold f_X8_part
      rw [s_needFleet, if_pos hb]
      exact hX (by decide)
    · show f_X9_part (so σ g) x Q
      unfold f_X9_part
      rw [t_bad.1]
      by_cases q : x < 0
      · exact br1 q (br0 (by decide) hQ)
      · exact br0 q (br0 (hb.resolve_left q) (br0 (by decide) hQ))
  · obtain ⟨q, hq, rfl⟩ := c_fleet hb
    have hx0 : ¬ nI q < 0 := nI_pos (by omega)
    have hx16 : nI q ≤ 16 := nI_le (b := 16) hq (by decide)
    refine ⟨0, 0, nI (min n q), sa (sa (sa (sa σ 21 f21) 22 f22) 23 f23) 24 (ptf (ga σ 24) π q n), by decide, fun Q X hQ _ => ?_, fun g => ?_⟩
    · unfold f_X8_part
      rw [s_needFleet, if_neg hb, e2]
      refine p3 _ ?_
      have e18 : gi (sa (sa (sa σ 21 f21) 22 f22) 23 f23) 18 = nI n := e2
      rw [e18]
      have := l_partX (σ := sa (sa (sa σ 21 f21) 22 f22) 23 f23) (π := π) (n := n) (q := q) e1 hq p1 (hQ rfl) n FU 0 (by omega) (by rw [FU_eq]; omega)
      rw [ptf_0, sa_self] at this
      exact this
    · obtain ⟨f41, f42, q1, q2⟩ := p4 (si (so (sa (sa (sa (sa σ 21 f21) 22 f22) 23 f23) 24 (ptf (ga σ 24) π q n)) g) 23 0) rfl rfl rfl rfl rfl
      refine ⟨nI (min n q), sa (sa (sa (si (so (sa (sa (sa (sa σ 21 f21) 22 f22) 23 f23) 24 (ptf (ga σ 24) π q n)) g) 23 0) 41 f41) 42 f42) 43 (ptf (ga σ 43) π q n), fun Q hQ => ?_, rfl, fun _ => rfl, rfl, ?_⟩
      · show f_X9_part (so (sa (sa (sa (sa σ 21 f21) 22 f22) 23 f23) 24 (ptf (ga σ 24) π q n)) g) (nI q) Q
        unfold f_X9_part
        rw [t_bad.2]
        refine br0 hx0 (br1 hx16 (br1 rfl (q2 _ ?_)))
        have := l_partM (σ := sa (sa (si (so (sa (sa (sa (sa σ 21 f21) 22 f22) 23 f23) 24 (ptf (ga σ 24) π q n)) g) 23 0) 41 f41) 42 f42) (π := π) (n := n) (q := q) e1 hq e3 (fun k hk => ⟨(p1 k hk).1, q1 k hk⟩) hQ n FU 0 (by omega) (by rw [FU_eq]; omega)
        rw [ptf_0, sa_self] at this
        exact this
      · exact INVX.of (w := w) (n := n) (r := r) (t := tp) ⟨hi, hc, ht, hr, ⟨e1, e2, e3, e4⟩, hrc, ⟨ptf_ok (fun k hk => (p1 k hk).1) g1 n (Nat.le_refl _), g2⟩, hl⟩
