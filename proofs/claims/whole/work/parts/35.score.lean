theorem ifmin (a b : Nat) (ha : a < 2 ^ 31) (hb : b < 2 ^ 31) : (if nI a < nI b then nI a else nI b) = nI (min a b) := by
  by_cases h : a < b
  · rw [if_pos (nI_lt h hb), Nat.min_eq_left (by omega)]
  · rw [if_neg (nI_nlt (by omega) ha), Nat.min_eq_right (by omega)]
def tlf (f : Nat → Int32) (p : Nat → Nat) (i : Nat) : Nat → Int32 := fun k => if k < 18 then nI (tl p k i) else f k
theorem tlf_0 (f : Nat → Int32) (p : Nat → Nat) : tlf f p 0 = znf f 18 := rfl
theorem tlf_up (f : Nat → Int32) (p : Nat → Nat) {i : Nat} (h : p i ≤ 17) : upd (tlf f p i) (p i) (tlf f p i (p i) + 1) = tlf f p (i + 1) := by
  funext k
  by_cases q : k = p i
  · subst q
    rw [upd_at]
    unfold tlf
    rw [if_pos (by omega), if_pos (by omega), nI_1]
    have ht : tl p (p i) (i + 1) = tl p (p i) i + (if decide (p i = p i) = true then 1 else 0) := rfl
    rw [ht]
    simp
  · rw [pk_un q]
    unfold tlf
    have ht : tl p k (i + 1) = tl p k i + (if decide (p i = k) = true then 1 else 0) := rfl
    rw [ht]
    have : ¬ p i = k := fun e => q e.symm
    simp [this]
theorem l_w77 {σ : St} {f : Nat → Int32} {p : Nat → Nat} {r : Nat} (hr : r ≤ 20) {Q : Int32 → St → Prop} : ∀ v m l a : Nat, v ≤ 17 → v < m → l ≤ 20 → Q (nI (a + wl (fun v => tl p v r) v l)) (sa σ 21 (tlf f p r)) → f_X5_worstOf_77L Q m (sa σ 21 (tlf f p r)) (nI l) (nI a) (nI v) := by
  intro v
  induction v with
  | zero =>
    intro m l a hv hm hl h
    obtain ⟨m, rfl, -⟩ := suc_of hm
    show f_X5_worstOf_77 Q _ _ _ _ _
    unfold f_X5_worstOf_77
    exact br1 (by decide) h
  | succ v ih =>
    intro m l a hv hm hl h
    obtain ⟨m, rfl, -⟩ := suc_of hm
    show f_X5_worstOf_77 Q _ _ _ _ _
    unfold f_X5_worstOf_77
    refine br0 (nI_nle (by omega) (by omega)) ?_
    by_cases hl0 : l = 0
    · subst hl0
      rw [wl_0] at h
      exact br1 (by decide) h
    · have ht : tl p (v + 1) r ≤ r := cntB_le _ _
      refine br0 (nI_nle (by omega) (by omega)) ⟨v_in (by omega) (by decide), ?_⟩
      have eT : ga (sa σ 21 (tlf f p r)) 21 (v + 1) = nI (tl p (v + 1) r) := by
        show tlf f p r (v + 1) = _
        unfold tlf
        rw [if_pos (by omega)]
      rw [cl (by omega : v + 1 < 2 ^ 31), eT, ifmin _ _ (by omega) (by omega), pk_mul, nI_add, pk_sub (by omega), pk_m1]
      refine ih m _ _ (by omega) (by omega) (by omega) ?_
      unfold wl at h
      rw [Nat.add_assoc]
      exact h
theorem l_w23 {σ : St} {f : Nat → Int32} {p : Nat → Nat} {r j N : Nat} (hr : r ≤ 20) (hj : j < 16) (e19 : gi σ 19 = nI r) (e : ∀ i, i < r → ga σ 19 (16 * i + j) = nI (p i)) (hp : ∀ i, i < r → p i ≤ 17) {Q : Int32 → St → Prop} (h : f_X5_worstOf_77L Q FU (sa σ 21 (tlf f p r)) (nI N) (0 : Int32) (17 : Int32)) : ∀ k m i : Nat, i + k = r → k < m → f_X5_worstOf_23L Q m (sa σ 21 (tlf f p i)) (nI j) (nI N) (nI i) := by
  intro k
  induction k with
  | zero =>
    intro m i hi hm
    obtain ⟨m, rfl, -⟩ := suc_of hm
    obtain rfl : i = r := by omega
    show f_X5_worstOf_23 Q _ _ _ _ _
    unfold f_X5_worstOf_23
    rw [gi_sa, e19]
    exact br1 (nI_le (by omega) (by omega)) h
  | succ k ih =>
    intro m i hi hm
    obtain ⟨m, rfl, -⟩ := suc_of hm
    show f_X5_worstOf_23 Q _ _ _ _ _
    unfold f_X5_worstOf_23
    rw [gi_sa, e19]
    refine br0 (nI_ge (by omega) (by omega)) ?_
    have hpi := hp i (by omega)
    have e' : ga (sa σ 21 (tlf f p i)) 19 (16 * i + j) = nI (p i) := e i (by omega)
    rw [s_pointsOf (by omega) hj, e', cl (by omega : p i < 2 ^ 31), sa_sa, nI_1]
    refine br0 (nI_pos (by omega)) (br0 (nI_nlt (a := 17) (by omega) (by decide)) ⟨v_in (by omega) (by decide), v_in (by omega) (by decide), ?_⟩)
    have ih := ih m (i + 1) (by omega) (by omega)
    rw [← tlf_up f p hpi] at ih
    exact ih
theorem l_w2 {σ : St} {j N : Nat} {Q : Int32 → St → Prop} (h : f_X5_worstOf_23L Q FU (sa σ 21 (znf (ga σ 21) 18)) (nI j) (nI N) (0 : Int32)) : ∀ k m c : Nat, c + k = 18 → k < m → f_X5_worstOf_2L Q m (sa σ 21 (znf (ga σ 21) c)) (nI j) (nI N) (nI c) := by
  intro k
  induction k with
  | zero =>
    intro m c hc hm
    obtain ⟨m, rfl, -⟩ := suc_of hm
    obtain rfl : c = 18 := by omega
    show f_X5_worstOf_2 Q _ _ _ _ _
    unfold f_X5_worstOf_2
    exact br1 (by decide) h
  | succ k ih =>
    intro m c hc hm
    obtain ⟨m, rfl, -⟩ := suc_of hm
    show f_X5_worstOf_2 Q _ _ _ _ _
    unfold f_X5_worstOf_2
    refine br0 (nI_nlt (a := 17) (b := c) (by omega) (by decide)) ⟨v_in (by omega) (by decide), ?_⟩
    rw [cl (by omega : c < 2 ^ 31), sa_sa, nI_1]
    have ih := ih m (c + 1) (by omega) (by omega)
    rw [← znf_up] at ih
    exact ih
theorem s_worstOf {σ : St} {p : Nat → Nat} {r j N : Nat} (hr : r ≤ 20) (hN : N ≤ 20) (hj : j < 16) (e19 : gi σ 19 = nI r) (e : ∀ i, i < r → ga σ 19 (16 * i + j) = nI (p i)) (hp : ∀ i, i < r → p i ≤ 17) {Q : Int32 → St → Prop} (h : Q (nI (wl (fun v => tl p v r) 17 N)) (sa σ 21 (tlf (ga σ 21) p r))) : f_X5_worstOf σ (nI j) (nI N) Q := by
  have := l_w2 (σ := σ) (j := j) (N := N) (Q := Q) ?_ 18 FU 0 rfl (by decide)
  · rw [znf_0, sa_self] at this
    exact this
  · rw [← tlf_0 _ p]
    refine l_w23 hr hj e19 e hp ?_ r FU 0 (by omega) (by rw [FU_eq]; omega)
    refine l_w77 hr 17 FU N 0 (by omega) (by decide) hN ?_
    rw [Nat.zero_add]
    exact h
theorem l_psum {σ : St} {p : Nat → Nat} {r j : Nat} (hr : r ≤ 20) (hj : j < 16) (e19 : gi σ 19 = nI r) (e : ∀ i, i < r → ga σ 19 (16 * i + j) = nI (p i)) {Q : Int32 → St → Prop} (h : f_X6_dropsAfter σ (nI r) (fun r35 s35 => ((¬ r35 = 0 → f_X5_worstOf s35 (nI j) r35 (fun r54 s54 => Q (nI (smB p (fun _ => true) r) - r54) s54)) ∧ (r35 = 0 → Q (nI (smB p (fun _ => true) r)) s35)))) : ∀ k m i : Nat, i + k = r → k < m → f_X5_scoreOf_5L Q m σ (nI j) (nI (smB p (fun _ => true) i)) (nI i) := by
  intro k
  induction k with
  | zero =>
    intro m i hi hm
    obtain ⟨m, rfl, -⟩ := suc_of hm
    obtain rfl : i = r := by omega
    show f_X5_scoreOf_5 Q _ _ _ _ _
    unfold f_X5_scoreOf_5
    rw [e19]
    exact br1 (nI_le (by omega) (by omega)) h
  | succ k ih =>
    intro m i hi hm
    obtain ⟨m, rfl, -⟩ := suc_of hm
    show f_X5_scoreOf_5 Q _ _ _ _ _
    unfold f_X5_scoreOf_5
    rw [e19]
    refine br0 (nI_ge (by omega) (by omega)) ?_
    rw [s_pointsOf (by omega) hj, e i (by omega), nI_add, nI_1]
    exact ih m (i + 1) (by omega) (by omega)
def nDr (r f d : Nat) : Nat := if r < f then 0 else d
theorem s_scoreOf {σ : St} {p : Nat → Nat} {r j f d : Nat} (hr : r ≤ 20) (hj : j < 16) (hf : f ≤ 5000) (hd : d ≤ 5000) (e19 : gi σ 19 = nI r) (e10 : gi σ 10 = nI d) (e11 : gi σ 11 = nI f) (e : ∀ i, i < r → ga σ 19 (16 * i + j) = nI (p i)) (hp : ∀ i, i < r → p i ≤ 17) :
    ∃ f21 : Nat → Int32, ∀ Q : Int32 → St → Prop, Q (nI (scN p r (nDr r f d))) (sa σ 21 f21) → f_X5_scoreOf σ (nI j) Q := by
  have hsum : ∀ Q : Int32 → St → Prop, f_X6_dropsAfter σ (nI r) (fun r35 s35 => ((¬ r35 = 0 → f_X5_worstOf s35 (nI j) r35 (fun r54 s54 => Q (nI (smB p (fun _ => true) r) - r54) s54)) ∧ (r35 = 0 → Q (nI (smB p (fun _ => true) r)) s35))) → f_X5_scoreOf σ (nI j) Q := fun Q h => l_psum hr hj e19 e h r FU 0 (by omega) (by rw [FU_eq]; omega)
  have hsc := sc_class hp (nDr r f d)
  have hle := smB_le (c := fun _ => true) r hp
  by_cases h0 : min r (nDr r f d) = 0
  · refine ⟨ga σ 21, fun Q hQ => hsum Q ?_⟩
    rw [h0, wl_0, Nat.zero_add] at hsc
    rw [sa_self] at hQ
    unfold f_X6_dropsAfter
    rw [e10, e11]
    by_cases hrf : r < f
    · refine br1 (nI_lt hrf (by omega)) (bn0 rfl ?_)
      rw [hsc]; exact hQ
    · refine br0 (nI_nlt (by omega) (by omega)) ?_
      unfold nDr at h0
      rw [if_neg hrf] at h0
      rw [ifmin _ _ (by omega) (by omega), h0]
      refine bn0 rfl ?_
      rw [hsc]; exact hQ
  · refine ⟨tlf (ga σ 21) p r, fun Q hQ => hsum Q ?_⟩
    unfold f_X6_dropsAfter
    rw [e10, e11]
    have hrf : ¬ r < f := by
      intro q
      unfold nDr at h0
      rw [if_pos q] at h0
      omega
    have e2 : nDr r f d = d := by unfold nDr; rw [if_neg hrf]
    refine br0 (nI_nlt (by omega) (by omega)) ?_
    rw [e2] at h0 hsc hQ
    rw [ifmin _ _ (by omega) (by omega)]
    refine bn1 (nI_ne0 (by omega) (by omega)) (s_worstOf hr (by omega) hj e19 e hp ?_)
    rw [hsc, pk_sub (by omega), Nat.add_sub_cancel_left]
    exact hQ
theorem l_m18 {σ : St} {p : Nat → Nat} {r j i N : Nat} (hr : r ≤ 20) (hj : j < 16) (hi : i < r) (e42 : gi σ 42 = nI r) (e : ∀ i, i < r → ga σ 38 (16 * i + j) = nI (p i)) (hp : ∀ i, i < r → p i ≤ 17) (hN : ∀ a, a ≤ 20 → ((gi σ 35 < 0 ∨ nI r < gi σ 35 ∨ gi σ 34 ≤ nI a) ↔ ¬ a < N)) {l2 : Int32} {Q : Int32 → St → Prop} {K : St → Int32 → Int32 → Int32 → Prop} (h : K σ (nI j) (l2 + nI (if (!drp p r N i) = true then p i else 0)) (nI (i + 1))) : ∀ k m c : Nat, c + k = r → k < m → f_X9_scoreOf_18L Q K m σ (nI j) l2 (nI i) (nI (cntB (ahB p i) c)) (nI c) := by
  have hpi := hp i hi
  have ei := e i hi
  have vi : vp_in (nI (16 * i + j)) 320 := v_in (by omega) (by decide)
  intro k
  induction k with
  | zero =>
    intro m c hc hm
    obtain ⟨m, rfl, -⟩ := suc_of hm
    obtain rfl : c = r := by omega
    show f_X9_scoreOf_18 Q K _ _ _ _ _ _ _
    unfold f_X9_scoreOf_18 f_X9_scoreOf_133
    rw [e42]
    refine br1 (nI_le (by omega) (by omega)) ?_
    have hc2 := hN (cntB (ahB p i) c) (by have := cntB_le (ahB p i) c; omega)
    have hkeep : ¬ cntB (ahB p i) c < N → (vp_in (((16 : Int32) * nI i) + nI j) 320 ∧ K σ (nI j) (l2 + (ga σ 38 (((16 : Int32) * nI i) + nI j).toNatClampNeg)) (nI i + 1)) := by
      intro q
      rw [show (16 : Int32) = nI 16 from rfl, pk_mul, nI_add, cl (by omega : 16 * i + j < 2 ^ 31), ei, nI_1]
      have : (!drp p c N i) = true := by unfold drp ahd; simp; omega
      rw [if_pos this] at h
      exact ⟨vi, h⟩
    by_cases q1 : gi σ 35 < 0
    · exact br1 q1 (br1 rfl (hkeep (hc2.mp (Or.inl q1))))
    · by_cases q2 : nI c < gi σ 35
      · exact br0 q1 (br1 q2 (br1 rfl (hkeep (hc2.mp (Or.inr (Or.inl q2))))))
      · by_cases q3 : gi σ 34 ≤ nI (cntB (ahB p i) c)
        · exact br0 q1 (br0 q2 (br1 q3 (br1 rfl (hkeep (hc2.mp (Or.inr (Or.inr q3)))))))
        · refine br0 q1 (br0 q2 (br0 q3 (br0 (by decide) ?_)))
          have q4 : cntB (ahB p i) c < N := by
            by_cases z : cntB (ahB p i) c < N
            · exact z
            · exact absurd (hc2.mpr z) (fun q => q.elim q1 (fun q => q.elim q2 q3))
          have : ¬ (!drp p c N i) = true := by unfold drp ahd; simp; omega
          rw [if_neg this] at h
          rw [nI_1]
          exact h
  | succ k ih =>
    intro m c hc hm
    obtain ⟨m, rfl, -⟩ := suc_of hm
    show f_X9_scoreOf_18 Q K _ _ _ _ _ _ _
    unfold f_X9_scoreOf_18
    have vc : vp_in (nI (16 * c + j)) 320 := v_in (by omega) (by decide)
    have hpc := hp c (by omega)
    rw [e42, show (16 : Int32) = nI 16 from rfl, pk_mul, nI_add, pk_mul, nI_add, cl (by omega : 16 * i + j < 2 ^ 31), cl (by omega : 16 * c + j < 2 ^ 31), ei, e c (by omega), nI_ltI (by omega) (by omega), nI_eq (by omega) (by omega), nI_leI (a := i) (b := c) (by omega) (by omega), nI_1 c, nI_1 (cntB (ahB p i) c), Int32.add_zero]
    refine br0 (nI_ge (by omega) (by omega)) ⟨vc, vi, ?_⟩
    have ih := ih m (c + 1) (by omega) (by omega)
    have hcn : cntB (ahB p i) (c + 1) = cntB (ahB p i) c + (if ahB p i c = true then 1 else 0) := rfl
    rw [hcn] at ih
    by_cases q1 : p i < p c
    · have : ahB p i c = true := by unfold ahB; simp; omega
      rw [if_pos this] at ih
      exact br1 q1 ih
    · refine br0 q1 ⟨vc, vi, ?_⟩
      by_cases q2 : p c = p i
      · refine bn0 q2 ?_
        by_cases q3 : i ≤ c
        · have : ¬ ahB p i c = true := by unfold ahB; simp; omega
          rw [if_neg this] at ih
          exact br1 q3 ih
        · have : ahB p i c = true := by unfold ahB; simp; omega
          rw [if_pos this] at ih
          exact br0 q3 ih
      · have : ¬ ahB p i c = true := by unfold ahB; simp; omega
        rw [if_neg this] at ih
        exact bn1 q2 ih
theorem t_scoreOf {σ : St} {p : Nat → Nat} {r j N : Nat} (hr : r ≤ 20) (hj : j < 16) (e42 : gi σ 42 = nI r) (e : ∀ i, i < r → ga σ 38 (16 * i + j) = nI (p i)) (hp : ∀ i, i < r → p i ≤ 17) (hN : ∀ a, a ≤ 20 → ((gi σ 35 < 0 ∨ nI r < gi σ 35 ∨ gi σ 34 ≤ nI a) ↔ ¬ a < N)) {Q : Int32 → St → Prop} (h : Q (nI (scN p r N)) σ) : f_X9_scoreOf σ (nI j) Q := by
  have : ∀ k m i : Nat, i + k = r → k < m → f_X9_scoreOf_4L Q m σ (nI j) (nI (smB p (fun i => !drp p r N i) i)) (nI i) := by
    intro k
    induction k with
    | zero =>
      intro m i hi hm
      obtain ⟨m, rfl, -⟩ := suc_of hm
      obtain rfl : i = r := by omega
      show f_X9_scoreOf_4 Q _ _ _ _ _
      unfold f_X9_scoreOf_4
      rw [e42]
      exact br1 (nI_le (by omega) (by omega)) h
    | succ k ih =>
      intro m i hi hm
      obtain ⟨m, rfl, -⟩ := suc_of hm
      show f_X9_scoreOf_4 Q _ _ _ _ _
      unfold f_X9_scoreOf_4
      rw [e42]
      refine br0 (nI_ge (by omega) (by omega)) (l_m18 hr hj (by omega) e42 e hp hN ?_ r FU 0 (by omega) (by rw [FU_eq]; omega))
      have ih := ih m (i + 1) (by omega) (by omega)
      rw [nI_add]
      exact ih
  exact this r FU 0 (by omega) (by rw [FU_eq]; omega)
/-- the points of boat j, as numbers -/
def pts (σ : St) (j i : Nat) : Nat := (ga σ 19 (16 * i + j)).toNatClampNeg
theorem pts_ok {n r : Nat} {σ : St} (h : RCS n r σ) {j : Nat} (hj : j < 16) {i : Nat} (hi : i < r) : ga σ 19 (16 * i + j) = nI (pts σ j i) ∧ pts σ j i ≤ 17 ∧ (j < n → ga σ 38 (16 * i + j) = nI (pts σ j i)) := by
  obtain ⟨f1, f2, f3, f4, f5, f6, f7, f8⟩ := h
  obtain ⟨-, b⟩ := f8 i hi
  obtain ⟨⟨v, v1, v2, e⟩, e2, -⟩ := b j hj
  have : pts σ j i = v := by unfold pts; rw [e, cl (by omega : v < 2 ^ 31)]
  rw [this]
  exact ⟨e, v2, fun q => (e2 q).symm.trans e⟩
theorem rul_N {σ : St} {r d f : Nat} (hr : r ≤ 20) (hd : d ≤ 5000) (hf : f ≤ 5000) (e34 : gi σ 34 = nI d) (e35 : (gi σ 35 = -1 ∧ d = 0) ∨ gi σ 35 = nI f) : ∀ a, a ≤ 20 → ((gi σ 35 < 0 ∨ nI r < gi σ 35 ∨ gi σ 34 ≤ nI a) ↔ ¬ a < nDr r f d) := by
  intro a ha
  rw [e34, nI_leI (by omega) (by omega)]
  unfold nDr
  rcases e35 with ⟨e, z⟩ | e
  · subst z
    have : gi σ 35 < 0 := by rw [e]; decide
    simp [this]
  · rw [e, nI_ltI (by omega) (by omega)]
    have : ¬ nI f < 0 := nI_pos (by omega)
    by_cases q : r < f
    · simp [q]
    · simp [q, this]
theorem pr_score {σ : St} (h : INVX σ) (c : Int32) : PT σ (f_X8_score σ c) (fun s => f_X9_score s c) [(0, 0), (1, 1)] := by
  obtain ⟨w, n, r, tp, h⟩ := h
  obtain ⟨hi, hc, ht, ⟨d1, d2, ⟨d, f, hd, hf, d3, d4, d5, d6⟩, d7⟩, ⟨e1, e2, e3, e4⟩, hrc, hfl, hl⟩ := id h
  obtain ⟨f1, f2, f3, f4⟩ := id hrc
  rcases c_boat c (n := n) (by omega) with hb | ⟨j, hj, rfl⟩
  · refine ⟨1, 1, 0, σ, by decide, fun Q X _ hX => ?_, fun g => ⟨0, si (si (so σ g) 23 0) 23 1, fun Q hQ => ?_, rfl, fun hh => absurd hh (by decide), rfl, INVX.of h⟩⟩
    · unfold f_X8_score
      rw [s_needBoat e2, if_pos hb]
      exact hX (by decide)
    · show f_X9_score (so σ g) c Q
      unfold f_X9_score
      rw [t_isBoat (σ := si (so σ g) 23 0) (n := n) e3, if_pos hb]
      refine bn0 rfl ?_
      rw [t_bad.1]
      exact br0 (by decide) hQ
  · have hb := b_ok hj (by omega : n < 2 ^ 31)
    obtain ⟨f21, hs⟩ := s_scoreOf (σ := σ) (p := pts σ j) (j := j) f1 (by omega) hf hd f2 d3 d5 (fun i hi => (pts_ok hrc (by omega) hi).1) (fun i hi => (pts_ok hrc (by omega) hi).2.1)
    refine ⟨0, 0, nI (scN (pts σ j) r (nDr r f d)), sa σ 21 f21, by decide, fun Q X hQ _ => ?_, fun g => ⟨nI (scN (pts σ j) r (nDr r f d)), si (so (sa σ 21 f21) g) 23 0, fun Q hQ => ?_, rfl, fun _ => rfl, rfl, INVX.of h⟩⟩
    · unfold f_X8_score
      rw [s_needBoat e2, if_neg hb]
      exact hs _ (hQ rfl)
    · show f_X9_score (so (sa σ 21 f21) g) (nI j) Q
      unfold f_X9_score
      rw [t_isBoat (σ := si (so (sa σ 21 f21) g) 23 0) (n := n) e3, if_neg hb]
      refine bn1 (by decide) ?_
      rw [t_bad.2]
      refine br1 rfl ?_
      exact t_scoreOf (σ := si (so (sa σ 21 f21) g) 23 0) (p := pts σ j) f1 (by omega) f3 (fun i hi => (pts_ok hrc (by omega) hi).2.2 hj) (fun i hi => (pts_ok hrc (by omega) hi).2.1) (rul_N (σ := si (so (sa σ 21 f21) g) 23 0) f1 hd hf d4 d6) hQ
