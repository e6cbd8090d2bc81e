theorem nrm3 (σ : St) (a b c a' b' : Nat → Int32) : sa (sa (sa (sa (sa σ 21 a) 22 b) 23 c) 21 a') 22 b' = sa (sa (sa σ 21 a') 22 b') 23 c := by
  rw [sa_comm (sa (sa σ 21 a) 22 b) (by decide : (23 : Nat) ≠ 21) c a', sa_comm (sa σ 21 a) (by decide : (22 : Nat) ≠ 21) b a', sa_sa, sa_comm (sa (sa σ 21 a') 22 b) (by decide : (23 : Nat) ≠ 22) c b', sa_sa]
def SC (σ : St) (r N a : Nat) : Nat := scN (pts σ a) r N
theorem SC_le {n r : Nat} {σ : St} (h : RCS n r σ) (N : Nat) {a : Nat} (ha : a < 16) : SC σ r N a ≤ 340 := by
  have h1 := smB_le (p := pts σ a) (c := fun i => !drp (pts σ a) r N i) r (fun i hi => (pts_ok h ha hi).2.1)
  have := h.1
  unfold SC scN
  omega
theorem l_rank {n0 r d f : Nat} {σ : St} (h : RCS n0 r σ) {n : Nat} (hn : n ≤ 16) (hf : f ≤ 5000) (hd : d ≤ 5000) (e10 : gi σ 10 = nI d) (e11 : gi σ 11 = nI f) :
    ∀ (k c : Nat) (f21 f23 : Nat → Int32) (π : Nat → Nat), c + k = n → (∀ x, x < c → f23 x = nI (π x)) → srt (SC σ r (nDr r f d)) (pts σ) r c π →
    ∃ (f21' f23' : Nat → Int32) (π' : Nat → Nat), srt (SC σ r (nDr r f d)) (pts σ) r n π' ∧ (∀ x, x < n → f23' x = nI (π' x)) ∧ ∀ (m : Nat) (Q : St → Prop), k < m → Q (sa (sa (sa σ 21 f21') 22 (scf (ga σ 22) (SC σ r (nDr r f d)) n)) 23 f23') → f_X5_rankBoats_10L Q m (sa (sa (sa σ 21 f21) 22 (scf (ga σ 22) (SC σ r (nDr r f d)) c)) 23 f23) (nI n) (nI c) := by
  have f2 : gi σ 19 = nI r := h.2.1
  have f1 : r ≤ 20 := h.1
  intro k
  induction k with
  | zero =>
    intro c f21 f23 π hc hx hs
    obtain rfl : c = n := by omega
    refine ⟨f21, f23, π, hs, hx, fun m Q hm hQ => ?_⟩
    obtain ⟨m, rfl, -⟩ := suc_of hm
    show f_X5_rankBoats_10 Q _ _ _ _
    unfold f_X5_rankBoats_10
    exact br1 (nI_le (by omega) (by omega)) hQ
  | succ k ih =>
    intro c f21 f23 π hc hx hs
    obtain ⟨g21, hg⟩ := s_scoreOf (σ := sa (sa (sa σ 21 f21) 22 (scf (ga σ 22) (SC σ r (nDr r f d)) c)) 23 f23) (p := pts σ c) (j := c) f1 (by omega) hf hd f2 e10 e11 (fun i hi => (pts_ok h (by omega) hi).1) (fun i hi => (pts_ok h (by omega) hi).2.1)
    have hq := rk_in (SC σ r (nDr r f d)) (pts σ) r (m := c + 1) (by omega : c < c + 1)
    have hside : ∀ x, x < c + 1 → upd (shf f23 (rkN (SC σ r (nDr r f d)) (pts σ) r (c + 1) c) c) (rkN (SC σ r (nDr r f d)) (pts σ) r (c + 1) c) (nI c) x = nI (insP π (rkN (SC σ r (nDr r f d)) (pts σ) r (c + 1) c) c x) := by
      intro x hxc
      unfold insP
      by_cases z1 : x < rkN (SC σ r (nDr r f d)) (pts σ) r (c + 1) c
      · rw [if_pos z1, pk_un (by omega), shf_lo _ (by omega), hx x (by omega)]
      · rw [if_neg z1]
        by_cases z2 : x = rkN (SC σ r (nDr r f d)) (pts σ) r (c + 1) c
        · rw [if_pos z2, ← z2, upd_at]
        · rw [if_neg z2, pk_un z2]
          unfold shf
          rw [if_pos (by omega), hx (x - 1) (by omega)]
    obtain ⟨f21', f23', π', h1, h2, h3⟩ := ih (c + 1) g21 (upd (shf f23 (rkN (SC σ r (nDr r f d)) (pts σ) r (c + 1) c) c) (rkN (SC σ r (nDr r f d)) (pts σ) r (c + 1) c) (nI c)) (insP π (rkN (SC σ r (nDr r f d)) (pts σ) r (c + 1) c) c) (by omega) hside (srt_ins hs)
    · refine ⟨f21', f23', π', h1, h2, fun m Q hm hQ => ?_⟩
      obtain ⟨m, rfl, -⟩ := suc_of hm
      show f_X5_rankBoats_10 Q _ _ _ _
      unfold f_X5_rankBoats_10
      refine br0 (nI_ge (by omega) (by omega)) (hg _ ⟨v_in (by omega) (by decide), ?_⟩)
      rw [cl (by omega : c < 2 ^ 31), nrm3]
      have e22 : upd (ga (sa (sa (sa (sa σ 21 f21) 22 (scf (ga σ 22) (SC σ r (nDr r f d)) c)) 23 f23) 21 g21) 22) c (nI (scN (pts σ c) r (nDr r f d))) = scf (ga σ 22) (SC σ r (nDr r f d)) (c + 1) := scf_up _ _ _
      rw [e22]
      have := l_ins (σ := sa (sa σ 21 g21) 22 (scf (ga σ 22) (SC σ r (nDr r f d)) (c + 1))) (f := f23) (q := rkN (SC σ r (nDr r f d)) (pts σ) r (c + 1) c) (c := c) (n := n) (by omega) (fun k' g Q' hk' hQ' => ?_) (Q := Q) (K := f_X5_rankBoats_10L Q m) (h3 m Q (by omega) hQ) c FU (by omega) (by omega) (by rw [FU_eq]; omega)
      · rw [shf_c] at this
        exact this
      · rw [hx k' hk']
        have hπ := (hs k' hk').1
        refine s_isBetter (σ := sa (sa (sa σ 21 g21) 22 (scf (ga σ 22) (SC σ r (nDr r f d)) (c + 1))) 23 g) (a := c) (b := π k') (S := SC σ r (nDr r f d)) (P := pts σ) (r := r) f1 (by omega) (by omega) f2 (fun i hi => ⟨(pts_ok h (by omega) hi).1, (pts_ok h (by omega) hi).2.1⟩) (fun i hi => ⟨(pts_ok h (by omega) hi).1, (pts_ok h (by omega) hi).2.1⟩) (scf_in _ _ (by omega)) (scf_in _ _ (by omega)) (SC_le h _ (by omega)) (SC_le h _ (by omega)) ?_
        unfold b01
        by_cases z : bet (SC σ r (nDr r f d)) (pts σ) r c (π k') = true
        · rw [if_pos z]
          rw [if_pos ((srt_q hs hk').mp z)] at hQ'
          exact hQ'
        · rw [if_neg z]
          rw [if_neg (fun q => z ((srt_q hs hk').mpr q))] at hQ'
          exact hQ'
theorem s_rankBoats {n0 r d f : Nat} {σ : St} (h : RCS n0 r σ) {n : Nat} (hn : n ≤ 16) (hf : f ≤ 5000) (hd : d ≤ 5000) (e10 : gi σ 10 = nI d) (e11 : gi σ 11 = nI f) :
    ∃ (f21 f22 f23 : Nat → Int32) (π : Nat → Nat), srt (SC σ r (nDr r f d)) (pts σ) r n π ∧ (∀ x, x < n → f23 x = nI (π x)) ∧ ∀ (Q : St → Prop), Q (sa (sa (sa σ 21 f21) 22 f22) 23 f23) → f_X5_rankBoats σ (nI n) Q := by
  obtain ⟨f21, f23, π, h1, h2, h3⟩ := l_rank h hn hf hd e10 e11 n 0 (ga σ 21) (ga σ 23) (fun _ => 0) (by omega) (fun x hx => absurd hx (by omega)) (fun x hx => absurd hx (by omega))
  refine ⟨f21, scf (ga σ 22) (SC σ r (nDr r f d)) n, f23, π, h1, h2, fun Q hQ => ?_⟩
  have := h3 FU Q (by rw [FU_eq]; omega) hQ
  rw [scf_0, sa_self] at this
  have e22 : sa σ 22 (ga σ 22) = σ := sa_self σ 22
  have e23 : sa σ 23 (ga σ 23) = σ := sa_self σ 23
  rw [e22, e23] at this
  unfold f_X5_rankBoats
  rw [if_neg (show ¬ (16 : Int32) < nI n from nI_nlt (b := n) (a := 16) hn (by decide))]
  exact this
-- the reference
theorem l_isAhead {σ : St} {P : Nat → Nat → Nat} {a b r : Nat} (hr : r ≤ 20) (ha : a < 16) (hb : b < 16) (ea : ∀ i, i < r → ga σ 38 (16 * i + a) = nI (P a i) ∧ P a i ≤ 17) (eb : ∀ i, i < r → ga σ 38 (16 * i + b) = nI (P b i) ∧ P b i ≤ 17) {Q : Int32 → St → Prop} : ∀ k m : Nat, k ≤ r → k < m → Q (b01 (lsB P a b k)) σ → f_X9_isAhead_43L Q m σ (nI a) (nI b) (nI k - 1) := by
  intro k
  induction k with
  | zero =>
    intro m hk hm h
    obtain ⟨m, rfl, -⟩ := suc_of hm
    show f_X9_isAhead_43 Q _ _ _ _ _
    unfold f_X9_isAhead_43
    refine br1 (by decide) ?_
    rw [nI_leI (by omega) (by omega)]
    unfold lsB b01 at h
    by_cases q : b ≤ a
    · rw [if_neg (by simp; omega)] at h; exact br1 q h
    · rw [if_pos (by simp; omega)] at h; exact br0 q h
  | succ k ih =>
    intro m hk hm h
    obtain ⟨m, rfl, -⟩ := suc_of hm
    show f_X9_isAhead_43 Q _ _ _ _ _
    unfold f_X9_isAhead_43
    obtain ⟨a1, a2⟩ := ea k (by omega)
    obtain ⟨b1, b2⟩ := eb k (by omega)
    rw [nI_pred]
    refine br0 (nI_pos (by omega)) ?_
    rw [show (16 : Int32) = nI 16 from rfl, pk_mul, nI_add, nI_add, cl (by omega : 16 * k + a < 2 ^ 31), cl (by omega : 16 * k + b < 2 ^ 31), a1, b1, nI_eq (by omega) (by omega), nI_leI (by omega) (by omega), m1_sub]
    refine ⟨v_in (by omega) (by decide), v_in (by omega) (by decide), ?_⟩
    unfold lsB at h
    by_cases e : P a k = P b k
    · rw [if_pos e] at h
      exact br1 e (ih m (by omega) (by omega) h)
    · rw [if_neg e] at h
      unfold b01 at h
      refine br0 e ?_
      by_cases q : P b k ≤ P a k
      · rw [if_neg (by simp; omega)] at h; exact br1 q h
      · rw [if_pos (by simp; omega)] at h; exact br0 q h
theorem t_isAhead {σ : St} {S : Nat → Nat} {P : Nat → Nat → Nat} {a b r : Nat} (hr : r ≤ 20) (ha : a < 16) (hb : b < 16) (e42 : gi σ 42 = nI r) (ea : ∀ i, i < r → ga σ 38 (16 * i + a) = nI (P a i) ∧ P a i ≤ 17) (eb : ∀ i, i < r → ga σ 38 (16 * i + b) = nI (P b i) ∧ P b i ≤ 17) (sa1 : ga σ 41 a = nI (S a)) (sb1 : ga σ 41 b = nI (S b)) (la : S a ≤ 340) (lb : S b ≤ 340) {Q : Int32 → St → Prop} (h : Q (b01 (bet S P r a b)) σ) : f_X9_isAhead σ (nI a) (nI b) Q := by
  unfold f_X9_isAhead
  have va := v_in ha (by decide : 16 < 2 ^ 31)
  have vb := v_in hb (by decide : 16 < 2 ^ 31)
  rw [cl (by omega : a < 2 ^ 31), cl (by omega : b < 2 ^ 31), sa1, sb1, nI_eq (by omega) (by omega), nI_leI (by omega) (by omega), e42]
  refine ⟨va, vb, ?_⟩
  unfold bet at h
  by_cases e : S a = S b
  · rw [if_pos e] at h
    exact br1 e (l_isAhead hr ha hb ea eb r FU (by omega) (by rw [FU_eq]; omega) h)
  · rw [if_neg e] at h
    unfold b01 at h
    refine br0 e ⟨va, vb, ?_⟩
    by_cases q : S b ≤ S a
    · rw [if_neg (by simp; omega)] at h; exact br1 q h
    · rw [if_pos (by simp; omega)] at h; exact br0 q h
theorem l_rk41 {σ : St} {S : Nat → Nat} {P : Nat → Nat → Nat} {a r n : Nat} (hr : r ≤ 20) (hn : n ≤ 16) (ha : a < n) (e41 : gi σ 41 = nI n) (hah : ∀ (b : Nat) (Q : Int32 → St → Prop), b < n → Q (b01 (bet S P r b a)) σ → f_X9_isAhead σ (nI b) (nI a) Q) {Q : St → Prop} {K : St → Int32 → Prop} (h : K (sa σ 42 (upd (ga σ 42) (rkN S P r n a) (nI a))) (nI (a + 1))) : ∀ k m c : Nat, c + k = n → k < m → f_X9_ranked_41L Q K m σ (nI a) (nI (rkN S P r c a)) (nI c) := by
  intro k
  induction k with
  | zero =>
    intro m c hc hm
    obtain ⟨m, rfl, -⟩ := suc_of hm
    obtain rfl : c = n := by omega
    show f_X9_ranked_41 Q K _ _ _ _ _
    unfold f_X9_ranked_41
    have hi := rk_in S P r ha
    rw [e41, cl (by omega : rkN S P r c a < 2 ^ 31), nI_1]
    exact br1 (nI_le (by omega) (by omega)) ⟨v_in (by omega) (by decide), h⟩
  | succ k ih =>
    intro m c hc hm
    obtain ⟨m, rfl, -⟩ := suc_of hm
    show f_X9_ranked_41 Q K _ _ _ _ _
    unfold f_X9_ranked_41
    rw [e41, nI_eq (by omega) (by omega), Int32.add_zero, nI_1 c, nI_1 (rkN S P r c a)]
    refine br0 (nI_ge (by omega) (by omega)) ?_
    have ih := ih m (c + 1) (by omega) (by omega)
    rw [rk_suc] at ih
    by_cases e : c = a
    · subst e
      rw [if_neg (by rw [bet_irr]; decide)] at ih
      exact br1 rfl ih
    · refine br0 e (hah c _ (by omega) ?_)
      unfold b01
      by_cases z : bet S P r c a = true
      · rw [if_pos z] at ih ⊢
        exact br0 (by decide) ih
      · rw [if_neg z] at ih ⊢
        exact br1 rfl ih
theorem l_rk29 {σ : St} {S : Nat → Nat} {P : Nat → Nat → Nat} {r n : Nat} (hr : r ≤ 20) (hn : n ≤ 16) (e41 : gi σ 41 = nI n) (hah : ∀ (g : Nat → Int32) (a b : Nat) (Q : Int32 → St → Prop), a < n → b < n → Q (b01 (bet S P r b a)) (sa σ 42 g) → f_X9_isAhead (sa σ 42 g) (nI b) (nI a) Q) :
    ∀ (k c : Nat) (f42 : Nat → Int32), c + k = n → (∀ a, a < c → f42 (rkN S P r n a) = nI a) → ∃ f42' : Nat → Int32, (∀ a, a < n → f42' (rkN S P r n a) = nI a) ∧ ∀ (m : Nat) (Q : St → Prop), k < m → Q (sa σ 42 f42') → f_X9_ranked_29L Q m (sa σ 42 f42) (nI c) := by
  intro k
  induction k with
  | zero =>
    intro c f42 hc hx
    obtain rfl : c = n := by omega
    refine ⟨f42, hx, fun m Q hm hQ => ?_⟩
    obtain ⟨m, rfl, -⟩ := suc_of hm
    show f_X9_ranked_29 Q _ _ _
    unfold f_X9_ranked_29
    rw [gi_sa, e41]
    exact br1 (nI_le (by omega) (by omega)) hQ
  | succ k ih =>
    intro c f42 hc hx
    have hside : ∀ a, a < c + 1 → upd f42 (rkN S P r n c) (nI c) (rkN S P r n a) = nI a := by
      intro a ha
      by_cases e : a = c
      · subst e; rw [upd_at]
      · rw [pk_un (rk_ne S P r (by omega) (by omega) e)]; exact hx a (by omega)
    obtain ⟨f42', h1, h2⟩ := ih (c + 1) (upd f42 (rkN S P r n c) (nI c)) (by omega) hside
    · refine ⟨f42', h1, fun m Q hm hQ => ?_⟩
      obtain ⟨m, rfl, -⟩ := suc_of hm
      show f_X9_ranked_29 Q _ _ _
      unfold f_X9_ranked_29
      rw [gi_sa, e41]
      refine br0 (nI_ge (by omega) (by omega)) ?_
      refine l_rk41 (σ := sa σ 42 f42) hr hn (by omega) e41 (fun b Q hb hQ => hah f42 c b Q (by omega) hb hQ) ?_ n FU 0 (by omega) (by rw [FU_eq]; omega)
      rw [sa_sa]
      exact h2 m Q (by omega) hQ
theorem t_ranked {σ : St} {P : Nat → Nat → Nat} {r n N : Nat} (hr : r ≤ 20) (hn : n ≤ 16) (e41 : gi σ 41 = nI n) (e42 : gi σ 42 = nI r) (e : ∀ a, a < n → ∀ i, i < r → ga σ 38 (16 * i + a) = nI (P a i) ∧ P a i ≤ 17) (hN : ∀ a, a ≤ 20 → ((gi σ 35 < 0 ∨ nI r < gi σ 35 ∨ gi σ 34 ≤ nI a) ↔ ¬ a < N)) :
    ∃ f41 f42 : Nat → Int32, (∀ a, a < n → f42 (rkN (fun a => scN (P a) r N) P r n a) = nI a) ∧ ∀ Q : St → Prop, Q (sa (sa σ 41 f41) 42 f42) → f_X9_ranked σ Q := by
  have hS : ∀ a, a < n → scN (P a) r N ≤ 340 := by
    intro a ha
    have := smB_le (p := P a) (c := fun i => !drp (P a) r N i) r (fun i hi => (e a ha i hi).2)
    unfold scN
    omega
  obtain ⟨f42, h1, h2⟩ := l_rk29 (σ := sa σ 41 (scf (ga σ 41) (fun a => scN (P a) r N) n)) (S := fun a => scN (P a) r N) (P := P) hr hn e41 (fun g a b Q ha hb hQ => t_isAhead (σ := sa (sa σ 41 (scf (ga σ 41) (fun a => scN (P a) r N) n)) 42 g) (a := b) (b := a) (S := fun a => scN (P a) r N) (P := P) (r := r) hr (by omega) (by omega) e42 (e b hb) (e a ha) (scf_in (ga σ 41) (fun a => scN (P a) r N) hb) (scf_in (ga σ 41) (fun a => scN (P a) r N) ha) (hS b hb) (hS a ha) hQ) n 0 (ga σ 42) (by omega) (fun a ha => absurd ha (by omega))
  refine ⟨scf (ga σ 41) (fun a => scN (P a) r N) n, f42, h1, fun Q hQ => ?_⟩
  have key : ∀ k m c : Nat, c + k = n → k < m → f_X9_ranked_2L Q m (sa σ 41 (scf (ga σ 41) (fun a => scN (P a) r N) c)) (nI c) := by
    intro k
    induction k with
    | zero =>
      intro m c hc hm
      obtain ⟨m, rfl, -⟩ := suc_of hm
      obtain rfl : c = n := by omega
      show f_X9_ranked_2 Q _ _ _
      unfold f_X9_ranked_2
      rw [gi_sa, e41]
      refine br1 (nI_le (by omega) (by omega)) ?_
      have := h2 FU Q (by rw [FU_eq]; omega) hQ
      have e3 : sa (sa σ 41 (scf (ga σ 41) (fun a => scN (P a) r N) c)) 42 (ga σ 42) = sa σ 41 (scf (ga σ 41) (fun a => scN (P a) r N) c) := sa_self _ 42
      rw [e3] at this
      exact this
    | succ k ih =>
      intro m c hc hm
      obtain ⟨m, rfl, -⟩ := suc_of hm
      show f_X9_ranked_2 Q _ _ _
      unfold f_X9_ranked_2
      rw [gi_sa, e41]
      refine br0 (nI_ge (by omega) (by omega)) ?_
      refine t_scoreOf (σ := sa σ 41 (scf (ga σ 41) (fun a => scN (P a) r N) c)) (p := P c) (N := N) hr (by omega) e42 (fun i hi => (e c (by omega) i hi).1) (fun i hi => (e c (by omega) i hi).2) hN ⟨v_in (by omega) (by decide), ?_⟩
      rw [cl (by omega : c < 2 ^ 31), sa_sa, nI_1]
      have ih := ih m (c + 1) (by omega) (by omega)
      rw [← scf_up] at ih
      exact ih
  have := key n FU 0 (by omega) (by rw [FU_eq]; omega)
  rw [scf_0, sa_self] at this
  exact this
/-- class and reference rank alike -/
theorem ranks {w n r t : Nat} {σ : St} (h : INV w n r t σ) : ∃ (f21 f22 f23 : Nat → Int32) (π : Nat → Nat), (∀ k, k < n → π k < n ∧ f23 k = nI (π k)) ∧ (∀ a b, a < n → b < n → π a = π b → a = b) ∧ (∀ Q : St → Prop, Q (sa (sa (sa σ 21 f21) 22 f22) 23 f23) → f_X5_rankBoats σ (nI n) Q) ∧ ∀ τ : St, gi τ 41 = gi σ 41 → gi τ 42 = gi σ 42 → ga τ 38 = ga σ 38 → gi τ 35 = gi σ 35 → gi τ 34 = gi σ 34 → ∃ f41 f42 : Nat → Int32, (∀ k, k < n → f42 k = nI (π k)) ∧ ∀ (Q : St → Prop), Q (sa (sa τ 41 f41) 42 f42) → f_X9_ranked τ Q := by
  obtain ⟨hi, hc, ht, ⟨d1, d2, ⟨d, f, hd, hf, d3, d4, d5, d6⟩, d7⟩, ⟨e1, e2, e3, e4⟩, hrc, hfl, hl⟩ := id h
  obtain ⟨f1, f2, f3, -⟩ := id hrc
  obtain ⟨f21, f22, f23, π, s1, s2, s3⟩ := s_rankBoats hrc e1 hf hd d3 d5
  refine ⟨f21, f22, f23, π, fun k hk => ⟨(s1 k hk).1, s2 k hk⟩, fun a b ha hb e => ?_, s3, fun τ g1 g2 g3 g4 g5 => ?_⟩
  · have h1 := (s1 a ha).2
    have h2 := (s1 b hb).2
    rw [e] at h1
    omega
  · obtain ⟨f41, f42, t1, t2⟩ := t_ranked (σ := τ) (P := pts σ) (r := r) (n := n) (N := nDr r f d) f1 e1 (g1.trans e3) (g2.trans f3) (fun a ha i hi => ⟨by rw [g3]; exact (pts_ok hrc (by omega) hi).2.2 ha, (pts_ok hrc (by omega) hi).2.1⟩) (rul_N (σ := τ) f1 hd hf (g5.trans d4) (by rw [g4]; exact d6))
    refine ⟨f41, f42, fun k hk => ?_, t2⟩
    obtain ⟨p1, p2⟩ := s1 k hk
    have := t1 (π k) p1
    have e : rkN (fun a => scN (pts σ a) r (nDr r f d)) (pts σ) r n (π k) = k := p2
    rw [e] at this
    exact this
theorem pr_rank {σ : St} (h : INVX σ) (x : Int32) : PN σ (fun Q => f_X8_rank σ x Q) (fun s Q => f_X9_rank s x Q) := by
  obtain ⟨w, n, r, tp, h⟩ := h
  obtain ⟨f21, f22, f23, π, p1, p2, p3, p4⟩ := ranks h
  obtain ⟨hi, hc, ht, hr, ⟨e1, e2, e3, e4⟩, hrc, hfl, hl⟩ := id h
  rcases c_boat x (n := n) (by omega) with hb | ⟨j, hj, rfl⟩
  · obtain ⟨f41, f42, q1, q2⟩ := p4 (si σ 23 0) rfl rfl rfl rfl rfl
    refine ⟨-1, σ, fun Q hQ => ?_, sa (sa (si σ 23 0) 41 f41) 42 f42, fun Q hQ => ?_, INVX.of h⟩
    · show f_X8_rank σ x Q
      unfold f_X8_rank
      rw [e2]
      by_cases q : x < 0
      · exact br1 q hQ
      · refine br0 q (br0 ?_ hQ)
        have q2 := hb.resolve_left q
        simp only [i_lt, i_le] at *; omega
    · show f_X9_rank σ x Q
      unfold f_X9_rank
      refine q2 _ ?_
      rw [t_isBoat (σ := sa (sa (si σ 23 0) 41 f41) 42 f42) (n := n) e3, if_pos hb]
      exact br1 rfl hQ
  · have hb := b_ok hj (by omega : n < 2 ^ 31)
    obtain ⟨f41, f42, q1, q2⟩ := p4 (si (sa (sa (sa σ 21 f21) 22 f22) 23 f23) 23 0) rfl rfl rfl rfl rfl
    refine ⟨nI (π j), sa (sa (sa σ 21 f21) 22 f22) 23 f23, fun Q hQ => ?_, sa (sa (si (sa (sa (sa σ 21 f21) 22 f22) 23 f23) 23 0) 41 f41) 42 f42, fun Q hQ => ?_, INVX.of h⟩
    · show f_X8_rank σ (nI j) Q
      unfold f_X8_rank
      rw [e2]
      refine br0 (nI_pos (by omega)) (br1 (nI_lt hj (by omega)) (p3 _ ⟨v_in (by omega) (by decide), ?_⟩))
      rw [cl (by omega : j < 2 ^ 31)]
      show Q (f23 j) _
      rw [(p1 j hj).2]
      exact hQ
    · show f_X9_rank (sa (sa (sa σ 21 f21) 22 f22) 23 f23) (nI j) Q
      unfold f_X9_rank
      refine q2 _ ?_
      rw [t_isBoat (σ := sa (sa (si (sa (sa (sa σ 21 f21) 22 f22) 23 f23) 23 0) 41 f41) 42 f42) (n := n) e3, if_neg hb]
      refine br0 (by decide) ⟨v_in (by omega) (by decide), ?_⟩
      rw [cl (by omega : j < 2 ^ 31)]
      show Q (f42 j) _
      rw [q1 j hj]
      exact hQ
