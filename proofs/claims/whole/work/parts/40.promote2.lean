theorem l_mU {σ : St} {π : Nat → Nat} {s : Nat → Int32} {n : Nat} (hn : n ≤ 16) (e41 : gi σ 41 = nI n) (h01 : ∀ j, j < n → s j = 0 ∨ s j = 1) (e : ∀ k, k < n → π k < n ∧ ga σ 42 k = nI (π k) ∧ ga σ 44 (π k) = s (π k)) {v : Int32} {Q : Int32 → St → Prop} : ∀ (f m k l : Nat) (g : Nat → Int32), k + f = n → f < m → l ≤ 16 → Q v (sa σ 43 (pcU s π 1 0 f k l g)) → f_X9_promote_192L Q m (sa σ 43 g) v (nI l) (nI k) := by
  intro f
  induction f with
  | zero =>
    intro m k l g hk hm hl h
    obtain ⟨m, rfl, -⟩ := suc_of hm
    show f_X9_promote_192 Q _ _ _ _ _
    unfold f_X9_promote_192
    rw [gi_sa, e41]
    exact br1 (nI_le (by omega) (by omega)) h
  | succ f ih =>
    intro m k l g hk hm hl h
    obtain ⟨m, rfl, -⟩ := suc_of hm
    show f_X9_promote_192 Q _ _ _ _ _
    unfold f_X9_promote_192
    rw [gi_sa, e41]
    unfold pcU at h
    refine br0 (nI_ge (by omega) (by omega)) ?_
    by_cases h0 : l = 0
    · subst h0
      rw [if_pos rfl] at h
      exact br1 (by decide) h
    · rw [if_neg h0] at h
      obtain ⟨e1, e2, e3⟩ := e k (by omega)
      have e2' : ga (sa σ 43 g) 42 k = nI (π k) := e2
      have e3' : ga (sa σ 43 g) 44 (π k) = s (π k) := e3
      have vk := v_in (by omega : k < 16) (by decide : 16 < 2 ^ 31)
      have vp := v_in (by omega : π k < 16) (by decide : 16 < 2 ^ 31)
      rw [cl (by omega : k < 2 ^ 31), e2', cl (by omega : π k < 2 ^ 31), e3', sa_sa, nI_1]
      refine br0 (nI_nle (by omega) (by omega)) ⟨vk, vp, ?_⟩
      obtain ⟨l', rfl⟩ : ∃ l', l = l' + 1 := ⟨l - 1, by omega⟩
      rw [pk_m1]
      by_cases z : s (π k) = 1
      · rw [if_pos z] at h
        exact br1 z ⟨vk, vp, ih m (k + 1) l' _ (by omega) (by omega) (by omega) h⟩
      · rw [if_neg z] at h
        exact br0 z (ih m (k + 1) (l' + 1) g (by omega) (by omega) hl h)
theorem l_mD {σ : St} {π : Nat → Nat} {s : Nat → Int32} {n : Nat} (hn : n ≤ 16) (e : ∀ k, k < n → π k < n ∧ ga σ 42 k = nI (π k) ∧ ga σ 44 (π k) = s (π k)) {v l5 : Int32} {Q : Int32 → St → Prop} : ∀ (k m l : Nat) (g : Nat → Int32), k ≤ n → k < m → l ≤ 16 → f_X9_promote_192L Q FU (sa σ 43 (pcD s π 0 1 k l g)) v l5 (0 : Int32) → f_X9_promote_139L Q m (sa σ 43 g) v (nI l) l5 (nI k - 1) := by
  intro k
  induction k with
  | zero =>
    intro m l g hk hm hl h
    obtain ⟨m, rfl, -⟩ := suc_of hm
    show f_X9_promote_139 Q _ _ _ _ _ _
    unfold f_X9_promote_139
    exact br1 (by decide) h
  | succ k ih =>
    intro m l g hk hm hl h
    obtain ⟨m, rfl, -⟩ := suc_of hm
    show f_X9_promote_139 Q _ _ _ _ _ _
    unfold f_X9_promote_139
    unfold pcD at h
    rw [nI_pred]
    refine br0 (nI_pos (by omega)) ?_
    by_cases h0 : l = 0
    · subst h0
      rw [if_pos rfl] at h
      exact br1 (by decide) h
    · rw [if_neg h0] at h
      obtain ⟨e1, e2, e3⟩ := e k (by omega)
      have e2' : ga (sa σ 43 g) 42 k = nI (π k) := e2
      have e3' : ga (sa σ 43 g) 44 (π k) = s (π k) := e3
      have vk := v_in (by omega : k < 16) (by decide : 16 < 2 ^ 31)
      have vp := v_in (by omega : π k < 16) (by decide : 16 < 2 ^ 31)
      rw [cl (by omega : k < 2 ^ 31), e2', cl (by omega : π k < 2 ^ 31), e3', sa_sa, m1_sub (nI k)]
      refine br0 (nI_nle (by omega) (by omega)) ⟨vk, vp, ?_⟩
      obtain ⟨l', rfl⟩ : ∃ l', l = l' + 1 := ⟨l - 1, by omega⟩
      rw [pk_m1]
      by_cases z : s (π k) = 0
      · rw [if_pos z] at h
        exact br1 z ⟨vk, vp, ih m l' _ (by omega) (by omega) (by omega) h⟩
      · rw [if_neg z] at h
        exact br0 z (ih m (l' + 1) g (by omega) (by omega) hl h)
def cpf (s f : Nat → Int32) (c : Nat) : Nat → Int32 := fun k => if k < c then s k else f k
theorem cpf_0 (s f : Nat → Int32) : cpf s f 0 = f := by funext k; simp [cpf]
theorem cpf_in (s f : Nat → Int32) {c k : Nat} (h : k < c) : cpf s f c k = s k := by unfold cpf; rw [if_pos h]
theorem cpf_up (s f : Nat → Int32) (c : Nat) : upd (cpf s f c) c (s c) = cpf s f (c + 1) := by
  funext k
  by_cases h : k = c
  · subst h; rw [upd_at]; unfold cpf; rw [if_pos (by omega)]
  · rw [pk_un h]
    unfold cpf
    by_cases h3 : k < c
    · rw [if_pos h3, if_pos (by omega)]
    · rw [if_neg h3, if_neg (by omega)]
theorem l_mW {σ : St} {n : Nat} (hn : n ≤ 16) (e41 : gi σ 41 = nI n) {a b c : Int32} {Q : Int32 → St → Prop} (h : f_X9_promote_139L Q FU (sa σ 44 (cpf (ga σ 43) (ga σ 44) n)) a b c (nI n - 1)) : ∀ k m i : Nat, i + k = n → k < m → f_X9_promote_102L Q m (sa σ 44 (cpf (ga σ 43) (ga σ 44) i)) a b c (nI i) := by
  intro k
  induction k with
  | zero =>
    intro m i hi hm
    obtain ⟨m, rfl, -⟩ := suc_of hm
    obtain rfl : i = n := by omega
    show f_X9_promote_102 Q _ _ _ _ _ _
    unfold f_X9_promote_102
    rw [gi_sa, e41]
    exact br1 (nI_le (by omega) (by omega)) h
  | succ k ih =>
    intro m i hi hm
    obtain ⟨m, rfl, -⟩ := suc_of hm
    show f_X9_promote_102 Q _ _ _ _ _ _
    unfold f_X9_promote_102
    have e : ga (sa σ 44 (cpf (ga σ 43) (ga σ 44) i)) 43 i = ga σ 43 i := rfl
    rw [gi_sa, e41, cl (by omega : i < 2 ^ 31), e, sa_sa, nI_1]
    have vi := v_in (by omega : i < 16) (by decide : 16 < 2 ^ 31)
    have ih := ih m (i + 1) (by omega) (by omega)
    rw [← cpf_up] at ih
    exact br0 (nI_ge (by omega) (by omega)) ⟨vi, vi, ih⟩
theorem t_promote {σ : St} {π : Nat → Nat} {n q : Nat} (hn : n ≤ 16) (hq : q ≤ 16) (e41 : gi σ 41 = nI n) (h01 : ∀ j, j < n → ga σ 43 j = 0 ∨ ga σ 43 j = 1) (e : ∀ k, k < n → π k < n ∧ ga σ 42 k = nI (π k)) {Q : Int32 → St → Prop} (h : Q (nI (mvN (ga σ 43) n q)) (sa (sa σ 44 (cpf (ga σ 43) (ga σ 44) n)) 43 (pcU (ga σ 43) π 1 0 n 0 (mvN (ga σ 43) n q) (pcD (ga σ 43) π 0 1 n (mvN (ga σ 43) n q) (ga σ 43))))) : f_X9_promote_38L Q FU σ (nI q) (0 : Int32) (0 : Int32) := by
  have hs : sec (ga σ 43) n ≤ n := cntB_le _ _
  have hm : mvN (ga σ 43) n q ≤ 16 := by unfold mvN; omega
  have h2 : f_X9_promote_102L Q FU σ (nI (mvN (ga σ 43) n q)) (nI (mvN (ga σ 43) n q)) (nI (mvN (ga σ 43) n q)) (0 : Int32) := by
    have := l_mW (σ := σ) hn e41 (a := nI (mvN (ga σ 43) n q)) (b := nI (mvN (ga σ 43) n q)) (c := nI (mvN (ga σ 43) n q)) (Q := Q) ?_ n FU 0 (by omega) (by rw [FU_eq]; omega)
    · rw [cpf_0, sa_self] at this
      exact this
    · have h3 := l_mD (σ := sa σ 44 (cpf (ga σ 43) (ga σ 44) n)) (π := π) (s := ga σ 43) (n := n) hn (fun k hk => ⟨(e k hk).1, (e k hk).2, cpf_in _ _ (e k hk).1⟩) (v := nI (mvN (ga σ 43) n q)) (l5 := nI (mvN (ga σ 43) n q)) (Q := Q) n FU (mvN (ga σ 43) n q) (ga σ 43) (Nat.le_refl _) (by rw [FU_eq]; omega) hm ?_
      · have e43 : sa (sa σ 44 (cpf (ga σ 43) (ga σ 44) n)) 43 (ga σ 43) = sa σ 44 (cpf (ga σ 43) (ga σ 44) n) := sa_self _ 43
        rw [e43] at h3
        exact h3
      · exact l_mU (σ := sa σ 44 (cpf (ga σ 43) (ga σ 44) n)) (π := π) (s := ga σ 43) (n := n) hn e41 h01 (fun k hk => ⟨(e k hk).1, (e k hk).2, cpf_in _ _ (e k hk).1⟩) n FU 0 _ _ (by omega) (by rw [FU_eq]; omega) hm h
  have key : ∀ k m c : Nat, c + k = n → k < m → f_X9_promote_38L Q m σ (nI q) (nI (sec (ga σ 43) c)) (nI c) := by
    intro k
    induction k with
    | zero =>
      intro m c hc hm
      obtain ⟨m, rfl, -⟩ := suc_of hm
      obtain rfl : c = n := by omega
      show f_X9_promote_38 Q _ _ _ _ _
      unfold f_X9_promote_38 f_X9_promote_71
      rw [e41, pk_sub hs]
      refine br1 (nI_le (by omega) (by omega)) ?_
      unfold mvN at h2
      by_cases z : sec (ga σ 43) c ≤ q
      · refine br1 (nI_le z (by omega)) ?_
        by_cases y : c - sec (ga σ 43) c ≤ sec (ga σ 43) c
        · rw [show min (min (c - sec (ga σ 43) c) (sec (ga σ 43) c)) q = c - sec (ga σ 43) c by omega] at h2
          exact br1 (nI_le y (by omega)) h2
        · rw [show min (min (c - sec (ga σ 43) c) (sec (ga σ 43) c)) q = sec (ga σ 43) c by omega] at h2
          exact br0 (nI_ge (by omega) (by omega)) h2
      · refine br0 (nI_ge (by omega) (by omega)) ?_
        by_cases y : c - sec (ga σ 43) c ≤ q
        · rw [show min (min (c - sec (ga σ 43) c) (sec (ga σ 43) c)) q = c - sec (ga σ 43) c by omega] at h2
          exact br1 (nI_le y (by omega)) h2
        · rw [show min (min (c - sec (ga σ 43) c) (sec (ga σ 43) c)) q = q by omega] at h2
          exact br0 (nI_ge (by omega) (by omega)) h2
    | succ k ih =>
      intro m c hc hm
      obtain ⟨m, rfl, -⟩ := suc_of hm
      show f_X9_promote_38 Q _ _ _ _ _
      unfold f_X9_promote_38
      rw [e41, cl (by omega : c < 2 ^ 31), nI_1 c]
      have ih := ih m (c + 1) (by omega) (by omega)
      have es : sec (ga σ 43) (c + 1) = sec (ga σ 43) c + (if decide (ga σ 43 c = 1) = true then 1 else 0) := rfl
      rw [es] at ih
      refine br0 (nI_ge (by omega) (by omega)) ⟨v_in (by omega) (by decide), ?_⟩
      rcases h01 c (by omega) with z | z
      · rw [if_neg (by rw [z]; decide)] at ih
        rw [z, Int32.add_zero]
        exact ih
      · rw [if_pos (by rw [z]; decide)] at ih
        rw [z, nI_1]
        exact ih
  exact key n FU 0 (by omega) (by rw [FU_eq]; omega)
theorem sec_eq {f g : Nat → Int32} {n : Nat} (h : ∀ j, j < n → f j = g j) : sec f n = sec g n := cntB_congr n (fun j hj => by rw [h j hj])
theorem pkU_eq {s u : Nat → Int32} {π : Nat → Nat} {v : Int32} {n : Nat} (hp : ∀ k, k < n → π k < n) (h : ∀ j, j < n → s j = u j) : ∀ f k l j, f + k ≤ n → pkU s π v f k l j = pkU u π v f k l j := by
  intro f
  induction f with
  | zero => intro k l j _; rfl
  | succ f ih =>
    intro k l j hk
    unfold pkU
    rw [h (π k) (hp k (by omega)), ih (k + 1) (l - 1) j (by omega), ih (k + 1) l j (by omega)]
theorem pkD_eq {s u : Nat → Int32} {π : Nat → Nat} {v : Int32} {n : Nat} (hp : ∀ k, k < n → π k < n) (h : ∀ j, j < n → s j = u j) : ∀ k l j, k ≤ n → pkD s π v k l j = pkD u π v k l j := by
  intro k
  induction k with
  | zero => intro l j _; rfl
  | succ k ih =>
    intro l j hk
    unfold pkD
    rw [h (π k) (hp k (by omega)), ih (l - 1) j (by omega), ih l j (by omega)]
theorem flip_ok {f u c : Nat → Int32} {π : Nat → Nat} {n m : Nat} (hn : n ≤ 16) (hp : ∀ k, k < n → π k < n) (h : ∀ j, j < 16 → f j = u j ∧ (f j = 0 ∨ f j = 1) ∧ (n ≤ j → f j = 0)) (h0 : ∀ j, j < 16 → c j = 0) : ∀ j, j < 16 →
    flf f (pcD f π 0 1 n m (pcU f π 1 1 n 0 m c)) 16 j = pcU u π 1 0 n 0 m (pcD u π 0 1 n m u) j ∧ (flf f (pcD f π 0 1 n m (pcU f π 1 1 n 0 m c)) 16 j = 0 ∨ flf f (pcD f π 0 1 n m (pcU f π 1 1 n 0 m c)) 16 j = 1) ∧ (n ≤ j → flf f (pcD f π 0 1 n m (pcU f π 1 1 n 0 m c)) 16 j = 0) := by
  intro j hj
  obtain ⟨a1, a2, a3⟩ := h j hj
  have eU := pkU_eq (v := 1) hp (fun j hj => (h j (by omega)).1) n 0 m j (by omega)
  have eD := pkD_eq (v := 0) hp (fun j hj => (h j (by omega)).1) n m j (Nat.le_refl _)
  unfold flf
  rw [if_pos hj, pcD_eq, pcU_eq, pcU_eq, pcD_eq, h0 j hj, ← eU, ← eD, ← a1]
  have sU := pkU_s (s := f) (v := 1) (j := j) hp n 0 m (by omega)
  have sD := pkD_s (s := f) (v := 0) (j := j) hp n m (Nat.le_refl _)
  cases hU : pkU f π 1 n 0 m j <;> cases hD : pkD f π 0 n m j
  · rcases a2 with z | z
    · simp [z]
    · simp [z]
      by_cases q : n ≤ j
      · exact absurd ((a3 q).symm.trans z) (by decide)
      · omega
  · obtain ⟨s1, s2⟩ := sD hD
    simp [s1]
    omega
  · obtain ⟨s1, s2⟩ := sU hU
    simp [s1]
  · obtain ⟨s1, s2⟩ := sU hU
    obtain ⟨s3, s4⟩ := sD hD
    exact absurd (s3.symm.trans s1) (by decide)
theorem pr_promote {σ : St} (h : INVX σ) (x : Int32) : PT σ (f_X8_promote σ x) (fun s => f_X9_promote s x) [(0, 0), (2, 1)] := by
  obtain ⟨w, n, r, tp, h⟩ := h
  obtain ⟨f21, f22, f23, π, p1, p2, p3, p4⟩ := ranks h
  obtain ⟨hi, hc, ht, hr, ⟨e1, e2, e3, e4⟩, hrc, ⟨g1, g2⟩, hl⟩ := id h
  by_cases hb : x < 0 ∨ ¬ x ≤ 16
  · refine ⟨2, 1, 0, σ, by decide, fun Q X _ hX => ?_, fun g => ⟨0, si (si (so σ g) 23 0) 23 1, fun Q hQ => ?_, rfl, fun hh => absurd hh (by decide), rfl, INVX.of h⟩⟩
    · unfold f_X8_promote
      rw [s_needFleet, if_pos hb]
      exact hX (by decide)
    · show f_X9_promote (so σ g) x Q
      unfold f_X9_promote f_X9_promote_16
      rw [t_bad.1]
      by_cases q : x < 0
      · exact br1 q (br0 (by decide) hQ)
      · exact br0 q (br0 (hb.resolve_left q) (br0 (by decide) hQ))
  · obtain ⟨q, hq, rfl⟩ := c_fleet hb
    have hx0 : ¬ nI q < 0 := nI_pos (by omega)
    have hx16 : nI q ≤ 16 := nI_le (b := 16) hq (by decide)
    have em : mvN (ga σ 43) n q = mvN (ga σ 24) n q := by
      unfold mvN
      rw [sec_eq (f := ga σ 43) (g := ga σ 24) (fun j hj => (g1 j (by omega)).1.symm)]
    refine ⟨0, 0, nI (mvN (ga σ 24) n q), sa (sa (sa (sa (sa σ 21 f21) 22 f22) 23 f23) 24 (flf (ga σ 24) (pcD (ga σ 24) π 0 1 n (mvN (ga σ 24) n q) (pcU (ga σ 24) π 1 1 n 0 (mvN (ga σ 24) n q) (ga σ 25))) 16)) 25 (znf (pcD (ga σ 24) π 0 1 n (mvN (ga σ 24) n q) (pcU (ga σ 24) π 1 1 n 0 (mvN (ga σ 24) n q) (ga σ 25))) 16), by decide, fun Q X hQ _ => ?_, ?_⟩
    · unfold f_X8_promote
      rw [s_needFleet, if_neg hb, e2]
      refine p3 _ ?_
      have e18 : gi (sa (sa (sa σ 21 f21) 22 f22) 23 f23) 18 = nI n := e2
      rw [e18]
      exact s_promote (σ := sa (sa (sa σ 21 f21) 22 f22) 23 f23) (π := π) e1 hq (fun j hj => (g1 j hj).2.1) p1 (hQ rfl)
    · generalize hT : sa (sa (sa (sa (sa σ 21 f21) 22 f22) 23 f23) 24 (flf (ga σ 24) (pcD (ga σ 24) π 0 1 n (mvN (ga σ 24) n q) (pcU (ga σ 24) π 1 1 n 0 (mvN (ga σ 24) n q) (ga σ 25))) 16)) 25 (znf (pcD (ga σ 24) π 0 1 n (mvN (ga σ 24) n q) (pcU (ga σ 24) π 1 1 n 0 (mvN (ga σ 24) n q) (ga σ 25))) 16) = T
      intro g
      obtain ⟨f41, f42, q1, q2⟩ := p4 (si (so T g) 23 0) (by rw [← hT]; rfl) (by rw [← hT]; rfl) (by rw [← hT]; rfl) (by rw [← hT]; rfl) (by rw [← hT]; rfl)
      have e43 : ga T 43 = ga σ 43 := by rw [← hT]; rfl
      have e41 : gi T 41 = nI n := by rw [← hT]; exact e3
      refine ⟨nI (mvN (ga σ 43) n q), sa (sa (sa (sa (si (so T g) 23 0) 41 f41) 42 f42) 44 (cpf (ga σ 43) (ga T 44) n)) 43 (pcU (ga σ 43) π 1 0 n 0 (mvN (ga σ 43) n q) (pcD (ga σ 43) π 0 1 n (mvN (ga σ 43) n q) (ga σ 43))), fun Q hQ => ?_, rfl, fun _ => by rw [em], rfl, ?_⟩
      · show f_X9_promote (so T g) (nI q) Q
        unfold f_X9_promote
        rw [t_bad.2]
        refine br0 hx0 (br1 hx16 (br1 rfl (q2 _ ?_)))
        have e43' : ga (sa (sa (si (so T g) 23 0) 41 f41) 42 f42) 43 = ga σ 43 := e43
        refine t_promote (σ := sa (sa (si (so T g) 23 0) 41 f41) 42 f42) (π := π) e1 hq e41 (fun j hj => ?_) (fun k hk => ⟨(p1 k hk).1, q1 k hk⟩) ?_
        · rw [e43', ← (g1 j (by omega)).1]; exact (g1 j (by omega)).2.1
        · rw [e43']; exact hQ
      · subst hT
        rw [em]
        refine INVX.of (w := w) (n := n) (r := r) (t := tp) ⟨hi, hc, ht, hr, ⟨e1, e2, e3, e4⟩, hrc, ⟨flip_ok e1 (fun k hk => (p1 k hk).1) g1 g2, fun j hj => ?_⟩, hl⟩
        show znf _ 16 j = 0
        unfold znf
        rw [if_pos hj]
