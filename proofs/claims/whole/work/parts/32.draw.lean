-- draw
theorem low32 (z : Int64) : ∃ m, m < 2 ^ 32 ∧ z &&& 4294967295 = lN m := by
  refine ⟨(z &&& 4294967295).toBitVec.toNat, ?_, ?_⟩
  · rw [Int64.toBitVec_and, BitVec.toNat_and]
    have : z.toBitVec.toNat &&& (4294967295 : Int64).toBitVec.toNat ≤ (4294967295 : Int64).toBitVec.toNat := Nat.and_le_right
    have e : (4294967295 : Int64).toBitVec.toNat = 4294967295 := by decide
    rw [e] at this ⊢
    omega
  · apply Int64.toBitVec_inj.mp
    unfold lN
    rw [Int64.toBitVec_ofNat']
    simp
def dq (x l : Int32) : Int32 := ((x.toInt64 &&& (4294967295 : Int64)) - (x.toInt64 &&& (4294967295 : Int64)) / (l + (1 : Int32)).toInt64 * (l + (1 : Int32)).toInt64).toInt32
theorem dq_rng (x : Int32) {m : Nat} (hm : m ≤ 15) : ∃ j, j ≤ m ∧ dq x (nI m) = nI j := by
  obtain ⟨k, hk, e⟩ := low32 x.toInt64
  refine ⟨k % (m + 1), ?_, ?_⟩
  · have := Nat.mod_lt k (by omega : 0 < m + 1)
    omega
  · unfold dq
    rw [e, nI_1, nI_l (by omega), pk_lRem (by omega) (by omega) (by omega), lN_i]
theorem dq_nz {m : Nat} (hm : m ≤ 15) : ¬ (nI m + (1 : Int32)).toInt64 = 0 := by
  rw [nI_1, nI_l (by omega), show (0 : Int64) = lN 0 from rfl, lN_eq (by omega) (by omega)]
  omega
def swp (f : Nat → Int32) (a b : Nat) : Nat → Int32 := upd (upd f a (f b)) b (f a)
def drw (nz : Nat → Int32) (n : Nat) : Nat → (Nat → Int32) → (Nat → Int32)
  | 0, f => f
  | m + 1, f => drw nz n m (swp f (m + 1) (dq (nz (n - (m + 1))) (nI (m + 1))).toNatClampNeg)
theorem s_change {σ : St} {a b : Nat} (ha : a < 16) (hb : b < 16) {Q : St → Prop} : f_X4_changePlaces σ (nI a) (nI b) Q ↔ Q (sa σ 27 (swp (ga σ 27) a b)) := by
  unfold f_X4_changePlaces
  rw [s_isBoatNumber, if_neg (bn_ok ha), s_isBoatNumber, if_neg (bn_ok hb), cl (by omega : a < 2 ^ 31), cl (by omega : b < 2 ^ 31), sa_sa]
  have h1 := v_in ha (by decide : 16 < 2 ^ 31)
  have h2 := v_in hb (by decide : 16 < 2 ^ 31)
  simp only [h1, h2, true_and, i01, not_false_iff, true_imp_iff, false_imp_iff, and_true]
  exact Iff.rfl
theorem l_drawX {σ : St} {n : Nat} (hn : n ≤ 15) {Q : Int32 → St → Prop} : ∀ (m k : Nat) (f : Nat → Int32), m ≤ n → m < k → Q (nI (n + 1)) (si (si (sa σ 27 (drw (ga σ 26) n m f)) 21 0) 22 (nI (n + 1))) → f_X4_drawRow_46L Q k (sa σ 27 f) (nI (n + 1)) (nI m) := by
  intro m
  induction m with
  | zero =>
    intro k f hm hk h
    obtain ⟨k, rfl, -⟩ := suc_of hk
    show f_X4_drawRow_46 Q _ _ _ _
    unfold f_X4_drawRow_46
    exact br1 (by decide) h
  | succ m ih =>
    intro k f hm hk h
    obtain ⟨k, rfl, -⟩ := suc_of hk
    show f_X4_drawRow_46 Q _ _ _ _
    unfold f_X4_drawRow_46
    rw [nI_pred, pk_sub hm, cl (by omega : n - (m + 1) < 2 ^ 31)]
    refine br0 (nI_nle (by omega) (by omega)) ⟨v_in (by omega) (by decide), dq_nz (by omega), ?_⟩
    show f_X4_changePlaces (sa σ 27 f) (nI (m + 1)) (dq (ga σ 26 (n - (m + 1))) (nI (m + 1))) _
    obtain ⟨j, hj, e⟩ := dq_rng (ga σ 26 (n - (m + 1))) (m := m + 1) (by omega)
    unfold drw at h
    rw [e, cl (by omega : j < 2 ^ 31)] at h
    rw [e, s_change (by omega) (by omega), sa_sa, pk_m1]
    exact ih k _ (by omega) (by omega) h
theorem l_drawM {σ : St} {n : Nat} (hn : n ≤ 15) (e41 : gi σ 41 = nI (n + 1)) {Q : Int32 → St → Prop} : ∀ (m k : Nat) (f : Nat → Int32), m ≤ n → m < k → Q (nI (n + 1)) (si (sa σ 46 (drw (ga σ 45) n m f)) 44 0) → f_X9_draw_67L Q k (sa σ 46 f) (nI (n - m)) (nI m) := by
  intro m
  induction m with
  | zero =>
    intro k f hm hk h
    obtain ⟨k, rfl, -⟩ := suc_of hk
    show f_X9_draw_67 Q _ _ _ _
    unfold f_X9_draw_67
    refine br1 (by decide) ?_
    rw [← e41] at h
    exact h
  | succ m ih =>
    intro k f hm hk h
    obtain ⟨k, rfl, -⟩ := suc_of hk
    show f_X9_draw_67 Q _ _ _ _
    unfold f_X9_draw_67
    rw [cl (by omega : n - (m + 1) < 2 ^ 31)]
    refine br0 (nI_nle (by omega) (by omega)) ⟨v_in (by omega) (by decide), dq_nz (by omega), v_in (by omega) (by decide), ?_⟩
    obtain ⟨j, hj, e⟩ := dq_rng (ga σ 45 (n - (m + 1))) (m := m + 1) (by omega)
    unfold drw at h
    rw [e, cl (by omega : j < 2 ^ 31)] at h
    have hd : ((((ga (sa σ 46 f) 45 (n - (m + 1))).toInt64 &&& (4294967295 : Int64)) - ((ga (sa σ 46 f) 45 (n - (m + 1))).toInt64 &&& (4294967295 : Int64)) / (nI (m + 1) + (1 : Int32)).toInt64 * (nI (m + 1) + (1 : Int32)).toInt64).toInt32) = nI j := e
    rw [hd, cl (by omega : j < 2 ^ 31), cl (by omega : m + 1 < 2 ^ 31), sa_sa, sa_sa, pk_m1, nI_1, show n - (m + 1) + 1 = n - m by omega]
    refine ⟨v_in (by omega) (by decide), v_in (by omega) (by decide), v_in (by omega) (by decide), ?_⟩
    exact ih k _ (by omega) (by omega) h
def idf (f : Nat → Int32) (c : Nat) : Nat → Int32 := fun k => if k < c then nI k else f k
theorem idf_0 (f : Nat → Int32) : idf f 0 = f := by funext k; simp [idf]
theorem idf_up (f : Nat → Int32) (c : Nat) : upd (idf f c) c (nI c) = idf f (c + 1) := by
  funext k
  by_cases h : k = c
  · subst h; rw [upd_at]; unfold idf; rw [if_pos (by omega)]
  · rw [pk_un h]
    unfold idf
    by_cases h3 : k < c
    · rw [if_pos h3, if_pos (by omega)]
    · rw [if_neg h3, if_neg (by omega)]
theorem l_drawX0 {σ : St} {n : Nat} (hn : n ≤ 15) {Q : Int32 → St → Prop} (h : Q (nI (n + 1)) (si (si (sa σ 27 (drw (ga σ 26) n n (idf (ga σ 27) (n + 1)))) 21 0) 22 (nI (n + 1)))) : ∀ k m c : Nat, c + k = n + 1 → k < m → f_X4_drawRow_24L Q m (sa σ 27 (idf (ga σ 27) c)) (nI (n + 1)) (nI c) := by
  intro k
  induction k with
  | zero =>
    intro m c hc hm
    obtain ⟨m, rfl, -⟩ := suc_of hm
    obtain rfl : c = n + 1 := by omega
    show f_X4_drawRow_24 Q _ _ _ _
    unfold f_X4_drawRow_24
    refine br1 (nI_le (by omega) (by omega)) ?_
    rw [nI_pred]
    exact l_drawX hn n FU _ (by omega) (by rw [FU_eq]; omega) h
  | succ k ih =>
    intro m c hc hm
    obtain ⟨m, rfl, -⟩ := suc_of hm
    show f_X4_drawRow_24 Q _ _ _ _
    unfold f_X4_drawRow_24
    refine br0 (nI_ge (by omega) (by omega)) ⟨v_in (by omega) (by decide), ?_⟩
    rw [sa_sa, cl (by omega : c < 2 ^ 31), nI_1]
    have ih := ih m (c + 1) (by omega) (by omega)
    rw [← idf_up] at ih
    exact ih
theorem l_drawM0 {σ : St} {n : Nat} (hn : n ≤ 15) (e41 : gi σ 41 = nI (n + 1)) {Q : Int32 → St → Prop} (h : Q (nI (n + 1)) (si (sa σ 46 (drw (ga σ 45) n n (idf (ga σ 46) (n + 1)))) 44 0)) : ∀ k m c : Nat, c + k = n + 1 → k < m → f_X9_draw_37L Q m (sa σ 46 (idf (ga σ 46) c)) (nI c) := by
  intro k
  induction k with
  | zero =>
    intro m c hc hm
    obtain ⟨m, rfl, -⟩ := suc_of hm
    obtain rfl : c = n + 1 := by omega
    show f_X9_draw_37 Q _ _ _
    unfold f_X9_draw_37
    rw [gi_sa, e41]
    refine br1 (nI_le (by omega) (by omega)) ?_
    rw [nI_pred]
    have := l_drawM hn e41 n FU (idf (ga σ 46) (n + 1)) (by omega) (by rw [FU_eq]; omega) h
    rw [show n - n = 0 by omega] at this
    exact this
  | succ k ih =>
    intro m c hc hm
    obtain ⟨m, rfl, -⟩ := suc_of hm
    show f_X9_draw_37 Q _ _ _
    unfold f_X9_draw_37
    rw [gi_sa, e41]
    refine br0 (nI_ge (by omega) (by omega)) ⟨v_in (by omega) (by decide), ?_⟩
    rw [sa_sa, cl (by omega : c < 2 ^ 31), nI_1]
    have ih := ih m (c + 1) (by omega) (by omega)
    rw [← idf_up] at ih
    exact ih
theorem pr_draw {σ : St} (h : INVX σ) : PN σ (fun Q => f_X8_draw σ Q) (fun s Q => f_X9_draw s Q) := by
  obtain ⟨w, n, r, tp, h⟩ := h
  obtain ⟨hi, hc, ht, hr, ⟨e1, e2, e3, e4⟩, hrc, hf, ⟨k, hk, l1, l2⟩, l3, l4, l5⟩ := id h
  have e41 : gi (si σ 23 0) 41 = nI n := e3
  have e44 : gi (si σ 23 0) 44 = nI k := l2
  by_cases hn : n = 0
  · subst hn
    refine ⟨-1, σ, fun Q hQ => ?_, si σ 23 0, fun Q hQ => br1 e41 hQ, INVX.of h⟩
    show f_X8_draw σ Q
    unfold f_X8_draw f_X4_drawRow
    rw [e2]
    exact br1 (by decide) hQ
  · obtain ⟨m, rfl⟩ : ∃ m, n = m + 1 := ⟨n - 1, by omega⟩
    have hx : ∀ Q : Int32 → St → Prop, ((nI m ≤ nI k → f_X4_drawRow_24L (fun r s => Q r s) FU σ (nI (m + 1)) (0 : Int32)) ∧ (¬ nI m ≤ nI k → Q (-1) σ)) → f_X8_draw σ Q := by
      intro Q hq
      unfold f_X8_draw f_X4_drawRow
      rw [e2, l1, nI_pred]
      exact br0 (nI_nle (by omega) (by omega)) (br0 (nI_nlt (b := m + 1) (a := 16) (by omega) (by decide)) hq)
    by_cases hmk : m ≤ k
    · have hle := nI_le hmk (by omega : k < 2 ^ 31)
      refine ⟨nI (m + 1), si (si (sa σ 27 (drw (ga σ 26) m m (idf (ga σ 27) (m + 1)))) 21 0) 22 (nI (m + 1)), fun Q hQ => hx Q (br1 hle ?_), si (sa (si (si (si (si (sa σ 27 (drw (ga σ 26) m m (idf (ga σ 27) (m + 1)))) 21 0) 22 (nI (m + 1))) 23 0) 45 (nI (m + 1))) 46 (drw (ga σ 45) m m (idf (ga σ 46) (m + 1)))) 44 0, fun Q hQ => ?_, ?_⟩
      · have := l_drawX0 (σ := σ) (n := m) (by omega) hQ (m + 1) FU 0 (by omega) (by rw [FU_eq]; omega)
        rw [idf_0, sa_self] at this
        exact this
      · show f_X9_draw (si (si (sa σ 27 (drw (ga σ 26) m m (idf (ga σ 27) (m + 1)))) 21 0) 22 (nI (m + 1))) Q
        unfold f_X9_draw
        have q41 : gi (si (si (si (sa σ 27 (drw (ga σ 26) m m (idf (ga σ 27) (m + 1)))) 21 0) 22 (nI (m + 1))) 23 0) 41 = nI (m + 1) := e3
        have q44 : gi (si (si (si (sa σ 27 (drw (ga σ 26) m m (idf (ga σ 27) (m + 1)))) 21 0) 22 (nI (m + 1))) 23 0) 44 = nI k := l2
        rw [q41, q44, nI_pred]
        refine br0 (nI_ne0 (by omega) (by omega)) (br1 hle ?_)
        have := l_drawM0 (σ := si (si (si (si (sa σ 27 (drw (ga σ 26) m m (idf (ga σ 27) (m + 1)))) 21 0) 22 (nI (m + 1))) 23 0) 45 (nI (m + 1))) (n := m) (by omega) q41 hQ (m + 1) FU 0 (by omega) (by rw [FU_eq]; omega)
        rw [idf_0, sa_self] at this
        exact this
      · refine INVX.of (w := w) (n := m + 1) (r := r) (t := tp) ⟨hi, hc, ht, hr, ⟨e1, e2, e3, e4⟩, hrc, hf, ⟨0, by omega, rfl, rfl⟩, ⟨m + 1, by omega, rfl, rfl⟩, l4, ?_⟩
        show drw (ga σ 26) m m (idf (ga σ 27) (m + 1)) = drw (ga σ 45) m m (idf (ga σ 46) (m + 1))
        rw [l4, l5]
    · have hle := nI_ge (by omega : k < m) (by omega)
      refine ⟨-1, σ, fun Q hQ => hx Q (br0 hle hQ), si σ 23 0, fun Q hQ => ?_, INVX.of h⟩
      show f_X9_draw σ Q
      unfold f_X9_draw
      rw [e41, e44, nI_pred]
      exact br0 (nI_ne0 (by omega) (by omega)) (br0 hle hQ)
