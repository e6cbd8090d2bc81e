theorem sa4 (σ : St) {k l : Nat} (h : k ≠ l) (a b a' b' : Nat → Int32) : sa (sa (sa (sa σ k a) l b) k a') l b' = sa (sa σ k a') l b' := by
  rw [sa_comm (sa σ k a) h.symm b a', sa_sa, sa_sa]
-- end
def enf (p f : Nat → Int32) (x : Int32) (b c : Nat) : Nat → Int32 := fun k => if b ≤ k ∧ k < b + c then (if p (k - b) = 0 then x else p (k - b)) else f k
theorem enf_0 (p f : Nat → Int32) (x : Int32) (b : Nat) : enf p f x b 0 = f := by
  funext k
  unfold enf
  rw [if_neg (by omega)]
theorem enf_up (p f : Nat → Int32) (x : Int32) (b c : Nat) : upd (enf p f x b c) (b + c) (if p c = 0 then x else p c) = enf p f x b (c + 1) := by
  funext k
  by_cases h : k = b + c
  · subst h
    rw [upd_at]
    unfold enf
    rw [if_pos (show b ≤ b + c ∧ b + c < b + (c + 1) by omega), show b + c - b = c by omega]
  · rw [pk_un h]
    unfold enf
    by_cases h3 : b ≤ k ∧ k < b + c
    · rw [if_pos h3, if_pos (show b ≤ k ∧ k < b + (c + 1) by omega)]
    · rw [if_neg h3, if_neg (show ¬ (b ≤ k ∧ k < b + (c + 1)) by omega)]
theorem enf_out (p f : Nat → Int32) (x : Int32) {b c k : Nat} (h : k < b) : enf p f x b c k = f k := by
  unfold enf
  rw [if_neg (by omega)]
theorem enf_in (p f : Nat → Int32) (x : Int32) {b c j : Nat} (h : j < c) : enf p f x b c (b + j) = if p j = 0 then x else p j := by
  unfold enf
  rw [if_pos (by omega), show b + j - b = j by omega]
def znf (p : Nat → Int32) (c : Nat) : Nat → Int32 := fun k => if k < c then 0 else p k
theorem znf_0 (p : Nat → Int32) : znf p 0 = p := by funext k; simp [znf]
theorem znf_at (p : Nat → Int32) (c : Nat) : znf p c c = p c := by simp [znf]
theorem znf_up (p : Nat → Int32) (c : Nat) : upd (znf p c) c 0 = znf p (c + 1) := by
  funext k
  by_cases h : k = c
  · subst h; rw [upd_at]; simp [znf]
  · rw [pk_un h]
    unfold znf
    by_cases h3 : k < c
    · rw [if_pos h3, if_pos (by omega)]
    · rw [if_neg h3, if_neg (by omega)]
theorem cnz_z {f : Nat → Int32} : ∀ k, (∀ j, j < k → f j = 0) → cnz f k = 0 := by
  intro k
  induction k with
  | zero => intro _; rfl
  | succ k ih =>
    intro h
    unfold cnz
    rw [ih (fun j hj => h j (by omega)), if_pos (h k (by omega))]
theorem l_endRace {σ : St} {n r : Nat} (hr : r < 20) (e19 : gi σ 19 = nI r) {Q : Int32 → St → Prop} (h : Q (nI r) (si (si (sa (sa σ 19 (enf (ga σ 20) (ga σ 19) (nI (n + 1)) (16 * r) 16)) 20 (znf (ga σ 20) 16)) 20 0) 19 (nI (r + 1)))) :
    ∀ k m c : Nat, c + k = 16 → k < m → f_X5_endRace_17L Q m (sa (sa σ 19 (enf (ga σ 20) (ga σ 19) (nI (n + 1)) (16 * r) c)) 20 (znf (ga σ 20) c)) (nI n) (nI c) := by
  intro k
  induction k with
  | zero =>
    intro m c hc hm
    obtain ⟨m, rfl, -⟩ := suc_of hm
    obtain rfl : c = 16 := by omega
    show f_X5_endRace_17 Q _ _ _ _
    unfold f_X5_endRace_17
    refine br1 (by decide) ?_
    have e : gi (si (sa (sa σ 19 (enf (ga σ 20) (ga σ 19) (nI (n + 1)) (16 * r) 16)) 20 (znf (ga σ 20) 16)) 20 0) 19 = nI r := e19
    rw [gi_si, if_pos rfl, e, nI_1, nI_pred]
    exact h
  | succ k ih =>
    intro m c hc hm
    obtain ⟨m, rfl, -⟩ := suc_of hm
    show f_X5_endRace_17 Q _ _ _ _
    unfold f_X5_endRace_17
    have e : gi (sa (sa σ 19 (enf (ga σ 20) (ga σ 19) (nI (n + 1)) (16 * r) c)) 20 (znf (ga σ 20) c)) 19 = nI r := e19
    have e2 : ga (sa (sa σ 19 (enf (ga σ 20) (ga σ 19) (nI (n + 1)) (16 * r) c)) 20 (znf (ga σ 20) c)) 20 c = ga σ 20 c := znf_at _ _
    rw [e, show (16 : Int32) = nI 16 from rfl, pk_mul, nI_add, cl (by omega : 16 * r + c < 2 ^ 31), cl (by omega : c < 2 ^ 31), nI_1 c, nI_1 n, e2]
    have hv := v_in (by omega : c < 16) (by decide)
    have hv2 := v_in (by omega : 16 * r + c < 320) (by decide)
    have ih := ih m (c + 1) (by omega) (by omega)
    rw [← enf_up, ← znf_up] at ih
    refine br0 (nI_ge (b := 16) (by omega) (by decide)) ⟨hv, ?_⟩
    by_cases z : ga σ 20 c = 0
    · rw [if_pos z] at ih
      refine br1 z ⟨hv2, hv, ?_⟩
      rw [sa4 _ (by decide)]
      exact ih
    · rw [if_neg z] at ih
      refine br0 z ⟨hv, hv2, hv, ?_⟩
      rw [sa4 _ (by decide)]
      exact ih
theorem l_end {σ : St} {n r : Nat} (hn : n ≤ 16) (hr : r < 20) (e41 : gi σ 41 = nI n) (e42 : gi σ 42 = nI r) (hp : ∀ j, j < 16 → ∃ v, v ≤ 16 ∧ ga σ 40 j = nI v) {Q : Int32 → St → Prop} (h : Q (nI r) (si (si (sa (sa (sa σ 38 (enf (ga σ 40) (ga σ 38) (nI (n + 1)) (16 * r) n)) 40 (znf (ga σ 40) n)) 39 (upd (ga σ 39) r (nI n))) 43 0) 42 (nI (r + 1)))) :
    ∀ k m c : Nat, c + k = n → k < m → f_X9_end_25L Q m (sa (sa σ 38 (enf (ga σ 40) (ga σ 38) (nI (n + 1)) (16 * r) c)) 40 (znf (ga σ 40) c)) (nI c) := by
  intro k
  induction k with
  | zero =>
    intro m c hc hm
    obtain ⟨m, rfl, -⟩ := suc_of hm
    obtain rfl : c = n := by omega
    show f_X9_end_25 Q _ _ _
    unfold f_X9_end_25
    have e : gi (sa (sa σ 38 (enf (ga σ 40) (ga σ 38) (nI (c + 1)) (16 * r) c)) 40 (znf (ga σ 40) c)) 42 = nI r := e42
    have e1 : gi (sa (sa σ 38 (enf (ga σ 40) (ga σ 38) (nI (c + 1)) (16 * r) c)) 40 (znf (ga σ 40) c)) 41 = nI c := e41
    rw [e, e1, cl (by omega : r < 2 ^ 31)]
    refine br1 (nI_le (by omega) (by omega)) ⟨v_in (by omega) (by decide), ?_⟩
    rw [gi_si _ 43 42, if_neg (by decide), gi_sa, gi_si, if_pos rfl, e, nI_1, nI_pred]
    exact h
  | succ k ih =>
    intro m c hc hm
    obtain ⟨m, rfl, -⟩ := suc_of hm
    show f_X9_end_25 Q _ _ _
    unfold f_X9_end_25
    have e : gi (sa (sa σ 38 (enf (ga σ 40) (ga σ 38) (nI (n + 1)) (16 * r) c)) 40 (znf (ga σ 40) c)) 42 = nI r := e42
    have e1 : gi (sa (sa σ 38 (enf (ga σ 40) (ga σ 38) (nI (n + 1)) (16 * r) c)) 40 (znf (ga σ 40) c)) 41 = nI n := e41
    have e2 : ga (sa (sa σ 38 (enf (ga σ 40) (ga σ 38) (nI (n + 1)) (16 * r) c)) 40 (znf (ga σ 40) c)) 40 c = ga σ 40 c := znf_at _ _
    rw [e, e1, show (16 : Int32) = nI 16 from rfl, pk_mul, nI_add, cl (by omega : 16 * r + c < 2 ^ 31), cl (by omega : c < 2 ^ 31), nI_1 c, nI_1 n, e2]
    have hv := v_in (by omega : c < 16) (by decide)
    have hv2 := v_in (by omega : 16 * r + c < 320) (by decide)
    have ih := ih m (c + 1) (by omega) (by omega)
    rw [← enf_up, ← znf_up] at ih
    obtain ⟨v, hv16, pv⟩ := hp c (by omega)
    refine br0 (nI_ge (by omega) (by omega)) ⟨hv, ?_⟩
    by_cases z : v = 0
    · subst z
      have pv : ga σ 40 c = 0 := pv
      rw [if_pos pv] at ih
      refine br1 (by rw [pv]; decide) ⟨hv2, hv, ?_⟩
      rw [sa4 _ (by decide)]
      exact ih
    · have hz : ¬ ga σ 40 c = 0 := by rw [pv]; exact nI_ne0 (by omega) (by omega)
      rw [if_neg hz] at ih
      refine br0 (by rw [pv]; exact nI_nle (by omega) (by omega)) ⟨hv, hv2, hv, ?_⟩
      rw [sa4 _ (by decide)]
      exact ih
theorem pr_end {σ : St} (h : INVX σ) : PN σ (fun Q => f_X8_end σ Q) (fun s Q => f_X9_end s Q) := by
  obtain ⟨w, n, r, tp, h⟩ := h
  obtain ⟨hi, hc, ht, hr, ⟨e1, e2, e3, e4⟩, ⟨f1, f2, f3, f4, f5, f6, f7, f8⟩, hfl, hl⟩ := id h
  have e42 : gi (si σ 23 0) 42 = nI r := f3
  have e41 : gi (si σ 23 0) 41 = nI n := e3
  by_cases h20 : r = 20
  · subst h20
    refine ⟨-1, σ, fun Q hQ => ?_, si σ 23 0, fun Q hQ => ?_, INVX.of h⟩
    · show f_X8_end σ Q
      unfold f_X8_end f_X5_endRace
      rw [f2]
      exact br1 (by decide) hQ
    · exact br1 f3 hQ
  · have h20' : ¬ nI r = (20 : Int32) := fun q => h20 ((nI_eq (a := r) (b := 20) (by omega) (by decide)).mp q)
    by_cases hn : n = 0
    · subst hn
      refine ⟨-1, σ, fun Q hQ => ?_, si σ 23 0, fun Q hQ => ?_, INVX.of h⟩
      · show f_X8_end σ Q
        unfold f_X8_end f_X5_endRace
        rw [f2, e2]
        exact br0 (nI_ge (b := 20) (by omega) (by decide)) (br0 (by decide) hQ)
      · show f_X9_end σ Q
        unfold f_X9_end
        rw [e42]
        exact br0 h20' (bn0 e41 hQ)
    · refine ⟨nI r, si (si (sa (sa σ 19 (enf (ga σ 20) (ga σ 19) (nI (n + 1)) (16 * r) 16)) 20 (znf (ga σ 20) 16)) 20 0) 19 (nI (r + 1)), fun Q hQ => ?_, si (si (sa (sa (sa (si (si (si (sa (sa σ 19 (enf (ga σ 20) (ga σ 19) (nI (n + 1)) (16 * r) 16)) 20 (znf (ga σ 20) 16)) 20 0) 19 (nI (r + 1))) 23 0) 38 (enf (ga σ 40) (ga σ 38) (nI (n + 1)) (16 * r) n)) 40 (znf (ga σ 40) n)) 39 (upd (ga σ 39) r (nI n))) 43 0) 42 (nI (r + 1)), fun Q hQ => ?_, ?_⟩
      · show f_X8_end σ Q
        unfold f_X8_end f_X5_endRace
        rw [f2, e2]
        refine br0 (nI_ge (b := 20) (by omega) (by decide)) (br1 (nI_lt (a := 0) (by omega) (by omega)) ?_)
        have := l_endRace (σ := σ) (n := n) (by omega) f2 hQ 16 FU 0 rfl (by decide)
        rw [enf_0, znf_0, sa_self, sa_self] at this
        exact this
      · show f_X9_end (si (si (sa (sa σ 19 (enf (ga σ 20) (ga σ 19) (nI (n + 1)) (16 * r) 16)) 20 (znf (ga σ 20) 16)) 20 0) 19 (nI (r + 1))) Q
        unfold f_X9_end
        have q42 : gi (si (si (si (sa (sa σ 19 (enf (ga σ 20) (ga σ 19) (nI (n + 1)) (16 * r) 16)) 20 (znf (ga σ 20) 16)) 20 0) 19 (nI (r + 1))) 23 0) 42 = nI r := f3
        have q41 : gi (si (si (si (sa (sa σ 19 (enf (ga σ 20) (ga σ 19) (nI (n + 1)) (16 * r) 16)) 20 (znf (ga σ 20) 16)) 20 0) 19 (nI (r + 1))) 23 0) 41 = nI n := e3
        rw [q42, q41]
        refine br0 h20' (bn1 (nI_ne0 (by omega) (by omega)) ?_)
        have := l_end (σ := si (si (si (sa (sa σ 19 (enf (ga σ 20) (ga σ 19) (nI (n + 1)) (16 * r) 16)) 20 (znf (ga σ 20) 16)) 20 0) 19 (nI (r + 1))) 23 0) (n := n) (by omega) (by omega) q41 q42 (fun j hj => ?_) hQ n FU 0 (by omega) (by rw [FU_eq]; omega)
        · rw [enf_0, znf_0, sa_self, sa_self] at this
          exact this
        · obtain ⟨a, -, v, b, c⟩ := f5 j hj
          exact ⟨v, b, a.symm.trans c⟩
      · refine INVX.of (w := w) (n := n) (r := r + 1) (t := tp) ⟨hi, hc, ht, hr, ⟨e1, e2, e3, e4⟩, ⟨by omega, rfl, rfl, fun _ j hj => ?_, fun j hj => ?_, ?_, rfl, fun i hi => ?_⟩, hfl, hl⟩
        · show znf (ga σ 20) 16 j = 0
          unfold znf; rw [if_pos hj]
        · show znf (ga σ 20) 16 j = znf (ga σ 40) n j ∧ (n ≤ j → znf (ga σ 20) 16 j = 0) ∧ ∃ v, v ≤ 16 ∧ znf (ga σ 20) 16 j = nI v
          obtain ⟨a, b, -⟩ := f5 j hj
          unfold znf
          rw [if_pos hj]
          refine ⟨?_, fun _ => rfl, 0, by omega, rfl⟩
          by_cases q : j < n
          · rw [if_pos q]
          · rw [if_neg q, ← a, b (by omega)]
        · show (0 : Int32) = nI (cnz (znf (ga σ 20) 16) 16)
          rw [cnz_z 16 (fun j hj => by unfold znf; rw [if_pos hj])]
          rfl
        · show (∃ s, 1 ≤ s ∧ s ≤ 16 ∧ upd (ga σ 39) r (nI n) i = nI s) ∧ ∀ j, j < 16 → (∃ v, 1 ≤ v ∧ v ≤ 17 ∧ enf (ga σ 20) (ga σ 19) (nI (n + 1)) (16 * r) 16 (16 * i + j) = nI v) ∧ (j < n → enf (ga σ 20) (ga σ 19) (nI (n + 1)) (16 * r) 16 (16 * i + j) = enf (ga σ 40) (ga σ 38) (nI (n + 1)) (16 * r) n (16 * i + j)) ∧ (n ≤ j → enf (ga σ 20) (ga σ 19) (nI (n + 1)) (16 * r) 16 (16 * i + j) = upd (ga σ 39) r (nI n) i + 1)
          by_cases q : i = r
          · subst q
            rw [upd_at]
            refine ⟨⟨n, by omega, by omega, rfl⟩, fun j hj => ?_⟩
            obtain ⟨a, b, v, c, d⟩ := f5 j hj
            rw [enf_in _ _ _ hj]
            refine ⟨?_, fun q => ?_, fun q => ?_⟩
            · by_cases z : ga σ 20 j = 0
              · rw [if_pos z]; exact ⟨n + 1, by omega, by omega, rfl⟩
              · rw [if_neg z]
                refine ⟨v, ?_, by omega, d⟩
                rcases Nat.eq_zero_or_pos v with q | q
                · subst q; exact absurd d z
                · exact q
            · rw [enf_in _ _ _ q, a]
            · rw [if_pos (b q), nI_1]
          · rw [pk_un q]
            obtain ⟨a, b⟩ := f8 i (by omega)
            refine ⟨a, fun j hj => ?_⟩
            rw [enf_out _ _ _ (by omega), enf_out _ _ _ (by omega)]
            exact b j hj
-- soundRow
def srf (f : Nat → Int32) (x : Int32) (b c : Nat) : Nat → Int32 := fun k => if b ≤ k ∧ k < b + c then x else f k
theorem srf_0 (f : Nat → Int32) (x : Int32) (b : Nat) : srf f x b 0 = f := by
  funext k
  unfold srf
  rw [if_neg (by omega)]
theorem srf_up (f : Nat → Int32) (x : Int32) (b c : Nat) : upd (srf f x b c) (b + c) x = srf f x b (c + 1) := by
  funext k
  by_cases h : k = b + c
  · subst h
    rw [upd_at]
    unfold srf
    rw [if_pos (by omega)]
  · rw [pk_un h]
    unfold srf
    by_cases h3 : b ≤ k ∧ k < b + c
    · rw [if_pos h3, if_pos (by omega)]
    · rw [if_neg h3, if_neg (by omega)]
theorem l_soundRow {σ : St} {a : Nat} (ha : a < 12) {t d : Int32} {Q : Int32 → St → Prop} {X : Nat → St → Prop} (h : Q (clampT (t - d)) (sa (sa σ 10 (srf (ga σ 10) (clampT (t - d)) (12 * a) 12)) 11 (srf (ga σ 11) (clampT (t + d)) (12 * a) 12))) :
    ∀ k m c : Nat, c + k = 12 → k < m → f_X8_soundRow_31L Q X m (sa (sa σ 10 (srf (ga σ 10) (clampT (t - d)) (12 * a) c)) 11 (srf (ga σ 11) (clampT (t + d)) (12 * a) c)) (nI a) t d (if c = 0 then 0 else clampT (t - d)) (nI c) := by
  intro k
  induction k with
  | zero =>
    intro m c hc hm
    obtain ⟨m, rfl, -⟩ := suc_of hm
    obtain rfl : c = 12 := by omega
    show f_X8_soundRow_31 Q X _ _ _ _ _ _ _
    unfold f_X8_soundRow_31
    exact br1 (by decide) h
  | succ k ih =>
    intro m c hc hm
    obtain ⟨m, rfl, -⟩ := suc_of hm
    show f_X8_soundRow_31 Q X _ _ _ _ _ _ _
    unfold f_X8_soundRow_31
    refine br0 (nI_ge (b := 12) (by omega) (by decide)) ?_
    rw [show (12 : Int32) = nI 12 from rfl, pk_mul, nI_add, s_setBounds (by omega), nI_1, sa4 _ (by decide)]
    have ih := ih m (c + 1) (by omega) (by omega)
    rw [← srf_up, ← srf_up, if_neg (by omega)] at ih
    have e : (if (if c = 0 then 0 else clampT (t - d)) < clampT (t - d) then clampT (t - d) else (if c = 0 then 0 else clampT (t - d))) = clampT (t - d) := by
      by_cases hc0 : c = 0
      · rw [if_pos hc0]
        have := clampT_nn (t - d)
        by_cases q : 0 < clampT (t - d)
        · rw [if_pos q]
        · rw [if_neg q, i_eq]; simp only [i_lt] at *; omega
      · rw [if_neg hc0]
        by_cases q : clampT (t - d) < clampT (t - d)
        · rw [if_pos q]
        · rw [if_neg q]
    rw [e]
    exact ih
theorem p_soundRow {σ : St} {a : Nat} (ha : a < 12) {t d : Int32} {Q : Int32 → St → Prop} (h : Q (clampT (t - d)) (sa (sa σ 29 (srf (ga σ 29) (clampT (t - d)) (12 * a) 12)) 30 (srf (ga σ 30) (clampT (t + d)) (12 * a) 12))) :
    ∀ k m c : Nat, c + k = 12 → k < m → f_X9_soundRow_60L Q m (sa (sa σ 29 (srf (ga σ 29) (clampT (t - d)) (12 * a) c)) 30 (srf (ga σ 30) (clampT (t + d)) (12 * a) c)) (nI a) t d (nI c) := by
  intro k
  induction k with
  | zero =>
    intro m c hc hm
    obtain ⟨m, rfl, -⟩ := suc_of hm
    obtain rfl : c = 12 := by omega
    show f_X9_soundRow_60 Q _ _ _ _ _ _
    unfold f_X9_soundRow_60
    rw [show (12 : Int32) = nI 12 from rfl, pk_mul, cl (by omega : 12 * a < 2 ^ 31)]
    refine br1 (by decide) ⟨v_in (by omega) (by decide), ?_⟩
    show Q (srf (ga σ 29) (clampT (t - d)) (12 * a) 12 (12 * a)) _
    rw [show srf (ga σ 29) (clampT (t - d)) (12 * a) 12 (12 * a) = clampT (t - d) by unfold srf; rw [if_pos (by omega)]]
    exact h
  | succ k ih =>
    intro m c hc hm
    obtain ⟨m, rfl, -⟩ := suc_of hm
    show f_X9_soundRow_60 Q _ _ _ _ _ _
    unfold f_X9_soundRow_60
    refine br0 (nI_ge (b := 12) (by omega) (by decide)) ?_
    rw [show (12 : Int32) = nI 12 from rfl, pk_mul, nI_add, t_sounds (by omega), nI_1, sa4 _ (by decide)]
    have ih := ih m (c + 1) (by omega) (by omega)
    rw [← srf_up, ← srf_up] at ih
    exact ih
theorem pr_soundRow {σ : St} (h : INVX σ) (c t d : Int32) : PT σ (f_X8_soundRow σ c t d) (fun s => f_X9_soundRow s c t d) [(0, 0), (1, 1), (2, 2)] := by
  obtain ⟨w, n, r, tp, h⟩ := h
  rcases c_boat c (n := 12) (by omega) with hc | ⟨a, ha, rfl⟩
  · have hbad : ∀ (g : Nat → Int64) (Q : Int32 → St → Prop), Q 0 (si (si (so σ g) 23 0) 23 1) → f_X9_soundRow_21 Q (si (so σ g) 23 0) c t d 1 := by
      intro g Q hQ
      unfold f_X9_soundRow_21
      rw [t_bad.1]
      exact bn1 (by decide) hQ
    refine ⟨1, 1, 0, σ, by decide, fun Q X _ hX => ?_, fun g => ⟨0, si (si (so σ g) 23 0) 23 1, fun Q hQ => ?_, rfl, fun hh => absurd hh (by decide), rfl, INVX.of h⟩⟩
    · unfold f_X8_soundRow
      by_cases q : c < 0
      · exact br1 q (hX (by decide))
      · refine br0 q (br0 ?_ (hX (by decide)))
        have q2 : (12 : Int32) ≤ c := hc.resolve_left q
        simp only [i_lt, i_le] at *; omega
    · show f_X9_soundRow (so σ g) c t d Q
      unfold f_X9_soundRow
      by_cases q : c < 0
      · exact br1 q (hbad g Q hQ)
      · refine br0 q (br0 ?_ (hbad g Q hQ))
        have q2 : (12 : Int32) ≤ c := hc.resolve_left q
        simp only [i_lt, i_le] at *; omega
  · have hp : ¬ nI a < 0 := nI_pos (by omega)
    have hl : nI a < 12 := nI_lt (b := 12) ha (by decide)
    by_cases hb : t < 0 ∨ 5000 < t ∨ d < 0 ∨ 5000 < d
    · refine ⟨2, 2, 0, σ, by decide, fun Q X _ hX => ?_, fun g => ⟨0, si (si (so σ g) 23 0) 23 2, fun Q hQ => ?_, rfl, fun hh => absurd hh (by decide), rfl, INVX.of h⟩⟩
      · unfold f_X8_soundRow
        refine br0 hp (br1 hl ?_)
        rw [s_needSounding, if_pos hb]
        exact hX (by decide)
      · show f_X9_soundRow (so σ g) (nI a) t d Q
        unfold f_X9_soundRow f_X9_soundRow_21
        refine br0 hp (br1 hl ?_)
        rw [t_bad.2]
        refine bn0 rfl ?_
        rw [t_isThick]
        by_cases h1 : t < 0 ∨ 5000 < t
        · rw [if_pos h1]
          refine br1 rfl ?_
          rw [t_bad.1]
          exact br0 (by decide) hQ
        · have h2 : d < 0 ∨ 5000 < d := by
            rcases hb with q | q | q | q
            · exact absurd (Or.inl q) h1
            · exact absurd (Or.inr q) h1
            · exact Or.inl q
            · exact Or.inr q
          rw [if_neg h1]
          refine br0 (by decide) ?_
          rw [t_isThick, if_pos h2]
          refine bn0 rfl ?_
          rw [t_bad.1]
          exact br0 (by decide) hQ
    · have h1 : ¬ (t < 0 ∨ 5000 < t) := fun q => hb (q.elim Or.inl (fun q => Or.inr (Or.inl q)))
      have h2 : ¬ (d < 0 ∨ 5000 < d) := fun q => hb (Or.inr (Or.inr q))
      refine ⟨0, 0, clampT (t - d), sa (sa σ 10 (srf (ga σ 10) (clampT (t - d)) (12 * a) 12)) 11 (srf (ga σ 11) (clampT (t + d)) (12 * a) 12), by decide, fun Q X hQ _ => ?_, fun g => ⟨clampT (t - d), sa (sa (si (so (sa (sa σ 10 (srf (ga σ 10) (clampT (t - d)) (12 * a) 12)) 11 (srf (ga σ 11) (clampT (t + d)) (12 * a) 12)) g) 23 0) 29 (srf (ga σ 29) (clampT (t - d)) (12 * a) 12)) 30 (srf (ga σ 30) (clampT (t + d)) (12 * a) 12), fun Q hQ => ?_, rfl, fun _ => rfl, rfl, ?_⟩⟩
      · unfold f_X8_soundRow
        refine br0 hp (br1 hl ?_)
        rw [s_needSounding, if_neg hb]
        have := l_soundRow (σ := σ) (X := X) ha (hQ rfl) 12 FU 0 rfl (by decide)
        rw [srf_0, srf_0, sa_self, sa_self, if_pos rfl] at this
        exact this
      · show f_X9_soundRow (so _ g) (nI a) t d Q
        unfold f_X9_soundRow f_X9_soundRow_21
        refine br0 hp (br1 hl ?_)
        rw [t_bad.2]
        refine bn0 rfl ?_
        rw [t_isThick, if_neg h1]
        refine br0 (by decide) ?_
        rw [t_isThick, if_neg h2]
        refine bn1 (by decide) ?_
        rw [t_bad.2]
        refine br1 rfl ?_
        have := p_soundRow (σ := si (so (sa (sa σ 10 (srf (ga σ 10) (clampT (t - d)) (12 * a) 12)) 11 (srf (ga σ 11) (clampT (t + d)) (12 * a) 12)) g) 23 0) ha hQ 12 FU 0 rfl (by decide)
        rw [srf_0, srf_0, sa_self, sa_self] at this
        exact this
      · obtain ⟨⟨a1, a2, a3, a4⟩, hrest⟩ := h
        refine INVX.of (w := w) (n := n) (r := r) (t := tp) ⟨⟨?_, ?_, a3, a4⟩, hrest⟩
        · show srf (ga σ 10) _ _ _ = srf (ga σ 29) _ _ _
          rw [a1]
        · show srf (ga σ 11) _ _ _ = srf (ga σ 30) _ _ _
          rw [a2]
