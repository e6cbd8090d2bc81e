-- promote: who is picked, upward by the ranks and downward
def pkU (s : Nat → Int32) (π : Nat → Nat) (v : Int32) : Nat → Nat → Nat → Nat → Bool
  | 0, _, _, _ => false
  | f + 1, k, l, j => if l = 0 then false else if s (π k) = v then (decide (j = π k) || pkU s π v f (k + 1) (l - 1) j) else pkU s π v f (k + 1) l j
def pcU (s : Nat → Int32) (π : Nat → Nat) (v x : Int32) : Nat → Nat → Nat → (Nat → Int32) → (Nat → Int32)
  | 0, _, _, g => g
  | f + 1, k, l, g => if l = 0 then g else if s (π k) = v then pcU s π v x f (k + 1) (l - 1) (upd g (π k) x) else pcU s π v x f (k + 1) l g
def pkD (s : Nat → Int32) (π : Nat → Nat) (v : Int32) : Nat → Nat → Nat → Bool
  | 0, _, _ => false
  | k + 1, l, j => if l = 0 then false else if s (π k) = v then (decide (j = π k) || pkD s π v k (l - 1) j) else pkD s π v k l j
def pcD (s : Nat → Int32) (π : Nat → Nat) (v x : Int32) : Nat → Nat → (Nat → Int32) → (Nat → Int32)
  | 0, _, g => g
  | k + 1, l, g => if l = 0 then g else if s (π k) = v then pcD s π v x k (l - 1) (upd g (π k) x) else pcD s π v x k l g
theorem pcU_eq (s : Nat → Int32) (π : Nat → Nat) (v x : Int32) (j : Nat) : ∀ (f k l : Nat) (g : Nat → Int32), pcU s π v x f k l g j = if pkU s π v f k l j = true then x else g j := by
  intro f
  induction f with
  | zero => intro k l g; rfl
  | succ f ih =>
    intro k l g
    unfold pcU pkU
    by_cases h0 : l = 0
    · simp [h0]
    · rw [if_neg h0, if_neg h0]
      by_cases h1 : s (π k) = v
      · rw [if_pos h1, if_pos h1, ih]
        by_cases e : j = π k
        · subst e; rw [upd_at]; simp
        · rw [pk_un e]; simp [e]
      · rw [if_neg h1, if_neg h1, ih]
theorem pcD_eq (s : Nat → Int32) (π : Nat → Nat) (v x : Int32) (j : Nat) : ∀ (k l : Nat) (g : Nat → Int32), pcD s π v x k l g j = if pkD s π v k l j = true then x else g j := by
  intro k
  induction k with
  | zero => intro l g; rfl
  | succ k ih =>
    intro l g
    unfold pcD pkD
    by_cases h0 : l = 0
    · simp [h0]
    · rw [if_neg h0, if_neg h0]
      by_cases h1 : s (π k) = v
      · rw [if_pos h1, if_pos h1, ih]
        by_cases e : j = π k
        · subst e; rw [upd_at]; simp
        · rw [pk_un e]; simp [e]
      · rw [if_neg h1, if_neg h1, ih]
theorem pkU_s {s : Nat → Int32} {π : Nat → Nat} {v : Int32} {n j : Nat} (hp : ∀ k, k < n → π k < n) : ∀ (f k l : Nat), f + k ≤ n → pkU s π v f k l j = true → s j = v ∧ j < n := by
  intro f
  induction f with
  | zero => intro k l _ h; exact absurd h (by unfold pkU; decide)
  | succ f ih =>
    intro k l hk h
    unfold pkU at h
    by_cases h0 : l = 0
    · rw [if_pos h0] at h; exact absurd h (by decide)
    · rw [if_neg h0] at h
      by_cases h1 : s (π k) = v
      · rw [if_pos h1] at h
        rcases Bool.or_eq_true _ _ |>.mp h with q | q
        · have q := of_decide_eq_true q
          subst q
          exact ⟨h1, hp k (by omega)⟩
        · exact ih _ _ (by omega) q
      · rw [if_neg h1] at h
        exact ih _ _ (by omega) h
theorem pkD_s {s : Nat → Int32} {π : Nat → Nat} {v : Int32} {n j : Nat} (hp : ∀ k, k < n → π k < n) : ∀ (k l : Nat), k ≤ n → pkD s π v k l j = true → s j = v ∧ j < n := by
  intro k
  induction k with
  | zero => intro l _ h; exact absurd h (by unfold pkD; decide)
  | succ k ih =>
    intro l hk h
    unfold pkD at h
    by_cases h0 : l = 0
    · rw [if_pos h0] at h; exact absurd h (by decide)
    · rw [if_neg h0] at h
      by_cases h1 : s (π k) = v
      · rw [if_pos h1] at h
        rcases Bool.or_eq_true _ _ |>.mp h with q | q
        · have q := of_decide_eq_true q
          subst q
          exact ⟨h1, hp k (by omega)⟩
        · exact ih _ (by omega) q
      · rw [if_neg h1] at h
        exact ih _ (by omega) h
def sec (s : Nat → Int32) (n : Nat) : Nat := cntB (fun j => decide (s j = 1)) n
theorem s_inSecond {σ : St} {n : Nat} (hn : n ≤ 16) (h01 : ∀ j, j < 16 → ga σ 24 j = 0 ∨ ga σ 24 j = 1) {Q : Int32 → St → Prop} (h : Q (nI (sec (ga σ 24) n)) σ) : ∀ k m c : Nat, c + k = n → k < m → f_X2_inSecond_4L Q m σ (nI n) (nI (sec (ga σ 24) c)) (nI c) := by
  intro k
  induction k with
  | zero =>
    intro m c hc hm
    obtain ⟨m, rfl, -⟩ := suc_of hm
    obtain rfl : c = n := by omega
    show f_X2_inSecond_4 Q _ _ _ _ _
    unfold f_X2_inSecond_4
    exact br1 (nI_le (by omega) (by omega)) h
  | succ k ih =>
    intro m c hc hm
    obtain ⟨m, rfl, -⟩ := suc_of hm
    show f_X2_inSecond_4 Q _ _ _ _ _
    unfold f_X2_inSecond_4
    refine br0 (nI_ge (by omega) (by omega)) ?_
    rw [s_fleetOf (by omega), nI_1]
    have ih := ih m (c + 1) (by omega) (by omega)
    have e : sec (ga σ 24) (c + 1) = sec (ga σ 24) c + (if decide (ga σ 24 c = 1) = true then 1 else 0) := rfl
    rw [e] at ih
    rcases h01 c (by omega) with z | z
    · rw [if_neg (by rw [z]; decide)] at ih
      rw [if_pos z, Int32.add_zero]
      exact ih
    · rw [if_pos (by rw [z]; decide)] at ih
      rw [if_neg (by rw [z]; decide), nI_1]
      exact ih
theorem s_choose {σ : St} {j : Nat} (hj : j < 16) {Q : St → Prop} : f_X2_choose σ (nI j) Q ↔ Q (sa σ 25 (upd (ga σ 25) j 1)) := by
  unfold f_X2_choose
  rw [s_isBoatNumber, if_neg (bn_ok hj), cl (by omega : j < 2 ^ 31), nb1]
  have hv := v_in hj (by decide : 16 < 2 ^ 31)
  simp [hv]
theorem l_chU {σ : St} {π : Nat → Nat} {n : Nat} (hn : n ≤ 16) (h01 : ∀ j, j < 16 → ga σ 24 j = 0 ∨ ga σ 24 j = 1) (e : ∀ k, k < n → π k < n ∧ ga σ 23 k = nI (π k)) {Q : St → Prop} : ∀ (f m k l : Nat) (g : Nat → Int32), k + f = n → f < m → l ≤ 16 → Q (sa σ 25 (pcU (ga σ 24) π 1 1 f k l g)) → f_X2_chooseFirst_6L Q m (sa σ 25 g) (nI n) (nI l) (nI k) := by
  intro f
  induction f with
  | zero =>
    intro m k l g hk hm hl h
    obtain ⟨m, rfl, -⟩ := suc_of hm
    show f_X2_chooseFirst_6 Q _ _ _ _ _
    unfold f_X2_chooseFirst_6
    exact br1 (nI_le (by omega) (by omega)) h
  | succ f ih =>
    intro m k l g hk hm hl h
    obtain ⟨m, rfl, -⟩ := suc_of hm
    show f_X2_chooseFirst_6 Q _ _ _ _ _
    unfold f_X2_chooseFirst_6
    unfold pcU at h
    refine br0 (nI_ge (by omega) (by omega)) (br0 (nI_ge (b := 16) (by omega) (by decide)) ?_)
    by_cases h0 : l = 0
    · subst h0
      rw [if_pos rfl] at h
      exact br1 (by decide) h
    · rw [if_neg h0] at h
      obtain ⟨e1, e2⟩ := e k (by omega)
      have e2' : ga (sa σ 25 g) 23 k = nI (π k) := e2
      have vk := v_in (by omega : k < 16) (by decide : 16 < 2 ^ 31)
      rw [cl (by omega : k < 2 ^ 31), e2', s_isInSecond (by omega), e2', s_choose (by omega), sa_sa, nI_1]
      refine br0 (nI_nle (by omega) (by omega)) ⟨vk, ?_⟩
      have e24 : ga (sa σ 25 g) 24 (π k) = ga σ 24 (π k) := rfl
      rw [e24]
      obtain ⟨l', rfl⟩ : ∃ l', l = l' + 1 := ⟨l - 1, by omega⟩
      rcases h01 (π k) (by omega) with z | z
      · rw [if_neg (by rw [z]; decide)] at h
        rw [if_pos z]
        exact br1 rfl (ih m (k + 1) (l' + 1) g (by omega) (by omega) hl h)
      · rw [if_pos z] at h
        rw [if_neg (by rw [z]; decide), pk_m1]
        exact br0 (by decide) ⟨vk, ih m (k + 1) l' _ (by omega) (by omega) (by omega) h⟩
theorem l_chD {σ : St} {π : Nat → Nat} {n : Nat} (hn : n ≤ 16) (h01 : ∀ j, j < 16 → ga σ 24 j = 0 ∨ ga σ 24 j = 1) (e : ∀ k, k < n → π k < n ∧ ga σ 23 k = nI (π k)) {Q : St → Prop} : ∀ (k m l : Nat) (g : Nat → Int32), k ≤ n → k < m → l ≤ 16 → Q (sa σ 25 (pcD (ga σ 24) π 0 1 k l g)) → f_X2_chooseLast_13L Q m (sa σ 25 g) (nI l) (nI k - 1) := by
  intro k
  induction k with
  | zero =>
    intro m l g hk hm hl h
    obtain ⟨m, rfl, -⟩ := suc_of hm
    show f_X2_chooseLast_13 Q _ _ _ _
    unfold f_X2_chooseLast_13
    exact br1 (by decide) h
  | succ k ih =>
    intro m l g hk hm hl h
    obtain ⟨m, rfl, -⟩ := suc_of hm
    show f_X2_chooseLast_13 Q _ _ _ _
    unfold f_X2_chooseLast_13
    unfold pcD at h
    rw [nI_pred]
    refine br0 (nI_pos (by omega)) ?_
    by_cases h0 : l = 0
    · subst h0
      rw [if_pos rfl] at h
      exact br1 (by decide) h
    · rw [if_neg h0] at h
      obtain ⟨e1, e2⟩ := e k (by omega)
      have e2' : ga (sa σ 25 g) 23 k = nI (π k) := e2
      have vk := v_in (by omega : k < 16) (by decide : 16 < 2 ^ 31)
      rw [cl (by omega : k < 2 ^ 31), e2', s_isInSecond (by omega), e2', s_choose (by omega), sa_sa, m1_sub (nI k)]
      refine br0 (nI_nle (by omega) (by omega)) ⟨vk, ?_⟩
      have e24 : ga (sa σ 25 g) 24 (π k) = ga σ 24 (π k) := rfl
      rw [e24]
      obtain ⟨l', rfl⟩ : ∃ l', l = l' + 1 := ⟨l - 1, by omega⟩
      rcases h01 (π k) (by omega) with z | z
      · rw [if_pos z] at h
        rw [if_pos z, pk_m1]
        exact bn0 rfl ⟨vk, ih m l' _ (by omega) (by omega) (by omega) h⟩
      · rw [if_neg (by rw [z]; decide)] at h
        rw [if_neg (by rw [z]; decide)]
        exact bn1 (by decide) (ih m (l' + 1) g (by omega) (by omega) hl h)
def flf (s c : Nat → Int32) (k : Nat) : Nat → Int32 := fun j => if j < k then (if s j = c j then 0 else 1) else s j
theorem flf_0 (s c : Nat → Int32) : flf s c 0 = s := by funext k; simp [flf]
theorem flf_at (s c : Nat → Int32) (k : Nat) : flf s c k k = s k := by simp [flf]
theorem flf_up (s c : Nat → Int32) (k : Nat) : upd (flf s c k) k (if s k = c k then 0 else 1) = flf s c (k + 1) := by
  funext j
  by_cases h : j = k
  · subst h; rw [upd_at]; unfold flf; rw [if_pos (show j < j + 1 by omega)]
  · rw [pk_un h]
    unfold flf
    by_cases h3 : j < k
    · rw [if_pos h3, if_pos (show j < k + 1 by omega)]
    · rw [if_neg h3, if_neg (show ¬ j < k + 1 by omega)]
theorem l_flip {σ : St} {v : Int32} {Q : Int32 → St → Prop} (h : Q v (sa (sa σ 24 (flf (ga σ 24) (ga σ 25) 16)) 25 (znf (ga σ 25) 16))) : ∀ k m c : Nat, c + k = 16 → k < m → f_X2_promoteRanked_41L Q m (sa (sa σ 24 (flf (ga σ 24) (ga σ 25) c)) 25 (znf (ga σ 25) c)) v (nI c) := by
  intro k
  induction k with
  | zero =>
    intro m c hc hm
    obtain ⟨m, rfl, -⟩ := suc_of hm
    obtain rfl : c = 16 := by omega
    show f_X2_promoteRanked_41 Q _ _ _ _
    unfold f_X2_promoteRanked_41
    exact br1 (by decide) h
  | succ k ih =>
    intro m c hc hm
    obtain ⟨m, rfl, -⟩ := suc_of hm
    show f_X2_promoteRanked_41 Q _ _ _ _
    unfold f_X2_promoteRanked_41
    have e24 : ga (sa (sa σ 24 (flf (ga σ 24) (ga σ 25) c)) 25 (znf (ga σ 25) c)) 24 c = ga σ 24 c := flf_at _ _ _
    have e25 : ga (sa (sa σ 24 (flf (ga σ 24) (ga σ 25) c)) 25 (znf (ga σ 25) c)) 25 c = ga σ 25 c := znf_at _ _
    have vc := v_in (by omega : c < 16) (by decide : 16 < 2 ^ 31)
    rw [cl (by omega : c < 2 ^ 31), e24, e25, nb0, nb1, nI_1]
    have ih := ih m (c + 1) (by omega) (by omega)
    rw [← flf_up, ← znf_up] at ih
    refine br0 (nI_ge (b := 16) (by omega) (by decide)) ⟨vc, vc, ?_⟩
    by_cases z : ga σ 24 c = ga σ 25 c
    · rw [if_pos z] at ih
      refine br1 z ⟨vc, vc, ?_⟩
      rw [sa4 _ (by decide)]
      exact ih
    · rw [if_neg z] at ih
      refine br0 z ⟨vc, vc, ?_⟩
      rw [sa4 _ (by decide)]
      exact ih
def mvN (s : Nat → Int32) (n q : Nat) : Nat := min (min (n - sec s n) (sec s n)) q
theorem s_promote {σ : St} {π : Nat → Nat} {n q : Nat} (hn : n ≤ 16) (hq : q ≤ 16) (h01 : ∀ j, j < 16 → ga σ 24 j = 0 ∨ ga σ 24 j = 1) (e : ∀ k, k < n → π k < n ∧ ga σ 23 k = nI (π k)) {Q : Int32 → St → Prop} (h : Q (nI (mvN (ga σ 24) n q)) (sa (sa σ 24 (flf (ga σ 24) (pcD (ga σ 24) π 0 1 n (mvN (ga σ 24) n q) (pcU (ga σ 24) π 1 1 n 0 (mvN (ga σ 24) n q) (ga σ 25))) 16)) 25 (znf (pcD (ga σ 24) π 0 1 n (mvN (ga σ 24) n q) (pcU (ga σ 24) π 1 1 n 0 (mvN (ga σ 24) n q) (ga σ 25))) 16))) : f_X2_promoteRanked σ (nI n) (nI q) Q := by
  have hs : sec (ga σ 24) n ≤ n := cntB_le _ _
  have hm : mvN (ga σ 24) n q ≤ 16 := by unfold mvN; omega
  unfold f_X2_promoteRanked
  refine s_inSecond hn h01 ?_ n FU 0 (by omega) (by rw [FU_eq]; omega)
  rw [pk_sub hs, ifmin _ _ (by omega) (by omega), ifmin _ _ (by omega) (by omega)]
  show f_X2_chooseFirst σ (nI n) (nI (mvN (ga σ 24) n q)) _
  unfold f_X2_chooseFirst
  have h1 := l_chU (σ := σ) (π := π) (n := n) hn h01 e (Q := fun s27 => f_X2_chooseLast s27 (nI n) (nI (mvN (ga σ 24) n q)) (fun s35 => f_X2_promoteRanked_41L Q FU s35 (nI (mvN (ga σ 24) n q)) (0 : Int32))) n FU 0 (mvN (ga σ 24) n q) (ga σ 25) (by omega) (by rw [FU_eq]; omega) hm ?_
  · rw [sa_self] at h1
    exact h1
  · show f_X2_chooseLast _ _ _ _
    unfold f_X2_chooseLast
    rw [if_neg (show ¬ (16 : Int32) < nI n from nI_nlt (b := n) (a := 16) hn (by decide))]
    refine l_chD (σ := σ) (π := π) (n := n) hn h01 e n FU (mvN (ga σ 24) n q) _ (Nat.le_refl _) (by rw [FU_eq]; omega) hm ?_
    have h2 := l_flip (σ := sa σ 25 (pcD (ga σ 24) π 0 1 n (mvN (ga σ 24) n q) (pcU (ga σ 24) π 1 1 n 0 (mvN (ga σ 24) n q) (ga σ 25)))) (v := nI (mvN (ga σ 24) n q)) (Q := Q) ?_ 16 FU 0 rfl (by decide)
    · rw [flf_0, znf_0, sa_self, sa_self] at h2
      exact h2
    · rw [sa_comm (sa σ 25 _) (by decide : (24 : Nat) ≠ 25), sa_sa, sa_comm σ (by decide : (25 : Nat) ≠ 24)]
      exact h
