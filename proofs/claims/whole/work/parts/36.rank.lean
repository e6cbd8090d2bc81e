-- the order of the boats
def lsB (P : Nat → Nat → Nat) (a b : Nat) : Nat → Bool
  | 0 => decide (a < b)
  | k + 1 => if P a k = P b k then lsB P a b k else decide (P a k < P b k)
def bet (S : Nat → Nat) (P : Nat → Nat → Nat) (r a b : Nat) : Bool := if S a = S b then lsB P a b r else decide (S a < S b)
theorem lsB_irr (P : Nat → Nat → Nat) (a : Nat) : ∀ k, lsB P a a k = false := by
  intro k
  induction k with
  | zero => unfold lsB; simp
  | succ k ih => unfold lsB; rw [if_pos rfl]; exact ih
theorem bet_irr (S : Nat → Nat) (P : Nat → Nat → Nat) (r a : Nat) : bet S P r a a = false := by
  unfold bet; rw [if_pos rfl]; exact lsB_irr P a r
theorem lsB_tot (P : Nat → Nat → Nat) {a b : Nat} (h : a ≠ b) : ∀ k, lsB P a b k = true ∨ lsB P b a k = true := by
  intro k
  induction k with
  | zero => unfold lsB; simp; omega
  | succ k ih =>
    unfold lsB
    by_cases e : P a k = P b k
    · rw [if_pos e, if_pos e.symm]; exact ih
    · rw [if_neg e, if_neg (fun q => e q.symm)]; simp; omega
theorem bet_tot (S : Nat → Nat) (P : Nat → Nat → Nat) (r : Nat) {a b : Nat} (h : a ≠ b) : bet S P r a b = true ∨ bet S P r b a = true := by
  unfold bet
  by_cases e : S a = S b
  · rw [if_pos e, if_pos e.symm]; exact lsB_tot P h r
  · rw [if_neg e, if_neg (fun q => e q.symm)]; simp; omega
theorem lsB_tr (P : Nat → Nat → Nat) (a b c : Nat) : ∀ k, lsB P a b k = true → lsB P b c k = true → lsB P a c k = true := by
  intro k
  induction k with
  | zero => unfold lsB; simp; omega
  | succ k ih =>
    unfold lsB
    by_cases e1 : P a k = P b k
    · rw [if_pos e1]
      by_cases e2 : P b k = P c k
      · rw [if_pos e2, if_pos (e1.trans e2)]; exact ih
      · rw [if_neg e2, if_neg (fun q => e2 (e1.symm.trans q)), e1]; intro _ q; exact q
    · rw [if_neg e1]
      by_cases e2 : P b k = P c k
      · rw [if_pos e2, if_neg (fun q => e1 (q.trans e2.symm)), ← e2]; intro q _; exact q
      · rw [if_neg e2]
        intro q1 q2
        have q1 := of_decide_eq_true q1
        have q2 := of_decide_eq_true q2
        rw [if_neg (by omega)]
        simp; omega
theorem bet_tr (S : Nat → Nat) (P : Nat → Nat → Nat) (r : Nat) {a b c : Nat} (h1 : bet S P r a b = true) (h2 : bet S P r b c = true) : bet S P r a c = true := by
  unfold bet at *
  by_cases e1 : S a = S b
  · rw [if_pos e1] at h1
    by_cases e2 : S b = S c
    · rw [if_pos e2] at h2; rw [if_pos (e1.trans e2)]; exact lsB_tr P a b c r h1 h2
    · rw [if_neg e2] at h2; rw [if_neg (fun q => e2 (e1.symm.trans q)), e1]; exact h2
  · rw [if_neg e1] at h1
    by_cases e2 : S b = S c
    · rw [if_neg (fun q => e1 (q.trans e2.symm)), ← e2]; exact h1
    · rw [if_neg e2] at h2
      have q1 := of_decide_eq_true h1
      have q2 := of_decide_eq_true h2
      rw [if_neg (by omega)]
      simp; omega
theorem cntB_mono {c d : Nat → Bool} (h : ∀ j, c j = true → d j = true) : ∀ k, cntB c k ≤ cntB d k := by
  intro k
  induction k with
  | zero => exact Nat.le_refl _
  | succ k ih =>
    unfold cntB
    have := h k
    cases hc : c k <;> cases hd : d k <;> simp_all <;> omega
theorem cntB_slt {c d : Nat → Bool} (h : ∀ j, c j = true → d j = true) {i : Nat} (h1 : c i = false) (h2 : d i = true) : ∀ k, i < k → cntB c k < cntB d k := by
  intro k
  induction k with
  | zero => intro q; omega
  | succ k ih =>
    intro q
    unfold cntB
    by_cases e : i = k
    · subst e
      have := cntB_mono h i
      rw [h1, h2]; simp; omega
    · have := ih (by omega)
      have := h k
      cases hc : c k <;> cases hd : d k <;> simp_all <;> omega
def rkN (S : Nat → Nat) (P : Nat → Nat → Nat) (r m a : Nat) : Nat := cntB (fun b => bet S P r b a) m
theorem rk_lt (S : Nat → Nat) (P : Nat → Nat → Nat) (r : Nat) {m a b : Nat} (ha : a < m) (h : bet S P r a b = true) : rkN S P r m a < rkN S P r m b :=
  cntB_slt (c := fun b => bet S P r b a) (d := fun x => bet S P r x b) (fun _ q => bet_tr S P r q h) (bet_irr S P r a) h m ha
theorem rk_ne (S : Nat → Nat) (P : Nat → Nat → Nat) (r : Nat) {m a b : Nat} (ha : a < m) (hb : b < m) (h : a ≠ b) : rkN S P r m a ≠ rkN S P r m b := by
  rcases bet_tot S P r h with q | q
  · have := rk_lt S P r ha q; omega
  · have := rk_lt S P r hb q; omega
theorem rk_in (S : Nat → Nat) (P : Nat → Nat → Nat) (r : Nat) {m a : Nat} (ha : a < m) : rkN S P r m a < m := cntB_lt (c := fun b => bet S P r b a) (bet_irr S P r a) m ha
theorem rk_suc (S : Nat → Nat) (P : Nat → Nat → Nat) (r m a : Nat) : rkN S P r (m + 1) a = rkN S P r m a + (if bet S P r m a = true then 1 else 0) := rfl
/-- the first c boats stand sorted in π -/
def srt (S : Nat → Nat) (P : Nat → Nat → Nat) (r c : Nat) (π : Nat → Nat) : Prop := ∀ k, k < c → π k < c ∧ rkN S P r c (π k) = k
theorem srt_q {S : Nat → Nat} {P : Nat → Nat → Nat} {r c : Nat} {π : Nat → Nat} (h : srt S P r c π) {k : Nat} (hk : k < c) : bet S P r c (π k) = true ↔ rkN S P r (c + 1) c ≤ k := by
  obtain ⟨h1, h2⟩ := h k hk
  have e := rk_suc S P r c (π k)
  rw [h2] at e
  constructor
  · intro q
    rw [if_pos q] at e
    have := rk_lt S P r (m := c + 1) (by omega : c < c + 1) q
    omega
  · intro q
    by_cases z : bet S P r c (π k) = true
    · exact z
    · rw [if_neg z] at e
      have := rk_lt S P r (m := c + 1) (by omega : π k < c + 1) ((bet_tot S P r (by omega : c ≠ π k)).resolve_left z)
      omega
def insP (π : Nat → Nat) (q c : Nat) : Nat → Nat := fun k => if k < q then π k else if k = q then c else π (k - 1)
theorem srt_ins {S : Nat → Nat} {P : Nat → Nat → Nat} {r c : Nat} {π : Nat → Nat} (h : srt S P r c π) : srt S P r (c + 1) (insP π (rkN S P r (c + 1) c) c) := by
  have hq := rk_in S P r (m := c + 1) (by omega : c < c + 1)
  intro k hk
  unfold insP
  by_cases h1 : k < rkN S P r (c + 1) c
  · rw [if_pos h1]
    obtain ⟨a, b⟩ := h k (by omega)
    have z : ¬ bet S P r c (π k) = true := fun z => by have := (srt_q h (by omega : k < c)).mp z; omega
    refine ⟨by omega, ?_⟩
    rw [rk_suc, if_neg z, b]; rfl
  · rw [if_neg h1]
    by_cases h2 : k = rkN S P r (c + 1) c
    · rw [if_pos h2]; exact ⟨by omega, h2.symm⟩
    · rw [if_neg h2]
      obtain ⟨a, b⟩ := h (k - 1) (by omega)
      have z := (srt_q h (by omega : k - 1 < c)).mpr (by omega)
      refine ⟨by omega, ?_⟩
      rw [rk_suc, if_pos z, b]; omega
-- the class
theorem s_scoreAt {σ : St} {a : Nat} (ha : a < 16) {Q : Int32 → St → Prop} : f_X5_scoreAt σ (nI a) Q ↔ Q (ga σ 22 a) σ := by
  unfold f_X5_scoreAt
  rw [s_isBoatNumber, if_neg (bn_ok ha), cl (by omega : a < 2 ^ 31)]
  have hv := v_in ha (by decide : 16 < 2 ^ 31)
  simp [hv]
theorem m1_sub (x : Int32) : x + (-1) = x - 1 := by rw [Int32.sub_eq_add_neg]
def b01 (b : Bool) : Int32 := if b = true then 1 else 0
theorem l_isBetter {σ : St} {P : Nat → Nat → Nat} {a b r : Nat} (hr : r ≤ 20) (ha : a < 16) (hb : b < 16) (ea : ∀ i, i < r → ga σ 19 (16 * i + a) = nI (P a i) ∧ P a i ≤ 17) (eb : ∀ i, i < r → ga σ 19 (16 * i + b) = nI (P b i) ∧ P b i ≤ 17) {Q : Int32 → St → Prop} : ∀ k m : Nat, k ≤ r → k < m → Q (b01 (lsB P a b k)) σ → f_X5_isBetter_39L Q m σ (nI a) (nI b) (nI k - 1) := by
  intro k
  induction k with
  | zero =>
    intro m hk hm h
    obtain ⟨m, rfl, -⟩ := suc_of hm
    show f_X5_isBetter_39 Q _ _ _ _ _
    unfold f_X5_isBetter_39
    refine br1 (by decide) ?_
    rw [nI_leI (by omega) (by omega)]
    unfold lsB b01 at h
    by_cases q : b ≤ a
    · rw [if_neg (by simp; omega)] at h; exact br1 q h
    · rw [if_pos (by simp; omega)] at h; exact br0 q h
  | succ k ih =>
    intro m hk hm h
    obtain ⟨m, rfl, -⟩ := suc_of hm
    show f_X5_isBetter_39 Q _ _ _ _ _
    unfold f_X5_isBetter_39
    obtain ⟨a1, a2⟩ := ea k (by omega)
    obtain ⟨b1, b2⟩ := eb k (by omega)
    rw [nI_pred]
    refine br0 (nI_pos (by omega)) ?_
    rw [s_pointsOf (by omega) ha, s_pointsOf (by omega) hb, a1, b1, nI_eq (by omega) (by omega), nI_leI (by omega) (by omega), m1_sub]
    unfold lsB at h
    by_cases e : P a k = P b k
    · rw [if_pos e] at h
      exact br1 e (ih m (by omega) (by omega) h)
    · rw [if_neg e] at h
      unfold b01 at h
      refine br0 e ?_
      by_cases q : P b k ≤ P a k
      · rw [if_neg (by simp; omega)] at h; exact br1 q h
      · rw [if_pos (by simp; omega)] at h; exact br0 q h
theorem s_isBetter {σ : St} {S : Nat → Nat} {P : Nat → Nat → Nat} {a b r : Nat} (hr : r ≤ 20) (ha : a < 16) (hb : b < 16) (e19 : gi σ 19 = nI r) (ea : ∀ i, i < r → ga σ 19 (16 * i + a) = nI (P a i) ∧ P a i ≤ 17) (eb : ∀ i, i < r → ga σ 19 (16 * i + b) = nI (P b i) ∧ P b i ≤ 17) (sa1 : ga σ 22 a = nI (S a)) (sb1 : ga σ 22 b = nI (S b)) (la : S a ≤ 340) (lb : S b ≤ 340) {Q : Int32 → St → Prop} (h : Q (b01 (bet S P r a b)) σ) : f_X5_isBetter σ (nI a) (nI b) Q := by
  unfold f_X5_isBetter
  rw [s_scoreAt ha, s_scoreAt hb, sa1, sb1, nI_eq (by omega) (by omega), nI_leI (by omega) (by omega), e19]
  unfold bet at h
  by_cases e : S a = S b
  · rw [if_pos e] at h
    exact br1 e (l_isBetter hr ha hb ea eb r FU (by omega) (by rw [FU_eq]; omega) h)
  · rw [if_neg e] at h
    unfold b01 at h
    refine br0 e ?_
    by_cases q : S b ≤ S a
    · rw [if_neg (by simp; omega)] at h; exact br1 q h
    · rw [if_pos (by simp; omega)] at h; exact br0 q h
def shf (f : Nat → Int32) (x c : Nat) : Nat → Int32 := fun k => if x < k ∧ k ≤ c then f (k - 1) else f k
theorem shf_c (f : Nat → Int32) (c : Nat) : shf f c c = f := by
  funext k
  unfold shf
  rw [if_neg (by omega)]
theorem shf_up (f : Nat → Int32) {x c : Nat} (h : x + 1 ≤ c) : upd (shf f (x + 1) c) (x + 1) (f x) = shf f x c := by
  funext k
  by_cases q : k = x + 1
  · subst q
    rw [upd_at]
    unfold shf
    rw [if_pos (show x < x + 1 ∧ x + 1 ≤ c by omega)]
    rfl
  · rw [pk_un q]
    unfold shf
    by_cases z : x + 1 < k ∧ k ≤ c
    · rw [if_pos z, if_pos (show x < k ∧ k ≤ c by omega)]
    · rw [if_neg z, if_neg (show ¬ (x < k ∧ k ≤ c) by omega)]
theorem shf_lo (f : Nat → Int32) {x c k : Nat} (h : k ≤ x) : shf f x c k = f k := by
  unfold shf
  rw [if_neg (by omega)]
theorem l_ins {σ : St} {f : Nat → Int32} {q c n : Nat} (hc : c < 16) (hb : ∀ (k : Nat) (g : Nat → Int32) (Q : Int32 → St → Prop), k < c → Q (if q ≤ k then 1 else 0) (sa σ 23 g) → f_X5_isBetter (sa σ 23 g) (nI c) (f k) Q) {Q : St → Prop} {K : St → Int32 → Int32 → Prop} (h : K (sa σ 23 (upd (shf f q c) q (nI c))) (nI n) (nI (c + 1))) : ∀ x m : Nat, q ≤ x → x ≤ c → x < m → f_X5_rankBoats_34L Q K m (sa σ 23 (shf f x c)) (nI n) (nI c) (nI x) := by
  intro x
  induction x with
  | zero =>
    intro m hx hxc hm
    obtain ⟨m, rfl, -⟩ := suc_of hm
    obtain rfl : q = 0 := by omega
    show f_X5_rankBoats_34 Q K _ _ _ _ _
    unfold f_X5_rankBoats_34
    refine br1 (by decide) ⟨v_in (by omega) (by decide), ?_⟩
    rw [sa_sa, nI_1]
    exact h
  | succ x ih =>
    intro m hx hxc hm
    obtain ⟨m, rfl, -⟩ := suc_of hm
    show f_X5_rankBoats_34 Q K _ _ _ _ _
    unfold f_X5_rankBoats_34
    rw [nI_pred, cl (by omega : x < 2 ^ 31)]
    refine br0 (nI_nle (by omega) (by omega)) ⟨v_in (by omega) (by decide), ?_⟩
    have e : ga (sa σ 23 (shf f (x + 1) c)) 23 x = f x := shf_lo f (by omega)
    rw [e]
    refine hb x _ _ (by omega) ?_
    by_cases z : q ≤ x
    · rw [if_pos z]
      refine br0 (by decide) ⟨v_in (by omega) (by decide), v_in (by omega) (by decide), ?_⟩
      rw [sa_sa, e, cl (by omega : x + 1 < 2 ^ 31), pk_m1]
      have ih := ih m z (by omega) (by omega)
      rw [← shf_up f hxc] at ih
      exact ih
    · rw [if_neg z]
      obtain rfl : q = x + 1 := by omega
      refine br1 rfl ⟨v_in (by omega) (by decide), ?_⟩
      rw [sa_sa, cl (by omega : x + 1 < 2 ^ 31), nI_1]
      exact h
def scf (f : Nat → Int32) (S : Nat → Nat) (c : Nat) : Nat → Int32 := fun k => if k < c then nI (S k) else f k
theorem scf_0 (f : Nat → Int32) (S : Nat → Nat) : scf f S 0 = f := by funext k; simp [scf]
theorem scf_up (f : Nat → Int32) (S : Nat → Nat) (c : Nat) : upd (scf f S c) c (nI (S c)) = scf f S (c + 1) := by
  funext k
  by_cases h : k = c
  · subst h; rw [upd_at]; unfold scf; rw [if_pos (by omega)]
  · rw [pk_un h]
    unfold scf
    by_cases h3 : k < c
    · rw [if_pos h3, if_pos (by omega)]
    · rw [if_neg h3, if_neg (by omega)]
theorem scf_in (f : Nat → Int32) (S : Nat → Nat) {c k : Nat} (h : k < c) : scf f S c k = nI (S k) := by
  unfold scf; rw [if_pos h]
