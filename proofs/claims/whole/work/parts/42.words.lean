def isW (B : Nat → Nat) (L w a : Nat) : Bool := decide (wnd B L a = a + wl_ w ∧ ∀ k, k < wl_ w → nI (B (a + k)) = chr w k)
theorem l_isWordX {B : Nat → Nat} {L w a : Nat} {σ : St} (hT : TX B L σ) (hw : w < 7) (ha : a ≤ L) (he : wnd B L a = a + wl_ w) {Q : Int32 → St → Prop} (h : Q (b01 (isW B L w a)) σ) : ∀ f m k : Nat, k + f = wl_ w → f < m → (∀ i, i < k → nI (B (a + i)) = chr w i) → f_X7_isWord_17L Q m σ (nI a) w (nI k) := by
  have h9 := wl_le hw
  have hle := (wnd_le (B := B) (L := L) (a := a)).2 ha
  have hT2 := hT.1
  intro f
  induction f with
  | zero =>
    intro m k hk hm hi
    obtain ⟨m, rfl, -⟩ := suc_of hm
    obtain rfl : k = wl_ w := by omega
    show f_X7_isWord_17 Q _ _ _ _ _
    unfold f_X7_isWord_17
    rw [s_len hw]
    have : isW B L w a = true := decide_eq_true ⟨he, hi⟩
    rw [this] at h
    exact ⟨hw, br1 (nI_le (by omega) (by omega)) h⟩
  | succ f ih =>
    intro m k hk hm hi
    obtain ⟨m, rfl, -⟩ := suc_of hm
    show f_X7_isWord_17 Q _ _ _ _ _
    unfold f_X7_isWord_17
    rw [s_len hw]
    refine ⟨hw, br0 (nI_ge (by omega) (by omega)) ?_⟩
    rw [nI_add, s_byteAt hT (by omega), if_pos (by omega)]
    refine ⟨hw, ?_⟩
    rw [s_charAt hw (by omega), nI_1]
    by_cases z : nI (B (a + k)) = chr w k
    · refine br1 z (ih m (k + 1) (by omega) (by omega) (fun i hi2 => ?_))
      by_cases e : i = k
      · subst e; exact z
      · exact hi i (by omega)
    · have : isW B L w a = false := decide_eq_false (fun q => z (q.2 k (by omega)))
      rw [this] at h
      exact br0 z h
theorem s_isWord {B : Nat → Nat} {L w a : Nat} {σ : St} (hT : TX B L σ) (hw : w < 7) (ha : a ≤ L) (h5 : gi σ 5 = nI (wnd B L a)) {Q : Int32 → St → Prop} (h : Q (b01 (isW B L w a)) σ) : f_X7_isWord σ (nI a) w Q := by
  have h9 := wl_le hw
  have hle := (wnd_le (B := B) (L := L) (a := a)).2 ha
  have hge := (wnd_le (B := B) (L := L) (a := a)).1
  have hT2 := hT.1
  unfold f_X7_isWord
  rw [s_len hw, h5, pk_sub hge]
  refine ⟨hw, ?_⟩
  by_cases e : wnd B L a = a + wl_ w
  · refine br1 (by rw [e]; congr 1; omega) ?_
    exact l_isWordX hT hw ha e h (wl_ w) FU 0 (by omega) (by rw [FU_eq]; omega) (fun i hi => absurd hi (by omega))
  · have : isW B L w a = false := decide_eq_false (fun q => e q.1)
    rw [this] at h
    exact br0 (fun q => e (by have := (nI_eq (by omega) (by omega)).mp q; omega)) h
theorem t_small {B : Nat → Nat} {L x : Nat} {σ : St} (hT : TM B L σ) {Q : Int32 → St → Prop} : f_X9_isSmall σ (if x < L then nI (B x) else 0) Q ↔ Q (b01 (sm B L x)) σ := by
  unfold f_X9_isSmall
  by_cases hx : x < L
  · have hb := (hT.2.2 x hx).2
    rw [if_pos hx]
    by_cases z1 : B x < 97
    · have e : sm B L x = false := decide_eq_false (by omega)
      have q : nI (B x) < 97 := nI_lt (b := 97) z1 (by decide)
      rw [e]; simp [q, b01]
    · have q : ¬ nI (B x) < 97 := nI_nlt (b := 97) (by omega) (by omega)
      by_cases z2 : 122 < B x
      · have e : sm B L x = false := decide_eq_false (by omega)
        have q2 : (122 : Int32) < nI (B x) := nI_lt (a := 122) z2 (by omega)
        rw [e]; simp [q, q2, b01]
      · have e : sm B L x = true := decide_eq_true (by omega)
        have q2 : ¬ (122 : Int32) < nI (B x) := nI_nlt (a := 122) (by omega) (by decide)
        rw [e]; simp [q, q2, b01]
  · have e : sm B L x = false := decide_eq_false (by omega)
    rw [if_neg hx, e]
    have q : (0 : Int32) < 97 := by decide
    simp [q, b01]
theorem t_digit {B : Nat → Nat} {L x : Nat} {σ : St} (hT : TM B L σ) {Q : Int32 → St → Prop} : f_X9_isDigit σ (if x < L then nI (B x) else 0) Q ↔ Q (b01 (dg B L x)) σ := by
  unfold f_X9_isDigit
  by_cases hx : x < L
  · have hb := (hT.2.2 x hx).2
    rw [if_pos hx]
    by_cases z1 : B x < 48
    · have e : dg B L x = false := decide_eq_false (by omega)
      have q : nI (B x) < 48 := nI_lt (b := 48) z1 (by decide)
      rw [e]; simp [q, b01]
    · have q : ¬ nI (B x) < 48 := nI_nlt (b := 48) (by omega) (by omega)
      by_cases z2 : 57 < B x
      · have e : dg B L x = false := decide_eq_false (by omega)
        have q2 : (57 : Int32) < nI (B x) := nI_lt (a := 57) z2 (by omega)
        rw [e]; simp [q, q2, b01]
      · have e : dg B L x = true := decide_eq_true (by omega)
        have q2 : ¬ (57 : Int32) < nI (B x) := nI_nlt (a := 57) (by omega) (by decide)
        rw [e]; simp [q, q2, b01]
  · have e : dg B L x = false := decide_eq_false (by omega)
    rw [if_neg hx, e]
    have q : (0 : Int32) < 48 := by decide
    simp [q, b01]
theorem match_sm {B : Nat → Nat} {L w x : Nat} {k : Nat} (hw : w < 7) (hk : k < wl_ w) (hx : x < L) (hb : B x < 256) (h : nI (B x) = chr w k) : sm B L x = true := by
  obtain ⟨v, h1, h2, h3⟩ := chr_sm hw hk
  have := (nI_eq (by omega) (by omega)).mp (h.trans h3)
  exact decide_eq_true (by omega)
theorem l_isWordM {B : Nat → Nat} {L w a : Nat} {σ : St} (hT : TM B L σ) (hw : w < 7) (ha : a ≤ L) (h5 : gi σ 30 = nI a) {Q : Int32 → St → Prop} (h : Q (b01 (isW B L w a)) σ) : ∀ f m k : Nat, k + f = wl_ w → f < m → (∀ i, i < k → a + i < L ∧ nI (B (a + i)) = chr w i) → f_X9_isWord_6L Q m σ w (nI k) := by
  have h9 := wl_le hw
  have hle := (wnd_le (B := B) (L := L) (a := a)).2 ha
  have hT2 := hT.1
  intro f
  induction f with
  | zero =>
    intro m k hk hm hi
    obtain ⟨m, rfl, -⟩ := suc_of hm
    obtain rfl : k = wl_ w := by omega
    show f_X9_isWord_6 Q _ _ _ _
    unfold f_X9_isWord_6
    rw [s_len hw, s_len hw, h5, nI_add, t_byteAt hT (by omega), t_small hT]
    refine ⟨hw, br1 (nI_le (by omega) (by omega)) ⟨hw, ?_⟩⟩
    have hall : ∀ x, a ≤ x → x < a + wl_ w → sm B L x = true := by
      intro x h1 h2
      obtain ⟨q1, q2⟩ := hi (x - a) (by omega)
      rw [show a + (x - a) = x by omega] at q1 q2
      exact match_sm hw (by omega) q1 (hT.2.2 x q1).2 q2
    cases hs : sm B L (a + wl_ w)
    · have : isW B L w a = true := decide_eq_true ⟨run_uniq sm_lt hall hs (by omega), fun i hi2 => (hi i hi2).2⟩
      rw [this] at h
      exact bn0 rfl h
    · have : isW B L w a = false := decide_eq_false (fun q => by
        have := (run_spec (c := sm B L) (L := L) sm_lt (L - a) a rfl).2.1
        rw [show run (sm B L) (L - a) a = a + wl_ w from q.1, hs] at this
        exact absurd this (by decide))
      rw [this] at h
      exact bn1 (by decide) h
  | succ f ih =>
    intro m k hk hm hi
    obtain ⟨m, rfl, -⟩ := suc_of hm
    show f_X9_isWord_6 Q _ _ _ _
    unfold f_X9_isWord_6
    rw [s_len hw, h5, nI_add, t_byteAt hT (by omega), s_charAt hw (by omega), nI_1]
    refine ⟨hw, br0 (nI_ge (by omega) (by omega)) ⟨hw, ?_⟩⟩
    by_cases hx : a + k < L
    · rw [if_pos hx]
      by_cases z : nI (B (a + k)) = chr w k
      · refine br1 z (ih m (k + 1) (by omega) (by omega) (fun i hi2 => ?_))
        by_cases e : i = k
        · subst e; exact ⟨hx, z⟩
        · exact hi i (by omega)
      · have : isW B L w a = false := decide_eq_false (fun q => z (q.2 k (by omega)))
        rw [this] at h
        exact br0 z h
    · rw [if_neg hx]
      have : isW B L w a = false := decide_eq_false (fun q => by have := q.1; omega)
      rw [this] at h
      obtain ⟨v, h1, h2, h3⟩ := chr_sm hw (by omega : k < wl_ w)
      refine br0 ?_ h
      rw [h3]
      intro q
      have := (nI_eq (a := 0) (by omega) (by omega)).mp q
      omega
theorem t_isWord {B : Nat → Nat} {L w a : Nat} {σ : St} (hT : TM B L σ) (hw : w < 7) (ha : a ≤ L) (h5 : gi σ 30 = nI a) {Q : Int32 → St → Prop} (h : Q (b01 (isW B L w (skp B L a))) (si σ 30 (nI (skp B L a)))) : f_X9_isWord σ w Q := by
  have hT2 := hT.1
  have hs := (skp_le (B := B) (L := L) (a := a)).2 ha
  have h9 := wl_le hw
  unfold f_X9_isWord
  refine t_blanks hT h5 (by omega) ?_
  exact l_isWordM (hT.si (by decide) _) hw hs (by rw [gi_si, if_pos rfl]) h (wl_ w) FU 0 (by omega) (by rw [FU_eq]; omega) (fun i hi => absurd hi (by omega))
theorem t_eat {B : Nat → Nat} {L w a : Nat} {σ : St} (hT : TM B L σ) (hw : w < 7) (ha : a ≤ L) (h5 : gi σ 30 = nI a) (h31 : gi σ 31 = 0) {Q : Int32 → St → Prop} (h : Q (b01 (isW B L w (skp B L a))) (si σ 30 (nI (if isW B L w (skp B L a) = true then skp B L a + wl_ w else skp B L a)))) : f_X9_eat σ w Q := by
  unfold f_X9_eat
  refine bn0 h31 (t_isWord hT hw ha h5 ?_)
  unfold f_X9_eat_20
  cases hW : isW B L w (skp B L a)
  · rw [hW, if_neg (by decide)] at h
    exact br1 rfl (br1 rfl ⟨z0, h⟩)
  · rw [hW, if_pos rfl] at h
    refine br0 (by decide) (br0 (by decide) ⟨hw, ?_⟩)
    rw [s_len hw, gi_si, if_pos rfl, nI_add, si_si]
    exact ⟨z1, h⟩
theorem t_eat_bad {w : Nat} {σ : St} (h31 : ¬ gi σ 31 = 0) {Q : Int32 → St → Prop} (h : Q 0 σ) : f_X9_eat σ w Q := by
  unfold f_X9_eat f_X9_eat_20
  exact bn1 h31 (br1 rfl ⟨z0, h⟩)
-- numbers
def dv (B : Nat → Nat) (x : Nat) : Nat := B x - 48
def cval (B : Nat → Nat) (L : Nat) : Nat → Nat → Nat → Nat
  | 0, _, v => v
  | f + 1, a, v => if dg B L a = true then cval B L f (a + 1) (min (10 * v + dv B a) 5001) else v
def mval (B : Nat → Nat) (L : Nat) : Nat → Nat → Nat → Nat
  | 0, _, v => v
  | f + 1, a, v => if dg B L a = true then mval B L f (a + 1) (if v ≤ 10000 then 10 * v + dv B a else v) else v
def cmR (c m : Nat) : Prop := (c ≤ 5000 ∧ m = c) ∨ (c = 5001 ∧ 5000 < m ∧ m ≤ 100100)
theorem cmv_val (B : Nat → Nat) (L : Nat) : ∀ f a c m, cmR c m → cmR (cval B L f a c) (mval B L f a m) := by
  intro f
  induction f with
  | zero => intro a c m h; exact h
  | succ f ih =>
    intro a c m h
    unfold cval mval
    by_cases z : dg B L a = true
    · rw [if_pos z, if_pos z]
      refine ih _ _ _ ?_
      have := of_decide_eq_true z
      have hd : dv B a ≤ 9 := by unfold dv; omega
      unfold cmR at *
      by_cases y : m ≤ 10000
      · rw [if_pos y]; omega
      · rw [if_neg y]; omega
    · rw [if_neg z, if_neg z]; exact h
def nvl (B : Nat → Nat) (L a : Nat) : Nat := cval B L (L - skp B L a) (skp B L a) 0
/-- 0 a number was read; else the fault -/
def nkd (B : Nat → Nat) (L a : Nat) : Nat := if dge B L (skp B L a) = skp B L a then 1 else if nvl B L a ≤ 5000 then 0 else 2
theorem l_numX {B : Nat → Nat} {L s : Nat} {Q : Int32 → St → Prop} : ∀ (f m a v : Nat) (σ : St), TX B L σ → gi σ 5 = nI a → f = L - a → a ≤ 300 → v ≤ 5001 → f < m → f_X7_readNumber_84 Q (si σ 5 (nI (run (dg B L) f a))) (nI s) (nI (cval B L f a v)) → f_X7_readNumber_11L Q m σ (nI s) (nI v) := by
  intro f
  induction f with
  | zero =>
    intro m a v σ hT h5 hf ha hv hm h
    obtain ⟨m, rfl, -⟩ := suc_of hm
    show f_X7_readNumber_11 Q _ _ _ _
    unfold f_X7_readNumber_11
    have hT2 := hT.1
    unfold run at h
    rw [si_self σ 5 h5] at h
    rw [hT.2.1, h5]
    exact br1 (nI_le (by omega) (by omega)) h
  | succ f ih =>
    intro m a v σ hT h5 hf ha hv hm h
    obtain ⟨m, rfl, -⟩ := suc_of hm
    show f_X7_readNumber_11 Q _ _ _ _
    unfold f_X7_readNumber_11
    have hT2 := hT.1
    rw [hT.2.1, h5]
    refine br0 (nI_ge (by omega) (by omega)) ?_
    rw [s_byteAt hT (by omega), if_pos (by omega)]
    have hb := (hT.2.2 a (by omega)).2
    unfold run cval at h
    by_cases z1 : B a < 48
    · have e : ¬ dg B L a = true := by unfold dg; simp; omega
      rw [if_neg e, if_neg e, si_self σ 5 h5] at h
      exact br1 (nI_lt (b := 48) z1 (by decide)) h
    · refine br0 (nI_nlt (b := 48) (by omega) (by omega)) ?_
      rw [h5, s_byteAt hT (by omega), if_pos (by omega)]
      by_cases z2 : B a ≤ 57
      · have e : dg B L a = true := by unfold dg; simp; omega
        rw [if_pos e, if_pos e] at h
        refine br0 (nI_nlt (a := 57) (by omega) (by decide)) ?_
        rw [h5, s_byteAt hT (by omega), if_pos (show a < L by omega), h5, nI_1]
        have ev : (if ((((10 : Int32) * nI v) + nI (B a)) - (48 : Int32)) < (5001 : Int32) then ((((10 : Int32) * nI v) + nI (B a)) - (48 : Int32)) else (5001 : Int32)) = nI (min (10 * v + dv B a) 5001) := by
          have e1 : (((10 : Int32) * nI v) + nI (B a)) - (48 : Int32) = nI (10 * v + dv B a) := by
            rw [show (10 : Int32) = nI 10 from rfl, show (48 : Int32) = nI 48 from rfl, pk_mul, nI_add, pk_sub (by omega)]
            unfold dv
            congr 1
            omega
          rw [e1]
          exact ifmin _ 5001 (by unfold dv; omega) (by decide)
        rw [ev]
        refine ih m (a + 1) _ _ (hT.si (by decide) _) (by rw [gi_si, if_pos rfl]) (by omega) (by omega) (by omega) (by omega) ?_
        rw [si_si]
        exact h
      · have e : ¬ dg B L a = true := by unfold dg; simp; omega
        rw [if_neg e, if_neg e, si_self σ 5 h5] at h
        exact br1 (nI_lt (a := 57) (by omega) (by omega)) h
theorem cval_le (B : Nat → Nat) (L : Nat) : ∀ f a v, v ≤ 5001 → cval B L f a v ≤ 5001 := by
  intro f
  induction f with
  | zero => intro a v h; exact h
  | succ f ih =>
    intro a v h
    unfold cval
    by_cases z : dg B L a = true
    · rw [if_pos z]; exact ih _ _ (by omega)
    · rw [if_neg z]; exact h
theorem s_readNumber {B : Nat → Nat} {L a : Nat} {σ : St} (hT : TX B L σ) (h5 : gi σ 5 = nI a) (ha : a ≤ L) {Q : Int32 → St → Prop} (h0 : nkd B L a = 0 → Q (nI (nvl B L a)) (si σ 5 (nI (dge B L (skp B L a))))) (h1 : ¬ nkd B L a = 0 → Q (-1) (si (si (si σ 5 (nI (dge B L (skp B L a)))) 6 (nI (nkd B L a))) 7 (nI (skp B L a)))) : f_X7_readNumber σ Q := by
  have hT2 := hT.1
  have hs := (skp_le (B := B) (L := L) (a := a)).2 ha
  have hd := (dge_le (B := B) (L := L) (a := skp B L a)).2 hs
  have hc := cval_le B L (L - skp B L a) (skp B L a) 0 (by omega)
  unfold f_X7_readNumber
  refine s_skip hT h5 (by omega) ?_
  rw [gi_si, if_pos rfl]
  refine l_numX (L - skp B L a) FU (skp B L a) 0 _ (hT.si (by decide) _) (by rw [gi_si, if_pos rfl]) rfl (by omega) (by omega) (by rw [FU_eq]; omega) ?_
  rw [si_si]
  show f_X7_readNumber_84 Q (si σ 5 (nI (dge B L (skp B L a)))) (nI (skp B L a)) (nI (nvl B L a))
  unfold f_X7_readNumber_84 f_X7_refuse
  rw [gi_si, if_pos rfl]
  unfold nkd at h0 h1
  by_cases z : dge B L (skp B L a) = skp B L a
  · rw [if_pos z] at h1
    exact bn0 (by rw [z]) (h1 (by decide))
  · rw [if_neg z] at h0 h1
    refine bn1 (fun q => z ((nI_eq (by omega) (by omega)).mp q)) ?_
    by_cases y : nvl B L a ≤ 5000
    · rw [if_pos y] at h0
      exact br1 (nI_le (b := 5000) y (by decide)) (h0 rfl)
    · rw [if_neg y] at h1
      refine br0 (fun q => y ((nI_leI (b := 5000) (by unfold nvl; omega) (by decide)).mp q)) (h1 (by decide))
theorem t_wrong {σ : St} {k p : Int32} (h31 : gi σ 31 = 0) {Q : St → Prop} (h : Q (si (si σ 31 k) 32 p)) : f_X9_wrong σ k p Q := by
  unfold f_X9_wrong
  rw [h31]
  exact br1 (by decide) h
theorem t_wrong_bad {σ : St} {k p : Int32} {q : Nat} (h31 : gi σ 31 = nI q) (hq : 0 < q) (hq2 : q ≤ 3) {Q : St → Prop} (h : Q σ) : f_X9_wrong σ k p Q := by
  unfold f_X9_wrong
  rw [h31]
  exact br0 (nI_nle hq (by omega)) h
theorem l_numM {B : Nat → Nat} {L s : Nat} {Q : Int32 → St → Prop} : ∀ (f m a v : Nat) (σ : St), TM B L σ → gi σ 30 = nI a → f = L - a → a ≤ 300 → v ≤ 100100 → f < m → (∀ x, x = mval B L f a v → ((nI x ≤ (5000 : Int32) → Q (nI x) (si σ 30 (nI (run (dg B L) f a)))) ∧ (¬ nI x ≤ (5000 : Int32) → f_X9_wrong (si σ 30 (nI (run (dg B L) f a))) (2 : Int32) (nI s) (fun s110 => Q (nI x) s110)))) → f_X9_number_45L Q m σ (nI s) (nI v) := by
  intro f
  induction f with
  | zero =>
    intro m a v σ hT h5 hf ha hv hm h
    obtain ⟨m, rfl, -⟩ := suc_of hm
    show f_X9_number_45 Q _ _ _ _
    unfold f_X9_number_45
    have hT2 := hT.1
    have h := h v rfl
    unfold run at h
    rw [si_self σ 30 h5] at h
    rw [h5, t_byteAt hT (by omega), t_digit hT]
    have e : dg B L a = false := decide_eq_false (by omega)
    rw [e]
    exact br1 rfl h
  | succ f ih =>
    intro m a v σ hT h5 hf ha hv hm h
    obtain ⟨m, rfl, -⟩ := suc_of hm
    show f_X9_number_45 Q _ _ _ _
    unfold f_X9_number_45
    have hT2 := hT.1
    rw [h5, t_byteAt hT (by omega), t_digit hT]
    have hb := (hT.2.2 a (by omega)).2
    unfold run mval at h
    by_cases e : dg B L a = true
    · have ed := of_decide_eq_true e
      have hd : dv B a ≤ 9 := by unfold dv; omega
      rw [if_pos e] at h
      simp only [if_pos e] at h
      rw [e]
      refine br0 (by decide) ?_
      by_cases y : v ≤ 10000
      · rw [if_pos y] at h
        refine br1 (nI_le (b := 10000) y (by decide)) ?_
        rw [h5, t_byteAt hT (by omega), if_pos (by omega), h5, nI_1]
        have e1 : (((10 : Int32) * nI v) + nI (B a)) - (48 : Int32) = nI (10 * v + dv B a) := by
          rw [show (10 : Int32) = nI 10 from rfl, show (48 : Int32) = nI 48 from rfl, pk_mul, nI_add, pk_sub (by omega)]
          unfold dv
          congr 1
          omega
        rw [e1]
        refine ih m (a + 1) _ _ (hT.si (by decide) _) (by rw [gi_si, if_pos rfl]) (by omega) (by omega) (by omega) (by omega) ?_
        simp only [si_si]
        exact h
      · rw [if_neg y] at h
        refine br0 (fun q => y ((nI_leI (b := 10000) (by omega) (by decide)).mp q)) ?_
        rw [h5, nI_1]
        refine ih m (a + 1) _ _ (hT.si (by decide) _) (by rw [gi_si, if_pos rfl]) (by omega) (by omega) (by omega) (by omega) ?_
        simp only [si_si]
        exact h
    · simp only [if_neg e] at h
      have e2 : dg B L a = false := by simpa using e
      rw [e2]
      have h := h v rfl
      rw [si_self σ 30 h5] at h
      exact br1 rfl h
def nmx (B : Nat → Nat) (L a : Nat) : Int32 := if dg B L (skp B L a) = true then nI (mval B L (L - skp B L a) (skp B L a) 0) else 0
theorem t_number {B : Nat → Nat} {L a : Nat} {σ : St} (hT : TM B L σ) (h5 : gi σ 30 = nI a) (h31 : gi σ 31 = 0) (ha : a ≤ L) {Q : Int32 → St → Prop} (h0 : nkd B L a = 0 → Q (nI (nvl B L a)) (si σ 30 (nI (dge B L (skp B L a))))) (h1 : ¬ nkd B L a = 0 → Q (nmx B L a) (si (si (si σ 30 (nI (dge B L (skp B L a)))) 31 (nI (nkd B L a))) 32 (nI (skp B L a)))) : f_X9_number σ Q := by
  have hT2 := hT.1
  have hs := (skp_le (B := B) (L := L) (a := a)).2 ha
  have hd := (dge_le (B := B) (L := L) (a := skp B L a)).2 hs
  unfold f_X9_number
  rw [h31]
  refine br1 (by decide) (t_blanks hT h5 (by omega) ?_)
  rw [gi_si, if_pos rfl, t_byteAt (hT.si (by decide) _) (by omega), t_digit (hT.si (by decide) _), gi_si, if_pos rfl]
  obtain ⟨g1, g2, g3, g4⟩ := run_spec (c := dg B L) (L := L) dg_lt (L - skp B L a) (skp B L a) rfl
  by_cases z : dg B L (skp B L a) = true
  · have hne : ¬ dge B L (skp B L a) = skp B L a := by
      intro q
      rw [show run (dg B L) (L - skp B L a) (skp B L a) = skp B L a from q, z] at g2
      exact absurd g2 (by decide)
    unfold nkd at h0 h1
    rw [if_neg hne] at h0
    unfold nmx at h1
    rw [if_neg hne, if_pos z] at h1
    rw [z]
    refine bn1 (by decide) ?_
    refine l_numM (L - skp B L a) FU (skp B L a) 0 _ (hT.si (by decide) _) (by rw [gi_si, if_pos rfl]) rfl (by omega) (by omega) (by rw [FU_eq]; omega) ?_
    intro x hx
    rw [si_si]
    rw [← hx] at h1
    have hR := cmv_val B L (L - skp B L a) (skp B L a) 0 0 (Or.inl ⟨by omega, rfl⟩)
    rw [← hx] at hR
    have hR : cmR (nvl B L a) x := hR
    rcases hR with ⟨r1, r2⟩ | ⟨r1, r2, r3⟩
    · rw [if_pos r1] at h0
      rw [r2]
      exact br1 (nI_le (b := 5000) r1 (by decide)) (h0 rfl)
    · have r4 : ¬ nvl B L a ≤ 5000 := by omega
      rw [if_neg r4] at h1
      refine br0 (fun q => absurd ((nI_leI (b := 5000) (by omega) (by decide)).mp q) (by omega)) ?_
      exact t_wrong (by rw [gi_si, if_neg (by decide)]; exact h31) (h1 (by decide))
  · have z2 : dg B L (skp B L a) = false := by simpa using z
    have he : dge B L (skp B L a) = skp B L a := run_uniq dg_lt (fun k h1 h2 => absurd h2 (by omega)) z2 (Nat.le_refl _)
    unfold nkd nmx at h1
    rw [if_pos he, if_neg z, he] at h1
    rw [z2]
    refine bn0 rfl ?_
    exact t_wrong (by rw [gi_si, if_neg (by decide)]; exact h31) (h1 (by decide))
theorem t_number_bad {σ : St} {q : Nat} (h31 : gi σ 31 = nI q) (hq : 0 < q) (hq2 : q ≤ 3) {Q : Int32 → St → Prop} (h : Q 0 σ) : f_X9_number σ Q := by
  unfold f_X9_number
  rw [h31]
  exact br0 (nI_nle hq (by omega)) h
theorem nkd_le (B : Nat → Nat) (L a : Nat) : nkd B L a ≤ 2 := by
  unfold nkd
  by_cases z : dge B L (skp B L a) = skp B L a
  · rw [if_pos z]; omega
  · rw [if_neg z]
    by_cases y : nvl B L a ≤ 5000
    · rw [if_pos y]; omega
    · rw [if_neg y]; omega
