-- the rule's text: bytes B below L
def run (c : Nat → Bool) : Nat → Nat → Nat
  | 0, a => a
  | f + 1, a => if c a = true then run c f (a + 1) else a
theorem run_spec {c : Nat → Bool} {L : Nat} (hc : ∀ x, c x = true → x < L) : ∀ f a, f = L - a → (∀ k, a ≤ k → k < run c f a → c k = true) ∧ c (run c f a) = false ∧ a ≤ run c f a ∧ (a ≤ L → run c f a ≤ L) := by
  intro f
  induction f with
  | zero =>
    intro a hf
    have : c a = false := by
      cases h : c a
      · rfl
      · have := hc a h; omega
    exact ⟨fun k h1 h2 => absurd h2 (by unfold run; omega), this, Nat.le_refl _, fun h => h⟩
  | succ f ih =>
    intro a hf
    unfold run
    by_cases h : c a = true
    · rw [if_pos h]
      obtain ⟨h1, h2, h3, h4⟩ := ih (a + 1) (by omega)
      refine ⟨fun k k1 k2 => ?_, h2, by omega, fun q => h4 (by omega)⟩
      by_cases e : k = a
      · subst e; exact h
      · exact h1 k (by omega) k2
    · rw [if_neg h]
      refine ⟨fun k k1 k2 => absurd k2 (by omega), by simpa using h, Nat.le_refl _, fun q => q⟩
theorem run_uniq {c : Nat → Bool} {L : Nat} (hc : ∀ x, c x = true → x < L) {a e : Nat} (h1 : ∀ k, a ≤ k → k < e → c k = true) (h2 : c e = false) (h3 : a ≤ e) : run c (L - a) a = e := by
  obtain ⟨g1, g2, g3, g4⟩ := run_spec hc (L - a) a rfl
  rcases Nat.lt_trichotomy (run c (L - a) a) e with q | q | q
  · have := h1 _ g3 q; rw [g2] at this; exact absurd this (by decide)
  · exact q
  · have := g1 _ h3 q; rw [h2] at this; exact absurd this (by decide)
def bl (B : Nat → Nat) (L x : Nat) : Bool := decide (x < L ∧ B x = 32)
def sm (B : Nat → Nat) (L x : Nat) : Bool := decide (x < L ∧ 97 ≤ B x ∧ B x ≤ 122)
def dg (B : Nat → Nat) (L x : Nat) : Bool := decide (x < L ∧ 48 ≤ B x ∧ B x ≤ 57)
theorem bl_lt {B : Nat → Nat} {L : Nat} : ∀ x, bl B L x = true → x < L := fun _ h => (of_decide_eq_true h).1
theorem sm_lt {B : Nat → Nat} {L : Nat} : ∀ x, sm B L x = true → x < L := fun _ h => (of_decide_eq_true h).1
theorem dg_lt {B : Nat → Nat} {L : Nat} : ∀ x, dg B L x = true → x < L := fun _ h => (of_decide_eq_true h).1
def skp (B : Nat → Nat) (L a : Nat) : Nat := run (bl B L) (L - a) a
def wnd (B : Nat → Nat) (L a : Nat) : Nat := run (sm B L) (L - a) a
def dge (B : Nat → Nat) (L a : Nat) : Nat := run (dg B L) (L - a) a
theorem skp_le {B : Nat → Nat} {L a : Nat} : a ≤ skp B L a ∧ (a ≤ L → skp B L a ≤ L) := ⟨(run_spec bl_lt (L - a) a rfl).2.2.1, (run_spec bl_lt (L - a) a rfl).2.2.2⟩
theorem wnd_le {B : Nat → Nat} {L a : Nat} : a ≤ wnd B L a ∧ (a ≤ L → wnd B L a ≤ L) := ⟨(run_spec sm_lt (L - a) a rfl).2.2.1, (run_spec sm_lt (L - a) a rfl).2.2.2⟩
theorem dge_le {B : Nat → Nat} {L a : Nat} : a ≤ dge B L a ∧ (a ≤ L → dge B L a ≤ L) := ⟨(run_spec dg_lt (L - a) a rfl).2.2.1, (run_spec dg_lt (L - a) a rfl).2.2.2⟩
theorem skp_skp {B : Nat → Nat} {L a : Nat} : skp B L (skp B L a) = skp B L a :=
  run_uniq bl_lt (fun k h1 h2 => absurd h2 (by omega)) (run_spec bl_lt (L - a) a rfl).2.1 (Nat.le_refl _)
/-- the class reads the text -/
def TX (B : Nat → Nat) (L : Nat) (σ : St) : Prop := L ≤ 200 ∧ gi σ 4 = nI L ∧ ∀ j, j < L → ga σ 13 j = nI (B j) ∧ B j < 256
/-- the reference reads the text -/
def TM (B : Nat → Nat) (L : Nat) (σ : St) : Prop := L ≤ 200 ∧ gi σ 29 = nI L ∧ ∀ j, j < L → (ga σ 32 j &&& 255) = nI (B j) ∧ B j < 256
theorem s_byteAt {B : Nat → Nat} {L : Nat} {σ : St} (h : TX B L σ) {a : Nat} (ha : a ≤ 1000) {Q : Int32 → St → Prop} : f_X7_byteAt σ (nI a) Q ↔ Q (if a < L then nI (B a) else -1) σ := by
  obtain ⟨h1, h2, h3⟩ := h
  unfold f_X7_byteAt
  rw [h2, cl (by omega : a < 2 ^ 31), nI_leI (by omega) (by omega)]
  have p0 : ¬ nI a < 0 := nI_pos (by omega)
  by_cases q : a < L
  · have p1 : nI a < 200 := nI_lt (b := 200) (by omega) (by decide)
    have p2 : vp_in (nI a) 200 := v_in (by omega) (by decide)
    have p3 : ¬ L ≤ a := by omega
    simp [p0, p1, p2, p3, q, (h3 a q).1]
  · have p3 : L ≤ a := by omega
    simp [p0, p3, q]
theorem t_byteAt {B : Nat → Nat} {L : Nat} {σ : St} (h : TM B L σ) {a : Nat} (ha : a ≤ 1000) {Q : Int32 → St → Prop} : f_X9_byteAt σ (nI a) Q ↔ Q (if a < L then nI (B a) else 0) σ := by
  obtain ⟨h1, h2, h3⟩ := h
  unfold f_X9_byteAt
  rw [h2, cl (by omega : a < 2 ^ 31), nI_leI (by omega) (by omega)]
  by_cases q : a < L
  · have p2 : vp_in (nI a) 200 := v_in (by omega) (by decide)
    have p3 : ¬ L ≤ a := by omega
    simp [p2, p3, q, (h3 a q).1]
  · have p3 : L ≤ a := by omega
    simp [p3, q]
theorem TX.si {B : Nat → Nat} {L : Nat} {σ : St} (h : TX B L σ) {k : Nat} (hk : k ≠ 4) (v : Int32) : TX B L (si σ k v) := by
  obtain ⟨h1, h2, h3⟩ := h
  exact ⟨h1, by rw [gi_si, if_neg (Ne.symm hk)]; exact h2, h3⟩
theorem TM.si {B : Nat → Nat} {L : Nat} {σ : St} (h : TM B L σ) {k : Nat} (hk : k ≠ 29) (v : Int32) : TM B L (si σ k v) := by
  obtain ⟨h1, h2, h3⟩ := h
  exact ⟨h1, by rw [gi_si, if_neg (Ne.symm hk)]; exact h2, h3⟩
theorem si_self (σ : St) (k : Nat) {v : Int32} (h : gi σ k = v) : si σ k v = σ := by
  subst h
  unfold si gi
  obtain ⟨a, b, c⟩ := σ
  congr 1
  funext j
  unfold va_up
  by_cases q : j = k <;> simp [q]
theorem l_skip {B : Nat → Nat} {L : Nat} {Q : St → Prop} : ∀ (f m a : Nat) (σ : St), TX B L σ → gi σ 5 = nI a → f = L - a → a ≤ 300 → f < m → Q (si σ 5 (nI (run (bl B L) f a))) → f_X7_skipBlanks_0L Q m σ := by
  intro f
  induction f with
  | zero =>
    intro m a σ hT h5 hf ha hm h
    obtain ⟨m, rfl, -⟩ := suc_of hm
    show f_X7_skipBlanks_0 Q _ _
    unfold f_X7_skipBlanks_0
    have hT2 := hT.1
    rw [hT.2.1, h5]
    unfold run at h
    rw [si_self σ 5 h5] at h
    exact br1 (nI_le (by omega) (by omega)) h
  | succ f ih =>
    intro m a σ hT h5 hf ha hm h
    obtain ⟨m, rfl, -⟩ := suc_of hm
    show f_X7_skipBlanks_0 Q _ _
    unfold f_X7_skipBlanks_0
    have hT2 := hT.1
    rw [hT.2.1, h5]
    refine br0 (nI_ge (by omega) (by omega)) ?_
    rw [s_byteAt hT (by omega), if_pos (by omega)]
    have hb := (hT.2.2 a (by omega)).2
    unfold run at h
    by_cases z : B a = 32
    · rw [if_pos (by unfold bl; simp; omega)] at h
      rw [z]
      refine bn0 rfl ?_
      rw [h5, nI_1]
      refine ih m (a + 1) _ (hT.si (by decide) _) (by rw [gi_si, if_pos rfl]) (by omega) (by omega) (by omega) ?_
      rw [si_si]
      exact h
    · rw [if_neg (by unfold bl; simp; omega), si_self σ 5 h5] at h
      exact bn1 (fun q => z ((nI_eq (a := B a) (b := 32) (by omega) (by decide)).mp q)) h
theorem s_skip {B : Nat → Nat} {L a : Nat} {σ : St} (hT : TX B L σ) (h5 : gi σ 5 = nI a) (ha : a ≤ 300) {Q : St → Prop} (h : Q (si σ 5 (nI (skp B L a)))) : f_X7_skipBlanks σ Q :=
  l_skip (L - a) FU a σ hT h5 rfl ha (by rw [FU_eq]; have := hT.1; omega) h
theorem l_blanks {B : Nat → Nat} {L : Nat} {Q : St → Prop} : ∀ (f m a : Nat) (σ : St), TM B L σ → gi σ 30 = nI a → f = L - a → a ≤ 300 → f < m → Q (si σ 30 (nI (run (bl B L) f a))) → f_X9_blanks_0L Q m σ := by
  intro f
  induction f with
  | zero =>
    intro m a σ hT h5 hf ha hm h
    obtain ⟨m, rfl, -⟩ := suc_of hm
    show f_X9_blanks_0 Q _ _
    unfold f_X9_blanks_0
    have hT2 := hT.1
    rw [hT.2.1, h5]
    unfold run at h
    rw [si_self σ 30 h5] at h
    exact br1 (nI_le (by omega) (by omega)) h
  | succ f ih =>
    intro m a σ hT h5 hf ha hm h
    obtain ⟨m, rfl, -⟩ := suc_of hm
    show f_X9_blanks_0 Q _ _
    unfold f_X9_blanks_0
    have hT2 := hT.1
    rw [hT.2.1, h5]
    refine br0 (nI_ge (by omega) (by omega)) ?_
    rw [t_byteAt hT (by omega), if_pos (by omega)]
    have hb := (hT.2.2 a (by omega)).2
    unfold run at h
    by_cases z : B a = 32
    · rw [if_pos (by unfold bl; simp; omega)] at h
      rw [z]
      refine bn0 rfl ?_
      rw [h5, nI_1]
      refine ih m (a + 1) _ (hT.si (by decide) _) (by rw [gi_si, if_pos rfl]) (by omega) (by omega) (by omega) ?_
      rw [si_si]
      exact h
    · rw [if_neg (by unfold bl; simp; omega), si_self σ 30 h5] at h
      exact bn1 (fun q => z ((nI_eq (a := B a) (b := 32) (by omega) (by decide)).mp q)) h
theorem t_blanks {B : Nat → Nat} {L a : Nat} {σ : St} (hT : TM B L σ) (h5 : gi σ 30 = nI a) (ha : a ≤ 300) {Q : St → Prop} (h : Q (si σ 30 (nI (skp B L a)))) : f_X9_blanks σ Q :=
  l_blanks (L - a) FU a σ hT h5 rfl ha (by rw [FU_eq]; have := hT.1; omega) h
theorem l_word {B : Nat → Nat} {L : Nat} {v : Int32} {Q : Int32 → St → Prop} : ∀ (f m a : Nat) (σ : St), TX B L σ → gi σ 5 = nI a → f = L - a → a ≤ 300 → f < m → Q v (si σ 5 (nI (run (sm B L) f a))) → f_X7_readWord_9L Q m σ v := by
  intro f
  induction f with
  | zero =>
    intro m a σ hT h5 hf ha hm h
    obtain ⟨m, rfl, -⟩ := suc_of hm
    show f_X7_readWord_9 Q _ _ _
    unfold f_X7_readWord_9
    have hT2 := hT.1
    rw [hT.2.1, h5]
    unfold run at h
    rw [si_self σ 5 h5] at h
    exact br1 (nI_le (by omega) (by omega)) h
  | succ f ih =>
    intro m a σ hT h5 hf ha hm h
    obtain ⟨m, rfl, -⟩ := suc_of hm
    show f_X7_readWord_9 Q _ _ _
    unfold f_X7_readWord_9
    have hT2 := hT.1
    rw [hT.2.1, h5]
    refine br0 (nI_ge (by omega) (by omega)) ?_
    rw [s_byteAt hT (by omega), if_pos (by omega)]
    have hb := (hT.2.2 a (by omega)).2
    unfold run at h
    by_cases z1 : B a < 97
    · rw [if_neg (by unfold sm; simp; omega), si_self σ 5 h5] at h
      exact br1 (nI_lt (b := 97) z1 (by decide)) h
    · refine br0 (nI_nlt (b := 97) (by omega) (by omega)) ?_
      rw [h5, s_byteAt hT (by omega), if_pos (by omega)]
      by_cases z2 : B a ≤ 122
      · rw [if_pos (by unfold sm; simp; omega)] at h
        refine br0 (nI_nlt (a := 122) (by omega) (by decide)) ?_
        rw [h5, nI_1]
        refine ih m (a + 1) _ (hT.si (by decide) _) (by rw [gi_si, if_pos rfl]) (by omega) (by omega) (by omega) ?_
        rw [si_si]
        exact h
      · rw [if_neg (by unfold sm; simp; omega), si_self σ 5 h5] at h
        exact br1 (nI_lt (a := 122) (by omega) (by omega)) h
theorem s_readWord {B : Nat → Nat} {L a : Nat} {σ : St} (hT : TX B L σ) (h5 : gi σ 5 = nI a) (ha : a ≤ L) {Q : Int32 → St → Prop} (h : Q (nI (skp B L a)) (si σ 5 (nI (wnd B L (skp B L a))))) : f_X7_readWord σ Q := by
  have hT2 := hT.1
  have hs := (skp_le (B := B) (L := L) (a := a)).2 ha
  unfold f_X7_readWord
  refine s_skip hT h5 (by omega) ?_
  rw [gi_si, if_pos rfl]
  refine l_word (L - skp B L a) FU (skp B L a) _ (hT.si (by decide) _) (by rw [gi_si, if_pos rfl]) rfl (by omega) (by rw [FU_eq]; omega) ?_
  rw [si_si]
  exact h
-- words
def chr (w k : Nat) : Int32 := ((((wByt.getD w []).getD k 0) &&& (255 : Int32)).toUInt32 % 65536).toInt32
def wl_ (w : Nat) : Nat := wLen.getD w 0
theorem s_len {σ : St} {w : Nat} (hw : w < 7) {Q : Int32 → St → Prop} : f_J0_length_8abf5 σ w Q ↔ Q (nI (wl_ w)) σ := by
  have e : ∀ w : Fin 7, (nI (wLen.getD w.val 0)) >>> ((0 : Int32) &&& 31) = nI (wl_ w.val) := by decide
  have e := e ⟨w, hw⟩
  dsimp only at e
  unfold f_J0_length_8abf5 f_J0_coder_7d493
  dsimp only
  rw [e]
  simp [hw]
theorem wl_le {w : Nat} (hw : w < 7) : 3 ≤ wl_ w ∧ wl_ w ≤ 9 := by
  have e : ∀ w : Fin 7, 3 ≤ wl_ w.val ∧ wl_ w.val ≤ 9 := by decide
  exact e ⟨w, hw⟩
theorem chr_sm {w k : Nat} (hw : w < 7) (hk : k < wl_ w) : ∃ v, 97 ≤ v ∧ v ≤ 122 ∧ chr w k = nI v := by
  have e : ∀ w : Fin 7, ∀ k : Fin 9, k.val < wl_ w.val → (97 ≤ (chr w.val k.val).toNatClampNeg ∧ (chr w.val k.val).toNatClampNeg ≤ 122 ∧ chr w.val k.val = nI (chr w.val k.val).toNatClampNeg) := by decide +kernel
  have := wl_le hw
  exact ⟨_, e ⟨w, hw⟩ ⟨k, by omega⟩ hk⟩
theorem s_charAt {σ : St} {w k : Nat} (hw : w < 7) (hk : k < wl_ w) {Q : Int32 → St → Prop} : f_J0_charAt_5068e σ w (nI k) Q ↔ Q (chr w k) σ := by
  have h9 := wl_le hw
  unfold f_J0_charAt_5068e f_J0_isLatin1_aae02 f_J1_charAt_3b067 f_J0_checkIndex_df160 f_J3_checkIndex_8e157
  rw [cl (by omega : k < 2 ^ 31)]
  have h1 : ¬ nI k < 0 := nI_pos (by omega)
  have h2 : nI k < nI (wLen.getD w 0) := nI_lt hk (by unfold wl_ at h9; omega)
  have h3 : vp_in (nI k) (wLen.getD w 0) := v_in hk (by unfold wl_ at h9; omega)
  have hz : zok .char (chr w k) := pk_nc _
  rw [show ((((wByt.getD w []).getD k 0) &&& (255 : Int32)).toUInt32 % 65536).toInt32 = chr w k from rfl]
  revert h2 h3
  generalize wLen.getD w 0 = N
  intro h2 h3
  simp [hw, h1, h2, h3, hz]
