-- frames: what the reading of a rule leaves alone
def FX (σ s : St) : Prop := (∀ k, (k < 5 ∨ (7 < k ∧ k < 13) ∨ 17 < k) → gi s k = gi σ k) ∧ (∀ k, k ≠ 15 → ga s k = ga σ k) ∧ go s = go σ
def FM (σ s : St) : Prop := (∀ k, (k < 30 ∨ (32 < k ∧ k < 37) ∨ 40 < k) → gi s k = gi σ k) ∧ (∀ k, k ≠ 34 → ga s k = ga σ k) ∧ go s = go σ
theorem FX.refl (σ : St) : FX σ σ := ⟨fun _ _ => rfl, fun _ _ => rfl, rfl⟩
theorem FM.refl (σ : St) : FM σ σ := ⟨fun _ _ => rfl, fun _ _ => rfl, rfl⟩
theorem FX.trans {σ s t : St} (h : FX σ s) (g : FX s t) : FX σ t := ⟨fun k hk => (g.1 k hk).trans (h.1 k hk), fun k hk => (g.2.1 k hk).trans (h.2.1 k hk), g.2.2.trans h.2.2⟩
theorem FM.trans {σ s t : St} (h : FM σ s) (g : FM s t) : FM σ t := ⟨fun k hk => (g.1 k hk).trans (h.1 k hk), fun k hk => (g.2.1 k hk).trans (h.2.1 k hk), g.2.2.trans h.2.2⟩
theorem FX.si {σ s : St} (h : FX σ s) {k : Nat} (hk : (5 ≤ k ∧ k ≤ 7) ∨ (13 ≤ k ∧ k ≤ 17)) (v : Int32) : FX σ (si s k v) :=
  ⟨fun j hj => by rw [gi_si, if_neg (by omega)]; exact h.1 j hj, h.2.1, h.2.2⟩
theorem FM.si {σ s : St} (h : FM σ s) {k : Nat} (hk : (30 ≤ k ∧ k ≤ 32) ∨ (37 ≤ k ∧ k ≤ 40)) (v : Int32) : FM σ (si s k v) :=
  ⟨fun j hj => by rw [gi_si, if_neg (by omega)]; exact h.1 j hj, h.2.1, h.2.2⟩
theorem FX.sa {σ s : St} (h : FX σ s) (f : Nat → Int32) : FX σ (sa s 15 f) :=
  ⟨h.1, fun j hj => by rw [ga_sa, if_neg hj]; exact h.2.1 j hj, h.2.2⟩
theorem FM.sa {σ s : St} (h : FM σ s) (f : Nat → Int32) : FM σ (sa s 34 f) :=
  ⟨h.1, fun j hj => by rw [ga_sa, if_neg hj]; exact h.2.1 j hj, h.2.2⟩
-- the draft: ice, drops, from, how many rights, the rights
def DX (ic dr fr q : Nat) (ρ : Nat → Nat) (σ : St) : Prop := gi σ 14 = nI ic ∧ gi σ 15 = nI dr ∧ gi σ 16 = nI fr ∧ gi σ 17 = nI q ∧ ∀ j, j < q → ga σ 15 j = nI (ρ j)
def DM (ic dr fr q : Nat) (ρ : Nat → Nat) (σ : St) : Prop := gi σ 37 = nI ic ∧ gi σ 38 = nI dr ∧ ((gi σ 39 = -1 ∧ dr = 0) ∨ gi σ 39 = nI fr) ∧ gi σ 40 = nI q ∧ ∀ j, j < q → ga σ 34 j = nI (ρ j)
def DB (ic dr fr q : Nat) (ρ : Nat → Nat) : Prop := ic ≤ 5000 ∧ dr ≤ 5000 ∧ fr ≤ 5000 ∧ q ≤ 3 ∧ (∀ j, j < q → ρ j < 3) ∧ ∀ i j, i < q → j < q → ρ i = ρ j → i = j
def PX (B : Nat → Nat) (L a m ic dr fr q : Nat) (ρ : Nat → Nat) (σ : St) : Prop := TX B L σ ∧ a ≤ L ∧ gi σ 5 = nI a ∧ gi σ 6 = 0 ∧ gi σ 7 = -1 ∧ gi σ 13 = nI m ∧ DX ic dr fr q ρ σ ∧ DB ic dr fr q ρ
def PMM (B : Nat → Nat) (L a ic dr fr q : Nat) (ρ : Nat → Nat) (τ : St) : Prop := TM B L τ ∧ gi τ 30 = nI a ∧ gi τ 31 = 0 ∧ gi τ 32 = -1 ∧ DM ic dr fr q ρ τ
def FLX (σ : St) (f : (Int32 → St → Prop) → Prop) (k pl : Nat) : Prop := ∃ s, FX σ s ∧ gi s 6 = nI k ∧ gi s 7 = nI pl ∧ ∀ Q : Int32 → St → Prop, Q 0 s → f Q
def FLM (σ : St) (f : (St → Prop) → Prop) (k pl : Nat) : Prop := ∃ s, FM σ s ∧ gi s 31 = nI k ∧ gi s 32 = nI pl ∧ (∃ y, y ≤ 300 ∧ gi s 30 = nI y) ∧ ∀ Q : St → Prop, Q s → f Q
/-- class and reference come to the same end: one fault at one place, or the same draft at the same place -/
def JO (B : Nat → Nat) (L m : Nat) (σ : St) (fX : (Int32 → St → Prop) → Prop) (PM : St → Prop) (fM : St → (St → Prop) → Prop) : Prop :=
  (∃ k pl, 1 ≤ k ∧ k ≤ 3 ∧ pl ≤ 300 ∧ FLX σ fX k pl ∧ ∀ τ, PM τ → FLM τ (fM τ) k pl) ∨
  (∃ a ic dr fr q, ∃ ρ : Nat → Nat, (∃ s, FX σ s ∧ PX B L a m ic dr fr q ρ s ∧ ∀ Q : Int32 → St → Prop, Q 1 s → fX Q) ∧ ∀ τ, PM τ → ∃ s, FM τ s ∧ PMM B L a ic dr fr q ρ s ∧ ∀ Q : St → Prop, Q s → fM τ Q)
theorem JO_back {B : Nat → Nat} {L m : Nat} {σ σ' : St} {fX fX' : (Int32 → St → Prop) → Prop} {PM PM' : St → Prop} {fM fM' : St → (St → Prop) → Prop} (h1 : FX σ σ') (h2 : ∀ Q, fX' Q → fX Q) (h3 : ∀ τ, PM τ → ∃ τ', FM τ τ' ∧ PM' τ' ∧ ∀ Q, fM' τ' Q → fM τ Q) (h : JO B L m σ' fX' PM' fM') : JO B L m σ fX PM fM := by
  rcases h with ⟨k, pl, k1, k2, k3, ⟨s, s1, s2, s3, s4⟩, ht⟩ | ⟨a, ic, dr, fr, q, ρ, ⟨s, s1, s2, s3⟩, ht⟩
  · refine Or.inl ⟨k, pl, k1, k2, k3, ⟨s, h1.trans s1, s2, s3, fun Q hQ => h2 Q (s4 Q hQ)⟩, fun τ hτ => ?_⟩
    obtain ⟨τ', t1, t2, t3⟩ := h3 τ hτ
    obtain ⟨u, u1, u2, u3, u4, u5⟩ := ht τ' t2
    exact ⟨u, t1.trans u1, u2, u3, u4, fun Q hQ => t3 Q (u5 Q hQ)⟩
  · refine Or.inr ⟨a, ic, dr, fr, q, ρ, ⟨s, h1.trans s1, s2, fun Q hQ => h2 Q (s3 Q hQ)⟩, fun τ hτ => ?_⟩
    obtain ⟨τ', t1, t2, t3⟩ := h3 τ hτ
    obtain ⟨u, u1, u2, u3⟩ := ht τ' t2
    exact ⟨u, t1.trans u1, u2, fun Q hQ => t3 Q (u3 Q hQ)⟩
-- semicolons
def smc (B : Nat → Nat) (L s : Nat) : Bool := decide (s < L ∧ B s = 59)
theorem s_semiN {B : Nat → Nat} {L a : Nat} {σ : St} (hT : TX B L σ) (h5 : gi σ 5 = nI a) (ha : a ≤ L) {Q : Int32 → St → Prop} (h : Q (b01 (smc B L (skp B L a))) (si σ 5 (nI (skp B L a)))) : f_X7_isSemicolonNext σ Q := by
  have hT2 := hT.1
  have hs := (skp_le (B := B) (L := L) (a := a)).2 ha
  unfold f_X7_isSemicolonNext
  refine s_skip hT h5 (by omega) ?_
  rw [gi_si, if_pos rfl, s_byteAt (hT.si (by decide) _) (by omega)]
  by_cases z : skp B L a < L
  · rw [if_pos z]
    have hb := (hT.2.2 _ z).2
    by_cases y : B (skp B L a) = 59
    · have e : smc B L (skp B L a) = true := decide_eq_true ⟨z, y⟩
      rw [e] at h
      rw [y]
      exact bn0 rfl h
    · have e : smc B L (skp B L a) = false := decide_eq_false (fun q => y q.2)
      rw [e] at h
      exact bn1 (fun q => y ((nI_eq (b := 59) (by omega) (by decide)).mp q)) h
  · have e : smc B L (skp B L a) = false := decide_eq_false (fun q => z q.1)
    rw [e] at h
    rw [if_neg z]
    exact bn1 (by decide) h
theorem s_semi {B : Nat → Nat} {L a : Nat} {σ : St} (hT : TX B L σ) (h5 : gi σ 5 = nI a) (ha : a ≤ L) {Q : Int32 → St → Prop} (h1 : smc B L (skp B L a) = true → Q 1 (si σ 5 (nI (skp B L a + 1)))) (h0 : smc B L (skp B L a) = false → Q 0 (si (si (si σ 5 (nI (skp B L a))) 6 1) 7 (nI (skp B L a)))) : f_X7_readSemicolon σ Q := by
  unfold f_X7_readSemicolon f_X7_refuse
  refine s_semiN hT h5 ha ?_
  rw [gi_si, if_pos rfl]
  cases e : smc B L (skp B L a)
  · exact bn0 rfl ⟨z0, h0 e⟩
  · refine bn1 (by decide) ?_
    rw [nI_1, si_si]
    exact h1 e
theorem t_semi {B : Nat → Nat} {L a : Nat} {σ : St} (hT : TM B L σ) (h5 : gi σ 30 = nI a) (h31 : gi σ 31 = 0) (ha : a ≤ L) {Q : St → Prop} (h1 : smc B L (skp B L a) = true → Q (si σ 30 (nI (skp B L a + 1)))) (h0 : smc B L (skp B L a) = false → Q (si (si (si (si σ 30 (nI (skp B L a))) 31 1) 32 (nI (skp B L a))) 30 (nI (skp B L a + 1)))) : f_X9_clause_91 Q σ := by
  have hT2 := hT.1
  have hs := (skp_le (B := B) (L := L) (a := a)).2 ha
  unfold f_X9_clause_91
  rw [h31]
  refine br1 (by decide) (t_blanks hT h5 (by omega) ?_)
  rw [gi_si, if_pos rfl, t_byteAt (hT.si (by decide) _) (by omega), gi_si, if_pos rfl]
  have hw : smc B L (skp B L a) = false → f_X9_wrong (si σ 30 (nI (skp B L a))) 1 (nI (skp B L a)) (fun s122 => Q (si s122 30 ((gi s122 30) + (1 : Int32)))) := by
    intro e
    refine t_wrong (σ := si σ 30 (nI (skp B L a))) h31 ?_
    have e3 : gi (si (si (si σ 30 (nI (skp B L a))) 31 1) 32 (nI (skp B L a))) 30 = nI (skp B L a) := rfl
    rw [e3, nI_1]
    exact h0 e
  by_cases z : skp B L a < L
  · rw [if_pos z]
    have hb := (hT.2.2 _ z).2
    by_cases y : B (skp B L a) = 59
    · have e : smc B L (skp B L a) = true := decide_eq_true ⟨z, y⟩
      rw [y]
      refine br1 rfl ?_
      rw [nI_1, si_si]
      exact h1 e
    · have e : smc B L (skp B L a) = false := decide_eq_false (fun q => y q.2)
      exact br0 (fun q => y ((nI_eq (b := 59) (by omega) (by decide)).mp q)) (hw e)
  · have e : smc B L (skp B L a) = false := decide_eq_false (fun q => z q.1)
    rw [if_neg z]
    exact br0 (by decide) (hw e)
theorem t_semi_bad {σ : St} {q : Nat} (h31 : gi σ 31 = nI q) (hq : 0 < q) (hq2 : q ≤ 3) {Q : St → Prop} (h : Q σ) : f_X9_clause_91 Q σ := by
  unfold f_X9_clause_91
  rw [h31]
  exact br0 (nI_nle hq (by omega)) h
def KX (Q : Int32 → St → Prop) : Int32 → St → Prop := fun r112 s112 => ((r112 = 0 → Q (0 : Int32) s112) ∧ (¬ r112 = 0 → Q (1 : Int32) s112))
theorem semi_J {B : Nat → Nat} {L a m ic dr fr q : Nat} {ρ : Nat → Nat} {σ : St} (h : PX B L a m ic dr fr q ρ σ) : JO B L m σ (fun Q => f_X7_readSemicolon σ (KX Q)) (PMM B L a ic dr fr q ρ) (fun τ Q => f_X9_clause_91 Q τ) := by
  obtain ⟨hT, ha, h5, h6, h7, h13, hD, hB⟩ := h
  have hT2 := hT.1
  have hs := (skp_le (B := B) (L := L) (a := a)).2 ha
  cases e : smc B L (skp B L a)
  · refine Or.inl ⟨1, skp B L a, by omega, by omega, by omega, ⟨_, ((((FX.refl σ).si (by omega) (nI (skp B L a)) (k := 5)).si (k := 6) (by omega) 1).si (k := 7) (by omega) (nI (skp B L a))), rfl, rfl, fun Q hQ => ?_⟩, fun τ hτ => ?_⟩
    · exact s_semi hT h5 ha (fun q => by rw [e] at q; exact absurd q (by decide)) (fun _ => br1 rfl hQ)
    · obtain ⟨g1, g2, g3, g4, g5⟩ := hτ
      refine ⟨_, (((((FM.refl τ).si (k := 30) (by omega) (nI (skp B L a))).si (k := 31) (by omega) 1).si (k := 32) (by omega) (nI (skp B L a))).si (k := 30) (by omega) (nI (skp B L a + 1))), rfl, rfl, ⟨skp B L a + 1, by omega, rfl⟩, fun Q hQ => ?_⟩
      exact t_semi g1 g2 g3 ha (fun q => by rw [e] at q; exact absurd q (by decide)) (fun _ => hQ)
  · have hlt := (of_decide_eq_true e).1
    refine Or.inr ⟨skp B L a + 1, ic, dr, fr, q, ρ, ⟨_, ((FX.refl σ).si (by omega) (nI (skp B L a + 1)) (k := 5)), ⟨hT.si (by decide) _, by omega, rfl, h6, h7, h13, hD, hB⟩, fun Q hQ => ?_⟩, fun τ hτ => ?_⟩
    · exact s_semi hT h5 ha (fun _ => br0 (by decide) hQ) (fun q => by rw [e] at q; exact absurd q (by decide))
    · obtain ⟨g1, g2, g3, g4, g5⟩ := hτ
      refine ⟨_, ((FM.refl τ).si (k := 30) (by omega) (nI (skp B L a + 1))), ⟨g1.si (by decide) _, rfl, g3, g4, g5⟩, fun Q hQ => ?_⟩
      exact t_semi g1 g2 g3 ha (fun _ => hQ) (fun q => by rw [e] at q; exact absurd q (by decide))
-- rights
def wyN (B : Nat → Nat) (L s : Nat) : Nat := if isW B L 4 s = true then 0 else if isW B L 5 s = true then 1 else if isW B L 6 s = true then 2 else 3
def wyI (B : Nat → Nat) (L s : Nat) : Int32 := if wyN B L s < 3 then nI (wyN B L s) else -1
theorem wy_len {B : Nat → Nat} {L s : Nat} (h : wyN B L s < 3) : wnd B L s = s + wl_ (4 + wyN B L s) := by
  unfold wyN at h ⊢
  by_cases h4 : isW B L 4 s = true
  · rw [if_pos h4]; exact (of_decide_eq_true h4).1
  · rw [if_neg h4] at h ⊢
    by_cases h5 : isW B L 5 s = true
    · rw [if_pos h5]; exact (of_decide_eq_true h5).1
    · rw [if_neg h5] at h ⊢
      by_cases h6 : isW B L 6 s = true
      · rw [if_pos h6]; exact (of_decide_eq_true h6).1
      · rw [if_neg h6] at h; omega
theorem wy4 {B : Nat → Nat} {L s : Nat} (h4 : isW B L 4 s = true) : wyI B L s = 0 := by
  unfold wyI wyN; simp [h4]; rfl
theorem wy5 {B : Nat → Nat} {L s : Nat} (h4 : isW B L 4 s = false) (h5 : isW B L 5 s = true) : wyI B L s = 1 := by
  unfold wyI wyN; simp [h4, h5]; rfl
theorem wy6 {B : Nat → Nat} {L s : Nat} (h4 : isW B L 4 s = false) (h5 : isW B L 5 s = false) (h6 : isW B L 6 s = true) : wyI B L s = 2 := by
  unfold wyI wyN; simp [h4, h5, h6]; rfl
theorem wy7 {B : Nat → Nat} {L s : Nat} (h4 : isW B L 4 s = false) (h5 : isW B L 5 s = false) (h6 : isW B L 6 s = false) : wyI B L s = -1 := by
  unfold wyI wyN; simp [h4, h5, h6]
theorem s_rightAt {B : Nat → Nat} {L s : Nat} {σ : St} (hT : TX B L σ) (ha : s ≤ L) (h5 : gi σ 5 = nI (wnd B L s)) {Q : Int32 → St → Prop} (h : Q (wyI B L s) σ) : f_X7_rightAt σ (nI s) Q := by
  unfold f_X7_rightAt
  refine s_isWord hT (by decide) ha h5 ?_
  cases h4 : isW B L 4 s
  · refine br1 rfl (s_isWord hT (by decide) ha h5 ?_)
    cases h5' : isW B L 5 s
    · refine br1 rfl (s_isWord hT (by decide) ha h5 ?_)
      cases h6 : isW B L 6 s
      · rw [wy7 h4 h5' h6] at h
        exact br1 rfl h
      · rw [wy6 h4 h5' h6] at h
        exact br0 (by decide) h
    · rw [wy5 h4 h5'] at h
      exact br0 (by decide) h
  · rw [wy4 h4] at h
    exact br0 (by decide) h
theorem t_wayHere {B : Nat → Nat} {L a : Nat} {σ : St} (hT : TM B L σ) (ha : a ≤ L) (h5 : gi σ 30 = nI a) {Q : Int32 → St → Prop} (h : Q (wyI B L (skp B L a)) (si σ 30 (nI (skp B L a)))) : f_X9_wayHere σ Q := by
  have hs := (skp_le (B := B) (L := L) (a := a)).2 ha
  unfold f_X9_wayHere
  refine t_isWord hT (by decide) ha h5 ?_
  cases h4 : isW B L 4 (skp B L a)
  · refine br1 rfl (t_isWord (hT.si (by decide) _) (by decide) hs rfl ?_)
    rw [skp_skp, si_si]
    cases h5' : isW B L 5 (skp B L a)
    · refine br1 rfl (t_isWord (hT.si (by decide) _) (by decide) hs rfl ?_)
      rw [skp_skp, si_si]
      cases h6 : isW B L 6 (skp B L a)
      · rw [wy7 h4 h5' h6] at h
        exact br1 rfl h
      · rw [wy6 h4 h5' h6] at h
        exact br0 (by decide) h
    · rw [wy5 h4 h5'] at h
      exact br0 (by decide) h
  · rw [wy4 h4] at h
    exact br0 (by decide) h
theorem l_addRight {σ : St} {q v : Nat} {ρ : Nat → Nat} (hq : q ≤ 3) (hv : v < 3) (e17 : gi σ 17 = nI q) (e15 : ∀ j, j < q → ga σ 15 j = nI (ρ j)) (hρ : ∀ j, j < q → ρ j < 3) {Q : Int32 → St → Prop} (h0 : (∃ j, j < q ∧ ρ j = v) → Q 0 σ) (h1 : (¬ ∃ j, j < q ∧ ρ j = v) → q < 3 ∧ Q 1 (si (sa σ 15 (upd (ga σ 15) q (nI v))) 17 (nI (q + 1)))) : ∀ f m j : Nat, j + f = q → f < m → (∀ i, i < j → ¬ ρ i = v) → f_X6_addRight_2L Q m σ (nI v) (nI j) := by
  intro f
  induction f with
  | zero =>
    intro m j hj hm hi
    obtain ⟨m, rfl, -⟩ := suc_of hm
    obtain rfl : j = q := by omega
    obtain ⟨h2, h3⟩ := h1 (fun ⟨i, a, b⟩ => hi i a b)
    show f_X6_addRight_2 Q _ _ _ _
    unfold f_X6_addRight_2
    rw [gi_sa, e17, cl (by omega : j < 2 ^ 31), nI_1]
    exact br1 (nI_le (by omega) (by omega)) (br1 (nI_lt (b := 3) h2 (by decide)) ⟨v_in h2 (by decide), h3⟩)
  | succ f ih =>
    intro m j hj hm hi
    obtain ⟨m, rfl, -⟩ := suc_of hm
    show f_X6_addRight_2 Q _ _ _ _
    unfold f_X6_addRight_2
    have hr := hρ j (by omega)
    rw [e17, cl (by omega : j < 2 ^ 31), e15 j (by omega), nI_eq (by omega) (by omega), nI_1 j]
    refine br0 (nI_ge (by omega) (by omega)) ⟨v_in (by omega) (by decide), ?_⟩
    by_cases z : ρ j = v
    · exact bn0 z (h0 ⟨j, by omega, z⟩)
    · refine bn1 z (ih m (j + 1) (by omega) (by omega) (fun i hi2 => ?_))
      by_cases e : i = j
      · subst e; exact z
      · exact hi i (by omega)
