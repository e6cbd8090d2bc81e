theorem so_self (σ : St) : so σ (go σ) = σ := rfl
theorem cmp_self (x : Int64) : lg_cmp x x = 0 := by
  unfold lg_cmp
  simp
/-- after a call of a helper and of the reference: the same throw, the same answer -/
def TL (R : St → Prop) (r1 r2 : Int32) : Int32 → St → Prop := fun r222 s222 => ((r222 = r1 → ((¬ r1 = 0 → R s222) ∧ (r1 = 0 → (((lg_cmp (go s222 (0 : Int32).toNatClampNeg) r2.toInt64) = 0 → R s222) ∧ (¬ (lg_cmp (go s222 (0 : Int32).toNatClampNeg) r2.toInt64) = 0 → False))))) ∧ (¬ r222 = r1 → False))
theorem case_PT {σ : St} {fx : (Int32 → St → Prop) → (Nat → St → Prop) → Prop} {fm : St → (Int32 → St → Prop) → Prop} {ks : List (Nat × Nat)} (h : PT σ fx fm ks) (hks : ∀ k kc, (k, kc) ∈ ks → (k = 0 ∧ kc = 0) ∨ (k ≠ 0 ∧ 1 ≤ kc ∧ kc ≤ 2)) {R : St → Prop} (hR : ∀ s, INVX s → R s) {X : Nat → St → Prop} {QQ : Int32 → St → Prop} (hX : ∀ k kc s, (k, kc) ∈ ks → k ≠ 0 → QQ (nI kc) s → X k s) (hQ : ∀ r s, fm s (fun r2 s2 => f_X9_thrown s2 (TL R r r2)) → QQ r s) : fx (fun r7 s7 => QQ (0 : Int32) (so s7 (vp_updL (go s7) (0 : Int32).toNatClampNeg r7.toInt64))) X := by
  obtain ⟨k, kc, v, σ1, hm, hev, hmod⟩ := h
  rcases hks k kc hm with ⟨k0, c0⟩ | ⟨k0, c1, c2⟩
  · subst k0; subst c0
    refine hev _ _ (fun _ => hQ _ _ ?_) (fun q => absurd rfl q)
    obtain ⟨v2, σ2, e1, e2, e3, e4, e5⟩ := hmod (vp_updL (go σ1) (0 : Int32).toNatClampNeg v.toInt64)
    refine e1 _ ?_
    unfold f_X9_thrown TL
    rw [e2]
    refine br1 rfl (bn0 rfl (br1 ?_ (hR _ e5)))
    rw [e4, pk_uLs, e3 rfl]
    exact cmp_self _
  · refine hev _ _ (fun q => absurd q k0) (fun _ => hX k kc σ1 hm k0 (hQ _ _ ?_))
    obtain ⟨v2, σ2, e1, e2, e3, e4, e5⟩ := hmod (go σ1)
    rw [so_self] at e1
    refine e1 _ ?_
    unfold f_X9_thrown TL
    rw [e2]
    exact br1 rfl (bn1 (nI_ne0 (by omega) (by omega)) (hR _ e5))
theorem case_PN {σ : St} {fx : (Int32 → St → Prop) → Prop} {fm : St → (Int32 → St → Prop) → Prop} (h : PN σ fx fm) {R : St → Prop} (hR : ∀ s, INVX s → R s) {QQ : Int32 → St → Prop} (hQ : ∀ r s, fm s (fun r2 s2 => ((r = r2 → R s2) ∧ (¬ r = r2 → False))) → QQ r s) : fx QQ := by
  obtain ⟨v, σ1, e1, σ2, e2, e3⟩ := h
  exact e1 _ (hQ _ _ (e2 _ (br1 rfl (hR _ e3))))
theorem ks_A : ∀ k kc, (k, kc) ∈ [(0, 0), (1, 1), (2, 2)] → (k = 0 ∧ kc = 0) ∨ (k ≠ 0 ∧ 1 ≤ kc ∧ kc ≤ 2) := by
  intro k kc h
  simp at h
  omega
theorem ks_B : ∀ k kc, (k, kc) ∈ [(0, 0), (2, 1)] → (k = 0 ∧ kc = 0) ∨ (k ≠ 0 ∧ 1 ≤ kc ∧ kc ≤ 2) := by
  intro k kc h
  simp at h
  omega
theorem ks_C : ∀ k kc, (k, kc) ∈ [(0, 0), (1, 1)] → (k = 0 ∧ kc = 0) ∨ (k ≠ 0 ∧ 1 ≤ kc ∧ kc ≤ 2) := by
  intro k kc h
  simp at h
  omega
theorem ks_D : ∀ k kc, (k, kc) ∈ [(0, 0), (3, 1)] → (k = 0 ∧ kc = 0) ∨ (k ≠ 0 ∧ 1 ≤ kc ∧ kc ≤ 2) := by
  intro k kc h
  simp at h
  omega
theorem kx_A {QQ : Int32 → St → Prop} : ∀ k kc s, (k, kc) ∈ [(0, 0), (1, 1), (2, 2)] → k ≠ 0 → QQ (nI kc) s → (k = 1 ∧ QQ (1 : Int32) s) ∨ (k = 2 ∧ QQ (2 : Int32) s) := by
  intro k kc s h h0 hq
  simp at h
  rcases h with ⟨rfl, rfl⟩ | ⟨rfl, rfl⟩ | ⟨rfl, rfl⟩
  · exact absurd rfl h0
  · exact Or.inl ⟨rfl, hq⟩
  · exact Or.inr ⟨rfl, hq⟩
theorem kx_B {QQ : Int32 → St → Prop} : ∀ k kc s, (k, kc) ∈ [(0, 0), (2, 1)] → k ≠ 0 → QQ (nI kc) s → (k = 2 ∧ QQ (1 : Int32) s) := by
  intro k kc s h h0 hq
  simp at h
  rcases h with ⟨rfl, rfl⟩ | ⟨rfl, rfl⟩
  · exact absurd rfl h0
  · exact ⟨rfl, hq⟩
theorem kx_C {QQ : Int32 → St → Prop} : ∀ k kc s, (k, kc) ∈ [(0, 0), (1, 1)] → k ≠ 0 → QQ (nI kc) s → (k = 1 ∧ QQ (1 : Int32) s) := by
  intro k kc s h h0 hq
  simp at h
  rcases h with ⟨rfl, rfl⟩ | ⟨rfl, rfl⟩
  · exact absurd rfl h0
  · exact ⟨rfl, hq⟩
theorem kx_D {QQ : Int32 → St → Prop} : ∀ k kc s, (k, kc) ∈ [(0, 0), (3, 1)] → k ≠ 0 → QQ (nI kc) s → (k = 3 ∧ QQ (1 : Int32) s) := by
  intro k kc s h h0 hq
  simp at h
  rcases h with ⟨rfl, rfl⟩ | ⟨rfl, rfl⟩
  · exact absurd rfl h0
  · exact ⟨rfl, hq⟩
def TLc (R : St → Prop) (r1 r2 : Int32) : Int32 → St → Prop := fun r386 s386 => ((r386 = r1 → ((¬ r1 = 0 → R s386) ∧ (r1 = 0 → ((r2 = 0 → (((lg_cmp (go s386 (0 : Int32).toNatClampNeg) (0 : Int64)) = 0 → R s386) ∧ (¬ (lg_cmp (go s386 (0 : Int32).toNatClampNeg) (0 : Int64)) = 0 → False))) ∧ (¬ r2 = 0 → (((lg_cmp (go s386 (0 : Int32).toNatClampNeg) (1 : Int64)) = 0 → R s386) ∧ (¬ (lg_cmp (go s386 (0 : Int32).toNatClampNeg) (1 : Int64)) = 0 → False))))))) ∧ (¬ r386 = r1 → False))
theorem case_crack {σ : St} (h : INVX σ) (c x : Int32) {R : St → Prop} (hR : ∀ s, INVX s → R s) {QQ : Int32 → St → Prop} (hQ : ∀ r s, f_X9_crack s c x (fun r2 s2 => f_X9_thrown s2 (TLc R r r2)) → QQ r s) : f_L_crack σ c x QQ := by
  obtain ⟨k, kc, v, σ1, hm, hev, hmod⟩ := pr_crack h c x
  unfold f_L_crack
  rcases ks_C k kc hm with ⟨k0, c0⟩ | ⟨k0, c1, c2⟩
  · subst k0; subst c0
    refine hev _ _ (fun _ => ?_) (fun q => absurd rfl q)
    by_cases z : v = 0
    · refine br1 z (hQ _ _ ?_)
      obtain ⟨v2, σ2, e1, e2, e3, e4, e5⟩ := hmod (vp_updL (go σ1) (0 : Int32).toNatClampNeg 0)
      refine e1 _ ?_
      unfold f_X9_thrown TLc
      rw [e2]
      refine br1 rfl (bn0 rfl (br1 ((e3 rfl).trans z) (br1 ?_ (hR _ e5))))
      rw [e4, pk_uLs]
      exact cmp_self _
    · refine br0 z (hQ _ _ ?_)
      obtain ⟨v2, σ2, e1, e2, e3, e4, e5⟩ := hmod (vp_updL (go σ1) (0 : Int32).toNatClampNeg 1)
      refine e1 _ ?_
      unfold f_X9_thrown TLc
      rw [e2]
      refine br1 rfl (bn0 rfl (br0 (fun q => z ((e3 rfl).symm.trans q)) (br1 ?_ (hR _ e5))))
      rw [e4, pk_uLs]
      exact cmp_self _
  · refine hev _ _ (fun q => absurd q k0) (fun _ => kx_C k kc σ1 hm k0 (hQ _ _ ?_))
    obtain ⟨v2, σ2, e1, e2, e3, e4, e5⟩ := hmod (go σ1)
    rw [so_self] at e1
    refine e1 _ ?_
    unfold f_X9_thrown TLc
    rw [e2]
    exact br1 rfl (bn1 (nI_ne0 (by omega) (by omega)) (hR _ e5))
theorem cs_sound {σ : St} (h : INVX σ) (a0 a1 a2 : Int32) {R : St → Prop} (hR : ∀ s, INVX s → R s) {QQ : Int32 → St → Prop} (hQ : ∀ r s, f_X9_sound s a0 a1 a2 (fun r2 s2 => f_X9_thrown s2 (TL R r r2)) → QQ r s) : f_L_sound σ a0 a1 a2 QQ := by
  unfold f_L_sound
  exact case_PT (pr_sound h a0 a1 a2) ks_A hR (kx_A (QQ := QQ)) hQ
theorem cs_soundRow {σ : St} (h : INVX σ) (a0 a1 a2 : Int32) {R : St → Prop} (hR : ∀ s, INVX s → R s) {QQ : Int32 → St → Prop} (hQ : ∀ r s, f_X9_soundRow s a0 a1 a2 (fun r2 s2 => f_X9_thrown s2 (TL R r r2)) → QQ r s) : f_L_soundRow σ a0 a1 a2 QQ := by
  unfold f_L_soundRow
  exact case_PT (pr_soundRow h a0 a1 a2) ks_A hR (kx_A (QQ := QQ)) hQ
theorem cs_hour {σ : St} (h : INVX σ) (a0 : Int32) {R : St → Prop} (hR : ∀ s, INVX s → R s) {QQ : Int32 → St → Prop} (hQ : ∀ r s, f_X9_hour s a0 (fun r2 s2 => f_X9_thrown s2 (TL R r r2)) → QQ r s) : f_L_hour σ a0 QQ := by
  unfold f_L_hour
  exact case_PT (pr_hour h a0) ks_B hR (kx_B (QQ := QQ)) hQ
theorem cs_ice {σ : St} (h : INVX σ) (a0 a1 : Int32) {R : St → Prop} (hR : ∀ s, INVX s → R s) {QQ : Int32 → St → Prop} (hQ : ∀ r s, f_X9_ice s a0 a1 (fun r2 s2 => f_X9_thrown s2 (TL R r r2)) → QQ r s) : f_L_ice σ a0 a1 QQ := by
  unfold f_L_ice
  exact case_PT (pr_ice h a0 a1) ks_A hR (kx_A (QQ := QQ)) hQ
theorem cs_lasts {σ : St} (h : INVX σ) (a0 a1 : Int32) {R : St → Prop} (hR : ∀ s, INVX s → R s) {QQ : Int32 → St → Prop} (hQ : ∀ r s, f_X9_lasts s a0 a1 (fun r2 s2 => f_X9_thrown s2 (TL R r r2)) → QQ r s) : f_L_lasts σ a0 a1 QQ := by
  unfold f_L_lasts
  exact case_PT (pr_lasts h a0 a1) ks_A hR (kx_A (QQ := QQ)) hQ
theorem cs_wind {σ : St} (h : INVX σ) (a0 : Int32) {R : St → Prop} (hR : ∀ s, INVX s → R s) {QQ : Int32 → St → Prop} (hQ : ∀ r s, f_X9_wind s a0 (fun r2 s2 => f_X9_thrown s2 (TL R r r2)) → QQ r s) : f_L_wind σ a0 QQ := by
  unfold f_L_wind
  exact case_PT (pr_wind h a0) ks_B hR (kx_B (QQ := QQ)) hQ
theorem cs_move {σ : St} (h : INVX σ) (a0 : Int32) {R : St → Prop} (hR : ∀ s, INVX s → R s) {QQ : Int32 → St → Prop} (hQ : ∀ r s, f_X9_move s a0 (fun r2 s2 => f_X9_thrown s2 (TL R r r2)) → QQ r s) : f_L_move σ a0 QQ := by
  unfold f_L_move
  exact case_PT (pr_move h a0) ks_B hR (kx_B (QQ := QQ)) hQ
theorem cs_mark {σ : St} (h : INVX σ) (a0 : Int32) {R : St → Prop} (hR : ∀ s, INVX s → R s) {QQ : Int32 → St → Prop} (hQ : ∀ r s, f_X9_mark s a0 (fun r2 s2 => f_X9_thrown s2 (TL R r r2)) → QQ r s) : f_L_mark σ a0 QQ := by
  unfold f_L_mark
  exact case_PT (pr_mark h a0) ks_B hR (kx_B (QQ := QQ)) hQ
theorem cs_rule {σ : St} (h : INVX σ) (a0 : Int32) {R : St → Prop} (hR : ∀ s, INVX s → R s) {QQ : Int32 → St → Prop} (hQ : ∀ r s, f_X9_rule s a0 (fun r2 s2 => f_X9_thrown s2 (TL R r r2)) → QQ r s) : f_L_rule σ a0 QQ := by
  unfold f_L_rule
  exact case_PT (pr_rule h a0) ks_B hR (kx_B (QQ := QQ)) hQ
theorem cs_boat {σ : St} (h : INVX σ) {R : St → Prop} (hR : ∀ s, INVX s → R s) {QQ : Int32 → St → Prop} (hQ : ∀ r s, f_X9_boat s (fun r2 s2 => f_X9_thrown s2 (TL R r r2)) → QQ r s) : f_L_boat σ QQ := by
  unfold f_L_boat
  exact case_PT (pr_boat h) ks_D hR (kx_D (QQ := QQ)) hQ
theorem cs_place {σ : St} (h : INVX σ) (a0 a1 a2 a3 : Int32) {R : St → Prop} (hR : ∀ s, INVX s → R s) {QQ : Int32 → St → Prop} (hQ : ∀ r s, f_X9_place s a0 a1 a2 a3 (fun r2 s2 => f_X9_thrown s2 (TL R r r2)) → QQ r s) : f_L_place σ a0 a1 a2 a3 QQ := by
  unfold f_L_place
  exact case_PT (pr_place h a0 a1 a2 a3) ks_A hR (kx_A (QQ := QQ)) hQ
theorem cs_clear {σ : St} (h : INVX σ) (a0 a1 : Int32) {R : St → Prop} (hR : ∀ s, INVX s → R s) {QQ : Int32 → St → Prop} (hQ : ∀ r s, f_X9_clear s a0 a1 (fun r2 s2 => f_X9_thrown s2 (TL R r r2)) → QQ r s) : f_L_clear σ a0 a1 QQ := by
  unfold f_L_clear
  exact case_PT (pr_clear h a0 a1) ks_C hR (kx_C (QQ := QQ)) hQ
theorem cs_finish {σ : St} (h : INVX σ) (a0 : Int32) {R : St → Prop} (hR : ∀ s, INVX s → R s) {QQ : Int32 → St → Prop} (hQ : ∀ r s, f_X9_finish s a0 (fun r2 s2 => f_X9_thrown s2 (TL R r r2)) → QQ r s) : f_L_finish σ a0 QQ := by
  unfold f_L_finish
  exact case_PT (pr_finish h a0) ks_C hR (kx_C (QQ := QQ)) hQ
theorem cs_points {σ : St} (h : INVX σ) (a0 a1 : Int32) {R : St → Prop} (hR : ∀ s, INVX s → R s) {QQ : Int32 → St → Prop} (hQ : ∀ r s, f_X9_points s a0 a1 (fun r2 s2 => f_X9_thrown s2 (TL R r r2)) → QQ r s) : f_L_points σ a0 a1 QQ := by
  unfold f_L_points
  exact case_PT (pr_points h a0 a1) ks_C hR (kx_C (QQ := QQ)) hQ
theorem cs_score {σ : St} (h : INVX σ) (a0 : Int32) {R : St → Prop} (hR : ∀ s, INVX s → R s) {QQ : Int32 → St → Prop} (hQ : ∀ r s, f_X9_score s a0 (fun r2 s2 => f_X9_thrown s2 (TL R r r2)) → QQ r s) : f_L_score σ a0 QQ := by
  unfold f_L_score
  exact case_PT (pr_score h a0) ks_C hR (kx_C (QQ := QQ)) hQ
theorem cs_part {σ : St} (h : INVX σ) (a0 : Int32) {R : St → Prop} (hR : ∀ s, INVX s → R s) {QQ : Int32 → St → Prop} (hQ : ∀ r s, f_X9_part s a0 (fun r2 s2 => f_X9_thrown s2 (TL R r r2)) → QQ r s) : f_L_part σ a0 QQ := by
  unfold f_L_part
  exact case_PT (pr_part h a0) ks_B hR (kx_B (QQ := QQ)) hQ
theorem cs_promote {σ : St} (h : INVX σ) (a0 : Int32) {R : St → Prop} (hR : ∀ s, INVX s → R s) {QQ : Int32 → St → Prop} (hQ : ∀ r s, f_X9_promote s a0 (fun r2 s2 => f_X9_thrown s2 (TL R r r2)) → QQ r s) : f_L_promote σ a0 QQ := by
  unfold f_L_promote
  exact case_PT (pr_promote h a0) ks_B hR (kx_B (QQ := QQ)) hQ
theorem cs_fleet {σ : St} (h : INVX σ) (a0 : Int32) {R : St → Prop} (hR : ∀ s, INVX s → R s) {QQ : Int32 → St → Prop} (hQ : ∀ r s, f_X9_fleet s a0 (fun r2 s2 => f_X9_thrown s2 (TL R r r2)) → QQ r s) : f_L_fleet σ a0 QQ := by
  unfold f_L_fleet
  exact case_PT (pr_fleet h a0) ks_C hR (kx_C (QQ := QQ)) hQ
set_option maxHeartbeats 4000000 in
set_option maxRecDepth 100000 in
theorem law_step {L : Nat} {xs : Nat → Int32} {σ : St} {l4 : Int32} {rec : St → Int32 → Prop} (h : INVX σ) (hR : ∀ s, INVX s → rec s (l4 + 6)) (v0 : vp_in l4 L) (v1 : vp_in (l4 + (1 : Int32)) L) (v2 : vp_in (l4 + (2 : Int32)) L) (v3 : vp_in (l4 + (3 : Int32)) L) (v4 : vp_in (l4 + (4 : Int32)) L) (v5 : vp_in (l4 + (5 : Int32)) L) (hge : ¬ ((Int32.ofNat L) - (6 : Int32)) < l4) : f_L_law_23 L xs rec σ l4 := by
  unfold f_L_law_23
  refine br0 hge ⟨v0, ?_⟩
  by_cases c0 : ((xs l4.toNatClampNeg) &&& (31 : Int32)) = (0 : Int32)
  · exact br1 c0 ⟨v1, v2, v3, cs_sound h _ _ _ (R := fun s => rec s (l4 + 6)) hR (fun r s hh => ⟨v1, v2, v3, hh⟩)⟩
  refine br0 c0 ?_
  by_cases c1 : ((xs l4.toNatClampNeg) &&& (31 : Int32)) = (1 : Int32)
  · exact br1 c1 ⟨v1, v2, v3, cs_soundRow h _ _ _ (R := fun s => rec s (l4 + 6)) hR (fun r s hh => ⟨v1, v2, v3, hh⟩)⟩
  refine br0 c1 ?_
  by_cases c2 : ((xs l4.toNatClampNeg) &&& (31 : Int32)) = (2 : Int32)
  · refine br1 c2 ⟨v1, v2, ?_⟩
    by_cases z : xs (l4 + (2 : Int32)).toNatClampNeg = 0
    · exact br1 z (case_crack h _ _ (R := fun s => rec s (l4 + 6)) hR (fun r s hh => ⟨v1, v2, br1 z hh⟩))
    · exact br0 z (case_crack h _ _ (R := fun s => rec s (l4 + 6)) hR (fun r s hh => ⟨v1, v2, br0 z hh⟩))
  refine br0 c2 ?_
  by_cases c3 : ((xs l4.toNatClampNeg) &&& (31 : Int32)) = (3 : Int32)
  · exact br1 c3 ⟨v1, cs_hour h _ (R := fun s => rec s (l4 + 6)) hR (fun r s hh => ⟨v1, hh⟩)⟩
  refine br0 c3 ?_
  by_cases c4 : ((xs l4.toNatClampNeg) &&& (31 : Int32)) = (4 : Int32)
  · exact br1 c4 ⟨v1, v2, cs_ice h _ _ (R := fun s => rec s (l4 + 6)) hR (fun r s hh => ⟨v1, v2, hh⟩)⟩
  refine br0 c4 ?_
  by_cases c5 : ((xs l4.toNatClampNeg) &&& (31 : Int32)) = (5 : Int32)
  · exact br1 c5 ⟨v1, v2, cs_lasts h _ _ (R := fun s => rec s (l4 + 6)) hR (fun r s hh => ⟨v1, v2, hh⟩)⟩
  refine br0 c5 ?_
  by_cases c6 : ((xs l4.toNatClampNeg) &&& (31 : Int32)) = (6 : Int32)
  · exact br1 c6 ⟨v1, cs_wind h _ (R := fun s => rec s (l4 + 6)) hR (fun r s hh => ⟨v1, hh⟩)⟩
  refine br0 c6 ?_
  by_cases c7 : ((xs l4.toNatClampNeg) &&& (31 : Int32)) = (7 : Int32)
  · exact br1 c7 (case_PN (pr_course h) (R := fun s => rec s (l4 + 6)) hR (fun r s hh => hh))
  refine br0 c7 ?_
  by_cases c8 : ((xs l4.toNatClampNeg) &&& (31 : Int32)) = (8 : Int32)
  · exact br1 c8 ⟨v1, cs_move h _ (R := fun s => rec s (l4 + 6)) hR (fun r s hh => ⟨v1, hh⟩)⟩
  refine br0 c8 ?_
  by_cases c9 : ((xs l4.toNatClampNeg) &&& (31 : Int32)) = (9 : Int32)
  · exact br1 c9 ⟨v1, cs_mark h _ (R := fun s => rec s (l4 + 6)) hR (fun r s hh => ⟨v1, hh⟩)⟩
  refine br0 c9 ?_
  by_cases c10 : ((xs l4.toNatClampNeg) &&& (31 : Int32)) = (10 : Int32)
  · exact br1 c10 (case_PN (pr_holds h) (R := fun s => rec s (l4 + 6)) hR (fun r s hh => hh))
  refine br0 c10 ?_
  by_cases c11 : ((xs l4.toNatClampNeg) &&& (31 : Int32)) = (11 : Int32)
  · exact br1 c11 ⟨v1, v2, v3, v4, v5, case_PN (pr_feed h _ _ _ _ _) (R := fun s => rec s (l4 + 6)) hR (fun r s hh => ⟨v1, v2, v3, v4, v5, hh⟩)⟩
  refine br0 c11 ?_
  by_cases c12 : ((xs l4.toNatClampNeg) &&& (31 : Int32)) = (12 : Int32)
  · exact br1 c12 ⟨v1, cs_rule h _ (R := fun s => rec s (l4 + 6)) hR (fun r s hh => ⟨v1, hh⟩)⟩
  refine br0 c12 ?_
  by_cases c13 : ((xs l4.toNatClampNeg) &&& (31 : Int32)) = (13 : Int32)
  · exact br1 c13 (case_PN (pr_fault h) (R := fun s => rec s (l4 + 6)) hR (fun r s hh => hh))
  refine br0 c13 ?_
  by_cases c14 : ((xs l4.toNatClampNeg) &&& (31 : Int32)) = (14 : Int32)
  · exact br1 c14 (cs_boat h (R := fun s => rec s (l4 + 6)) hR (fun r s hh => hh))
  refine br0 c14 ?_
  by_cases c15 : ((xs l4.toNatClampNeg) &&& (31 : Int32)) = (15 : Int32)
  · exact br1 c15 ⟨v1, v2, v3, v4, cs_place h _ _ _ _ (R := fun s => rec s (l4 + 6)) hR (fun r s hh => ⟨v1, v2, v3, v4, hh⟩)⟩
  refine br0 c15 ?_
  by_cases c16 : ((xs l4.toNatClampNeg) &&& (31 : Int32)) = (16 : Int32)
  · exact br1 c16 ⟨v1, v2, cs_clear h _ _ (R := fun s => rec s (l4 + 6)) hR (fun r s hh => ⟨v1, v2, hh⟩)⟩
  refine br0 c16 ?_
  by_cases c17 : ((xs l4.toNatClampNeg) &&& (31 : Int32)) = (17 : Int32)
  · exact br1 c17 ⟨v1, cs_finish h _ (R := fun s => rec s (l4 + 6)) hR (fun r s hh => ⟨v1, hh⟩)⟩
  refine br0 c17 ?_
  by_cases c18 : ((xs l4.toNatClampNeg) &&& (31 : Int32)) = (18 : Int32)
  · exact br1 c18 (case_PN (pr_end h) (R := fun s => rec s (l4 + 6)) hR (fun r s hh => hh))
  refine br0 c18 ?_
  by_cases c19 : ((xs l4.toNatClampNeg) &&& (31 : Int32)) = (19 : Int32)
  · exact br1 c19 ⟨v1, v2, cs_points h _ _ (R := fun s => rec s (l4 + 6)) hR (fun r s hh => ⟨v1, v2, hh⟩)⟩
  refine br0 c19 ?_
  by_cases c20 : ((xs l4.toNatClampNeg) &&& (31 : Int32)) = (20 : Int32)
  · exact br1 c20 ⟨v1, cs_score h _ (R := fun s => rec s (l4 + 6)) hR (fun r s hh => ⟨v1, hh⟩)⟩
  refine br0 c20 ?_
  by_cases c21 : ((xs l4.toNatClampNeg) &&& (31 : Int32)) = (21 : Int32)
  · exact br1 c21 ⟨v1, case_PN (pr_rank h _) (R := fun s => rec s (l4 + 6)) hR (fun r s hh => ⟨v1, hh⟩)⟩
  refine br0 c21 ?_
  by_cases c22 : ((xs l4.toNatClampNeg) &&& (31 : Int32)) = (22 : Int32)
  · exact br1 c22 ⟨v1, cs_part h _ (R := fun s => rec s (l4 + 6)) hR (fun r s hh => ⟨v1, hh⟩)⟩
  refine br0 c22 ?_
  by_cases c23 : ((xs l4.toNatClampNeg) &&& (31 : Int32)) = (23 : Int32)
  · exact br1 c23 ⟨v1, cs_promote h _ (R := fun s => rec s (l4 + 6)) hR (fun r s hh => ⟨v1, hh⟩)⟩
  refine br0 c23 ?_
  by_cases c24 : ((xs l4.toNatClampNeg) &&& (31 : Int32)) = (24 : Int32)
  · exact br1 c24 ⟨v1, cs_fleet h _ (R := fun s => rec s (l4 + 6)) hR (fun r s hh => ⟨v1, hh⟩)⟩
  refine br0 c24 ?_
  by_cases c25 : ((xs l4.toNatClampNeg) &&& (31 : Int32)) = (25 : Int32)
  · exact br1 c25 ⟨v1, case_PN (pr_noise h _) (R := fun s => rec s (l4 + 6)) hR (fun r s hh => ⟨v1, hh⟩)⟩
  refine br0 c25 ?_
  by_cases c26 : ((xs l4.toNatClampNeg) &&& (31 : Int32)) = (26 : Int32)
  · exact br1 c26 (case_PN (pr_draw h) (R := fun s => rec s (l4 + 6)) hR (fun r s hh => hh))
  refine br0 c26 ?_
  by_cases c27 : ((xs l4.toNatClampNeg) &&& (31 : Int32)) = (27 : Int32)
  · exact br1 c27 ⟨v1, case_PN (pr_lot h _) (R := fun s => rec s (l4 + 6)) hR (fun r s hh => ⟨v1, hh⟩)⟩
  refine br0 c27 ?_
  by_cases c28 : ((xs l4.toNatClampNeg) &&& (31 : Int32)) = (28 : Int32)
  · exact br1 c28 ⟨v1, case_PN (pr_count h _) (R := fun s => rec s (l4 + 6)) hR (fun r s hh => ⟨v1, hh⟩)⟩
  refine br0 c28 ?_
  exact hR σ h
/-- the law's loop comes to its end -/
theorem law_loop {L : Nat} (hL : L ≤ 3072) {xs : Nat → Int32} : ∀ (n i : Nat) (σ : St), INVX σ → i ≤ L → L < i + 6 * n → f_L_law_23L L xs n σ (nI i) := by
  intro n
  induction n with
  | zero => intro i σ h hi hn; omega
  | succ n ih =>
    intro i σ h hi hn
    show f_L_law_23 L xs (f_L_law_23L L xs n) σ (nI i)
    have e : ((nI L) - (6 : Int32)).toInt = (L : Int) - 6 := pk_sub_toInt (a := L) (b := 6) (by omega) (by decide)
    by_cases hend : i + 6 ≤ L
    · have hadd : ∀ k : Nat, nI i + nI k = nI (i + k) := fun k => nI_add i k
      refine law_step h (fun s hs => ?_) (v_in (by omega) (by omega)) (by rw [show nI i + (1 : Int32) = nI (i + 1) from hadd 1]; exact v_in (by omega) (by omega)) (by rw [show nI i + (2 : Int32) = nI (i + 2) from hadd 2]; exact v_in (by omega) (by omega)) (by rw [show nI i + (3 : Int32) = nI (i + 3) from hadd 3]; exact v_in (by omega) (by omega)) (by rw [show nI i + (4 : Int32) = nI (i + 4) from hadd 4]; exact v_in (by omega) (by omega)) (by rw [show nI i + (5 : Int32) = nI (i + 5) from hadd 5]; exact v_in (by omega) (by omega)) ?_
      · rw [show nI i + (6 : Int32) = nI (i + 6) from hadd 6]
        exact ih (i + 6) s hs hend (by omega)
      · show ¬ (nI L - 6) < nI i
        rw [i_lt, e, nI_toInt (by omega)]
        omega
    · unfold f_L_law_23
      have hlt : (nI L - 6) < nI i := by
        rw [i_lt, e, nI_toInt (by omega)]
        omega
      exact br1 hlt trivial
