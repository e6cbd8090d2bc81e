theorem semi_J2 {B : Nat → Nat} {L a b m ic dr fr q : Nat} {ρ : Nat → Nat} {σ : St} (h : PX B L a m ic dr fr q ρ σ) (hb : b ≤ L) (hab : skp B L b = skp B L a) : JO B L m σ (fun Q => f_X7_readSemicolon σ (KX Q)) (PMM B L b ic dr fr q ρ) (fun τ Q => f_X9_clause_91 Q τ) := by
  obtain ⟨hT, ha, h5, h6, h7, h13, hD, hB⟩ := h
  have hT2 := hT.1
  have hs := (skp_le (B := B) (L := L) (a := a)).2 ha
  cases e : smc B L (skp B L a)
  · refine Or.inl ⟨1, skp B L a, by omega, by omega, by omega, ⟨_, ((((FX.refl σ).si (by omega) (nI (skp B L a)) (k := 5)).si (k := 6) (by omega) 1).si (k := 7) (by omega) (nI (skp B L a))), rfl, rfl, fun Q hQ => ?_⟩, fun τ hτ => ?_⟩
    · exact s_semi hT h5 ha (fun q => by rw [e] at q; exact absurd q (by decide)) (fun _ => br1 rfl hQ)
    · obtain ⟨g1, g2, g3, g4, g5⟩ := hτ
      refine ⟨_, (((((FM.refl τ).si (k := 30) (by omega) (nI (skp B L a))).si (k := 31) (by omega) 1).si (k := 32) (by omega) (nI (skp B L a))).si (k := 30) (by omega) (nI (skp B L a + 1))), rfl, rfl, ⟨skp B L a + 1, by omega, rfl⟩, fun Q hQ => ?_⟩
      exact t_semi g1 g2 g3 hb (fun q => by rw [hab, e] at q; exact absurd q (by decide)) (fun _ => by rw [hab]; exact hQ)
  · have hlt := (of_decide_eq_true e).1
    refine Or.inr ⟨skp B L a + 1, ic, dr, fr, q, ρ, ⟨_, ((FX.refl σ).si (by omega) (nI (skp B L a + 1)) (k := 5)), ⟨hT.si (by decide) _, by omega, rfl, h6, h7, h13, hD, hB⟩, fun Q hQ => ?_⟩, fun τ hτ => ?_⟩
    · exact s_semi hT h5 ha (fun _ => br0 (by decide) hQ) (fun q => by rw [e] at q; exact absurd q (by decide))
    · obtain ⟨g1, g2, g3, g4, g5⟩ := hτ
      refine ⟨_, ((FM.refl τ).si (k := 30) (by omega) (nI (skp B L a + 1))), ⟨g1.si (by decide) _, rfl, g3, g4, g5⟩, fun Q hQ => ?_⟩
      exact t_semi g1 g2 g3 hb (fun _ => by rw [hab]; exact hQ) (fun q => by rw [hab, e] at q; exact absurd q (by decide))
theorem wy_sm {B : Nat → Nat} {L s : Nat} (h : wyN B L s < 3) : sm B L s = true := by
  have h1 := wy_len h
  have h2 := wl_le (w := 4 + wyN B L s) (by omega)
  exact (run_spec (c := sm B L) (L := L) sm_lt (L - s) s rfl).1 s (Nat.le_refl _) (by show s < wnd B L s; omega)
theorem sm_semi {B : Nat → Nat} {L s : Nat} (h : sm B L s = true) : smc B L s = false := by
  have := of_decide_eq_true h
  exact decide_eq_false (by omega)
theorem wyI_lt {B : Nat → Nat} {L s : Nat} (h : wyN B L s < 3) : wyI B L s = nI (wyN B L s) := by unfold wyI; rw [if_pos h]
theorem wyI_no {B : Nat → Nat} {L s : Nat} (h : ¬ wyN B L s < 3) : wyI B L s = -1 := by unfold wyI; rw [if_neg h]
theorem s_28 {B : Nat → Nat} {L a q : Nat} {ρ : Nat → Nat} {σ : St} (hT : TX B L σ) (ha : a ≤ L) (h5 : gi σ 5 = nI a) (hq : q < 3) (e17 : gi σ 17 = nI q) (e15 : ∀ j, j < q → ga σ 15 j = nI (ρ j)) (hρ : ∀ j, j < q → ρ j < 3) {Q : Int32 → St → Prop} {K : St → Int32 → Prop}
    (h0 : (¬ wyN B L (skp B L a) < 3 ∨ ∃ j, j < q ∧ ρ j = wyN B L (skp B L a)) → Q 0 (si (si (si σ 5 (nI (wnd B L (skp B L a)))) 6 1) 7 (nI (skp B L a))))
    (h1 : wyN B L (skp B L a) < 3 → (¬ ∃ j, j < q ∧ ρ j = wyN B L (skp B L a)) → K (si (sa (si σ 5 (nI (wnd B L (skp B L a)))) 15 (upd (ga σ 15) q (nI (wyN B L (skp B L a))))) 17 (nI (q + 1))) (nI (q + 1))) : f_X7_readRights_28 Q K σ (nI q) := by
  have hs := (skp_le (B := B) (L := L) (a := a)).2 ha
  unfold f_X7_readRights_28 f_X7_refuse
  refine s_readWord hT h5 ha (s_rightAt (hT.si (by decide) _) hs rfl ?_)
  by_cases hw : wyN B L (skp B L a) < 3
  · rw [wyI_lt hw, nI_1 q]
    refine br0 (nI_m1 (by omega)) ?_
    unfold f_X6_addRight
    refine l_addRight (σ := si σ 5 (nI (wnd B L (skp B L a)))) (q := q) (v := wyN B L (skp B L a)) (ρ := ρ) (by omega) hw e17 e15 hρ (fun hd => ?_) (fun hd => ?_) q FU 0 (by omega) (by rw [FU_eq]; omega) (fun i hi => absurd hi (by omega))
    · exact bn0 rfl ⟨z0, h0 (Or.inr hd)⟩
    · exact ⟨hq, bn1 (by decide) (h1 hw hd)⟩
  · rw [wyI_no hw]
    exact br1 rfl ⟨z0, h0 (Or.inl hw)⟩
theorem t_w36_bad {τ : St} {q v : Nat} {ρ : Nat → Nat} (hq : q ≤ 3) (e31 : gi τ 31 = nI 1) (e40 : gi τ 40 = nI q) {Q : St → Prop} {K : St → Int32 → Prop} (h : Q τ) : ∀ f m j : Nat, j + f = q → f < m → f_X9_ways_36L Q K m τ (nI v) (nI j) := by
  intro f
  induction f with
  | zero =>
    intro m j hj hm
    obtain ⟨m, rfl, -⟩ := suc_of hm
    show f_X9_ways_36 Q K _ _ _ _
    unfold f_X9_ways_36
    rw [e40]
    refine br1 (nI_le (by omega) (by omega)) (br0 ?_ h)
    rw [e31]; decide
  | succ f ih =>
    intro m j hj hm
    obtain ⟨m, rfl, -⟩ := suc_of hm
    show f_X9_ways_36 Q K _ _ _ _
    unfold f_X9_ways_36
    rw [e40, nI_1 j]
    have ih := ih m (j + 1) (by omega) (by omega)
    refine br0 (nI_ge (by omega) (by omega)) ⟨v_in (by omega) (by decide), fun _ => ih, fun _ => ?_⟩
    exact t_wrong_bad e31 (by omega) (by omega) ih
theorem t_w36 {τ : St} {q v s : Nat} {ρ : Nat → Nat} (hq : q ≤ 3) (hv : v < 3) (e31 : gi τ 31 = 0) (e30 : gi τ 30 = nI s) (e40 : gi τ 40 = nI q) (e34 : ∀ j, j < q → ga τ 34 j = nI (ρ j)) (hρ : ∀ j, j < q → ρ j < 3) {Q : St → Prop} {K : St → Int32 → Prop}
    (h0 : (∃ j, j < q ∧ ρ j = v) → Q (si (si τ 31 1) 32 (nI s)))
    (h1 : (¬ ∃ j, j < q ∧ ρ j = v) → q < 3 ∧ f_X9_wayHere (si (si (sa τ 34 (upd (ga τ 34) q (nI v))) 40 (nI (q + 1))) 30 (nI (s + wl_ (4 + v)))) (fun r s => K s r)) : ∀ f m j : Nat, j + f = q → f < m → (∀ i, i < j → ¬ ρ i = v) → f_X9_ways_36L Q K m τ (nI v) (nI j) := by
  intro f
  induction f with
  | zero =>
    intro m j hj hm hi
    obtain ⟨m, rfl, -⟩ := suc_of hm
    obtain rfl : j = q := by omega
    obtain ⟨h2, h3⟩ := h1 (fun ⟨i, a, b⟩ => hi i a b)
    show f_X9_ways_36 Q K _ _ _ _
    unfold f_X9_ways_36
    have e30' : ∀ x y, gi (si (sa τ 34 x) 40 y) 30 = nI s := fun _ _ => e30
    rw [gi_sa, e40, e31, cl (by omega : j < 2 ^ 31), nI_1 j, e30']
    refine br1 (nI_le (by omega) (by omega)) (br1 (by decide) ⟨v_in h2 (by decide), ?_⟩)
    obtain rfl | rfl | rfl : v = 0 ∨ v = 1 ∨ v = 2 := by omega
    · refine bn0 rfl ?_
      rw [show nI s + (9 : Int32) = nI (s + 9) from nI_add s 9]
      exact h3
    · refine bn1 (by decide) (bn0 rfl ?_)
      rw [show nI s + (7 : Int32) = nI (s + 7) from nI_add s 7]
      exact h3
    · refine bn1 (by decide) (bn1 (by decide) ?_)
      rw [show nI s + (5 : Int32) = nI (s + 5) from nI_add s 5]
      exact h3
  | succ f ih =>
    intro m j hj hm hi
    obtain ⟨m, rfl, -⟩ := suc_of hm
    show f_X9_ways_36 Q K _ _ _ _
    unfold f_X9_ways_36
    have hr := hρ j (by omega)
    rw [e40, cl (by omega : j < 2 ^ 31), e34 j (by omega), nI_eq (by omega) (by omega), nI_1 j, e30]
    refine br0 (nI_ge (by omega) (by omega)) ⟨v_in (by omega) (by decide), ?_⟩
    by_cases z : ρ j = v
    · refine bn0 z (t_wrong e31 ?_)
      exact t_w36_bad (τ := si (si τ 31 1) 32 (nI s)) (ρ := ρ) hq rfl e40 (h0 ⟨j, by omega, z⟩) f m (j + 1) (by omega) (by omega)
    · refine bn1 z (ih m (j + 1) (by omega) (by omega) (fun i hi2 => ?_))
      by_cases e : i = j
      · subst e; exact z
      · exact hi i (by omega)
def KR (Q : Int32 → St → Prop) : Int32 → St → Prop := fun r101 s101 => ((r101 = 0 → Q (0 : Int32) s101) ∧ (¬ r101 = 0 → f_X7_readSemicolon s101 (KX Q)))
def insR (ρ : Nat → Nat) (q v : Nat) : Nat → Nat := fun j => if j = q then v else ρ j
theorem insR_row {ρ : Nat → Nat} {q v : Nat} {f : Nat → Int32} (h : ∀ j, j < q → f j = nI (ρ j)) : ∀ j, j < q + 1 → upd f q (nI v) j = nI (insR ρ q v j) := by
  intro j hj
  unfold insR
  by_cases e : j = q
  · subst e; rw [upd_at, if_pos rfl]
  · rw [pk_un e, if_neg e]; exact h j (by omega)
theorem insR_B {ic dr fr q v : Nat} {ρ : Nat → Nat} (h : DB ic dr fr q ρ) (hq : q < 3) (hv : v < 3) (hd : ¬ ∃ j, j < q ∧ ρ j = v) : DB ic dr fr (q + 1) (insR ρ q v) := by
  obtain ⟨h1, h2, h3, h4, h5, h6⟩ := h
  refine ⟨h1, h2, h3, by omega, fun j hj => ?_, fun i j hi hj e => ?_⟩
  · unfold insR
    by_cases e : j = q
    · rw [if_pos e]; exact hv
    · rw [if_neg e]; exact h5 j (by omega)
  · unfold insR at e
    by_cases e1 : i = q <;> by_cases e2 : j = q
    · omega
    · rw [if_pos e1, if_neg e2] at e
      exact absurd ⟨j, by omega, e.symm⟩ hd
    · rw [if_neg e1, if_pos e2] at e
      exact absurd ⟨i, by omega, e⟩ hd
    · rw [if_neg e1, if_neg e2] at e
      exact h6 i j (by omega) (by omega) e
/-- the reference at the head of its loop: a word of a right that is new, or told, or none -/
theorem t_hd {B : Nat → Nat} {L s ic dr fr q : Nat} {ρ : Nat → Nat} {τ : St} (h : PMM B L s ic dr fr q ρ τ) (hB : DB ic dr fr q ρ) (hs : s ≤ L) (hss : skp B L s = s) (hw : wyN B L s < 3) (n' : Nat) :
    ((∃ j, j < q ∧ ρ j = wyN B L s) → ∀ Q : St → Prop, Q (si (si τ 31 1) 32 (nI s)) → f_X9_ways_23L (fun s76 => f_X9_clause_91 Q s76) (n' + 1) τ (wyI B L s)) ∧
    ((¬ ∃ j, j < q ∧ ρ j = wyN B L s) → q < 3 → ∃ τ', FM τ τ' ∧ PMM B L (skp B L (wnd B L s)) ic dr fr (q + 1) (insR ρ q (wyN B L s)) τ' ∧ ∀ Q : St → Prop, f_X9_ways_23L (fun s76 => f_X9_clause_91 Q s76) n' τ' (wyI B L (skp B L (wnd B L s))) → f_X9_ways_23L (fun s76 => f_X9_clause_91 Q s76) (n' + 1) τ (wyI B L s)) := by
  obtain ⟨hT, h30, h31, h32, hD1, hD2, hD3, hD4, hD5⟩ := h
  obtain ⟨b1, b2, b3, b4, b5, b6⟩ := id hB
  have hlen := wy_len hw
  have hwe := (wnd_le (B := B) (L := L) (a := s)).2 hs
  have hT2 := hT.1
  rw [wyI_lt hw]
  constructor
  · intro hd Q hQ
    show f_X9_ways_23 (fun s76 => f_X9_clause_91 Q s76) _ _ _
    unfold f_X9_ways_23
    refine br0 (nI_pos (by omega)) (bn0 h31 ?_)
    refine t_w36 (s := s) b4 hw h31 h30 hD4 hD5 b5 (fun _ => ?_) (fun q => absurd hd q) q FU 0 (by omega) (by rw [FU_eq]; omega) (fun i hi => absurd hi (by omega))
    exact t_semi_bad (q := 1) rfl (by omega) (by omega) hQ
  · intro hd hq
    refine ⟨si (si (si (sa τ 34 (upd (ga τ 34) q (nI (wyN B L s)))) 40 (nI (q + 1))) 30 (nI (s + wl_ (4 + wyN B L s)))) 30 (nI (skp B L (s + wl_ (4 + wyN B L s)))), ((((FM.refl τ).sa _).si (by omega) _).si (by omega) _).si (by omega) _, ?_, fun Q hQ => ?_⟩
    · rw [hlen]
      exact ⟨hT, rfl, h31, h32, hD1, hD2, hD3, rfl, insR_row hD5⟩
    · show f_X9_ways_23 (fun s76 => f_X9_clause_91 Q s76) _ _ _
      unfold f_X9_ways_23
      refine br0 (nI_pos (by omega)) (bn0 h31 ?_)
      refine t_w36 (s := s) b4 hw h31 h30 hD4 hD5 b5 (fun q => absurd q hd) (fun _ => ⟨hq, ?_⟩) q FU 0 (by omega) (by rw [FU_eq]; omega) (fun i hi => absurd hi (by omega))
      refine t_wayHere (B := B) (L := L) (a := s + wl_ (4 + wyN B L s)) (σ := si (si (sa τ 34 (upd (ga τ 34) q (nI (wyN B L s)))) 40 (nI (q + 1))) 30 (nI (s + wl_ (4 + wyN B L s)))) hT (by omega) rfl ?_
      rw [hlen] at hQ
      exact hQ
theorem t_stop {B : Nat → Nat} {L s : Nat} {τ : St} (hw : ¬ wyN B L s < 3) {n' : Nat} {Q : St → Prop} (h : f_X9_clause_91 Q τ) : f_X9_ways_23L (fun s76 => f_X9_clause_91 Q s76) (n' + 1) τ (wyI B L s) := by
  rw [wyI_no hw]
  show f_X9_ways_23 (fun s76 => f_X9_clause_91 Q s76) _ _ _
  unfold f_X9_ways_23
  exact br1 (by decide) h
theorem rights_J {B : Nat → Nat} {L m ic dr fr : Nat} : ∀ (f q : Nat), f + q = 3 → 1 ≤ q → ∀ (a : Nat) (ρ : Nat → Nat) (σ : St) (n n' : Nat), f < n → f < n' → PX B L a m ic dr fr q ρ σ →
    JO B L m σ (fun Q => f_X7_readRights_10L (KR Q) n σ (nI q)) (PMM B L (skp B L a) ic dr fr q ρ) (fun τ Q => f_X9_ways_23L (fun s76 => f_X9_clause_91 Q s76) n' τ (wyI B L (skp B L a))) := by
  intro f
  induction f with
  | zero =>
    intro q hf hq1 a ρ σ n n' hn hn' h
    obtain ⟨n, rfl, -⟩ := suc_of hn
    obtain ⟨n', rfl, -⟩ := suc_of hn'
    obtain rfl : q = 3 := by omega
    obtain ⟨hT, ha, h5, h6, h7, h13, hD, hB⟩ := id h
    have hs := (skp_le (B := B) (L := L) (a := a)).2 ha
    have hT2 := hT.1
    have hX : ∀ Q, f_X7_readSemicolon σ (KX Q) → f_X7_readRights_10L (KR Q) (n + 1) σ (nI 3) := by
      intro Q hQ
      show f_X7_readRights_10 (KR Q) _ _ _
      unfold f_X7_readRights_10
      exact br1 (by decide) (br0 (by decide) hQ)
    by_cases hw : wyN B L (skp B L a) < 3
    · have hsm := sm_semi (wy_sm hw)
      have hdup : ∃ j, j < 3 ∧ ρ j = wyN B L (skp B L a) := by
        obtain ⟨b1, b2, b3, b4, b5, b6⟩ := hB
        have r0 := b5 0 (by omega)
        have r1 := b5 1 (by omega)
        have r2 := b5 2 (by omega)
        have n01 : ¬ ρ 0 = ρ 1 := fun e => absurd (b6 0 1 (by omega) (by omega) e) (by omega)
        have n02 : ¬ ρ 0 = ρ 2 := fun e => absurd (b6 0 2 (by omega) (by omega) e) (by omega)
        have n12 : ¬ ρ 1 = ρ 2 := fun e => absurd (b6 1 2 (by omega) (by omega) e) (by omega)
        by_cases e0 : ρ 0 = wyN B L (skp B L a)
        · exact ⟨0, by omega, e0⟩
        · by_cases e1 : ρ 1 = wyN B L (skp B L a)
          · exact ⟨1, by omega, e1⟩
          · exact ⟨2, by omega, by omega⟩
      refine Or.inl ⟨1, skp B L a, by omega, by omega, by omega, ⟨_, ((((FX.refl σ).si (by omega) (nI (skp B L a)) (k := 5)).si (k := 6) (by omega) 1).si (k := 7) (by omega) (nI (skp B L a))), rfl, rfl, fun Q hQ => hX Q ?_⟩, fun τ hτ => ?_⟩
      · exact s_semi hT h5 ha (fun q => by rw [hsm] at q; exact absurd q (by decide)) (fun _ => br1 rfl hQ)
      · exact ⟨_, ((FM.refl τ).si (k := 31) (by omega) 1).si (k := 32) (by omega) (nI (skp B L a)), rfl, rfl, ⟨skp B L a, by omega, hτ.2.1⟩, fun Q hQ => (t_hd hτ hB hs skp_skp hw n').1 hdup Q hQ⟩
    · exact JO_back (FX.refl σ) hX (fun τ hτ => ⟨τ, FM.refl τ, hτ, fun Q hQ => t_stop hw hQ⟩) (semi_J2 h hs skp_skp)
  | succ f ih =>
    intro q hf hq1 a ρ σ n n' hn hn' h
    obtain ⟨n, rfl, -⟩ := suc_of hn
    obtain ⟨n', rfl, -⟩ := suc_of hn'
    obtain ⟨hT, ha, h5, h6, h7, h13, hD, hB⟩ := id h
    have hs := (skp_le (B := B) (L := L) (a := a)).2 ha
    have hw2 := (wnd_le (B := B) (L := L) (a := skp B L a)).2 hs
    have hT2 := hT.1
    cases hsm : smc B L (skp B L a)
    · have hX : ∀ Q, f_X7_readRights_28 (KR Q) (f_X7_readRights_10L (KR Q) n) (si σ 5 (nI (skp B L a))) (nI q) → f_X7_readRights_10L (KR Q) (n + 1) σ (nI q) := by
        intro Q hQ
        show f_X7_readRights_10 (KR Q) _ _ _
        unfold f_X7_readRights_10
        refine br0 (nI_ge (b := 3) (by omega) (by decide)) (br0 (nI_nle (by omega) (by omega)) (s_semiN hT h5 ha ?_))
        rw [hsm]
        exact br1 rfl hQ
      by_cases hw : wyN B L (skp B L a) < 3
      · by_cases hd : ∃ j, j < q ∧ ρ j = wyN B L (skp B L a)
        · refine Or.inl ⟨1, skp B L a, by omega, by omega, by omega, ⟨_, ((((FX.refl σ).si (by omega) (nI (wnd B L (skp B L a))) (k := 5)).si (k := 6) (by omega) 1).si (k := 7) (by omega) (nI (skp B L a))), rfl, rfl, fun Q hQ => hX Q ?_⟩, fun τ hτ => ?_⟩
          · refine s_28 (σ := si σ 5 (nI (skp B L a))) (q := q) (B := B) (L := L) (a := skp B L a) (ρ := ρ) (hT.si (by decide) _) hs rfl (by omega) hD.2.2.2.1 hD.2.2.2.2 hB.2.2.2.2.1 (fun _ => ?_) (fun _ q => ?_)
            · rw [skp_skp, si_si]
              exact br1 rfl hQ
            · rw [skp_skp] at q; exact absurd hd q
          · exact ⟨_, ((FM.refl τ).si (k := 31) (by omega) 1).si (k := 32) (by omega) (nI (skp B L a)), rfl, rfl, ⟨skp B L a, by omega, hτ.2.1⟩, fun Q hQ => (t_hd hτ hB hs skp_skp hw n').1 hd Q hQ⟩
        · refine JO_back (σ' := si (sa (si σ 5 (nI (wnd B L (skp B L a)))) 15 (upd (ga σ 15) q (nI (wyN B L (skp B L a))))) 17 (nI (q + 1))) (fX' := fun Q => f_X7_readRights_10L (KR Q) n (si (sa (si σ 5 (nI (wnd B L (skp B L a)))) 15 (upd (ga σ 15) q (nI (wyN B L (skp B L a))))) 17 (nI (q + 1))) (nI (q + 1))) ((((FX.refl σ).si (by omega) _).sa _).si (by omega) _) (fun Q hQ => hX Q ?_) (fun τ hτ => ?_) (ih (q + 1) (by omega) (by omega) (wnd B L (skp B L a)) (insR ρ q (wyN B L (skp B L a))) (si (sa (si σ 5 (nI (wnd B L (skp B L a)))) 15 (upd (ga σ 15) q (nI (wyN B L (skp B L a))))) 17 (nI (q + 1))) n n' (by omega) (by omega) ?_)
          · refine s_28 (σ := si σ 5 (nI (skp B L a))) (q := q) (B := B) (L := L) (a := skp B L a) (ρ := ρ) (hT.si (by decide) _) hs rfl (by omega) hD.2.2.2.1 hD.2.2.2.2 hB.2.2.2.2.1 (fun q => ?_) (fun _ _ => ?_)
            · rw [skp_skp] at q; exact q.elim (fun q => absurd hw q) (fun q => absurd q hd)
            · rw [skp_skp, si_si]
              exact hQ
          · exact (t_hd hτ hB hs skp_skp hw n').2 hd (by omega)
          · exact ⟨hT, hw2, rfl, h6, h7, h13, ⟨hD.1, hD.2.1, hD.2.2.1, rfl, insR_row hD.2.2.2.2⟩, insR_B hB (by omega) hw hd⟩
      · refine Or.inl ⟨1, skp B L a, by omega, by omega, by omega, ⟨_, ((((FX.refl σ).si (by omega) (nI (wnd B L (skp B L a))) (k := 5)).si (k := 6) (by omega) 1).si (k := 7) (by omega) (nI (skp B L a))), rfl, rfl, fun Q hQ => hX Q ?_⟩, fun τ hτ => ?_⟩
        · refine s_28 (σ := si σ 5 (nI (skp B L a))) (q := q) (B := B) (L := L) (a := skp B L a) (ρ := ρ) (hT.si (by decide) _) hs rfl (by omega) hD.2.2.2.1 hD.2.2.2.2 hB.2.2.2.2.1 (fun _ => ?_) (fun q _ => ?_)
          · rw [skp_skp, si_si]
            exact br1 rfl hQ
          · rw [skp_skp] at q; exact absurd q hw
        · obtain ⟨g1, g2, g3, g4, g5⟩ := hτ
          refine ⟨_, (((((FM.refl τ).si (k := 30) (by omega) (nI (skp B L a))).si (k := 31) (by omega) 1).si (k := 32) (by omega) (nI (skp B L a))).si (k := 30) (by omega) (nI (skp B L a + 1))), rfl, rfl, ⟨skp B L a + 1, by omega, rfl⟩, fun Q hQ => t_stop hw ?_⟩
          exact t_semi g1 g2 g3 hs (fun q => by rw [skp_skp, hsm] at q; exact absurd q (by decide)) (fun _ => by rw [skp_skp]; exact hQ)
    · have hw : ¬ wyN B L (skp B L a) < 3 := fun q => by
        have := sm_semi (wy_sm q)
        rw [hsm] at this
        exact absurd this (by decide)
      refine JO_back (σ' := si σ 5 (nI (skp B L a))) (fX' := fun Q => f_X7_readSemicolon (si σ 5 (nI (skp B L a))) (KX Q)) ((FX.refl σ).si (by omega) _) (fun Q hQ => ?_) (fun τ hτ => ⟨τ, FM.refl τ, hτ, fun Q hQ => t_stop hw hQ⟩) (semi_J2 (a := skp B L a) (b := skp B L a) ⟨hT.si (by decide) _, hs, rfl, h6, h7, h13, hD, hB⟩ hs rfl)
      show f_X7_readRights_10 (KR Q) _ _ _
      unfold f_X7_readRights_10
      refine br0 (nI_ge (b := 3) (by omega) (by decide)) (br0 (nI_nle (by omega) (by omega)) (s_semiN hT h5 ha ?_))
      rw [hsm]
      exact br0 (by decide) (br0 (by decide) hQ)
theorem way_J {B : Nat → Nat} {L a m ic dr fr q : Nat} {ρ : Nat → Nat} {σ : St} (h : PX B L a m ic dr fr q ρ σ) : JO B L m σ (fun Q => f_X7_readRights σ (KR Q)) (PMM B L a ic dr fr q ρ) (fun τ Q => f_X9_ways τ (fun s76 => f_X9_clause_91 Q s76)) := by
  obtain ⟨hT, ha, h5, h6, h7, h13, hD, hB⟩ := id h
  have hs := (skp_le (B := B) (L := L) (a := a)).2 ha
  have hw2 := (wnd_le (B := B) (L := L) (a := skp B L a)).2 hs
  have hT2 := hT.1
  have hB0 : DB ic dr fr 0 ρ := ⟨hB.1, hB.2.1, hB.2.2.1, by omega, fun j hj => absurd hj (by omega), fun i j hi => absurd hi (by omega)⟩
  have hX : ∀ Q, f_X7_readRights_28 (KR Q) (f_X7_readRights_10L (KR Q) 999) (si σ 17 0) (nI 0) → f_X7_readRights σ (KR Q) := by
    intro Q hQ
    show f_X7_readRights_10 (KR Q) (f_X7_readRights_10L (KR Q) 999) (si σ 17 0) 0
    unfold f_X7_readRights_10
    exact br0 (by decide) (br1 (by decide) hQ)
  have hd0 : ¬ ∃ j, j < 0 ∧ ρ j = wyN B L (skp B L a) := fun ⟨j, hj, _⟩ => absurd hj (by omega)
  by_cases hw : wyN B L (skp B L a) < 3
  · refine JO_back (σ' := si (sa (si (si σ 17 0) 5 (nI (wnd B L (skp B L a)))) 15 (upd (ga σ 15) 0 (nI (wyN B L (skp B L a))))) 17 (nI (0 + 1))) (fX' := fun Q => f_X7_readRights_10L (KR Q) 999 (si (sa (si (si σ 17 0) 5 (nI (wnd B L (skp B L a)))) 15 (upd (ga σ 15) 0 (nI (wyN B L (skp B L a))))) 17 (nI (0 + 1))) (nI (0 + 1))) (((((FX.refl σ).si (by omega) _).si (by omega) _).sa _).si (by omega) _) (fun Q hQ => hX Q ?_) (fun τ hτ => ?_) (rights_J (ic := ic) (dr := dr) (fr := fr) 2 1 (by omega) (by omega) (wnd B L (skp B L a)) (insR ρ 0 (wyN B L (skp B L a))) (si (sa (si (si σ 17 0) 5 (nI (wnd B L (skp B L a)))) 15 (upd (ga σ 15) 0 (nI (wyN B L (skp B L a))))) 17 (nI (0 + 1))) 999 999 (by omega) (by omega) ?_)
    · refine s_28 (σ := si σ 17 0) (q := 0) (B := B) (L := L) (a := a) (ρ := ρ) (hT.si (by decide) _) ha h5 (by omega) rfl (fun j hj => absurd hj (by omega)) (fun j hj => absurd hj (by omega)) (fun q => ?_) (fun _ _ => hQ)
      exact q.elim (fun q => absurd hw q) (fun q => absurd q hd0)
    · obtain ⟨g1, g2, g3, g4, gD1, gD2, gD3, gD4, gD5⟩ := hτ
      obtain ⟨τ', t1, t2, t3⟩ := (t_hd (B := B) (L := L) (s := skp B L a) (ic := ic) (dr := dr) (fr := fr) (q := 0) (ρ := ρ) (τ := si (si τ 40 0) 30 (nI (skp B L a))) ⟨g1, rfl, g3, g4, gD1, gD2, gD3, rfl, fun j hj => absurd hj (by omega)⟩ hB0 hs skp_skp hw 999).2 hd0 (by omega)
      refine ⟨τ', (((FM.refl τ).si (by omega) _).si (by omega) _).trans t1, t2, fun Q hQ => ?_⟩
      unfold f_X9_ways
      refine t_wayHere (B := B) (L := L) (a := a) (σ := si τ 40 0) g1 ha g2 ?_
      refine br1 ?_ (t3 Q hQ)
      rw [wyI_lt hw]; exact nI_pos' (by omega)
    · exact ⟨hT, hw2, rfl, h6, h7, h13, ⟨hD.1, hD.2.1, hD.2.2.1, rfl, insR_row (fun j hj => absurd hj (by omega))⟩, insR_B hB0 (by omega) hw hd0⟩
  · refine Or.inl ⟨1, skp B L a, by omega, by omega, by omega, ⟨si (si (si (si σ 17 0) 5 (nI (wnd B L (skp B L a)))) 6 1) 7 (nI (skp B L a)), (((((FX.refl σ).si (k := 17) (by omega) 0).si (by omega) (nI (wnd B L (skp B L a))) (k := 5)).si (k := 6) (by omega) 1).si (k := 7) (by omega) (nI (skp B L a))), rfl, rfl, fun Q hQ => hX Q ?_⟩, fun τ hτ => ?_⟩
    · exact s_28 (σ := si σ 17 0) (q := 0) (B := B) (L := L) (a := a) (ρ := ρ) (hT.si (by decide) _) ha h5 (by omega) rfl (fun j hj => absurd hj (by omega)) (fun j hj => absurd hj (by omega)) (fun _ => br1 rfl hQ) (fun q _ => absurd q hw)
    · obtain ⟨g1, g2, g3, g4, g5⟩ := hτ
      refine ⟨si (si (si (si τ 40 0) 30 (nI (skp B L a))) 31 1) 32 (nI (skp B L a)), (((((FM.refl τ).si (k := 40) (by omega) 0).si (k := 30) (by omega) (nI (skp B L a))).si (k := 31) (by omega) 1).si (k := 32) (by omega) (nI (skp B L a))), rfl, rfl, ⟨skp B L a, by omega, rfl⟩, fun Q hQ => ?_⟩
      unfold f_X9_ways
      refine t_wayHere (B := B) (L := L) (a := a) (σ := si τ 40 0) g1 ha g2 ?_
      refine br0 (by rw [wyI_no hw]; decide) (t_wrong (σ := si (si τ 40 0) 30 (nI (skp B L a))) g3 ?_)
      have := t_stop (n' := 999) hw (t_semi_bad (σ := si (si (si (si τ 40 0) 30 (nI (skp B L a))) 31 1) 32 (nI (skp B L a))) (q := 1) rfl (by omega) (by omega) hQ)
      exact this
