theorem TM.fr {B : Nat → Nat} {L : Nat} {τ s : St} (h : TM B L τ) (f : FM τ s) : TM B L s := by
  obtain ⟨h1, h2, h3⟩ := h
  refine ⟨h1, (f.1 29 (by omega)).trans h2, fun j hj => ?_⟩
  rw [f.2.1 32 (by omega)]
  exact h3 j hj
theorem t_words {B : Nat → Nat} {L s m : Nat} {τ : St} (g1 : TM B L τ) (g2 : gi τ 30 = nI s) (g3 : gi τ 31 = 0) (hs : s < L) (hss : skp B L s = s) {n' : Nat} {Q : Int32 → St → Prop}
    (h : f_X9_rule_135 Q (f_X9_rule_85L Q n') τ (nI m) (if isW B L 0 s = true ∨ isW B L 1 s = true ∨ isW B L 2 s = true then 1 else 0)) : f_X9_rule_85L Q (n' + 1) τ (nI m) := by
  have hT2 := g1.1
  have e30 : si τ 30 (nI s) = τ := si_self τ 30 g2
  show f_X9_rule_85 Q _ _ _
  unfold f_X9_rule_85
  refine bn0 g3 ?_
  rw [g1.2.1, g2]
  refine br0 (nI_ge (by omega) (by omega)) ?_
  refine t_isWord g1 (by decide) (by omega) g2 ?_
  rw [hss, e30]
  cases e0 : isW B L 0 s
  · rw [e0] at h
    refine bn0 rfl (t_isWord g1 (by decide) (by omega) g2 ?_)
    rw [hss, e30]
    cases e1 : isW B L 1 s
    · rw [e1] at h
      refine bn0 rfl (t_isWord g1 (by decide) (by omega) g2 ?_)
      rw [hss, e30]
      cases e2 : isW B L 2 s
      · rw [e2, if_neg (by decide)] at h
        exact br1 rfl h
      · rw [e2, if_pos (by decide)] at h
        exact br0 (by decide) h
    · rw [e1, if_pos (by simp)] at h
      exact bn1 (by decide) h
  · rw [e0, if_pos (by simp)] at h
    exact bn1 (by decide) h
theorem t_faulted {n' m k : Nat} {τ : St} (hk : 1 ≤ k) (hk3 : k ≤ 3) (e : gi τ 31 = nI k) {Q : Int32 → St → Prop} (h : Q (nI k - 10) τ) : f_X9_rule_85L Q (n' + 1) τ (nI m) := by
  show f_X9_rule_85 Q _ _ _
  unfold f_X9_rule_85 f_X9_rule_176
  rw [e]
  exact bn1 (nI_ne0 (by omega) (by omega)) (br0 (nI_nle (by omega) (by omega)) h)
theorem rule_J {B : Nat → Nat} {L : Nat} : ∀ (f m : Nat), f + m = 10 → ∀ (a ic dr fr q : Nat) (ρ : Nat → Nat) (σ : St) (n n' : Nat), f + 1 < n → f + 2 < n' → PX B L a m ic dr fr q ρ σ →
    (∃ k pl, 1 ≤ k ∧ k ≤ 3 ∧ pl ≤ 300 ∧ (∃ s, FX σ s ∧ gi s 7 = nI pl ∧ ∀ Q : Int32 → St → Prop, Q (nI k) s → f_X7_readRule_40L Q n σ (nI m)) ∧ ∀ τ, PMM B L (skp B L a) ic dr fr q ρ τ → ∃ s, FM τ s ∧ gi s 32 = nI pl ∧ ∀ Q : Int32 → St → Prop, Q (nI k - 10) s → f_X9_rule_85L Q n' τ (nI m)) ∨
    (∃ m' a' ic' dr' fr' q', ∃ ρ' : Nat → Nat, m' ≤ 10 ∧ (∃ s, FX σ s ∧ PX B L a' m' ic' dr' fr' q' ρ' s ∧ ∀ Q : Int32 → St → Prop, Q 0 s → f_X7_readRule_40L Q n σ (nI m)) ∧ ∀ τ, PMM B L (skp B L a) ic dr fr q ρ τ → ∃ s, FM τ s ∧ PMM B L a' ic' dr' fr' q' ρ' s ∧ ∀ Q : Int32 → St → Prop, f_X9_rule_176 Q s (nI m') → f_X9_rule_85L Q n' τ (nI m)) := by
  intro f
  induction f with
  | zero =>
    intro m hm a ic dr fr q ρ σ n n' hn hn' h
    obtain ⟨n, rfl, -⟩ := suc_of hn
    obtain ⟨n', rfl, hn2⟩ := suc_of hn'
    obtain ⟨n', rfl, -⟩ := suc_of (show 0 < n' by omega)
    obtain rfl : m = 10 := by omega
    obtain ⟨hT, ha, h5, h6, h7, h13, hD, hB⟩ := id h
    have hT2 := hT.1
    have hs := (skp_le (B := B) (L := L) (a := a)).2 ha
    by_cases hend : L ≤ skp B L a
    · refine Or.inr ⟨10, skp B L a, ic, dr, fr, q, ρ, by omega, ⟨si σ 5 (nI (skp B L a)), (FX.refl σ).si (by omega) _, ⟨hT.si (by decide) _, hs, rfl, h6, h7, h13, hD, hB⟩, fun Q hQ => ?_⟩, fun τ hτ => ⟨τ, FM.refl τ, hτ, fun Q hQ => ?_⟩⟩
      · show f_X7_readRule_40 Q _ _ _
        unfold f_X7_readRule_40
        refine br0 (by decide) (s_skip hT h5 (by omega) ?_)
        have e4 : gi (si σ 5 (nI (skp B L a))) 4 = nI L := hT.2.1
        have e6 : gi (si σ 5 (nI (skp B L a))) 6 = 0 := h6
        rw [e4, gi_si, if_pos rfl, e6]
        exact br1 (nI_le hend (by omega)) hQ
      · obtain ⟨g1, g2, g3, g4, gD⟩ := hτ
        show f_X9_rule_85 Q _ _ _
        unfold f_X9_rule_85
        rw [g1.2.1, g2]
        exact bn0 g3 (br1 (nI_le hend (by omega)) hQ)
    · have hX : ∀ Q : Int32 → St → Prop, f_X7_readClause (si σ 5 (nI (skp B L a))) (fun r62 s62 => ((¬ r62 = 0 → f_X7_readRule_40L Q n s62 (nI 10 + 1)) ∧ (r62 = 0 → Q (gi s62 6) s62))) → f_X7_readRule_40L Q (n + 1) σ (nI 10) := by
        intro Q hq
        show f_X7_readRule_40 Q _ _ _
        unfold f_X7_readRule_40
        refine br0 (by decide) (s_skip hT h5 (by omega) ?_)
        have e4 : gi (si σ 5 (nI (skp B L a))) 4 = nI L := hT.2.1
        rw [e4, gi_si, if_pos rfl]
        exact br0 (nI_ge (by omega) (by omega)) hq
      by_cases hk : isW B L 0 (skp B L a) = true ∨ isW B L 1 (skp B L a) = true ∨ isW B L 2 (skp B L a) = true
      · refine Or.inl ⟨3, skp B L a, by omega, by omega, by omega, ⟨si (si (si σ 5 (nI (wnd B L (skp B L a)))) 6 3) 7 (nI (skp B L a)), (((FX.refl σ).si (by omega) _).si (by omega) _).si (by omega) _, rfl, fun Q hQ => hX Q ?_⟩, fun τ hτ => ?_⟩
        · refine s_clause (σ := si σ 5 (nI (skp B L a))) (a := skp B L a) (hT.si (by decide) _) rfl hs (fun _ => ?_) (fun z => ?_)
          · rw [skp_skp, si_si]
            unfold f_X7_readClause_46 f_X7_refuse
            have e13 : gi (si σ 5 (nI (wnd B L (skp B L a)))) 13 = nI 10 := h13
            rw [e13]
            exact br0 (by decide) ⟨z0, bn0 rfl hQ⟩
          · rw [skp_skp] at z
            rw [z.1, z.2.1, z.2.2] at hk
            exact absurd hk (by decide)
        · obtain ⟨g1, g2, g3, g4, gD⟩ := hτ
          refine ⟨si (si τ 31 3) 32 (nI (skp B L a)), ((FM.refl τ).si (by omega) _).si (by omega) _, rfl, fun Q hQ => t_words g1 g2 g3 (by omega) skp_skp ?_⟩
          rw [if_pos hk]
          unfold f_X9_rule_135
          rw [g2]
          exact bn0 rfl (br0 (by decide) (t_wrong g3 (t_faulted (k := 3) (by omega) (by omega) rfl hQ)))
      · refine Or.inl ⟨1, skp B L a, by omega, by omega, by omega, ⟨si (si (si σ 5 (nI (wnd B L (skp B L a)))) 6 1) 7 (nI (skp B L a)), (((FX.refl σ).si (by omega) _).si (by omega) _).si (by omega) _, rfl, fun Q hQ => hX Q ?_⟩, fun τ hτ => ?_⟩
        · refine s_clause (σ := si σ 5 (nI (skp B L a))) (a := skp B L a) (hT.si (by decide) _) rfl hs (fun z => ?_) (fun _ => ?_)
          · rw [skp_skp] at z; exact absurd z hk
          · rw [skp_skp, si_si]
            exact bn0 rfl hQ
        · obtain ⟨g1, g2, g3, g4, gD⟩ := hτ
          refine ⟨si (si τ 31 1) 32 (nI (skp B L a)), ((FM.refl τ).si (by omega) _).si (by omega) _, rfl, fun Q hQ => t_words g1 g2 g3 (by omega) skp_skp ?_⟩
          rw [if_neg hk]
          unfold f_X9_rule_135
          rw [g2]
          exact bn0 rfl (br1 rfl (t_wrong g3 (t_faulted (k := 1) (by omega) (by omega) rfl hQ)))
  | succ f ih =>
    intro m hm a ic dr fr q ρ σ n n' hn hn' h
    obtain ⟨n, rfl, -⟩ := suc_of hn
    obtain ⟨n', rfl, hn2⟩ := suc_of hn'
    obtain ⟨hT, ha, h5, h6, h7, h13, hD, hB⟩ := id h
    have hT2 := hT.1
    have hs := (skp_le (B := B) (L := L) (a := a)).2 ha
    have hm10 : ¬ (10 : Int32) < nI m := nI_nlt (a := 10) (by omega) (by decide)
    by_cases hend : L ≤ skp B L a
    · refine Or.inr ⟨m, skp B L a, ic, dr, fr, q, ρ, by omega, ⟨si σ 5 (nI (skp B L a)), (FX.refl σ).si (by omega) _, ⟨hT.si (by decide) _, hs, rfl, h6, h7, h13, hD, hB⟩, fun Q hQ => ?_⟩, fun τ hτ => ⟨τ, FM.refl τ, hτ, fun Q hQ => ?_⟩⟩
      · show f_X7_readRule_40 Q _ _ _
        unfold f_X7_readRule_40
        refine br0 hm10 (s_skip hT h5 (by omega) ?_)
        have e4 : gi (si σ 5 (nI (skp B L a))) 4 = nI L := hT.2.1
        have e6 : gi (si σ 5 (nI (skp B L a))) 6 = 0 := h6
        rw [e4, gi_si, if_pos rfl, e6]
        exact br1 (nI_le hend (by omega)) hQ
      · obtain ⟨g1, g2, g3, g4, gD⟩ := hτ
        show f_X9_rule_85 Q _ _ _
        unfold f_X9_rule_85
        rw [g1.2.1, g2]
        exact bn0 g3 (br1 (nI_le hend (by omega)) hQ)
    · have hX : ∀ Q : Int32 → St → Prop, f_X7_readClause (si σ 5 (nI (skp B L a))) (fun r62 s62 => ((¬ r62 = 0 → f_X7_readRule_40L Q n s62 (nI (m + 1))) ∧ (r62 = 0 → Q (gi s62 6) s62))) → f_X7_readRule_40L Q (n + 1) σ (nI m) := by
        intro Q hq
        show f_X7_readRule_40 Q _ _ _
        unfold f_X7_readRule_40
        refine br0 hm10 (s_skip hT h5 (by omega) ?_)
        have e4 : gi (si σ 5 (nI (skp B L a))) 4 = nI L := hT.2.1
        rw [e4, gi_si, if_pos rfl, nI_1]
        exact br0 (nI_ge (by omega) (by omega)) hq
      have hM : ∀ (τ : St) (Q : Int32 → St → Prop), PMM B L (skp B L a) ic dr fr q ρ τ → f_X9_clause τ (fun s163 => f_X9_blanks s163 (fun s170 => f_X9_rule_85L Q n' s170 (nI (m + 1)))) → f_X9_rule_85L Q (n' + 1) τ (nI m) := by
        intro τ Q hτ hq
        obtain ⟨g1, g2, g3, g4, gD⟩ := hτ
        refine t_words g1 g2 g3 (by omega) skp_skp ?_
        unfold f_X9_rule_135
        rw [nI_1]
        refine bn1 (fun z => ?_) hq
        have := (nI_eq (b := 10) (by omega) (by decide)).mp z
        omega
      have hP : PX B L (skp B L a) m ic dr fr q ρ (si σ 5 (nI (skp B L a))) := ⟨hT.si (by decide) _, hs, rfl, h6, h7, h13, hD, hB⟩
      have hF : FX σ (si σ 5 (nI (skp B L a))) := (FX.refl σ).si (by omega) _
      rcases clause_J hP (by omega) with ⟨k, pl, k1, k2, k3, ⟨s, s1, s2, s3, s4⟩, ht⟩ | ⟨a2, ic2, dr2, fr2, q2, ρ2, ⟨s, s1, s2, s3⟩, ht⟩
      · refine Or.inl ⟨k, pl, k1, k2, k3, ⟨s, hF.trans s1, s3, fun Q hQ => hX Q (s4 _ (bn0 rfl ?_))⟩, fun τ hτ => ?_⟩
        · rw [s2]; exact hQ
        · obtain ⟨u, u1, u2, u3, ⟨y, y1, y2⟩, u5⟩ := ht τ hτ
          refine ⟨si u 30 (nI (skp B L y)), u1.trans ((FM.refl u).si (by omega) _), u3, fun Q hQ => hM τ Q hτ (u5 _ (t_blanks (hτ.1.fr u1) y2 y1 ?_))⟩
          obtain ⟨n', rfl, -⟩ := suc_of (show 0 < n' by omega)
          exact t_faulted (τ := si u 30 (nI (skp B L y))) k1 k2 u2 hQ
      · obtain ⟨p1, p2⟩ := And.intro s2.2.1 s2.1
        rcases ih (m + 1) (by omega) a2 ic2 dr2 fr2 q2 ρ2 s n n' (by omega) (by omega) s2 with ⟨k, pl, k1, k2, k3, ⟨s', x1, x2, x3⟩, ht2⟩ | ⟨m', a', ic', dr', fr', q', ρ', hm', ⟨s', x1, x2, x3⟩, ht2⟩
        · refine Or.inl ⟨k, pl, k1, k2, k3, ⟨s', (hF.trans s1).trans x1, x2, fun Q hQ => hX Q (s3 _ (bn1 (by decide) (x3 Q hQ)))⟩, fun τ hτ => ?_⟩
          obtain ⟨u, u1, u2, u3⟩ := ht τ hτ
          obtain ⟨v, v1, v2, v3⟩ := ht2 (si u 30 (nI (skp B L a2))) ⟨u2.1.si (by decide) _, rfl, u2.2.2.1, u2.2.2.2.1, u2.2.2.2.2⟩
          exact ⟨v, (u1.trans ((FM.refl u).si (by omega) _)).trans v1, v2, fun Q hQ => hM τ Q hτ (u3 _ (t_blanks u2.1 u2.2.1 (by omega) (v3 Q hQ)))⟩
        · refine Or.inr ⟨m', a', ic', dr', fr', q', ρ', hm', ⟨s', (hF.trans s1).trans x1, x2, fun Q hQ => hX Q (s3 _ (bn1 (by decide) (x3 Q hQ)))⟩, fun τ hτ => ?_⟩
          obtain ⟨u, u1, u2, u3⟩ := ht τ hτ
          obtain ⟨v, v1, v2, v3⟩ := ht2 (si u 30 (nI (skp B L a2))) ⟨u2.1.si (by decide) _, rfl, u2.2.2.1, u2.2.2.2.1, u2.2.2.2.2⟩
          exact ⟨v, (u1.trans ((FM.refl u).si (by omega) _)).trans v1, v2, fun Q hQ => hM τ Q hτ (u3 _ (t_blanks u2.1 u2.2.1 (by omega) (v3 Q hQ)))⟩
/-- what a rule leaves alone -/
theorem inv_tr {w n r : Nat} {σ s : St} (hg : ∀ k, (k ≤ 2 ∨ (18 ≤ k ∧ k ≤ 22) ∨ (25 ≤ k ∧ k ≤ 27) ∨ 41 ≤ k) → gi s k = gi σ k) (ha : ∀ k, (k ≠ 14 ∧ k ≠ 15 ∧ k ≠ 33 ∧ k ≠ 34) → ga s k = ga σ k) : (ICE σ → ICE s) ∧ (CRS w σ → CRS w s) ∧ (BTS n σ → BTS n s) ∧ (RCS n r σ → RCS n r s) ∧ (FLT n σ → FLT n s) ∧ (LOT σ → LOT s) := by
  refine ⟨fun h => ?_, fun h => ?_, fun h => ?_, fun h => ?_, fun h => ?_, fun h => ?_⟩
  · unfold ICE at *
    rw [ha 10 (by decide), ha 29 (by decide), ha 11 (by decide), ha 30 (by decide), ha 12 (by decide), ha 31 (by decide)]
    exact h
  · unfold CRS at *
    rw [hg 0 (by decide), hg 25 (by decide), hg 1 (by decide), hg 26 (by decide), hg 2 (by decide), hg 27 (by decide)]
    exact h
  · unfold BTS at *
    rw [hg 18 (by decide), hg 41 (by decide), ha 16 (by decide), ha 35 (by decide), ha 17 (by decide), ha 36 (by decide), ha 18 (by decide), ha 37 (by decide)]
    exact h
  · unfold RCS at *
    rw [hg 19 (by decide), hg 42 (by decide), hg 20 (by decide), hg 43 (by decide), ha 20 (by decide), ha 40 (by decide), ha 39 (by decide), ha 19 (by decide), ha 38 (by decide)]
    exact h
  · unfold FLT at *
    rw [ha 24 (by decide), ha 43 (by decide), ha 25 (by decide)]
    exact h
  · unfold LOT at *
    rw [hg 21 (by decide), hg 44 (by decide), hg 22 (by decide), hg 45 (by decide), ha 26 (by decide), ha 45 (by decide), ha 27 (by decide), ha 46 (by decide)]
    exact h
theorem l_take {σ : St} {Q : St → Prop} (h : Q (sa σ 14 (cpf (ga σ 15) (ga σ 14) 3))) : ∀ k m c : Nat, c + k = 3 → k < m → f_X6_takeOver_42L Q m (sa σ 14 (cpf (ga σ 15) (ga σ 14) c)) (nI c) := by
  intro k
  induction k with
  | zero =>
    intro m c hc hm
    obtain ⟨m, rfl, -⟩ := suc_of hm
    obtain rfl : c = 3 := by omega
    show f_X6_takeOver_42 Q _ _ _
    unfold f_X6_takeOver_42
    exact br1 (by decide) h
  | succ k ih =>
    intro m c hc hm
    obtain ⟨m, rfl, -⟩ := suc_of hm
    show f_X6_takeOver_42 Q _ _ _
    unfold f_X6_takeOver_42
    have e : ga (sa σ 14 (cpf (ga σ 15) (ga σ 14) c)) 15 c = ga σ 15 c := rfl
    have vc := v_in (by omega : c < 3) (by decide : 3 < 2 ^ 31)
    rw [cl (by omega : c < 2 ^ 31), e, sa_sa, nI_1]
    have ih := ih m (c + 1) (by omega) (by omega)
    rw [← cpf_up] at ih
    exact br0 (nI_ge (b := 3) (by omega) (by decide)) ⟨vc, vc, ih⟩
theorem l_225 {σ : St} {q : Nat} (hq : q ≤ 3) (e36 : gi σ 36 = nI q) {v : Int32} {Q : Int32 → St → Prop} (h : Q v (si (sa σ 33 (cpf (ga σ 34) (ga σ 33) q)) 33 v)) : ∀ k m c : Nat, c + k = q → k < m → f_X9_rule_225L Q m (sa σ 33 (cpf (ga σ 34) (ga σ 33) c)) v (nI c) := by
  intro k
  induction k with
  | zero =>
    intro m c hc hm
    obtain ⟨m, rfl, -⟩ := suc_of hm
    obtain rfl : c = q := by omega
    show f_X9_rule_225 Q _ _ _ _
    unfold f_X9_rule_225
    rw [gi_sa, e36]
    exact br1 (nI_le (by omega) (by omega)) h
  | succ k ih =>
    intro m c hc hm
    obtain ⟨m, rfl, -⟩ := suc_of hm
    show f_X9_rule_225 Q _ _ _ _
    unfold f_X9_rule_225
    have e : ga (sa σ 33 (cpf (ga σ 34) (ga σ 33) c)) 34 c = ga σ 34 c := rfl
    have vc := v_in (by omega : c < 3) (by decide : 3 < 2 ^ 31)
    rw [gi_sa, e36, cl (by omega : c < 2 ^ 31), e, sa_sa, nI_1]
    have ih := ih m (c + 1) (by omega) (by omega)
    rw [← cpf_up] at ih
    exact br0 (nI_ge (by omega) (by omega)) ⟨vc, vc, ih⟩
