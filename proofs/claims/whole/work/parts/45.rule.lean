theorem nvl_le {B : Nat → Nat} {L a : Nat} (h : nkd B L a = 0) : nvl B L a ≤ 5000 := by
  unfold nkd at h
  by_cases z : dge B L (skp B L a) = skp B L a
  · rw [if_pos z] at h; omega
  · rw [if_neg z] at h
    by_cases y : nvl B L a ≤ 5000
    · exact y
    · rw [if_neg y] at h; omega
/-- the place after a number -/
def nen (B : Nat → Nat) (L a : Nat) : Nat := dge B L (skp B L a)
theorem nen_le {B : Nat → Nat} {L a : Nat} (h : a ≤ L) : nen B L a ≤ L := (dge_le (B := B) (L := L) (a := skp B L a)).2 ((skp_le (B := B) (L := L) (a := a)).2 h)
theorem ice_J {B : Nat → Nat} {L a m ic dr fr q : Nat} {ρ : Nat → Nat} {σ : St} (h : PX B L a m ic dr fr q ρ σ) : JO B L m σ (fun Q => f_X7_readIce σ (KR Q)) (PMM B L a ic dr fr q ρ) (fun τ Q => f_X9_number τ (fun r11 s11 => f_X9_clause_91 Q (si s11 37 r11))) := by
  obtain ⟨hT, ha, h5, h6, h7, h13, hD, hB⟩ := id h
  have hT2 := hT.1
  have hs := (skp_le (B := B) (L := L) (a := a)).2 ha
  have hn := nen_le (B := B) ha
  by_cases hk : nkd B L a = 0
  · have hv := nvl_le hk
    refine JO_back (σ' := si (si σ 5 (nI (nen B L a))) 14 (nI (nvl B L a))) (fX' := fun Q => f_X7_readSemicolon (si (si σ 5 (nI (nen B L a))) 14 (nI (nvl B L a))) (KX Q)) (((FX.refl σ).si (by omega) _).si (by omega) _) (fun Q hQ => ?_) (fun τ hτ => ?_) (semi_J (a := nen B L a) (ic := nvl B L a) (dr := dr) (fr := fr) (q := q) (ρ := ρ) (m := m) ⟨(hT.si (by decide) _).si (by decide) _, hn, rfl, h6, h7, h13, ⟨rfl, hD.2.1, hD.2.2.1, hD.2.2.2.1, hD.2.2.2.2⟩, ⟨hv, hB.2⟩⟩)
    · unfold f_X7_readIce
      refine s_readNumber hT h5 ha (fun _ => ?_) (fun q => absurd hk q)
      exact br0 (nI_m1 (by omega)) (br0 (by decide) hQ)
    · obtain ⟨g1, g2, g3, g4, gD⟩ := hτ
      refine ⟨si (si τ 30 (nI (nen B L a))) 37 (nI (nvl B L a)), ((FM.refl τ).si (by omega) _).si (by omega) _, ⟨(g1.si (by decide) _).si (by decide) _, rfl, g3, g4, rfl, gD.2.1, gD.2.2.1, gD.2.2.2.1, gD.2.2.2.2⟩, fun Q hQ => ?_⟩
      exact t_number g1 g2 g3 ha (fun _ => hQ) (fun q => absurd hk q)
  · have hk2 := nkd_le B L a
    refine Or.inl ⟨nkd B L a, skp B L a, by omega, by omega, by omega, ⟨si (si (si (si σ 5 (nI (nen B L a))) 6 (nI (nkd B L a))) 7 (nI (skp B L a))) 14 (-1), ((((FX.refl σ).si (by omega) _).si (by omega) _).si (by omega) _).si (by omega) _, rfl, rfl, fun Q hQ => ?_⟩, fun τ hτ => ?_⟩
    · unfold f_X7_readIce
      refine s_readNumber hT h5 ha (fun q => absurd q hk) (fun _ => ?_)
      exact br1 rfl (br1 rfl hQ)
    · obtain ⟨g1, g2, g3, g4, gD⟩ := hτ
      refine ⟨si (si (si (si τ 30 (nI (nen B L a))) 31 (nI (nkd B L a))) 32 (nI (skp B L a))) 37 (nmx B L a), ((((FM.refl τ).si (by omega) _).si (by omega) _).si (by omega) _).si (by omega) _, rfl, rfl, ⟨nen B L a, by omega, rfl⟩, fun Q hQ => ?_⟩
      refine t_number g1 g2 g3 ha (fun q => absurd q hk) (fun _ => ?_)
      exact t_semi_bad (q := nkd B L a) rfl (by omega) (by omega) hQ
theorem drop_J {B : Nat → Nat} {L a m ic dr fr q : Nat} {ρ : Nat → Nat} {σ : St} (h : PX B L a m ic dr fr q ρ σ) : JO B L m σ (fun Q => f_X7_readDrops σ (KR Q)) (PMM B L a ic dr fr q ρ) (fun τ Q => f_X9_number τ (fun r31 s31 => f_X9_eat (si s31 38 r31) 3 (fun r40 s40 => ((¬ r40 = 0 → f_X9_number s40 (fun r57 s57 => f_X9_clause_91 Q (si s57 39 r57))) ∧ (r40 = 0 → f_X9_wrong s40 (1 : Int32) (gi s40 30) (fun s52 => f_X9_number s52 (fun r57 s57 => f_X9_clause_91 Q (si s57 39 r57)))))))) := by
  obtain ⟨hT, ha, h5, h6, h7, h13, hD, hB⟩ := id h
  have hT2 := hT.1
  have hs := (skp_le (B := B) (L := L) (a := a)).2 ha
  have hn := nen_le (B := B) ha
  by_cases hk : nkd B L a = 0
  · have hv := nvl_le hk
    have hs2 := (skp_le (B := B) (L := L) (a := nen B L a)).2 hn
    have hw2 := (wnd_le (B := B) (L := L) (a := skp B L (nen B L a))).2 hs2
    cases hW : isW B L 3 (skp B L (nen B L a))
    · -- no 'from'
      refine Or.inl ⟨1, skp B L (nen B L a), by omega, by omega, by omega, ⟨si (si (si (si σ 5 (nI (nen B L a))) 5 (nI (wnd B L (skp B L (nen B L a))))) 6 1) 7 (nI (skp B L (nen B L a))), ((((FX.refl σ).si (by omega) _).si (by omega) _).si (by omega) _).si (by omega) _, rfl, rfl, fun Q hQ => ?_⟩, fun τ hτ => ?_⟩
      · unfold f_X7_readDrops f_X7_refuse
        refine s_readNumber hT h5 ha (fun _ => ?_) (fun q => absurd hk q)
        refine bn1 (nI_m1 (by omega)) ?_
        refine s_readWord (σ := si σ 5 (nI (nen B L a))) (a := nen B L a) (hT.si (by decide) _) rfl hn ?_
        refine s_isWord (σ := si (si σ 5 (nI (nen B L a))) 5 (nI (wnd B L (skp B L (nen B L a))))) ((hT.si (by decide) _).si (by decide) _) (by decide) hs2 rfl ?_
        rw [hW]
        exact bn0 rfl ⟨z0, br1 rfl hQ⟩
      · obtain ⟨g1, g2, g3, g4, gD⟩ := hτ
        refine ⟨si (si (si (si (si (si τ 30 (nI (nen B L a))) 38 (nI (nvl B L a))) 30 (nI (skp B L (nen B L a)))) 31 1) 32 (nI (skp B L (nen B L a)))) 39 0, ((((((FM.refl τ).si (by omega) _).si (by omega) _).si (by omega) _).si (by omega) _).si (by omega) _).si (by omega) _, rfl, rfl, ⟨skp B L (nen B L a), by omega, rfl⟩, fun Q hQ => ?_⟩
        refine t_number g1 g2 g3 ha (fun _ => ?_) (fun q => absurd hk q)
        refine t_eat (B := B) (L := L) (w := 3) (a := nen B L a) (σ := si (si τ 30 (nI (nen B L a))) 38 (nI (nvl B L a))) ((g1.si (by decide) _).si (by decide) _) (by decide) hn rfl g3 ?_
        rw [hW, if_neg (by decide)]
        refine bn0 rfl (t_wrong (σ := si (si (si τ 30 (nI (nen B L a))) 38 (nI (nvl B L a))) 30 (nI (skp B L (nen B L a)))) g3 ?_)
        refine t_number_bad (q := 1) rfl (by omega) (by omega) ?_
        exact t_semi_bad (q := 1) rfl (by omega) (by omega) hQ
    · have he := (of_decide_eq_true hW).1
      have hl4 : wl_ 3 = 4 := rfl
      have hn2 := nen_le (B := B) hw2
      have hs3 := (skp_le (B := B) (L := L) (a := wnd B L (skp B L (nen B L a)))).2 hw2
      by_cases hk2 : nkd B L (wnd B L (skp B L (nen B L a))) = 0
      · have hv2 := nvl_le hk2
        refine JO_back (σ' := si (si (si (si (si σ 5 (nI (nen B L a))) 5 (nI (wnd B L (skp B L (nen B L a))))) 5 (nI (nen B L (wnd B L (skp B L (nen B L a)))))) 15 (nI (nvl B L a))) 16 (nI (nvl B L (wnd B L (skp B L (nen B L a)))))) (fX' := fun Q => f_X7_readSemicolon (si (si (si (si (si σ 5 (nI (nen B L a))) 5 (nI (wnd B L (skp B L (nen B L a))))) 5 (nI (nen B L (wnd B L (skp B L (nen B L a)))))) 15 (nI (nvl B L a))) 16 (nI (nvl B L (wnd B L (skp B L (nen B L a)))))) (KX Q)) ((((((FX.refl σ).si (by omega) _).si (by omega) _).si (by omega) _).si (by omega) _).si (by omega) _) (fun Q hQ => ?_) (fun τ hτ => ?_) (semi_J (a := nen B L (wnd B L (skp B L (nen B L a)))) (ic := ic) (dr := nvl B L a) (fr := nvl B L (wnd B L (skp B L (nen B L a)))) (q := q) (ρ := ρ) (m := m) ⟨((((hT.si (by decide) _).si (by decide) _).si (by decide) _).si (by decide) _).si (by decide) _, hn2, rfl, h6, h7, h13, ⟨hD.1, rfl, rfl, hD.2.2.2.1, hD.2.2.2.2⟩, ⟨hB.1, hv, hv2, hB.2.2.2⟩⟩)
        · unfold f_X7_readDrops
          refine s_readNumber hT h5 ha (fun _ => ?_) (fun q => absurd hk q)
          refine bn1 (nI_m1 (by omega)) ?_
          refine s_readWord (σ := si σ 5 (nI (nen B L a))) (a := nen B L a) (hT.si (by decide) _) rfl hn ?_
          refine s_isWord (σ := si (si σ 5 (nI (nen B L a))) 5 (nI (wnd B L (skp B L (nen B L a))))) ((hT.si (by decide) _).si (by decide) _) (by decide) hs2 rfl ?_
          rw [hW]
          refine bn1 (by decide) ?_
          refine s_readNumber (σ := si (si σ 5 (nI (nen B L a))) 5 (nI (wnd B L (skp B L (nen B L a))))) (a := wnd B L (skp B L (nen B L a))) ((hT.si (by decide) _).si (by decide) _) rfl hw2 (fun _ => ?_) (fun q => absurd hk2 q)
          exact br0 (nI_m1 (by omega)) (br0 (by decide) hQ)
        · obtain ⟨g1, g2, g3, g4, gD⟩ := hτ
          refine ⟨si (si (si (si (si τ 30 (nI (nen B L a))) 38 (nI (nvl B L a))) 30 (nI (wnd B L (skp B L (nen B L a))))) 30 (nI (nen B L (wnd B L (skp B L (nen B L a)))))) 39 (nI (nvl B L (wnd B L (skp B L (nen B L a))))), (((((FM.refl τ).si (by omega) _).si (by omega) _).si (by omega) _).si (by omega) _).si (by omega) _, ⟨((((g1.si (by decide) _).si (by decide) _).si (by decide) _).si (by decide) _).si (by decide) _, rfl, g3, g4, gD.1, rfl, Or.inr rfl, gD.2.2.2.1, gD.2.2.2.2⟩, fun Q hQ => ?_⟩
          refine t_number g1 g2 g3 ha (fun _ => ?_) (fun q => absurd hk q)
          refine t_eat (B := B) (L := L) (w := 3) (a := nen B L a) (σ := si (si τ 30 (nI (nen B L a))) 38 (nI (nvl B L a))) ((g1.si (by decide) _).si (by decide) _) (by decide) hn rfl g3 ?_
          rw [hW, if_pos rfl, ← he]
          refine bn1 (by decide) ?_
          exact t_number (σ := si (si (si τ 30 (nI (nen B L a))) 38 (nI (nvl B L a))) 30 (nI (wnd B L (skp B L (nen B L a))))) (((g1.si (by decide) _).si (by decide) _).si (by decide) _) rfl g3 hw2 (fun _ => hQ) (fun q => absurd hk2 q)
      · have hk3 := nkd_le B L (wnd B L (skp B L (nen B L a)))
        refine Or.inl ⟨nkd B L (wnd B L (skp B L (nen B L a))), skp B L (wnd B L (skp B L (nen B L a))), by omega, by omega, by omega, ⟨si (si (si (si (si (si (si σ 5 (nI (nen B L a))) 5 (nI (wnd B L (skp B L (nen B L a))))) 5 (nI (nen B L (wnd B L (skp B L (nen B L a)))))) 6 (nI (nkd B L (wnd B L (skp B L (nen B L a)))))) 7 (nI (skp B L (wnd B L (skp B L (nen B L a)))))) 15 (nI (nvl B L a))) 16 (-1), (((((((FX.refl σ).si (by omega) _).si (by omega) _).si (by omega) _).si (by omega) _).si (by omega) _).si (by omega) _).si (by omega) _, rfl, rfl, fun Q hQ => ?_⟩, fun τ hτ => ?_⟩
        · unfold f_X7_readDrops
          refine s_readNumber hT h5 ha (fun _ => ?_) (fun q => absurd hk q)
          refine bn1 (nI_m1 (by omega)) ?_
          refine s_readWord (σ := si σ 5 (nI (nen B L a))) (a := nen B L a) (hT.si (by decide) _) rfl hn ?_
          refine s_isWord (σ := si (si σ 5 (nI (nen B L a))) 5 (nI (wnd B L (skp B L (nen B L a))))) ((hT.si (by decide) _).si (by decide) _) (by decide) hs2 rfl ?_
          rw [hW]
          refine bn1 (by decide) ?_
          refine s_readNumber (σ := si (si σ 5 (nI (nen B L a))) 5 (nI (wnd B L (skp B L (nen B L a))))) (a := wnd B L (skp B L (nen B L a))) ((hT.si (by decide) _).si (by decide) _) rfl hw2 (fun q => absurd q hk2) (fun _ => ?_)
          exact br1 rfl (br1 rfl hQ)
        · obtain ⟨g1, g2, g3, g4, gD⟩ := hτ
          refine ⟨si (si (si (si (si (si (si τ 30 (nI (nen B L a))) 38 (nI (nvl B L a))) 30 (nI (wnd B L (skp B L (nen B L a))))) 30 (nI (nen B L (wnd B L (skp B L (nen B L a)))))) 31 (nI (nkd B L (wnd B L (skp B L (nen B L a)))))) 32 (nI (skp B L (wnd B L (skp B L (nen B L a)))))) 39 (nmx B L (wnd B L (skp B L (nen B L a)))), (((((((FM.refl τ).si (by omega) _).si (by omega) _).si (by omega) _).si (by omega) _).si (by omega) _).si (by omega) _).si (by omega) _, rfl, rfl, ⟨nen B L (wnd B L (skp B L (nen B L a))), by omega, rfl⟩, fun Q hQ => ?_⟩
          refine t_number g1 g2 g3 ha (fun _ => ?_) (fun q => absurd hk q)
          refine t_eat (B := B) (L := L) (w := 3) (a := nen B L a) (σ := si (si τ 30 (nI (nen B L a))) 38 (nI (nvl B L a))) ((g1.si (by decide) _).si (by decide) _) (by decide) hn rfl g3 ?_
          rw [hW, if_pos rfl, ← he]
          refine bn1 (by decide) ?_
          refine t_number (σ := si (si (si τ 30 (nI (nen B L a))) 38 (nI (nvl B L a))) 30 (nI (wnd B L (skp B L (nen B L a))))) (((g1.si (by decide) _).si (by decide) _).si (by decide) _) rfl g3 hw2 (fun q => absurd q hk2) (fun _ => ?_)
          exact t_semi_bad (q := nkd B L (wnd B L (skp B L (nen B L a)))) rfl (by omega) (by omega) hQ
  · have hk2 := nkd_le B L a
    refine Or.inl ⟨nkd B L a, skp B L a, by omega, by omega, by omega, ⟨si (si (si σ 5 (nI (nen B L a))) 6 (nI (nkd B L a))) 7 (nI (skp B L a)), (((FX.refl σ).si (by omega) _).si (by omega) _).si (by omega) _, rfl, rfl, fun Q hQ => ?_⟩, fun τ hτ => ?_⟩
    · unfold f_X7_readDrops
      refine s_readNumber hT h5 ha (fun q => absurd q hk) (fun _ => ?_)
      exact bn0 rfl (br1 rfl hQ)
    · obtain ⟨g1, g2, g3, g4, gD⟩ := hτ
      refine ⟨si (si (si (si (si τ 30 (nI (nen B L a))) 31 (nI (nkd B L a))) 32 (nI (skp B L a))) 38 (nmx B L a)) 39 0, (((((FM.refl τ).si (by omega) _).si (by omega) _).si (by omega) _).si (by omega) _).si (by omega) _, rfl, rfl, ⟨nen B L a, by omega, rfl⟩, fun Q hQ => ?_⟩
      refine t_number g1 g2 g3 ha (fun q => absurd q hk) (fun _ => ?_)
      refine t_eat_bad ?_ ?_
      · show ¬ nI (nkd B L a) = 0
        exact nI_ne0 (by omega) (by omega)
      · refine bn0 rfl (t_wrong_bad (q := nkd B L a) rfl (by omega) (by omega) ?_)
        refine t_number_bad (q := nkd B L a) rfl (by omega) (by omega) ?_
        exact t_semi_bad (q := nkd B L a) rfl (by omega) (by omega) hQ
/-- which clause begins: 0 ice, 1 drop, 2 way, 3 none -/
theorem s_clause {B : Nat → Nat} {L a : Nat} {σ : St} (hT : TX B L σ) (h5 : gi σ 5 = nI a) (ha : a ≤ L) {Q : Int32 → St → Prop}
    (h1 : (isW B L 0 (skp B L a) = true ∨ isW B L 1 (skp B L a) = true ∨ isW B L 2 (skp B L a) = true) → f_X7_readClause_46 Q (si σ 5 (nI (wnd B L (skp B L a)))) (nI (skp B L a)) (b01 (isW B L 0 (skp B L a))) (b01 (isW B L 1 (skp B L a))))
    (h0 : (isW B L 0 (skp B L a) = false ∧ isW B L 1 (skp B L a) = false ∧ isW B L 2 (skp B L a) = false) → Q 0 (si (si (si σ 5 (nI (wnd B L (skp B L a)))) 6 1) 7 (nI (skp B L a)))) : f_X7_readClause σ Q := by
  have hs := (skp_le (B := B) (L := L) (a := a)).2 ha
  unfold f_X7_readClause f_X7_refuse
  refine s_readWord hT h5 ha ?_
  refine s_isWord (hT.si (by decide) _) (by decide) hs rfl ?_
  refine s_isWord (hT.si (by decide) _) (by decide) hs rfl ?_
  cases e0 : isW B L 0 (skp B L a)
  · rw [e0] at h1 h0
    refine bn0 rfl ?_
    cases e1 : isW B L 1 (skp B L a)
    · rw [e1] at h1 h0
      refine bn0 rfl (s_isWord (hT.si (by decide) _) (by decide) hs rfl ?_)
      cases e2 : isW B L 2 (skp B L a)
      · exact bn0 rfl ⟨z0, h0 ⟨rfl, rfl, e2⟩⟩
      · exact bn1 (by decide) (h1 (Or.inr (Or.inr e2)))
    · rw [e1] at h1
      exact bn1 (by decide) (h1 (Or.inr (Or.inl rfl)))
  · rw [e0] at h1
    exact bn1 (by decide) (h1 (Or.inl rfl))
theorem clause_J {B : Nat → Nat} {L a m ic dr fr q : Nat} {ρ : Nat → Nat} {σ : St} (h : PX B L a m ic dr fr q ρ σ) (hm : m < 10) : JO B L (m + 1) σ (fun Q => f_X7_readClause σ Q) (PMM B L a ic dr fr q ρ) (fun τ Q => f_X9_clause τ Q) := by
  obtain ⟨hT, ha, h5, h6, h7, h13, hD, hB⟩ := id h
  have hT2 := hT.1
  have hs := (skp_le (B := B) (L := L) (a := a)).2 ha
  have hw := (wnd_le (B := B) (L := L) (a := skp B L a)).2 hs
  have hP : PX B L (wnd B L (skp B L a)) (m + 1) ic dr fr q ρ (si (si σ 5 (nI (wnd B L (skp B L a)))) 13 (nI (m + 1))) := ⟨(hT.si (by decide) _).si (by decide) _, hw, rfl, h6, h7, rfl, hD, hB⟩
  have hF : FX σ (si (si σ 5 (nI (wnd B L (skp B L a)))) 13 (nI (m + 1))) := ((FX.refl σ).si (by omega) _).si (by omega) _
  have h46 : ∀ (Q : Int32 → St → Prop) (x y : Int32), ((x = 0 → ((y = 0 → f_X7_readRights (si (si σ 5 (nI (wnd B L (skp B L a)))) 13 (nI (m + 1))) (KR Q)) ∧ (¬ y = 0 → f_X7_readDrops (si (si σ 5 (nI (wnd B L (skp B L a)))) 13 (nI (m + 1))) (KR Q)))) ∧ (¬ x = 0 → f_X7_readIce (si (si σ 5 (nI (wnd B L (skp B L a)))) 13 (nI (m + 1))) (KR Q))) → f_X7_readClause_46 Q (si σ 5 (nI (wnd B L (skp B L a)))) (nI (skp B L a)) x y := by
    intro Q x y hq
    unfold f_X7_readClause_46
    have e13 : gi (si σ 5 (nI (wnd B L (skp B L a)))) 13 = nI m := h13
    rw [e13, nI_1]
    exact br1 (nI_lt (b := 10) hm (by decide)) hq
  cases e0 : isW B L 0 (skp B L a)
  · cases e1 : isW B L 1 (skp B L a)
    · cases e2 : isW B L 2 (skp B L a)
      · refine Or.inl ⟨1, skp B L a, by omega, by omega, by omega, ⟨si (si (si σ 5 (nI (wnd B L (skp B L a)))) 6 1) 7 (nI (skp B L a)), (((FX.refl σ).si (by omega) _).si (by omega) _).si (by omega) _, rfl, rfl, fun Q hQ => ?_⟩, fun τ hτ => ?_⟩
        · refine s_clause hT h5 ha (fun q => ?_) (fun _ => hQ)
          rw [e0, e1, e2] at q
          exact absurd q (by decide)
        · obtain ⟨g1, g2, g3, g4, gD⟩ := hτ
          refine ⟨si (si (si (si (si τ 30 (nI (skp B L a))) 30 (nI (skp B L a))) 30 (nI (skp B L a))) 31 1) 32 (nI (skp B L a)), (((((FM.refl τ).si (by omega) _).si (by omega) _).si (by omega) _).si (by omega) _).si (by omega) _, rfl, rfl, ⟨skp B L a, by omega, rfl⟩, fun Q hQ => ?_⟩
          show f_X9_clause τ Q
          unfold f_X9_clause
          refine t_eat g1 (by decide) ha g2 g3 ?_
          rw [e0, if_neg (by decide)]
          refine br1 rfl (t_eat (B := B) (L := L) (a := skp B L a) (σ := si τ 30 (nI (skp B L a))) (g1.si (by decide) _) (by decide) hs rfl g3 ?_)
          rw [skp_skp, e1, if_neg (by decide)]
          refine br1 rfl (t_eat (B := B) (L := L) (a := skp B L a) (σ := si (si τ 30 (nI (skp B L a))) 30 (nI (skp B L a))) ((g1.si (by decide) _).si (by decide) _) (by decide) hs rfl g3 ?_)
          rw [skp_skp, e2, if_neg (by decide)]
          refine br1 rfl (t_wrong (σ := si (si (si τ 30 (nI (skp B L a))) 30 (nI (skp B L a))) 30 (nI (skp B L a))) g3 ?_)
          exact t_semi_bad (q := 1) rfl (by omega) (by omega) hQ
      · have he := (of_decide_eq_true e2).1
        refine JO_back hF (fX' := fun Q => f_X7_readRights (si (si σ 5 (nI (wnd B L (skp B L a)))) 13 (nI (m + 1))) (KR Q)) (fun Q hQ => ?_) (fun τ hτ => ?_) (way_J hP)
        · refine s_clause hT h5 ha (fun q => h46 Q _ _ ?_) (fun q => ?_)
          · rw [e0, e1]; exact br1 rfl (br1 rfl hQ)
          · rw [e2] at q; exact absurd q.2.2 (by decide)
        · obtain ⟨g1, g2, g3, g4, gD⟩ := hτ
          refine ⟨si (si (si τ 30 (nI (skp B L a))) 30 (nI (skp B L a))) 30 (nI (wnd B L (skp B L a))), (((FM.refl τ).si (by omega) _).si (by omega) _).si (by omega) _, ⟨((g1.si (by decide) _).si (by decide) _).si (by decide) _, rfl, g3, g4, gD⟩, fun Q hQ => ?_⟩
          show f_X9_clause τ Q
          unfold f_X9_clause
          refine t_eat g1 (by decide) ha g2 g3 ?_
          rw [e0, if_neg (by decide)]
          refine br1 rfl (t_eat (B := B) (L := L) (a := skp B L a) (σ := si τ 30 (nI (skp B L a))) (g1.si (by decide) _) (by decide) hs rfl g3 ?_)
          rw [skp_skp, e1, if_neg (by decide)]
          refine br1 rfl (t_eat (B := B) (L := L) (a := skp B L a) (σ := si (si τ 30 (nI (skp B L a))) 30 (nI (skp B L a))) ((g1.si (by decide) _).si (by decide) _) (by decide) hs rfl g3 ?_)
          rw [skp_skp, e2, if_pos rfl, ← he]
          exact br0 (by decide) hQ
    · have he := (of_decide_eq_true e1).1
      refine JO_back hF (fX' := fun Q => f_X7_readDrops (si (si σ 5 (nI (wnd B L (skp B L a)))) 13 (nI (m + 1))) (KR Q)) (fun Q hQ => ?_) (fun τ hτ => ?_) (drop_J hP)
      · refine s_clause hT h5 ha (fun q => h46 Q _ _ ?_) (fun q => ?_)
        · rw [e0, e1]; exact br1 rfl (br0 (by decide) hQ)
        · rw [e1] at q; exact absurd q.2.1 (by decide)
      · obtain ⟨g1, g2, g3, g4, gD⟩ := hτ
        refine ⟨si (si τ 30 (nI (skp B L a))) 30 (nI (wnd B L (skp B L a))), ((FM.refl τ).si (by omega) _).si (by omega) _, ⟨(g1.si (by decide) _).si (by decide) _, rfl, g3, g4, gD⟩, fun Q hQ => ?_⟩
        show f_X9_clause τ Q
        unfold f_X9_clause
        refine t_eat g1 (by decide) ha g2 g3 ?_
        rw [e0, if_neg (by decide)]
        refine br1 rfl (t_eat (B := B) (L := L) (a := skp B L a) (σ := si τ 30 (nI (skp B L a))) (g1.si (by decide) _) (by decide) hs rfl g3 ?_)
        rw [skp_skp, e1, if_pos rfl, ← he]
        exact br0 (by decide) hQ
  · have he := (of_decide_eq_true e0).1
    refine JO_back hF (fX' := fun Q => f_X7_readIce (si (si σ 5 (nI (wnd B L (skp B L a)))) 13 (nI (m + 1))) (KR Q)) (fun Q hQ => ?_) (fun τ hτ => ?_) (ice_J hP)
    · refine s_clause hT h5 ha (fun q => h46 Q _ _ ?_) (fun q => ?_)
      · rw [e0]; exact br0 (by decide) hQ
      · rw [e0] at q; exact absurd q.1 (by decide)
    · obtain ⟨g1, g2, g3, g4, gD⟩ := hτ
      refine ⟨si τ 30 (nI (wnd B L (skp B L a))), (FM.refl τ).si (by omega) _, ⟨g1.si (by decide) _, rfl, g3, g4, gD⟩, fun Q hQ => ?_⟩
      show f_X9_clause τ Q
      unfold f_X9_clause
      refine t_eat g1 (by decide) ha g2 g3 ?_
      rw [e0, if_pos rfl, ← he]
      exact br0 (by decide) hQ
