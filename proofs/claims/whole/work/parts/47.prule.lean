/-- the class's state when it begins to read -/
def rdX (σ : St) (L : Nat) : St := si (si (si (si (si (si (si (si (si σ 4 (nI L)) 5 0) 6 0) 7 (-1)) 13 0) 14 150) 15 0) 16 0) 17 0
/-- the reference's -/
def rdM (σ : St) (L : Nat) : St := si (si (si (si (si (si (si (si (si (si σ 23 0) 29 (nI L)) 28 0) 30 0) 31 0) 32 (-1)) 37 150) 38 0) 39 (-1)) 40 0
def tkX (s : St) : St := sa (si (si (si (si (si (si s 3 0) 8 (gi s 13)) 9 (gi s 14)) 10 (gi s 15)) 11 (gi s 16)) 12 (gi s 17)) 14 (cpf (ga s 15) (ga s 14) 3)
def tkM (s : St) (q m : Nat) : St := si (sa (si (si (si (si s 24 (gi s 37)) 34 (gi s 38)) 35 (gi s 39)) 36 (gi s 40)) 33 (cpf (ga s 34) (ga s 33) q)) 33 (nI m)
theorem pr_rule {σ : St} (h : INVX σ) (x : Int32) : PT σ (f_X8_rule σ x) (fun s => f_X9_rule s x) [(0, 0), (2, 1)] := by
  obtain ⟨w, n, r, t, h⟩ := h
  obtain ⟨hi, hc, ⟨t1, t2, t3, t4, t5⟩, hr, hb, hrc, hfl, hl⟩ := id h
  by_cases hbad : x < 0 ∨ ¬ x ≤ nI t
  · refine ⟨2, 1, 0, σ, by decide, fun Q X _ hX => ?_, fun g => ⟨0, si (si (so σ g) 23 0) 23 1, fun Q hQ => ?_, rfl, fun hh => absurd hh (by decide), rfl, INVX.of h⟩⟩
    · unfold f_X8_rule
      rw [t2]
      by_cases q : x < 0
      · exact br1 q (hX (by decide))
      · exact br0 q (br0 (hbad.resolve_left q) (hX (by decide)))
    · show f_X9_rule (so σ g) x Q
      unfold f_X9_rule f_X9_rule_23
      have e28 : gi (si (so σ g) 23 0) 28 = nI t := t3
      rw [e28, t_bad.1]
      by_cases q : x < 0
      · exact br1 q (br0 (by decide) hQ)
      · exact br0 q (br0 (hbad.resolve_left q) (br0 (by decide) hQ))
  · have hx0 : ¬ x < 0 := fun q => hbad (Or.inl q)
    have hxt : x ≤ nI t := by
      by_cases q : x ≤ nI t
      · exact q
      · exact absurd (Or.inr q) hbad
    obtain ⟨L, hL, rfl⟩ : ∃ L, L ≤ t ∧ x = nI L := nI_of2 (M := nI t) (nI_toInt (by omega)) hx0 hxt
    have hBX : ∀ j, j < L → ga σ 13 j = nI ((ga σ 32 j).toBitVec.toNat % 256) ∧ (ga σ 32 j).toBitVec.toNat % 256 < 256 := by
      intro j hj
      refine ⟨?_, Nat.mod_lt _ (by decide)⟩
      rw [t4 j (by omega), pk_and _ 8 (by decide)]
    have hBM : ∀ j, j < L → (ga σ 32 j &&& 255) = nI ((ga σ 32 j).toBitVec.toNat % 256) ∧ (ga σ 32 j).toBitVec.toNat % 256 < 256 := by
      intro j hj
      exact ⟨pk_and _ 8 (by decide), Nat.mod_lt _ (by decide)⟩
    generalize hBe : (fun j => (ga σ 32 j).toBitVec.toNat % 256) = B at *
    have hBX : ∀ j, j < L → ga σ 13 j = nI (B j) ∧ B j < 256 := by intro j hj; rw [← hBe]; exact hBX j hj
    have hBM : ∀ j, j < L → (ga σ 32 j &&& 255) = nI (B j) ∧ B j < 256 := by intro j hj; rw [← hBe]; exact hBM j hj
    have hP : PX B L 0 0 150 0 0 0 (fun _ => 0) (rdX σ L) := ⟨⟨by omega, rfl, hBX⟩, by omega, rfl, rfl, rfl, rfl, ⟨rfl, rfl, rfl, rfl, fun j hj => absurd hj (by omega)⟩, ⟨by omega, by omega, by omega, by omega, fun j hj => absurd hj (by omega), fun i j hi => absurd hi (by omega)⟩⟩
    have hX : ∀ (Q : Int32 → St → Prop) (X : Nat → St → Prop), f_X7_readRule_40L (fun r30 s30 => ((r30 = 0 → f_X6_takeOver (si s30 3 (0 : Int32)) (fun s62 => Q (gi s62 8) s62)) ∧ (¬ r30 = 0 → Q (r30 - (10 : Int32)) (si s30 3 (0 : Int32))))) FU (rdX σ L) (nI 0) → f_X8_rule σ (nI L) Q X := by
      intro Q X hq
      unfold f_X8_rule f_X7_readRule f_X6_forget
      rw [t2]
      refine br0 hx0 (br1 hxt ?_)
      have e : (if (0 : Int32) < (if nI t < nI L then nI t else nI L) then (if nI t < nI L then nI t else nI L) else (0 : Int32)) = nI L := by
        rw [if_neg (nI_nlt hL (by omega))]
        by_cases z : L = 0
        · subst z; rfl
        · rw [if_pos (show (0 : Int32) < nI L from nI_lt (a := 0) (by omega) (by omega))]
      rw [e]
      exact hq
    have hM : ∀ (s : St) (Q : Int32 → St → Prop), gi s 28 = nI t → (∀ j, j < L → (ga s 32 j &&& 255) = nI (B j) ∧ B j < 256) → f_X9_rule_85L Q FU (si (rdM s L) 30 (nI (skp B L 0))) (nI 0) → f_X9_rule s (nI L) Q := by
      intro s Q h28 hs hq
      unfold f_X9_rule f_X9_rule_23
      have e28 : gi (si s 23 0) 28 = nI t := h28
      rw [e28, t_bad.2]
      refine br0 hx0 (br1 hxt (br1 rfl ?_))
      exact t_blanks (σ := rdM s L) (a := 0) ⟨by omega, rfl, hs⟩ rfl (by omega) hq
    have hPM : ∀ s : St, (∀ j, j < L → (ga s 32 j &&& 255) = nI (B j) ∧ B j < 256) → PMM B L (skp B L 0) 150 0 0 0 (fun _ => 0) (si (rdM s L) 30 (nI (skp B L 0))) := fun s hs => ⟨⟨by omega, rfl, hs⟩, rfl, rfl, rfl, rfl, rfl, Or.inl ⟨rfl, rfl⟩, rfl, fun j hj => absurd hj (by omega)⟩
    have hFM : ∀ (s τ : St), FM (si (rdM s L) 30 (nI (skp B L 0))) τ → (∀ k, (k < 23 ∨ (24 ≤ k ∧ k ≤ 27) ∨ (32 < k ∧ k < 37) ∨ 40 < k) → gi τ k = gi s k) ∧ gi τ 23 = 0 ∧ gi τ 28 = 0 ∧ (∀ k, k ≠ 34 → ga τ k = ga s k) ∧ go τ = go s := by
      intro s τ hf
      refine ⟨fun k hk => ?_, hf.1 23 (by omega), hf.1 28 (by omega), hf.2.1, hf.2.2⟩
      rw [hf.1 k (by omega)]
      unfold rdM
      simp only [gi_si]
      rw [if_neg (by omega), if_neg (by omega), if_neg (by omega), if_neg (by omega), if_neg (by omega), if_neg (by omega), if_neg (by omega), if_neg (by omega), if_neg (by omega), if_neg (by omega), if_neg (by omega)]
    have hFX : ∀ s : St, FX (rdX σ L) s → (∀ k, (k < 4 ∨ (7 < k ∧ k < 13) ∨ 17 < k) → gi s k = gi σ k) ∧ (∀ k, k ≠ 15 → ga s k = ga σ k) := by
      intro s hf
      refine ⟨fun k hk => ?_, hf.2.1⟩
      rw [hf.1 k (by omega)]
      unfold rdX
      simp only [gi_si]
      rw [if_neg (by omega), if_neg (by omega), if_neg (by omega), if_neg (by omega), if_neg (by omega), if_neg (by omega), if_neg (by omega), if_neg (by omega), if_neg (by omega)]
    rcases rule_J 10 0 (by omega) 0 150 0 0 0 (fun _ => 0) (rdX σ L) FU FU (by decide) (by decide) hP with ⟨k, pl, k1, k2, k3, ⟨s, s1, s2, s3⟩, ht⟩ | ⟨m', a', ic, dr, fr, q, ρ, hm', ⟨s, s1, s2, s3⟩, ht⟩
    · obtain ⟨fi, fa⟩ := hFX s s1
      refine ⟨0, 0, nI k - 10, si s 3 0, by decide, fun Q X hQ _ => hX Q X (s3 _ (br0 (nI_ne0 (by omega) (by omega)) (hQ rfl))), fun g => ?_⟩
      have h32 : ∀ j, j < L → (ga (so (si s 3 0) g) 32 j &&& 255) = nI (B j) ∧ B j < 256 := by
        intro j hj
        have : ga (so (si s 3 0) g) 32 = ga σ 32 := fa 32 (by decide)
        rw [this]; exact hBM j hj
      obtain ⟨u, u1, u2, u3⟩ := ht _ (hPM (so (si s 3 0) g) h32)
      obtain ⟨v1, v2, v3, v4, v5⟩ := hFM _ u u1
      have w1 : ∀ k, k ≠ 3 → (k < 23 ∨ (24 ≤ k ∧ k ≤ 27) ∨ (32 < k ∧ k < 37) ∨ 40 < k) → gi u k = gi s k := by
        intro k hk3 hk
        rw [v1 k hk, gi_so, gi_si, if_neg hk3]
      have w2 : ∀ k, k ≠ 34 → k ≠ 15 → ga u k = ga σ k := by
        intro k hk1 hk2
        rw [v4 k hk1]
        exact fa k hk2
      refine ⟨nI k - 10, u, fun Q hQ => hM _ Q ((fi 28 (by omega)).trans t3) h32 (u3 Q hQ), v2, fun _ => rfl, v5, ?_⟩
      obtain ⟨i1, i2, i3, i4, i5, i6⟩ := inv_tr (w := w) (n := n) (r := r) (σ := σ) (s := u) (fun k hk => by rw [w1 k (by omega) (by omega), fi k (by omega)]) (fun k hk => w2 k hk.2.2.2 hk.2.1)
      refine INVX.of (w := w) (n := n) (r := r) (t := 0) ⟨i1 hi, i2 hc, ⟨by omega, v1 3 (by omega), v3, fun j hj => absurd hj (by omega), ?_⟩, ?_, i3 hb, i4 hrc, i5 hfl, i6 hl⟩
      · rw [u2, w1 7 (by omega) (by omega), s2]
      · unfold RUL at *
        rw [w1 8 (by omega) (by omega), w1 33 (by omega) (by omega), w1 9 (by omega) (by omega), w1 24 (by omega) (by omega), w1 10 (by omega) (by omega), w1 34 (by omega) (by omega), w1 11 (by omega) (by omega), w1 35 (by omega) (by omega), w1 12 (by omega) (by omega), w1 36 (by omega) (by omega), w2 14 (by omega) (by omega), w2 33 (by omega) (by omega), fi 8 (by omega), fi 33 (by omega), fi 9 (by omega), fi 24 (by omega), fi 10 (by omega), fi 34 (by omega), fi 11 (by omega), fi 35 (by omega), fi 12 (by omega), fi 36 (by omega)]
        exact hr
    · obtain ⟨fi, fa⟩ := hFX s s1
      obtain ⟨pT, pa, p5, p6, p7, p13, pD, pB⟩ := s2
      refine ⟨0, 0, nI m', tkX s, by decide, fun Q X hQ _ => hX Q X (s3 _ (br1 rfl ?_)), fun g => ?_⟩
      · have := l_take (σ := si (si (si (si (si (si s 3 0) 8 (gi s 13)) 9 (gi s 14)) 10 (gi s 15)) 11 (gi s 16)) 12 (gi s 17)) (Q := fun s62 => Q (gi s62 8) s62) ?_ 3 FU 0 rfl (by decide)
        · rw [cpf_0, sa_self] at this
          exact this
        · show Q (gi s 13) (tkX s)
          rw [p13]
          exact hQ rfl
      · have h32 : ∀ j, j < L → (ga (so (tkX s) g) 32 j &&& 255) = nI (B j) ∧ B j < 256 := by
          intro j hj
          have : ga (so (tkX s) g) 32 = ga σ 32 := fa 32 (by decide)
          rw [this]; exact hBM j hj
        obtain ⟨u, u1, u2, u3⟩ := ht _ (hPM (so (tkX s) g) h32)
        obtain ⟨v1, v2, v3, v4, v5⟩ := hFM _ u u1
        obtain ⟨gT, g30, g31, g32, gD1, gD2, gD3, gD4, gD5⟩ := u2
        obtain ⟨b1, b2, b3, b4, b5, b6⟩ := pB
        refine ⟨nI m', tkM u q m', fun Q hQ => hM _ Q ((fi 28 (by omega)).trans t3) h32 (u3 Q ?_), v2, fun _ => rfl, v5, ?_⟩
        · unfold f_X9_rule_176
          rw [g31]
          refine br1 (by decide) ?_
          have := l_225 (σ := si (si (si (si u 24 (gi u 37)) 34 (gi u 38)) 35 (gi u 39)) 36 (gi u 40)) (q := q) b4 gD4 (v := nI m') (Q := Q) hQ q FU 0 (by omega) (by rw [FU_eq]; omega)
          rw [cpf_0, sa_self] at this
          exact this
        · have ts : ∀ k, (k ≤ 2 ∨ (18 ≤ k ∧ k ≤ 22) ∨ (25 ≤ k ∧ k ≤ 27) ∨ 41 ≤ k) → gi (so (tkX s) g) k = gi σ k := by
            intro k hk
            show gi (tkX s) k = _
            unfold tkX
            simp only [gi_si, gi_sa]
            rw [if_neg (by omega), if_neg (by omega), if_neg (by omega), if_neg (by omega), if_neg (by omega), if_neg (by omega)]
            exact fi k (by omega)
          have tu : ∀ k, (k ≤ 2 ∨ (18 ≤ k ∧ k ≤ 22) ∨ (25 ≤ k ∧ k ≤ 27) ∨ 41 ≤ k) → gi (tkM u q m') k = gi u k := by
            intro k hk
            unfold tkM
            simp only [gi_si, gi_sa]
            rw [if_neg (by omega), if_neg (by omega), if_neg (by omega), if_neg (by omega), if_neg (by omega)]
          obtain ⟨i1, i2, i3, i4, i5, i6⟩ := inv_tr (w := w) (n := n) (r := r) (σ := σ) (s := tkM u q m') (fun k hk => by rw [tu k hk, v1 k (by omega), ts k hk]) (fun k hk => by
            show (if k = 33 then cpf (ga u 34) (ga u 33) q else ga u k) = ga σ k
            rw [if_neg hk.2.2.1, v4 k hk.2.2.2]
            show (if k = 14 then cpf (ga s 15) (ga s 14) 3 else ga s k) = ga σ k
            rw [if_neg hk.1]
            exact fa k hk.2.1)
          refine INVX.of (w := w) (n := n) (r := r) (t := 0) ⟨i1 hi, i2 hc, ⟨by omega, ?_, v3, fun j hj => absurd hj (by omega), ?_⟩, ⟨?_, ⟨ic, b1, ?_, gD1⟩, ⟨dr, fr, b2, b3, ?_, gD2, ?_, gD3⟩, ⟨q, b4, ?_, gD4, fun j hj => ?_⟩⟩, i3 hb, i4 hrc, i5 hfl, i6 hl⟩
          · show gi u 3 = nI 0
            rw [v1 3 (by omega)]
            rfl
          · show gi u 7 = gi u 32
            rw [g32, v1 7 (by omega)]
            exact p7
          · show gi u 8 = nI m'
            rw [v1 8 (by omega)]
            exact p13
          · show gi u 9 = nI ic
            rw [v1 9 (by omega)]
            exact pD.1
          · show gi u 10 = nI dr
            rw [v1 10 (by omega)]
            exact pD.2.1
          · show gi u 11 = nI fr
            rw [v1 11 (by omega)]
            exact pD.2.2.1
          · show gi u 12 = nI q
            rw [v1 12 (by omega)]
            exact pD.2.2.2.1
          · show ga u 14 j = cpf (ga u 34) (ga u 33) q j
            rw [cpf_in _ _ hj, gD5 j hj, v4 14 (by omega)]
            show cpf (ga s 15) (ga s 14) 3 j = nI (ρ j)
            rw [cpf_in _ _ (by omega)]
            exact pD.2.2.2.2 j hj
