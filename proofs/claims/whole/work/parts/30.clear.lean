def kpf (px py : Nat → Int32) (w a b va vb : Nat) (x : Nat → Int32) : Nat → Nat → Int32
  | 0, _ => -1
  | f + 1, i => if kpr px py w a b va vb (x i) = -1 then kpf px py w a b va vb x f (i + 1) else kpr px py w a b va vb (x i)
theorem kpf_eq (px py : Nat → Int32) (w a b va vb : Nat) {x y : Nat → Int32} {q : Nat} (h : ∀ j, j < q → x j = y j) : ∀ f i, f + i ≤ q → kpf px py w a b va vb x f i = kpf px py w a b va vb y f i := by
  intro f
  induction f with
  | zero => intro i _; rfl
  | succ f ih =>
    intro i hi
    unfold kpf
    rw [h i (by omega), ih (i + 1) (by omega)]
theorem t_clear1 {σ : St} {w a b va vb q i : Nat} (hw : w < 8) (ha : a < 16) (hb : b < 16) (hva : va < 8) (hvb : vb < 8) (ea : ga σ 37 a = nI va) (eb : ga σ 37 b = nI vb) (ew : gi σ 25 = nI w) (e36 : gi σ 36 = nI q) (hq : q ≤ 3) (hi : i < q) {rec : St → Int32 → Int32 → Int32 → Prop} {Q : Int32 → St → Prop}
    (h1 : kpr (ga σ 35) (ga σ 36) w a b va vb (ga σ 33 i) = -1 → rec σ (nI a) (nI b) (nI (i + 1))) (h2 : ¬ kpr (ga σ 35) (ga σ 36) w a b va vb (ga σ 33 i) = -1 → Q (kpr (ga σ 35) (ga σ 36) w a b va vb (ga σ 33 i)) σ) : f_X9_clear_45 Q rec σ (nI a) (nI b) (nI i) := by
  have hva' := v_in ha (by decide : 16 < 2 ^ 31)
  have hvb' := v_in hb (by decide : 16 < 2 ^ 31)
  have hvi := v_in (by omega : i < 3) (by decide : 3 < 2 ^ 31)
  have hma := nI_m1 (by omega : a < 2 ^ 31)
  have hmb := nI_m1 (by omega : b < 2 ^ 31)
  unfold f_X9_clear_45
  rw [e36]
  refine br0 (nI_ge (by omega) (by omega)) ?_
  rw [t_tackOf ha hw hva ew ea, t_tackOf hb hw hvb ew eb, cl (by omega : i < 2 ^ 31), cl (by omega : a < 2 ^ 31), cl (by omega : b < 2 ^ 31), ea, eb, ew, nI_1]
  refine ⟨hvi, ?_⟩
  unfold kpr at h1 h2
  by_cases h0 : ga σ 33 i = 0
  · refine bn0 h0 ?_
    rw [if_pos h0] at h1 h2
    rcases tk_3 w va with q | q | q <;> rcases tk_3 w vb with p | p | p <;> rw [q, p] at h1 h2 ⊢ <;> simp [hma, hmb] at h1 h2 ⊢ <;> (first | exact h1 | exact h2)
  · refine bn1 h0 ⟨hvi, ?_⟩
    rw [if_neg h0] at h1 h2
    by_cases h3 : ga σ 33 i = 1
    · refine bn0 h3 ?_
      rw [if_pos h3] at h1 h2
      by_cases p0 : tk w va = 0
      · rw [if_pos p0] at h1
        rw [p0]
        exact br1 (by decide) (h1 rfl)
      · rw [if_neg p0] at h1 h2
        have p0' : ¬ tk w va ≤ 0 := by rcases tk_3 w va with q | q | q <;> rw [q] <;> first | exact absurd q p0 | decide
        refine br0 p0' ?_
        by_cases p1 : tk w va = tk w vb
        · rw [if_pos p1] at h1 h2
          refine bn0 p1 ?_
          rw [t_far ha hw, ew, t_far hb hw, ew, t_far ha hw, ew, t_far hb hw]
          by_cases p2 : frv (ga σ 35) (ga σ 36) a w = frv (ga σ 35) (ga σ 36) b w
          · rw [if_pos p2] at h1
            exact br1 p2 (h1 rfl)
          · rw [if_neg p2] at h2
            refine br0 p2 ?_
            by_cases p3 : frv (ga σ 35) (ga σ 36) a w ≤ frv (ga σ 35) (ga σ 36) b w
            · rw [if_pos p3] at h2; exact br1 p3 (h2 hmb)
            · rw [if_neg p3] at h2; exact br0 p3 (h2 hma)
        · rw [if_neg p1] at h1
          exact bn1 p1 (h1 rfl)
    · refine bn1 h3 ⟨hva', hvb', ?_⟩
      rw [if_neg h3] at h1 h2
      by_cases p1 : va = vb
      · rw [if_pos p1] at h1 h2
        refine bn0 (by rw [p1]) ⟨hva', ?_⟩
        rw [t_far ha hva, ea, t_far hb hva, ea, t_far ha hva, ea, t_far hb hva]
        refine ⟨hva', ?_⟩
        by_cases p2 : frv (ga σ 35) (ga σ 36) a va = frv (ga σ 35) (ga σ 36) b va
        · rw [if_pos p2] at h1
          exact br1 p2 (h1 rfl)
        · rw [if_neg p2] at h2
          refine br0 p2 ⟨hva', hva', ?_⟩
          by_cases p3 : frv (ga σ 35) (ga σ 36) b va ≤ frv (ga σ 35) (ga σ 36) a va
          · rw [if_pos p3] at h2; exact br1 p3 (h2 hmb)
          · rw [if_neg p3] at h2; exact br0 p3 (h2 hma)
      · rw [if_neg p1] at h1
        exact bn1 (fun q => p1 ((nI_eq (by omega) (by omega)).mp q)) (h1 rfl)
theorem l_clearM {σ : St} {w a b va vb q : Nat} (hw : w < 8) (ha : a < 16) (hb : b < 16) (hva : va < 8) (hvb : vb < 8) (ea : ga σ 37 a = nI va) (eb : ga σ 37 b = nI vb) (ew : gi σ 25 = nI w) (e36 : gi σ 36 = nI q) (hq : q ≤ 3) {Q : Int32 → St → Prop} :
    ∀ f m i : Nat, f + i = q → f < m → Q (kpf (ga σ 35) (ga σ 36) w a b va vb (ga σ 33) f i) σ → f_X9_clear_45L Q m σ (nI a) (nI b) (nI i) := by
  intro f
  induction f with
  | zero =>
    intro m i hi hm h
    obtain ⟨m, rfl, -⟩ := suc_of hm
    show f_X9_clear_45 Q _ _ _ _ _
    unfold f_X9_clear_45
    rw [e36]
    exact br1 (nI_le (by omega) (by omega)) h
  | succ f ih =>
    intro m i hi hm h
    obtain ⟨m, rfl, -⟩ := suc_of hm
    show f_X9_clear_45 Q _ _ _ _ _
    unfold kpf at h
    refine t_clear1 hw ha hb hva hvb ea eb ew e36 hq (by omega) (fun z => ?_) (fun z => ?_)
    · rw [if_pos z] at h; exact ih m (i + 1) (by omega) (by omega) h
    · rw [if_neg z] at h; exact h
theorem l_clearX {σ : St} {w a b va vb q : Nat} (hw : w < 8) (ha : a < 16) (hb : b < 16) (hne : a ≠ b) (hva : va < 8) (hvb : vb < 8) (ea : ga σ 18 a = nI va) (eb : ga σ 18 b = nI vb) (e12 : gi σ 12 = nI q) (hq : q ≤ 3) {Q : Int32 → St → Prop} :
    ∀ f m i : Nat, f + i = q → f < m → Q (kpf (ga σ 16) (ga σ 17) w a b va vb (ga σ 14) f i) σ → f_X0_keepsClear_10L Q m σ (nI a) (nI b) (nI w) (nI i) := by
  intro f
  induction f with
  | zero =>
    intro m i hi hm h
    obtain ⟨m, rfl, -⟩ := suc_of hm
    show f_X0_keepsClear_10 Q _ _ _ _ _ _
    unfold f_X0_keepsClear_10
    rw [e12]
    exact br1 (nI_le (by omega) (by omega)) h
  | succ f ih =>
    intro m i hi hm h
    obtain ⟨m, rfl, -⟩ := suc_of hm
    show f_X0_keepsClear_10 Q _ _ _ _ _ _
    unfold f_X0_keepsClear_10
    rw [e12, s_keeperBy hw ha hb hne hva hvb ea eb, cl (by omega : i < 2 ^ 31), nI_1]
    refine br0 (nI_ge (by omega) (by omega)) (br0 (nI_ge (b := 3) (by omega) (by decide)) ⟨v_in (by omega) (by decide), ?_⟩)
    unfold kpf at h
    by_cases z : kpr (ga σ 16) (ga σ 17) w a b va vb (ga σ 14 i) = -1
    · rw [if_pos z] at h
      exact br1 z (ih m (i + 1) (by omega) (by omega) h)
    · rw [if_neg z] at h
      exact br0 z h
theorem pr_clear {σ : St} (h : INVX σ) (c d : Int32) : PT σ (f_X8_clear σ c d) (fun s => f_X9_clear s c d) [(0, 0), (1, 1)] := by
  obtain ⟨w, n, r, tp, h⟩ := h
  obtain ⟨hi, ⟨b1, b2, b3, b4⟩, ht, ⟨d1, d2, d3, q, hq, d4, d5, d6⟩, ⟨e1, e2, e3, e4, e5, e6, e7⟩, hrest⟩ := id h
  have hbad : ∀ (g : Nat → Int64) (Q : Int32 → St → Prop), Q 0 (si (si (so σ g) 23 0) 23 1) → f_X9_clear_22 Q (si (so σ g) 23 0) c d := by
    intro g Q hQ
    unfold f_X9_clear_22
    rw [t_bad.1]
    exact br0 (by decide) hQ
  rcases c_boat c (n := n) (by omega) with hb | ⟨a, ha, rfl⟩
  · refine ⟨1, 1, 0, σ, by decide, fun Q X _ hX => ?_, fun g => ⟨0, si (si (so σ g) 23 0) 23 1, fun Q hQ => ?_, rfl, fun hh => absurd hh (by decide), rfl, INVX.of h⟩⟩
    · unfold f_X8_clear
      rw [s_needBoat e2, if_pos hb]
      exact hX (by decide)
    · show f_X9_clear (so σ g) c d Q
      unfold f_X9_clear
      rw [t_isBoat (σ := si (so σ g) 23 0) (n := n) e3, if_pos hb]
      exact br1 rfl (hbad g Q hQ)
  · have hba := b_ok ha (by omega : n < 2 ^ 31)
    rcases c_boat d (n := n) (by omega) with hb | ⟨b, hbn, rfl⟩
    · refine ⟨1, 1, 0, σ, by decide, fun Q X _ hX => ?_, fun g => ⟨0, si (si (so σ g) 23 0) 23 1, fun Q hQ => ?_, rfl, fun hh => absurd hh (by decide), rfl, INVX.of h⟩⟩
      · unfold f_X8_clear
        rw [s_needBoat e2, if_neg hba, s_needBoat e2, if_pos hb]
        exact hX (by decide)
      · show f_X9_clear (so σ g) (nI a) d Q
        unfold f_X9_clear
        rw [t_isBoat (σ := si (so σ g) 23 0) (n := n) e3, if_neg hba]
        refine br0 (by decide) ?_
        rw [t_isBoat (σ := si (so σ g) 23 0) (n := n) e3, if_pos hb]
        exact bn0 rfl (hbad g Q hQ)
    · have hbb := b_ok hbn (by omega : n < 2 ^ 31)
      have hx : ∀ (Q : Int32 → St → Prop) (X : Nat → St → Prop), f_X0_keepsClear σ (nI a) (nI b) (nI w) (fun r s => Q r s) → f_X8_clear σ (nI a) (nI b) Q X := by
        intro Q X hq
        unfold f_X8_clear
        rw [s_needBoat e2, if_neg hba, s_needBoat e2, if_neg hbb, b2]
        exact hq
      have hm : ∀ (s : St) (Q : Int32 → St → Prop), gi s 41 = nI n → ((¬ nI a = nI b → f_X9_clear_45L Q FU (si s 23 0) (nI a) (nI b) (0 : Int32)) ∧ (nI a = nI b → Q (-1 : Int32) (si s 23 0))) → f_X9_clear s (nI a) (nI b) Q := by
        intro s Q hs hq
        unfold f_X9_clear
        rw [t_isBoat (σ := si s 23 0) (n := n) hs, if_neg hba]
        refine br0 (by decide) ?_
        rw [t_isBoat (σ := si s 23 0) (n := n) hs, if_neg hbb]
        refine bn1 (by decide) ?_
        rw [t_bad.2]
        exact br1 rfl hq
      by_cases hab : a = b
      · subst hab
        refine ⟨0, 0, -1, σ, by decide, fun Q X hQ _ => hx Q X ?_, fun g => ⟨-1, si (so σ g) 23 0, fun Q hQ => hm _ Q e3 (bn0 rfl hQ), rfl, fun _ => rfl, rfl, INVX.of h⟩⟩
        unfold f_X0_keepsClear
        exact bn0 rfl (hQ rfl)
      · have hne : ¬ nI a = nI b := fun z => hab ((nI_eq (by omega) (by omega)).mp z)
        obtain ⟨va, hva, ea⟩ := e7 a
        obtain ⟨vb, hvb, eb⟩ := e7 b
        have ek : kpf (ga σ 16) (ga σ 17) w a b va vb (ga σ 14) q 0 = kpf (ga σ 35) (ga σ 36) w a b va vb (ga σ 33) q 0 := by
          rw [e4, e5, kpf_eq _ _ _ _ _ _ _ d6 q 0 (by omega)]
        have ea2 : ga σ 37 a = nI va := by rw [← e6]; exact ea
        have eb2 : ga σ 37 b = nI vb := by rw [← e6]; exact eb
        refine ⟨0, 0, kpf (ga σ 16) (ga σ 17) w a b va vb (ga σ 14) q 0, σ, by decide, fun Q X hQ _ => hx Q X ?_, fun g => ⟨kpf (ga σ 35) (ga σ 36) w a b va vb (ga σ 33) q 0, si (so σ g) 23 0, fun Q hQ => hm _ Q e3 (bn1 hne ?_), rfl, fun _ => ek.symm, rfl, INVX.of h⟩⟩
        · unfold f_X0_keepsClear
          refine bn1 hne ?_
          exact l_clearX b1 (by omega) (by omega) hab hva hvb ea eb d4 hq q FU 0 (by omega) (by rw [FU_eq]; omega) (hQ rfl)
        · exact l_clearM (σ := si (so σ g) 23 0) b1 (by omega) (by omega) hva hvb ea2 eb2 b3 d5 hq q FU 0 (by omega) (by rw [FU_eq]; omega) hQ
