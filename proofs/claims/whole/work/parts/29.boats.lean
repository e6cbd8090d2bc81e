-- tacks
def tkd (w v : Nat) : Nat := (w + 8 - v) % 8
def tk (w v : Nat) : Int32 := if tkd w v = 0 ∨ tkd w v = 4 then 0 else if tkd w v < 4 then 1 else 2
theorem tkd_lt (w v : Nat) : tkd w v < 8 := Nat.mod_lt _ (by decide)
theorem tk_3 (w v : Nat) : tk w v = 0 ∨ tk w v = 1 ∨ tk w v = 2 := by
  unfold tk
  by_cases h1 : tkd w v = 0 ∨ tkd w v = 4
  · rw [if_pos h1]; exact Or.inl rfl
  · rw [if_neg h1]
    by_cases h2 : tkd w v < 4
    · rw [if_pos h2]; exact Or.inr (Or.inl rfl)
    · rw [if_neg h2]; exact Or.inr (Or.inr rfl)
theorem s_floorMod {σ : St} {w v : Nat} (hw : w < 8) (hv : v < 8) {Q : Int32 → St → Prop} : f_J9_floorMod_7cf53 σ (nI w - nI v) 8 Q ↔ Q (nI (tkd w v)) σ := by
  have e : ∀ w v : Fin 8, (if 0 ≤ ((nI w.val - nI v.val) ^^^ (8 : Int32)) then ((nI w.val - nI v.val) - (nI w.val - nI v.val) / (8 : Int32) * (8 : Int32)) else if ((nI w.val - nI v.val) - (nI w.val - nI v.val) / (8 : Int32) * (8 : Int32)) = 0 then ((nI w.val - nI v.val) - (nI w.val - nI v.val) / (8 : Int32) * (8 : Int32)) else ((nI w.val - nI v.val) - (nI w.val - nI v.val) / (8 : Int32) * (8 : Int32)) + 8) = nI (tkd w.val v.val) := by decide +kernel
  have e := e ⟨w, hw⟩ ⟨v, hv⟩
  dsimp only at e
  rw [← e]
  unfold f_J9_floorMod_7cf53
  have h8 : ¬ (8 : Int32) = 0 := by decide
  by_cases h1 : 0 ≤ ((nI w - nI v) ^^^ (8 : Int32)) <;> by_cases h2 : ((nI w - nI v) - (nI w - nI v) / (8 : Int32) * (8 : Int32)) = 0 <;> simp [h1, h2, h8]
theorem s_tackOf {σ : St} {j w v : Nat} (hj : j < 16) (hw : w < 8) (hv : v < 8) (e : ga σ 18 j = nI v) {Q : Int32 → St → Prop} : f_X0_tackOf σ (nI j) (nI w) Q ↔ Q (tk w v) σ := by
  unfold f_X0_tackOf
  rw [cl (by omega : j < 2 ^ 31), e, s_floorMod hw hv]
  have k : ∀ d : Fin 8, (if nI d.val < 1 then (if nI d.val < 5 then (0 : Int32) else 2) else if (3 : Int32) < nI d.val then (if nI d.val < 5 then 0 else 2) else 1) = (if d.val = 0 ∨ d.val = 4 then 0 else if d.val < 4 then 1 else 2) := by decide
  have k := k ⟨tkd w v, tkd_lt w v⟩
  dsimp only at k
  unfold tk
  rw [← k]
  have hv16 := v_in hj (by decide : 16 < 2 ^ 31)
  by_cases h1 : nI (tkd w v) < 1 <;> by_cases h2 : nI (tkd w v) < 5 <;> by_cases h3 : 3 < nI (tkd w v) <;> simp [h1, h2, h3, hv16]
theorem t_tackOf {σ : St} {j w v : Nat} (hj : j < 16) (hw : w < 8) (hv : v < 8) (e25 : gi σ 25 = nI w) (e : ga σ 37 j = nI v) {Q : Int32 → St → Prop} : f_X9_tackOf σ (nI j) Q ↔ Q (tk w v) σ := by
  unfold f_X9_tackOf
  rw [cl (by omega : j < 2 ^ 31), e, e25]
  have q : ∀ w v : Fin 8, ((nI w.val - nI v.val) + (8 : Int32)) - ((nI w.val - nI v.val) + (8 : Int32)) / (8 : Int32) * (8 : Int32) = nI (tkd w.val v.val) := by decide +kernel
  have q := q ⟨w, hw⟩ ⟨v, hv⟩
  dsimp only at q
  rw [q]
  have k : ∀ d : Fin 8, (if nI d.val = 0 then (0 : Int32) else if nI d.val = 4 then 0 else if (4 : Int32) ≤ nI d.val then 2 else 1) = (if d.val = 0 ∨ d.val = 4 then 0 else if d.val < 4 then 1 else 2) := by decide
  have k := k ⟨tkd w v, tkd_lt w v⟩
  dsimp only at k
  unfold tk
  rw [← k]
  have hv16 := v_in hj (by decide : 16 < 2 ^ 31)
  by_cases h1 : nI (tkd w v) = 0 <;> by_cases h2 : nI (tkd w v) = 4 <;> by_cases h3 : 4 ≤ nI (tkd w v) <;> simp [h1, h2, h3, hv16]
theorem s_needPoint {σ : St} {t d : Int32} {Q : St → Prop} {X : Nat → St → Prop} : f_X8_needPoint σ t d Q X ↔ (if t < 0 ∨ 1000 < t ∨ d < 0 ∨ 1000 < d then X 2 σ else Q σ) := by
  unfold f_X8_needPoint
  by_cases h1 : t < 0 <;> by_cases h2 : 1000 < t <;> by_cases h3 : d < 0 <;> by_cases h4 : d ≤ 1000 <;> simp [h1, h2, h3, h4] <;> (try (simp only [i_lt, i_le] at *; omega))
theorem t_isPoint {σ : St} {t : Int32} {Q : Int32 → St → Prop} : f_X9_isPoint σ t Q ↔ Q (if t < 0 ∨ 1000 < t then 0 else 1) σ := by
  unfold f_X9_isPoint
  by_cases h1 : t < 0 <;> by_cases h2 : 1000 < t <;> simp [h1, h2]
theorem pr_place {σ : St} (h : INVX σ) (c x y v : Int32) : PT σ (f_X8_place σ c x y v) (fun s => f_X9_place s c x y v) [(0, 0), (1, 1), (2, 2)] := by
  obtain ⟨w, n, r, tp, h⟩ := h
  obtain ⟨hi, ⟨b1, b2, b3, b4⟩, ht, hr, ⟨e1, e2, e3, e4, e5, e6, e7⟩, hrest⟩ := id h
  rcases c_boat c (n := n) (by omega) with hb | ⟨j, hj, rfl⟩
  · refine ⟨1, 1, 0, σ, by decide, fun Q X _ hX => ?_, fun g => ⟨0, si (si (so σ g) 23 0) 23 1, fun Q hQ => ?_, rfl, fun hh => absurd hh (by decide), rfl, INVX.of h⟩⟩
    · unfold f_X8_place
      rw [s_needBoat e2, if_pos hb]
      exact hX (by decide)
    · show f_X9_place (so σ g) c x y v Q
      unfold f_X9_place f_X9_place_19
      rw [t_isBoat (σ := si (so σ g) 23 0) (n := n) e3, if_pos hb]
      refine bn0 rfl ?_
      rw [t_bad.1]
      exact bn1 (by decide) hQ
  · have hb := b_ok hj (by omega : n < 2 ^ 31)
    have hv := v_in (by omega : j < 16) (by decide)
    have hm : ∀ (s : St) (Q : Int32 → St → Prop), gi s 41 = nI n → f_X9_place_54 Q (si s 23 0) (nI j) x y v (if (x < 0 ∨ 1000 < x) ∨ (y < 0 ∨ 1000 < y) ∨ (v < 0 ∨ 8 ≤ v) then 1 else 0) → f_X9_place s (nI j) x y v Q := by
      intro s Q hs hq
      unfold f_X9_place f_X9_place_19
      rw [t_isBoat (σ := si s 23 0) (n := n) hs, if_neg hb]
      refine bn1 (by decide) ?_
      rw [t_bad.2]
      refine bn0 rfl ?_
      rw [t_isPoint]
      by_cases q1 : x < 0 ∨ 1000 < x
      · rw [if_pos (Or.inl q1)] at hq
        rw [if_pos q1]
        exact br1 rfl hq
      · rw [if_neg q1]
        refine br0 (by decide) ?_
        rw [t_isPoint]
        by_cases q2 : y < 0 ∨ 1000 < y
        · rw [if_pos (Or.inr (Or.inl q2))] at hq
          rw [if_pos q2]
          exact br1 rfl hq
        · rw [if_neg q2]
          refine br0 (by decide) ?_
          rw [t_isWay]
          by_cases q3 : v < 0 ∨ 8 ≤ v
          · rw [if_pos (Or.inr (Or.inr q3))] at hq
            rw [if_pos q3]
            exact bn0 rfl hq
          · rw [if_neg (fun q => q.elim q1 (fun q => q.elim q2 q3))] at hq
            rw [if_neg q3]
            exact bn1 (by decide) hq
    by_cases hbad : (x < 0 ∨ 1000 < x) ∨ (y < 0 ∨ 1000 < y) ∨ (v < 0 ∨ 8 ≤ v)
    · refine ⟨2, 2, 0, σ, by decide, fun Q X _ hX => ?_, fun g => ⟨0, si (si (so σ g) 23 0) 23 2, fun Q hQ => hm _ Q e3 ?_, rfl, fun hh => absurd hh (by decide), rfl, INVX.of h⟩⟩
      · unfold f_X8_place
        rw [s_needBoat e2, if_neg hb, s_needPoint]
        by_cases q : x < 0 ∨ 1000 < x ∨ y < 0 ∨ 1000 < y
        · rw [if_pos q]; exact hX (by decide)
        · rw [if_neg q, s_needWay, if_pos]
          · exact hX (by decide)
          · rcases hbad with (p | p) | (p | p) | p
            · exact absurd (Or.inl p) q
            · exact absurd (Or.inr (Or.inl p)) q
            · exact absurd (Or.inr (Or.inr (Or.inl p))) q
            · exact absurd (Or.inr (Or.inr (Or.inr p))) q
            · exact p
      · rw [if_pos hbad]
        unfold f_X9_place_54
        rw [t_bad.1]
        exact br0 (by decide) hQ
    · have q1 : ¬ (x < 0 ∨ 1000 < x ∨ y < 0 ∨ 1000 < y) := by
        rintro (p | p | p | p)
        · exact hbad (Or.inl (Or.inl p))
        · exact hbad (Or.inl (Or.inr p))
        · exact hbad (Or.inr (Or.inl (Or.inl p)))
        · exact hbad (Or.inr (Or.inl (Or.inr p)))
      have q2 : ¬ (v < 0 ∨ 8 ≤ v) := fun p => hbad (Or.inr (Or.inr p))
      obtain ⟨z, hz, rfl⟩ := (c_way v).resolve_left q2
      refine ⟨0, 0, tk w z, sa (sa (sa σ 16 (upd (ga σ 16) j x)) 17 (upd (ga σ 17) j y)) 18 (upd (ga σ 18) j (nI z)), by decide, fun Q X hQ _ => ?_, fun g => ⟨tk w z, sa (sa (sa (si (so (sa (sa (sa σ 16 (upd (ga σ 16) j x)) 17 (upd (ga σ 17) j y)) 18 (upd (ga σ 18) j (nI z))) g) 23 0) 35 (upd (ga σ 35) j x)) 36 (upd (ga σ 36) j y)) 37 (upd (ga σ 37) j (nI z)), fun Q hQ => hm _ Q e3 ?_, rfl, fun _ => rfl, rfl, ?_⟩⟩
      · unfold f_X8_place f_X0_put
        rw [s_needBoat e2, if_neg hb, s_needPoint, if_neg q1, s_needWay, if_neg q2, cl (by omega : j < 2 ^ 31)]
        refine ⟨hv, hv, hv, ?_⟩
        have e0 : gi (sa (sa (sa σ 16 (upd (ga σ 16) j x)) 17 (upd (ga σ 17) j y)) 18 (upd (ga σ 18) j (nI z))) 0 = nI w := b2
        have := (s_tackOf (σ := sa (sa (sa σ 16 (upd (ga σ 16) j x)) 17 (upd (ga σ 17) j y)) 18 (upd (ga σ 18) j (nI z))) (j := j) (w := w) (v := z) (by omega) b1 hz (upd_at _ _ _)).mpr (hQ rfl)
        rw [← e0] at this
        exact this
      · rw [if_neg hbad]
        unfold f_X9_place_54
        rw [t_bad.2, cl (by omega : j < 2 ^ 31)]
        refine br1 rfl ⟨hv, hv, hv, ?_⟩
        exact (t_tackOf (σ := sa (sa (sa (si (so (sa (sa (sa σ 16 (upd (ga σ 16) j x)) 17 (upd (ga σ 17) j y)) 18 (upd (ga σ 18) j (nI z))) g) 23 0) 35 (upd (ga σ 35) j x)) 36 (upd (ga σ 36) j y)) 37 (upd (ga σ 37) j (nI z))) (j := j) (w := w) (v := z) (by omega) b1 hz b3 (upd_at _ _ _)).mpr hQ
      · refine INVX.of (w := w) (n := n) (r := r) (t := tp) ⟨hi, ⟨b1, b2, b3, b4⟩, ht, hr, ⟨e1, e2, e3, ?_, ?_, ?_, fun i => ?_⟩, hrest⟩
        · show upd (ga σ 16) j x = upd (ga σ 35) j x
          rw [e4]
        · show upd (ga σ 17) j y = upd (ga σ 36) j y
          rw [e5]
        · show upd (ga σ 18) j (nI z) = upd (ga σ 37) j (nI z)
          rw [e6]
        · show ∃ w, w < 8 ∧ upd (ga σ 18) j (nI z) i = nI w
          by_cases q : i = j
          · subst q; rw [upd_at]; exact ⟨z, hz, rfl⟩
          · rw [pk_un q]; exact e7 i
-- clear
def frv (px py : Nat → Int32) (j v : Nat) : Int32 := px j * stX.getD v 0 + py j * stY.getD v 0
theorem s_farBy {σ : St} {j v : Nat} (hj : j < 16) (hv : v < 8) {Q : Int32 → St → Prop} : f_X0_farBy σ (nI j) (nI v) Q ↔ Q (frv (ga σ 16) (ga σ 17) j v) σ := by
  unfold f_X0_farBy
  rw [s_stepX hv, s_stepY hv, cl (by omega : j < 2 ^ 31)]
  have hv16 := v_in hj (by decide : 16 < 2 ^ 31)
  simp only [hv16, true_and]
  exact Iff.rfl
theorem t_far {σ : St} {j v : Nat} (hj : j < 16) (hv : v < 8) {Q : Int32 → St → Prop} : f_X9_far σ (nI j) (nI v) Q ↔ Q (frv (ga σ 35) (ga σ 36) j v) σ := by
  unfold f_X9_far
  rw [t_wayX hv, t_wayY hv, cl (by omega : j < 2 ^ 31)]
  have hv16 := v_in hj (by decide : 16 < 2 ^ 31)
  simp only [hv16, true_and]
  exact Iff.rfl
/-- who keeps clear of a and b by one right (their tacks ta tb, ways va vb, the wind w); -1 nobody -/
def kpr (px py : Nat → Int32) (w a b va vb : Nat) (x : Int32) : Int32 :=
  if x = 0 then (if tk w va = 2 ∧ tk w vb = 1 then nI a else if tk w va = 1 ∧ tk w vb = 2 then nI b else -1)
  else if x = 1 then (if tk w va = 0 then -1 else if tk w va = tk w vb then (if frv px py a w = frv px py b w then -1 else if frv px py a w ≤ frv px py b w then nI b else nI a) else -1)
  else (if va = vb then (if frv px py a va = frv px py b va then -1 else if frv px py b va ≤ frv px py a va then nI b else nI a) else -1)
theorem nI_m1 {j : Nat} (h : j < 2 ^ 31) : ¬ nI j = -1 := by
  intro q
  have : (nI j).toInt = (-1 : Int32).toInt := by rw [q]
  rw [nI_toInt h] at this
  exact absurd this (by have : (-1 : Int32).toInt = -1 := rfl; omega)
theorem s_keeperBy {σ : St} {w a b va vb : Nat} (hw : w < 8) (ha : a < 16) (hb : b < 16) (hne : a ≠ b) (hva : va < 8) (hvb : vb < 8) (ea : ga σ 18 a = nI va) (eb : ga σ 18 b = nI vb) {x : Int32} {Q : Int32 → St → Prop} : f_X0_keeperBy σ x (nI a) (nI b) (nI w) Q ↔ Q (kpr (ga σ 16) (ga σ 17) w a b va vb x) σ := by
  have hne' : ¬ nI b = nI a := fun q => hne ((nI_eq (by omega) (by omega)).mp q).symm
  have hva' := v_in ha (by decide : 16 < 2 ^ 31)
  have hvb' := v_in hb (by decide : 16 < 2 ^ 31)
  have hma := nI_m1 (by omega : a < 2 ^ 31)
  have hmb := nI_m1 (by omega : b < 2 ^ 31)
  unfold f_X0_keeperBy kpr
  by_cases h0 : x = 0
  · simp only [h0, if_true, not_true, false_imp_iff, true_imp_iff, and_true]
    unfold f_X0_portAgainstStarboard
    rw [s_tackOf ha hw hva ea, s_tackOf hb hw hvb eb]
    rcases tk_3 w va with q | q | q <;> rcases tk_3 w vb with p | p | p <;> rw [q, p] <;> simp
  · by_cases h1 : x = 1
    · have h10 : ¬ (1 : Int32) = 0 := by decide
      simp only [h1, h10, if_true, if_false, not_true, not_false_iff, false_imp_iff, true_imp_iff, and_true, true_and]
      unfold f_X0_windwardOfOneTack f_X0_fartherOf
      rw [s_tackOf ha hw hva ea, s_tackOf hb hw hvb eb, s_farBy ha hw, s_farBy hb hw]
      by_cases p0 : tk w va = 0 <;> by_cases p1 : tk w va = tk w vb <;> by_cases p2 : frv (ga σ 16) (ga σ 17) a w = frv (ga σ 16) (ga σ 17) b w <;> by_cases p3 : frv (ga σ 16) (ga σ 17) a w ≤ frv (ga σ 16) (ga σ 17) b w <;> simp [p0, p1, p2, p3] <;> (try (rw [← p1] at *; simp_all))
    · simp only [h0, h1, if_false, not_false_iff, false_imp_iff, true_imp_iff, true_and]
      unfold f_X0_asternOnOneWay f_X0_fartherOf
      rw [cl (by omega : a < 2 ^ 31), cl (by omega : b < 2 ^ 31), ea, eb, nI_eq (by omega) (by omega), s_farBy ha hva, s_farBy hb hva]
      have hle : ∀ p q : Int32, ¬ p = q → (q ≤ p ↔ ¬ p ≤ q) := by
        intro p q hpq
        simp only [i_le, i_eq] at *
        omega
      by_cases p1 : va = vb
      · by_cases p2 : frv (ga σ 16) (ga σ 17) a va = frv (ga σ 16) (ga σ 17) b va
        · simp [p1, p2, hva', hvb']
          rw [p1] at p2; simp [p2]
        · have p3 := hle _ _ p2
          by_cases p4 : frv (ga σ 16) (ga σ 17) a va ≤ frv (ga σ 16) (ga σ 17) b va
          · have p5 : ¬ frv (ga σ 16) (ga σ 17) b va ≤ frv (ga σ 16) (ga σ 17) a va := fun q => (p3.mp q) p4
            subst p1
            simp [p2, p4, p5, hva', hvb', hmb, hne']
          · have p5 := p3.mpr p4
            subst p1
            simp [p2, p4, p5, hva', hvb', hma]
      · simp [p1, hva', hvb']
