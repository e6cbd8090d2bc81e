theorem w_ok {w : Nat} (h : w < 8) : ¬ (nI w < 0 ∨ (8 : Int32) ≤ nI w) := by
  rintro (h1 | h1)
  · exact nI_pos (by omega) h1
  · exact nI_ge h (by decide) h1
theorem c_way (c : Int32) : (c < 0 ∨ 8 ≤ c) ∨ ∃ j, j < 8 ∧ c = nI j := by
  rcases ix3 c (n := 8) (by decide) with h | h | h
  · exact Or.inl (Or.inl h)
  · exact Or.inl (Or.inr h)
  · exact Or.inr h
theorem s_needWay {σ : St} {c : Int32} {Q : St → Prop} {X : Nat → St → Prop} : f_X8_needWay σ c Q X ↔ (if c < 0 ∨ 8 ≤ c then X 2 σ else Q σ) := by
  unfold f_X8_needWay
  rw [s_isWay]
  by_cases h : c < 0 ∨ 8 ≤ c <;> simp [h]
theorem t_isWay {σ : St} {c : Int32} {Q : Int32 → St → Prop} : f_X9_isWay σ c Q ↔ Q (if c < 0 ∨ 8 ≤ c then 0 else 1) σ := by
  unfold f_X9_isWay
  by_cases h1 : c < 0 <;> by_cases h2 : (8 : Int32) ≤ c <;> simp [h1, h2]
theorem pr_wind {σ : St} (h : INVX σ) (c : Int32) : PT σ (f_X8_wind σ c) (fun s => f_X9_wind s c) [(0, 0), (2, 1)] := by
  obtain ⟨w, n, r, tp, h⟩ := h
  rcases c_way c with hc | ⟨j, hj, rfl⟩
  · refine ⟨2, 1, 0, σ, by decide, fun Q X _ hX => ?_, fun g => ⟨0, si (si (so σ g) 23 0) 23 1, fun Q hQ => ?_, rfl, fun hh => absurd hh (by decide), rfl, INVX.of h⟩⟩
    · unfold f_X8_wind
      rw [s_needWay, if_pos hc]
      exact hX (by decide)
    · show f_X9_wind (so σ g) c Q
      unfold f_X9_wind
      rw [t_isWay, if_pos hc]
      refine ⟨fun q => absurd rfl q, fun _ => ?_⟩
      rw [t_bad.1]
      exact ⟨fun q => absurd q (by decide), fun _ => hQ⟩
  · have hc := w_ok hj
    obtain ⟨a, ⟨b1, b2, b3, b4⟩, hrest⟩ := h
    refine ⟨0, 0, gi σ 0, si σ 0 (nI j), by decide, fun Q X hQ _ => ?_, fun g => ⟨gi σ 25, si (si (so (si σ 0 (nI j)) g) 23 0) 25 (nI j), fun Q hQ => ?_, rfl, fun _ => by rw [b2, b3], rfl, INVX.of (w := j) (n := n) (r := r) (t := tp) ⟨a, ⟨hj, rfl, rfl, b4⟩, hrest⟩⟩⟩
    · unfold f_X8_wind
      rw [s_needWay, if_neg hc]
      exact hQ rfl
    · show f_X9_wind (so _ g) (nI j) Q
      unfold f_X9_wind
      rw [t_isWay, if_neg hc]
      refine ⟨fun _ => ?_, fun q => absurd q (by decide)⟩
      rw [t_bad.2]
      exact ⟨fun _ => hQ, fun q => absurd rfl q⟩
theorem s_stepX {σ : St} {w : Nat} (hw : w < 8) {Q : Int32 → St → Prop} : f_X8_stepX σ (nI w) Q ↔ Q (stX.getD w 0) σ := by
  unfold f_X8_stepX
  rw [s_isWay, if_neg (w_ok hw), cl (by omega : w < 2 ^ 31)]
  have hv := v_in hw (by decide)
  simp [hv]
theorem s_stepY {σ : St} {w : Nat} (hw : w < 8) {Q : Int32 → St → Prop} : f_X8_stepY σ (nI w) Q ↔ Q (stY.getD w 0) σ := by
  unfold f_X8_stepY
  rw [s_isWay, if_neg (w_ok hw), cl (by omega : w < 2 ^ 31)]
  have hv := v_in hw (by decide)
  simp [hv]
theorem t_wayX {σ : St} {w : Nat} (hw : w < 8) {Q : Int32 → St → Prop} : f_X9_wayX σ (nI w) Q ↔ Q (stX.getD w 0) σ := by
  have e : ∀ k : Fin 8, (if nI k.val = 0 then (0 : Int32) else if nI k.val = 4 then 0 else if (4 : Int32) ≤ nI k.val then -1 else 1) = stX.getD k.val 0 := by decide
  have e := e ⟨w, hw⟩
  dsimp only at e
  rw [← e]
  unfold f_X9_wayX
  by_cases h1 : nI w = 0 <;> by_cases h2 : nI w = 4 <;> by_cases h3 : (4 : Int32) ≤ nI w <;> simp [h1, h2, h3]
theorem t_wayY {σ : St} {w : Nat} (hw : w < 8) {Q : Int32 → St → Prop} : f_X9_wayY σ (nI w) Q ↔ Q (stY.getD w 0) σ := by
  have e : ∀ k : Fin 8, (if nI k.val = 2 then (0 : Int32) else if nI k.val = 6 then 0 else if nI k.val = 7 then -1 else if (2 : Int32) ≤ nI k.val then 1 else -1) = stY.getD k.val 0 := by decide
  have e := e ⟨w, hw⟩
  dsimp only at e
  rw [← e]
  unfold f_X9_wayY
  by_cases h1 : nI w = 2 <;> by_cases h2 : nI w = 6 <;> by_cases h3 : nI w = 7 <;> by_cases h4 : (2 : Int32) ≤ nI w <;> simp [h1, h2, h3, h4]
/-- the cell k steps from c by the way w; -1 beyond the shore -/
def cbX (w : Nat) (c k : Int32) : Int32 := (c - c / (12 : Int32) * (12 : Int32)) + (k * stX.getD w 0)
def cbY (w : Nat) (c k : Int32) : Int32 := (c / (12 : Int32)) + (k * stY.getD w 0)
def cbI (w : Nat) (c k : Int32) : Int32 := if cbX w c k < 0 ∨ 12 ≤ cbX w c k ∨ cbY w c k < 0 ∨ ¬ cbY w c k < 12 then -1 else (12 : Int32) * cbY w c k + cbX w c k
theorem s_cellBeyond {σ : St} {w : Nat} (hw : w < 8) {c k : Int32} {Q : Int32 → St → Prop} : f_X8_cellBeyond σ c (nI w) k Q ↔ Q (cbI w c k) σ := by
  unfold f_X8_cellBeyond
  rw [s_stepX hw, s_stepY hw]
  unfold cbI
  rw [show (c - c / (12 : Int32) * (12 : Int32)) + (k * stX.getD w 0) = cbX w c k from rfl, show (c / (12 : Int32)) + (k * stY.getD w 0) = cbY w c k from rfl]
  by_cases h1 : cbX w c k < 0 <;> by_cases h2 : 12 ≤ cbX w c k <;> by_cases h3 : cbY w c k < 0 <;> by_cases h4 : cbY w c k < 12 <;> simp [h1, h2, h3, h4]
theorem t_stepped {σ : St} {w : Nat} (hw : w < 8) (he : gi σ 25 = nI w) {c k : Int32} {Q : Int32 → St → Prop} : f_X9_stepped σ c k Q ↔ Q (cbI w c k) σ := by
  unfold f_X9_stepped
  rw [he, t_wayX hw, he, t_wayY hw]
  unfold cbI
  rw [show (c - c / (12 : Int32) * (12 : Int32)) + (k * stX.getD w 0) = cbX w c k from rfl, show (c / (12 : Int32)) + (k * stY.getD w 0) = cbY w c k from rfl]
  by_cases h1 : cbX w c k < 0 <;> by_cases h2 : 12 ≤ cbX w c k <;> by_cases h3 : cbY w c k < 0 <;> by_cases h4 : cbY w c k < 12 <;> simp [h1, h2, h3, h4]
theorem cb_rng (w : Nat) (c k : Int32) : cbI w c k = -1 ∨ ∃ j, j < 144 ∧ cbI w c k = nI j := by
  unfold cbI
  by_cases h : cbX w c k < 0 ∨ 12 ≤ cbX w c k ∨ cbY w c k < 0 ∨ ¬ cbY w c k < 12
  · rw [if_pos h]; exact Or.inl rfl
  · rw [if_neg h]
    refine Or.inr ?_
    have hx : ∃ a, a < 12 ∧ cbX w c k = nI a := by
      rcases ix3 (cbX w c k) (n := 12) (by decide) with q | q | q
      · exact absurd (Or.inl q) h
      · exact absurd (Or.inr (Or.inl q)) h
      · exact q
    have hy : ∃ a, a < 12 ∧ cbY w c k = nI a := by
      rcases ix3 (cbY w c k) (n := 12) (by decide) with q | q | q
      · exact absurd (Or.inr (Or.inr (Or.inl q))) h
      · exact absurd (Or.inr (Or.inr (Or.inr (fun q2 => by have q : (12 : Int32) ≤ cbY w c k := q; simp only [i_lt, i_le] at q q2; omega)))) h
      · exact q
    obtain ⟨a, ha, ea⟩ := hx
    obtain ⟨b, hb, eb⟩ := hy
    refine ⟨12 * b + a, by omega, ?_⟩
    rw [ea, eb, show (12 : Int32) = nI 12 from rfl, pk_mul, nI_add]
theorem cb_12 {w c : Nat} (hw : w < 8) (hc : c < 144) : cbI w (nI c) 12 = -1 := by
  have e1 : nI c - nI c / (12 : Int32) * (12 : Int32) = nI (c % 12) := pk_rem (d := 12) (by omega) (by decide) (by decide)
  have e2 : nI c / (12 : Int32) = nI (c / 12) := pk_div (d := 12) (by omega) (by decide) (by decide)
  have ha : c % 12 < 12 := Nat.mod_lt _ (by decide)
  have hb : c / 12 < 12 := by omega
  have key : ∀ k : Fin 8, ∀ a b : Fin 12, (nI a.val + (12 : Int32) * stX.getD k.val 0 < 0 ∨ (12 : Int32) ≤ nI a.val + (12 : Int32) * stX.getD k.val 0 ∨ nI b.val + (12 : Int32) * stY.getD k.val 0 < 0 ∨ ¬ nI b.val + (12 : Int32) * stY.getD k.val 0 < 12) := by decide +kernel
  unfold cbI cbX cbY
  rw [e1, e2, if_pos (key ⟨w, hw⟩ ⟨c % 12, ha⟩ ⟨c / 12, hb⟩)]
theorem cb_0 {w c : Nat} (hc : c < 144) : cbI w (nI c) 0 = nI c := by
  have e1 : nI c - nI c / (12 : Int32) * (12 : Int32) = nI (c % 12) := pk_rem (d := 12) (by omega) (by decide) (by decide)
  have e2 : nI c / (12 : Int32) = nI (c / 12) := pk_div (d := 12) (by omega) (by decide) (by decide)
  have ha : c % 12 < 12 := Nat.mod_lt _ (by decide)
  have hb : c / 12 < 12 := by omega
  unfold cbI cbX cbY
  rw [e1, e2, Int32.zero_mul, Int32.zero_mul, Int32.add_zero, Int32.add_zero, if_neg, show (12 : Int32) = nI 12 from rfl, pk_mul, nI_add]
  · congr 1; omega
  · rintro (q | q | q | q)
    · exact nI_pos (by omega) q
    · exact nI_ge ha (by decide) q
    · exact nI_pos (by omega) q
    · exact q (nI_lt hb (by decide))
/-- whether a place is a safe cell -/
def sfz (lo cr : Nat → Int32) (ice z : Int32) : Int32 := if z < 0 ∨ 144 ≤ z then 0 else sfv lo cr ice z.toNatClampNeg
theorem sfz_01 (lo cr : Nat → Int32) (ice z : Int32) : sfz lo cr ice z = 0 ∨ sfz lo cr ice z = 1 := by
  unfold sfz
  by_cases h : z < 0 ∨ 144 ≤ z
  · rw [if_pos h]; exact Or.inl rfl
  · rw [if_neg h]; exact sfv_01 _ _ _ _
theorem sfz_nI {lo cr : Nat → Int32} {ice : Int32} {j : Nat} (hj : j < 144) : sfz lo cr ice (nI j) = sfv lo cr ice j := by
  unfold sfz
  rw [if_neg (c_ok hj), cl (by omega : j < 2 ^ 31)]
theorem s_isSafe_z {σ : St} {z ice : Int32} {Q : Int32 → St → Prop} : f_X3_isSafe σ z ice Q ↔ Q (sfz (ga σ 10) (ga σ 12) ice z) σ := by
  rcases c_cell z with hc | ⟨j, hj, rfl⟩
  · rw [s_isSafe_no hc]; unfold sfz; rw [if_pos hc]
  · rw [s_isSafe hj, sfz_nI hj]
/-- from s on, how far the steps go on safe ice (f more are asked at most) -/
def lenF (P : Nat → Int32) : Nat → Nat → Nat
  | 0, s => s
  | f + 1, s => if P s = 0 then s else lenF P f (s + 1)
theorem lenF_le (P : Nat → Int32) : ∀ f s, s ≤ lenF P f s ∧ lenF P f s ≤ s + f := by
  intro f
  induction f with
  | zero => intro s; exact ⟨Nat.le_refl _, Nat.le_refl _⟩
  | succ f ih =>
    intro s
    unfold lenF
    by_cases h : P s = 0
    · rw [if_pos h]; omega
    · rw [if_neg h]; have := ih (s + 1); omega
def LEN (lo cr : Nat → Int32) (ice : Int32) (w c : Nat) : Nat := lenF (fun s => sfz lo cr ice (cbI w (nI c) (nI s))) 12 0
theorem l_reach {σ : St} {w c : Nat} (hw : w < 8) {ice : Int32} {Q : Int32 → St → Prop} : ∀ f n s : Nat, s + f = 12 → f < n → Q (nI (lenF (fun s => sfz (ga σ 10) (ga σ 12) ice (cbI w (nI c) (nI s))) f s) - 1) σ → f_X3_reach_6L Q n σ (nI c) (nI w) ice (nI s - 1) (nI s) := by
  intro f
  induction f with
  | zero =>
    intro n s hs hn h
    obtain ⟨n, rfl, -⟩ := suc_of hn
    obtain rfl : s = 12 := by omega
    show f_X3_reach_6 Q _ _ _ _ _ _ _
    unfold f_X3_reach_6
    exact ⟨fun _ => h, fun q => absurd (by decide) q⟩
  | succ f ih =>
    intro n s hs hn h
    obtain ⟨n, rfl, hn'⟩ := suc_of hn
    have hlt : s < 12 := by omega
    show f_X3_reach_6 Q _ _ _ _ _ _ _
    unfold f_X3_reach_6
    refine ⟨fun q => absurd q (nI_ge hlt (by decide)), fun _ => ?_⟩
    rw [s_cellBeyond hw, s_isSafe_z]
    unfold lenF at h
    rcases sfz_01 (ga σ 10) (ga σ 12) ice (cbI w (nI c) (nI s)) with e | e
    · rw [if_pos e] at h
      exact ⟨fun q => absurd e q, fun _ => h⟩
    · rw [if_neg (by rw [e]; decide)] at h
      refine ⟨fun _ => ?_, fun q => absurd (q.symm.trans e) (by decide)⟩
      have := ih n (s + 1) (by omega) (by omega) h
      rw [nI_pred] at this
      rw [nI_1]
      exact this
theorem s_reach {σ : St} {w c : Nat} (hw : w < 8) {ice : Int32} {Q : Int32 → St → Prop} (h : Q (nI (LEN (ga σ 10) (ga σ 12) ice w c) - 1) σ) : f_X3_reach σ (nI c) (nI w) ice Q := l_reach hw 12 FU 0 rfl (by decide) h
theorem l_lengthFrom {σ : St} {w c : Nat} (hw : w < 8) (hc : c < 144) (he : gi σ 25 = nI w) {Q : Int32 → St → Prop} : ∀ f n s : Nat, s + f = 12 → f < n → Q (nI (lenF (fun s => sfz (ga σ 29) (ga σ 31) (gi σ 24) (cbI w (nI c) (nI s))) f s) - 1) σ → f_X9_lengthFrom_2L Q n σ (nI c) (nI s) := by
  intro f
  induction f with
  | zero =>
    intro n s hs hn h
    obtain ⟨n, rfl, -⟩ := suc_of hn
    obtain rfl : s = 12 := by omega
    show f_X9_lengthFrom_2 Q _ _ _ _
    unfold f_X9_lengthFrom_2
    rw [t_stepped hw he, show (nI 12 : Int32) = 12 from rfl, cb_12 hw hc]
    exact ⟨fun _ => h, fun q => absurd (by decide) q⟩
  | succ f ih =>
    intro n s hs hn h
    obtain ⟨n, rfl, hn'⟩ := suc_of hn
    have hlt : s < 12 := by omega
    show f_X9_lengthFrom_2 Q _ _ _ _
    unfold f_X9_lengthFrom_2
    rw [t_stepped hw he]
    unfold lenF at h
    rcases cb_rng w (nI c) (nI s) with e | ⟨j, hj, e⟩
    · rw [e] at h ⊢
      rw [if_pos (by rfl)] at h
      exact ⟨fun _ => h, fun q => absurd (by decide) q⟩
    · rw [e] at h ⊢
      refine ⟨fun q => absurd q (nI_pos (by omega)), fun _ => ?_⟩
      rw [t_stepped hw he, e, t_isSafe hj]
      rw [sfz_nI hj] at h
      rcases sfv_01 (ga σ 29) (ga σ 31) (gi σ 24) j with e2 | e2
      · rw [if_pos e2] at h
        exact ⟨fun _ => h, fun q => absurd e2 q⟩
      · rw [if_neg (by rw [e2]; decide)] at h
        refine ⟨fun q => absurd (q.symm.trans e2) (by decide), fun _ => ?_⟩
        rw [nI_1]
        exact ih n (s + 1) (by omega) (by omega) h
theorem t_lengthFrom {σ : St} {w c : Nat} (hw : w < 8) (hc : c < 144) (he : gi σ 25 = nI w) {Q : Int32 → St → Prop} (h : Q (nI (LEN (ga σ 29) (ga σ 31) (gi σ 24) w c) - 1) σ) : f_X9_lengthFrom σ (nI c) Q := l_lengthFrom hw hc he 12 FU 0 rfl (by decide) h
theorem pr_mark {σ : St} (h : INVX σ) (v : Int32) : PT σ (f_X8_mark σ v) (fun s => f_X9_mark s v) [(0, 0), (2, 1)] := by
  obtain ⟨w, n, r, tp, h⟩ := h
  obtain ⟨a, ⟨b1, b2, b3, b4, b5, b6⟩, hrest⟩ := id h
  have l0 : (0 : Int32).toInt = 0 := rfl
  have l1 : (1 : Int32).toInt = 1 := rfl
  by_cases h0 : v = 0
  · subst h0
    refine ⟨0, 0, gi σ 1, σ, by decide, fun Q X hQ _ => ?_, fun g => ⟨gi σ 26, si (so σ g) 23 0, fun Q hQ => ?_, rfl, fun _ => b4.symm, rfl, INVX.of h⟩⟩
    · unfold f_X8_mark
      exact ⟨fun _ => ⟨fun q => absurd rfl q, fun _ => hQ rfl⟩, fun q => absurd rfl q⟩
    · show f_X9_mark (so σ g) 0 Q
      unfold f_X9_mark f_X9_mark_20
      rw [t_bad.1, t_bad.2]
      exact ⟨fun q => absurd q (by decide), fun _ => ⟨fun _ => ⟨fun _ => ⟨fun q => absurd rfl q, fun _ => hQ⟩, fun q => absurd rfl q⟩, fun q => absurd (by decide) q⟩⟩
  · by_cases h1 : v = 1
    · subst h1
      refine ⟨0, 0, gi σ 2, σ, by decide, fun Q X hQ _ => ?_, fun g => ⟨gi σ 27, si (so σ g) 23 0, fun Q hQ => ?_, rfl, fun _ => b5.symm, rfl, INVX.of h⟩⟩
      · unfold f_X8_mark
        exact ⟨fun q => absurd q h0, fun _ => ⟨fun _ => ⟨fun _ => hQ rfl, fun q => absurd q h0⟩, fun q => absurd rfl q⟩⟩
      · show f_X9_mark (so σ g) 1 Q
        unfold f_X9_mark f_X9_mark_20
        rw [t_bad.1, t_bad.2]
        exact ⟨fun q => absurd q (by decide), fun _ => ⟨fun _ => ⟨fun _ => ⟨fun _ => hQ, fun q => absurd q (by decide)⟩, fun q => absurd rfl q⟩, fun q => absurd (by decide) q⟩⟩
    · refine ⟨2, 1, 0, σ, by decide, fun Q X _ hX => ?_, fun g => ⟨0, si (si (so σ g) 23 0) 23 1, fun Q hQ => ?_, rfl, fun hh => absurd hh (by decide), rfl, INVX.of h⟩⟩
      · unfold f_X8_mark
        exact ⟨fun q => absurd q h0, fun _ => ⟨fun q => absurd q h1, fun _ => hX (by decide)⟩⟩
      · show f_X9_mark (so σ g) v Q
        have key : f_X9_mark_20 Q (si (so σ g) 23 0) v 1 := by
          unfold f_X9_mark_20
          rw [t_bad.1]
          exact ⟨fun q => absurd q (by decide), fun _ => hQ⟩
        unfold f_X9_mark
        refine ⟨fun _ => key, fun q1 => ⟨fun q2 => ?_, fun _ => key⟩⟩
        exact absurd (show v = 0 ∨ v = 1 by simp only [i_lt, i_le, i_eq] at *; omega) (by rintro (q | q); exact h0 q; exact h1 q)
