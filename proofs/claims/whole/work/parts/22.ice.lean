theorem c_ok {j : Nat} (h : j < 144) : ¬ (nI j < 0 ∨ (144 : Int32) ≤ nI j) := by
  rintro (h1 | h1)
  · exact nI_pos (by omega) h1
  · exact nI_ge h (by decide) h1
theorem c_cell (c : Int32) : (c < 0 ∨ 144 ≤ c) ∨ ∃ j, j < 144 ∧ c = nI j := by
  rcases ix3 c (n := 144) (by decide) with h | h | h
  · exact Or.inl (Or.inl h)
  · exact Or.inl (Or.inr h)
  · exact Or.inr h
theorem v_in {j n : Nat} (h : j < n) (hn : n < 2 ^ 31) : vp_in (nI j) n := vp_in_nI h hn
theorem cl {j : Nat} (h : j < 2 ^ 31) : (nI j).toNatClampNeg = j := nI_clamp h
theorem suc_of {n k : Nat} (h : k < n) : ∃ n', n = n' + 1 ∧ k ≤ n' := ⟨n - 1, by omega, by omega⟩
/-- whether a cell is safe, as a number -/
def sfv (lo cr : Nat → Int32) (ice : Int32) (j : Nat) : Int32 := if lo j < ice then 0 else if cr j = 0 then 1 else 0
def sct (lo cr : Nat → Int32) (ice : Int32) : Nat → Int32
  | 0 => 0
  | k + 1 => sct lo cr ice k + sfv lo cr ice k
theorem sfv_01 (lo cr : Nat → Int32) (ice : Int32) (j : Nat) : sfv lo cr ice j = 0 ∨ sfv lo cr ice j = 1 := by
  unfold sfv
  by_cases h1 : lo j < ice <;> by_cases h2 : cr j = 0 <;> simp [h1, h2]
theorem s_isSafe {σ : St} {j : Nat} (hj : j < 144) {ice : Int32} {Q : Int32 → St → Prop} : f_X3_isSafe σ (nI j) ice Q ↔ Q (sfv (ga σ 10) (ga σ 12) ice j) σ := by
  unfold f_X3_isSafe sfv
  rw [s_isCell, if_neg (c_ok hj)]
  have hv := v_in hj (by decide)
  rw [cl (by omega : j < 2 ^ 31)]
  by_cases h1 : ga σ 10 j < ice <;> by_cases h2 : ga σ 12 j = 0 <;> simp [h1, h2, hv]
theorem s_isSafe_no {σ : St} {c : Int32} (hc : c < 0 ∨ 144 ≤ c) {ice : Int32} {Q : Int32 → St → Prop} : f_X3_isSafe σ c ice Q ↔ Q 0 σ := by
  unfold f_X3_isSafe
  rw [s_isCell, if_pos hc]
  simp
theorem t_isSafe {σ : St} {j : Nat} (hj : j < 144) {Q : Int32 → St → Prop} : f_X9_isSafe σ (nI j) Q ↔ Q (sfv (ga σ 29) (ga σ 31) (gi σ 24) j) σ := by
  unfold f_X9_isSafe sfv
  have hv := v_in hj (by decide)
  rw [cl (by omega : j < 2 ^ 31)]
  by_cases h1 : ga σ 29 j < gi σ 24 <;> by_cases h2 : ga σ 31 j = 0 <;> simp [h1, h2, hv]
theorem l_safeCells {σ : St} {ice : Int32} {Q : Int32 → St → Prop} (h : Q (sct (ga σ 10) (ga σ 12) ice 144) σ) : ∀ k n c : Nat, c + k = 144 → k < n → f_X3_safeCells_4L Q n σ ice (sct (ga σ 10) (ga σ 12) ice c) (nI c) := by
  intro k
  induction k with
  | zero =>
    intro n c hc hn
    obtain ⟨n, rfl, -⟩ := suc_of hn
    obtain rfl : c = 144 := by omega
    show f_X3_safeCells_4 Q _ σ _ _ _
    unfold f_X3_safeCells_4
    exact ⟨fun _ => h, fun hh => absurd (by decide) hh⟩
  | succ k ih =>
    intro n c hc hn
    obtain ⟨n, rfl, hn'⟩ := suc_of hn
    have hlt : c < 144 := by omega
    show f_X3_safeCells_4 Q _ σ _ _ _
    unfold f_X3_safeCells_4
    refine ⟨fun hh => absurd hh (nI_ge hlt (by decide)), fun _ => ?_⟩
    rw [s_isSafe hlt, nI_1]
    have ih := ih n (c + 1) (by omega) (by omega)
    rcases sfv_01 (ga σ 10) (ga σ 12) ice c with e | e
    · refine ⟨fun _ => ?_, fun hh => absurd e hh⟩
      rw [show sct (ga σ 10) (ga σ 12) ice (c + 1) = sct (ga σ 10) (ga σ 12) ice c + sfv (ga σ 10) (ga σ 12) ice c from rfl, e, Int32.add_zero] at ih
      exact ih
    · refine ⟨fun hh => absurd (hh.symm.trans e) (by decide), fun _ => ?_⟩
      rw [show sct (ga σ 10) (ga σ 12) ice (c + 1) = sct (ga σ 10) (ga σ 12) ice c + sfv (ga σ 10) (ga σ 12) ice c from rfl, e] at ih
      exact ih
theorem s_safeCells {σ : St} {ice : Int32} {Q : Int32 → St → Prop} (h : Q (sct (ga σ 10) (ga σ 12) ice 144) σ) : f_X3_safeCells σ ice Q := l_safeCells h 144 FU 0 rfl (by decide)
theorem l_safeMany {σ : St} {Q : Int32 → St → Prop} (h : Q (sct (ga σ 29) (ga σ 31) (gi σ 24) 144) σ) : ∀ k n c : Nat, c + k = 144 → k < n → f_X9_safeMany_4L Q n σ (sct (ga σ 29) (ga σ 31) (gi σ 24) c) (nI c) := by
  intro k
  induction k with
  | zero =>
    intro n c hc hn
    obtain ⟨n, rfl, -⟩ := suc_of hn
    obtain rfl : c = 144 := by omega
    show f_X9_safeMany_4 Q _ σ _ _
    unfold f_X9_safeMany_4
    exact ⟨fun _ => h, fun hh => absurd (by decide) hh⟩
  | succ k ih =>
    intro n c hc hn
    obtain ⟨n, rfl, hn'⟩ := suc_of hn
    have hlt : c < 144 := by omega
    show f_X9_safeMany_4 Q _ σ _ _
    unfold f_X9_safeMany_4
    refine ⟨fun hh => absurd hh (nI_ge hlt (by decide)), fun _ => ?_⟩
    rw [t_isSafe hlt, nI_1]
    have ih := ih n (c + 1) (by omega) (by omega)
    rcases sfv_01 (ga σ 29) (ga σ 31) (gi σ 24) c with e | e
    · refine ⟨fun _ => ?_, fun hh => absurd e hh⟩
      rw [show sct (ga σ 29) (ga σ 31) (gi σ 24) (c + 1) = sct (ga σ 29) (ga σ 31) (gi σ 24) c + sfv (ga σ 29) (ga σ 31) (gi σ 24) c from rfl, e] at ih
      exact ih
    · refine ⟨fun hh => absurd (hh.symm.trans e) (by decide), fun _ => ?_⟩
      rw [show sct (ga σ 29) (ga σ 31) (gi σ 24) (c + 1) = sct (ga σ 29) (ga σ 31) (gi σ 24) c + sfv (ga σ 29) (ga σ 31) (gi σ 24) c from rfl, e] at ih
      exact ih
theorem t_safeMany {σ : St} {Q : Int32 → St → Prop} (h : Q (sct (ga σ 29) (ga σ 31) (gi σ 24) 144) σ) : f_X9_safeMany σ Q := l_safeMany h 144 FU 0 rfl (by decide)
theorem s_needDegrees {σ : St} {t : Int32} {Q : St → Prop} {X : Nat → St → Prop} : f_X8_needDegrees σ t Q X ↔ (if t < -40 ∨ 20 < t then X 2 σ else Q σ) := by
  unfold f_X8_needDegrees
  by_cases h1 : t < -40 <;> by_cases h2 : 20 < t <;> by_cases h3 : t ≤ 20 <;> simp [h1, h2, h3] <;> (try (simp only [i_lt, i_le] at *; omega))
theorem t_isDegrees {σ : St} {t : Int32} {Q : Int32 → St → Prop} : f_X9_isDegrees σ t Q ↔ Q (if t < -40 ∨ 20 < t then 0 else 1) σ := by
  unfold f_X9_isDegrees
  by_cases h1 : t < -40 <;> by_cases h2 : 20 < t <;> simp [h1, h2]
theorem upd_at (f : Nat → Int32) (k : Nat) (x : Int32) : upd f k x k = x := pk_us
-- sound
theorem s_setBounds {σ : St} {j : Nat} (hj : j < 144) {t d : Int32} {Q : Int32 → St → Prop} : f_X3_setBounds σ (nI j) t d Q ↔ Q (clampT (t - d)) (sa (sa σ 10 (upd (ga σ 10) j (clampT (t - d)))) 11 (upd (ga σ 11) j (clampT (t + d)))) := by
  unfold f_X3_setBounds
  have hv := v_in hj (by decide)
  rw [s_within, s_within, cl (by omega : j < 2 ^ 31)]
  simp only [hv, true_and]
  show Q (upd (ga σ 10) j (clampT (t - d)) j) _ ↔ _
  rw [upd_at]
  exact Iff.rfl
theorem t_sounds {σ : St} {j : Nat} (hj : j < 144) {t d : Int32} {Q : St → Prop} : f_X9_sounds σ (nI j) t d Q ↔ Q (sa (sa σ 29 (upd (ga σ 29) j (clampT (t - d)))) 30 (upd (ga σ 30) j (clampT (t + d)))) := by
  unfold f_X9_sounds
  have hv := v_in hj (by decide)
  rw [t_within, t_within, cl (by omega : j < 2 ^ 31)]
  simp only [hv, true_and]
  exact Iff.rfl
theorem pr_sound {σ : St} (h : INVX σ) (c t d : Int32) : PT σ (f_X8_sound σ c t d) (fun s => f_X9_sound s c t d) [(0, 0), (1, 1), (2, 2)] := by
  obtain ⟨w, n, r, tp, h⟩ := h
  rcases c_cell c with hc | ⟨j, hj, rfl⟩
  · refine ⟨1, 1, 0, σ, by decide, fun Q X _ hX => ?_, fun g => ⟨0, si (so σ g) 23 1, fun Q hQ => ?_, rfl, fun hh => absurd hh (by decide), rfl, INVX.of h⟩⟩
    · unfold f_X8_sound
      rw [s_needCell, if_pos hc]
      exact hX (by decide)
    · show f_X9_sound (so σ g) c t d Q
      unfold f_X9_sound
      rw [t_isCell, if_pos hc, if_pos hc]
      simp [hQ]
  · have hc := c_ok hj
    by_cases hb : t < 0 ∨ 5000 < t ∨ d < 0 ∨ 5000 < d
    · refine ⟨2, 2, 0, σ, by decide, fun Q X _ hX => ?_, fun g => ⟨0, si (si (so σ g) 23 0) 23 2, fun Q hQ => ?_, rfl, fun hh => absurd hh (by decide), rfl, INVX.of h⟩⟩
      · unfold f_X8_sound
        rw [s_needCell, if_neg hc, s_needSounding, if_pos hb]
        exact hX (by decide)
      · show f_X9_sound (so σ g) (nI j) t d Q
        unfold f_X9_sound
        rw [t_isCell, if_neg hc, if_neg hc]
        refine ⟨fun hh => absurd hh (by decide), fun _ => ?_⟩
        rw [t_isThick]
        by_cases h1 : t < 0 ∨ 5000 < t
        · rw [if_pos h1]
          refine ⟨fun _ => ?_, fun hh => absurd rfl hh⟩
          unfold f_X9_sound_28
          rw [t_bad.1]
          exact ⟨fun hh => absurd hh (by decide), fun _ => hQ⟩
        · have h2 : d < 0 ∨ 5000 < d := by
            rcases hb with q | q | q | q
            · exact absurd (Or.inl q) h1
            · exact absurd (Or.inr q) h1
            · exact Or.inl q
            · exact Or.inr q
          rw [if_neg h1]
          refine ⟨fun hh => absurd hh (by decide), fun _ => ?_⟩
          rw [t_isThick, if_pos h2]
          refine ⟨fun hh => absurd rfl hh, fun _ => ?_⟩
          unfold f_X9_sound_28
          rw [t_bad.1]
          exact ⟨fun hh => absurd hh (by decide), fun _ => hQ⟩
    · have h1 : ¬ (t < 0 ∨ 5000 < t) := fun q => hb (q.elim Or.inl (fun q => Or.inr (Or.inl q)))
      have h2 : ¬ (d < 0 ∨ 5000 < d) := fun q => hb (Or.inr (Or.inr q))
      refine ⟨0, 0, clampT (t - d), sa (sa σ 10 (upd (ga σ 10) j (clampT (t - d)))) 11 (upd (ga σ 11) j (clampT (t + d))), by decide, fun Q X hQ _ => ?_, fun g => ⟨clampT (t - d), sa (sa (si (so (sa (sa σ 10 (upd (ga σ 10) j (clampT (t - d)))) 11 (upd (ga σ 11) j (clampT (t + d)))) g) 23 0) 29 (upd (ga σ 29) j (clampT (t - d)))) 30 (upd (ga σ 30) j (clampT (t + d))), fun Q hQ => ?_, rfl, fun _ => rfl, rfl, ?_⟩⟩
      · unfold f_X8_sound
        rw [s_needCell, if_neg hc, s_needSounding, if_neg hb, s_setBounds hj]
        exact hQ rfl
      · show f_X9_sound (so _ g) (nI j) t d Q
        unfold f_X9_sound
        rw [t_isCell, if_neg hc, if_neg hc]
        refine ⟨fun hh => absurd hh (by decide), fun _ => ?_⟩
        rw [t_isThick, if_neg h1]
        refine ⟨fun hh => absurd hh (by decide), fun _ => ?_⟩
        rw [t_isThick, if_neg h2]
        refine ⟨fun _ => ?_, fun hh => absurd hh (by decide)⟩
        unfold f_X9_sound_28
        rw [t_bad.2]
        refine ⟨fun _ => ?_, fun hh => absurd rfl hh⟩
        rw [t_sounds hj, cl (by omega : j < 2 ^ 31)]
        refine ⟨v_in hj (by decide), ?_⟩
        show Q (upd (ga σ 29) j (clampT (t - d)) j) _
        rw [upd_at]
        exact hQ
      · obtain ⟨⟨a1, a2, a3, a4⟩, hrest⟩ := h
        refine INVX.of (w := w) (n := n) (r := r) (t := tp) ⟨⟨?_, ?_, a3, a4⟩, hrest⟩
        · show upd (ga σ 10) j _ = upd (ga σ 29) j _
          rw [a1]
        · show upd (ga σ 11) j _ = upd (ga σ 30) j _
          rw [a2]
