theorem si_si (σ : St) (k : Nat) (a b : Int32) : si (si σ k a) k b = si σ k b := by
  unfold si
  congr 1
  funext j
  unfold va_up
  by_cases h : j = k <;> simp [h]
theorem rl_int {L : Nat} (h : L < 2 ^ 30) : (nI L - 1).toInt = (L : Int) - 1 := pk_sub_toInt (b := 1) h (by decide)
-- course
def bst (len : Nat → Int32) : Nat → Int32 × Int32
  | 0 => (0, -1)
  | c + 1 => if (bst len c).1 < len c then (len c, nI c) else bst len c
theorem bst_rng (len : Nat → Int32) : ∀ c, c ≤ 144 → (bst len c).2 = -1 ∨ ∃ j, j < 144 ∧ (bst len c).2 = nI j := by
  intro c
  induction c with
  | zero => intro _; exact Or.inl rfl
  | succ c ih =>
    intro hc
    unfold bst
    by_cases h : (bst len c).1 < len c
    · rw [if_pos h]; exact Or.inr ⟨c, by omega, rfl⟩
    · rw [if_neg h]; exact ih (by omega)
def lnr (lo cr : Nat → Int32) (ice : Int32) (w : Nat) : Nat → Int32 := fun c => nI (LEN lo cr ice w c) - 1
theorem l_takeLongest {σ : St} {w : Nat} (hw : w < 8) {ice : Int32} {Q : Int32 → St → Prop} (h : f_X1_takeLongest_9 Q (fun _ _ _ _ _ _ => False) σ (nI w) ice (bst (lnr (ga σ 10) (ga σ 12) ice w) 144).1 (bst (lnr (ga σ 10) (ga σ 12) ice w) 144).2 (nI 144)) :
    ∀ k n c : Nat, c + k = 144 → k < n → f_X1_takeLongest_9L Q n σ (nI w) ice (bst (lnr (ga σ 10) (ga σ 12) ice w) c).1 (bst (lnr (ga σ 10) (ga σ 12) ice w) c).2 (nI c) := by
  intro k
  induction k with
  | zero =>
    intro n c hc hn
    obtain ⟨n, rfl, -⟩ := suc_of hn
    obtain rfl : c = 144 := by omega
    show f_X1_takeLongest_9 Q _ σ _ _ _ _ _
    unfold f_X1_takeLongest_9 at h ⊢
    exact ⟨h.1, fun q => absurd (by decide) q⟩
  | succ k ih =>
    intro n c hc hn
    obtain ⟨n, rfl, hn'⟩ := suc_of hn
    have hlt : c < 144 := by omega
    show f_X1_takeLongest_9 Q _ σ _ _ _ _ _
    unfold f_X1_takeLongest_9
    refine ⟨fun q => absurd q (nI_ge hlt (by decide)), fun _ => s_reach hw ?_⟩
    have ih := ih n (c + 1) (by omega) (by omega)
    rw [nI_1]
    show ((lnr (ga σ 10) (ga σ 12) ice w c ≤ _ → _) ∧ (¬ lnr (ga σ 10) (ga σ 12) ice w c ≤ _ → _))
    rw [show bst (lnr (ga σ 10) (ga σ 12) ice w) (c + 1) = if (bst (lnr (ga σ 10) (ga σ 12) ice w) c).1 < lnr (ga σ 10) (ga σ 12) ice w c then (lnr (ga σ 10) (ga σ 12) ice w c, nI c) else bst (lnr (ga σ 10) (ga σ 12) ice w) c from rfl] at ih
    by_cases hb : (bst (lnr (ga σ 10) (ga σ 12) ice w) c).1 < lnr (ga σ 10) (ga σ 12) ice w c
    · rw [if_pos hb] at ih
      exact ⟨fun q => absurd hb (by simp only [i_lt, i_le] at *; omega), fun _ => ih⟩
    · rw [if_neg hb] at ih
      exact ⟨fun _ => ih, fun q => absurd (by simp only [i_lt, i_le] at *; omega) hb⟩
theorem l_course {σ : St} {w : Nat} (hw : w < 8) (he : gi σ 25 = nI w) {Q : Int32 → St → Prop} (h : f_X9_course_11 Q (fun _ _ _ _ => False) σ (bst (lnr (ga σ 29) (ga σ 31) (gi σ 24) w) 144).1 (bst (lnr (ga σ 29) (ga σ 31) (gi σ 24) w) 144).2 (nI 144)) :
    ∀ k n c : Nat, c + k = 144 → k < n → f_X9_course_11L Q n σ (bst (lnr (ga σ 29) (ga σ 31) (gi σ 24) w) c).1 (bst (lnr (ga σ 29) (ga σ 31) (gi σ 24) w) c).2 (nI c) := by
  intro k
  induction k with
  | zero =>
    intro n c hc hn
    obtain ⟨n, rfl, -⟩ := suc_of hn
    obtain rfl : c = 144 := by omega
    show f_X9_course_11 Q _ σ _ _ _
    unfold f_X9_course_11 at h ⊢
    exact ⟨h.1, fun q => absurd (by decide) q⟩
  | succ k ih =>
    intro n c hc hn
    obtain ⟨n, rfl, hn'⟩ := suc_of hn
    have hlt : c < 144 := by omega
    show f_X9_course_11 Q _ σ _ _ _
    unfold f_X9_course_11
    refine ⟨fun q => absurd q (nI_ge hlt (by decide)), fun _ => t_lengthFrom hw hlt he ?_⟩
    have ih := ih n (c + 1) (by omega) (by omega)
    rw [nI_1]
    show ((_ < lnr (ga σ 29) (ga σ 31) (gi σ 24) w c → _) ∧ (¬ _ < lnr (ga σ 29) (ga σ 31) (gi σ 24) w c → _))
    rw [show bst (lnr (ga σ 29) (ga σ 31) (gi σ 24) w) (c + 1) = if (bst (lnr (ga σ 29) (ga σ 31) (gi σ 24) w) c).1 < lnr (ga σ 29) (ga σ 31) (gi σ 24) w c then (lnr (ga σ 29) (ga σ 31) (gi σ 24) w c, nI c) else bst (lnr (ga σ 29) (ga σ 31) (gi σ 24) w) c from rfl] at ih
    by_cases hb : (bst (lnr (ga σ 29) (ga σ 31) (gi σ 24) w) c).1 < lnr (ga σ 29) (ga σ 31) (gi σ 24) w c
    · rw [if_pos hb] at ih
      exact ⟨fun _ => ih, fun q => absurd hb q⟩
    · rw [if_neg hb] at ih
      exact ⟨fun q => absurd q hb, fun _ => ih⟩
theorem s_layLeg {σ : St} {w : Nat} (hw : w < 8) {a k : Int32} {Q : St → Prop} : f_X1_layLeg σ a (nI w) k Q ↔ Q (si (si σ 1 a) 2 (cbI w a k)) := by
  unfold f_X1_layLeg
  rw [s_cellBeyond hw]
/-- a course that is laid keeps the relation -/
theorem crs_lay {w : Nat} {σ s1 s2 : St} {a b : Int32} (h : CRS w σ) (ha : a = -1 ∨ ∃ c, c < 144 ∧ a = nI c) (h0 : gi s2 0 = gi σ 0) (h25 : gi s2 25 = gi σ 25) (h1 : gi s2 1 = a) (h26 : gi s2 26 = a) (h2 : gi s2 2 = b) (h27 : gi s2 27 = b) : CRS w s2 := by
  obtain ⟨b1, b2, b3, -⟩ := h
  exact ⟨b1, h0.trans b2, h25.trans b3, h1.trans h26.symm, h2.trans h27.symm, by rw [h1]; exact ha⟩
theorem pr_course {σ : St} (h : INVX σ) : PN σ (fun Q => f_X8_course σ Q) (fun s Q => f_X9_course s Q) := by
  obtain ⟨w, n, r, tp, h⟩ := h
  obtain ⟨⟨a1, a2, a3, a4⟩, ⟨b1, b2, b3, b4, b5, b6⟩, c, ⟨d1, ⟨i, hi, d2, d3⟩, d4⟩, hrest⟩ := id h
  have eb : bst (lnr (ga σ 10) (ga σ 12) (gi σ 9) w) 144 = bst (lnr (ga σ 29) (ga σ 31) (gi σ 24) w) 144 := by rw [a1, a3, d2, d3]
  have hc : ∀ Q : Int32 → St → Prop, f_X1_takeLongest_9 Q (fun _ _ _ _ _ _ => False) σ (nI w) (gi σ 9) (bst (lnr (ga σ 10) (ga σ 12) (gi σ 9) w) 144).1 (bst (lnr (ga σ 10) (ga σ 12) (gi σ 9) w) 144).2 (nI 144) → f_X8_course σ Q := by
    intro Q hq
    unfold f_X8_course f_X1_takeLongest
    rw [b2]
    exact l_takeLongest b1 hq 144 FU 0 rfl (by decide)
  have hm : ∀ (s : St) (Q : Int32 → St → Prop), gi s 25 = nI w → f_X9_course_11 Q (fun _ _ _ _ => False) (si s 23 0) (bst (lnr (ga s 29) (ga s 31) (gi s 24) w) 144).1 (bst (lnr (ga s 29) (ga s 31) (gi s 24) w) 144).2 (nI 144) → f_X9_course s Q := by
    intro s Q hs hq
    unfold f_X9_course
    exact l_course (σ := si s 23 0) b1 hs hq 144 FU 0 rfl (by decide)
  rcases bst_rng (lnr (ga σ 10) (ga σ 12) (gi σ 9) w) 144 (by decide) with e | ⟨j, hj, e⟩
  · refine ⟨-1, σ, fun Q hQ => hc Q ?_, si σ 23 0, fun Q hQ => hm σ Q b3 ?_, INVX.of h⟩
    · unfold f_X1_takeLongest_9
      rw [e]
      exact ⟨fun _ => ⟨fun q => absurd rfl q, fun _ => hQ⟩, fun q => absurd (by decide) q⟩
    · unfold f_X9_course_11
      rw [← eb, e]
      exact ⟨fun _ => ⟨fun q => absurd q (by decide), fun _ => hQ⟩, fun q => absurd (by decide) q⟩
  · refine ⟨(bst (lnr (ga σ 10) (ga σ 12) (gi σ 9) w) 144).1, si (si σ 1 (nI j)) 2 (cbI w (nI j) (bst (lnr (ga σ 10) (ga σ 12) (gi σ 9) w) 144).1), fun Q hQ => hc Q ?_, si (si (si (si (si σ 1 (nI j)) 2 (cbI w (nI j) (bst (lnr (ga σ 10) (ga σ 12) (gi σ 9) w) 144).1)) 23 0) 26 (nI j)) 27 (cbI w (nI j) (bst (lnr (ga σ 10) (ga σ 12) (gi σ 9) w) 144).1), fun Q hQ => hm _ Q b3 ?_, ?_⟩
    · unfold f_X1_takeLongest_9
      rw [e]
      refine ⟨fun _ => ⟨fun _ => ?_, fun q => absurd q ?_⟩, fun q => absurd (by decide) q⟩
      · rw [s_layLeg b1]; exact hQ
      · intro q
        have : (nI j).toInt = (-1 : Int32).toInt := by rw [q]
        rw [nI_toInt (by omega)] at this
        exact absurd this (by have : (-1 : Int32).toInt = -1 := rfl; omega)
    · unfold f_X9_course_11
      have e2 : bst (lnr (ga (si (si σ 1 (nI j)) 2 (cbI w (nI j) (bst (lnr (ga σ 10) (ga σ 12) (gi σ 9) w) 144).1)) 29) (ga (si (si σ 1 (nI j)) 2 (cbI w (nI j) (bst (lnr (ga σ 10) (ga σ 12) (gi σ 9) w) 144).1)) 31) (gi (si (si σ 1 (nI j)) 2 (cbI w (nI j) (bst (lnr (ga σ 10) (ga σ 12) (gi σ 9) w) 144).1)) 24) w) 144 = bst (lnr (ga σ 10) (ga σ 12) (gi σ 9) w) 144 := eb.symm
      rw [e2, e]
      refine ⟨fun _ => ⟨fun _ => ?_, fun q => absurd (nI_pos' (by omega)) q⟩, fun q => absurd (by decide) q⟩
      refine (t_stepped b1 ?_).mpr ?_
      · exact b3
      · exact hQ
    · exact INVX.of (w := w) (n := n) (r := r) (t := tp) ⟨⟨a1, a2, a3, a4⟩, ⟨b1, b2, b3, rfl, rfl, Or.inr ⟨j, hj, rfl⟩⟩, c, ⟨d1, ⟨i, hi, d2, d3⟩, d4⟩, hrest⟩
-- holds
def hld (w : Nat) (z hd : Int32) : Nat → Nat → Int32
  | 0, _ => 0
  | f + 1, s => if cbI w z (nI s) = hd then 1 else hld w z hd f (s + 1)
theorem hld_01 (w : Nat) (z hd : Int32) : ∀ f s, hld w z hd f s = 0 ∨ hld w z hd f s = 1 := by
  intro f
  induction f with
  | zero => intro s; exact Or.inl rfl
  | succ f ih =>
    intro s
    unfold hld
    by_cases h : cbI w z (nI s) = hd
    · rw [if_pos h]; exact Or.inr rfl
    · rw [if_neg h]; exact ih _
theorem l_isLeg {σ : St} {w L : Nat} (hw : w < 8) (hL : L ≤ 12) {Q : Int32 → St → Prop} : ∀ f n s : Nat, f = L - s → s ≤ 13 → f < n → Q (hld w (gi σ 1) (gi σ 2) f s) σ → f_X1_isLeg_25L Q n σ (nI w) (nI L - 1) (nI s) := by
  intro f
  induction f with
  | zero =>
    intro n s hf hs hn h
    obtain ⟨n, rfl, -⟩ := suc_of hn
    show f_X1_isLeg_25 Q _ _ _ _ _
    unfold f_X1_isLeg_25
    have hlt : nI L - 1 < nI s := by rw [i_lt, rl_int (by omega), nI_toInt (by omega)]; omega
    exact ⟨fun _ => h, fun q => absurd hlt q⟩
  | succ f ih =>
    intro n s hf hs hn h
    obtain ⟨n, rfl, hn'⟩ := suc_of hn
    have hge : ¬ nI L - 1 < nI s := by rw [i_lt, rl_int (by omega), nI_toInt (by omega)]; omega
    show f_X1_isLeg_25 Q _ _ _ _ _
    unfold f_X1_isLeg_25
    refine ⟨fun q => absurd q hge, fun _ => ?_⟩
    rw [s_cellBeyond hw]
    unfold hld at h
    by_cases he : cbI w (gi σ 1) (nI s) = gi σ 2
    · rw [if_pos he] at h
      exact ⟨fun q => absurd he q, fun _ => h⟩
    · rw [if_neg he] at h
      refine ⟨fun _ => ?_, fun q => absurd q he⟩
      rw [nI_1]
      exact ih n (s + 1) (by omega) (by omega) (by omega) h
theorem p_holdsL {σ : St} {w L : Nat} (hw : w < 8) (he : gi σ 25 = nI w) (hL : L ≤ 12) {Q : Int32 → St → Prop} : ∀ f n s : Nat, f = L - s → s ≤ 13 → f < n → Q (hld w (gi σ 26) (gi σ 27) f s) σ → f_X9_holds_25L Q n σ (nI L - 1) (nI s) := by
  intro f
  induction f with
  | zero =>
    intro n s hf hs hn h
    obtain ⟨n, rfl, -⟩ := suc_of hn
    show f_X9_holds_25 Q _ _ _ _
    unfold f_X9_holds_25
    have hlt : nI L - 1 < nI s := by rw [i_lt, rl_int (by omega), nI_toInt (by omega)]; omega
    exact ⟨fun _ => h, fun q => absurd hlt q⟩
  | succ f ih =>
    intro n s hf hs hn h
    obtain ⟨n, rfl, hn'⟩ := suc_of hn
    have hge : ¬ nI L - 1 < nI s := by rw [i_lt, rl_int (by omega), nI_toInt (by omega)]; omega
    show f_X9_holds_25 Q _ _ _ _
    unfold f_X9_holds_25
    refine ⟨fun q => absurd q hge, fun _ => ?_⟩
    rw [t_stepped hw he]
    unfold hld at h
    by_cases hq : cbI w (gi σ 26) (nI s) = gi σ 27
    · rw [if_pos hq] at h
      exact ⟨fun q => absurd hq q, fun _ => h⟩
    · rw [if_neg hq] at h
      refine ⟨fun _ => ?_, fun q => absurd q hq⟩
      rw [nI_1]
      exact ih n (s + 1) (by omega) (by omega) (by omega) h
theorem LEN_le (lo cr : Nat → Int32) (ice : Int32) (w c : Nat) : LEN lo cr ice w c ≤ 12 := by
  have := (lenF_le (fun s => sfz lo cr ice (cbI w (nI c) (nI s))) 12 0).2
  unfold LEN
  omega
theorem pr_holds {σ : St} (h : INVX σ) : PN σ (fun Q => f_X8_holds σ Q) (fun s Q => f_X9_holds s Q) := by
  obtain ⟨w, n, r, tp, h⟩ := h
  obtain ⟨⟨a1, a2, a3, a4⟩, ⟨b1, b2, b3, b4, b5, b6⟩, c, ⟨d1, ⟨i, hi, d2, d3⟩, d4⟩, hrest⟩ := id h
  rcases b6 with e | ⟨j, hj, e⟩
  · refine ⟨0, σ, fun Q hQ => ?_, si σ 23 0, fun Q hQ => ?_, INVX.of h⟩
    · unfold f_X8_holds f_X1_isLeg
      rw [e]
      exact ⟨fun q => absurd rfl q, fun _ => ⟨z0, hQ⟩⟩
    · show f_X9_holds σ Q
      unfold f_X9_holds
      have e2 : gi (si σ 23 0) 26 = -1 := b4.symm.trans e
      rw [e2]
      exact ⟨fun q => absurd q (by decide), fun _ => hQ⟩
  · have hL : LEN (ga σ 10) (ga σ 12) (gi σ 9) w j = LEN (ga σ 29) (ga σ 31) (gi σ 24) w j := by rw [a1, a3, d2, d3]
    have hle := LEN_le (ga σ 10) (ga σ 12) (gi σ 9) w j
    have hfu : LEN (ga σ 10) (ga σ 12) (gi σ 9) w j - 1 < FU := by rw [FU_eq]; omega
    refine ⟨hld w (gi σ 1) (gi σ 2) (LEN (ga σ 10) (ga σ 12) (gi σ 9) w j - 1) 1, σ, fun Q hQ => ?_, si σ 23 0, fun Q hQ => ?_, INVX.of h⟩
    · unfold f_X8_holds f_X1_isLeg
      refine ⟨fun _ => ?_, fun q => ?_⟩
      · rw [b2, e]
        refine s_reach b1 (l_isLeg b1 hle _ FU 1 rfl (by decide) hfu ?_)
        exact ⟨zok_01 (hld_01 _ _ _ _ _), hQ⟩
      · rw [e] at q
        have : (nI j).toInt = (-1 : Int32).toInt := by rw [q]
        rw [nI_toInt (by omega)] at this
        exact absurd this (by have : (-1 : Int32).toInt = -1 := rfl; omega)
    · show f_X9_holds σ Q
      unfold f_X9_holds
      have e2 : gi (si σ 23 0) 26 = nI j := b4.symm.trans e
      refine ⟨fun _ => ?_, fun q => absurd (by rw [e2]; exact nI_pos' (by omega)) q⟩
      rw [e2]
      refine t_lengthFrom (σ := si σ 23 0) b1 hj b3 ?_
      have e3 : LEN (ga (si σ 23 0) 29) (ga (si σ 23 0) 31) (gi (si σ 23 0) 24) w j = LEN (ga σ 10) (ga σ 12) (gi σ 9) w j := hL.symm
      rw [e3]
      refine p_holdsL (σ := si σ 23 0) b1 b3 hle _ FU 1 rfl (by decide) hfu ?_
      rw [b4, b5] at hQ
      exact hQ
