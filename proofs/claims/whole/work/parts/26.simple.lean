theorem br1 {c A B : Prop} (h : c) (a : A) : (c → A) ∧ (¬ c → B) := ⟨fun _ => a, fun q => absurd h q⟩
theorem br0 {c A B : Prop} (h : ¬ c) (b : B) : (c → A) ∧ (¬ c → B) := ⟨fun q => absurd q h, fun _ => b⟩
theorem bn1 {c A B : Prop} (h : ¬ c) (a : A) : (¬ c → A) ∧ (c → B) := ⟨fun _ => a, fun q => absurd q h⟩
theorem bn0 {c A B : Prop} (h : c) (b : B) : (¬ c → A) ∧ (c → B) := ⟨fun q => absurd h q, fun _ => b⟩
theorem i01 : ¬ (1 : Int32) = 0 := by decide
theorem i00 : (0 : Int32) = 0 := rfl
theorem pr_fault {σ : St} (h : INVX σ) : PN σ (fun Q => f_X8_fault σ Q) (fun s Q => f_X9_fault s Q) := by
  obtain ⟨w, n, r, tp, h⟩ := h
  have e : gi σ 7 = gi σ 32 := h.2.2.1.2.2.2.2
  refine ⟨gi σ 7, σ, fun Q hQ => hQ, si σ 23 0, fun Q hQ => ?_, INVX.of h⟩
  show Q (gi σ 32) (si σ 23 0)
  rw [← e]
  exact hQ
theorem pr_noise {σ : St} (h : INVX σ) (x : Int32) : PN σ (fun Q => f_X8_noise σ x Q) (fun s Q => f_X9_noise s x Q) := by
  obtain ⟨w, n, r, tp, h⟩ := h
  obtain ⟨hi, hc, ht, hr, hb, hrc, hf, ⟨k, hk, l1, l2⟩, l3, l4, l5⟩ := id h
  by_cases hlt : k < 20
  · refine ⟨nI k + 1, si (sa σ 26 (upd (ga σ 26) k x)) 21 (nI k + 1), fun Q hQ => ?_, si (sa (si (si (sa σ 26 (upd (ga σ 26) k x)) 21 (nI k + 1)) 23 0) 45 (upd (ga σ 45) k x)) 44 (nI k + 1), fun Q hQ => ?_, ?_⟩
    · show f_X8_noise σ x Q
      unfold f_X8_noise f_X4_addNoise
      rw [l1, cl (by omega : k < 2 ^ 31)]
      refine br1 (nI_lt hlt (by decide)) ⟨v_in hlt (by decide), ?_⟩
      rw [gi_sa, l1]
      exact hQ
    · show f_X9_noise (si (sa σ 26 (upd (ga σ 26) k x)) 21 (nI k + 1)) x Q
      unfold f_X9_noise
      have e : gi (si (si (sa σ 26 (upd (ga σ 26) k x)) 21 (nI k + 1)) 23 0) 44 = nI k := l2
      rw [gi_sa, e, cl (by omega : k < 2 ^ 31)]
      refine bn1 (fun q => ?_) ⟨v_in hlt (by decide), hQ⟩
      have := (nI_eq (a := k) (b := 20) (by omega) (by decide)).mp q
      omega
    · refine INVX.of (w := w) (n := n) (r := r) (t := tp) ⟨hi, hc, ht, hr, hb, hrc, hf, ⟨k + 1, by omega, (nI_succ k).symm, (nI_succ k).symm⟩, l3, ?_, l5⟩
      show upd (ga σ 26) k x = upd (ga σ 45) k x
      rw [l4]
  · obtain rfl : k = 20 := by omega
    refine ⟨-1, σ, fun Q hQ => ?_, si σ 23 0, fun Q hQ => ?_, INVX.of h⟩
    · show f_X8_noise σ x Q
      unfold f_X8_noise f_X4_addNoise
      rw [l1]
      exact br0 (by decide) hQ
    · show f_X9_noise σ x Q
      unfold f_X9_noise
      have e : gi (si σ 23 0) 44 = 20 := l2
      exact bn0 e hQ
theorem pr_lot {σ : St} (h : INVX σ) (x : Int32) : PN σ (fun Q => f_X8_lot σ x Q) (fun s Q => f_X9_lot s x Q) := by
  obtain ⟨w, n, r, tp, h⟩ := h
  obtain ⟨hi, hc, ht, hr, hb, hrc, hf, l0, ⟨d, hd, l1, l2⟩, l4, l5⟩ := id h
  have l2' : gi (si σ 23 0) 45 = nI d := l2
  rcases ix3 x (n := d) (by omega) with q | q | ⟨j, hj, rfl⟩
  · exact ⟨-1, σ, fun Q hQ => br1 q hQ, si σ 23 0, fun Q hQ => br1 q hQ, INVX.of h⟩
  · by_cases q0 : x < 0
    · exact ⟨-1, σ, fun Q hQ => br1 q0 hQ, si σ 23 0, fun Q hQ => br1 q0 hQ, INVX.of h⟩
    · refine ⟨-1, σ, fun Q hQ => br0 q0 (br0 ?_ hQ), si σ 23 0, fun Q hQ => br0 q0 (br1 ?_ hQ), INVX.of h⟩
      · rw [l1]; simp only [i_lt, i_le] at *; omega
      · rw [l2']; exact q
  · refine ⟨ga σ 27 j, σ, fun Q hQ => br0 (nI_pos (by omega)) (br1 ?_ ⟨v_in (by omega) (by decide), ?_⟩), si σ 23 0, fun Q hQ => br0 (nI_pos (by omega)) (br0 ?_ ⟨v_in (by omega) (by decide), ?_⟩), INVX.of h⟩
    · rw [l1]; exact nI_lt hj (by omega)
    · rw [cl (by omega : j < 2 ^ 31)]; exact hQ
    · rw [l2']; exact nI_ge hj (by omega)
    · rw [cl (by omega : j < 2 ^ 31)]
      show Q (ga σ 46 j) _
      rw [← l5]; exact hQ
theorem pr_count {σ : St} (h : INVX σ) (x : Int32) : PN σ (fun Q => f_X8_count σ x Q) (fun s Q => f_X9_count s x Q) := by
  obtain ⟨w, n, r, tp, h⟩ := h
  obtain ⟨⟨a1, a2, a3, a4⟩, hc, ⟨t1, t2, t3, t4⟩, ⟨d1, ⟨i, hi, d2, d3⟩, d4⟩, ⟨e1, e2, e3, e4⟩, ⟨f1, f2, f3, f4, f5, f6, f7, f8⟩, hf, ⟨k, hk, l1, l2⟩, l3⟩ := id h
  by_cases q0 : x = 0
  · exact ⟨gi σ 18, σ, fun Q hQ => br1 q0 hQ, si σ 23 0, fun Q hQ => br1 q0 (by show Q (gi σ 41) _; rw [e3, ← e2]; exact hQ), INVX.of h⟩
  by_cases q1 : x = 1
  · exact ⟨gi σ 19, σ, fun Q hQ => br0 q0 (br1 q1 hQ), si σ 23 0, fun Q hQ => br0 q0 (br1 q1 (by show Q (gi σ 42) _; rw [f3, ← f2]; exact hQ)), INVX.of h⟩
  by_cases q2 : x = 2
  · exact ⟨gi σ 8, σ, fun Q hQ => br0 q0 (br0 q1 (br1 q2 hQ)), si σ 23 0, fun Q hQ => br0 q0 (br0 q1 (br1 q2 (by show Q (gi σ 33) _; rw [← d1]; exact hQ))), INVX.of h⟩
  by_cases q3 : x = 3
  · refine ⟨sct (ga σ 10) (ga σ 12) (gi σ 9) 144, σ, fun Q hQ => br0 q0 (br0 q1 (br0 q2 (br1 q3 (s_safeCells hQ)))), si σ 23 0, fun Q hQ => br0 q0 (br0 q1 (br0 q2 (br1 q3 (t_safeMany ?_)))), INVX.of h⟩
    show Q (sct (ga σ 29) (ga σ 31) (gi σ 24) 144) _
    rw [← a1, ← a3, d3, ← d2]
    exact hQ
  by_cases q4 : x = 4
  · exact ⟨gi σ 21, σ, fun Q hQ => br0 q0 (br0 q1 (br0 q2 (br0 q3 (br1 q4 hQ)))), si σ 23 0, fun Q hQ => br0 q0 (br0 q1 (br0 q2 (br0 q3 (br1 q4 (by show Q (gi σ 44) _; rw [l2, ← l1]; exact hQ))))), INVX.of h⟩
  by_cases q5 : x = 5
  · exact ⟨gi σ 3, σ, fun Q hQ => br0 q0 (br0 q1 (br0 q2 (br0 q3 (br0 q4 (br1 q5 hQ))))), si σ 23 0, fun Q hQ => br0 q0 (br0 q1 (br0 q2 (br0 q3 (br0 q4 (br1 q5 (by show Q (gi σ 28) _; rw [t3, ← t2]; exact hQ)))))), INVX.of h⟩
  by_cases q6 : x = 6
  · exact ⟨gi σ 20, σ, fun Q hQ => br0 q0 (br0 q1 (br0 q2 (br0 q3 (br0 q4 (br0 q5 (br1 q6 hQ)))))), si σ 23 0, fun Q hQ => br0 q0 (br0 q1 (br0 q2 (br0 q3 (br0 q4 (br0 q5 (br1 q6 (by show Q (gi σ 43) _; rw [f7]; exact hQ))))))), INVX.of h⟩
  · exact ⟨-1, σ, fun Q hQ => br0 q0 (br0 q1 (br0 q2 (br0 q3 (br0 q4 (br0 q5 (br0 q6 hQ)))))), si σ 23 0, fun Q hQ => br0 q0 (br0 q1 (br0 q2 (br0 q3 (br0 q4 (br0 q5 (br0 q6 hQ)))))), INVX.of h⟩
-- boats' numbers
theorem b_ok {j n : Nat} (h : j < n) (hn : n < 2 ^ 31) : ¬ (nI j < 0 ∨ nI n ≤ nI j) := by
  rintro (h1 | h1)
  · exact nI_pos (by omega) h1
  · exact nI_ge h hn h1
theorem c_boat (c : Int32) {n : Nat} (hn : n ≤ 320) : (c < 0 ∨ nI n ≤ c) ∨ ∃ j, j < n ∧ c = nI j := by
  rcases ix3 c (n := n) (by omega) with h | h | h
  · exact Or.inl (Or.inl h)
  · exact Or.inl (Or.inr h)
  · exact Or.inr h
theorem s_needBoat {σ : St} {n : Nat} (hn : gi σ 18 = nI n) {c : Int32} {Q : St → Prop} {X : Nat → St → Prop} : f_X8_needBoat σ c Q X ↔ (if c < 0 ∨ nI n ≤ c then X 1 σ else Q σ) := by
  unfold f_X8_needBoat
  rw [hn]
  by_cases h1 : c < 0
  · simp [h1]
  · by_cases h2 : c < nI n
    · have h3 : ¬ nI n ≤ c := by simp only [i_lt, i_le] at *; omega
      simp [h1, h2, h3]
    · have h3 : nI n ≤ c := by simp only [i_lt, i_le] at *; omega
      simp [h1, h2, h3]
theorem t_isBoat {σ : St} {n : Nat} (hn : gi σ 41 = nI n) {c : Int32} {Q : Int32 → St → Prop} : f_X9_isBoat σ c Q ↔ Q (if c < 0 ∨ nI n ≤ c then 0 else 1) σ := by
  unfold f_X9_isBoat
  rw [hn]
  by_cases h1 : c < 0 <;> by_cases h2 : nI n ≤ c <;> simp [h1, h2]
theorem bn_ok {j : Nat} (h : j < 16) : ¬ (nI j < 0 ∨ (16 : Int32) ≤ nI j) := b_ok h (by decide)
theorem s_isInSecond {σ : St} {j : Nat} (hj : j < 16) {Q : Int32 → St → Prop} : f_X2_isInSecond σ (nI j) Q ↔ Q (if ga σ 24 j = 0 then 0 else 1) σ := by
  unfold f_X2_isInSecond
  rw [s_isBoatNumber, if_neg (bn_ok hj), cl (by omega : j < 2 ^ 31)]
  have hv := v_in hj (by decide : 16 < 2 ^ 31)
  by_cases h : ga σ 24 j = 0 <;> simp [h, hv]
theorem s_fleetOf {σ : St} {j : Nat} (hj : j < 16) {Q : Int32 → St → Prop} : f_X2_fleetOf σ (nI j) Q ↔ Q (if ga σ 24 j = 0 then 0 else 1) σ := by
  unfold f_X2_fleetOf
  rw [s_isInSecond hj]
  by_cases h : ga σ 24 j = 0 <;> simp [h]
theorem pr_fleet {σ : St} (h : INVX σ) (c : Int32) : PT σ (f_X8_fleet σ c) (fun s => f_X9_fleet s c) [(0, 0), (1, 1)] := by
  obtain ⟨w, n, r, tp, h⟩ := h
  obtain ⟨hi, hc, ht, hr, ⟨e1, e2, e3, e4⟩, hrc, ⟨g1, g2⟩, hl⟩ := id h
  rcases c_boat c (n := n) (by omega) with hb | ⟨j, hj, rfl⟩
  · refine ⟨1, 1, 0, σ, by decide, fun Q X _ hX => ?_, fun g => ⟨0, si (si (so σ g) 23 0) 23 1, fun Q hQ => ?_, rfl, fun hh => absurd hh (by decide), rfl, INVX.of h⟩⟩
    · unfold f_X8_fleet
      rw [s_needBoat e2, if_pos hb]
      exact hX (by decide)
    · show f_X9_fleet (so σ g) c Q
      unfold f_X9_fleet
      rw [t_isBoat (σ := si (so σ g) 23 0) (n := n) e3, if_pos hb]
      refine bn0 rfl ?_
      rw [t_bad.1]
      exact br0 (by decide) hQ
  · have hb := b_ok hj (by omega)
    obtain ⟨h1, h2, h3⟩ := g1 j (by omega)
    refine ⟨0, 0, ga σ 24 j, σ, by decide, fun Q X hQ _ => ?_, fun g => ⟨ga σ 43 j, si (so σ g) 23 0, fun Q hQ => ?_, rfl, fun hh => h1.symm, rfl, INVX.of h⟩⟩
    · unfold f_X8_fleet
      rw [s_needBoat e2, if_neg hb, s_fleetOf (by omega)]
      rcases h2 with q | q
      · rw [if_pos q, ← q]; exact hQ rfl
      · rw [if_neg (by rw [q]; decide), ← q]; exact hQ rfl
    · show f_X9_fleet (so σ g) (nI j) Q
      unfold f_X9_fleet
      rw [t_isBoat (σ := si (so σ g) 23 0) (n := n) e3, if_neg hb]
      refine bn1 (by decide) ?_
      rw [t_bad.2]
      refine br1 rfl ⟨v_in (by omega) (by decide), ?_⟩
      rw [cl (by omega : j < 2 ^ 31)]
      exact hQ
theorem s_pointsOf {σ : St} {i j : Nat} (hi : i < 20) (hj : j < 16) {Q : Int32 → St → Prop} : f_X5_pointsOf σ (nI j) (nI i) Q ↔ Q (ga σ 19 (16 * i + j)) σ := by
  unfold f_X5_pointsOf
  rw [show (16 : Int32) = nI 16 from rfl, pk_mul, nI_add, cl (by omega : 16 * i + j < 2 ^ 31)]
  have h1 : ¬ nI (16 * i + j) < 0 := nI_pos (by omega)
  have h2 : ¬ (320 : Int32) ≤ nI (16 * i + j) := nI_ge (b := 320) (by omega) (by decide)
  have h3 : vp_in (nI (16 * i + j)) 320 := v_in (by omega) (by decide)
  simp [h1, h2, h3]
theorem pr_points {σ : St} (h : INVX σ) (c d : Int32) : PT σ (f_X8_points σ c d) (fun s => f_X9_points s c d) [(0, 0), (1, 1)] := by
  obtain ⟨w, n, r, tp, h⟩ := h
  obtain ⟨hi, hc, ht, hr, ⟨e1, e2, e3, e4⟩, ⟨f1, f2, f3, f4, f5, f6, f7, f8⟩, hfl, hl⟩ := id h
  have hbad : ∀ (g : Nat → Int64) (Q : Int32 → St → Prop), Q 0 (si (si (so σ g) 23 0) 23 1) → f_X9_points_31 Q (si (so σ g) 23 0) c d 1 := by
    intro g Q hQ
    unfold f_X9_points_31
    rw [t_bad.1]
    exact br0 (by decide) hQ
  rcases c_boat c (n := n) (by omega) with hb | ⟨j, hj, rfl⟩
  · refine ⟨1, 1, 0, σ, by decide, fun Q X _ hX => ?_, fun g => ⟨0, si (si (so σ g) 23 0) 23 1, fun Q hQ => ?_, rfl, fun hh => absurd hh (by decide), rfl, INVX.of h⟩⟩
    · unfold f_X8_points
      rw [s_needBoat e2, if_pos hb]
      exact hX (by decide)
    · show f_X9_points (so σ g) c d Q
      unfold f_X9_points
      rw [t_isBoat (σ := si (so σ g) 23 0) (n := n) e3, if_pos hb]
      exact br1 rfl (hbad g Q hQ)
  · have hb := b_ok hj (by omega : n < 2 ^ 31)
    have e42 : ∀ g, gi (si (so σ g) 23 0) 42 = nI r := fun g => f3
    rcases c_boat d (n := r) (by omega) with hd | ⟨i, hi2, rfl⟩
    · refine ⟨1, 1, 0, σ, by decide, fun Q X _ hX => ?_, fun g => ⟨0, si (si (so σ g) 23 0) 23 1, fun Q hQ => ?_, rfl, fun hh => absurd hh (by decide), rfl, INVX.of h⟩⟩
      · unfold f_X8_points
        rw [s_needBoat e2, if_neg hb, f2]
        by_cases q : d < 0
        · exact br1 q (hX (by decide))
        · refine br0 q (br0 ?_ (hX (by decide)))
          have q2 := hd.resolve_left q
          simp only [i_lt, i_le] at *; omega
      · show f_X9_points (so σ g) (nI j) d Q
        unfold f_X9_points
        rw [t_isBoat (σ := si (so σ g) 23 0) (n := n) e3, if_neg hb]
        refine br0 (by decide) ?_
        rw [e42]
        by_cases q : d < 0
        · exact br1 q (hbad g Q hQ)
        · refine br0 q (br0 ?_ (hbad g Q hQ))
          have q2 := hd.resolve_left q
          simp only [i_lt, i_le] at *; omega
    · obtain ⟨-, hp⟩ := f8 i hi2
      obtain ⟨-, hp2, -⟩ := hp j (by omega)
      refine ⟨0, 0, ga σ 19 (16 * i + j), σ, by decide, fun Q X hQ _ => ?_, fun g => ⟨ga σ 38 (16 * i + j), si (so σ g) 23 0, fun Q hQ => ?_, rfl, fun hh => (hp2 hj).symm, rfl, INVX.of h⟩⟩
      · unfold f_X8_points
        rw [s_needBoat e2, if_neg hb, f2]
        refine br0 (nI_pos (by omega)) (br1 (nI_lt hi2 (by omega)) ?_)
        rw [s_pointsOf (by omega) (by omega)]
        exact hQ rfl
      · show f_X9_points (so σ g) (nI j) (nI i) Q
        unfold f_X9_points
        rw [t_isBoat (σ := si (so σ g) 23 0) (n := n) e3, if_neg hb]
        refine br0 (by decide) ?_
        rw [e42]
        refine br0 (nI_pos (by omega)) (br1 (nI_lt hi2 (by omega)) ?_)
        unfold f_X9_points_31
        rw [t_bad.2, show (16 : Int32) = nI 16 from rfl, pk_mul, nI_add, cl (by omega : 16 * i + j < 2 ^ 31)]
        exact br1 rfl ⟨v_in (by omega) (by decide), hQ⟩
