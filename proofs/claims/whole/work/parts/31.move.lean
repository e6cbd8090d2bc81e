-- move
abbrev T3 := Int32 × Int32 × Int32
def unv (w : Nat) (ft hd : Int32) (c s : Nat) : Int32 := (if nI c = ft then 0 else 1) + (if cbI w (nI c) (nI s) = hd then 0 else 1)
def mv1 (w : Nat) (ft hd : Int32) (c : Nat) (t : T3) (s : Nat) : T3 := if unv w ft hd c s < t.1 ∨ (unv w ft hd c s = t.1 ∧ t.2.1 < nI s) then (unv w ft hd c s, nI s, nI c) else t
def mvI (w : Nat) (ft hd : Int32) (c : Nat) : Nat → Nat → T3 → T3
  | 0, _, t => t
  | f + 1, s, t => mvI w ft hd c f (s + 1) (mv1 w ft hd c t s)
def mvO (w : Nat) (ft hd : Int32) (ln : Nat → Nat) (k0 : Nat) : Nat → Nat → T3 → T3
  | 0, _, t => t
  | f + 1, c, t => mvO w ft hd ln k0 f (c + 1) (mvI w ft hd c (ln c - k0) k0 t)
def okT (t : T3) : Prop := t.2.2 = -1 ∨ ∃ j, j < 144 ∧ t.2.2 = nI j
theorem okI (w : Nat) (ft hd : Int32) {c : Nat} (hc : c < 144) : ∀ f s t, okT t → okT (mvI w ft hd c f s t) := by
  intro f
  induction f with
  | zero => intro s t h; exact h
  | succ f ih =>
    intro s t h
    refine ih _ _ ?_
    unfold mv1
    by_cases q : unv w ft hd c s < t.1 ∨ (unv w ft hd c s = t.1 ∧ t.2.1 < nI s)
    · rw [if_pos q]; exact Or.inr ⟨c, hc, rfl⟩
    · rw [if_neg q]; exact h
theorem okO (w : Nat) (ft hd : Int32) (ln : Nat → Nat) (k0 : Nat) : ∀ f c t, c + f ≤ 144 → okT t → okT (mvO w ft hd ln k0 f c t) := by
  intro f
  induction f with
  | zero => intro c t _ h; exact h
  | succ f ih => intro c t hc h; exact ih _ _ (by omega) (okI _ _ _ (by omega) _ _ _ h)
theorem s_unlike {σ : St} {w c s : Nat} {Q : Int32 → St → Prop} : f_X1_unlikeMarks σ (nI c) (cbI w (nI c) (nI s)) Q ↔ Q (unv w (gi σ 1) (gi σ 2) c s) σ := by
  unfold f_X1_unlikeMarks unv
  generalize cbI w (nI c) (nI s) = z
  by_cases h1 : nI c = gi σ 1 <;> by_cases h2 : z = gi σ 2 <;> simp [h1, h2]
theorem l_mvIX {σ : St} {w L c : Nat} (hw : w < 8) (hL : L ≤ 12) {ice k0 : Int32} {Q : Int32 → St → Prop} {K : St → Int32 → Int32 → Int32 → Int32 → Int32 → Int32 → Int32 → Prop} :
    ∀ (f m s : Nat) (t : T3), f = L - s → s ≤ 13 → f < m → K σ (nI w) ice k0 (mvI w (gi σ 1) (gi σ 2) c f s t).1 (mvI w (gi σ 1) (gi σ 2) c f s t).2.1 (mvI w (gi σ 1) (gi σ 2) c f s t).2.2 (nI c + 1) → f_X1_takeNearest_44L Q K m σ (nI w) ice k0 t.1 t.2.1 t.2.2 (nI c) (nI L - 1) (nI s) := by
  intro f
  induction f with
  | zero =>
    intro m s t hf hs hm h
    obtain ⟨m, rfl, -⟩ := suc_of hm
    show f_X1_takeNearest_44 Q K _ _ _ _ _ _ _ _ _ _ _
    unfold f_X1_takeNearest_44
    have hlt : nI L - 1 < nI s := by rw [i_lt, rl_int (by omega), nI_toInt (by omega)]; omega
    exact br1 hlt h
  | succ f ih =>
    intro m s t hf hs hm h
    obtain ⟨m, rfl, -⟩ := suc_of hm
    have hge : ¬ nI L - 1 < nI s := by rw [i_lt, rl_int (by omega), nI_toInt (by omega)]; omega
    show f_X1_takeNearest_44 Q K _ _ _ _ _ _ _ _ _ _ _
    unfold f_X1_takeNearest_44
    refine br0 hge ?_
    rw [s_cellBeyond hw, s_unlike, nI_1 s]
    have ih := ih m (s + 1) (mv1 w (gi σ 1) (gi σ 2) c t s) (by omega) (by omega) (by omega) h
    unfold mv1 at ih
    by_cases p1 : unv w (gi σ 1) (gi σ 2) c s < t.1
    · rw [if_pos (Or.inl p1)] at ih
      exact br1 p1 ih
    · by_cases p2 : unv w (gi σ 1) (gi σ 2) c s = t.1
      · by_cases p3 : t.2.1 < nI s
        · rw [if_pos (Or.inr ⟨p2, p3⟩)] at ih
          exact br0 p1 (bn0 p2 (br0 (fun q => by simp only [i_lt, i_le] at *; omega) ih))
        · rw [if_neg (fun q => q.elim p1 (fun q => p3 q.2))] at ih
          exact br0 p1 (bn0 p2 (br1 (by simp only [i_lt, i_le] at *; omega) ih))
      · rw [if_neg (fun q => q.elim p1 (fun q => p2 q.1))] at ih
        exact br0 p1 (bn1 p2 ih)
theorem l_mvOX {σ : St} {w k0 : Nat} (hw : w < 8) (hk : k0 ≤ 13) {ice : Int32} {Q : Int32 → St → Prop} :
    ∀ (f m c : Nat) (t : T3), c + f = 144 → f < m →
    ((¬ (mvO w (gi σ 1) (gi σ 2) (LEN (ga σ 10) (ga σ 12) ice w) k0 f c t).2.2 = -1 → f_X1_layLeg σ (mvO w (gi σ 1) (gi σ 2) (LEN (ga σ 10) (ga σ 12) ice w) k0 f c t).2.2 (nI w) (mvO w (gi σ 1) (gi σ 2) (LEN (ga σ 10) (ga σ 12) ice w) k0 f c t).2.1 (fun s => Q (mvO w (gi σ 1) (gi σ 2) (LEN (ga σ 10) (ga σ 12) ice w) k0 f c t).1 s)) ∧ ((mvO w (gi σ 1) (gi σ 2) (LEN (ga σ 10) (ga σ 12) ice w) k0 f c t).2.2 = -1 → Q (-1) σ)) →
    f_X1_takeNearest_22L Q m σ (nI w) ice (nI k0) t.1 t.2.1 t.2.2 (nI c) := by
  intro f
  induction f with
  | zero =>
    intro m c t hc hm h
    obtain ⟨m, rfl, -⟩ := suc_of hm
    obtain rfl : c = 144 := by omega
    show f_X1_takeNearest_22 Q _ _ _ _ _ _ _ _ _
    unfold f_X1_takeNearest_22
    exact br1 (by decide) h
  | succ f ih =>
    intro m c t hc hm h
    obtain ⟨m, rfl, -⟩ := suc_of hm
    show f_X1_takeNearest_22 Q _ _ _ _ _ _ _ _ _
    unfold f_X1_takeNearest_22
    refine br0 (nI_ge (b := 144) (by omega) (by decide)) (s_reach hw ?_)
    have hle := LEN_le (ga σ 10) (ga σ 12) ice w c
    refine l_mvIX hw hle _ FU k0 t rfl hk (by rw [FU_eq]; omega) ?_
    rw [nI_1]
    exact ih m (c + 1) _ (by omega) (by omega) h
theorem l_mvIM {σ : St} {w L c : Nat} (hw : w < 8) (he : gi σ 25 = nI w) (hL : L ≤ 12) {k0 : Int32} {Q : Int32 → St → Prop} {K : St → Int32 → Int32 → Int32 → Int32 → Int32 → Prop} :
    ∀ (f m s : Nat) (t : T3), f = L - s → s ≤ 13 → f < m → K σ k0 (mvI w (gi σ 26) (gi σ 27) c f s t).1 (mvI w (gi σ 26) (gi σ 27) c f s t).2.1 (mvI w (gi σ 26) (gi σ 27) c f s t).2.2 (nI c + 1) → f_X9_move_69L Q K m σ k0 t.1 t.2.1 t.2.2 (nI c) (nI L - 1) (nI s) := by
  intro f
  induction f with
  | zero =>
    intro m s t hf hs hm h
    obtain ⟨m, rfl, -⟩ := suc_of hm
    show f_X9_move_69 Q K _ _ _ _ _ _ _ _ _
    unfold f_X9_move_69
    have hlt : nI L - 1 < nI s := by rw [i_lt, rl_int (by omega), nI_toInt (by omega)]; omega
    exact br1 hlt h
  | succ f ih =>
    intro m s t hf hs hm h
    obtain ⟨m, rfl, -⟩ := suc_of hm
    have hge : ¬ nI L - 1 < nI s := by rw [i_lt, rl_int (by omega), nI_toInt (by omega)]; omega
    show f_X9_move_69 Q K _ _ _ _ _ _ _ _ _
    have ih := ih m (s + 1) (mv1 w (gi σ 26) (gi σ 27) c t s) (by omega) (by omega) (by omega) h
    have key : f_X9_move_110 Q K (f_X9_move_69L Q K m) σ k0 t.1 t.2.1 t.2.2 (nI c) (nI L - 1) (nI s) (if nI c = gi σ 26 then 0 else 1) (if cbI w (nI c) (nI s) = gi σ 27 then 0 else 1) := by
      unfold f_X9_move_110
      rw [show ((if nI c = gi σ 26 then (0 : Int32) else 1) + (if cbI w (nI c) (nI s) = gi σ 27 then 0 else 1)) = unv w (gi σ 26) (gi σ 27) c s from rfl, nI_1 s]
      unfold mv1 at ih
      by_cases p1 : unv w (gi σ 26) (gi σ 27) c s < t.1
      · rw [if_pos (Or.inl p1)] at ih
        exact br0 (fun q => by simp only [i_lt] at *; omega) (bn1 (fun q => by simp only [i_lt, i_eq] at *; omega) ih)
      · by_cases p2 : unv w (gi σ 26) (gi σ 27) c s = t.1
        · have p4 : ¬ t.1 < unv w (gi σ 26) (gi σ 27) c s := by simp only [i_lt, i_eq] at *; omega
          by_cases p3 : t.2.1 < nI s
          · rw [if_pos (Or.inr ⟨p2, p3⟩)] at ih
            exact br0 p4 (bn0 p2 (br1 p3 ih))
          · rw [if_neg (fun q => q.elim p1 (fun q => p3 q.2))] at ih
            exact br0 p4 (bn0 p2 (br0 p3 ih))
        · rw [if_neg (fun q => q.elim p1 (fun q => p2 q.1))] at ih
          exact br1 (by simp only [i_lt, i_eq] at *; omega) ih
    unfold f_X9_move_69
    refine br0 hge ?_
    rw [t_stepped hw he, t_stepped hw he]
    by_cases p1 : nI c = gi σ 26
    · by_cases p2 : cbI w (nI c) (nI s) = gi σ 27
      · rw [if_pos p1, if_pos p2] at key; exact bn0 p1 (bn0 p2 key)
      · rw [if_pos p1, if_neg p2] at key; exact bn0 p1 (bn1 p2 key)
    · by_cases p2 : cbI w (nI c) (nI s) = gi σ 27
      · rw [if_neg p1, if_pos p2] at key; exact bn1 p1 (bn0 p2 key)
      · rw [if_neg p1, if_neg p2] at key; exact bn1 p1 (bn1 p2 key)
theorem l_mvOM {σ : St} {w k0 : Nat} (hw : w < 8) (he : gi σ 25 = nI w) (hk : k0 ≤ 13) {Q : Int32 → St → Prop} :
    ∀ (f m c : Nat) (t : T3), c + f = 144 → f < m →
    ((0 ≤ (mvO w (gi σ 26) (gi σ 27) (LEN (ga σ 29) (ga σ 31) (gi σ 24) w) k0 f c t).2.2 → Q (mvO w (gi σ 26) (gi σ 27) (LEN (ga σ 29) (ga σ 31) (gi σ 24) w) k0 f c t).1 (si (si σ 26 (mvO w (gi σ 26) (gi σ 27) (LEN (ga σ 29) (ga σ 31) (gi σ 24) w) k0 f c t).2.2) 27 (cbI w (mvO w (gi σ 26) (gi σ 27) (LEN (ga σ 29) (ga σ 31) (gi σ 24) w) k0 f c t).2.2 (mvO w (gi σ 26) (gi σ 27) (LEN (ga σ 29) (ga σ 31) (gi σ 24) w) k0 f c t).2.1))) ∧ (¬ 0 ≤ (mvO w (gi σ 26) (gi σ 27) (LEN (ga σ 29) (ga σ 31) (gi σ 24) w) k0 f c t).2.2 → Q (-1) σ)) →
    f_X9_move_50L Q m σ (nI k0) t.1 t.2.1 t.2.2 (nI c) := by
  intro f
  induction f with
  | zero =>
    intro m c t hc hm h
    obtain ⟨m, rfl, -⟩ := suc_of hm
    obtain rfl : c = 144 := by omega
    show f_X9_move_50 Q _ _ _ _ _ _ _
    unfold f_X9_move_50
    refine br1 (by decide) ⟨fun q => ?_, h.2⟩
    refine (t_stepped hw ?_).mpr (h.1 q)
    exact he
  | succ f ih =>
    intro m c t hc hm h
    obtain ⟨m, rfl, -⟩ := suc_of hm
    show f_X9_move_50 Q _ _ _ _ _ _ _
    unfold f_X9_move_50
    refine br0 (nI_ge (b := 144) (by omega) (by decide)) (t_lengthFrom hw (by omega) he ?_)
    have hle := LEN_le (ga σ 29) (ga σ 31) (gi σ 24) w c
    refine l_mvIM hw he hle _ FU k0 t rfl hk (by rw [FU_eq]; omega) ?_
    rw [nI_1]
    exact ih m (c + 1) _ (by omega) (by omega) h
theorem pr_move {σ : St} (h : INVX σ) (x : Int32) : PT σ (f_X8_move σ x) (fun s => f_X9_move s x) [(0, 0), (2, 1)] := by
  obtain ⟨w, n, r, tp, h⟩ := h
  obtain ⟨⟨a1, a2, a3, a4⟩, ⟨b1, b2, b3, b4, b5, b6⟩, c, ⟨d1, ⟨i, hi, d2, d3⟩, d4⟩, hrest⟩ := id h
  by_cases hb : x < 1 ∨ ¬ x < 12
  · refine ⟨2, 1, 0, σ, by decide, fun Q X _ hX => ?_, fun g => ⟨0, si (si (so σ g) 23 0) 23 1, fun Q hQ => ?_, rfl, fun hh => absurd hh (by decide), rfl, INVX.of h⟩⟩
    · unfold f_X8_move
      by_cases q : x < 1
      · exact br1 q (hX (by decide))
      · exact br0 q (br0 (hb.resolve_left q) (hX (by decide)))
    · have hbad : f_X9_move_22 Q (si (so σ g) 23 0) x 1 := by
        unfold f_X9_move_22
        rw [t_bad.1]
        exact br0 (by decide) hQ
      show f_X9_move (so σ g) x Q
      unfold f_X9_move
      by_cases q : x < 1
      · exact br1 q hbad
      · refine br0 q (br0 (fun q2 => ?_) hbad)
        have q3 := hb.resolve_left q
        simp only [i_lt, i_le, show (11 : Int32).toInt = 11 from rfl, show (12 : Int32).toInt = 12 from rfl] at *
        omega
  · have q1 : ¬ x < 1 := fun q => hb (Or.inl q)
    have q2 : x < 12 := by
      by_cases q : x < 12
      · exact q
      · exact absurd (Or.inr q) hb
    have q3 : x ≤ 11 := by
      simp only [i_lt, i_le, show (11 : Int32).toInt = 11 from rfl, show (12 : Int32).toInt = 12 from rfl] at *
      omega
    obtain ⟨k0, hk0, rfl⟩ : ∃ k0, k0 ≤ 11 ∧ x = nI k0 := by
      refine nI_of2 (M := 11) rfl ?_ q3
      simp only [i_lt, show (0 : Int32).toInt = 0 from rfl, show (1 : Int32).toInt = 1 from rfl] at *
      omega
    have hx : ∀ (Q : Int32 → St → Prop) (X : Nat → St → Prop), f_X1_takeNearest σ (nI w) (gi σ 9) (nI k0) (fun r s => Q r s) → f_X8_move σ (nI k0) Q X := by
      intro Q X hq
      unfold f_X8_move
      rw [b2]
      exact br0 q1 (br1 q2 hq)
    have hm : ∀ (s : St) (Q : Int32 → St → Prop), ((0 ≤ (gi s 26) → f_X9_move_50L Q FU (si s 23 0) (nI k0) (3 : Int32) (0 : Int32) (-1 : Int32) (0 : Int32)) ∧ (¬ 0 ≤ (gi s 26) → Q (-1 : Int32) (si s 23 0))) → f_X9_move s (nI k0) Q := by
      intro s Q hq
      unfold f_X9_move f_X9_move_22
      refine br0 q1 (br1 q3 ?_)
      rw [t_bad.2]
      exact br1 rfl hq
    rcases b6 with e | ⟨j, hj, e⟩
    · refine ⟨0, 0, -1, σ, by decide, fun Q X hQ _ => hx Q X ?_, fun g => ⟨-1, si (so σ g) 23 0, fun Q hQ => hm _ Q (br0 ?_ hQ), rfl, fun _ => rfl, rfl, INVX.of h⟩⟩
      · unfold f_X1_takeNearest
        exact bn0 e (hQ rfl)
      · show ¬ 0 ≤ gi σ 26
        rw [← b4, e]; decide
    · have hfoot : ¬ gi σ 1 = -1 := by rw [e]; exact nI_m1 (by omega)
      have hfm : 0 ≤ gi σ 26 := by rw [← b4, e]; exact nI_pos' (by omega)
      have eT : mvO w (gi σ 26) (gi σ 27) (LEN (ga σ 29) (ga σ 31) (gi σ 24) w) k0 144 0 (3, 0, -1) = mvO w (gi σ 1) (gi σ 2) (LEN (ga σ 10) (ga σ 12) (gi σ 9) w) k0 144 0 (3, 0, -1) := by rw [← b4, ← b5, a1, a3, d2, d3]
      have ok := okO w (gi σ 1) (gi σ 2) (LEN (ga σ 10) (ga σ 12) (gi σ 9) w) k0 144 0 (3, 0, -1) (by omega) (Or.inl rfl)
      revert eT ok
      generalize hT : mvO w (gi σ 1) (gi σ 2) (LEN (ga σ 10) (ga σ 12) (gi σ 9) w) k0 144 0 (3, 0, -1) = T
      intro eT ok
      have hx2 : ∀ (Q : Int32 → St → Prop) (X : Nat → St → Prop), ((¬ T.2.2 = -1 → f_X1_layLeg σ T.2.2 (nI w) T.2.1 (fun s => Q T.1 s)) ∧ (T.2.2 = -1 → Q (-1) σ)) → f_X8_move σ (nI k0) Q X := by
        intro Q X hq
        refine hx Q X ?_
        unfold f_X1_takeNearest
        refine bn1 hfoot ?_
        refine l_mvOX b1 (by omega) 144 FU 0 (3, 0, -1) rfl (by decide) ?_
        rw [hT]
        exact hq
      rcases ok with z | ⟨y, hy, z⟩
      · refine ⟨0, 0, -1, σ, by decide, fun Q X hQ _ => hx2 Q X (bn0 z (hQ rfl)), fun g => ⟨-1, si (so σ g) 23 0, fun Q hQ => hm _ Q (br1 hfm ?_), rfl, fun _ => rfl, rfl, INVX.of h⟩⟩
        refine l_mvOM (σ := si (so σ g) 23 0) b1 b3 (by omega) 144 FU 0 (3, 0, -1) rfl (by decide) ?_
        have eT2 : mvO w (gi (si (so σ g) 23 0) 26) (gi (si (so σ g) 23 0) 27) (LEN (ga (si (so σ g) 23 0) 29) (ga (si (so σ g) 23 0) 31) (gi (si (so σ g) 23 0) 24) w) k0 144 0 (3, 0, -1) = T := eT
        rw [eT2, z]
        exact br0 (by decide) hQ
      · have hz : ¬ T.2.2 = -1 := by rw [z]; exact nI_m1 (by omega)
        refine ⟨0, 0, T.1, si (si σ 1 T.2.2) 2 (cbI w T.2.2 T.2.1), by decide, fun Q X hQ _ => hx2 Q X (bn1 hz ((s_layLeg b1).mpr (hQ rfl))), fun g => ⟨T.1, si (si (si (so (si (si σ 1 T.2.2) 2 (cbI w T.2.2 T.2.1)) g) 23 0) 26 T.2.2) 27 (cbI w T.2.2 T.2.1), fun Q hQ => hm _ Q (br1 hfm ?_), rfl, fun _ => rfl, rfl, ?_⟩⟩
        · refine l_mvOM (σ := si (so (si (si σ 1 T.2.2) 2 (cbI w T.2.2 T.2.1)) g) 23 0) b1 b3 (by omega) 144 FU 0 (3, 0, -1) rfl (by decide) ?_
          have eT2 : mvO w (gi (si (so (si (si σ 1 T.2.2) 2 (cbI w T.2.2 T.2.1)) g) 23 0) 26) (gi (si (so (si (si σ 1 T.2.2) 2 (cbI w T.2.2 T.2.1)) g) 23 0) 27) (LEN (ga (si (so (si (si σ 1 T.2.2) 2 (cbI w T.2.2 T.2.1)) g) 23 0) 29) (ga (si (so (si (si σ 1 T.2.2) 2 (cbI w T.2.2 T.2.1)) g) 23 0) 31) (gi (si (so (si (si σ 1 T.2.2) 2 (cbI w T.2.2 T.2.1)) g) 23 0) 24) w) k0 144 0 (3, 0, -1) = T := eT
          rw [eT2]
          exact br1 (by rw [z]; exact nI_pos' (by omega)) hQ
        · exact INVX.of (w := w) (n := n) (r := r) (t := tp) ⟨⟨a1, a2, a3, a4⟩, ⟨b1, b2, b3, rfl, rfl, Or.inr ⟨y, hy, z⟩⟩, c, ⟨d1, ⟨i, hi, d2, d3⟩, d4⟩, hrest⟩
