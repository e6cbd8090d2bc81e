/-! PURE PART: what the functions f_KEY answer. First the state's reads and writes, and numbers. -/
theorem gi_si (σ : St) (k j : Nat) (v : Int32) : gi (si σ k v) j = if j = k then v else gi σ j := rfl
theorem gi_sa (σ : St) (k j : Nat) (f : Nat → Int32) : gi (sa σ k f) j = gi σ j := rfl
theorem gi_so (σ : St) (j : Nat) (f : Nat → Int64) : gi (so σ f) j = gi σ j := rfl
theorem ga_si (σ : St) (k j : Nat) (v : Int32) : ga (si σ k v) j = ga σ j := rfl
theorem ga_sa (σ : St) (k j : Nat) (f : Nat → Int32) : ga (sa σ k f) j = if j = k then f else ga σ j := rfl
theorem ga_so (σ : St) (j : Nat) (f : Nat → Int64) : ga (so σ f) j = ga σ j := rfl
theorem go_si (σ : St) (k : Nat) (v : Int32) : go (si σ k v) = go σ := rfl
theorem go_sa (σ : St) (k : Nat) (f : Nat → Int32) : go (sa σ k f) = go σ := rfl
theorem go_so (σ : St) (f : Nat → Int64) : go (so σ f) = f := rfl
theorem i_lt {x y : Int32} : x < y ↔ x.toInt < y.toInt := Int32.lt_iff_toInt_lt
theorem i_le {x y : Int32} : x ≤ y ↔ x.toInt ≤ y.toInt := Int32.le_iff_toInt_le
theorem i_eq {x y : Int32} : x = y ↔ x.toInt = y.toInt := Int32.toInt_inj.symm
theorem nI_int (n : Nat) (h : n < 2 ^ 31) : (nI n).toInt = (n : Int) := nI_toInt h
theorem z0 : zok .boolean 0 := rfl
theorem z1 : zok .boolean 1 := rfl
theorem br_iff {c A B : Prop} : ((c → A) ∧ (¬ c → B)) ↔ ((c ∧ A) ∨ (¬ c ∧ B)) := by
  by_cases h : c <;> simp [h]
/-- a number of the caller's: too small, too large, or a place -/
theorem ix3 (x : Int32) {n : Nat} (hn : n < 2 ^ 31) : x < 0 ∨ nI n ≤ x ∨ ∃ j : Nat, j < n ∧ x = nI j := pk_ix x hn
def clampT (v : Int32) : Int32 := if v < 0 then 0 else if 5000 < v then 5000 else v
theorem s_within {σ : St} {v : Int32} {Q : Int32 → St → Prop} : f_X3_within σ v Q ↔ Q (clampT v) σ := by
  have e : (if (0 : Int32) < (if v < (5000 : Int32) then v else (5000 : Int32)) then (if v < (5000 : Int32) then v else (5000 : Int32)) else (0 : Int32)) = clampT v := by
    unfold clampT
    have l0 : (0 : Int32).toInt = 0 := rfl
    have l5 : (5000 : Int32).toInt = 5000 := rfl
    by_cases h3 : v < 5000
    · rw [if_pos h3]
      have h2 : ¬ (5000 : Int32) < v := by simp only [i_lt] at *; omega
      rw [if_neg h2]
      by_cases h4 : (0 : Int32) < v
      · rw [if_pos h4, if_neg (by simp only [i_lt] at *; omega)]
      · rw [if_neg h4]
        by_cases h1 : v < 0
        · rw [if_pos h1]
        · rw [if_neg h1]
          simp only [i_lt, i_eq] at *
          omega
    · rw [if_neg h3, if_pos (by decide), if_neg (by simp only [i_lt] at *; omega)]
      by_cases h2 : (5000 : Int32) < v
      · rw [if_pos h2]
      · rw [if_neg h2]
        simp only [i_lt, i_eq] at *
        omega
  unfold f_X3_within
  rw [e]
theorem t_within {σ : St} {v : Int32} {Q : Int32 → St → Prop} : f_X9_within σ v Q ↔ Q (clampT v) σ := by
  unfold f_X9_within clampT
  by_cases h1 : v < 0
  · have h2 : ¬ 0 ≤ v := by simp only [i_lt, i_le, show (0 : Int32).toInt = 0 from rfl] at *; omega
    simp [h1, h2]
  · have h2 : 0 ≤ v := by simp only [i_lt, i_le, show (0 : Int32).toInt = 0 from rfl] at *; omega
    by_cases h3 : (5000 : Int32) < v
    · have h4 : ¬ v ≤ 5000 := by simp only [i_lt, i_le, show (5000 : Int32).toInt = 5000 from rfl] at *; omega
      simp [h1, h2, h3, h4]
    · have h4 : v ≤ 5000 := by simp only [i_lt, i_le, show (5000 : Int32).toInt = 5000 from rfl] at *; omega
      simp [h1, h2, h3, h4]
theorem clampT_nn (v : Int32) : ¬ clampT v < 0 := by
  unfold clampT
  by_cases h1 : v < 0 <;> by_cases h2 : (5000 : Int32) < v <;> simp only [h1, h2, if_true, if_false] <;> (try decide)
theorem s_isCell {σ : St} {c : Int32} {Q : Int32 → St → Prop} : f_X8_isCell σ c Q ↔ Q (if c < 0 ∨ 144 ≤ c then 0 else 1) σ := by
  unfold f_X8_isCell
  by_cases h1 : c < 0 <;> by_cases h2 : (144 : Int32) ≤ c <;> simp [h1, h2]
theorem s_isWay {σ : St} {c : Int32} {Q : Int32 → St → Prop} : f_X8_isWay σ c Q ↔ Q (if c < 0 ∨ 8 ≤ c then 0 else 1) σ := by
  unfold f_X8_isWay
  by_cases h1 : c < 0 <;> by_cases h2 : (8 : Int32) ≤ c <;> simp [h1, h2]
theorem s_isBoatNumber {σ : St} {c : Int32} {Q : Int32 → St → Prop} : f_X8_isBoatNumber σ c Q ↔ Q (if c < 0 ∨ 16 ≤ c then 0 else 1) σ := by
  unfold f_X8_isBoatNumber
  by_cases h1 : c < 0 <;> by_cases h2 : (16 : Int32) ≤ c <;> simp [h1, h2]
theorem t_isCell {σ : St} {c : Int32} {Q : Int32 → St → Prop} : f_X9_isCell σ c Q ↔ Q (if c < 0 ∨ 144 ≤ c then 0 else 1) (si σ 23 (if c < 0 ∨ 144 ≤ c then 1 else 0)) := by
  unfold f_X9_isCell
  by_cases h1 : c < 0
  · simp [h1, gi_si]
  · by_cases h2 : c < 144
    · have h3 : ¬ (144 : Int32) ≤ c := by simp only [i_lt, i_le] at *; omega
      simp [h1, h2, h3, gi_si]
    · have h3 : (144 : Int32) ≤ c := by simp only [i_lt, i_le] at *; omega
      simp [h1, h2, h3, gi_si]
theorem t_bad {σ : St} {w : Int32} {Q : Int32 → St → Prop} : (f_X9_bad σ 1 w Q ↔ Q 1 (si σ 23 w)) ∧ (f_X9_bad σ 0 w Q ↔ Q 0 σ) := by
  unfold f_X9_bad
  simp [z0, z1]
