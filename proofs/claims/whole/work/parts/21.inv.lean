/-! THE RELATION between the class's state and the reference's: n boats, r races that ended, t bytes of the tape, w the wind -/
def ICE (σ : St) : Prop := ga σ 10 = ga σ 29 ∧ ga σ 11 = ga σ 30 ∧ ga σ 12 = ga σ 31 ∧ ∀ j, ga σ 12 j = 0 ∨ ga σ 12 j = 1
def CRS (w : Nat) (σ : St) : Prop := w < 8 ∧ gi σ 0 = nI w ∧ gi σ 25 = nI w ∧ gi σ 1 = gi σ 26 ∧ gi σ 2 = gi σ 27 ∧ (gi σ 1 = -1 ∨ ∃ c, c < 144 ∧ gi σ 1 = nI c)
def TAP (t : Nat) (σ : St) : Prop := t ≤ 200 ∧ gi σ 3 = nI t ∧ gi σ 28 = nI t ∧ (∀ j, j < t → ga σ 13 j = ga σ 32 j &&& 255) ∧ gi σ 7 = gi σ 32
def RUL (σ : St) : Prop := gi σ 8 = gi σ 33 ∧ (∃ i, i ≤ 5000 ∧ gi σ 9 = nI i ∧ gi σ 24 = nI i) ∧
  (∃ d f, d ≤ 5000 ∧ f ≤ 5000 ∧ gi σ 10 = nI d ∧ gi σ 34 = nI d ∧ gi σ 11 = nI f ∧ ((gi σ 35 = -1 ∧ d = 0) ∨ gi σ 35 = nI f)) ∧
  (∃ q, q ≤ 3 ∧ gi σ 12 = nI q ∧ gi σ 36 = nI q ∧ ∀ j, j < q → ga σ 14 j = ga σ 33 j)
def BTS (n : Nat) (σ : St) : Prop := n ≤ 16 ∧ gi σ 18 = nI n ∧ gi σ 41 = nI n ∧ ga σ 16 = ga σ 35 ∧ ga σ 17 = ga σ 36 ∧ ga σ 18 = ga σ 37 ∧ ∀ j, ∃ w, w < 8 ∧ ga σ 18 j = nI w
/-- how many of the first k are not 0 -/
def cnz (f : Nat → Int32) : Nat → Nat
  | 0 => 0
  | k + 1 => cnz f k + (if f k = 0 then 0 else 1)
def RCS (n r : Nat) (σ : St) : Prop := r ≤ 20 ∧ gi σ 19 = nI r ∧ gi σ 42 = nI r ∧ (r = 20 → ∀ j, j < 16 → ga σ 20 j = 0) ∧
  (∀ j, j < 16 → ga σ 20 j = ga σ 40 j ∧ (n ≤ j → ga σ 20 j = 0) ∧ ∃ v, v ≤ 16 ∧ ga σ 20 j = nI v) ∧ gi σ 20 = nI (cnz (ga σ 20) 16) ∧ gi σ 43 = gi σ 20 ∧
  (∀ i, i < r → (∃ s, 1 ≤ s ∧ s ≤ 16 ∧ ga σ 39 i = nI s) ∧ ∀ j, j < 16 → (∃ v, 1 ≤ v ∧ v ≤ 17 ∧ ga σ 19 (16 * i + j) = nI v) ∧ (j < n → ga σ 19 (16 * i + j) = ga σ 38 (16 * i + j)) ∧ (n ≤ j → ga σ 19 (16 * i + j) = ga σ 39 i + 1))
def FLT (n : Nat) (σ : St) : Prop := (∀ j, j < 16 → ga σ 24 j = ga σ 43 j ∧ (ga σ 24 j = 0 ∨ ga σ 24 j = 1) ∧ (n ≤ j → ga σ 24 j = 0)) ∧ ∀ j, j < 16 → ga σ 25 j = 0
def LOT (σ : St) : Prop := (∃ k, k ≤ 20 ∧ gi σ 21 = nI k ∧ gi σ 44 = nI k) ∧ (∃ d, d ≤ 16 ∧ gi σ 22 = nI d ∧ gi σ 45 = nI d) ∧ ga σ 26 = ga σ 45 ∧ ga σ 27 = ga σ 46
def INV (w n r t : Nat) (σ : St) : Prop := ICE σ ∧ CRS w σ ∧ TAP t σ ∧ RUL σ ∧ BTS n σ ∧ RCS n r σ ∧ FLT n σ ∧ LOT σ
def INVX (σ : St) : Prop := ∃ w n r t, INV w n r t σ
/-- a function comes to an end: with the answer v in the state σ', or with the throw k -/
def evX (f : (Int32 → St → Prop) → (Nat → St → Prop) → Prop) (k : Nat) (v : Int32) (σ' : St) : Prop := ∀ (Q : Int32 → St → Prop) (X : Nat → St → Prop), (k = 0 → Q v σ') → (k ≠ 0 → X k σ') → f Q X
def ev (f : (Int32 → St → Prop) → Prop) (v : Int32) (σ' : St) : Prop := ∀ Q : Int32 → St → Prop, Q v σ' → f Q
/-- class and reference agree on a call that may throw -/
def PT (σ : St) (fx : (Int32 → St → Prop) → (Nat → St → Prop) → Prop) (fm : St → (Int32 → St → Prop) → Prop) (ks : List (Nat × Nat)) : Prop :=
  ∃ k kc v σ1, (k, kc) ∈ ks ∧ evX fx k v σ1 ∧ ∀ g : Nat → Int64, ∃ v2 σ2, ev (fm (so σ1 g)) v2 σ2 ∧ gi σ2 23 = nI kc ∧ (k = 0 → v2 = v) ∧ go σ2 = g ∧ INVX σ2
def PN (σ : St) (fx : (Int32 → St → Prop) → Prop) (fm : St → (Int32 → St → Prop) → Prop) : Prop :=
  ∃ v σ1, ev fx v σ1 ∧ ∃ σ2, ev (fm σ1) v σ2 ∧ INVX σ2
theorem INVX.of {w n r t : Nat} {σ : St} (h : INV w n r t σ) : INVX σ := ⟨w, n, r, t, h⟩
-- tests
theorem s_needCell {σ : St} {c : Int32} {Q : St → Prop} {X : Nat → St → Prop} : f_X8_needCell σ c Q X ↔ (if c < 0 ∨ 144 ≤ c then X 1 σ else Q σ) := by
  unfold f_X8_needCell
  rw [s_isCell]
  by_cases h : c < 0 ∨ 144 ≤ c <;> simp [h]
theorem s_needSounding {σ : St} {t d : Int32} {Q : St → Prop} {X : Nat → St → Prop} : f_X8_needSounding σ t d Q X ↔ (if t < 0 ∨ 5000 < t ∨ d < 0 ∨ 5000 < d then X 2 σ else Q σ) := by
  unfold f_X8_needSounding
  by_cases h1 : t < 0 <;> by_cases h2 : 5000 < t <;> by_cases h3 : d < 0 <;> by_cases h4 : d ≤ 5000 <;> simp [h1, h2, h3, h4] <;> (try (simp only [i_lt, i_le] at *; omega))
theorem t_isThick {σ : St} {t : Int32} {Q : Int32 → St → Prop} : f_X9_isThick σ t Q ↔ Q (if t < 0 ∨ 5000 < t then 0 else 1) σ := by
  unfold f_X9_isThick
  by_cases h1 : t < 0 <;> by_cases h2 : 5000 < t <;> simp [h1, h2] <;> (try (simp only [i_lt, i_le] at *; omega))
