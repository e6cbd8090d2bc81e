-- counts and sums
def cntB (c : Nat → Bool) : Nat → Nat
  | 0 => 0
  | k + 1 => cntB c k + (if c k = true then 1 else 0)
def smB (p : Nat → Nat) (c : Nat → Bool) : Nat → Nat
  | 0 => 0
  | k + 1 => smB p c k + (if c k = true then p k else 0)
theorem cntB_le (c : Nat → Bool) : ∀ k, cntB c k ≤ k := by
  intro k
  induction k with
  | zero => exact Nat.le_refl _
  | succ k ih => unfold cntB; split <;> omega
theorem cntB_lt {c : Nat → Bool} {i : Nat} (h : c i = false) : ∀ k, i < k → cntB c k < k := by
  intro k
  induction k with
  | zero => intro q; omega
  | succ k ih =>
    intro q
    unfold cntB
    by_cases e : i = k
    · subst e
      rw [h]
      have := cntB_le c i
      simp
      omega
    · have := ih (by omega)
      split <;> omega
theorem cntB_congr {c d : Nat → Bool} : ∀ k, (∀ j, j < k → c j = d j) → cntB c k = cntB d k := by
  intro k
  induction k with
  | zero => intro _; rfl
  | succ k ih =>
    intro h
    unfold cntB
    rw [ih (fun j hj => h j (by omega)), h k (by omega)]
theorem smB_congr {p q : Nat → Nat} {c d : Nat → Bool} : ∀ k, (∀ j, j < k → p j = q j ∧ c j = d j) → smB p c k = smB q d k := by
  intro k
  induction k with
  | zero => intro _; rfl
  | succ k ih =>
    intro h
    unfold smB
    rw [ih (fun j hj => h j (by omega)), (h k (by omega)).1, (h k (by omega)).2]
theorem cntB_or {a b : Nat → Bool} (h : ∀ j, a j = true → b j = false) : ∀ k, cntB (fun j => a j || b j) k = cntB a k + cntB b k := by
  intro k
  induction k with
  | zero => rfl
  | succ k ih =>
    unfold cntB
    rw [ih]
    have := h k
    cases ha : a k <;> cases hb : b k <;> simp_all <;> omega
theorem smB_split (p : Nat → Nat) (c : Nat → Bool) : ∀ k, smB p (fun _ => true) k = smB p c k + smB p (fun j => !c j) k := by
  intro k
  induction k with
  | zero => rfl
  | succ k ih =>
    unfold smB
    rw [ih]
    cases hc : c k <;> simp <;> omega
def tl (p : Nat → Nat) (v : Nat) (r : Nat) : Nat := cntB (fun k => decide (p k = v)) r
def abv (p : Nat → Nat) (v : Nat) (r : Nat) : Nat := cntB (fun k => decide (v < p k)) r
def ahB (p : Nat → Nat) (i k : Nat) : Bool := decide (p i < p k ∨ (p k = p i ∧ k < i))
def ahd (p : Nat → Nat) (r i : Nat) : Nat := cntB (ahB p i) r
def drp (p : Nat → Nat) (r N i : Nat) : Bool := decide (ahd p r i < N)
theorem tl_bef (p : Nat → Nat) (v i : Nat) : ∀ r, i ≤ r → cntB (fun k => decide (p k = v ∧ k < i)) r = tl p v i := by
  intro r
  induction r with
  | zero =>
    intro h
    obtain rfl : i = 0 := by omega
    rfl
  | succ r ih =>
    intro h
    by_cases e : i = r + 1
    · subst e
      exact cntB_congr _ (fun j hj => by simp [hj])
    · unfold cntB
      rw [ih (by omega)]
      have : ¬ r < i := by omega
      simp [this]
theorem ahd_eq (p : Nat → Nat) {r i : Nat} (hi : i ≤ r) : ahd p r i = abv p (p i) r + tl p (p i) i := by
  have h := cntB_or (a := fun k => decide (p i < p k)) (b := fun k => decide (p k = p i ∧ k < i)) (fun j hj => by simp at hj ⊢; omega) r
  rw [tl_bef p (p i) i r hi] at h
  unfold ahd abv
  rw [← h]
  exact cntB_congr _ (fun j hj => by unfold ahB; simp)
theorem abv_pred (p : Nat → Nat) (v r : Nat) : abv p v r = abv p (v + 1) r + tl p (v + 1) r := by
  have h := cntB_or (a := fun k => decide (v + 1 < p k)) (b := fun k => decide (p k = v + 1)) (fun j hj => by simp at hj ⊢; omega) r
  unfold abv tl
  rw [← h]
  refine cntB_congr _ (fun j hj => ?_)
  rw [← Bool.decide_or]
  exact decide_eq_decide.mpr (by omega)
theorem dv_eq (p : Nat → Nat) (v A N : Nat) : ∀ r, cntB (fun i => decide (p i = v ∧ A + tl p v i < N)) r = min (tl p v r) (N - A) := by
  intro r
  induction r with
  | zero => unfold tl cntB; omega
  | succ r ih =>
    have ht : tl p v (r + 1) = tl p v r + (if decide (p r = v) = true then 1 else 0) := rfl
    unfold cntB
    rw [ih, ht]
    by_cases e : p r = v
    · by_cases q : A + tl p v r < N
      · simp [e, q]; omega
      · simp [e, q]; omega
    · simp [e]
def smV (p : Nat → Nat) (c : Nat → Bool) (V r : Nat) : Nat := smB p (fun i => c i && decide (p i ≤ V)) r
theorem smV_0 (p : Nat → Nat) (c : Nat → Bool) : ∀ r, smV p c 0 r = 0 := by
  intro r
  unfold smV
  induction r with
  | zero => rfl
  | succ r ih =>
    unfold smB
    rw [ih]
    by_cases e : p r = 0
    · simp [e]
    · cases c r <;> simp [e]
theorem smV_suc (p : Nat → Nat) (c : Nat → Bool) (V : Nat) : ∀ r, smV p c (V + 1) r = cntB (fun i => decide (p i = V + 1) && c i) r * (V + 1) + smV p c V r := by
  intro r
  unfold smV
  induction r with
  | zero => simp [smB, cntB]
  | succ r ih =>
    unfold smB cntB
    rw [ih, Nat.add_mul]
    cases hc : c r
    · simp
    · by_cases e : p r = V + 1
      · have hn : ¬ V + 1 ≤ V := by omega
        simp [e, hn]; omega
      · by_cases q : p r ≤ V
        · have : p r ≤ V + 1 := by omega
          simp [e, q, this]; omega
        · have : ¬ p r ≤ V + 1 := by omega
          simp [e, q, this]
/-- the class's way: from v down, at most l of them -/
def wl (T : Nat → Nat) : Nat → Nat → Nat
  | 0, _ => 0
  | v + 1, l => min (T (v + 1)) l * (v + 1) + wl T v (l - min (T (v + 1)) l)
theorem wl_0 (T : Nat → Nat) : ∀ v, wl T v 0 = 0 := by
  intro v
  induction v with
  | zero => rfl
  | succ v ih => unfold wl; simp [ih]
theorem wl_eq (p : Nat → Nat) (r N : Nat) : ∀ v, wl (fun v => tl p v r) v (N - abv p v r) = smV p (drp p r N) v r := by
  intro v
  induction v with
  | zero => rw [smV_0]; rfl
  | succ v ih =>
    unfold wl
    rw [smV_suc]
    have e1 : cntB (fun i => decide (p i = v + 1) && drp p r N i) r = min (tl p (v + 1) r) (N - abv p (v + 1) r) := by
      rw [← dv_eq]
      refine cntB_congr _ (fun j hj => ?_)
      unfold drp
      rw [← Bool.decide_and, ahd_eq p (by omega : j ≤ r)]
      refine decide_eq_decide.mpr ?_
      constructor
      · rintro ⟨a, b⟩; rw [a] at b; exact ⟨a, b⟩
      · rintro ⟨a, b⟩; exact ⟨a, by rw [a]; exact b⟩
    have e2 : N - abv p (v + 1) r - min (tl p (v + 1) r) (N - abv p (v + 1) r) = N - abv p v r := by
      rw [abv_pred p v r]; omega
    rw [e1, e2, ih]
theorem wl_dropped {p : Nat → Nat} {r : Nat} (hp : ∀ i, i < r → p i ≤ 17) (N : Nat) : wl (fun v => tl p v r) 17 N = smB p (drp p r N) r := by
  have h := wl_eq p r N 17
  have h0 : abv p 17 r = 0 := by
    have : ∀ k, k ≤ r → cntB (fun k => decide (17 < p k)) k = 0 := by
      intro k
      induction k with
      | zero => intro _; rfl
      | succ k ih =>
        intro hk
        unfold cntB
        rw [ih (by omega)]
        have := hp k (by omega)
        simp [show ¬ 17 < p k by omega]
    exact this r (Nat.le_refl _)
  rw [h0, Nat.sub_zero] at h
  rw [h]
  unfold smV
  exact smB_congr _ (fun j hj => ⟨rfl, by simp [hp j hj]⟩)
theorem ahd_lt (p : Nat → Nat) {r i : Nat} (hi : i < r) : ahd p r i < r := cntB_lt (i := i) (by unfold ahB; simp) r hi
/-- a boat's score: what is dropped left out -/
def scN (p : Nat → Nat) (r N : Nat) : Nat := smB p (fun i => !drp p r N i) r
theorem drp_min (p : Nat → Nat) {r N i : Nat} (hi : i < r) : drp p r (min r N) i = drp p r N i := by
  unfold drp
  have := ahd_lt p hi
  exact decide_eq_decide.mpr (by omega)
theorem sc_class {p : Nat → Nat} {r : Nat} (hp : ∀ i, i < r → p i ≤ 17) (N : Nat) : smB p (fun _ => true) r = wl (fun v => tl p v r) 17 (min r N) + scN p r N := by
  rw [smB_split p (drp p r N) r, wl_dropped hp]
  unfold scN
  rw [smB_congr (p := p) (q := p) (c := drp p r (min r N)) (d := drp p r N) r (fun j hj => ⟨rfl, drp_min p hj⟩)]
theorem smB_le {p : Nat → Nat} {c : Nat → Bool} : ∀ r, (∀ i, i < r → p i ≤ 17) → smB p c r ≤ 17 * r := by
  intro r
  induction r with
  | zero => intro _; exact Nat.le_refl _
  | succ r ih =>
    intro h
    unfold smB
    have := ih (fun i hi => h i (by omega))
    have := h r (by omega)
    split <;> omega
