/-- the first state -/
def stz : St := (fun _ => 0, fun _ _ => 0, fun _ => 0)
def st0 : St := sa (sa (si (si (si (si (si (si (si (si (si (si stz 1 (-1)) 2 (-1)) 7 (-1)) 9 150) 14 150) 24 150) 26 (-1)) 27 (-1)) 32 (-1)) 35 (-1)) 11 (HF 144)) 30 (HF 144)
theorem g0 (k : Nat) (h : k ≠ 1 ∧ k ≠ 2 ∧ k ≠ 7 ∧ k ≠ 9 ∧ k ≠ 14 ∧ k ≠ 24 ∧ k ≠ 26 ∧ k ≠ 27 ∧ k ≠ 32 ∧ k ≠ 35) : gi st0 k = 0 := by
  obtain ⟨h1, h2, h3, h4, h5, h6, h7, h8, h9, h10⟩ := h
  unfold st0
  simp only [gi_si, gi_sa, h1, h2, h3, h4, h5, h6, h7, h8, h9, h10, if_false]
  rfl
theorem a0 (k : Nat) (h : k ≠ 11 ∧ k ≠ 30) : ga st0 k = fun _ => 0 := by
  obtain ⟨h1, h2⟩ := h
  unfold st0
  simp only [ga_si, ga_sa, h1, h2, if_false]
  rfl
theorem m0 : gi st0 1 = -1 ∧ gi st0 2 = -1 ∧ gi st0 7 = -1 ∧ gi st0 9 = 150 ∧ gi st0 24 = 150 ∧ gi st0 26 = -1 ∧ gi st0 27 = -1 ∧ gi st0 32 = -1 ∧ gi st0 35 = -1 ∧ ga st0 11 = HF 144 ∧ ga st0 30 = HF 144 := by
  unfold st0
  simp [gi_si, gi_sa, ga_sa]
theorem z0n : (0 : Int32) = nI 0 := rfl
theorem i_ICE : ICE st0 := by
  unfold ICE
  rw [a0 10 (by decide), a0 29 (by decide), a0 12 (by decide), a0 31 (by decide), m0.2.2.2.2.2.2.2.2.2.1, m0.2.2.2.2.2.2.2.2.2.2]
  exact ⟨rfl, rfl, rfl, fun j => Or.inl rfl⟩
theorem i_CRS : CRS 0 st0 := by
  unfold CRS
  rw [g0 0 (by decide), g0 25 (by decide), m0.1, m0.2.1, m0.2.2.2.2.2.1, m0.2.2.2.2.2.2.1]
  exact ⟨by decide, z0n, z0n, rfl, rfl, Or.inl rfl⟩
theorem i_TAP : TAP 0 st0 := by
  unfold TAP
  rw [g0 3 (by decide), g0 28 (by decide), m0.2.2.1, m0.2.2.2.2.2.2.2.1]
  exact ⟨by decide, z0n, z0n, fun j hj => absurd hj (Nat.not_lt_zero _), rfl⟩
theorem i_RUL : RUL st0 := by
  unfold RUL
  rw [g0 8 (by decide), g0 33 (by decide), m0.2.2.2.1, m0.2.2.2.2.1, g0 10 (by decide), g0 34 (by decide), g0 11 (by decide), m0.2.2.2.2.2.2.2.2.1, g0 12 (by decide), g0 36 (by decide)]
  exact ⟨rfl, ⟨150, by decide, rfl, rfl⟩, ⟨0, 0, by decide, by decide, z0n, z0n, z0n, Or.inl ⟨rfl, rfl⟩⟩, ⟨0, by decide, z0n, z0n, fun j hj => absurd hj (Nat.not_lt_zero _)⟩⟩
theorem i_BTS : BTS 0 st0 := by
  unfold BTS
  rw [g0 18 (by decide), g0 41 (by decide), a0 16 (by decide), a0 35 (by decide), a0 17 (by decide), a0 36 (by decide), a0 18 (by decide), a0 37 (by decide)]
  exact ⟨by decide, z0n, z0n, rfl, rfl, rfl, fun j => ⟨0, by decide, z0n⟩⟩
theorem i_RCS : RCS 0 0 st0 := by
  unfold RCS
  rw [g0 19 (by decide), g0 42 (by decide), g0 20 (by decide), g0 43 (by decide), a0 20 (by decide), a0 40 (by decide)]
  refine ⟨by decide, z0n, z0n, fun h => absurd h (by decide), fun j hj => ⟨rfl, fun _ => rfl, 0, by decide, z0n⟩, ?_, rfl, fun i hi => absurd hi (Nat.not_lt_zero _)⟩
  rw [cnz_z 16 (fun j hj => rfl)]
  exact z0n
theorem i_FLT : FLT 0 st0 := by
  unfold FLT
  rw [a0 24 (by decide), a0 43 (by decide), a0 25 (by decide)]
  exact ⟨fun j hj => ⟨rfl, Or.inl rfl, fun _ => rfl⟩, fun j hj => rfl⟩
theorem i_LOT : LOT st0 := by
  unfold LOT
  rw [g0 21 (by decide), g0 44 (by decide), g0 22 (by decide), g0 45 (by decide), a0 26 (by decide), a0 45 (by decide), a0 27 (by decide), a0 46 (by decide)]
  exact ⟨⟨0, by decide, z0n, z0n⟩, ⟨0, by decide, z0n, z0n⟩, rfl, rfl⟩
theorem inv_0 : INVX st0 := ⟨0, 0, 0, 0, i_ICE, i_CRS, i_TAP, i_RUL, i_BTS, i_RCS, i_FLT, i_LOT⟩
