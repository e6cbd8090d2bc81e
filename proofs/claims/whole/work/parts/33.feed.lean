-- feed
def cby (x s : Int32) : Int32 := (x.toUInt32 >>> (s.toUInt32 &&& Int32.toUInt32 31)).toInt32 &&& (255 : Int32)
def mby (x s : Int32) : Int32 := vp_nar .byte (x >>> (s &&& 31)).toInt8.toInt32
theorem u8 (z : Int32) : ((z.toBitVec.toNat % 256 : Nat) : Int) = z.toInt % 256 := by
  have h : z.toInt = z.toBitVec.toInt := rfl
  rw [h, BitVec.toInt_eq_toNat_cond]
  have := z.toBitVec.isLt
  split <;> omega
theorem i8 (z : Int32) : z.toInt8.toInt32.toInt % 256 = z.toInt % 256 := by
  have h : z.toInt8.toInt32.toInt = z.toInt.bmod 256 := by
    rw [Int8.toInt_toInt32, Int32.toInt_toInt8]
  rw [h]
  unfold Int.bmod
  dsimp only
  split <;> omega
theorem byt (x s : Int32) (k : Nat) (h1 : ((s.toUInt32 &&& Int32.toUInt32 31).toBitVec % 32).toNat = k) (h2 : ((s &&& 31).toBitVec.smod 32).toNat = k) (hk : k = 0 ∨ k = 8 ∨ k = 16 ∨ k = 24) : cby x s = mby x s &&& 255 := by
  unfold cby mby
  rw [pk_vb, pk_and _ 8 (by decide), pk_and _ 8 (by decide), pk_ushr x s k h1]
  congr 1
  have e1 := u8 ((x >>> (s &&& 31)).toInt8.toInt32)
  rw [i8, pk_shr x (s &&& 31) k h2, Int.shiftRight_eq_div_pow] at e1
  have e2 : x.toInt = x.toBitVec.toInt := rfl
  rw [e2, BitVec.toInt_eq_toNat_cond] at e1
  have := x.toBitVec.isLt
  revert e1
  generalize ((x >>> (s &&& 31)).toInt8.toInt32).toBitVec.toNat = y
  generalize x.toBitVec.toNat = z at *
  intro e1
  rcases hk with rfl | rfl | rfl | rfl <;> split at e1 <;> omega
def add4 (e : Int32 → Int32) (f : Nat → Int32) (t : Nat) : Nat → Int32 := upd (upd (upd (upd f t (e 24)) (t + 1) (e 16)) (t + 2) (e 8)) (t + 3) (e 0)
def rl8 (t : Nat) (f g : Nat → Int32) : Prop := ∀ j, j < t → f j = g j &&& 255
theorem rl8_up {t : Nat} {f g : Nat → Int32} (h : rl8 t f g) {a b : Int32} (e : a = b &&& 255) : rl8 (t + 1) (upd f t a) (upd g t b) := by
  intro j hj
  by_cases q : j = t
  · subst q; rw [upd_at, upd_at]; exact e
  · rw [pk_un q, pk_un q]; exact h j (by omega)
theorem rl8_4 {t : Nat} {f g : Nat → Int32} (h : rl8 t f g) (x : Int32) : rl8 (t + 4) (add4 (cby x) f t) (add4 (mby x) g t) :=
  rl8_up (rl8_up (rl8_up (rl8_up h (byt x 24 24 (by decide) (by decide) (by decide))) (byt x 16 16 (by decide) (by decide) (by decide))) (byt x 8 8 (by decide) (by decide) (by decide))) (byt x 0 0 (by decide) (by decide) (by decide))
theorem sisa (σ : St) (k l : Nat) (f g : Nat → Int32) (a b : Int32) : si (sa (si (sa σ k f) l a) k g) l b = si (sa σ k g) l b := by
  have h1 : sa (si (sa σ k f) l a) k g = si (sa (sa σ k f) k g) l a := rfl
  rw [h1, si_si, sa_sa]
theorem l_addX {σ : St} {t : Nat} (ht : t < 200) (e : gi σ 3 = nI t) {x s : Int32} (hs : ¬ s < 0) {m : Nat} {Q : St → Prop} (h : f_X7_addNumber_3L Q m (si (sa σ 13 (upd (ga σ 13) t (cby x s))) 3 (nI (t + 1))) x (s + (-8))) : f_X7_addNumber_3L Q (m + 1) σ x s := by
  show f_X7_addNumber_3 Q _ _ _ _
  unfold f_X7_addNumber_3
  rw [gi_sa, e, cl (by omega : t < 2 ^ 31), nI_1]
  exact br0 hs (br0 (nI_ge (b := 200) ht (by decide)) ⟨v_in ht (by decide), h⟩)
theorem s_addNumber {σ : St} {t : Nat} (ht : t + 4 ≤ 200) (e : gi σ 3 = nI t) {x : Int32} {Q : St → Prop} (h : Q (si (sa σ 13 (add4 (cby x) (ga σ 13) t)) 3 (nI (t + 4)))) : f_X7_addNumber σ x Q := by
  show f_X7_addNumber_3L Q (995 + 1 + 1 + 1 + 1 + 1) σ x 24
  refine l_addX (t := t) (by omega) e (by decide) ?_
  refine l_addX (t := t + 1) (by omega) rfl (by decide) ?_
  refine l_addX (t := t + 2) (by omega) rfl (by decide) ?_
  refine l_addX (t := t + 3) (by omega) rfl (by decide) ?_
  rw [sisa, sisa, sisa]
  show f_X7_addNumber_3 Q _ _ _ _
  unfold f_X7_addNumber_3
  exact br1 (by decide) h
theorem l_addM {σ : St} {t : Nat} (ht : t < 200) (e : gi σ 28 = nI t) {x s l1 l2 l3 l4 l5 l6 : Int32} (hs : ¬ s < 0) {m : Nat} {Q : Int32 → St → Prop} {K : St → Int32 → Int32 → Int32 → Int32 → Int32 → Int32 → Prop} (h : f_X9_feed_77L Q K m (si (sa σ 32 (upd (ga σ 32) t (mby x s))) 28 (nI (t + 1))) l1 l2 l3 l4 l5 l6 x (s + (-8))) : f_X9_feed_77L Q K (m + 1) σ l1 l2 l3 l4 l5 l6 x s := by
  show f_X9_feed_77 Q K _ _ _ _ _ _ _ _ _ _
  unfold f_X9_feed_77
  rw [gi_sa, e, cl (by omega : t < 2 ^ 31), nI_1]
  exact br0 hs ⟨v_in ht (by decide), h⟩
theorem s_add4M {σ : St} {t : Nat} (ht : t + 4 ≤ 200) (e : gi σ 28 = nI t) {x l1 l2 l3 l4 l5 l6 : Int32} {Q : Int32 → St → Prop} {K : St → Int32 → Int32 → Int32 → Int32 → Int32 → Int32 → Prop} (h : K (si (sa σ 32 (add4 (mby x) (ga σ 32) t)) 28 (nI (t + 4))) l1 l2 l3 l4 l5 (l6 + 1)) : f_X9_feed_77L Q K FU σ l1 l2 l3 l4 l5 l6 x 24 := by
  show f_X9_feed_77L Q K (995 + 1 + 1 + 1 + 1 + 1) σ l1 l2 l3 l4 l5 l6 x 24
  refine l_addM (t := t) (by omega) e (by decide) ?_
  refine l_addM (t := t + 1) (by omega) rfl (by decide) ?_
  refine l_addM (t := t + 2) (by omega) rfl (by decide) ?_
  refine l_addM (t := t + 3) (by omega) rfl (by decide) ?_
  rw [sisa, sisa, sisa]
  show f_X9_feed_77 Q K _ _ _ _ _ _ _ _ _ _
  unfold f_X9_feed_77
  exact br1 (by decide) h
def add20 (e : Int32 → Int32 → Int32) (f : Nat → Int32) (t : Nat) (a b c d x : Int32) : Nat → Int32 := add4 (e x) (add4 (e d) (add4 (e c) (add4 (e b) (add4 (e a) f t) (t + 4)) (t + 8)) (t + 12)) (t + 16)
theorem s_feedM {σ : St} {t : Nat} (ht : t + 20 ≤ 200) (e : gi σ 28 = nI t) {a b c d x : Int32} {Q : Int32 → St → Prop} (h : Q (nI (t + 20)) (si (sa σ 32 (add20 mby (ga σ 32) t a b c d x)) 28 (nI (t + 20)))) : f_X9_feed_23L Q FU σ a b c d x 0 := by
  show f_X9_feed_23 Q (f_X9_feed_23L Q (994 + 1 + 1 + 1 + 1 + 1)) _ _ _ _ _ _ _
  unfold f_X9_feed_23
  refine br0 (by decide) (bn0 (by decide) (s_add4M (t := t) (by omega) e ?_))
  show f_X9_feed_23 Q (f_X9_feed_23L Q (994 + 1 + 1 + 1 + 1)) _ _ _ _ _ _ (1 : Int32)
  unfold f_X9_feed_23
  refine br0 (by decide) (bn1 (by decide) (bn0 (by decide) (s_add4M (t := t + 4) (by omega) rfl ?_)))
  show f_X9_feed_23 Q (f_X9_feed_23L Q (994 + 1 + 1 + 1)) _ _ _ _ _ _ (2 : Int32)
  unfold f_X9_feed_23
  refine br0 (by decide) (bn1 (by decide) (bn1 (by decide) (bn0 (by decide) (s_add4M (t := t + 8) (by omega) rfl ?_))))
  show f_X9_feed_23 Q (f_X9_feed_23L Q (994 + 1 + 1)) _ _ _ _ _ _ (3 : Int32)
  unfold f_X9_feed_23
  refine br0 (by decide) (bn1 (by decide) (bn1 (by decide) (bn1 (by decide) (bn0 (by decide) (s_add4M (t := t + 12) (by omega) rfl ?_)))))
  show f_X9_feed_23 Q (f_X9_feed_23L Q (994 + 1)) _ _ _ _ _ _ (4 : Int32)
  unfold f_X9_feed_23
  refine br0 (by decide) (bn1 (by decide) (bn1 (by decide) (bn1 (by decide) (bn1 (by decide) (s_add4M (t := t + 16) (by omega) rfl ?_)))))
  show f_X9_feed_23 Q (f_X9_feed_23L Q 994) _ _ _ _ _ _ (5 : Int32)
  unfold f_X9_feed_23
  rw [sisa, sisa, sisa, sisa]
  exact br1 (by decide) h
theorem pr_feed {σ : St} (h : INVX σ) (a b c d x : Int32) : PN σ (fun Q => f_X8_feed σ a b c d x Q) (fun s Q => f_X9_feed s a b c d x Q) := by
  obtain ⟨w, n, r, t, h⟩ := h
  obtain ⟨hi, hc, ⟨t1, t2, t3, t4, t5⟩, hrest⟩ := id h
  have e20 : nI t + 20 = nI (t + 20) := nI_add t 20
  by_cases ht : t + 20 ≤ 200
  · refine ⟨nI (t + 20), si (sa σ 13 (add20 cby (ga σ 13) t a b c d x)) 3 (nI (t + 20)), fun Q hQ => ?_, si (sa (si (si (sa σ 13 (add20 cby (ga σ 13) t a b c d x)) 3 (nI (t + 20))) 23 0) 32 (add20 mby (ga σ 32) t a b c d x)) 28 (nI (t + 20)), fun Q hQ => ?_, ?_⟩
    · show f_X8_feed σ a b c d x Q
      unfold f_X8_feed f_X7_hasRoom
      rw [t2, e20]
      refine br0 (nI_nlt (b := t + 20) (a := 200) (by omega) (by decide)) (bn1 (by decide) ?_)
      refine s_addNumber (t := t) (by omega) t2 ?_
      refine s_addNumber (t := t + 4) (by omega) rfl ?_
      refine s_addNumber (t := t + 8) (by omega) rfl ?_
      refine s_addNumber (t := t + 12) (by omega) rfl ?_
      refine s_addNumber (t := t + 16) (by omega) rfl ?_
      rw [sisa, sisa, sisa, sisa]
      exact hQ
    · show f_X9_feed (si (sa σ 13 (add20 cby (ga σ 13) t a b c d x)) 3 (nI (t + 20))) a b c d x Q
      unfold f_X9_feed
      have e28 : gi (si (si (sa σ 13 (add20 cby (ga σ 13) t a b c d x)) 3 (nI (t + 20))) 23 0) 28 = nI t := t3
      rw [e28, e20]
      exact br1 (nI_le (b := 200) (by omega) (by decide)) (s_feedM (by omega) e28 hQ)
    · exact INVX.of (w := w) (n := n) (r := r) (t := t + 20) ⟨hi, hc, ⟨by omega, rfl, rfl, rl8_4 (rl8_4 (rl8_4 (rl8_4 (rl8_4 t4 a) b) c) d) x, t5⟩, hrest⟩
  · refine ⟨-1, σ, fun Q hQ => ?_, si σ 23 0, fun Q hQ => ?_, INVX.of h⟩
    · show f_X8_feed σ a b c d x Q
      unfold f_X8_feed f_X7_hasRoom
      rw [t2, e20]
      exact br1 (nI_lt (a := 200) (by omega) (by omega)) (bn0 rfl hQ)
    · show f_X9_feed σ a b c d x Q
      unfold f_X9_feed
      have e28 : gi (si σ 23 0) 28 = nI t := t3
      rw [e28, e20]
      exact br0 (nI_ge (a := 200) (by omega) (by omega)) hQ
