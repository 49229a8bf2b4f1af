/-! PURE: the day behind a day; the length of a month. -/
def zc_mlL (b : Bool) (m : Nat) : Nat := cond (Nat.beq m 2) (cond b 29 28) (cond (or (Nat.beq m 4) (or (Nat.beq m 6) (or (Nat.beq m 9) (Nat.beq m 11)))) 30 31)
def zc_wmL (b : Bool) : Nat → Nat → Nat → Nat × Nat
  | 0, m, r => (m, r)
  | k + 1, m, r => cond (Nat.blt r (zc_mlL b m)) (m, r) (zc_wmL b k (m + 1) (r - zc_mlL b m))
theorem zc_ml_L (y m : Nat) : zc_ml y m = zc_mlL (zc_leap y) m := rfl
theorem zc_wm_L (y : Nat) : ∀ f m r, zc_wm f y m r = zc_wmL (zc_leap y) f m r := by
  intro f
  induction f with
  | zero => intro m r; rfl
  | succ f ih => intro m r; unfold zc_wm zc_wmL; rw [zc_ml_L, ih]
def zc_ylL (b : Bool) : Nat := cond b 366 365
/-- what a day of a year is: month and day are real, and the next day is the next -/
def zc_dayOk (b : Bool) (k : Nat) : Bool :=
  let w := zc_wmL b 12 1 k
  and (Nat.ble 1 w.1) (and (Nat.ble w.1 12) (and (Nat.blt w.2 (zc_mlL b w.1)) (cond (Nat.blt (k + 1) (zc_ylL b))
    (let v := zc_wmL b 12 1 (k + 1)
     cond (Nat.blt (w.2 + 1) (zc_mlL b w.1)) (and (Nat.beq v.1 w.1) (Nat.beq v.2 (w.2 + 1))) (and (Nat.beq v.1 (w.1 + 1)) (Nat.beq v.2 0)))
    (and (Nat.beq w.1 12) (Nat.beq w.2 30)))))
def zc_dayAll (b : Bool) : Nat → Bool
  | 0 => true
  | k + 1 => and (zc_dayOk b k) (zc_dayAll b k)
set_option maxRecDepth 100000 in
theorem zc_dayAll_t : zc_dayAll true 366 = true := by decide +kernel
set_option maxRecDepth 100000 in
theorem zc_dayAll_f : zc_dayAll false 365 = true := by decide +kernel
theorem zc_dayAll_at (b : Bool) : ∀ n, zc_dayAll b n = true → ∀ k, k < n → zc_dayOk b k = true := by
  intro n
  induction n with
  | zero => intro _ k hk; omega
  | succ n ih =>
    intro h k hk
    unfold zc_dayAll at h
    simp only [Bool.and_eq_true] at h
    by_cases e : k = n
    · rw [e]; exact h.1
    · exact ih h.2 k (by omega)
theorem zc_dayOk_all {b : Bool} {k : Nat} (h : k < zc_ylL b) : zc_dayOk b k = true := by
  cases b with
  | true => exact zc_dayAll_at true 366 zc_dayAll_t k h
  | false => exact zc_dayAll_at false 365 zc_dayAll_f k h
theorem zc_dayOk_spec {b : Bool} {k : Nat} (h : k < zc_ylL b) : 1 ≤ (zc_wmL b 12 1 k).1 ∧ (zc_wmL b 12 1 k).1 ≤ 12 ∧ (zc_wmL b 12 1 k).2 < zc_mlL b (zc_wmL b 12 1 k).1 ∧
    (k + 1 < zc_ylL b → (zc_wmL b 12 1 k).2 + 1 < zc_mlL b (zc_wmL b 12 1 k).1 → zc_wmL b 12 1 (k + 1) = ((zc_wmL b 12 1 k).1, (zc_wmL b 12 1 k).2 + 1)) ∧
    (k + 1 < zc_ylL b → ¬ (zc_wmL b 12 1 k).2 + 1 < zc_mlL b (zc_wmL b 12 1 k).1 → zc_wmL b 12 1 (k + 1) = ((zc_wmL b 12 1 k).1 + 1, 0)) ∧
    (¬ k + 1 < zc_ylL b → (zc_wmL b 12 1 k).1 = 12 ∧ (zc_wmL b 12 1 k).2 = 30) := by
  have h0 := zc_dayOk_all h
  unfold zc_dayOk at h0
  simp only [Bool.and_eq_true, Nat.ble_eq, Nat.blt_eq] at h0
  obtain ⟨h1, h2, h3, h4⟩ := h0
  refine ⟨h1, h2, h3, fun q1 q2 => ?_, fun q1 q2 => ?_, fun q1 => ?_⟩
  · have e1 : Nat.blt (k + 1) (zc_ylL b) = true := by rw [Nat.blt_eq]; exact q1
    have e2 : Nat.blt ((zc_wmL b 12 1 k).2 + 1) (zc_mlL b (zc_wmL b 12 1 k).1) = true := by rw [Nat.blt_eq]; exact q2
    rw [e1, e2] at h4
    simp only [cond_true, Bool.and_eq_true, Nat.beq_eq] at h4
    exact Prod.ext h4.1 h4.2
  · have e1 : Nat.blt (k + 1) (zc_ylL b) = true := by rw [Nat.blt_eq]; exact q1
    have e2 : Nat.blt ((zc_wmL b 12 1 k).2 + 1) (zc_mlL b (zc_wmL b 12 1 k).1) = false := by
      cases hb : Nat.blt ((zc_wmL b 12 1 k).2 + 1) (zc_mlL b (zc_wmL b 12 1 k).1) with
      | false => rfl
      | true => rw [Nat.blt_eq] at hb; exact absurd hb q2
    rw [e1, e2] at h4
    simp only [cond_true, cond_false, Bool.and_eq_true, Nat.beq_eq] at h4
    exact Prod.ext h4.1 h4.2
  · have e1 : Nat.blt (k + 1) (zc_ylL b) = false := by
      cases hb : Nat.blt (k + 1) (zc_ylL b) with
      | false => rfl
      | true => rw [Nat.blt_eq] at hb; exact absurd hb q1
    rw [e1] at h4
    simp only [cond_false, Bool.and_eq_true, Nat.beq_eq] at h4
    exact h4
theorem zc_mlL_in (b : Bool) {m : Nat} : 28 ≤ zc_mlL b m ∧ zc_mlL b m ≤ 31 := by
  unfold zc_mlL
  cases Nat.beq m 2 <;> cases b <;> cases (or (Nat.beq m 4) (or (Nat.beq m 6) (or (Nat.beq m 9) (Nat.beq m 11)))) <;> decide
/-- a date's year, month and day, and those of the next date -/
theorem zc_real {j : Nat} (h : j < 100077) : 2000 ≤ zc_y j ∧ zc_y j < 2274 ∧ 1 ≤ zc_m j ∧ zc_m j ≤ 12 ∧ 1 ≤ zc_d j ∧ zc_d j ≤ zc_ml (zc_y j) (zc_m j) ∧ zc_d j ≤ j + 1 := by
  obtain ⟨t, k, ht, hj, hk, hw⟩ := zc_wy_at h
  have hy : zc_y j = 2000 + t := by unfold zc_y; rw [hw]
  have hm : zc_m j = (zc_wmL (zc_leap (2000 + t)) 12 1 k).1 := by unfold zc_m; rw [hy, hw, zc_wm_L]
  have hd : zc_d j = (zc_wmL (zc_leap (2000 + t)) 12 1 k).2 + 1 := by unfold zc_d; rw [hy, hw, zc_wm_L]
  obtain ⟨h1, h2, h3, -⟩ := zc_dayOk_spec (b := zc_leap (2000 + t)) (k := k) hk
  have h4 : (zc_wmL (zc_leap (2000 + t)) 12 1 k).2 ≤ k := by
    have : ∀ f m r, (zc_wmL (zc_leap (2000 + t)) f m r).2 ≤ r := by
      intro f
      induction f with
      | zero => intro m r; exact Nat.le_refl _
      | succ f ih =>
        intro m r
        unfold zc_wmL
        cases Nat.blt r (zc_mlL (zc_leap (2000 + t)) m) with
        | true => exact Nat.le_refl _
        | false => exact Nat.le_trans (ih _ _) (Nat.sub_le _ _)
    exact this _ _ _
  rw [hy, hm, hd, zc_ml_L]
  refine ⟨by omega, by omega, h1, h2, by omega, by omega, by omega⟩
theorem zc_next {j : Nat} (h : j + 1 < 100077) : (zc_d j < zc_ml (zc_y j) (zc_m j) → zc_y (j + 1) = zc_y j ∧ zc_m (j + 1) = zc_m j ∧ zc_d (j + 1) = zc_d j + 1) ∧
    (¬ zc_d j < zc_ml (zc_y j) (zc_m j) → zc_d (j + 1) = 1) := by
  obtain ⟨t, k, ht, hj, hk, hw⟩ := zc_wy_at (j := j) (by omega)
  have hy : zc_y j = 2000 + t := by unfold zc_y; rw [hw]
  have hm : zc_m j = (zc_wmL (zc_leap (2000 + t)) 12 1 k).1 := by unfold zc_m; rw [hy, hw, zc_wm_L]
  have hd : zc_d j = (zc_wmL (zc_leap (2000 + t)) 12 1 k).2 + 1 := by unfold zc_d; rw [hy, hw, zc_wm_L]
  obtain ⟨h1, h2, h3, h4, h5, h6⟩ := zc_dayOk_spec (b := zc_leap (2000 + t)) (k := k) hk
  by_cases hq : k + 1 < zc_yl (2000 + t)
  · have hw1 : zc_wy 400 2000 (j + 1) = (2000 + t, k + 1) := by
      have h3' := zc_wy_eq t 400 0 (k + 1) (by omega) (by rw [Nat.zero_add]; exact hq)
      rw [Nat.zero_add] at h3'
      have e0 : zc_st 0 = 0 := by decide
      rw [show j + 1 = zc_st t - zc_st 0 + (k + 1) by omega]
      exact h3'
    have hy1 : zc_y (j + 1) = 2000 + t := by unfold zc_y; rw [hw1]
    have hm1 : zc_m (j + 1) = (zc_wmL (zc_leap (2000 + t)) 12 1 (k + 1)).1 := by unfold zc_m; rw [hy1, hw1, zc_wm_L]
    have hd1 : zc_d (j + 1) = (zc_wmL (zc_leap (2000 + t)) 12 1 (k + 1)).2 + 1 := by unfold zc_d; rw [hy1, hw1, zc_wm_L]
    rw [hy1, hm1, hd1, hy, hm, hd, zc_ml_L]
    constructor
    · intro q
      rw [h4 hq q]
      exact ⟨rfl, rfl, rfl⟩
    · intro q
      rw [h5 hq q]
  · have hw1 : zc_wy 400 2000 (j + 1) = (2000 + (t + 1), 0) := by
      have hp := zc_yl_pos (2000 + (t + 1))
      have h3' := zc_wy_eq (t + 1) 400 0 0 (by omega) (by rw [Nat.zero_add]; omega)
      rw [Nat.zero_add] at h3'
      have e0 : zc_st 0 = 0 := by decide
      have e1 := zc_st_succ t
      rw [show j + 1 = zc_st (t + 1) - zc_st 0 + 0 by omega]
      exact h3'
    have hy1 : zc_y (j + 1) = 2000 + (t + 1) := by unfold zc_y; rw [hw1]
    have hd1 : zc_d (j + 1) = 1 := by
      unfold zc_d; rw [hy1, hw1, zc_wm_L]
      cases zc_leap (2000 + (t + 1)) <;> rfl
    obtain ⟨e1, e2⟩ := h6 hq
    rw [hd1]
    constructor
    · intro q
      rw [hy, hm, hd, zc_ml_L, e1, e2] at q
      exfalso
      revert q
      cases zc_leap (2000 + t) <;> decide
    · intro _; rfl
theorem zc_in_month {j : Nat} : ∀ i, j + i < 100077 → zc_d j + i ≤ zc_ml (zc_y j) (zc_m j) → zc_y (j + i) = zc_y j ∧ zc_m (j + i) = zc_m j ∧ zc_d (j + i) = zc_d j + i := by
  intro i
  induction i with
  | zero => intro _ _; exact ⟨rfl, rfl, rfl⟩
  | succ i ih =>
    intro h1 h2
    obtain ⟨a, b, c⟩ := ih (by omega) (by omega)
    have h3 := (zc_next (j := j + i) (by omega)).1 (by rw [a, b, c]; omega)
    rw [a, b, c] at h3
    exact ⟨h3.1, h3.2.1, by rw [show j + (i + 1) = j + i + 1 by omega, h3.2.2]; omega⟩
theorem zc_last {j : Nat} (h : j + 1 < 100077) : zc_d (j + 1) = 1 ↔ zc_d j = zc_ml (zc_y j) (zc_m j) := by
  obtain ⟨-, -, -, -, r5, r6, -⟩ := zc_real (j := j) (by omega)
  obtain ⟨n1, n2⟩ := zc_next h
  constructor
  · intro q
    by_cases e : zc_d j < zc_ml (zc_y j) (zc_m j)
    · have := (n1 e).2.2; omega
    · omega
  · intro q
    exact n2 (by omega)
/-- the 32nd day counted from a month's first is in the next month -/
theorem zc_32 {j : Nat} (h : j + 32 < 100077) : zc_d (j + 32 - zc_d j) = 32 - zc_ml (zc_y j) (zc_m j) := by
  obtain ⟨-, -, -, -, r5, r6, r7⟩ := zc_real (j := j) (by omega)
  have hml := zc_mlL_in (zc_leap (zc_y j)) (m := zc_m j)
  rw [← zc_ml_L] at hml
  obtain ⟨a, b, c⟩ := zc_in_month (j := j) (zc_ml (zc_y j) (zc_m j) - zc_d j) (by omega) (by omega)
  have h1 := (zc_next (j := j + (zc_ml (zc_y j) (zc_m j) - zc_d j)) (by omega)).2 (by rw [a, b, c]; omega)
  have hml2 := zc_mlL_in (zc_leap (zc_y (j + (zc_ml (zc_y j) (zc_m j) - zc_d j) + 1))) (m := zc_m (j + (zc_ml (zc_y j) (zc_m j) - zc_d j) + 1))
  rw [← zc_ml_L] at hml2
  obtain ⟨-, -, c2⟩ := zc_in_month (j := j + (zc_ml (zc_y j) (zc_m j) - zc_d j) + 1) (31 - zc_ml (zc_y j) (zc_m j)) (by omega) (by omega)
  rw [show j + 32 - zc_d j = j + (zc_ml (zc_y j) (zc_m j) - zc_d j) + 1 + (31 - zc_ml (zc_y j) (zc_m j)) by omega, c2, h1]
  omega
