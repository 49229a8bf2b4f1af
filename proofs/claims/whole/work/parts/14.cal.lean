/-! PURE: the calendar. The reference walks years and months; the class reckons from March 2000. Dates 0 .. 100076. -/
def zc_leap (y : Nat) : Bool := or (and (Nat.beq (y % 4) 0) (not (Nat.beq (y % 100) 0))) (Nat.beq (y % 400) 0)
def zc_yl (y : Nat) : Nat := cond (zc_leap y) 366 365
def zc_ml (y m : Nat) : Nat := cond (Nat.beq m 2) (cond (zc_leap y) 29 28) (cond (or (Nat.beq m 4) (or (Nat.beq m 6) (or (Nat.beq m 9) (Nat.beq m 11)))) 30 31)
/-- the reference's loops: fuel, year or month, rest -/
def zc_wy : Nat → Nat → Nat → Nat × Nat
  | 0, y, r => (y, r)
  | k + 1, y, r => cond (Nat.blt r (zc_yl y)) (y, r) (zc_wy k (y + 1) (r - zc_yl y))
def zc_wm : Nat → Nat → Nat → Nat → Nat × Nat
  | 0, _, m, r => (m, r)
  | k + 1, y, m, r => cond (Nat.blt r (zc_ml y m)) (m, r) (zc_wm k y (m + 1) (r - zc_ml y m))
/-- the first date of the year 2000 + t -/
def zc_st (t : Nat) : Nat := 365 * t + (t + 3) / 4 - (t + 99) / 100 + (t + 399) / 400
theorem zc_b0 (n : Nat) : Nat.beq n 0 = decide (n = 0) := by cases n <;> simp [Nat.beq]
theorem zc_leap_iff (t : Nat) : zc_leap (2000 + t) = true ↔ (t % 4 = 0 ∧ ¬ t % 100 = 0) ∨ t % 400 = 0 := by
  unfold zc_leap
  rw [zc_b0, zc_b0, zc_b0]
  simp only [Bool.or_eq_true, Bool.and_eq_true, Bool.not_eq_true', decide_eq_true_eq, decide_eq_false_iff_not]
  omega
theorem zc_yl_eq (t : Nat) : zc_yl (2000 + t) = if (t % 4 = 0 ∧ ¬ t % 100 = 0) ∨ t % 400 = 0 then 366 else 365 := by
  unfold zc_yl
  by_cases h : zc_leap (2000 + t) = true
  · rw [h, if_pos ((zc_leap_iff t).mp h)]; rfl
  · rw [if_neg (fun q => h ((zc_leap_iff t).mpr q))]
    simp only [Bool.not_eq_true] at h
    rw [h]; rfl
theorem zc_st_succ (t : Nat) : zc_st (t + 1) = zc_st t + zc_yl (2000 + t) := by
  rw [zc_yl_eq]
  unfold zc_st
  split <;> omega
theorem zc_yl_pos (y : Nat) : 365 ≤ zc_yl y ∧ zc_yl y ≤ 366 := by
  unfold zc_yl
  cases zc_leap y <;> decide
theorem zc_st_mono {a b : Nat} (h : a ≤ b) : zc_st a ≤ zc_st b := by
  induction h with
  | refl => exact Nat.le_refl _
  | step _ ih => exact Nat.le_trans ih (by rw [zc_st_succ]; omega)
theorem zc_at (j : Nat) : ∃ t k, j = zc_st t + k ∧ k < zc_yl (2000 + t) := by
  induction j with
  | zero => exact ⟨0, 0, rfl, by decide⟩
  | succ j ih =>
    obtain ⟨t, k, h1, h2⟩ := ih
    by_cases h : k + 1 < zc_yl (2000 + t)
    · exact ⟨t, k + 1, by omega, h⟩
    · exact ⟨t + 1, 0, by rw [zc_st_succ]; omega, by have := zc_yl_pos (2000 + (t + 1)); omega⟩
theorem zc_wy_eq (d : Nat) : ∀ (f t0 k : Nat), d < f → k < zc_yl (2000 + (t0 + d)) → zc_wy f (2000 + t0) (zc_st (t0 + d) - zc_st t0 + k) = (2000 + (t0 + d), k) := by
  induction d with
  | zero =>
    intro f t0 k hf hk
    obtain ⟨g, rfl⟩ : ∃ g, f = g + 1 := ⟨f - 1, by omega⟩
    have e : zc_st (t0 + 0) - zc_st t0 + k = k := by simp
    rw [e]
    unfold zc_wy
    have h : Nat.blt k (zc_yl (2000 + t0)) = true := by rw [Nat.blt_eq]; exact hk
    rw [h]; rfl
  | succ d ih =>
    intro f t0 k hf hk
    obtain ⟨g, rfl⟩ : ∃ g, f = g + 1 := ⟨f - 1, by omega⟩
    have h1 : zc_st (t0 + 1) ≤ zc_st (t0 + (d + 1)) := zc_st_mono (by omega)
    have h2 := zc_st_succ t0
    have h : Nat.blt (zc_st (t0 + (d + 1)) - zc_st t0 + k) (zc_yl (2000 + t0)) = false := by
      cases hb : Nat.blt (zc_st (t0 + (d + 1)) - zc_st t0 + k) (zc_yl (2000 + t0)) with
      | false => rfl
      | true => rw [Nat.blt_eq] at hb; omega
    unfold zc_wy
    rw [h]
    show zc_wy g (2000 + t0 + 1) _ = _
    have e1 : zc_st (t0 + (d + 1)) - zc_st t0 + k - zc_yl (2000 + t0) = zc_st (t0 + 1 + d) - zc_st (t0 + 1) + k := by
      rw [show t0 + 1 + d = t0 + (d + 1) by omega]; omega
    rw [e1, show 2000 + t0 + 1 = 2000 + (t0 + 1) by omega, ih g (t0 + 1) k (by omega) (by rw [show t0 + 1 + d = t0 + (d + 1) by omega]; exact hk)]
    rw [show t0 + 1 + d = t0 + (d + 1) by omega]
/-- the class's reckoning against the reference's, a date -/
def zc_ok (t k : Nat) : Bool :=
  or (Nat.blt (zc_st t + k) 60)
   (let j := zc_st t + k - 60
    let y := (j - (j / 1460 - j / 36524 + j / 146096)) / 365
    let b := 365 * y + y / 4 - y / 100
    let dy := j - b
    let mo := (5 * dy + 2) / 153
    let e := (153 * mo + 2) / 5
    and (Nat.ble b j) (and (Nat.ble e dy) (and (Nat.ble dy 366) (and (Nat.beq (12 * y + mo + 3) (12 * t + (zc_wm 12 (2000 + t) 1 k).1)) (and (Nat.beq (dy - e) (zc_wm 12 (2000 + t) 1 k).2) (Nat.blt (dy - e) 31))))))
def zc_yr (t : Nat) : Nat → Bool
  | 0 => true
  | k + 1 => and (zc_ok t k) (zc_yr t k)
def zc_yrs (a : Nat) : Nat → Bool
  | 0 => true
  | n + 1 => and (zc_yr (a + n) (zc_yl (2000 + (a + n)))) (zc_yrs a n)
theorem zc_yr_at (t : Nat) : ∀ n, zc_yr t n = true → ∀ k, k < n → zc_ok t k = true := by
  intro n
  induction n with
  | zero => intro _ k hk; omega
  | succ n ih =>
    intro h k hk
    unfold zc_yr at h
    simp only [Bool.and_eq_true] at h
    by_cases e : k = n
    · rw [e]; exact h.1
    · exact ih h.2 k (by omega)
theorem zc_yrs_at (a : Nat) : ∀ n, zc_yrs a n = true → ∀ t, a ≤ t → t < a + n → ∀ k, k < zc_yl (2000 + t) → zc_ok t k = true := by
  intro n
  induction n with
  | zero => intro _ t h1 h2; omega
  | succ n ih =>
    intro h t h1 h2 k hk
    unfold zc_yrs at h
    simp only [Bool.and_eq_true] at h
    by_cases e : t = a + n
    · rw [e]; exact zc_yr_at _ _ h.1 k (by rw [← e]; exact hk)
    · exact ih h.2 t h1 (by omega) k hk
set_option maxRecDepth 100000 in
theorem zc_c0 : zc_yrs 0 35 = true := by decide +kernel
set_option maxRecDepth 100000 in
theorem zc_c1 : zc_yrs 35 35 = true := by decide +kernel
set_option maxRecDepth 100000 in
theorem zc_c2 : zc_yrs 70 35 = true := by decide +kernel
set_option maxRecDepth 100000 in
theorem zc_c3 : zc_yrs 105 35 = true := by decide +kernel
set_option maxRecDepth 100000 in
theorem zc_c4 : zc_yrs 140 35 = true := by decide +kernel
set_option maxRecDepth 100000 in
theorem zc_c5 : zc_yrs 175 35 = true := by decide +kernel
set_option maxRecDepth 100000 in
theorem zc_c6 : zc_yrs 210 35 = true := by decide +kernel
set_option maxRecDepth 100000 in
theorem zc_c7 : zc_yrs 245 29 = true := by decide +kernel
theorem zc_all {t k : Nat} (ht : t < 274) (hk : k < zc_yl (2000 + t)) : zc_ok t k = true := by
  by_cases h0 : t < 35
  · exact zc_yrs_at 0 35 zc_c0 t (by omega) (by omega) k hk
  by_cases h1 : t < 70
  · exact zc_yrs_at 35 35 zc_c1 t (by omega) (by omega) k hk
  by_cases h2 : t < 105
  · exact zc_yrs_at 70 35 zc_c2 t (by omega) (by omega) k hk
  by_cases h3 : t < 140
  · exact zc_yrs_at 105 35 zc_c3 t (by omega) (by omega) k hk
  by_cases h4 : t < 175
  · exact zc_yrs_at 140 35 zc_c4 t (by omega) (by omega) k hk
  by_cases h5 : t < 210
  · exact zc_yrs_at 175 35 zc_c5 t (by omega) (by omega) k hk
  by_cases h6 : t < 245
  · exact zc_yrs_at 210 35 zc_c6 t (by omega) (by omega) k hk
  · exact zc_yrs_at 245 29 zc_c7 t (by omega) (by omega) k hk
/-- year, month, day of a date as the reference walks to them -/
def zc_y (j : Nat) : Nat := (zc_wy 400 2000 j).1
def zc_m (j : Nat) : Nat := (zc_wm 12 (zc_y j) 1 (zc_wy 400 2000 j).2).1
def zc_d (j : Nat) : Nat := (zc_wm 12 (zc_y j) 1 (zc_wy 400 2000 j).2).2 + 1
theorem zc_lt274 {t k : Nat} (h : zc_st t + k < 100077) : t < 274 := by
  refine Nat.lt_of_not_le fun q => ?_
  have h1 := zc_st_mono q
  have h2 : zc_st 274 = 100077 := by decide
  omega
theorem zc_wy_at {j : Nat} (h : j < 100077) : ∃ t k, t < 274 ∧ j = zc_st t + k ∧ k < zc_yl (2000 + t) ∧ zc_wy 400 2000 j = (2000 + t, k) := by
  obtain ⟨t, k, h1, h2⟩ := zc_at j
  have ht : t < 274 := zc_lt274 (by rw [← h1]; exact h)
  have h3 := zc_wy_eq t 400 0 k (by omega) (by rw [Nat.zero_add]; exact h2)
  rw [Nat.zero_add] at h3
  have h4 : zc_st t - zc_st 0 + k = j := by
    have : zc_st 0 = 0 := by decide
    omega
  rw [h4] at h3
  exact ⟨t, k, ht, h1, h2, h3⟩
