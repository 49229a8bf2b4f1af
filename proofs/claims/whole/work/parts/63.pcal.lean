/-! PURE: the class's months and days are the reference's. -/
theorem zq_xor (a b : Nat) : nI a ^^^ nI b = nI (a ^^^ b) := by
  apply Int32.toBitVec_inj.1
  show BitVec.ofNat 32 a ^^^ BitVec.ofNat 32 b = BitVec.ofNat 32 (a ^^^ b)
  apply BitVec.eq_of_getLsbD_eq
  intro i hi
  simp [hi]
theorem zq_pos_xor {a b : Nat} (ha : a < 2 ^ 30) (hb : b < 2 ^ 30) : (0 : Int32) ≤ nI a ^^^ nI b := by
  rw [zq_xor]
  exact nI_pos' (Nat.lt_of_lt_of_le (Nat.xor_lt_two_pow ha hb) (by decide))
theorem zq_fdiv {a d : Nat} (ha : a < 2 ^ 30) (h0 : 0 < d) (hd : d < 2 ^ 30) : zj_fdiv (nI a) (nI d) = nI (a / d) := by
  unfold zj_fdiv
  rw [if_pos (zq_pos_xor ha hd), pk_div (by omega) h0 (by omega)]
theorem zq_fmod {a d : Nat} (ha : a < 2 ^ 30) (h0 : 0 < d) (hd : d < 2 ^ 30) : zj_fmod (nI a) (nI d) = nI (a % d) := by
  unfold zj_fmod
  rw [if_pos (zq_pos_xor ha hd), pk_rem (by omega) h0 (by omega)]
/-- the class's reckoning on natural numbers -/
def zq_Y (k : Nat) : Nat := (k - (k / 1460 - k / 36524 + k / 146096)) / 365
def zq_B (y : Nat) : Nat := 365 * y + y / 4 - y / 100
theorem zq_mdY {k : Nat} (hk : k < 146096) : zb_mdY (nI k) = nI (zq_Y k) := by
  have e1 : nI k / 1460 = nI (k / 1460) := pk_div (d := 1460) (by omega) (by decide) (by decide)
  have e2 : nI k / 36524 = nI (k / 36524) := pk_div (d := 36524) (by omega) (by decide) (by decide)
  have e3 : nI k / 146096 = nI (k / 146096) := pk_div (d := 146096) (by omega) (by decide) (by decide)
  unfold zb_mdY zq_Y
  rw [e1, e2, e3, pk_sub (by omega), nI_add, pk_sub (by omega)]
  exact pk_div (d := 365) (by omega) (by decide) (by decide)
theorem zq_Y_lt {k : Nat} (hk : k < 146096) : zq_Y k < 401 := by unfold zq_Y; omega
theorem zq_mdD {k y : Nat} (hk : k < 146096) (hy : y < 401) (hb : zq_B y ≤ k) : zb_mdD (nI k) (nI y) = nI (k - zq_B y) := by
  have e1 : (365 : Int32) * nI y = nI (365 * y) := pk_mul 365 y
  have e2 : nI y / 4 = nI (y / 4) := pk_div (d := 4) (by omega) (by decide) (by decide)
  have e3 : nI y / 100 = nI (y / 100) := pk_div (d := 100) (by omega) (by decide) (by decide)
  unfold zb_mdD
  rw [e1, e2, e3, nI_add, pk_sub (by omega)]
  exact pk_sub hb
theorem zq_mdM {d : Nat} (hd : d ≤ 366) : zb_mdM (nI d) = nI ((5 * d + 2) / 153) := by
  have e1 : (5 : Int32) * nI d = nI (5 * d) := pk_mul 5 d
  have e2 : nI (5 * d) + 2 = nI (5 * d + 2) := nI_add (5 * d) 2
  unfold zb_mdM
  rw [e1, e2]
  exact pk_div (d := 153) (by omega) (by decide) (by decide)
theorem zq_mdT {d m : Nat} (hd : d ≤ 366) (hm : m < 100) (he : (153 * m + 2) / 5 ≤ d) : zb_mdT (nI d) (nI m) = nI (d - (153 * m + 2) / 5 + 1) := by
  have e1 : (153 : Int32) * nI m = nI (153 * m) := pk_mul 153 m
  have e2 : nI (153 * m) + 2 = nI (153 * m + 2) := nI_add (153 * m) 2
  have e3 : nI (153 * m + 2) / 5 = nI ((153 * m + 2) / 5) := pk_div (d := 5) (by omega) (by decide) (by decide)
  unfold zb_mdT
  rw [e1, e2, e3, pk_sub he]
  exact nI_add _ 1
theorem zq_md3 {y m t : Nat} (hy : y < 401) (hm : m < 100) (ht : t < 32) : zb_md3 (nI 0) (nI y) (nI m) (nI t) = nI ((12 * y + m) * 32 + t) := by
  have e0 : (4800 : Int32) * nI 0 = nI 0 := pk_mul 4800 0
  have e1 : (12 : Int32) * nI y = nI (12 * y) := pk_mul 12 y
  unfold zb_md3
  rw [e0, e1, nI_add, nI_add, pk_shlN _ 5 (by decide) (by omega), nI_add]
  congr 1
  omega
theorem zq_small : ∀ j, j < 60 → zb_dayIn (zb_md (nI j)) = nI (zc_d j) ∧ zb_monthIn (zb_md (nI j)) = nI (12 * (zc_y j - 2000) + zc_m j) - 3 := by decide +kernel
/-- month and day of every date -/
theorem zq_cal {j : Nat} (hj : j < 100077) : zb_dayIn (zb_md (nI j)) = nI (zc_d j) ∧ zb_monthIn (zb_md (nI j)) = nI (12 * (zc_y j - 2000) + zc_m j) - 3 := by
  by_cases h60 : j < 60
  · exact zq_small j h60
  obtain ⟨t, kk, ht, hjk, hk, hw⟩ := zc_wy_at hj
  have hok := zc_all ht hk
  have hy : zc_y j = 2000 + t := by unfold zc_y; rw [hw]
  have hm : zc_m j = (zc_wm 12 (2000 + t) 1 kk).1 := by unfold zc_m; rw [hy, hw]
  have hd : zc_d j = (zc_wm 12 (2000 + t) 1 kk).2 + 1 := by unfold zc_d; rw [hy, hw]
  unfold zc_ok at hok
  have hb : Nat.blt (zc_st t + kk) 60 = false := by
    cases q : Nat.blt (zc_st t + kk) 60 with
    | false => rfl
    | true => rw [Nat.blt_eq] at q; omega
  rw [hb] at hok
  dsimp only at hok
  rw [Bool.false_or, ← hjk] at hok
  simp only [Bool.and_eq_true, Nat.ble_eq, Nat.blt_eq, Nat.beq_eq] at hok
  obtain ⟨g1, g2, g3, g4, g5, g6⟩ := hok
  have hk60 : j - 60 < 146096 := by omega
  have e1 : nI j - 60 = nI (j - 60) := pk_sub (b := 60) (by omega)
  have eY : zq_Y (j - 60) = (j - 60 - ((j - 60) / 1460 - (j - 60) / 36524 + (j - 60) / 146096)) / 365 := rfl
  rw [← eY] at g1 g2 g3 g4 g5 g6
  have hY := zq_Y_lt hk60
  have hmdY := zq_mdY hk60
  generalize zq_Y (j - 60) = y at hY hmdY g1 g2 g3 g4 g5 g6
  have hD : zb_mdD (nI (j - 60)) (nI y) = nI (j - 60 - (365 * y + y / 4 - y / 100)) := zq_mdD hk60 hY g1
  generalize j - 60 - (365 * y + y / 4 - y / 100) = dy at hD g2 g3 g4 g5 g6
  have hM := zq_mdM g3
  have hmo : (5 * dy + 2) / 153 < 100 := by omega
  generalize (5 * dy + 2) / 153 = mo at hM hmo g2 g4 g5 g6
  have hT := zq_mdT g3 hmo g2
  generalize dy - (153 * mo + 2) / 5 = q at hT g5 g6
  have hfd : zj_fdiv (nI (j - 60)) 146097 = nI 0 := by
    have := zq_fdiv (a := j - 60) (d := 146097) (by omega) (by decide) (by decide)
    rw [Nat.div_eq_of_lt (by omega)] at this
    exact this
  have hfm : zj_fmod (nI (j - 60)) 146097 = nI (j - 60) := by
    have := zq_fmod (a := j - 60) (d := 146097) (by omega) (by decide) (by decide)
    rw [Nat.mod_eq_of_lt (by omega)] at this
    exact this
  have hmd : zb_md (nI j) = nI ((12 * y + mo) * 32 + (q + 1)) := by
    unfold zb_md
    rw [e1, hfd, hfm]
    unfold zb_md2
    rw [hmdY, hD, hM, hT]
    exact zq_md3 hY hmo (by omega)
  constructor
  · unfold zb_dayIn
    rw [hmd, pk_andN (by omega) 5 (by decide), hd]
    congr 1
    omega
  · unfold zb_monthIn
    rw [hmd, pk_shrN (by omega) _ 5 (by decide), hy, hm]
    have e9 : nI (12 * (2000 + t - 2000) + (zc_wm 12 (2000 + t) 1 kk).1) - 3 = nI (12 * (2000 + t - 2000) + (zc_wm 12 (2000 + t) 1 kk).1 - 3) := pk_sub (b := 3) (by omega)
    rw [e9]
    congr 1
    omega
