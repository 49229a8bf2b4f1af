/-! PURE: a transaction on the disk, the class's and the reference's. -/
theorem zq_bits : ∀ t, t < 64 → zm_cnt (nI t) 6 0 1 = zj_bc (nI t) + 1 ∧ (zj_bc (nI t)).toNatClampNeg ≤ 6 ∧ zj_bc (nI t) = nI (zj_bc (nI t)).toNatClampNeg := by decide +kernel
theorem zq_many_last (n : Nat) : ∀ d : zb_TD, zb_wMany (n + 1) d = if (zb_wMany n d).1 = 0 then (0, (zb_wMany n d).2) else (if (zb_wOnce (zb_wMany n d).2).1 = 0 then (0, (zb_wOnce (zb_wMany n d).2).2) else (1, (zb_wOnce (zb_wMany n d).2).2)) := by
  induction n with
  | zero =>
    intro d
    show (if (zb_wOnce d).1 = 0 then (0, (zb_wOnce d).2) else (1, (zb_wOnce d).2)) = _
    show _ = if (1 : Int32) = 0 then _ else _
    rw [if_neg (show ¬ (1 : Int32) = 0 by decide)]
    rfl
  | succ n ih =>
    intro d
    by_cases h : (zb_wOnce d).1 = 0
    · rw [zb_wMany_stop h (by omega), zb_wMany_stop h (by omega), if_pos rfl]
    · rw [zb_wMany_next h (by omega), zb_wMany_next (k := n + 1) h (by omega)]
      exact ih _
theorem zq_check {d : zb_TD} {t : Nat} (ht : zbD_chg d = nI t) (ht6 : t < 64) :
    zb_check d = if (zm_afford d (zm_cnt (zmD_tch d) 6 0 1)).1 = 0 then (0, (zm_afford d (zm_cnt (zmD_tch d) 6 0 1)).2) else (1, zmD_stch (zmD_sedd (zmD_sinl (zm_afford d (zm_cnt (zmD_tch d) 6 0 1)).2 0) 0) 0) := by
  obtain ⟨b1, b2, b3⟩ := zq_bits t ht6
  have e1 : zm_cnt (zmD_tch d) 6 0 1 = nI ((zj_bc (nI t)).toNatClampNeg + 1) := by
    rw [show zmD_tch d = nI t from ht, b1, nI_succ, ← b3]
  rw [e1, ← zp_many _ d (by omega)]
  unfold zb_check
  rw [ht]
  generalize (zj_bc (nI t)).toNatClampNeg = n
  rw [zq_many_last]
  by_cases h : (zb_wMany n d).1 = 0
  · rw [if_pos h, if_pos h, if_pos rfl]
  · rw [if_neg h, if_neg h]
    unfold zb_check2
    by_cases h2 : (zb_wOnce (zb_wMany n d).2).1 = 0
    · rw [if_pos h2, if_pos h2, if_pos rfl]
    · rw [if_neg h2, if_neg h2, if_neg (show ¬ (1 : Int32) = 0 by decide)]
      rfl
theorem zq_lines2 {d : zb_TD} {chg : Int32} {c : Nat} (hc : c < 100) : zb_lines2 d chg (nI (c + 1)) = zm_comes2 d (nI c) chg := by
  unfold zb_lines2 zm_comes2
  rw [nI_clamp (by omega), zp_many _ d (by omega), show nI c + 1 = nI (c + 1) from nI_1 c]
  by_cases h : (zm_afford d (nI (c + 1))).1 = 0
  · rw [if_pos h, if_pos h]
  · rw [if_neg h, if_neg h]; rfl
theorem zq_lines {d : zb_TD} {chg : Int32} {c t : Nat} (hc : c < 100) (ht : zbD_chg d = nI t) (ht6 : t < 64) : zb_lines d chg (nI (c + 1)) = zm_comes d (nI c) chg := by
  unfold zb_lines zm_comes
  have e : zbD_lin d + nI (c + 1) = zmD_inl d + nI c + 1 := by rw [nI_succ, Int32.add_assoc]; rfl
  rw [e, zq_check ht ht6, zq_lines2 hc]
  by_cases h : zmD_inl d + nI c + 1 ≤ 24
  · rw [if_pos h, if_pos h]
  · rw [if_neg h, if_neg h]
    by_cases h2 : (zm_afford d (zm_cnt (zmD_tch d) 6 0 1)).1 = 0
    · rw [if_pos h2, if_pos h2, if_pos rfl]
    · rw [if_neg h2, if_neg h2, if_neg (show ¬ (1 : Int32) = 0 by decide)]
      exact zq_lines2 hc
/-- interest: the class rounds down first, the reference mends the division -/
theorem zq_lpos {x y : Int64} (hy : 0 ≤ y) : 0 ≤ x ^^^ y ↔ 0 ≤ x := by
  have h : ∀ z : Int64, 0 ≤ z ↔ z.toBitVec.msb = false := by
    intro z
    rw [Int64.le_iff_toInt_le, BitVec.msb_eq_toInt]
    show (0 : Int) ≤ z.toBitVec.toInt ↔ _
    simp
  rw [h] at hy
  rw [h, h]
  show (x.toBitVec ^^^ y.toBitVec).msb = false ↔ _
  rw [BitVec.msb_xor, hy]
  simp
theorem zq_tdn {a b : Int} (ha : a ≤ 0) (hb : 0 ≤ b) : a.tdiv b ≤ 0 := by
  have h := Int.tdiv_nonneg (a := -a) (b := b) (by omega) hb
  rw [Int.neg_tdiv] at h
  omega
theorem zq_tmn {a : Int} (b : Int) (ha : a ≤ 0) : a.tmod b ≤ 0 := by
  have h := Int.tmod_nonneg (a := -a) b (by omega)
  rw [Int.neg_tmod] at h
  omega
theorem zq_rem {x u : Int64} (hu : 0 < u.toInt) (hu2 : u.toInt < 2 ^ 40) : (x - x / u * u).toInt = x.toInt.tmod u.toInt := by
  have hx1 := Int64.le_toInt x
  have hx2 := Int64.toInt_lt x
  have hd : (x / u).toInt = x.toInt.tdiv u.toInt := by
    rw [Int64.toInt_div]
    refine Int.bmod_eq_of_le ?_ ?_
    · have := Int.natAbs_tdiv_le_natAbs x.toInt u.toInt; omega
    · by_cases h1 : u.toInt = 1
      · rw [h1, Int.tdiv_one]; omega
      · have := Int.natAbs_tdiv_le_natAbs x.toInt u.toInt
        by_cases h0 : x.toInt < 0
        · have : x.toInt.tdiv u.toInt ≤ 0 := zq_tdn (by omega) (by omega)
          omega
        · omega
  have hm : (x / u * u).toInt = x.toInt.tdiv u.toInt * u.toInt := by
    rw [Int64.toInt_mul, hd]
    have h := Int.tmod_add_mul_tdiv x.toInt u.toInt
    have hb := tmod_bounds (a := x.toInt) hu
    have hc : u.toInt * x.toInt.tdiv u.toInt = x.toInt.tdiv u.toInt * u.toInt := Int.mul_comm _ _
    refine Int.bmod_eq_of_le ?_ ?_
    · by_cases h0 : x.toInt < 0
      · have : x.toInt.tmod u.toInt ≤ 0 := by
          have := zq_tmn (a := x.toInt) u.toInt (by omega)
          exact this
        omega
      · have : 0 ≤ x.toInt.tmod u.toInt := Int.tmod_nonneg _ (by omega)
        have : 0 ≤ x.toInt.tdiv u.toInt * u.toInt := Int.mul_nonneg (Int.tdiv_nonneg (by omega) (by omega)) (by omega)
        omega
    · by_cases h0 : x.toInt < 0
      · have : x.toInt.tdiv u.toInt * u.toInt ≤ 0 := Int.mul_nonpos_of_nonpos_of_nonneg (zq_tdn (by omega) (by omega)) (by omega)
        omega
      · have : 0 ≤ x.toInt.tmod u.toInt := Int.tmod_nonneg _ (by omega)
        omega
  rw [Int64.toInt_sub, hm]
  have h := Int.tmod_add_mul_tdiv x.toInt u.toInt
  have hb := tmod_bounds (a := x.toInt) hu
  have hc : u.toInt * x.toInt.tdiv u.toInt = x.toInt.tdiv u.toInt * u.toInt := Int.mul_comm _ _
  rw [show x.toInt - x.toInt.tdiv u.toInt * u.toInt = x.toInt.tmod u.toInt by omega]
  exact Int.bmod_eq_of_le (by omega) (by omega)
theorem zq_q0 {x u : Int64} (hu : 0 < u.toInt) (hu2 : u.toInt < 2 ^ 40) : zj_ldiv x u = zm_q0 x u := by
  have hr := zq_rem (x := x) hu hu2
  have hu0 : (0 : Int64) ≤ u := by rw [Int64.le_iff_toInt_le]; show (0 : Int) ≤ _; omega
  unfold zj_ldiv zm_q0
  by_cases h : 0 ≤ x
  · rw [if_pos ((zq_lpos hu0).mpr h), if_pos]
    rw [Int64.le_iff_toInt_le, hr]
    exact Int.tmod_nonneg _ (by rw [Int64.le_iff_toInt_le] at h; exact h)
  · rw [if_neg (fun q => h ((zq_lpos hu0).mp q))]
    have hx : x.toInt < 0 := by
      rw [Int64.le_iff_toInt_le] at h
      have : (0 : Int64).toInt = 0 := rfl
      omega
    have hn : x.toInt.tmod u.toInt ≤ 0 := zq_tmn u.toInt (by omega)
    by_cases h2 : x / u * u = x
    · rw [if_pos h2, if_pos]
      rw [h2, Int64.sub_self]; decide
    · rw [if_neg h2, if_neg]
      intro q
      rw [Int64.le_iff_toInt_le, hr] at q
      have q0 : x.toInt.tmod u.toInt = 0 := by
        have : (0 : Int64).toInt = 0 := rfl
        omega
      rw [q0] at hr
      have hz : x - x / u * u = 0 := Int64.toInt_inj.mp (by rw [hr]; rfl)
      exact h2 (by grind)
theorem zq_r0 (x u : Int64) : zm_r0 x u = x - zm_q0 x u * u := by
  unfold zm_r0 zm_q0
  by_cases h : 0 ≤ x - x / u * u
  · rw [if_pos h, if_pos h]
  · rw [if_neg h, if_neg h]; grind
theorem zq_near {x u : Int64} (hu : 0 < u.toInt) (hu2 : u.toInt < 2 ^ 40) : zb_near x u = zm_round x u := by
  unfold zb_near zb_near2 zm_round
  rw [zq_q0 hu hu2, zq_r0]
