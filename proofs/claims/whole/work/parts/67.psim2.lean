/-! PURE: missed, count, ledger, open, rest. -/
theorem zs_upto {x : Int32} {o : Nat} (ho : o < 1000) : zb_within x 0 (nI o - 1) = 0 ↔ x < 0 ∨ nI o ≤ x := by
  rw [zs_within]
  by_cases h1 : x < 0
  · exact ⟨fun _ => Or.inl h1, fun _ => Or.inl h1⟩
  · obtain ⟨j, hj, rfl⟩ := nI_of h1
    have key : nI o - 1 < nI j ↔ nI o ≤ nI j := by
      by_cases h0 : o = 0
      · subst h0
        refine ⟨fun _ => nI_le (by omega) hj, fun _ => ?_⟩
        rw [Int32.lt_iff_toInt_lt, nI_toInt hj]
        show (-1 : Int) < _
        omega
      · have e : nI o - 1 = nI (o - 1) := by
          have := nI_pred (o - 1)
          rw [show o - 1 + 1 = o by omega] at this
          exact this
        rw [e, nI_ltI (by omega) hj, nI_leI (by omega) hj]
        omega
    rw [key]
theorem zs_missed {T : zm_S} {B : Nat} (hI : zs_I T B) (du pd : Nat → Int32) (x : Int32) : zb_missed (zs_B T du pd) x = zm_missed T x := by
  obtain ⟨-, ⟨o, ho, eo⟩, -⟩ := hI
  unfold zb_missed zm_missed
  by_cases h : zm_stp T = 0
  · rw [if_pos h, if_pos (show zb_stp (zs_B T du pd) = 0 from h), show zb_o (zs_B T du pd) = nI o from eo, eo]
    by_cases h1 : x < 0
    · rw [if_pos h1, if_pos ((zs_upto (by omega)).mpr (Or.inl h1))]
    · rw [if_neg h1]
      by_cases h2 : nI o ≤ x
      · rw [if_pos h2, if_pos ((zs_upto (by omega)).mpr (Or.inr h2))]
      · rw [if_neg h2, if_neg (fun q => ((zs_upto (by omega)).mp q).elim h1 h2)]; rfl
  · rw [if_neg h, if_neg (show ¬ zb_stp (zs_B T du pd) = 0 from h)]
theorem zs_isBas {b : Int32} : zb_isBas b = 0 ↔ b < 0 ∨ 2 < b := by
  have key : 3 ≤ b ↔ 2 < b := by
    rw [Int32.le_iff_toInt_le, Int32.lt_iff_toInt_lt]
    have : (3 : Int32).toInt = 3 := rfl
    have : (2 : Int32).toInt = 2 := rfl
    omega
  unfold zb_isBas
  by_cases h1 : b < 0
  · rw [if_pos h1]; exact ⟨fun _ => Or.inl h1, fun _ => rfl⟩
  · rw [if_neg h1]
    by_cases h2 : 3 ≤ b
    · rw [if_pos h2]; exact ⟨fun _ => Or.inr (key.mp h2), fun _ => rfl⟩
    · rw [if_neg h2]; exact ⟨fun q => absurd q (by decide), fun q => absurd q (by simp [h1, ← key, h2])⟩
theorem zs_small {b : Int32} {m : Nat} {M : Int32} (hM : M = nI m) (hm : m < 2 ^ 30) (h1 : ¬ b < 0) (h2 : ¬ M < b) : ∃ c, c ≤ m ∧ b = nI c := by
  obtain ⟨j, hj, rfl⟩ := nI_of h1
  refine ⟨j, ?_, rfl⟩
  subst hM
  exact Nat.le_of_not_lt fun q => h2 (nI_lt q hj)
theorem zs_count (b x y : Int32) : zb_count b x y = zm_count b x y := by
  unfold zb_count zm_count
  by_cases h1 : b < 0
  · rw [if_pos h1, if_pos (zs_isBas.mpr (Or.inl h1))]
  · rw [if_neg h1]
    by_cases h2 : 2 < b
    · rw [if_pos h2, if_pos (zs_isBas.mpr (Or.inr h2))]
    · rw [if_neg h2, if_neg (fun q => (zs_isBas.mp q).elim h1 h2)]
      by_cases h3 : x < 0
      · rw [if_pos h3, if_pos h3]
      · rw [if_neg h3, if_neg h3]
        by_cases h4 : 99999 < y
        · rw [if_pos h4, if_neg (show ¬ y ≤ 99999 from Int32.not_le.mpr h4)]
          split <;> rfl
        · rw [if_neg h4, if_pos (show y ≤ 99999 from Int32.not_lt.mp h4)]
          by_cases h5 : x ≤ y
          · rw [if_pos h5, if_neg (Int32.not_lt.mpr h5)]
            obtain ⟨c, hc, rfl⟩ := zs_small (m := 2) rfl (by decide) h1 h2
            obtain ⟨a, ha, rfl⟩ := nI_of h3
            have hy0 : ¬ y < 0 := fun q => h3 (by rw [Int32.lt_iff_toInt_lt] at q ⊢; rw [Int32.le_iff_toInt_le] at h5; omega)
            obtain ⟨e, he, rfl⟩ := zs_small (m := 99999) rfl (by decide) hy0 h4
            have hae : a ≤ e := (nI_leI ha (by omega)).mp h5
            rw [nI_clamp ha, nI_clamp (by omega)]
            exact zq_dayCount (by omega) (by omega) (by omega)
          · rw [if_neg h5, if_pos (Int32.not_le.mp h5)]
theorem zs_sumB (T : zm_S) (du pd : Nat → Int32) (c : Int32) (k : Nat) : ∀ (i : Nat) (z : Int64), zb_sumB (zs_B T du pd) c k i z = zm_sumB T c k i z := by
  induction k with
  | zero => intro i z; rfl
  | succ k ih =>
    intro i z
    rw [zb_sumB, zm_sumB, ih]
    congr 1
    by_cases h : zm_cur T i = c
    · rw [if_pos h, if_pos (show zb_cur (zs_B T du pd) i = c from h)]; rfl
    · rw [if_neg h, if_neg (show ¬ zb_cur (zs_B T du pd) i = c from h), Int64.add_zero]
theorem zs_ledger {T : zm_S} (du pd : Nat → Int32) (c w : Int32) : zb_ledger (zs_B T du pd) c w = zm_ledger T c w := by
  unfold zb_ledger zm_ledger
  by_cases h : zm_stp T = 0
  · rw [if_pos h, if_pos (show zb_stp (zs_B T du pd) = 0 from h)]
    by_cases h1 : c < 0
    · rw [if_pos h1, if_pos (zs_within.mpr (Or.inl h1))]
    · rw [if_neg h1]
      by_cases h2 : 2 < c
      · rw [if_pos h2, if_pos (zs_within.mpr (Or.inr h2))]
      · rw [if_neg h2, if_neg (fun q => (zs_within.mp q).elim h1 h2)]
        by_cases h3 : w < 0
        · rw [if_pos h3, if_neg (fun q => by rw [q] at h3; revert h3; decide), if_neg (fun q => by rw [q] at h3; revert h3; decide), if_neg (fun q => by rw [q] at h3; revert h3; decide)]
        · rw [if_neg h3]
          by_cases h4 : w ≤ 2
          · rw [if_pos h4]
            obtain ⟨q, hq, rfl⟩ := zs_small (m := 2) rfl (by decide) h3 (Int32.not_lt.mpr h4)
            rcases (show q = 0 ∨ q = 1 ∨ q = 2 by omega) with rfl | rfl | rfl
            · rw [if_pos (show nI 0 = 0 from rfl), if_neg (show ¬ 2 ≤ nI 0 by decide), if_pos (show nI 0 = 0 from rfl)]; rfl
            · rw [if_neg (show ¬ nI 1 = 0 by decide), if_pos (show nI 1 = 1 from rfl), if_neg (show ¬ 2 ≤ nI 1 by decide), if_neg (show ¬ nI 1 = 0 by decide)]; rfl
            · rw [if_neg (show ¬ nI 2 = 0 by decide), if_neg (show ¬ nI 2 = 1 by decide), if_pos (show nI 2 = 2 from rfl), if_pos (show 2 ≤ nI 2 by decide)]
              exact zs_sumB T du pd c _ _ _
          · rw [if_neg h4, if_neg (fun q => h4 (by rw [q]; decide)), if_neg (fun q => h4 (by rw [q]; decide)), if_neg (fun q => h4 (by rw [q]; decide))]
  · rw [if_neg h, if_neg (show ¬ zb_stp (zs_B T du pd) = 0 from h)]
theorem zs_bc1 : ∀ n, n < 6 → zj_bc ((1 : Int32) <<< (nI n &&& 31)) = nI 1 := by decide +kernel
theorem zs_bc0 : zj_bc 0 = nI 0 := by decide +kernel
theorem zs_open {T : zm_S} {B : Nat} (hI : zs_I T B) (du pd : Nat → Int32) (c b l r : Int32) : zb_open (zs_B T du pd) c b l r = ((zm_open T c b l r).1, zs_B (zm_open T c b l r).2 du pd) := by
  unfold zb_open zm_open
  rw [zs_refuse]
  by_cases h : zm_shut T = 0
  · rw [if_pos h, if_pos h]
    by_cases h1 : c < 0
    · rw [if_pos h1, if_pos (zs_within.mpr (Or.inl h1))]
    rw [if_neg h1]
    by_cases h2 : 2 < c
    · rw [if_pos h2, if_pos (zs_within.mpr (Or.inr h2))]
    rw [if_neg h2, if_neg (fun q => (zs_within.mp q).elim h1 h2)]
    by_cases h3 : b < 0
    · rw [if_pos h3, if_pos (zs_isBas.mpr (Or.inl h3))]
    rw [if_neg h3]
    by_cases h4 : 2 < b
    · rw [if_pos h4, if_pos (zs_isBas.mpr (Or.inr h4))]
    rw [if_neg h4, if_neg (fun q => (zs_isBas.mp q).elim h3 h4)]
    by_cases h5 : l < 0
    · rw [if_pos h5, if_pos (zs_within.mpr (Or.inl h5))]
    rw [if_neg h5]
    by_cases h6 : 1000000 < l
    · rw [if_pos h6, if_pos (zs_within.mpr (Or.inr h6))]
    rw [if_neg h6, if_neg (fun q => (zs_within.mp q).elim h5 h6)]
    by_cases h7 : r < 0
    · rw [if_pos h7, if_pos (zs_within.mpr (Or.inl h7))]
    rw [if_neg h7]
    by_cases h8 : r ≤ 1000
    · rw [if_pos h8, if_neg (fun q => (zs_within.mp q).elim h7 (Int32.not_lt.mpr h8))]
      have hI0 := hI
      obtain ⟨⟨n, hn, en, -⟩, -⟩ := hI
      have ez : zb_n (zs_B T du pd) = nI n := en
      by_cases h9 : n = 6
      · subst h9
        rw [if_pos (show zm_acs T = 6 from en), if_neg (show ¬ zb_n (zs_B T du pd) < 6 by rw [ez]; decide)]
      · rw [if_neg (show ¬ zm_acs T = 6 from fun q => h9 ((nI_eq (a := n) (b := 6) (by omega) (by decide)).mp (en.symm.trans q))), if_pos (show zb_n (zs_B T du pd) < 6 by rw [ez]; exact nI_lt (b := 6) (by omega) (by decide))]
        unfold zb_open2 zm_open2
        dsimp only
        have e1 : (zb_n (zs_B T du pd)).toNatClampNeg = n := by rw [ez]; exact nI_clamp (by omega)
        have e2 : zb_bit (some n) = (1 : Int32) <<< (zm_acs T &&& 31) := by rw [en]; rfl
        have htr : zb_tr (zs_B T du pd) ((1 : Int32) <<< (zm_acs T &&& 31)) = ((zm_cm T 1 ((1 : Int32) <<< (zm_acs T &&& 31))).1, zs_B (zm_cm T 1 ((1 : Int32) <<< (zm_acs T &&& 31))).2 du pd) := zs_tr hI0 du pd (c := 1) (by decide) (by rw [en]; exact zs_bc1 n (by omega))
        have e4 : zm_acs (zm_cm T 1 ((1 : Int32) <<< (zm_acs T &&& 31))).2 = nI n := en
        rw [e1, e2, htr]
        generalize zm_cm T 1 ((1 : Int32) <<< (zm_acs T &&& 31)) = q at e4
        obtain ⟨v, T1⟩ := q
        dsimp only at e4 ⊢
        by_cases h10 : v = 0
        · rw [if_pos h10, if_pos h10]
        · rw [if_neg h10, if_neg h10, e4, nI_clamp (by omega)]
          refine Prod.ext ?_ ?_
          · show nI n = nI n + 1 - 1
            rw [← nI_succ, nI_pred]
          · show zb_sn _ (zb_n (zs_B T1 du pd) + 1) = zs_B (zm_sacs _ (nI n + 1)) du pd
            rw [show zb_n (zs_B T1 du pd) = nI n from e4]
            rfl
    · rw [if_neg h8, if_pos (zs_within.mpr (Or.inr (Int32.not_le.mp h8)))]
  · rw [if_neg h, if_neg h]
