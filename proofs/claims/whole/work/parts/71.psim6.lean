/-! PURE: settle, order. -/
theorem zs_settle {T : zm_S} {B : Nat} (hI : zs_I T B) (du pd : Nat → Int32) (x y a : Int32) : zb_settle (zs_B T du pd) x y a = ((zm_settle T x y a).1, zs_B (zm_settle T x y a).2 du pd) := by
  unfold zb_settle zm_settle
  rw [zs_refuse, zs_stand]
  by_cases h : zm_shut T = 0
  · rw [if_pos h, if_pos h]
    by_cases h1 : zm_stands T x = 0
    · rw [if_pos h1, if_pos h1]
    · rw [if_neg h1, if_neg h1]
      dsimp only
      obtain ⟨hk, hf, i, hi, ei⟩ := zs_stands_on hI h1
      unfold zm_settle2
      generalize x.toNatClampNeg = k at hk hf ei ⊢
      rw [zs_hol_on du pd hf hi ei, ei]
      have ew : zb_within a 1 (zb_ham (zs_B T du pd) k) = 0 ↔ a < 1 ∨ zm_ham T k < a := zs_within
      dsimp only
      unfold zb_settle2
      rw [zs_payable hI]
      by_cases h2 : zm_pair T (nI i) y = 0
      · rw [if_pos h2, if_pos h2]
        by_cases h3 : zb_within a 1 (zb_ham (zs_B T du pd) k) = 0
        · rw [if_pos h3]
        · rw [if_neg h3]
      · rw [if_neg h2, if_neg h2]
        by_cases h3 : a < 1
        · rw [if_pos h3, if_pos (ew.mpr (Or.inl h3))]
        · rw [if_neg h3]
          by_cases h4 : a ≤ zm_ham T k
          · rw [if_pos h4, if_neg (fun q => (ew.mp q).elim h3 (Int32.not_lt.mpr h4))]
            obtain ⟨hP, hQ, hne⟩ := zs_known_P hI du pd (zm_pair_known h2)
            have eP : zb_accOf (zs_B T du pd) (nI i) = some i := by
              rcases hP with ⟨ex, ep⟩ | ⟨i', hi', ex, ep⟩
              · have := nI_pos (show i < 2 ^ 31 by omega); rw [ex] at this; exact absurd (by decide) this
              · rw [ep, (nI_eq (a := i) (b := i') (by omega) (by omega)).mp ex]
            rw [eP] at hP
            obtain ⟨e1, c, hc, e2, e3⟩ := zs_bits2 hP hQ hne
            rw [e1, zs_tr hI du pd hc e3, e2]
            have hh : zm_ham (zm_cm T (nI c) (zm_sof (nI i) y)).2 = zm_ham T := rfl
            have ho : zm_hof (zm_cm T (nI c) (zm_sof (nI i) y)).2 = zm_hof T := rfl
            generalize zm_cm T (nI c) (zm_sof (nI i) y) = w at hh ho ⊢
            obtain ⟨v, T1⟩ := w
            dsimp only at hh ho ⊢
            by_cases h10 : v = 0
            · rw [if_pos h10, if_pos h10]
            · rw [if_neg h10, if_neg h10]
              refine Prod.ext rfl ?_
              show zb_transfer (zb_end (zs_B T1 du pd) k) (some i) (zb_accOf (zs_B T du pd) y) a = _
              rw [zs_end du pd hk hi (by rw [hh]; exact hf) (by rw [ho]; exact ei)]
              exact zs_transfer du pd hP hQ hne
          · rw [if_neg h4, if_pos (ew.mpr (Or.inr (Int32.not_le.mp h4)))]
  · rw [if_neg h, if_neg h]
theorem zs_order2 {T : zm_S} {B i j o : Nat} (hI : zs_I T B) (du pd : Nat → Int32) {a d : Int32} (hi : i < 6) (hj : j < 6) (ho : o < 6) (eo : zm_ors T = nI o) : zb_order2 (zs_B T du pd) i j a d = ((zm_order2 T (nI i) (nI j) a d).1, zs_B (zm_order2 T (nI i) (nI j) a d).2 du pd) := by
  unfold zb_order2 zm_order2
  dsimp only
  have htr : zb_tr (zs_B T du pd) (zb_bit (some i)) = ((zm_cm T 1 ((1 : Int32) <<< (nI i &&& 31))).1, zs_B (zm_cm T 1 ((1 : Int32) <<< (nI i &&& 31))).2 du pd) := zs_tr hI du pd (c := 1) (by decide) (zs_bc1 i hi)
  rw [htr]
  have hh : zm_ors (zm_cm T 1 ((1 : Int32) <<< (nI i &&& 31))).2 = nI o := eo
  generalize zm_cm T 1 ((1 : Int32) <<< (nI i &&& 31)) = w at hh ⊢
  obtain ⟨v, T1⟩ := w
  dsimp only at hh ⊢
  by_cases h0 : v = 0
  · rw [if_pos h0, if_pos h0]
  · rw [if_neg h0, if_neg h0]
    have e0 : zb_o (zs_B T1 du pd) = nI o := hh
    rw [e0, hh, nI_clamp (by omega)]
    have e1 : va_up (zs_pyr T1) o (some i) = zs_pyr (zm_sors (zm_sody (zm_ssum (zm_spye (zm_spyr T1 (upd (zm_pyr T1) o (nI i))) (upd (zm_pye T1) o (nI j))) (upd (zm_sum T1) o a)) (upd (zm_ody T1) o d)) (nI o + 1)) := by
      funext k
      show _ = if k < (nI o + 1).toNatClampNeg then some (upd (zm_pyr T1) o (nI i) k).toNatClampNeg else none
      rw [nI_1, nI_clamp (by omega)]
      by_cases q : k = o
      · subst q; rw [va_up_self, pk_us, if_pos (by omega), nI_clamp (by omega)]
      · rw [va_up_ne _ _ q, pk_un q]
        unfold zs_pyr
        rw [hh, nI_clamp (by omega)]
        by_cases l : k < o
        · rw [if_pos l, if_pos (by omega)]
        · rw [if_neg l, if_neg (by omega)]
    have e2 : va_up (zs_pye T1) o (some j) = zs_pye (zm_sors (zm_sody (zm_ssum (zm_spye (zm_spyr T1 (upd (zm_pyr T1) o (nI i))) (upd (zm_pye T1) o (nI j))) (upd (zm_sum T1) o a)) (upd (zm_ody T1) o d)) (nI o + 1)) := by
      funext k
      show _ = if k < (nI o + 1).toNatClampNeg then some (upd (zm_pye T1) o (nI j) k).toNatClampNeg else none
      rw [nI_1, nI_clamp (by omega)]
      by_cases q : k = o
      · subst q; rw [va_up_self, pk_us, if_pos (by omega), nI_clamp (by omega)]
      · rw [va_up_ne _ _ q, pk_un q]
        unfold zs_pye
        rw [hh, nI_clamp (by omega)]
        by_cases l : k < o
        · rw [if_pos l, if_pos (by omega)]
        · rw [if_neg l, if_neg (by omega)]
    refine Prod.ext rfl ?_
    show zb_so (zb_sody (zb_soam (zb_spye (zb_spyr (zs_B T1 du pd) (va_up (zs_pyr T1) o (some i))) (va_up (zs_pye T1) o (some j))) (upd (zm_sum T1) o a)) (upd (zm_ody T1) o d)) (nI o + 1) = _
    rw [e1, e2]
    rfl
theorem zs_order {T : zm_S} {B : Nat} (hI : zs_I T B) (du pd : Nat → Int32) (x y a d : Int32) : zb_order (zs_B T du pd) x y a d = ((zm_order T x y a d).1, zs_B (zm_order T x y a d).2 du pd) := by
  unfold zb_order zm_order
  rw [zs_refuse, zs_accOf hI, zs_accOf hI, zs_payable hI, zs_amt]
  by_cases h : zm_shut T = 0
  · rw [if_pos h, if_pos h]
    by_cases h1 : zm_is T x = 0
    · rw [if_pos h1, if_pos h1]
    rw [if_neg h1, if_neg h1]
    by_cases h2 : zm_is T y = 0
    · rw [if_pos h2, if_pos h2]
    rw [if_neg h2, if_neg h2]
    dsimp only
    by_cases h3 : zm_pair T x y = 0
    · rw [if_pos h3, if_pos h3]
    rw [if_neg h3, if_neg h3]
    by_cases h4 : zm_amt a = 0
    · rw [if_pos h4, if_pos h4]
    rw [if_neg h4, if_neg h4]
    by_cases h5 : d < 1
    · rw [if_pos h5, if_pos (zs_within.mpr (Or.inl h5))]
    rw [if_neg h5]
    by_cases h6 : d ≤ 31
    · rw [if_pos h6, if_neg (fun q => (zs_within.mp q).elim h5 (Int32.not_lt.mpr h6))]
      obtain ⟨i, hi, rfl⟩ := zm_is_nat (zs_I_m hI) h1
      obtain ⟨j, hj, rfl⟩ := zm_is_nat (zs_I_m hI) h2
      have hI0 := hI
      obtain ⟨-, ⟨o, ho, eo⟩, -⟩ := hI
      have ez : zb_o (zs_B T du pd) = nI o := eo
      by_cases h9 : o = 6
      · subst h9
        rw [if_pos (show zm_ors T = 6 from eo), if_neg (show ¬ zb_o (zs_B T du pd) < 6 by rw [ez]; decide)]
      · rw [if_neg (show ¬ zm_ors T = 6 from fun q => h9 ((nI_eq (a := o) (b := 6) (by omega) (by decide)).mp (eo.symm.trans q))), if_pos (show zb_o (zs_B T du pd) < 6 by rw [ez]; exact nI_lt (b := 6) (by omega) (by decide)), nI_clamp (by omega), nI_clamp (by omega)]
        exact zs_order2 hI0 du pd hi hj (by omega) eo
    · rw [if_neg h6, if_pos (zs_within.mpr (Or.inr (Int32.not_le.mp h6)))]
  · rw [if_neg h, if_neg h]
