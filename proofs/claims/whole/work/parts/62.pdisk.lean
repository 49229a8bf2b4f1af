/-! PURE: one write after the other (the class) against all at once (the reference). -/
theorem zp_lt_toInt {a b : Int32} : a < b ↔ a.toInt < b.toInt := Int32.lt_iff_toInt_lt
theorem zp_le_toInt {a b : Int32} : a ≤ b ↔ a.toInt ≤ b.toInt := Int32.le_iff_toInt_le
theorem zp_of_pos {x : Int32} (h : ¬ x ≤ 0) : ∃ w : Nat, w < 2 ^ 31 ∧ x = nI w ∧ 0 < w := by
  have h0 : ¬ x < 0 := fun q => h (by rw [zp_le_toInt]; rw [zp_lt_toInt] at q; omega)
  obtain ⟨j, hj, rfl⟩ := nI_of h0
  refine ⟨j, hj, rfl, ?_⟩
  refine Nat.pos_of_ne_zero fun q => h ?_
  subst q
  decide
theorem zp_many (c : Nat) : ∀ d : zb_TD, c < 2 ^ 30 → zb_wMany c d = zm_afford d (nI c) := by
  induction c with
  | zero =>
    rintro ⟨st, wm, wl, li, tr, ch⟩ _
    show (1, (st, wm, wl, li, tr, ch)) = zm_afford (st, wm, wl, li, tr, ch) (nI 0)
    have e0 : (nI 0 : Int32) = 0 := nI_0
    unfold zm_afford
    show _ = if wl < 0 then _ else if wl < nI 0 then _ else _
    rw [e0]
    by_cases h : wl < 0
    · rw [if_pos h]
      have h2 : ¬ (0 : Int32) ≤ wl := by rw [zp_le_toInt]; rw [zp_lt_toInt] at h; omega
      show _ = (1, (st, wm + 0, (if 0 ≤ wl then wl - 0 else wl), li, tr, ch))
      rw [if_neg h2, Int32.add_zero]
    · rw [if_neg h, if_neg h]
      show _ = (1, (st, wm + 0, (if 0 ≤ wl then wl - 0 else wl), li, tr, ch))
      rw [Int32.add_zero, Int32.sub_zero]
      simp
  | succ c ih =>
    rintro ⟨st, wm, wl, li, tr, ch⟩ hc
    have hcI : (nI (c + 1)).toInt = (c : Int) + 1 := by rw [nI_toInt (by omega)]; omega
    have hcI0 : (nI c).toInt = (c : Int) := nI_toInt (by omega)
    show (if (zb_wOnce (st, wm, wl, li, tr, ch)).1 = 0 then _ else zb_wMany c (zb_wOnce (st, wm, wl, li, tr, ch)).2) = _
    by_cases h0 : wl = 0
    · have e : zb_wOnce (st, wm, wl, li, tr, ch) = (0, (1, wm, wl, li, tr, ch)) := by
        unfold zb_wOnce
        exact if_pos h0
      rw [e, if_pos rfl]
      unfold zm_afford
      show _ = if wl < 0 then _ else if wl < nI (c + 1) then _ else _
      have h1 : ¬ wl < 0 := by rw [h0]; decide
      have h2 : wl < nI (c + 1) := by rw [h0, zp_lt_toInt, hcI]; show (0 : Int) < _; omega
      rw [if_neg h1, if_pos h2]
      show _ = (0, (1, wm + wl, (if 0 ≤ wl then wl - wl else wl), li, tr, ch))
      rw [h0]
      show (0, (1, wm, (0 : Int32), li, tr, ch)) = _
      rw [Int32.add_zero, if_pos (by decide), Int32.sub_self]
    · by_cases h1 : wl ≤ 0
      · have e : zb_wOnce (st, wm, wl, li, tr, ch) = (1, (st, wm + 1, wl, li, tr, ch)) := by
          unfold zb_wOnce
          show (if wl = 0 then _ else if wl ≤ 0 then _ else _) = _
          rw [if_neg h0, if_pos h1]
          rfl
        rw [e, if_neg (show ¬ (1 : Int32) = 0 by decide), ih _ (by omega)]
        have h2 : wl < 0 := by
          rw [zp_lt_toInt]; rw [zp_le_toInt] at h1
          have : wl.toInt ≠ (0 : Int32).toInt := fun q => h0 (Int32.toInt_inj.mp q)
          omega
        have h3 : ¬ (0 : Int32) ≤ wl := by rw [zp_le_toInt]; rw [zp_lt_toInt] at h2; omega
        unfold zm_afford
        show (if wl < 0 then (1, (st, wm + 1 + nI c, (if 0 ≤ wl then wl - nI c else wl), li, tr, ch)) else _) = (if wl < 0 then (1, (st, wm + nI (c + 1), (if 0 ≤ wl then wl - nI (c + 1) else wl), li, tr, ch)) else _)
        rw [if_pos h2, if_pos h2, if_neg h3, if_neg h3, nI_succ, Int32.add_assoc, Int32.add_comm 1 (nI c)]
      · obtain ⟨w, hw, rfl, hw0⟩ := zp_of_pos h1
        have e : zb_wOnce (st, wm, nI w, li, tr, ch) = (1, (st, wm + 1, nI w - 1, li, tr, ch)) := by
          unfold zb_wOnce
          show (if nI w = 0 then _ else if nI w ≤ 0 then _ else _) = _
          rw [if_neg h0, if_neg h1]
          rfl
        have e1 : nI w - 1 = nI (w - 1) := by
          have := nI_pred (w - 1)
          rw [show w - 1 + 1 = w by omega] at this
          exact this
        rw [e, if_neg (show ¬ (1 : Int32) = 0 by decide), ih _ (by omega), e1]
        have hwI : (nI w).toInt = (w : Int) := nI_toInt (by omega)
        have hwI1 : (nI (w - 1)).toInt = (w : Int) - 1 := by rw [nI_toInt (by omega)]; omega
        have a1 : ¬ nI (w - 1) < 0 := nI_pos (by omega)
        have a2 : ¬ nI w < 0 := nI_pos (by omega)
        have b1 : (0 : Int32) ≤ nI (w - 1) := nI_pos' (by omega)
        have b2 : (0 : Int32) ≤ nI w := nI_pos' (by omega)
        unfold zm_afford
        show (if nI (w - 1) < 0 then _ else if nI (w - 1) < nI c then (0, (1, wm + 1 + nI (w - 1), (if 0 ≤ nI (w - 1) then nI (w - 1) - nI (w - 1) else nI (w - 1)), li, tr, ch)) else (1, (st, wm + 1 + nI c, (if 0 ≤ nI (w - 1) then nI (w - 1) - nI c else nI (w - 1)), li, tr, ch)))
          = (if nI w < 0 then _ else if nI w < nI (c + 1) then (0, (1, wm + nI w, (if 0 ≤ nI w then nI w - nI w else nI w), li, tr, ch)) else (1, (st, wm + nI (c + 1), (if 0 ≤ nI w then nI w - nI (c + 1) else nI w), li, tr, ch)))
        rw [if_neg a1, if_neg a2, if_pos b1, if_pos b1, if_pos b2, if_pos b2]
        have ew : wm + 1 + nI (w - 1) = wm + nI w := by
          rw [Int32.add_assoc, Int32.add_comm 1, ← nI_succ, show w - 1 + 1 = w by omega]
        have ec : wm + 1 + nI c = wm + nI (c + 1) := by
          rw [Int32.add_assoc, Int32.add_comm 1, ← nI_succ]
        by_cases hlt : w < c + 1
        · rw [if_pos (nI_lt (by omega) (by omega)), if_pos (nI_lt hlt (by omega)), ew, Int32.sub_self, Int32.sub_self]
        · rw [if_neg (nI_nlt (by omega) (by omega)), if_neg (nI_nlt (by omega) (by omega)), ec, pk_sub (by omega), pk_sub (by omega), show w - 1 - c = w - (c + 1) by omega]
