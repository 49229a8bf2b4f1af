/-! PURE: rest. -/
theorem zs_rest {T : zm_S} {B now : Nat} (hI : zs_I T B) (du pd : Nat → Int32) (hn : zm_now T = nI now) (hb : now < 100077) (x : Int32) : zb_restC (zs_B T du pd) x = ((zm_rest T now x).1, zs_B (zm_rest T now x).2 du pd) := by
  unfold zb_restC zm_rest
  rw [zs_refuse]
  by_cases h : zm_shut T = 0
  · rw [if_pos h, if_pos h]
    by_cases h1 : x < 0
    · rw [if_pos h1, if_pos (zs_within.mpr (Or.inl h1))]
    rw [if_neg h1]
    by_cases h2 : 20000 < x
    · rw [if_pos h2, if_pos (zs_within.mpr (Or.inr h2))]
    rw [if_neg h2, if_neg (fun q => (zs_within.mp q).elim h1 h2)]
    obtain ⟨j, hj, rfl⟩ := nI_of h1
    rw [nI_clamp (by omega)]
    have hj2 : j ≤ 20000 := by
      have := mt (nI_ltI (a := 20000) (b := j) (by decide) hj).mpr h2
      omega
    unfold zm_restC
    by_cases h3 : zb_isRest (zm_R T) (nI j) = 0
    · rw [if_pos h3, if_pos (show zb_isRest (zb_R (zs_B T du pd)) (nI j) = 0 from h3)]
      have el : zb_later (zs_B T du pd) (nI j) = zm_later now j := by
        unfold zb_later zm_later
        have e0 : zb_bd (zs_B T du pd) = nI now := hn
        rw [e0]
        by_cases q : zm_mon12 j ≤ zm_mon12 now
        · rw [if_pos q, if_pos ((zq_monLe (by omega) hb).mpr q)]
        · rw [if_neg q, if_neg (fun z => q ((zq_monLe (by omega) hb).mp z))]
      rw [el]
      by_cases h4 : zm_later now j = 0
      · rw [if_pos h4, if_pos h4]
      rw [if_neg h4, if_neg h4]
      have hI0 := hI
      obtain ⟨-, -, ⟨r, hr, er⟩, -⟩ := hI
      have ez : zbR_dm (zb_R (zs_B T du pd)) = nI r := er
      by_cases h9 : r = 8
      · subst h9
        have ef : zb_full (zb_R (zs_B T du pd)) = 1 := by unfold zb_full; rw [ez]; rfl
        rw [if_pos (show zm_rst T = 8 from er), ef, if_neg (show ¬ (1 : Int32) = 0 by decide)]
      · have ef : zb_full (zb_R (zs_B T du pd)) = 0 := by unfold zb_full; rw [ez]; exact if_pos (nI_lt (b := 8) (by omega) (by decide))
        rw [if_neg (show ¬ zm_rst T = 8 from fun q => h9 ((nI_eq (a := r) (b := 8) (by omega) (by decide)).mp (er.symm.trans q))), ef, if_pos rfl]
        have htr : zb_tr (zs_B T du pd) 0 = ((zm_cm T 0 0).1, zs_B (zm_cm T 0 0).2 du pd) := zs_tr hI0 du pd (c := 0) (by decide) (by decide)
        rw [htr]
        dsimp only
        have hh : zm_rst (zm_cm T 0 0).2 = nI r := er
        generalize zm_cm T 0 0 = w at hh ⊢
        obtain ⟨v, T1⟩ := w
        dsimp only at hh ⊢
        by_cases h0 : v = 0
        · rw [if_pos h0, if_pos h0]
        · rw [if_neg h0, if_neg h0]
          refine Prod.ext rfl ?_
          have ez1 : zbR_dm (zb_R (zs_B T1 du pd)) = nI r := hh
          have ef1 : zb_full (zb_R (zs_B T1 du pd)) = 0 := by unfold zb_full; rw [ez1]; exact if_pos (nI_lt (b := 8) (by omega) (by decide))
          show zb_sR (zs_B T1 du pd) (zb_add (zb_R (zs_B T1 du pd)) (nI j)) = _
          unfold zb_add
          rw [if_pos ef1]
          rfl
    · rw [if_neg h3, if_neg (show ¬ zb_isRest (zb_R (zs_B T du pd)) (nI j) = 0 from h3)]
  · rw [if_neg h, if_neg h]
