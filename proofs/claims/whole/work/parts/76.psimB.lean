/-! PURE: the steps of a day, day end, run. -/
def zs_E (T : zm_S) : Prop := zm_end T = 0 ∨ zm_end T = 1
theorem zs_I_mono {T : zm_S} {B B' : Nat} (h : zs_I T B) (hb : B ≤ B') : zs_I T B' := by
  obtain ⟨a1, a2, a3, a4, a5, a6, ⟨j, hj, ej⟩, a8⟩ := h
  exact ⟨a1, a2, a3, a4, a5, a6, ⟨j, by omega, ej⟩, a8⟩
theorem zs_end_step (T : zm_S) (j i : Nat) : zm_end (zm_step T j i).2 = zm_end T := by
  unfold zm_step
  dsimp only
  generalize zm_stepSet T (zm_paid T j (nI i)) (zm_ors T).toNatClampNeg 0 1 ((1 : Int32) <<< (nI i &&& 31)) = q
  have f : zm_end (zm_cm T q.1 q.2).2 = zm_end T := rfl
  generalize zm_cm T q.1 q.2 = w at f ⊢
  generalize zm_paid T j (nI i) = p
  generalize (zm_ors T).toNatClampNeg = n
  split
  · exact f
  · have k := zs_K_trans (zs_K_carry j (nI i) p n 0 w.2) (zs_K_grow _ j i)
    have := k.2.2.2.2.2.2.2.2.2.2.2.2
    exact this.trans f
theorem zs_steps {B j : Nat} (hjb : j + 64 < 100077) : ∀ n i T du pd, i + n ≤ 6 → zs_I T B → zm_now T = nI j →
    ∃ du' pd', zb_steps n i (zs_B T du pd) = ((zm_steps j n i T).1, zs_B (zm_steps j n i T).2 du' pd') ∧ zs_I (zm_steps j n i T).2 B ∧ zm_now (zm_steps j n i T).2 = nI j ∧ zm_end (zm_steps j n i T).2 = zm_end T := by
  intro n
  induction n with
  | zero => intro i T du pd _ hI hj; exact ⟨du, pd, rfl, hI, hj, rfl⟩
  | succ n ih =>
    intro i T du pd hi hI hj
    rw [zb_steps, zm_steps]
    have e0 : zb_bd (zs_B T du pd) = nI j := hj
    rw [e0]
    by_cases h : nI j ≤ zm_mrk T i
    · rw [if_pos h, if_pos (show nI j ≤ zb_mrk (zs_B T du pd) i from h)]
      exact ih (i + 1) T du pd (by omega) hI hj
    · rw [if_neg h, if_neg (show ¬ nI j ≤ zb_mrk (zs_B T du pd) i from h)]
      obtain ⟨du', pd', e1, hI1, hj1, -⟩ := zs_step hI hj hjb (show i < 6 by omega) du pd
      have f := zs_end_step T j i
      rw [e1]
      generalize zm_step T j i = w at hI1 hj1 f ⊢
      obtain ⟨v, T1⟩ := w
      dsimp only at hI1 hj1 f ⊢
      by_cases h0 : v = 0
      · rw [if_pos h0, if_pos h0]
        exact ⟨du', pd', rfl, hI1, hj1, f⟩
      · rw [if_neg h0, if_neg h0]
        obtain ⟨du2, pd2, g1, g2, g3, g4⟩ := ih (i + 1) T1 du' pd' (by omega) hI1 hj1
        exact ⟨du2, pd2, g1, g2, g3, g4.trans f⟩
theorem zs_tr0 {T : zm_S} {B : Nat} (hI : zs_I T B) (du pd : Nat → Int32) : zb_tr (zs_B T du pd) 0 = ((zm_cm T 0 0).1, zs_B (zm_cm T 0 0).2 du pd) := zs_tr hI du pd (c := 0) (by decide) (by decide)
theorem zs_dayEnd3 {T : zm_S} {B j : Nat} (hI : zs_I T B) (hj : zm_now T = nI j) (hjB : j ≤ B) (hE : zs_E T) (du pd : Nat → Int32) :
    zb_dayEnd3 (zs_B T du pd) = ((zm_dayEnd3 T).1, zs_B (zm_dayEnd3 T).2 du pd) ∧ zs_I (zm_dayEnd3 T).2 (B + 1) ∧ zs_E (zm_dayEnd3 T).2 ∧ (¬ (zm_dayEnd3 T).1 = 0 → zm_now (zm_dayEnd3 T).2 = nI (j + 1)) := by
  unfold zb_dayEnd3 zm_dayEnd3
  rw [zs_tr0 hI]
  have hI1 : zs_I (zm_cm T 0 0).2 B := zs_I_cm hI zs_W_0
  have f1 : zm_now (zm_cm T 0 0).2 = nI j := hj
  have f2 : zs_E (zm_cm T 0 0).2 := hE
  generalize zm_cm T 0 0 = w at hI1 f1 f2 ⊢
  obtain ⟨v, T1⟩ := w
  dsimp only at hI1 f1 f2 ⊢
  by_cases h0 : v = 0
  · rw [if_pos h0, if_pos h0]
    exact ⟨rfl, zs_I_mono hI1 (by omega), f2, fun z => absurd rfl z⟩
  · rw [if_neg h0, if_neg h0]
    have e1 : zm_now T1 + 1 = nI (j + 1) := by rw [f1, nI_1]
    refine ⟨rfl, ?_, Or.inl rfl, fun _ => e1⟩
    obtain ⟨a1, a2, a3, a4, a5, a6, -, a8⟩ := hI1
    exact ⟨a1, a2, a3, a4, a5, a6, ⟨j + 1, by omega, e1⟩, a8⟩
theorem zs_dayEnd2 {T : zm_S} {S : zb_S} {B j : Nat} (hI : zs_I T B) (hj : zm_now T = nI j) (hjB : j ≤ B) (hjb : j + 64 < 100077) (hE : zm_end T = 1) (du pd : Nat → Int32) (hS : zb_sde S 1 = zs_B T du pd) (hn : zb_n S = zm_acs T) :
    ∃ du' pd', zb_dayEnd2 S = ((zm_dayEnd2 T j).1, zs_B (zm_dayEnd2 T j).2 du' pd') ∧ zs_I (zm_dayEnd2 T j).2 (B + 1) ∧ zs_E (zm_dayEnd2 T j).2 ∧ (¬ (zm_dayEnd2 T j).1 = 0 → zm_now (zm_dayEnd2 T j).2 = nI (j + 1)) := by
  unfold zb_dayEnd2 zm_dayEnd2
  obtain ⟨⟨m, hm, em, -⟩, -⟩ := id hI
  rw [hS, hn, em, nI_clamp (by omega)]
  obtain ⟨du', pd', e1, hI1, hj1, f⟩ := zs_steps hjb m 0 T du pd (by omega) hI hj
  rw [e1]
  generalize zm_steps j m 0 T = w at hI1 hj1 f ⊢
  obtain ⟨v, T1⟩ := w
  dsimp only at hI1 hj1 f ⊢
  have hE1 : zs_E T1 := Or.inr (f.trans hE)
  by_cases h0 : v = 0
  · rw [if_pos h0, if_pos h0]
    exact ⟨du', pd', rfl, zs_I_mono hI1 (by omega), hE1, fun z => absurd rfl z⟩
  · rw [if_neg h0, if_neg h0]
    exact ⟨du', pd', zs_dayEnd3 hI1 hj1 hjB hE1 du' pd'⟩
theorem zs_dayEnd {T : zm_S} {B j : Nat} (hI : zs_I T B) (hj : zm_now T = nI j) (hjB : j ≤ B) (hjb : j + 64 < 100077) (hE : zs_E T) (du pd : Nat → Int32) :
    ∃ du' pd', zb_dayEnd (zs_B T du pd) = ((zm_dayEnd T j).1, zs_B (zm_dayEnd T j).2 du' pd') ∧ zs_I (zm_dayEnd T j).2 (B + 1) ∧ zs_E (zm_dayEnd T j).2 ∧ (¬ (zm_dayEnd T j).1 = 0 → zm_now (zm_dayEnd T j).2 = nI (j + 1)) := by
  unfold zb_dayEnd zm_dayEnd
  by_cases h : zm_end T = 0
  · rw [if_pos h, if_pos (show zb_de (zs_B T du pd) = 0 from h), zs_tr0 hI]
    have hI1 : zs_I (zm_cm T 0 0).2 B := zs_I_cm hI zs_W_0
    have f1 : zm_now (zm_cm T 0 0).2 = nI j := hj
    have f2 : zs_E (zm_cm T 0 0).2 := hE
    generalize zm_cm T 0 0 = w at hI1 f1 f2 ⊢
    obtain ⟨v, T1⟩ := w
    dsimp only at hI1 f1 f2 ⊢
    by_cases h0 : v = 0
    · rw [if_pos h0, if_pos h0]
      exact ⟨du, pd, rfl, zs_I_mono hI1 (by omega), f2, fun z => absurd rfl z⟩
    · rw [if_neg h0, if_neg h0]
      exact zs_dayEnd2 (T := zm_send T1 1) hI1 f1 hjB hjb rfl du pd rfl rfl
  · rw [if_neg h, if_neg (show ¬ zb_de (zs_B T du pd) = 0 from h)]
    have h1 : zm_end T = 1 := hE.resolve_left h
    have e : zb_sde (zs_B T du pd) 1 = zs_B T du pd := by
      have : zb_de (zs_B T du pd) = 1 := h1
      generalize zs_B T du pd = S at this ⊢
      rw [← this]
      rfl
    exact zs_dayEnd2 hI hj hjB hjb h1 du pd e rfl
theorem zs_days : ∀ k j B T du pd, zs_I T B → zm_now T = nI j → j ≤ B → j + k + 64 < 100077 → zs_E T →
    ∃ du' pd', zb_days k (zs_B T du pd) = ((zm_days2 j k T).1, zs_B (zm_days2 j k T).2 du' pd') ∧ zs_I (zm_days2 j k T).2 (B + k) ∧ zs_E (zm_days2 j k T).2 := by
  intro k
  induction k with
  | zero => intro j B T du pd hI _ _ _ hE; exact ⟨du, pd, rfl, hI, hE⟩
  | succ k ih =>
    intro j B T du pd hI hj hjB hjb hE
    rw [zb_days, zm_days2]
    obtain ⟨du', pd', e1, hI1, hE1, hj1⟩ := zs_dayEnd hI hj hjB (by omega) hE du pd
    rw [e1]
    generalize zm_dayEnd T j = w at hI1 hE1 hj1 ⊢
    obtain ⟨v, T1⟩ := w
    dsimp only at hI1 hE1 hj1 ⊢
    by_cases h0 : v = 0
    · rw [if_pos h0, if_pos h0]
      exact ⟨du', pd', rfl, zs_I_mono hI1 (by omega), hE1⟩
    · rw [if_neg h0, if_neg h0]
      obtain ⟨du2, pd2, g1, g2, g3⟩ := ih (j + 1) (B + 1) T1 du' pd' hI1 (hj1 h0) (by omega) (by omega) hE1
      exact ⟨du2, pd2, g1, zs_I_mono g2 (by omega), g3⟩
theorem zs_run {T : zm_S} {B j : Nat} (hI : zs_I T B) (hj : zm_now T = nI j) (hjB : j ≤ B) (hjb : j + 95 < 100077) (hE : zs_E T) (du pd : Nat → Int32) (n : Int32) :
    ∃ du' pd', zb_run (zs_B T du pd) n = ((zm_run T j n).1, zs_B (zm_run T j n).2 du' pd') ∧ zs_I (zm_run T j n).2 (B + 31) ∧ zs_E (zm_run T j n).2 := by
  unfold zb_run zm_run
  by_cases h : zm_stp T = 0
  · rw [if_pos h, if_pos (show zb_stp (zs_B T du pd) = 0 from h)]
    by_cases h1 : n < 1
    · rw [if_pos h1, if_pos (zs_within.mpr (Or.inl h1))]
      exact ⟨du, pd, rfl, zs_I_mono hI (by omega), hE⟩
    rw [if_neg h1]
    by_cases h2 : n ≤ 31
    · rw [if_pos h2, if_neg (fun q => (zs_within.mp q).elim h1 (Int32.not_lt.mpr h2))]
      have hn : n.toNatClampNeg ≤ 31 := by
        have := zp_le_toInt.mp h2
        have e : (31 : Int32).toInt = 31 := by decide
        unfold Int32.toNatClampNeg
        omega
      generalize n.toNatClampNeg = k at hn ⊢
      obtain ⟨du', pd', e1, hI1, hE1⟩ := zs_days k j B T du pd hI hj hjB (by omega) hE
      rw [e1]
      generalize zm_days2 j k T = w at hI1 hE1 ⊢
      obtain ⟨v, T1⟩ := w
      dsimp only at hI1 hE1 ⊢
      by_cases h0 : v = 0
      · rw [if_pos h0, if_pos h0]
        exact ⟨du', pd', rfl, zs_I_mono hI1 (by omega), hE1⟩
      · rw [if_neg h0, if_neg h0]
        exact ⟨du', pd', rfl, zs_I_mono hI1 (by omega), hE1⟩
    · rw [if_neg h2, if_pos (zs_within.mpr (Or.inr (Int32.not_le.mp h2)))]
      exact ⟨du, pd, rfl, zs_I_mono hI (by omega), hE⟩
  · rw [if_neg h, if_neg (show ¬ zb_stp (zs_B T du pd) = 0 from h)]
    exact ⟨du, pd, rfl, zs_I_mono hI (by omega), hE⟩
