/-! PURE: the plan of a step. -/
theorem zs_set_or : ∀ k, k < 6 → ∀ s, s < 64 → nI s ||| ((1 : Int32) <<< (nI k &&& 31)) = nI (s ||| 2 ^ k) := by decide +kernel
theorem zs_set_bit : ∀ k, k < 6 → ∀ s, s < 64 → ((nI s >>> (nI k &&& 31) &&& 1 = 1) ↔ s.testBit k = true) := by decide +kernel
theorem zs_pow6 {i : Nat} (h : i ≤ 6) : 2 ^ i ≤ 64 := by
  have : 2 ^ i ≤ 2 ^ 6 := Nat.pow_le_pow_right (by decide) h
  omega
def zs_F (T : zm_S) (j a k : Nat) (du pd : Int32) (b : Bool) : Prop := (du = if zm_pyr T k = nI a then zm_due (zm_R T) j (zm_ody T k) else 0) ∧ (b = true → pd = 1 ∧ zm_pyr T k = nI a) ∧ (b = false → pd = 0)
theorem zs_plan {T : zm_S} {B a j o : Nat} (hI : zs_I T B) (hj : zm_now T = nI j) (hjb : j + 64 < 100077) (ha : a < 6) (ho : o ≤ 6) (eo : zm_ors T = nI o) :
    ∀ n i du pd left s, n + i = o → s < 2 ^ i → ∃ du' pd' s', zb_plan a n i (zs_B T du pd) left = zs_B T du' pd' ∧ zm_paidL T j (nI a) n i (nI s) left = nI s' ∧ s' < 64 ∧ (∀ k, k < i → du' k = du k ∧ pd' k = pd k ∧ s'.testBit k = s.testBit k) ∧ (∀ k, i ≤ k → k < o → zs_F T j a k (du' k) (pd' k) (s'.testBit k)) := by
  intro n
  induction n with
  | zero =>
    intro i du pd left s hi hs
    have := zs_pow6 (show i ≤ 6 by omega)
    exact ⟨du, pd, s, rfl, rfl, by omega, fun k _ => ⟨rfl, rfl, rfl⟩, fun k h1 h2 => absurd h1 (by omega)⟩
  | succ n ih =>
    intro i du pd left s hi hs
    have hio : i < o := by omega
    have hs64 : s < 64 := by have := zs_pow6 (show i ≤ 6 by omega); omega
    have h2i : 2 ^ (i + 1) = 2 * 2 ^ i := by rw [Nat.pow_succ]; omega
    have hsi : s.testBit i = false := Nat.testBit_lt_two_pow hs
    have go : ∀ (due paid : Int32) (left' : Int64) (s1 : Nat), zb_planOne (zs_B T du pd) a i left = (zs_B T (upd du i due) (upd pd i paid), left') → zm_paidL T j (nI a) (n + 1) i (nI s) left = zm_paidL T j (nI a) n (i + 1) (nI s1) left' → s1 < 2 ^ (i + 1) → (∀ k, k < i → s1.testBit k = s.testBit k) → zs_F T j a i due paid (s1.testBit i) →
        ∃ du' pd' s', zb_plan a (n + 1) i (zs_B T du pd) left = zs_B T du' pd' ∧ zm_paidL T j (nI a) (n + 1) i (nI s) left = nI s' ∧ s' < 64 ∧ (∀ k, k < i → du' k = du k ∧ pd' k = pd k ∧ s'.testBit k = s.testBit k) ∧ (∀ k, i ≤ k → k < o → zs_F T j a k (du' k) (pd' k) (s'.testBit k)) := by
      intro due paid left' s1 e1 e2 h1 h2 h3
      obtain ⟨du', pd', s', g1, g2, g3, g4, g5⟩ := ih (i + 1) (upd du i due) (upd pd i paid) left' s1 (by omega) h1
      refine ⟨du', pd', s', ?_, by rw [e2, g2], g3, fun k hk => ?_, fun k hk hk2 => ?_⟩
      · rw [zb_plan, e1]; exact g1
      · obtain ⟨q1, q2, q3⟩ := g4 k (by omega)
        have ne : ¬ k = i := by omega
        exact ⟨by rw [q1, pk_un ne], by rw [q2, pk_un ne], by rw [q3, h2 k hk]⟩
      · by_cases e : k = i
        · subst e
          obtain ⟨q1, q2, q3⟩ := g4 k (by omega)
          rw [q1, q2, q3, pk_us, pk_us]
          exact h3
        · exact g5 k (by omega) hk2
    have hI0 := hI
    obtain ⟨⟨m, hm, em, -, h6⟩, -, ⟨r, hr, er⟩, -⟩ := hI
    obtain ⟨⟨p, hp, ep⟩, -, -, w, hw1, hw2, ew⟩ := h6 i (by rw [eo, nI_clamp (by omega)]; exact hio)
    have epy : zb_pyr (zs_B T du pd) i = some p := by
      show zs_pyr T i = some p
      unfold zs_pyr
      rw [eo, nI_clamp (by omega), if_pos hio, ep, nI_clamp (by omega)]
    have ebd : zb_bd (zs_B T du pd) = nI j := hj
    have edue : zm_due (zm_R T) j (zm_ody T i) = if zb_due (zb_R (zs_B T du pd)) (zb_ody (zs_B T du pd) i) (zb_bd (zs_B T du pd)) = zb_bd (zs_B T du pd) then 1 else 0 := by
      have e0 : zb_ody (zs_B T du pd) i = nI w := ew
      rw [e0, ebd, ew]
      exact zq_due er hr hjb hw1 hw2
    have one : zb_planOne (zs_B T du pd) a i left = (let due : Int32 := if zm_pyr T i = nI a then zm_due (zm_R T) j (zm_ody T i) else 0; let paid : Int32 := if due = 0 then 0 else if (zm_sum T i).toInt64 ≤ left then 1 else 0; (zs_B T (upd du i due) (upd pd i paid), if paid = 0 then left else left - (zm_sum T i).toInt64)) := by
      unfold zb_planOne
      rw [← edue, epy]
      by_cases q : p = a
      · subst q
        rw [if_pos rfl, if_pos ep]
        rfl
      · rw [if_neg (fun z => q (Option.some.inj z)), if_neg (fun z => q ((nI_eq (by omega) (by omega)).mp (ep.symm.trans z)))]
        rfl
    have bitk : ∀ k, k < i → (s ||| 2 ^ i).testBit k = s.testBit k := by
      intro k hk
      rw [Nat.testBit_or, Nat.testBit_two_pow]
      have : decide (i = k) = false := by rw [decide_eq_false_iff_not]; omega
      rw [this, Bool.or_false]
    have lt2 : s ||| 2 ^ i < 2 ^ (i + 1) := Nat.or_lt_two_pow (by omega) (Nat.pow_lt_pow_right (by decide) (by omega))
    by_cases q : zm_pyr T i = nI a
    · by_cases hd : zm_due (zm_R T) j (zm_ody T i) = 0
      · refine go 0 0 left s (by rw [one, if_pos q, hd]; rfl) ?_ (by omega) (fun k _ => rfl) ⟨by rw [if_pos q, hd], by rw [hsi]; exact fun z => absurd z (by decide), fun _ => rfl⟩
        rw [zm_paidL, if_pos q, if_pos hd]
        by_cases hl : (zm_sum T i).toInt64 ≤ left
        · rw [if_pos hl]
        · rw [if_neg hl]
      · by_cases hl : (zm_sum T i).toInt64 ≤ left
        · refine go (zm_due (zm_R T) j (zm_ody T i)) 1 (left - (zm_sum T i).toInt64) (s ||| 2 ^ i) (by rw [one, if_pos q]; dsimp only; rw [if_neg hd, if_pos hl, if_neg (show ¬ (1 : Int32) = 0 by decide)]) ?_ lt2 bitk ⟨by rw [if_pos q], fun _ => ⟨rfl, q⟩, ?_⟩
          · rw [zm_paidL, if_pos q, if_pos hl, if_neg hd, zs_set_or i (by omega) s hs64]
          · rw [Nat.testBit_or, Nat.testBit_two_pow_self, Bool.or_true]
            exact fun z => absurd z (by decide)
        · refine go (zm_due (zm_R T) j (zm_ody T i)) 0 left s (by rw [one, if_pos q]; dsimp only; rw [if_neg hd, if_neg hl, if_pos rfl]) ?_ (by omega) (fun k _ => rfl) ⟨by rw [if_pos q], by rw [hsi]; exact fun z => absurd z (by decide), fun _ => rfl⟩
          rw [zm_paidL, if_pos q, if_neg hl]
    · refine go 0 0 left s (by rw [one, if_neg q]; rfl) ?_ (by omega) (fun k _ => rfl) ⟨by rw [if_neg q], by rw [hsi]; exact fun z => absurd z (by decide), fun _ => rfl⟩
      rw [zm_paidL, if_neg q]
