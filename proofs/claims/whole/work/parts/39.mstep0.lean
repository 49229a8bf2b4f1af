/-! the reference's step and day end: pure rows -/
theorem zm_nI_ne {i : Nat} (h : i < 2 ^ 31) : ¬ nI i = -1 := fun q => nI_pos h (by rw [q]; decide)
def zm_stepB (T : zm_S) (j i : Nat) (pd : Int32) (o : Nat) (q : Int32 × Int32) : Int32 × zm_S :=
  if (zm_cm T q.1 q.2).1 = 0 then (0, (zm_cm T q.1 q.2).2)
  else (1, zm_smrk (zm_grow (zm_carry j (nI i) pd o 0 (zm_cm T q.1 q.2).2) j i) (upd (zm_mrk (zm_grow (zm_carry j (nI i) pd o 0 (zm_cm T q.1 q.2).2) j i)) i (nI j)))
theorem zm_step_eq {T : zm_S} {j i o : Nat} (h : (zm_ors T).toNatClampNeg = o) : zm_step T j i = zm_stepB T j i (zm_paid T j (nI i)) o (zm_stepSet T (zm_paid T j (nI i)) o 0 1 ((1 : Int32) <<< (nI i &&& 31))) := by
  subst h; rfl
theorem zm_steps_skip {j k i : Nat} {T : zm_S} (hk : ¬ k = 0) (h : nI j ≤ zm_mrk T i) : zm_steps j k i T = zm_steps j (k - 1) (i + 1) T := by
  obtain ⟨g, rfl⟩ : ∃ g, k = g + 1 := ⟨k - 1, by omega⟩
  rw [zm_steps, if_pos h]; rfl
theorem zm_steps_stop {j k i : Nat} {T : zm_S} (hk : ¬ k = 0) (h : ¬ nI j ≤ zm_mrk T i) (h2 : (zm_step T j i).1 = 0) : zm_steps j k i T = (0, (zm_step T j i).2) := by
  obtain ⟨g, rfl⟩ : ∃ g, k = g + 1 := ⟨k - 1, by omega⟩
  rw [zm_steps, if_neg h, if_pos h2]
theorem zm_steps_next {j k i : Nat} {T : zm_S} (hk : ¬ k = 0) (h : ¬ nI j ≤ zm_mrk T i) (h2 : ¬ (zm_step T j i).1 = 0) : zm_steps j k i T = zm_steps j (k - 1) (i + 1) (zm_step T j i).2 := by
  obtain ⟨g, rfl⟩ : ∃ g, k = g + 1 := ⟨k - 1, by omega⟩
  rw [zm_steps, if_neg h, if_neg h2]; rfl
theorem zm_steps_key (j k : Nat) : ∀ (i : Nat) (T : zm_S), zm_key (zm_steps j k i T).2 = zm_key T := by
  induction k with
  | zero => intro i T; rfl
  | succ k ih =>
    intro i T
    rw [zm_steps]
    split
    · rw [ih]
    · split
      · show zm_key (zm_step T j i).2 = _
        rw [zm_step_key]
      · rw [ih, zm_step_key]
/-- the day end: what holds goes on holding -/
theorem zm_dayEnd3_inv {T : zm_S} {j : Nat} (ej : zm_now T = nI j) (hI : zm_I T) (hO : zm_IO T) : zm_I (zm_dayEnd3 T).2 ∧ zm_IO (zm_dayEnd3 T).2 ∧ (¬ (zm_dayEnd3 T).1 = 0 → zm_now (zm_dayEnd3 T).2 = nI (j + 1)) := by
  unfold zm_dayEnd3
  by_cases h : (zm_cm T 0 0).1 = 0
  · rw [if_pos h]; exact ⟨hI, hO, fun q => absurd rfl q⟩
  · rw [if_neg h]
    refine ⟨hI, hO, fun _ => ?_⟩
    show zm_now T + 1 = _
    rw [ej, nI_succ]
theorem zm_dayEnd2_inv {T : zm_S} {j : Nat} (ej : zm_now T = nI j) (hI : zm_I T) (hO : zm_IO T) : zm_I (zm_dayEnd2 T j).2 ∧ zm_IO (zm_dayEnd2 T j).2 ∧ (¬ (zm_dayEnd2 T j).1 = 0 → zm_now (zm_dayEnd2 T j).2 = nI (j + 1)) := by
  have hk := zm_steps_key j (zm_acs T).toNatClampNeg 0 T
  unfold zm_dayEnd2
  by_cases h : (zm_steps j (zm_acs T).toNatClampNeg 0 T).1 = 0
  · rw [if_pos h]; exact ⟨zm_I_key hk hI, zm_IO_key hk hO, fun q => absurd rfl q⟩
  · rw [if_neg h]
    exact zm_dayEnd3_inv ((zm_key_now hk).trans ej) (zm_I_key hk hI) (zm_IO_key hk hO)
theorem zm_dayEnd_inv {T : zm_S} {j : Nat} (ej : zm_now T = nI j) (hI : zm_I T) (hO : zm_IO T) : zm_I (zm_dayEnd T j).2 ∧ zm_IO (zm_dayEnd T j).2 ∧ (¬ (zm_dayEnd T j).1 = 0 → zm_now (zm_dayEnd T j).2 = nI (j + 1)) := by
  unfold zm_dayEnd
  by_cases h : zm_end T = 0
  · rw [if_pos h]
    by_cases h2 : (zm_cm T 0 0).1 = 0
    · rw [if_pos h2]; exact ⟨hI, hO, fun q => absurd rfl q⟩
    · rw [if_neg h2]
      exact zm_dayEnd2_inv (T := zm_send (zm_cm T 0 0).2 1) ej hI hO
  · rw [if_neg h]; exact zm_dayEnd2_inv ej hI hO
theorem zm_days2_stop {j k : Nat} {T : zm_S} (hk : ¬ k = 0) (h2 : (zm_dayEnd T j).1 = 0) : zm_days2 j k T = (0, (zm_dayEnd T j).2) := by
  obtain ⟨g, rfl⟩ : ∃ g, k = g + 1 := ⟨k - 1, by omega⟩
  rw [zm_days2, if_pos h2]
theorem zm_days2_next {j k : Nat} {T : zm_S} (hk : ¬ k = 0) (h2 : ¬ (zm_dayEnd T j).1 = 0) : zm_days2 j k T = zm_days2 (j + 1) (k - 1) (zm_dayEnd T j).2 := by
  obtain ⟨g, rfl⟩ : ∃ g, k = g + 1 := ⟨k - 1, by omega⟩
  rw [zm_days2, if_neg h2]; rfl
theorem zm_sumB_next {T : zm_S} {c : Int32} {k i : Nat} {z : Int64} (hk : ¬ k = 0) : zm_sumB T c k i z = zm_sumB T c (k - 1) (i + 1) (z + if zm_cur T i = c then zm_mon T i else 0) := by
  obtain ⟨g, rfl⟩ : ∃ g, k = g + 1 := ⟨k - 1, by omega⟩
  rw [zm_sumB]; rfl
