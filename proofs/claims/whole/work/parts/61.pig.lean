/-! PURE: eight rest days can't fill a month. -/
theorem zp_pig (f : Nat → Int32) : ∀ (r : Nat) (vs : List Int32), vs.Nodup → (∀ v ∈ vs, ∃ i, i < r ∧ f i = v) → vs.length ≤ r := by
  intro r
  induction r with
  | zero =>
    intro vs _ h
    cases vs with
    | nil => exact Nat.le_refl _
    | cons v l => obtain ⟨i, hi, -⟩ := h v List.mem_cons_self; omega
  | succ r ih =>
    intro vs hn h
    by_cases hm : f r ∈ vs
    · have h1 := ih (vs.erase (f r)) (hn.erase _) (fun v hv => by
        rw [hn.mem_erase_iff] at hv
        obtain ⟨i, hi, he⟩ := h v hv.2
        by_cases e : i = r
        · subst e; exact absurd he.symm hv.1
        · exact ⟨i, by omega, he⟩)
      rw [List.length_erase_of_mem hm] at h1
      omega
    · have h1 := ih vs hn (fun v hv => by
        obtain ⟨i, hi, he⟩ := h v hv
        by_cases e : i = r
        · subst e; rw [he] at hm; exact absurd hv hm
        · exact ⟨i, by omega, he⟩)
      omega
/-- a date is a rest day: by its place in the week, or made -/
def zp_rest (f : Nat → Int32) (r : Nat) (x : Nat) : Prop := x % 7 = 0 ∨ x % 7 = 1 ∨ ∃ i, i < r ∧ f i = nI x
theorem zp_nI_inj {a b : Nat} (ha : a < 2 ^ 31) (hb : b < 2 ^ 31) (h : nI a = nI b) : a = b := (nI_eq ha hb).mp h
theorem zp_some_day (f : Nat → Int32) (r : Nat) (hr : r ≤ 8) (x0 : Nat) (hx : x0 < 2 ^ 30) : ∃ i, i < 28 ∧ ¬ zp_rest f r (x0 + i) := by
  refine Classical.byContradiction fun hno => ?_
  have hall : ∀ i, i < 28 → zp_rest f r (x0 + i) := fun i hi => Classical.byContradiction fun q => hno ⟨i, hi, q⟩
  obtain ⟨o, ho, hm⟩ : ∃ o, o < 7 ∧ (x0 + o) % 7 = 0 := ⟨(7 - x0 % 7) % 7, by omega, by omega⟩
  have hw : ∀ k, k < 19 → 2 ≤ k → ¬ k % 7 = 0 → ¬ k % 7 = 1 → ∃ i, i < r ∧ f i = nI (x0 + o + k) := by
    intro k h1 h2 h3 h4
    rcases hall (o + k) (by omega) with q | q | ⟨i, hi, q⟩
    · omega
    · omega
    · exact ⟨i, hi, by rw [q]; congr 1; omega⟩
  have hl := zp_pig f r ([2, 3, 4, 5, 6, 9, 10, 11, 12].map fun k => nI (x0 + o + k)) (by
      have inj : ∀ a b : Nat, a < 19 → b < 19 → nI (x0 + o + a) = nI (x0 + o + b) → a = b := by
        intro a b ha hb h
        have := zp_nI_inj (by omega) (by omega) h
        omega
      simp only [List.map_cons, List.map_nil, List.nodup_cons, List.mem_cons, List.not_mem_nil, or_false, not_or, List.nodup_nil, and_true, not_false_eq_true]
      refine ⟨⟨?_, ?_, ?_, ?_, ?_, ?_, ?_, ?_⟩, ⟨?_, ?_, ?_, ?_, ?_, ?_, ?_⟩, ⟨?_, ?_, ?_, ?_, ?_, ?_⟩, ⟨?_, ?_, ?_, ?_, ?_⟩, ⟨?_, ?_, ?_, ?_⟩, ⟨?_, ?_, ?_⟩, ⟨?_, ?_⟩, ?_⟩ <;> (intro h; have := inj _ _ (by decide) (by decide) h; omega)) (by
      intro v hv
      obtain ⟨k, hk, rfl⟩ := List.mem_map.mp hv
      simp only [List.mem_cons, List.not_mem_nil, or_false] at hk
      rcases hk with rfl | rfl | rfl | rfl | rfl | rfl | rfl | rfl | rfl <;> exact hw _ (by decide) (by decide) (by decide) (by decide))
  simp at hl
  omega
