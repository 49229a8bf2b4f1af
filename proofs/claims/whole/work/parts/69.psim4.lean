/-! PURE: holds. -/
theorem zs_sum8_upd (f g : Nat → Int64) {k : Nat} (hk : k < 8) (h : ∀ j, j < 8 → ¬ j = k → g j = f j) : zs_sum8 g = zs_sum8 f + (g k - f k) := by
  unfold zs_sum8
  rcases (show k = 0 ∨ k = 1 ∨ k = 2 ∨ k = 3 ∨ k = 4 ∨ k = 5 ∨ k = 6 ∨ k = 7 by omega) with rfl | rfl | rfl | rfl | rfl | rfl | rfl | rfl
  · rw [h 1 (by decide) (by decide), h 2 (by decide) (by decide), h 3 (by decide) (by decide), h 4 (by decide) (by decide), h 5 (by decide) (by decide), h 6 (by decide) (by decide), h 7 (by decide) (by decide)]; grind
  · rw [h 0 (by decide) (by decide), h 2 (by decide) (by decide), h 3 (by decide) (by decide), h 4 (by decide) (by decide), h 5 (by decide) (by decide), h 6 (by decide) (by decide), h 7 (by decide) (by decide)]; grind
  · rw [h 0 (by decide) (by decide), h 1 (by decide) (by decide), h 3 (by decide) (by decide), h 4 (by decide) (by decide), h 5 (by decide) (by decide), h 6 (by decide) (by decide), h 7 (by decide) (by decide)]; grind
  · rw [h 0 (by decide) (by decide), h 1 (by decide) (by decide), h 2 (by decide) (by decide), h 4 (by decide) (by decide), h 5 (by decide) (by decide), h 6 (by decide) (by decide), h 7 (by decide) (by decide)]; grind
  · rw [h 0 (by decide) (by decide), h 1 (by decide) (by decide), h 2 (by decide) (by decide), h 3 (by decide) (by decide), h 5 (by decide) (by decide), h 6 (by decide) (by decide), h 7 (by decide) (by decide)]; grind
  · rw [h 0 (by decide) (by decide), h 1 (by decide) (by decide), h 2 (by decide) (by decide), h 3 (by decide) (by decide), h 4 (by decide) (by decide), h 6 (by decide) (by decide), h 7 (by decide) (by decide)]; grind
  · rw [h 0 (by decide) (by decide), h 1 (by decide) (by decide), h 2 (by decide) (by decide), h 3 (by decide) (by decide), h 4 (by decide) (by decide), h 5 (by decide) (by decide), h 7 (by decide) (by decide)]; grind
  · rw [h 0 (by decide) (by decide), h 1 (by decide) (by decide), h 2 (by decide) (by decide), h 3 (by decide) (by decide), h 4 (by decide) (by decide), h 5 (by decide) (by decide), h 6 (by decide) (by decide)]; grind
theorem zs_hel_upd {T T' : zm_S} {k : Nat} (hk : k < 8) (h : ∀ j, ¬ j = k → zm_ham T' j = zm_ham T j ∧ zm_hof T' j = zm_hof T j) {i : Nat} (hi : i < 6) : zs_hel T' i = zs_hel T i + (zm_held1 T' (nI i) k - zm_held1 T (nI i) k) := by
  unfold zs_hel
  rw [if_pos hi, if_pos hi]
  refine zs_sum8_upd _ _ hk (fun j _ hj => ?_)
  unfold zm_held1
  rw [(h j hj).1, (h j hj).2]
theorem zs_free_eq (T : zm_S) (n : Nat) : ∀ k, zb_free (zs_hol T) n k = zm_slot (zm_ham T) n k := by
  induction n with
  | zero => intro k; rfl
  | succ n ih =>
    intro k
    rw [zb_free, zm_slot]
    unfold zs_hol
    by_cases h : zm_ham T k ≤ 0
    · rw [if_pos h, if_pos h]
    · rw [if_neg h, if_neg h]; exact ih (k + 1)
theorem zs_slot_stop {f : Nat → Int32} : ∀ n k, zm_slot f n k < n + k → f (zm_slot f n k) ≤ 0 := by
  intro n
  induction n with
  | zero => intro k h; rw [zm_slot] at h; omega
  | succ n ih =>
    intro k h
    rw [zm_slot] at h ⊢
    by_cases q : f k ≤ 0
    · rw [if_pos q]; exact q
    · rw [if_neg q] at h ⊢; exact ih (k + 1) (by omega)
/-- a hold begins -/
theorem zs_begin {T : zm_S} (du pd : Nat → Int32) {k i : Nat} {a : Int32} (hk : k < 8) (hi : i < 6) (hf : zm_ham T k ≤ 0) (ha : ¬ a ≤ 0) :
    zb_begin (zs_B T du pd) k i a = zs_B (zm_sham (zm_shof T (upd (zm_hof T) k (nI i))) (upd (zm_ham T) k a)) du pd := by
  have e1 : va_up (zs_hol T) k (some i) = zs_hol (zm_sham (zm_shof T (upd (zm_hof T) k (nI i))) (upd (zm_ham T) k a)) := by
    funext j
    show _ = (if upd (zm_ham T) k a j ≤ 0 then none else some (upd (zm_hof T) k (nI i) j).toNatClampNeg)
    by_cases q : j = k
    · subst q; rw [va_up_self, pk_us, pk_us, if_neg ha, nI_clamp (by omega)]
    · rw [va_up_ne _ _ q, pk_un q, pk_un q]; rfl
  have e2 : vp_updL (zs_hel T) i (zs_hel T i + a.toInt64) = zs_hel (zm_sham (zm_shof T (upd (zm_hof T) k (nI i))) (upd (zm_ham T) k a)) := by
    funext i'
    by_cases h6 : i' < 6
    · rw [zs_hel_upd (T := T) (T' := zm_sham (zm_shof T (upd (zm_hof T) k (nI i))) (upd (zm_ham T) k a)) hk (fun j hj => ⟨pk_un hj, pk_un hj⟩) h6]
      have z : zm_held1 T (nI i') k = 0 := by unfold zm_held1; rw [if_pos hf]
      have z2 : zm_held1 (zm_sham (zm_shof T (upd (zm_hof T) k (nI i))) (upd (zm_ham T) k a)) (nI i') k = if nI i = nI i' then a.toInt64 else 0 := by
        show (if upd (zm_ham T) k a k ≤ 0 then 0 else if upd (zm_hof T) k (nI i) k = nI i' then (upd (zm_ham T) k a k).toInt64 else 0) = _
        rw [pk_us, pk_us, if_neg ha]
      rw [z, z2]
      by_cases q : i' = i
      · subst q; rw [pk_uLs, if_pos rfl, Int64.sub_zero]
      · rw [pk_uLn q, if_neg (fun z => q ((nI_eq (by omega) (by omega)).mp z).symm), Int64.sub_zero, Int64.add_zero]
    · have q : ¬ i' = i := by omega
      rw [pk_uLn q]
      unfold zs_hel
      rw [if_neg h6, if_neg h6]
  show zb_shel (zb_sham (zb_shol (zs_B T du pd) (va_up (zs_hol T) k (some i))) (upd (zm_ham T) k a)) (vp_updL (zs_hel T) i (zs_hel T i + a.toInt64)) = _
  rw [e1, e2]
  rfl
/-- a hold ends -/
theorem zs_end {T : zm_S} (du pd : Nat → Int32) {k i : Nat} (hk : k < 8) (hi : i < 6) (hf : ¬ zm_ham T k ≤ 0) (ho : zm_hof T k = nI i) :
    zb_end (zs_B T du pd) k = zs_B (zm_sham T (upd (zm_ham T) k 0)) du pd := by
  have e0 : zb_hol (zs_B T du pd) k = some i := by
    show zs_hol T k = some i
    unfold zs_hol
    rw [if_neg hf, ho, nI_clamp (by omega)]
  have e1 : va_up (zs_hol T) k none = zs_hol (zm_sham T (upd (zm_ham T) k 0)) := by
    funext j
    show _ = (if upd (zm_ham T) k 0 j ≤ 0 then none else some (zm_hof T j).toNatClampNeg)
    by_cases q : j = k
    · subst q; rw [va_up_self, pk_us, if_pos (by decide)]
    · rw [va_up_ne _ _ q, pk_un q]; rfl
  have e2 : vp_updL (zs_hel T) i (zs_hel T i - (zm_ham T k).toInt64) = zs_hel (zm_sham T (upd (zm_ham T) k 0)) := by
    funext i'
    by_cases h6 : i' < 6
    · rw [zs_hel_upd (T := T) (T' := zm_sham T (upd (zm_ham T) k 0)) hk (fun j hj => ⟨pk_un hj, rfl⟩) h6]
      have z : zm_held1 (zm_sham T (upd (zm_ham T) k 0)) (nI i') k = 0 := by
        show (if upd (zm_ham T) k 0 k ≤ 0 then 0 else _) = _
        rw [pk_us, if_pos (by decide)]
      have z2 : zm_held1 T (nI i') k = if nI i = nI i' then (zm_ham T k).toInt64 else 0 := by
        unfold zm_held1
        rw [if_neg hf, ho]
      rw [z, z2]
      by_cases q : i' = i
      · subst q; rw [pk_uLs, if_pos rfl]; grind
      · rw [pk_uLn q, if_neg (fun z => q ((nI_eq (by omega) (by omega)).mp z).symm), Int64.sub_zero, Int64.add_zero]
    · have q : ¬ i' = i := by omega
      rw [pk_uLn q]
      unfold zs_hel
      rw [if_neg h6, if_neg h6]
  unfold zb_end
  rw [e0]
  show zb_sham (zb_shol (zb_shel (zs_B T du pd) (vp_updL (zs_hel T) i (zs_hel T i - (zm_ham T k).toInt64))) (va_up (zs_hol T) k none)) (upd (zm_ham T) k 0) = _
  rw [e1, e2]
  rfl
theorem zs_stand (T : zm_S) (du pd : Nat → Int32) (x : Int32) : zb_stand (zs_B T du pd) x = if zm_stands T x = 0 then none else some x.toNatClampNeg := by
  unfold zb_stand zm_stands
  by_cases h1 : x < 0
  · rw [if_pos h1, if_pos rfl, if_pos (zs_within.mpr (Or.inl h1))]
  · rw [if_neg h1]
    obtain ⟨j, hj, rfl⟩ := nI_of h1
    by_cases h2 : 8 ≤ nI j
    · rw [if_pos h2, if_pos rfl, if_pos (show zb_within (nI j) 0 7 = 0 from zs_within.mpr (Or.inr (nI_lt (a := 7) (by have := (nI_leI (a := 8) (b := j) (by decide) hj).mp h2; omega) hj)))]
    · have h7 : ¬ zb_within (nI j) 0 7 = 0 := fun q => (zs_within.mp q).elim h1 (fun z => h2 (nI_le (a := 8) (by have := (nI_ltI (a := 7) (b := j) (by decide) hj).mp z; omega) hj))
      rw [if_neg h2, if_neg h7]
      show (match zs_hol T (nI j).toNatClampNeg with | none => none | some _ => some (nI j).toNatClampNeg) = _
      unfold zs_hol
      by_cases h3 : zm_ham T (nI j).toNatClampNeg ≤ 0
      · rw [if_pos h3, if_pos h3, if_pos rfl]
      · rw [if_neg h3, if_neg h3, if_neg (show ¬ (1 : Int32) = 0 by decide)]
