/-! PURE: hold, release, settle. -/
theorem zs_slot_le {f : Nat → Int32} : ∀ n k, zm_slot f n k ≤ n + k := by
  intro n
  induction n with
  | zero => intro k; rw [zm_slot]; omega
  | succ n ih =>
    intro k
    rw [zm_slot]
    by_cases q : f k ≤ 0
    · rw [if_pos q]; omega
    · rw [if_neg q]; have := ih (k + 1); omega
theorem zs_amt_pos {a : Int32} (h : ¬ zm_amt a = 0) : ¬ a ≤ 0 := by
  intro q
  apply h
  unfold zm_amt
  rw [if_pos (Int32.lt_of_le_of_lt q (by decide))]
theorem zs_hold2 {T : zm_S} {B : Nat} (hI : zs_I T B) (du pd : Nat → Int32) {i : Nat} {a : Int32} (hi : i < 6) (ha : ¬ a ≤ 0) : zb_hold2 (zs_B T du pd) i a = ((zm_hold2 T (nI i) a).1, zs_B (zm_hold2 T (nI i) a).2 du pd) := by
  unfold zb_hold2 zm_hold2
  dsimp only
  have ek : zb_free (zb_hol (zs_B T du pd)) 8 0 = zm_slot (zm_ham T) 8 0 := zs_free_eq T 8 0
  rw [ek]
  have hle := zs_slot_le (f := zm_ham T) 8 0
  have hst := zs_slot_stop (f := zm_ham T) 8 0
  generalize zm_slot (zm_ham T) 8 0 = k at hle hst ⊢
  by_cases h8 : k = 8
  · subst h8
    rw [if_neg (show ¬ nI 8 < 8 by decide), if_pos (show nI 8 = 8 by decide)]
  · rw [if_pos (show nI k < 8 from nI_lt (b := 8) (by omega) (by decide)), if_neg (show ¬ nI k = 8 from fun q => h8 ((nI_eq (b := 8) (by omega) (by decide)).mp q)), zs_spend hI du pd hi]
    by_cases h5 : a.toInt64 ≤ zm_free T (nI i)
    · rw [if_pos h5, if_pos h5]
      have htr : zb_tr (zs_B T du pd) (zb_bit (some i)) = ((zm_cm T 1 ((1 : Int32) <<< (nI i &&& 31))).1, zs_B (zm_cm T 1 ((1 : Int32) <<< (nI i &&& 31))).2 du pd) := zs_tr hI du pd (c := 1) (by decide) (zs_bc1 i hi)
      rw [htr]
      have hh : zm_ham (zm_cm T 1 ((1 : Int32) <<< (nI i &&& 31))).2 = zm_ham T := rfl
      generalize zm_cm T 1 ((1 : Int32) <<< (nI i &&& 31)) = w at hh ⊢
      obtain ⟨v, T1⟩ := w
      dsimp only at hh ⊢
      by_cases h0 : v = 0
      · rw [if_pos h0, if_pos h0]
      · rw [if_neg h0, if_neg h0]
        exact Prod.ext rfl (zs_begin du pd (by omega) hi (by rw [hh]; exact hst (by omega)) ha)
    · rw [if_neg h5, if_neg h5]
theorem zs_hold {T : zm_S} {B : Nat} (hI : zs_I T B) (du pd : Nat → Int32) (x a : Int32) : zb_hold (zs_B T du pd) x a = ((zm_hold T x a).1, zs_B (zm_hold T x a).2 du pd) := by
  unfold zb_hold zm_hold
  rw [zs_refuse, zs_accOf hI, zs_amt]
  by_cases h : zm_shut T = 0
  · rw [if_pos h, if_pos h]
    by_cases h1 : zm_is T x = 0
    · rw [if_pos h1, if_pos h1]
    · rw [if_neg h1, if_neg h1]
      obtain ⟨j, hj, rfl⟩ := zm_is_nat (zs_I_m hI) h1
      rw [nI_clamp (by omega)]
      dsimp only
      by_cases h2 : zm_amt a = 0
      · rw [if_pos h2, if_pos h2]
      · rw [if_neg h2, if_neg h2]
        exact zs_hold2 hI du pd hj (zs_amt_pos h2)
  · rw [if_neg h, if_neg h]
theorem zs_stands_on {T : zm_S} {B : Nat} (hI : zs_I T B) {x : Int32} (h : ¬ zm_stands T x = 0) : x.toNatClampNeg < 8 ∧ ¬ zm_ham T x.toNatClampNeg ≤ 0 ∧ ∃ i, i < 6 ∧ zm_hof T x.toNatClampNeg = nI i := by
  unfold zm_stands at h
  by_cases h1 : x < 0
  · rw [if_pos h1] at h; exact absurd rfl h
  · rw [if_neg h1] at h
    by_cases h2 : 8 ≤ x
    · rw [if_pos h2] at h; exact absurd rfl h
    · rw [if_neg h2] at h
      by_cases h3 : zm_ham T x.toNatClampNeg ≤ 0
      · rw [if_pos h3] at h; exact absurd rfl h
      · obtain ⟨⟨n, hn, -, h5, -⟩, -⟩ := hI
        obtain ⟨hk, i, hi, ei⟩ := h5 _ h3
        exact ⟨hk, h3, i, by omega, ei⟩
theorem zs_hol_on {T : zm_S} (du pd : Nat → Int32) {k i : Nat} (hf : ¬ zm_ham T k ≤ 0) (hi : i < 6) (ei : zm_hof T k = nI i) : zb_hol (zs_B T du pd) k = some i := by
  show zs_hol T k = some i
  unfold zs_hol
  rw [if_neg hf, ei, nI_clamp (by omega)]
theorem zs_release {T : zm_S} {B : Nat} (hI : zs_I T B) (du pd : Nat → Int32) (x : Int32) : zb_release (zs_B T du pd) x = ((zm_release T x).1, zs_B (zm_release T x).2 du pd) := by
  unfold zb_release zm_release
  rw [zs_refuse, zs_stand]
  by_cases h : zm_shut T = 0
  · rw [if_pos h, if_pos h]
    by_cases h1 : zm_stands T x = 0
    · rw [if_pos h1, if_pos h1]
    · rw [if_neg h1, if_neg h1]
      dsimp only
      obtain ⟨hk, hf, i, hi, ei⟩ := zs_stands_on hI h1
      generalize x.toNatClampNeg = k at hk hf ei ⊢
      rw [zs_hol_on du pd hf hi ei, ei]
      have htr : zb_tr (zs_B T du pd) (zb_bit (some i)) = ((zm_cm T 1 ((1 : Int32) <<< (nI i &&& 31))).1, zs_B (zm_cm T 1 ((1 : Int32) <<< (nI i &&& 31))).2 du pd) := zs_tr hI du pd (c := 1) (by decide) (zs_bc1 i hi)
      rw [htr]
      have hh : zm_ham (zm_cm T 1 ((1 : Int32) <<< (nI i &&& 31))).2 = zm_ham T := rfl
      have ho : zm_hof (zm_cm T 1 ((1 : Int32) <<< (nI i &&& 31))).2 = zm_hof T := rfl
      generalize zm_cm T 1 ((1 : Int32) <<< (nI i &&& 31)) = w at hh ho ⊢
      obtain ⟨v, T1⟩ := w
      dsimp only at hh ho ⊢
      by_cases h0 : v = 0
      · rw [if_pos h0, if_pos h0]
      · rw [if_neg h0, if_neg h0]
        exact Prod.ext rfl (zs_end du pd hk hi (by rw [hh]; exact hf) (by rw [ho]; exact ei))
  · rw [if_neg h, if_neg h]
