/-! PURE: the class's state out of the reference's, and the calls one by one. -/
def zs_hol (T : zm_S) (k : Nat) : Option Nat := if zm_ham T k ≤ 0 then none else some (zm_hof T k).toNatClampNeg
def zs_pyr (T : zm_S) (k : Nat) : Option Nat := if k < (zm_ors T).toNatClampNeg then some (zm_pyr T k).toNatClampNeg else none
def zs_pye (T : zm_S) (k : Nat) : Option Nat := if k < (zm_ors T).toNatClampNeg then some (zm_pye T k).toNatClampNeg else none
def zs_sum8 (f : Nat → Int64) : Int64 := f 0 + f 1 + f 2 + f 3 + f 4 + f 5 + f 6 + f 7
def zs_hel (T : zm_S) (i : Nat) : Int64 := if i < 6 then zs_sum8 (zm_held1 T (nI i)) else 0
def zs_B (T : zm_S) (du pd : Nat → Int32) : zb_S :=
  ((zm_cur T, zm_bas T, zm_lim T, zm_rat T, zm_mon T, zs_hel T, zm_acr T, zm_mrk T), (zs_hol T, zm_ham T), (zs_pyr T, zs_pye T, zm_sum T, zm_ody T, zm_mis T, du, pd), zm_R T, zm_D T, zm_L T)
/-- what holds between calls; B bounds the date -/
def zs_I (T : zm_S) (B : Nat) : Prop :=
  (∃ n, n ≤ 6 ∧ zm_acs T = nI n ∧ (∀ k, ¬ zm_ham T k ≤ 0 → k < 8 ∧ ∃ i, i < n ∧ zm_hof T k = nI i) ∧ (∀ k, k < (zm_ors T).toNatClampNeg → (∃ i, i < n ∧ zm_pyr T k = nI i) ∧ (∃ i, i < n ∧ zm_pye T k = nI i) ∧ ¬ zm_pyr T k = zm_pye T k ∧ ∃ d, 1 ≤ d ∧ d ≤ 31 ∧ zm_ody T k = nI d)) ∧
  (∃ o, o ≤ 6 ∧ zm_ors T = nI o) ∧ (∃ r, r ≤ 8 ∧ zm_rst T = nI r) ∧ (∀ i, ∃ c, c < 3 ∧ zm_cur T i = nI c) ∧ (∀ i, ∃ c, c < 3 ∧ zm_bas T i = nI c) ∧
  (∀ k, (∃ i, i < 6 ∧ zm_pyr T k = nI i) ∧ (∃ i, i < 6 ∧ zm_pye T k = nI i)) ∧ (∃ j, j ≤ B ∧ zm_now T = nI j) ∧ (∃ t, t < 64 ∧ zm_tch T = nI t)
theorem zs_I_m {T : zm_S} {B : Nat} (h : zs_I T B) : zm_I T := by
  obtain ⟨⟨n, h1, h2, -⟩, h3, h4, h5, -⟩ := h
  exact ⟨⟨n, h1, h2⟩, h3, h4, h5⟩
theorem zs_I_o {T : zm_S} {B : Nat} (h : zs_I T B) : zm_IO T := by
  obtain ⟨⟨n, h1, h2, -, h6⟩, -, -, -, -, h7, -⟩ := h
  exact fun k => ⟨(h7 k).1, (h7 k).2, fun q => (h6 k q).2.2.1⟩
theorem zs_I_b {T : zm_S} {B : Nat} (h : zs_I T B) (du pd : Nat → Int32) : zb_I (zs_B T du pd) := by
  obtain ⟨⟨n, h1, h2, h5, h6⟩, h3, h4, h7, h8, h9, -⟩ := h
  refine ⟨⟨n, h1, h2⟩, h3, h4, h7, fun k j e => ?_, fun k j e => ?_, fun k j e => ?_⟩
  · have e : zs_hol T k = some j := e
    unfold zs_hol at e
    by_cases q : zm_ham T k ≤ 0
    · rw [if_pos q] at e; cases e
    · rw [if_neg q] at e
      obtain ⟨-, i, hi, ei⟩ := h5 k q
      rw [ei, nI_clamp (by omega)] at e
      have := Option.some.inj e
      omega
  · have e : zs_pyr T k = some j := e
    unfold zs_pyr at e
    by_cases q : k < (zm_ors T).toNatClampNeg
    · rw [if_pos q] at e
      obtain ⟨⟨i, hi, ei⟩, -, -, hd⟩ := h6 k q
      rw [ei, nI_clamp (by omega)] at e
      have := Option.some.inj e
      exact ⟨by omega, hd⟩
    · rw [if_neg q] at e; cases e
  · have e : zs_pye T k = some j := e
    unfold zs_pye at e
    by_cases q : k < (zm_ors T).toNatClampNeg
    · rw [if_pos q] at e
      obtain ⟨-, ⟨i, hi, ei⟩, -⟩ := h6 k q
      rw [ei, nI_clamp (by omega)] at e
      have := Option.some.inj e
      omega
    · rw [if_neg q] at e; cases e
/-- a transaction -/
theorem zs_tr {T : zm_S} {B c : Nat} {chg : Int32} (hI : zs_I T B) (du pd : Nat → Int32) (hc : c < 99) (hb : zj_bc chg = nI c) : zb_tr (zs_B T du pd) chg = ((zm_cm T (nI c) chg).1, zs_B (zm_cm T (nI c) chg).2 du pd) := by
  obtain ⟨t, ht, et⟩ := hI.2.2.2.2.2.2.2
  have e : zb_trans (zb_D (zs_B T du pd)) chg = zm_comes (zm_D T) (nI c) chg := by
    unfold zb_trans
    rw [hb, show nI c + 1 = nI (c + 1) from nI_1 c]
    exact zq_lines (by omega) et ht
  unfold zb_tr zm_cm
  rw [e]
  rfl
theorem zs_refuse (T : zm_S) (du pd : Nat → Int32) : zb_refuse (zs_B T du pd) = zm_shut T := rfl
theorem zs_accOf {T : zm_S} {B : Nat} (hI : zs_I T B) (du pd : Nat → Int32) (x : Int32) : zb_accOf (zs_B T du pd) x = if zm_is T x = 0 then none else some x.toNatClampNeg := by
  obtain ⟨⟨n, hn, en, -⟩, -⟩ := hI
  unfold zb_accOf zm_is zb_within
  have e : zb_n (zs_B T du pd) = nI n := en
  rw [e, en]
  by_cases h1 : x < 0
  · rw [if_pos h1, if_pos h1, if_pos rfl]
  · rw [if_neg h1, if_neg h1]
    obtain ⟨j, hj, rfl⟩ := nI_of h1
    by_cases h2 : n ≤ j
    · rw [if_pos (nI_le h2 hj), if_pos rfl]
      have : nI n - 1 < nI j := by
        by_cases h0 : n = 0
        · subst h0
          rw [Int32.lt_iff_toInt_lt, nI_toInt hj]
          show (-1 : Int) < _
          omega
        · have e : nI n - 1 = nI (n - 1) := by
            have := nI_pred (n - 1)
            rw [show n - 1 + 1 = n by omega] at this
            exact this
          rw [e]; exact nI_lt (by omega) hj
      rw [if_pos this, if_pos rfl]
    · have h2' : ¬ nI n ≤ nI j := fun q => h2 ((nI_leI (by omega) hj).mp q)
      have : ¬ nI n - 1 < nI j := by
        have e : nI n - 1 = nI (n - 1) := by
          have := nI_pred (n - 1)
          rw [show n - 1 + 1 = n by omega] at this
          exact this
        rw [e]; exact nI_nlt (by omega) (by omega)
      rw [if_neg h2', if_neg this, if_neg (show ¬ (1 : Int32) = 0 by decide)]
theorem zs_shown {T : zm_S} {B : Nat} (hI : zs_I T B) (du pd : Nat → Int32) (x : Int32) : zb_shown (zs_B T du pd) x = if zm_stp T = 0 then (if zm_is T x = 0 then none else some x.toNatClampNeg) else none := by
  unfold zb_shown
  rw [zs_accOf hI]
  rfl
theorem zs_balance {T : zm_S} {B : Nat} (hI : zs_I T B) (du pd : Nat → Int32) (x : Int32) : zb_balance (zs_B T du pd) x = zm_balance T x := by
  unfold zb_balance zm_balance
  rw [zs_shown hI]
  by_cases h : zm_stp T = 0
  · rw [if_pos h, if_pos h]
    by_cases h2 : zm_is T x = 0
    · rw [if_pos h2, if_pos h2]
    · rw [if_neg h2, if_neg h2]; rfl
  · rw [if_neg h, if_neg h]
theorem zs_accrd {T : zm_S} {B : Nat} (hI : zs_I T B) (du pd : Nat → Int32) (x : Int32) : zb_accrd (zs_B T du pd) x = zm_accrd T x := by
  unfold zb_accrd zm_accrd
  rw [zs_shown hI]
  by_cases h : zm_stp T = 0
  · rw [if_pos h, if_pos h]
    by_cases h2 : zm_is T x = 0
    · rw [if_pos h2, if_pos h2]
    · rw [if_neg h2, if_neg h2]; rfl
  · rw [if_neg h, if_neg h]
theorem zs_markC {T : zm_S} {B : Nat} (hI : zs_I T B) (du pd : Nat → Int32) (x : Int32) : zb_markC (zs_B T du pd) x = zm_markC T x := by
  unfold zb_markC zm_markC
  rw [zs_shown hI]
  by_cases h : zm_stp T = 0
  · rw [if_pos h, if_pos h]
    by_cases h2 : zm_is T x = 0
    · rw [if_pos h2, if_pos h2]
    · rw [if_neg h2, if_neg h2]; rfl
  · rw [if_neg h, if_neg h]
/-- what an account has free -/
theorem zs_spend {T : zm_S} {B i : Nat} (hI : zs_I T B) (du pd : Nat → Int32) (hi : i < 6) : zb_spend (zs_B T du pd) i = zm_free T (nI i) := by
  unfold zm_free
  rw [nI_clamp (by omega)]
  show zm_mon T i + (zm_lim T i).toInt64 - zs_hel T i = _
  unfold zs_hel zs_sum8
  rw [if_pos hi]
  simp only [zm_freeL]
  generalize zm_held1 T (nI i) 0 = a0
  generalize zm_held1 T (nI i) 1 = a1
  generalize zm_held1 T (nI i) 2 = a2
  generalize zm_held1 T (nI i) 3 = a3
  generalize zm_held1 T (nI i) 4 = a4
  generalize zm_held1 T (nI i) 5 = a5
  generalize zm_held1 T (nI i) 6 = a6
  generalize zm_held1 T (nI i) 7 = a7
  grind
theorem zs_avail {T : zm_S} {B : Nat} (hI : zs_I T B) (du pd : Nat → Int32) (x : Int32) : zb_avail (zs_B T du pd) x = zm_avail T x := by
  unfold zb_avail zm_avail
  rw [zs_shown hI]
  by_cases h : zm_stp T = 0
  · rw [if_pos h, if_pos h]
    by_cases h2 : zm_is T x = 0
    · rw [if_pos h2, if_pos h2]
    · rw [if_neg h2, if_neg h2]
      obtain ⟨j, hj, rfl⟩ := zm_is_nat (zs_I_m hI) h2
      dsimp only
      rw [nI_clamp (by omega), zs_spend hI du pd hj]
  · rw [if_neg h, if_neg h]
theorem zs_today (T : zm_S) (du pd : Nat → Int32) : zb_today (zs_B T du pd) = zm_today T := rfl
theorem zs_writes (T : zm_S) (du pd : Nat → Int32) : zb_writes (zs_B T du pd) = zm_writes T := rfl
theorem zs_linesC (T : zm_S) (du pd : Nat → Int32) : zb_linesC (zs_B T du pd) = zm_linesC T := rfl
theorem zs_restart (T : zm_S) (du pd : Nat → Int32) : zb_restart (zs_B T du pd) = ((zm_restart T).1, zs_B (zm_restart T).2 du pd) := by
  unfold zb_restart zm_restart
  by_cases h : zm_stp T = 0
  · rw [if_pos h, if_pos (show zb_stp (zs_B T du pd) = 0 from h)]
  · rw [if_neg h, if_neg (show ¬ zb_stp (zs_B T du pd) = 0 from h)]; rfl
theorem zs_within {x a b : Int32} : zb_within x a b = 0 ↔ x < a ∨ b < x := by
  unfold zb_within
  by_cases h1 : x < a
  · rw [if_pos h1]; exact ⟨fun _ => Or.inl h1, fun _ => rfl⟩
  · rw [if_neg h1]
    by_cases h2 : b < x
    · rw [if_pos h2]; exact ⟨fun _ => Or.inr h2, fun _ => rfl⟩
    · rw [if_neg h2]; exact ⟨fun q => absurd q (by decide), fun q => absurd q (by simp [h1, h2])⟩
theorem zs_fuse (T : zm_S) (du pd : Nat → Int32) (n : Int32) : zb_fuse (zs_B T du pd) n = ((zm_fuse T n).1, zs_B (zm_fuse T n).2 du pd) := by
  unfold zb_fuse zm_fuse
  by_cases h : zm_stp T = 0
  · rw [if_pos h, if_pos (show zb_stp (zs_B T du pd) = 0 from h)]
    by_cases h1 : n < -1
    · rw [if_pos h1, if_pos (zs_within.mpr (Or.inl h1))]
    · rw [if_neg h1]
      by_cases h2 : n ≤ 500
      · rw [if_pos h2, if_neg (fun q => (zs_within.mp q).elim h1 (fun z => Int32.not_lt.mpr h2 z))]; rfl
      · rw [if_neg h2, if_pos (zs_within.mpr (Or.inr (Int32.not_le.mp h2)))]
  · rw [if_neg h, if_neg (show ¬ zb_stp (zs_B T du pd) = 0 from h)]
