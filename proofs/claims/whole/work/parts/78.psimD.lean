/-! PURE: what holds between calls is kept by open, order, rest. -/
theorem zs_c3 {c : Int32} (h1 : ¬ c < 0) (h2 : ¬ 2 < c) : ∃ k, k < 3 ∧ c = nI k := by
  obtain ⟨j, hj, rfl⟩ := nI_of h1
  have := mt (nI_ltI (a := 2) (b := j) (by decide) hj).mpr h2
  exact ⟨j, by omega, rfl⟩
theorem zs_upd_small {f : Nat → Int32} {i : Nat} {c : Int32} (h : ∀ i, ∃ c, c < 3 ∧ f i = nI c) (g : ∃ k, k < 3 ∧ c = nI k) : ∀ j, ∃ c', c' < 3 ∧ upd f i c j = nI c' := by
  intro j
  by_cases e : j = i
  · subst e; rw [pk_us]; exact g
  · rw [pk_un e]; exact h j
theorem zs_J_open2 {T : zm_S} {B : Nat} {c b : Int32} (l r : Int32) (h : zs_J T B) (h6 : ¬ zm_acs T = 6) (hc : ∃ k, k < 3 ∧ c = nI k) (hb : ∃ k, k < 3 ∧ b = nI k) : zs_J (zm_open2 T c b l r).2 B := by
  unfold zm_open2
  dsimp only
  obtain ⟨⟨n, hn, en, -⟩, -⟩ := id h.1
  have hn6 : n < 6 := by
    have : ¬ n = 6 := fun e => h6 (by rw [en, e]; rfl)
    omega
  have h1 : zs_J (zm_cm T 1 ((1 : Int32) <<< (zm_acs T &&& 31))).2 B := zs_J_cm h (by rw [en]; exact zs_W_bit hn6)
  have en1 : zm_acs (zm_cm T 1 ((1 : Int32) <<< (zm_acs T &&& 31))).2 = nI n := en
  generalize zm_cm T 1 ((1 : Int32) <<< (zm_acs T &&& 31)) = w at h1 en1 ⊢
  obtain ⟨v, T1⟩ := w
  dsimp only at h1 en1 ⊢
  split
  · exact h1
  · refine ⟨?_, h1.2⟩
    obtain ⟨⟨⟨m, hm, em, h5, h6⟩, a2, a3, a4, a5, a6, a7, a8⟩, -⟩ := h1
    have e : m = n := (nI_eq (by omega) (by omega)).mp (em.symm.trans en1)
    subst e
    refine ⟨⟨m + 1, by omega, by show zm_acs T1 + 1 = nI (m + 1); rw [em, nI_1], fun k q => ?_, fun k q => ?_⟩, a2, a3, zs_upd_small a4 hc, zs_upd_small a5 hb, a6, a7, a8⟩
    · obtain ⟨g1, i, g2, g3⟩ := h5 k q
      exact ⟨g1, i, by omega, g3⟩
    · obtain ⟨⟨i, g1, g2⟩, ⟨i', g3, g4⟩, g5⟩ := h6 k q
      exact ⟨⟨i, by omega, g2⟩, ⟨i', by omega, g4⟩, g5⟩
theorem zs_J_open {T : zm_S} {B : Nat} (h : zs_J T B) (c b l r : Int32) : zs_J (zm_open T c b l r).2 B := by
  unfold zm_open
  split
  · by_cases h1 : c < 0
    · rw [if_pos h1]; exact h
    rw [if_neg h1]
    by_cases h2 : 2 < c
    · rw [if_pos h2]; exact h
    rw [if_neg h2]
    by_cases h3 : b < 0
    · rw [if_pos h3]; exact h
    rw [if_neg h3]
    by_cases h4 : 2 < b
    · rw [if_pos h4]; exact h
    rw [if_neg h4]
    split
    · exact h
    · split
      · exact h
      · split
        · exact h
        · split
          · by_cases h6 : zm_acs T = 6
            · rw [if_pos h6]; exact h
            · rw [if_neg h6]; exact zs_J_open2 l r h h6 (zs_c3 h1 h2) (zs_c3 h3 h4)
          · exact h
  · exact h
theorem zs_J_order2 {T : zm_S} {B : Nat} {x y a d : Int32} (h : zs_J T B) (h6 : ¬ zm_ors T = 6) (hx : ¬ zm_is T x = 0) (hy : ¬ zm_is T y = 0) (hne : ¬ x = y) (hd : ∃ w, 1 ≤ w ∧ w ≤ 31 ∧ d = nI w) : zs_J (zm_order2 T x y a d).2 B := by
  unfold zm_order2
  dsimp only
  obtain ⟨i, hi, ei⟩ := zm_is_nat (zs_I_m h.1) hx
  have h1 : zs_J (zm_cm T 1 ((1 : Int32) <<< (x &&& 31))).2 B := zs_J_cm h (by rw [ei]; exact zs_W_bit hi)
  have f1 : ¬ zm_is (zm_cm T 1 ((1 : Int32) <<< (x &&& 31))).2 x = 0 := hx
  have f2 : ¬ zm_is (zm_cm T 1 ((1 : Int32) <<< (x &&& 31))).2 y = 0 := hy
  have f3 : ¬ zm_ors (zm_cm T 1 ((1 : Int32) <<< (x &&& 31))).2 = 6 := h6
  generalize zm_cm T 1 ((1 : Int32) <<< (x &&& 31)) = w at h1 f1 f2 f3 ⊢
  obtain ⟨v, T1⟩ := w
  dsimp only at h1 f1 f2 f3 ⊢
  split
  · exact h1
  · refine ⟨?_, h1.2⟩
    obtain ⟨⟨⟨n, hn, en, h5, h6⟩, ⟨o, ho, eo⟩, a3, a4, a5, a6, a7, a8⟩, -⟩ := h1
    have ho6 : o < 6 := by
      have : ¬ o = 6 := fun e => f3 (by rw [eo, e]; rfl)
      omega
    obtain ⟨i1, hi1, ex⟩ := zs_is_lt en hn f1
    obtain ⟨i2, hi2, ey⟩ := zs_is_lt en hn f2
    rw [eo, nI_clamp (by omega)] at h6 ⊢
    refine ⟨⟨n, hn, en, h5, ?_⟩, ⟨o + 1, by omega, by show nI o + 1 = nI (o + 1); rw [nI_1]⟩, a3, a4, a5, ?_, a7, a8⟩
    · intro k
      show k < (nI o + 1).toNatClampNeg → (∃ i, i < n ∧ upd (zm_pyr T1) o x k = nI i) ∧ (∃ i, i < n ∧ upd (zm_pye T1) o y k = nI i) ∧ ¬ upd (zm_pyr T1) o x k = upd (zm_pye T1) o y k ∧ ∃ w, 1 ≤ w ∧ w ≤ 31 ∧ upd (zm_ody T1) o d k = nI w
      rw [nI_1, nI_clamp (by omega)]
      intro q
      by_cases e : k = o
      · subst e
        rw [pk_us, pk_us, pk_us]
        exact ⟨⟨i1, hi1, ex⟩, ⟨i2, hi2, ey⟩, hne, hd⟩
      · rw [pk_un e, pk_un e, pk_un e]
        exact h6 k (by omega)
    · intro k
      show (∃ i, i < 6 ∧ upd (zm_pyr T1) o x k = nI i) ∧ (∃ i, i < 6 ∧ upd (zm_pye T1) o y k = nI i)
      by_cases e : k = o
      · subst e
        rw [pk_us, pk_us]
        exact ⟨⟨i1, by omega, ex⟩, ⟨i2, by omega, ey⟩⟩
      · rw [pk_un e, pk_un e]
        exact a6 k
theorem zs_J_order {T : zm_S} {B : Nat} (h : zs_J T B) (x y a d : Int32) : zs_J (zm_order T x y a d).2 B := by
  unfold zm_order
  split
  · by_cases h1 : zm_is T x = 0
    · rw [if_pos h1]; exact h
    rw [if_neg h1]
    by_cases h2 : zm_is T y = 0
    · rw [if_pos h2]; exact h
    rw [if_neg h2]
    by_cases h3 : zm_pair T x y = 0
    · rw [if_pos h3]; exact h
    rw [if_neg h3]
    split
    · exact h
    · by_cases h5 : d < 1
      · rw [if_pos h5]; exact h
      rw [if_neg h5]
      by_cases h7 : d ≤ 31
      · rw [if_pos h7]
        by_cases h6 : zm_ors T = 6
        · rw [if_pos h6]; exact h
        · rw [if_neg h6]
          refine zs_J_order2 h h6 h1 h2 (zs_known_P h.1 (fun _ => 0) (fun _ => 0) (zm_pair_known h3)).2.2 ?_
          have h0 : ¬ d < 0 := fun z => h5 (Int32.lt_trans z (by decide))
          obtain ⟨w, hw, rfl⟩ := nI_of h0
          have g1 := mt (nI_ltI (a := w) (b := 1) hw (by decide)).mpr h5
          have g2 := (nI_leI (a := w) (b := 31) hw (by decide)).mp h7
          exact ⟨w, by omega, g2, rfl⟩
      · rw [if_neg h7]; exact h
  · exact h
theorem zs_J_rest {T : zm_S} {B now : Nat} (h : zs_J T B) (x : Int32) : zs_J (zm_rest T now x).2 B := by
  unfold zm_rest
  split
  · split
    · exact h
    · split
      · exact h
      · generalize x.toNatClampNeg = j
        unfold zm_restC
        split
        · split
          · exact h
          · by_cases h8 : zm_rst T = 8
            · rw [if_pos h8]; exact h
            · rw [if_neg h8]
              dsimp only
              have h1 : zs_J (zm_cm T 0 0).2 B := zs_J_cm h zs_W_0
              have f : ¬ zm_rst (zm_cm T 0 0).2 = 8 := h8
              generalize zm_cm T 0 0 = w at h1 f ⊢
              obtain ⟨v, T1⟩ := w
              dsimp only at h1 f ⊢
              split
              · exact h1
              · refine ⟨?_, h1.2⟩
                obtain ⟨⟨a1, a2, ⟨r, hr, er⟩, a4⟩, -⟩ := h1
                have hr8 : ¬ r = 8 := fun e => f (by rw [er, e]; rfl)
                exact ⟨a1, a2, ⟨r + 1, by omega, by show zm_rst T1 + 1 = nI (r + 1); rw [er, nI_1]⟩, a4⟩
        · exact h
  · exact h
