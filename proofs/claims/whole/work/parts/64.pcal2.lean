/-! PURE: day counts, last of a month, later months. -/
theorem zq_min30 {d : Nat} (hd : d ≤ 31) : zj_min (nI d) 30 = if nI d = 31 then 30 else nI d := by
  unfold zj_min
  by_cases h : d = 31
  · subst h; rw [if_pos (by decide), if_pos (by decide)]
  · rw [if_neg (show ¬ (30 : Int32) < nI d from fun q => h (by have := (nI_ltI (a := 30) (b := d) (by decide) (by omega)).mp q; omega)), if_neg (show ¬ nI d = 31 from fun q => h ((nI_eq (a := d) (b := 31) (by omega) (by decide)).mp q))]
theorem zq_ring (Y1 Y2 m1 m2 : Int32) : (30 : Int32) * ((12 * (Y2 - 2000) + m2 - 3) - (12 * (Y1 - 2000) + m1 - 3)) = 360 * (Y2 - Y1) + 30 * (m2 - m1) := by
  grind
theorem zq_M {j : Nat} (hj : j < 100077) : nI (12 * (zc_y j - 2000) + zc_m j) = 12 * (nI (zc_y j) - 2000) + nI (zc_m j) := by
  have h := zc_real hj
  have e1 : nI (zc_y j) - 2000 = nI (zc_y j - 2000) := pk_sub (b := 2000) h.1
  have e2 : (12 : Int32) * nI (zc_y j - 2000) = nI (12 * (zc_y j - 2000)) := pk_mul 12 _
  rw [e1, e2, nI_add]
theorem zq_d31 {j : Nat} (hj : j < 100077) : 1 ≤ zc_d j ∧ zc_d j ≤ 31 := by
  have h := zc_real hj
  have := zc_ml_le (zc_y j) (zc_m j)
  omega
theorem zq_dayCount {c x y : Nat} (hc : c < 3) (hx : x < 100077) (hy : y < 100077) : zb_dayCount (nI c) (nI x) (nI y) = zm_days (nI c) x y := by
  unfold zb_dayCount zm_days
  by_cases h2 : c = 2
  · subst h2
    rw [if_pos (show nI 2 = 2 from rfl), if_neg (show ¬ nI 2 < 2 by decide)]
    unfold zb_byMonths
    rw [(zq_cal hx).1, (zq_cal hx).2, (zq_cal hy).1, (zq_cal hy).2, zq_min30 (zq_d31 hx).2, zq_M hx, zq_M hy, zq_ring]
    rfl
  · rw [if_neg (show ¬ nI c = 2 from fun q => h2 ((nI_eq (a := c) (b := 2) (by omega) (by decide)).mp q)), if_pos (show nI c < 2 from nI_lt (b := 2) (by omega) (by decide))]
theorem zq_isLast {j : Nat} (hj : j + 1 < 100077) : zb_isLast (nI j) = if zc_d j = zc_ml (zc_y j) (zc_m j) then 1 else 0 := by
  unfold zb_isLast
  have e : nI j + 1 = nI (j + 1) := nI_1 j
  have hd := zq_d31 hj
  rw [e, (zq_cal hj).1]
  by_cases h : zc_d (j + 1) = 1
  · rw [if_pos (by rw [h]; rfl), if_pos ((zc_last hj).mp h)]
  · rw [if_neg (show ¬ nI (zc_d (j + 1)) = 1 from fun q => h ((nI_eq (a := zc_d (j + 1)) (b := 1) (by omega) (by decide)).mp q)), if_neg (fun q => h ((zc_last hj).mpr q))]
theorem zq_monLe {x y : Nat} (hx : x < 100077) (hy : y < 100077) : zb_monthIn (zb_md (nI x)) ≤ zb_monthIn (zb_md (nI y)) ↔ zm_mon12 x ≤ zm_mon12 y := by
  have h1 := zc_real hx
  have h2 := zc_real hy
  have a1 : (nI (12 * (zc_y x - 2000) + zc_m x) - 3).toInt = ((12 * (zc_y x - 2000) + zc_m x : Nat) : Int) - (3 : Nat) := pk_sub_toInt (b := 3) (by omega) (by decide)
  have a2 : (nI (12 * (zc_y y - 2000) + zc_m y) - 3).toInt = ((12 * (zc_y y - 2000) + zc_m y : Nat) : Int) - (3 : Nat) := pk_sub_toInt (b := 3) (by omega) (by decide)
  have b1 : zm_mon12 x = nI (12 * zc_y x + zc_m x) := by
    unfold zm_mon12
    rw [show (12 : Int32) * nI (zc_y x) = nI (12 * zc_y x) from pk_mul 12 _, nI_add]
  have b2 : zm_mon12 y = nI (12 * zc_y y + zc_m y) := by
    unfold zm_mon12
    rw [show (12 : Int32) * nI (zc_y y) = nI (12 * zc_y y) from pk_mul 12 _, nI_add]
  rw [(zq_cal hx).2, (zq_cal hy).2, b1, b2, nI_leI (by omega) (by omega), Int32.le_iff_toInt_le, a1, a2]
  omega
/-! a rest day -/
theorem zq_isRest {R : zb_TR} {r x : Nat} (hr : zbR_dm R = nI r) (hr8 : r ≤ 8) (hx : x < 2 ^ 30) : zb_isRest R (nI x) = 0 ↔ ¬ zp_rest (zbR_dat R) r x := by
  have e : nI x - nI x / 7 * 7 = nI (x % 7) := pk_rem (d := 7) (by omega) (by decide) (by decide)
  have e2 : (zbR_dm R).toNatClampNeg = r := by rw [hr]; exact nI_clamp (by omega)
  unfold zb_isRest zp_rest zb_wasI
  rw [e, e2]
  by_cases h0 : x % 7 = 0
  · rw [if_pos (by rw [h0]; rfl)]
    exact ⟨fun q => absurd q (by decide), fun q => absurd (Or.inl h0) q⟩
  · rw [if_neg (show ¬ nI (x % 7) = 0 from fun q => h0 ((nI_eq (a := x % 7) (b := 0) (by omega) (by decide)).mp q))]
    by_cases h1 : x % 7 = 1
    · rw [if_pos (by rw [h1]; rfl)]
      exact ⟨fun q => absurd q (by decide), fun q => absurd (Or.inr (Or.inl h1)) q⟩
    · rw [if_neg (show ¬ nI (x % 7) = 1 from fun q => h1 ((nI_eq (a := x % 7) (b := 1) (by omega) (by decide)).mp q))]
      by_cases hw : zb_was (zbR_dat R) (nI x) r = true
      · rw [if_pos hw, if_neg (show ¬ (1 : Int32) = 0 by decide)]
        exact ⟨fun q => absurd q (by decide), fun q => absurd (Or.inr (Or.inr ((zb_was_iff _ _ _).mp hw))) q⟩
      · rw [if_neg hw, if_pos rfl]
        refine ⟨fun _ q => ?_, fun _ => rfl⟩
        rcases q with q | q | q
        · exact h0 q
        · exact h1 q
        · exact hw ((zb_was_iff _ _ _).mpr q)
theorem zm_up_ge (R : zm_TR) : ∀ (f a : Nat), ∃ s, s ≤ f ∧ zm_up R f (nI a) = nI (a + s) := by
  intro f
  induction f with
  | zero => intro a; exact ⟨0, Nat.le_refl _, rfl⟩
  | succ f ih =>
    intro a
    rw [zm_up]
    split
    · exact ⟨0, by omega, rfl⟩
    · obtain ⟨s, hs, e⟩ := ih (a + 1)
      exact ⟨s + 1, by omega, by rw [← nI_succ, e]; congr 1; omega⟩
/-- upward: the class within the month, the reference without an end -/
theorem zq_up {R : zb_TR} {first L : Nat} {F : Int32} (hF : ∀ i, 1 ≤ i → i ≤ 40 → F + nI i = nI (first + i - 1)) (hL : L ≤ 31) : ∀ (n i fb fm : Nat), i + n = L + 1 → 1 ≤ i → n < fb → n ≤ fm →
    (∃ x, x < first + L ∧ zb_up R F (nI L) fb (nI i) = some (nI x) ∧ zm_up R fm (nI (first + i - 1)) = nI x) ∨
    (zb_up R F (nI L) fb (nI i) = none ∧ (∃ s, s ≤ fm ∧ n ≤ s ∧ zm_up R fm (nI (first + i - 1)) = nI (first + i - 1 + s)) ∧ ∀ x, first + i - 1 ≤ x → x < first + L → ¬ zb_isRest R (nI x) = 0) := by
  intro n
  induction n with
  | zero =>
    intro i fb fm h1 h2 h3 h4
    refine Or.inr ⟨zb_up_none (by omega) (nI_lt (by omega) (by omega)), ?_, fun x q1 q2 => by omega⟩
    obtain ⟨s, hs, e⟩ := zm_up_ge R fm (first + i - 1)
    exact ⟨s, hs, by omega, e⟩
  | succ n ih =>
    intro i fb fm h1 h2 h3 h4
    have hlt : ¬ nI L < nI i := nI_nlt (by omega) (by omega)
    have hFi := hF i h2 (by omega)
    by_cases hr : zb_isRest R (nI (first + i - 1)) = 0
    · refine Or.inl ⟨first + i - 1, by omega, ?_, zm_up_stop hr⟩
      rw [zb_up_some (by omega) hlt (by rw [hFi]; exact hr), hFi]
    · have hu : zb_up R F (nI L) fb (nI i) = zb_up R F (nI L) (fb - 1) (nI (i + 1)) := by
        rw [zb_up_next (by omega) hlt (by rw [hFi]; exact hr), nI_succ]
      have hv : zm_up R fm (nI (first + i - 1)) = zm_up R (fm - 1) (nI (first + (i + 1) - 1)) := by
        rw [zm_up_next (by omega) hr, ← nI_succ, show first + (i + 1) - 1 = first + i - 1 + 1 by omega]
      rw [hu, hv]
      rcases ih (i + 1) (fb - 1) (fm - 1) (by omega) (by omega) (by omega) (by omega) with h | ⟨a, ⟨s, b1, b2, b3⟩, c⟩
      · exact Or.inl h
      · refine Or.inr ⟨a, ⟨s + 1, by omega, by omega, by rw [b3]; congr 1; omega⟩, fun x q1 q2 => ?_⟩
        by_cases e : x = first + i - 1
        · rw [e]; exact hr
        · exact c x (by omega) q2
/-- downward, where there is a day that is no rest day -/
theorem zq_dn {R : zb_TR} {first : Nat} {F : Int32} (hF : ∀ i, 1 ≤ i → i ≤ 40 → F + nI i = nI (first + i - 1)) : ∀ (i fb fm : Nat), i ≤ 31 → i < fb → i ≤ fm → (∃ x, first ≤ x ∧ x < first + i ∧ zb_isRest R (nI x) = 0) →
    ∃ x, zb_dn R F fb (nI i) = some (nI x) ∧ zm_dn R fm (nI (first + i - 1)) = nI x := by
  intro i
  induction i with
  | zero => intro fb fm _ _ _ ⟨x, h1, h2, _⟩; omega
  | succ i ih =>
    intro fb fm h31 hfb hfm ⟨x, h1, h2, h3⟩
    have hlt : ¬ nI (i + 1) < 1 := nI_nlt (b := 1) (by omega) (by omega)
    have hFi := hF (i + 1) (by omega) (by omega)
    by_cases hr : zb_isRest R (nI (first + (i + 1) - 1)) = 0
    · refine ⟨first + (i + 1) - 1, ?_, zm_dn_stop hr⟩
      rw [zb_dn_some (by omega) hlt (by rw [hFi]; exact hr), hFi]
    · have hx : x < first + i := by
        refine Nat.lt_of_not_le fun q => hr ?_
        rw [show first + (i + 1) - 1 = x by omega]; exact h3
      have hu : zb_dn R F fb (nI (i + 1)) = zb_dn R F (fb - 1) (nI i) := by
        rw [zb_dn_next (by omega) hlt (by rw [hFi]; exact hr), nI_pred]
      have hv : zm_dn R fm (nI (first + (i + 1) - 1)) = zm_dn R (fm - 1) (nI (first + i - 1)) := by
        rw [zm_dn_next (by omega) hr]
        have := nI_pred (first + i - 1)
        rw [show first + i - 1 + 1 = first + (i + 1) - 1 by omega] at this
        rw [this]
      rw [hu, hv]
      exact ih (fb - 1) (fm - 1) (by omega) (by omega) (by omega) ⟨x, h1, hx, h3⟩
/-- the date at which an order is due: the class's and the reference's -/
theorem zq_due {R : zb_TR} {r j w : Nat} (hr : zbR_dm R = nI r) (hr8 : r ≤ 8) (hj : j + 64 < 100077) (hw1 : 1 ≤ w) (hw : w ≤ 31) : zm_due R j (nI w) = if zb_due R (nI w) (nI j) = nI j then 1 else 0 := by
  have hreal := zc_real (j := j) (by omega)
  have hml := zc_mlL_in (zc_leap (zc_y j)) (m := zc_m j)
  rw [← zc_ml_L] at hml
  have h32 := zc_32 (j := j) (by omega)
  obtain ⟨-, -, -, -, hd1, hdL, hdj⟩ := hreal
  generalize hd : zc_d j = d at hd1 hdL hdj h32
  generalize hLe : zc_ml (zc_y j) (zc_m j) = L at hml hdL h32
  obtain ⟨first, hfirst⟩ : ∃ first, first + d = j + 1 := ⟨j + 1 - d, by omega⟩
  have hFe : nI j - nI d + 1 = nI first := by
    have e : nI j = nI first + nI d - 1 := by
      have := nI_pred j
      rw [← hfirst, ← nI_add] at this
      exact this.symm
    rw [e]
    have : ∀ a b : Int32, a + b - 1 - b + 1 = a := by intro a b; grind
    exact this _ _
  have hF : ∀ i, 1 ≤ i → i ≤ 40 → (nI j - nI d) + nI i = nI (first + i - 1) := by
    intro i h1 h2
    have e : nI (first + i - 1) = nI first + nI i - 1 := by
      have := nI_pred (first + i - 1)
      rw [show first + i - 1 + 1 = first + i by omega, ← nI_add] at this
      exact this.symm
    rw [e, ← hFe]
    have : ∀ a b : Int32, a + b = a + 1 + b - 1 := by intro a b; grind
    exact this _ _
  -- the class
  have c1 : zb_due R (nI w) (nI j) = zb_due3 R (nI j - nI d) (nI L) (zj_min (nI w) (nI L)) := by
    unfold zb_due zb_due2
    rw [(zq_cal (by omega)).1, hd]
    have e : nI j - nI d + 32 = nI (j + 32 - d) := by
      have := hF 32 (by omega) (by omega)
      rw [show first + 32 - 1 = j + 32 - d by omega] at this
      exact this
    have e2 : (32 : Int32) - nI (32 - L) = nI L := by
      have := pk_sub (a := 32) (b := 32 - L) (by omega)
      rw [show 32 - (32 - L) = L by omega] at this
      exact this
    rw [e, (zq_cal (by omega)).1, h32, e2]
  obtain ⟨v, hv1, hvL, hv⟩ : ∃ v, 1 ≤ v ∧ v ≤ L ∧ v = (if L < w then L else w) := ⟨_, by split <;> omega, by split <;> omega, rfl⟩
  have c2 : zj_min (nI w) (nI L) = nI v := by rw [zb_min_nat (by omega) (by omega), hv]
  -- the reference
  have m1 : zm_due R j (nI w) = zm_due3 R (nI j) (nI first) (nI L) (nI (first + v - 1)) := by
    unfold zm_due zm_due2
    rw [hd, hLe, hFe]
    congr 1
    have e : (if nI L ≤ nI w then nI L else nI w) = nI v := by
      by_cases q : L ≤ w
      · rw [if_pos (nI_le q (by omega)), hv]; by_cases q2 : L < w
        · rw [if_pos q2]
        · rw [if_neg q2]; congr 1; omega
      · rw [if_neg (fun z => q ((nI_leI (by omega) (by omega)).mp z)), hv, if_neg (by omega)]
    rw [e, nI_add]
    have := nI_pred (first + v - 1)
    rw [show first + v - 1 + 1 = first + v by omega] at this
    exact this
  rw [m1, c1, c2]
  unfold zm_due3 zb_due3
  rw [nI_add]
  rcases zq_up (R := R) (first := first) (L := L) (F := nI j - nI d) hF (by omega) (L + 1 - v) v 40 40 (by omega) hv1 (by omega) (by omega) with ⟨x, hx, a, b⟩ | ⟨a, ⟨s, s1, s2, b⟩, c⟩
  · rw [a, b, if_neg (fun q => by have := (nI_leI (a := first + L) (b := x) (by omega) (by omega)).mp q; omega)]
  · rw [a, b, if_pos (nI_le (by omega) (by omega))]
    obtain ⟨i, hi, hnr⟩ := zp_some_day (zbR_dat R) r hr8 first (by omega)
    have hz : zb_isRest R (nI (first + i)) = 0 := (zq_isRest hr hr8 (by omega)).mpr hnr
    have hlt : first + i < first + (v - 1) := by
      refine Nat.lt_of_not_le fun q => ?_
      exact c (first + i) (by omega) (by omega) hz
    have hv2 : zm_dn R 40 (nI (first + v - 1)) = zm_dn R 39 (nI (first + (v - 1) - 1)) := by
      rw [zm_dn_next (by omega) (c (first + v - 1) (by omega) (by omega))]
      have := nI_pred (first + (v - 1) - 1)
      rw [show first + (v - 1) - 1 + 1 = first + v - 1 by omega] at this
      rw [this]
    obtain ⟨x, x1, x2⟩ := zq_dn (R := R) (first := first) (F := nI j - nI d) hF (v - 1) 40 39 (by omega) (by omega) (by omega) ⟨first + i, by omega, hlt, hz⟩
    have e9 : nI v - 1 = nI (v - 1) := by
      have := nI_pred (v - 1)
      rw [show v - 1 + 1 = v by omega] at this
      exact this
    dsimp only
    unfold zb_due4
    rw [e9, x1, hv2, x2]
