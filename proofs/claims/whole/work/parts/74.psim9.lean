/-! PURE: the set of a step, carrying out. -/
theorem zs_stepSet {T : zm_S} {B a j o : Nat} (hI : zs_I T B) (du pd : Nat → Int32) {s : Nat} (hs : s < 64) (ho : o ≤ 6) (eo : zm_ors T = nI o) (hF : ∀ k, k < o → zs_F T j a k (du k) (pd k) (s.testBit k)) :
    ∀ n i c chg, n + i = o → ∃ c' set, c' ≤ c + n ∧ zb_stepSet (zs_B T du pd) n i chg (nI (c + 1)) = (set, nI (c' + 1)) ∧ zm_stepSet T (nI s) n i (nI c) chg = (nI c', set) := by
  intro n
  induction n with
  | zero => intro i c chg _; exact ⟨c, chg, by omega, rfl, rfl⟩
  | succ n ih =>
    intro i c chg hi
    have hio : i < o := by omega
    obtain ⟨f1, f2, f3⟩ := hF i hio
    rw [zb_stepSet, zm_stepSet]
    have hb := zs_set_bit i (by omega) s hs
    by_cases q : s.testBit i = true
    · have e : pd i = 1 := (f2 q).1
      rw [if_neg (show ¬ zb_opd (zs_B T du pd) i = 0 by show ¬ pd i = 0; rw [e]; decide), if_pos (hb.mpr q)]
      obtain ⟨⟨m, hm, em, -, h6⟩, -⟩ := hI
      obtain ⟨-, ⟨p, hp, ep⟩, -⟩ := h6 i (by rw [eo, nI_clamp (by omega)]; exact hio)
      have epy : zb_bit (zb_pye (zs_B T du pd) i) = (1 : Int32) <<< (zm_pye T i &&& 31) := by
        have e1 : zb_pye (zs_B T du pd) i = some p := by
          show zs_pye T i = some p
          unfold zs_pye
          rw [eo, nI_clamp (by omega), if_pos hio, ep, nI_clamp (by omega)]
        rw [e1, ep]
        rfl
      rw [epy, nI_1, nI_1]
      obtain ⟨c', set, h1, h2, h3⟩ := ih (i + 1) (c + 1) (chg ||| (1 : Int32) <<< (zm_pye T i &&& 31)) (by omega)
      exact ⟨c', set, by omega, h2, h3⟩
    · have e : pd i = 0 := f3 (by cases h : s.testBit i with | true => exact absurd h q | false => rfl)
      rw [if_pos (show zb_opd (zs_B T du pd) i = 0 from e), if_neg (fun z => q (hb.mp z))]
      obtain ⟨c', set, h1, h2, h3⟩ := ih (i + 1) c chg (by omega)
      exact ⟨c', set, by omega, h2, h3⟩
/-- what the carrying out leaves -/
def zs_K (T T' : zm_S) : Prop := zm_pyr T' = zm_pyr T ∧ zm_pye T' = zm_pye T ∧ zm_ody T' = zm_ody T ∧ zm_R T' = zm_R T ∧ zm_ors T' = zm_ors T ∧ zm_now T' = zm_now T ∧ zm_acs T' = zm_acs T ∧ zm_ham T' = zm_ham T ∧ zm_hof T' = zm_hof T ∧ zm_cur T' = zm_cur T ∧ zm_bas T' = zm_bas T ∧ zm_D T' = zm_D T ∧ zm_end T' = zm_end T
theorem zs_K_refl (T : zm_S) : zs_K T T := ⟨rfl, rfl, rfl, rfl, rfl, rfl, rfl, rfl, rfl, rfl, rfl, rfl, rfl⟩
theorem zs_K_trans {T1 T2 T3 : zm_S} (h : zs_K T1 T2) (g : zs_K T2 T3) : zs_K T1 T3 := by
  obtain ⟨a1, a2, a3, a4, a5, a6, a7, a8, a9, a10, a11, a12, a13⟩ := h
  obtain ⟨b1, b2, b3, b4, b5, b6, b7, b8, b9, b10, b11, b12, b13⟩ := g
  exact ⟨b1.trans a1, b2.trans a2, b3.trans a3, b4.trans a4, b5.trans a5, b6.trans a6, b7.trans a7, b8.trans a8, b9.trans a9, b10.trans a10, b11.trans a11, b12.trans a12, b13.trans a13⟩
theorem zs_K_transfer (T : zm_S) (x y a : Int32) : zs_K T (zm_transfer T x y a) := by
  unfold zm_transfer zm_gets zm_pays
  split
  · split
    · exact zs_K_refl T
    · exact zs_K_refl T
  · split
    · exact zs_K_refl T
    · exact zs_K_refl T
theorem zs_K_one (T : zm_S) (j : Nat) (a paid : Int32) (k : Nat) : zs_K T (zm_carryOne T j a paid k) := by
  unfold zm_carryOne
  split
  · exact zs_K_transfer _ _ _ _
  · split
    · split
      · exact zs_K_refl T
      · exact zs_K_refl T
    · exact zs_K_refl T
theorem zs_K_carry (j : Nat) (a paid : Int32) : ∀ n k T, zs_K T (zm_carry j a paid n k T) := by
  intro n
  induction n with
  | zero => intro k T; exact zs_K_refl T
  | succ n ih => intro k T; rw [zm_carry]; exact zs_K_trans (zs_K_one T j a paid k) (ih _ _)
theorem zs_carryOne {T : zm_S} {a j o k : Nat} (du pd : Nat → Int32) {s : Nat} (hs : s < 64) (ho : o ≤ 6) (eo : zm_ors T = nI o) (hk : k < o) (ha : a < 6) (hF : zs_F T j a k (du k) (pd k) (s.testBit k)) (hp : ∃ p, p < 6 ∧ zm_pye T k = nI p) (hne : ¬ zm_pyr T k = zm_pye T k) :
    zb_carryOne (zs_B T du pd) k = zs_B (zm_carryOne T j (nI a) (nI s) k) du pd := by
  obtain ⟨f1, f2, f3⟩ := hF
  obtain ⟨p, hp, ep⟩ := hp
  unfold zb_carryOne zm_carryOne
  have hb := zs_set_bit k (by omega) s hs
  by_cases q : s.testBit k = true
  · obtain ⟨e, ea⟩ := f2 q
    rw [if_neg (show ¬ zb_opd (zs_B T du pd) k = 0 by show ¬ pd k = 0; rw [e]; decide), if_pos (hb.mpr q)]
    have e1 : zb_pye (zs_B T du pd) k = some p := by
      show zs_pye T k = some p
      unfold zs_pye
      rw [eo, nI_clamp (by omega), if_pos hk, ep, nI_clamp (by omega)]
    have e2 : zb_pyr (zs_B T du pd) k = some a := by
      show zs_pyr T k = some a
      unfold zs_pyr
      rw [eo, nI_clamp (by omega), if_pos hk, ea, nI_clamp (by omega)]
    rw [e1, e2]
    exact zs_transfer du pd (Or.inr ⟨a, ha, rfl, rfl⟩) (Or.inr ⟨p, hp, ep, rfl⟩) (by rw [← ea]; exact hne)
  · have e : pd k = 0 := f3 (by cases h : s.testBit k with | true => exact absurd h q | false => rfl)
    rw [if_pos (show zb_opd (zs_B T du pd) k = 0 from e), if_neg (fun z => q (hb.mp z))]
    by_cases g : zm_pyr T k = nI a
    · rw [if_pos g] at f1
      rw [if_pos g]
      by_cases d : zm_due (zm_R T) j (zm_ody T k) = 0
      · rw [if_pos d, if_pos (show zb_odu (zs_B T du pd) k = 0 from f1.trans d)]
      · rw [if_neg d, if_neg (show ¬ zb_odu (zs_B T du pd) k = 0 from fun z => d (f1.symm.trans z))]
        rfl
    · rw [if_neg g] at f1
      rw [if_neg g, if_pos (show zb_odu (zs_B T du pd) k = 0 from f1)]
theorem zs_carry {a j o : Nat} (du pd : Nat → Int32) {s : Nat} (hs : s < 64) (ho : o ≤ 6) (ha : a < 6) :
    ∀ n i T, n + i = o → zm_ors T = nI o → (∀ k, k < o → zs_F T j a k (du k) (pd k) (s.testBit k) ∧ (∃ p, p < 6 ∧ zm_pye T k = nI p) ∧ ¬ zm_pyr T k = zm_pye T k) →
      zb_carry n i (zs_B T du pd) = zs_B (zm_carry j (nI a) (nI s) n i T) du pd := by
  intro n
  induction n with
  | zero => intro i T _ _ _; rfl
  | succ n ih =>
    intro i T hi eo hF
    rw [zb_carry, zm_carry]
    obtain ⟨g1, g2, g3⟩ := hF i (by omega)
    rw [zs_carryOne du pd hs ho eo (by omega) ha g1 g2 g3]
    obtain ⟨k1, k2, k3, k4, k5, -⟩ := zs_K_one T j (nI a) (nI s) i
    refine ih (i + 1) _ (by omega) (k5.trans eo) (fun k hk => ?_)
    unfold zs_F
    rw [k1, k2, k3, k4]
    exact hF k hk
