/-! PURE: parties, payments. -/
def zs_P (x : Int32) (p : Option Nat) : Prop := (x = -1 ∧ p = none) ∨ ∃ i, i < 6 ∧ x = nI i ∧ p = some i
theorem zs_is_01 (T : zm_S) (x : Int32) : zm_is T x = 0 ∨ zm_is T x = 1 := by
  unfold zm_is
  split
  · exact Or.inl rfl
  · split
    · exact Or.inl rfl
    · exact Or.inr rfl
theorem zs_is_m1 (T : zm_S) : zm_is T (-1) = 0 := by
  unfold zm_is
  rw [if_pos (by decide)]
theorem zs_party {T : zm_S} {B : Nat} (hI : zs_I T B) (du pd : Nat → Int32) (x : Int32) : zb_party (zs_B T du pd) x = if x = -1 then 1 else zm_is T x := by
  unfold zb_party
  rw [zs_accOf hI]
  by_cases h : x = -1
  · rw [if_pos h, if_pos h]
  · rw [if_neg h, if_neg h]
    rcases zs_is_01 T x with q | q
    · rw [q, if_pos rfl]
    · rw [q, if_neg (show ¬ (1 : Int32) = 0 by decide)]
theorem zs_payable {T : zm_S} {B : Nat} (hI : zs_I T B) (du pd : Nat → Int32) (x y : Int32) : zb_payable (zs_B T du pd) x y = zm_pair T x y := by
  unfold zb_payable zm_pair zm_known
  dsimp only
  rw [zs_party hI, zs_party hI]
  by_cases hx : (if x = -1 then 1 else zm_is T x) = 0
  · by_cases e : x = y
    · rw [if_pos e, if_pos hx, if_pos rfl]
    · rw [if_neg e, if_pos hx, if_pos hx, if_pos rfl]
  · by_cases hy : (if y = -1 then 1 else zm_is T y) = 0
    · by_cases e : x = y
      · rw [if_pos e, if_neg hx, if_pos hy, if_pos rfl]
      · rw [if_neg e, if_neg hx, if_neg hx, if_pos hy, if_pos hy, if_pos rfl]
    · by_cases e : x = y
      · rw [if_pos e, if_neg hx, if_neg hy, if_pos e, if_pos rfl]
      · rw [if_neg e, if_neg hx, if_neg hx, if_neg hy, if_neg hy, if_neg e, if_neg (show ¬ (1 : Int32) = 0 by decide)]
        unfold zm_pair2
        rw [zs_accOf hI, zs_accOf hI]
        by_cases ex : x = -1
        · subst ex
          rw [if_pos rfl, zs_is_m1, if_pos rfl]
          rfl
        · rw [if_neg ex] at hx ⊢
          rw [if_neg hx]
          by_cases ey : y = -1
          · subst ey
            rw [if_pos rfl, zs_is_m1, if_pos rfl]
            rfl
          · rw [if_neg ey] at hy ⊢
            rw [if_neg hy]
            rfl
theorem zs_P_of {T : zm_S} {B : Nat} (hI : zs_I T B) (du pd : Nat → Int32) {x : Int32} (h : x = -1 ∨ ∃ j, j < 6 ∧ x = nI j) (h2 : ¬ x = -1 → ¬ zm_is T x = 0) : zs_P x (zb_accOf (zs_B T du pd) x) := by
  rw [zs_accOf hI]
  by_cases ex : x = -1
  · subst ex
    rw [zs_is_m1, if_pos rfl]
    exact Or.inl ⟨rfl, rfl⟩
  · rw [if_neg (h2 ex)]
    obtain ⟨j, hj, rfl⟩ := h.resolve_left ex
    exact Or.inr ⟨j, hj, rfl, by rw [nI_clamp (by omega)]⟩
theorem zs_known_P {T : zm_S} {B : Nat} (hI : zs_I T B) (du pd : Nat → Int32) {x y : Int32} (h : ¬ zm_known T x y = 0) : zs_P x (zb_accOf (zs_B T du pd) x) ∧ zs_P y (zb_accOf (zs_B T du pd) y) ∧ ¬ x = y := by
  obtain ⟨h1, h2, h3⟩ := zm_known_spec (zs_I_m hI) h
  unfold zm_known at h
  dsimp only at h
  refine ⟨zs_P_of hI du pd h1 (fun q z => ?_), zs_P_of hI du pd h2 (fun q z => ?_), h3⟩
  · rw [if_neg q, z, if_pos rfl] at h; exact h rfl
  · by_cases hx : (if x = -1 then 1 else zm_is T x) = 0
    · rw [if_pos hx] at h; exact h rfl
    · rw [if_neg hx, if_neg q, z, if_pos rfl] at h; exact h rfl
theorem zs_bc2 : ∀ i, i < 6 → ∀ j, j < 6 → ¬ i = j → zj_bc (((1 : Int32) <<< (nI i &&& 31)) ||| ((1 : Int32) <<< (nI j &&& 31))) = nI 2 := by decide +kernel
theorem zs_bc1l : ∀ n, n < 6 → zj_bc (0 ||| ((1 : Int32) <<< (nI n &&& 31))) = nI 1 := by decide +kernel
theorem zs_bc1r : ∀ n, n < 6 → zj_bc (((1 : Int32) <<< (nI n &&& 31)) ||| 0) = nI 1 := by decide +kernel
theorem zs_bits2 {x y : Int32} {p q : Option Nat} (hp : zs_P x p) (hq : zs_P y q) (hne : ¬ x = y) : zb_bit p ||| zb_bit q = zm_sof x y ∧ ∃ c, c < 99 ∧ zm_lof x y = nI c ∧ zj_bc (zm_sof x y) = nI c := by
  unfold zm_sof zm_lof
  rcases hp with ⟨rfl, rfl⟩ | ⟨i, hi, rfl, rfl⟩
  · rcases hq with ⟨rfl, rfl⟩ | ⟨j, hj, rfl, rfl⟩
    · exact absurd rfl hne
    · rw [if_pos (show (-1 : Int32) < 0 by decide), if_neg (nI_pos (show j < 2 ^ 31 by omega)), if_pos (show (-1 : Int32) < 0 by decide), if_neg (nI_pos (show j < 2 ^ 31 by omega))]
      exact ⟨rfl, 1, by decide, by decide, zs_bc1l j hj⟩
  · rcases hq with ⟨rfl, rfl⟩ | ⟨j, hj, rfl, rfl⟩
    · rw [if_pos (show (-1 : Int32) < 0 by decide), if_neg (nI_pos (show i < 2 ^ 31 by omega)), if_pos (show (-1 : Int32) < 0 by decide), if_neg (nI_pos (show i < 2 ^ 31 by omega))]
      exact ⟨rfl, 1, by decide, by decide, zs_bc1r i hi⟩
    · rw [if_neg (nI_pos (show i < 2 ^ 31 by omega)), if_neg (nI_pos (show j < 2 ^ 31 by omega)), if_neg (nI_pos (show i < 2 ^ 31 by omega)), if_neg (nI_pos (show j < 2 ^ 31 by omega))]
      exact ⟨rfl, 2, by decide, by decide, zs_bc2 i hi j hj (fun e => hne (by rw [e]))⟩
theorem zs_transfer {T : zm_S} (du pd : Nat → Int32) {x y a : Int32} {p q : Option Nat} (hp : zs_P x p) (hq : zs_P y q) (hne : ¬ x = y) : zb_transfer (zs_B T du pd) p q a = zs_B (zm_transfer T x y a) du pd := by
  unfold zm_transfer zm_gets zm_pays
  rcases hp with ⟨rfl, rfl⟩ | ⟨i, hi, rfl, rfl⟩
  · rcases hq with ⟨rfl, rfl⟩ | ⟨j, hj, rfl, rfl⟩
    · exact absurd rfl hne
    · rw [if_pos (show (-1 : Int32) < 0 by decide), if_neg (nI_pos (show j < 2 ^ 31 by omega)), nI_clamp (by omega)]; rfl
  · rcases hq with ⟨rfl, rfl⟩ | ⟨j, hj, rfl, rfl⟩
    · rw [if_pos (show (-1 : Int32) < 0 by decide), if_neg (nI_pos (show i < 2 ^ 31 by omega)), nI_clamp (by omega)]; rfl
    · rw [if_neg (nI_pos (show i < 2 ^ 31 by omega)), if_neg (nI_pos (show j < 2 ^ 31 by omega)), nI_clamp (by omega), nI_clamp (by omega)]; rfl
theorem zs_amt (a : Int32) : zb_within a 1 1000000 = zm_amt a := rfl
theorem zs_pay {T : zm_S} {B : Nat} (hI : zs_I T B) (du pd : Nat → Int32) (x y a : Int32) : zb_pay (zs_B T du pd) x y a = ((zm_pay T x y a).1, zs_B (zm_pay T x y a).2 du pd) := by
  unfold zb_pay zm_pay
  rw [zs_refuse, zs_payable hI, zs_amt]
  by_cases h : zm_shut T = 0
  · rw [if_pos h, if_pos h]
    by_cases h1 : zm_pair T x y = 0
    · rw [if_pos h1, if_pos h1]
    rw [if_neg h1, if_neg h1]
    by_cases h2 : zm_amt a = 0
    · rw [if_pos h2, if_pos h2]
    rw [if_neg h2, if_neg h2]
    obtain ⟨hP, hQ, hne⟩ := zs_known_P hI du pd (zm_pair_known h1)
    have key : zb_pay3 (zs_B T du pd) (zb_accOf (zs_B T du pd) x) (zb_accOf (zs_B T du pd) y) a = ((zm_pay2 T x y a).1, zs_B (zm_pay2 T x y a).2 du pd) := by
      obtain ⟨e1, c, hc, e2, e3⟩ := zs_bits2 hP hQ hne
      unfold zb_pay3 zm_pay2
      rw [e1, zs_tr hI du pd hc e3, e2]
      generalize zm_cm T (nI c) (zm_sof x y) = w
      obtain ⟨v, T1⟩ := w
      dsimp only
      by_cases h10 : v = 0
      · rw [if_pos h10, if_pos h10]
      · rw [if_neg h10, if_neg h10]
        exact Prod.ext rfl (zs_transfer du pd hP hQ hne)
    unfold zb_pay2
    rcases hP with ⟨ex, ep⟩ | ⟨i, hi, ex, ep⟩
    · rw [if_pos (by rw [ex]; decide)]
      rw [ep] at key ⊢
      exact key
    · have hx0 : ¬ x < 0 := by rw [ex]; exact nI_pos (by omega)
      rw [if_neg hx0]
      rw [ep] at key ⊢
      dsimp only
      rw [zs_spend hI du pd hi, ← ex]
      by_cases h5 : a.toInt64 ≤ zm_free T x
      · rw [if_pos h5, if_pos h5]; exact key
      · rw [if_neg h5, if_neg h5]
  · rw [if_neg h, if_neg h]
