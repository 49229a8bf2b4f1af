/-! what the day end leaves as it is -/
def zb_key (S : zb_S) : Int32 × Int32 × zb_TR × (Nat → Int32) × (Nat → Option Nat) × (Nat → Option Nat) × (Nat → Option Nat) × (Nat → Int32) := (zb_n S, zb_o S, zb_R S, zb_cur S, zb_hol S, zb_pyr S, zb_pye S, zb_ody S)
def zb_Ik (K : Int32 × Int32 × zb_TR × (Nat → Int32) × (Nat → Option Nat) × (Nat → Option Nat) × (Nat → Option Nat) × (Nat → Int32)) : Prop :=
  (∃ n, n ≤ 6 ∧ K.1 = nI n) ∧ (∃ o, o ≤ 6 ∧ K.2.1 = nI o) ∧ (∃ r, r ≤ 8 ∧ zbR_dm K.2.2.1 = nI r) ∧ (∀ i, ∃ c, c < 3 ∧ K.2.2.2.1 i = nI c) ∧ (∀ k j, K.2.2.2.2.1 k = some j → j < 6) ∧ (∀ k j, K.2.2.2.2.2.1 k = some j → j < 6 ∧ ∃ d, 1 ≤ d ∧ d ≤ 31 ∧ K.2.2.2.2.2.2.2 k = nI d) ∧ (∀ k j, K.2.2.2.2.2.2.1 k = some j → j < 6)
theorem zb_I_key {S S' : zb_S} (h : zb_key S' = zb_key S) (hI : zb_I S) : zb_I S' := by
  have h1 : zb_Ik (zb_key S) := hI
  rw [← h] at h1
  exact h1
theorem zb_key_n {S S' : zb_S} (h : zb_key S' = zb_key S) : zb_n S' = zb_n S := congrArg (fun K => K.1) h
theorem zb_key_o {S S' : zb_S} (h : zb_key S' = zb_key S) : zb_o S' = zb_o S := congrArg (fun K => K.2.1) h
theorem zb_transfer_key (S : zb_S) (p q : Option Nat) (a : Int32) : zb_key (zb_transfer S p q a) = zb_key S := by
  cases p <;> cases q <;> rfl
theorem zb_carryOne_key (S : zb_S) (i : Nat) : zb_key (zb_carryOne S i) = zb_key S := by
  unfold zb_carryOne
  split
  · split <;> rfl
  · rw [zb_transfer_key]
theorem zb_carry_key (k : Nat) : ∀ (i : Nat) (S : zb_S), zb_key (zb_carry k i S) = zb_key S := by
  induction k with
  | zero => intro i S; rfl
  | succ k ih => intro i S; rw [zb_carry, ih, zb_carryOne_key]
theorem zb_planOne_key (S : zb_S) (a i : Nat) (left : Int64) : zb_key (zb_planOne S a i left).1 = zb_key S := rfl
theorem zb_plan_key (a k : Nat) : ∀ (i : Nat) (S : zb_S) (left : Int64), zb_key (zb_plan a k i S left) = zb_key S := by
  induction k with
  | zero => intro i S left; rfl
  | succ k ih => intro i S left; rw [zb_plan, ih, zb_planOne_key]
theorem zb_step3_key (S : zb_S) (a : Nat) : zb_key (zb_step3 S a) = zb_key S := by
  unfold zb_step3
  split <;> rfl
theorem zb_step2_key (S : zb_S) (a : Nat) : zb_key (zb_step2 S a) = zb_key S := by
  unfold zb_step2
  dsimp only
  show zb_key (zb_step3 _ a) = _
  rw [zb_step3_key]
  show zb_key (zb_carry _ _ _) = _
  rw [zb_carry_key]
theorem zb_wStep_key (S : zb_S) (a : Nat) : zb_key (zb_wStep S a).2 = zb_key S := rfl
theorem zb_step_key (S : zb_S) (a : Nat) : zb_key (zb_step S a).2 = zb_key S := by
  unfold zb_step
  dsimp only
  split
  · show zb_key (zb_wStep _ a).2 = _
    rw [zb_wStep_key, zb_plan_key]
  · show zb_key (zb_step2 _ a) = _
    rw [zb_step2_key, zb_wStep_key, zb_plan_key]
theorem zb_steps_key (k : Nat) : ∀ (i : Nat) (S : zb_S), zb_key (zb_steps k i S).2 = zb_key S := by
  induction k with
  | zero => intro i S; rfl
  | succ k ih =>
    intro i S
    rw [zb_steps]
    split
    · rw [ih]
    · split
      · show zb_key (zb_step S i).2 = _
        rw [zb_step_key]
      · rw [ih, zb_step_key]
theorem zb_tr_key (S : zb_S) (chg : Int32) : zb_key (zb_tr S chg).2 = zb_key S := rfl
theorem zb_dayEnd3_key (S : zb_S) : zb_key (zb_dayEnd3 S).2 = zb_key S := by
  unfold zb_dayEnd3
  split <;> rfl
theorem zb_dayEnd2_key (S : zb_S) : zb_key (zb_dayEnd2 S).2 = zb_key S := by
  unfold zb_dayEnd2
  split
  · show zb_key (zb_steps _ _ _).2 = _
    rw [zb_steps_key]; rfl
  · rw [zb_dayEnd3_key, zb_steps_key]; rfl
theorem zb_dayEnd_key (S : zb_S) : zb_key (zb_dayEnd S).2 = zb_key S := by
  unfold zb_dayEnd
  split
  · split
    · rfl
    · rw [zb_dayEnd2_key]; rfl
  · rw [zb_dayEnd2_key]
theorem zb_days_key (k : Nat) : ∀ S : zb_S, zb_key (zb_days k S).2 = zb_key S := by
  induction k with
  | zero => intro S; rfl
  | succ k ih =>
    intro S
    rw [zb_days]
    split
    · show zb_key (zb_dayEnd S).2 = _
      rw [zb_dayEnd_key]
    · rw [ih, zb_dayEnd_key]
-- one turn of each loop
def zb_dueV (S : zb_S) (a i : Nat) : Int32 := if zb_pyr S i = some a then (if zb_due (zb_R S) (zb_ody S i) (zb_bd S) = zb_bd S then 1 else 0) else 0
def zb_paidV (S : zb_S) (i : Nat) (v : Int32) (left : Int64) : Int32 := if v = 0 then 0 else if (zb_oam S i).toInt64 ≤ left then 1 else 0
theorem zb_planOne_eq {S : zb_S} {a i : Nat} {left : Int64} {v u : Int32} (hv : v = zb_dueV S a i) (hu : u = zb_paidV S i v left) :
    zb_planOne S a i left = (zb_sopd (zb_sodu S (upd (zb_odu S) i v)) (upd (zb_opd S) i u), if u = 0 then left else left - (zb_oam S i).toInt64) := by
  subst hv; subst hu; rfl
theorem zb_plan_next {a k i : Nat} {S : zb_S} {left : Int64} (hk : ¬ k = 0) : zb_plan a k i S left = zb_plan a (k - 1) (i + 1) (zb_planOne S a i left).1 (zb_planOne S a i left).2 := by
  obtain ⟨j, rfl⟩ : ∃ j, k = j + 1 := ⟨k - 1, by omega⟩
  rw [zb_plan]; rfl
theorem zq_odu (S : zb_S) (f : Nat → Int32) (i : Nat) (v : Int32) : zb_odu (zb_sodu S (upd f i v)) i = v := pk_us
theorem zq_opd (S : zb_S) (f : Nat → Int32) (i : Nat) (v : Int32) : zb_opd (zb_sopd S (upd f i v)) i = v := pk_us
theorem zb_stepSet_no {S : zb_S} {k i : Nat} {x y : Int32} (hk : ¬ k = 0) (h : zb_opd S i = 0) : zb_stepSet S k i x y = zb_stepSet S (k - 1) (i + 1) x y := by
  obtain ⟨j, rfl⟩ : ∃ j, k = j + 1 := ⟨k - 1, by omega⟩
  rw [zb_stepSet, if_pos h]; rfl
theorem zb_stepSet_yes {S : zb_S} {k i : Nat} {x y : Int32} (hk : ¬ k = 0) (h : ¬ zb_opd S i = 0) : zb_stepSet S k i x y = zb_stepSet S (k - 1) (i + 1) (x ||| zb_bit (zb_pye S i)) (y + 1) := by
  obtain ⟨j, rfl⟩ : ∃ j, k = j + 1 := ⟨k - 1, by omega⟩
  rw [zb_stepSet, if_neg h]; rfl
theorem zb_carry_next {k i : Nat} {S : zb_S} (hk : ¬ k = 0) : zb_carry k i S = zb_carry (k - 1) (i + 1) (zb_carryOne S i) := by
  obtain ⟨j, rfl⟩ : ∃ j, k = j + 1 := ⟨k - 1, by omega⟩
  rw [zb_carry]; rfl
theorem zb_steps_skip {k i : Nat} {S : zb_S} (hk : ¬ k = 0) (h : zb_bd S ≤ zb_mrk S i) : zb_steps k i S = zb_steps (k - 1) (i + 1) S := by
  obtain ⟨j, rfl⟩ : ∃ j, k = j + 1 := ⟨k - 1, by omega⟩
  rw [zb_steps, if_pos h]; rfl
theorem zb_steps_stop {k i : Nat} {S : zb_S} (hk : ¬ k = 0) (h : ¬ zb_bd S ≤ zb_mrk S i) (h2 : (zb_step S i).1 = 0) : zb_steps k i S = (0, (zb_step S i).2) := by
  obtain ⟨j, rfl⟩ : ∃ j, k = j + 1 := ⟨k - 1, by omega⟩
  rw [zb_steps, if_neg h, if_pos h2]
theorem zb_steps_next {k i : Nat} {S : zb_S} (hk : ¬ k = 0) (h : ¬ zb_bd S ≤ zb_mrk S i) (h2 : ¬ (zb_step S i).1 = 0) : zb_steps k i S = zb_steps (k - 1) (i + 1) (zb_step S i).2 := by
  obtain ⟨j, rfl⟩ : ∃ j, k = j + 1 := ⟨k - 1, by omega⟩
  rw [zb_steps, if_neg h, if_neg h2]; rfl
theorem zb_days_stop {k : Nat} {S : zb_S} (hk : ¬ k = 0) (h2 : (zb_dayEnd S).1 = 0) : zb_days k S = (0, (zb_dayEnd S).2) := by
  obtain ⟨j, rfl⟩ : ∃ j, k = j + 1 := ⟨k - 1, by omega⟩
  rw [zb_days, if_pos h2]
theorem zb_days_next {k : Nat} {S : zb_S} (hk : ¬ k = 0) (h2 : ¬ (zb_dayEnd S).1 = 0) : zb_days k S = zb_days (k - 1) (zb_dayEnd S).2 := by
  obtain ⟨j, rfl⟩ : ∃ j, k = j + 1 := ⟨k - 1, by omega⟩
  rw [zb_days, if_neg h2]; rfl
