/-! PURE: the beginning. -/
def zs_z (_ : Nat) : Int32 := 0
def zs_zL (_ : Nat) : Int64 := 0
def zs_zN (_ : Nat) : Option Nat := none
def zm_T0 : zm_S := ((zs_z, zs_z, zs_z, zs_z, zs_zL, zs_zL, zs_z), (zs_z, zs_z), (zs_z, zs_z, zs_z, zs_z, zs_z), (zs_z, 0), (0, 0, -1, 0, 0, 0), (zs_zL, zs_zL, 0, 0, 0, 0))
def zb_S0 : zb_S := ((zs_z, zs_z, zs_z, zs_z, zs_zL, zs_zL, zs_zL, zs_z), (zs_zN, zs_z), (zs_zN, zs_zN, zs_z, zs_z, zs_z, zs_z, zs_z), (zs_z, 0), (0, 0, -1, 0, 0, 0), (zs_zL, zs_zL, 0, 0, 0, 0))
theorem zs_B0 : zs_B zm_T0 zs_z zs_z = zb_S0 := by
  have e1 : zs_hel zm_T0 = zs_zL := by
    funext i
    unfold zs_hel zs_zL
    split
    · have z : zm_held1 zm_T0 (nI i) = fun _ => 0 := by
        funext k
        unfold zm_held1
        exact if_pos (show (0 : Int32) ≤ 0 by decide)
      rw [z]
      unfold zs_sum8
      decide
    · rfl
  have e2 : zs_hol zm_T0 = zs_zN := by
    funext k
    exact if_pos (show (0 : Int32) ≤ 0 by decide)
  have e3 : zs_pyr zm_T0 = zs_zN := by
    funext k
    exact if_neg (show ¬ k < (0 : Int32).toNatClampNeg from Nat.not_lt_zero k)
  have e4 : zs_pye zm_T0 = zs_zN := by
    funext k
    exact if_neg (show ¬ k < (0 : Int32).toNatClampNeg from Nat.not_lt_zero k)
  unfold zs_B
  rw [e1, e2, e3, e4]
  rfl
theorem zs_J0 : zs_J zm_T0 0 := by
  refine ⟨⟨⟨0, by decide, rfl, fun k q => absurd (show (0 : Int32) ≤ 0 by decide) q, fun k q => absurd q (Nat.not_lt_zero k)⟩, ⟨0, by decide, rfl⟩, ⟨0, by decide, rfl⟩, fun i => ⟨0, by decide, rfl⟩, fun i => ⟨0, by decide, rfl⟩, fun k => ⟨⟨0, by decide, rfl⟩, ⟨0, by decide, rfl⟩⟩, ⟨0, by decide, rfl⟩, ⟨0, by decide, rfl⟩⟩, Or.inl rfl⟩
