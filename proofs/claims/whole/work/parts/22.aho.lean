/-- what holds of a state of the class -/
def zb_I (S : zb_S) : Prop := (∃ n, n ≤ 6 ∧ zb_n S = nI n) ∧ (∃ o, o ≤ 6 ∧ zb_o S = nI o) ∧ (∃ r, r ≤ 8 ∧ zb_dm S = nI r) ∧ (∀ i, ∃ c, c < 3 ∧ zb_cur S i = nI c) ∧ (∀ k j, zb_hol S k = some j → j < 6) ∧ (∀ k j, zb_pyr S k = some j → j < 6 ∧ ∃ d, 1 ≤ d ∧ d ≤ 31 ∧ zb_ody S k = nI d) ∧ (∀ k j, zb_pye S k = some j → j < 6)
theorem zb_unit_ne (S : zb_S) (i : Nat) : ¬ zb_unit S i = 0 := by
  unfold zb_unit zb_yearOf
  split <;> decide

set_option maxHeartbeats 4000000 in
set_option maxRecDepth 100000 in
theorem c_A_spendable (l : Launch) (D : va_G) (G : zg_G) (S : zb_S) (i : Nat) (hi : i < 6) : Met l ny_A_spendable (Cond.code ny_A_spendable nc_A_spendable 1 (some .long) :: zw_big) ({ frames := 0, cells := 0, slots := 0, locals := 0 } : Room) (zw_P [.ref (zg_acc G i)] D (zb_tys G) (zb_cells G S)) (zw_R (.long (zb_spend S i))) 0 0 (fun _ => False) := by
  refine Met.ofW (cc := nc_A_spendable) (maxL := 1) (ret := (some .long)) (by decide) rfl ?_
  intro p e s m args below meth c s₁ B hml hv
  obtain ⟨rfl, hP, hK⟩ := hv
  have hx := B.exec
  have hb := B.bytes
  have hr := B.returns
  have hts0 := atoms_spec (ws := Cond.code ny_A_spendable nc_A_spendable 1 (some .long) :: zw_big) B.pre
  have hts : ∀ w ∈ zw_big, w.before [.ref (zg_acc G i)].toArray s = true := fun w h => hts0 w (List.mem_cons_of_mem _ h)
  have hown : s.vm.findClass nR_A = some m.cls := findClass_of_methodNamed B.named
  have hlk := B.notSynchronized
  have hl := lv_entry ([.ref (zg_acc G i)]) (n := 1) (Nat.le_of_ble_eq_true rfl)
  rw [lg_entry_eq]
  generalize (lg_sl ([.ref (zg_acc G i)]) ++ List.replicate (1 - (lg_sl ([.ref (zg_acc G i)])).length) Slot.unset).toArray = ls at hl ⊢
  have hl : lv_has ls 1 [(0, .ref (zg_acc G i))] := hl
  have hF : CallFix p m c nc_A_spendable 1 s [.ref (zg_acc G i)].toArray zw_big nR_A := ⟨hx, hb, hml, hown, hts⟩
  refine lv_aload_n hx hb nd_A_spendable_0 rfl (zv_at hl 0 rfl) ?_
  refine zb_getA hx hb hts hown hK hP (by assumption) 5 (by decide) (hts _ nw_83) rfl nd_A_spendable_1 ?_
  refine lv_aload_n hx hb nd_A_spendable_4 rfl (zv_at hl 0 rfl) ?_
  refine zb_getA hx hb hts hown hK hP (by assumption) 3 (by decide) (hts _ nw_79) rfl nd_A_spendable_5 ?_
  refine lv_i2l (v := _) hx hb nd_A_spendable_8 rfl ?_
  refine lv_ladd hx hb nd_A_spendable_9 ?_
  refine lv_aload_n hx hb nd_A_spendable_10 rfl (zv_at hl 0 rfl) ?_
  refine zb_getA hx hb hts hown hK hP (by assumption) 6 (by decide) (hts _ nw_85) rfl nd_A_spendable_11 ?_
  refine lv_lsub hx hb nd_A_spendable_14 ?_
  refine zw_lret hx hb hr hlk nd_A_spendable_15 ?_
  all_goals rfl

set_option maxHeartbeats 4000000 in
set_option maxRecDepth 100000 in
theorem c_A_accrue (l : Launch) (D : va_G) (G : zg_G) (hG : zw_apart (zb_adr G)) (S : zb_S) (i : Nat) (hi : i < 6) (k : Int32) : Met l ny_A_accrue (Cond.code ny_A_accrue nc_A_accrue 2 none :: zw_big) ({ frames := 0, cells := 0, slots := 0, locals := 0 } : Room) (zw_P [.ref (zg_acc G i), .int k] D (zb_tys G) (zb_cells G S)) (zb_Qv D G (zb_accrue S i k)) 0 0 (zb_Ad G) := by
  refine Met.ofW (cc := nc_A_accrue) (maxL := 2) (ret := none) (by decide) rfl ?_
  intro p e s m args below meth c s₁ B hml hv
  obtain ⟨rfl, hP, hK⟩ := hv
  have hx := B.exec
  have hb := B.bytes
  have hr := B.returns
  have hts0 := atoms_spec (ws := Cond.code ny_A_accrue nc_A_accrue 2 none :: zw_big) B.pre
  have hts : ∀ w ∈ zw_big, w.before [.ref (zg_acc G i), .int k].toArray s = true := fun w h => hts0 w (List.mem_cons_of_mem _ h)
  have hown : s.vm.findClass nR_A = some m.cls := findClass_of_methodNamed B.named
  have hlk := B.notSynchronized
  have hS : va_S (zb_Ad G) s.heap s.heap [] := va_S.rf
  have hl := lv_entry ([.ref (zg_acc G i), .int k]) (n := 2) (Nat.le_of_ble_eq_true rfl)
  rw [lg_entry_eq]
  generalize (lg_sl ([.ref (zg_acc G i), .int k]) ++ List.replicate (2 - (lg_sl ([.ref (zg_acc G i), .int k])).length) Slot.unset).toArray = ls at hl ⊢
  have hl : lv_has ls 2 [(0, .ref (zg_acc G i)), (1, .int k)] := hl
  have hF : CallFix p m c nc_A_accrue 2 s [.ref (zg_acc G i), .int k].toArray zw_big nR_A := ⟨hx, hb, hml, hown, hts⟩
  refine lv_aload_n hx hb nd_A_accrue_0 rfl (zv_at hl 0 rfl) ?_
  refine lv_dup hx hb nd_A_accrue_1 rfl ?_
  refine zb_getA hx hb hts hown hK hP (by assumption) 7 (by decide) (hts _ nw_87) rfl nd_A_accrue_2 ?_
  refine lv_aload_n hx hb nd_A_accrue_5 rfl (zv_at hl 0 rfl) ?_
  refine zb_getA hx hb hts hown hK hP (by assumption) 5 (by decide) (hts _ nw_83) rfl nd_A_accrue_6 ?_
  refine lv_aload_n hx hb nd_A_accrue_9 rfl (zv_at hl 0 rfl) ?_
  refine zb_getA hx hb hts hown hK hP (by assumption) 4 (by decide) (hts _ nw_82) rfl nd_A_accrue_10 ?_
  refine lv_i2l (v := _) hx hb nd_A_accrue_13 rfl ?_
  refine lv_lmul hx hb nd_A_accrue_14 ?_
  refine lv_iload_n hx hb nd_A_accrue_15 rfl (zv_at hl 1 rfl) ?_
  refine lv_i2l (v := _) hx hb nd_A_accrue_16 rfl ?_
  refine lv_lmul hx hb nd_A_accrue_17 ?_
  refine lv_ladd hx hb nd_A_accrue_18 ?_
  refine zb_put_acr hx hb hts hown hK hG hP hS (by assumption) (hts _ nw_87) nd_A_accrue_19 (fun H locs hP hS => ?_)
  refine zb_vret hx hb hr hlk nd_A_accrue_22 hP hS ?_
  all_goals rfl

set_option maxHeartbeats 4000000 in
set_option maxRecDepth 100000 in
theorem c_A_nearest (l : Launch) (x u : Int64) (hu : ¬ u = 0) : Met l ny_A_nearest (Cond.code ny_A_nearest nc_A_nearest 10 (some .long) :: zw_big) ({ frames := 1, cells := 0, slots := 0, locals := 25 } : Room) (zw_N [.long x, .long u]) (zw_R (.long (zb_near x u))) 0 0 (fun _ => False) := by
  refine Met.ofW (cc := nc_A_nearest) (maxL := 10) (ret := (some .long)) (by decide) rfl ?_
  intro p e s m args below meth c s₁ B hml hv
  have hv : args = [.long x, .long u].toArray := hv
  subst hv
  have hx := B.exec
  have hb := B.bytes
  have hr := B.returns
  have hts0 := atoms_spec (ws := Cond.code ny_A_nearest nc_A_nearest 10 (some .long) :: zw_big) B.pre
  have hts : ∀ w ∈ zw_big, w.before [.long x, .long u].toArray s = true := fun w h => hts0 w (List.mem_cons_of_mem _ h)
  have hown : s.vm.findClass nR_A = some m.cls := findClass_of_methodNamed B.named
  have hlk := B.notSynchronized
  have hl := lv_entry ([.long x, .long u]) (n := 10) (Nat.le_of_ble_eq_true rfl)
  rw [lg_entry_eq]
  generalize (lg_sl ([.long x, .long u]) ++ List.replicate (10 - (lg_sl ([.long x, .long u])).length) Slot.unset).toArray = ls at hl ⊢
  have hl : lv_has ls 10 [(0, .long x), (2, .long u)] := hl
  have hF : CallFix p m c nc_A_nearest 10 s [.long x, .long u].toArray zw_big nR_A := ⟨hx, hb, hml, hown, hts⟩
  refine lv_lload_n hx hb nd_A_nearest_0 rfl (zv_at hl 0 rfl) ?_
  refine lv_lload_n hx hb nd_A_nearest_1 rfl (zv_at hl 2 rfl) ?_
  refine zw_sR (As := [_, _]) (rest := _) hF (c_T_floorDivL l _ _ hu) zw_preN nk_T_floorDivL nw_400 ⟨rfl, rfl, Nat.le_of_ble_eq_true rfl, Nat.le_of_ble_eq_true rfl⟩ rfl hl.1 rfl (Nat.le_of_ble_eq_true rfl) ⟨Nat.zero_le _, Nat.zero_le _⟩ nd_A_nearest_2 ?_
  refine lv_lstore hx hb nd_A_nearest_5 hl (by decide) rfl (fun ls hl => ?_)
  refine lv_ldc2 (v := 2) hx hb hown (hts _ nw_403) nd_A_nearest_7 ?_
  refine lv_lload_n hx hb nd_A_nearest_10 rfl (zv_at hl 0 rfl) ?_
  refine lv_lload hx hb nd_A_nearest_11 (zv_at hl 4 rfl) ?_
  refine lv_lload_n hx hb nd_A_nearest_13 rfl (zv_at hl 2 rfl) ?_
  refine lv_lmul hx hb nd_A_nearest_14 ?_
  refine lv_lsub hx hb nd_A_nearest_15 ?_
  refine lv_lmul hx hb nd_A_nearest_16 ?_
  refine lv_lstore hx hb nd_A_nearest_17 hl (by decide) rfl (fun ls hl => ?_)
  refine lv_lload hx hb nd_A_nearest_19 (zv_at hl 4 rfl) ?_
  refine lv_lconst (v := 1) hx hb nd_A_nearest_21 (by decide) ?_
  refine lv_land hx hb nd_A_nearest_22 ?_
  refine lv_lconst (v := 1) hx hb nd_A_nearest_23 (by decide) ?_
  refine W.lcmp hx hb nd_A_nearest_24 ?_
  refine lv_if_ne (tgt := 32) hx hb nd_A_nearest_25 (by decide) (fun h_25 => ?_) (fun h_25 => ?_)
  · skip
    have h_25 := (show ¬ _ from fun q => h_25 ((lg_cmp_eq _ _).mpr q))
    refine lv_iconst (v := 0) hx hb nd_A_nearest_32 (by decide) ?_
    refine lv_istore hx hb nd_A_nearest_33 hl (by decide) rfl (fun ls hl => ?_)
    refine lv_lload hx hb nd_A_nearest_35 (zv_at hl 6 rfl) ?_
    refine lv_lload_n hx hb nd_A_nearest_37 rfl (zv_at hl 2 rfl) ?_
    refine W.lcmp hx hb nd_A_nearest_38 ?_
    refine lv_if_gt (tgt := 54) hx hb nd_A_nearest_39 (by decide) (fun h_39 => ?_) (fun h_39 => ?_)
    · skip
      have h_39 := (lg_cmp_gt _ _).mp h_39
      refine lv_iconst (v := 1) hx hb nd_A_nearest_54 (by decide) ?_
      refine lv_goto (tgt := 59) hx hb nd_A_nearest_55 (by decide) ?_
      refine lv_istore hx hb nd_A_nearest_59 hl (by decide) rfl (fun ls hl => ?_)
      refine lv_iload hx hb nd_A_nearest_61 (zv_at hl 9 rfl) ?_
      refine lv_if_eq (tgt := 73) hx hb nd_A_nearest_63 (by decide) (fun h_63 => ?_) (fun h_63 => ?_)
      · skip
        refine lv_lload hx hb nd_A_nearest_73 (zv_at hl 4 rfl) ?_
        refine zw_lret hx hb hr hlk nd_A_nearest_75 ?_
        unfold zb_near zb_near2
        first
          | exact absurd h_63 (by decide)
          | exact absurd h_51 (by decide)
          | rw [if_neg (Int64.not_le.mpr h_39)]
          | rw [if_pos (Int64.not_lt.mp h_39), if_neg h_46]
          | rw [if_pos (Int64.not_lt.mp h_39), if_pos h_46, if_pos h_25]
          | rw [if_pos (Int64.not_lt.mp h_39), if_pos h_46, if_neg h_25]
      · skip
        refine lv_lload hx hb nd_A_nearest_66 (zv_at hl 4 rfl) ?_
        refine lv_lconst (v := 1) hx hb nd_A_nearest_68 (by decide) ?_
        refine lv_ladd hx hb nd_A_nearest_69 ?_
        refine lv_goto (tgt := 75) hx hb nd_A_nearest_70 (by decide) ?_
        refine zw_lret hx hb hr hlk nd_A_nearest_75 ?_
        unfold zb_near zb_near2
        first
          | exact absurd h_63 (by decide)
          | exact absurd h_51 (by decide)
          | rw [if_neg (Int64.not_le.mpr h_39)]
          | rw [if_pos (Int64.not_lt.mp h_39), if_neg h_46]
          | rw [if_pos (Int64.not_lt.mp h_39), if_pos h_46, if_pos h_25]
          | rw [if_pos (Int64.not_lt.mp h_39), if_pos h_46, if_neg h_25]
    · skip
      have h_39 := (show ¬ _ from fun q => h_39 ((lg_cmp_gt _ _).mpr q))
      refine lv_lload hx hb nd_A_nearest_42 (zv_at hl 6 rfl) ?_
      refine lv_lload_n hx hb nd_A_nearest_44 rfl (zv_at hl 2 rfl) ?_
      refine W.lcmp hx hb nd_A_nearest_45 ?_
      refine lv_if_ne (tgt := 58) hx hb nd_A_nearest_46 (by decide) (fun h_46 => ?_) (fun h_46 => ?_)
      · skip
        have h_46 := (show ¬ _ from fun q => h_46 ((lg_cmp_eq _ _).mpr q))
        refine lv_iconst (v := 0) hx hb nd_A_nearest_58 (by decide) ?_
        refine lv_istore hx hb nd_A_nearest_59 hl (by decide) rfl (fun ls hl => ?_)
        refine lv_iload hx hb nd_A_nearest_61 (zv_at hl 9 rfl) ?_
        refine lv_if_eq (tgt := 73) hx hb nd_A_nearest_63 (by decide) (fun h_63 => ?_) (fun h_63 => ?_)
        · skip
          refine lv_lload hx hb nd_A_nearest_73 (zv_at hl 4 rfl) ?_
          refine zw_lret hx hb hr hlk nd_A_nearest_75 ?_
          unfold zb_near zb_near2
          first
            | exact absurd h_63 (by decide)
            | exact absurd h_51 (by decide)
            | rw [if_neg (Int64.not_le.mpr h_39)]
            | rw [if_pos (Int64.not_lt.mp h_39), if_neg h_46]
            | rw [if_pos (Int64.not_lt.mp h_39), if_pos h_46, if_pos h_25]
            | rw [if_pos (Int64.not_lt.mp h_39), if_pos h_46, if_neg h_25]
        · skip
          refine lv_lload hx hb nd_A_nearest_66 (zv_at hl 4 rfl) ?_
          refine lv_lconst (v := 1) hx hb nd_A_nearest_68 (by decide) ?_
          refine lv_ladd hx hb nd_A_nearest_69 ?_
          refine lv_goto (tgt := 75) hx hb nd_A_nearest_70 (by decide) ?_
          refine zw_lret hx hb hr hlk nd_A_nearest_75 ?_
          unfold zb_near zb_near2
          first
            | exact absurd h_63 (by decide)
            | exact absurd h_51 (by decide)
            | rw [if_neg (Int64.not_le.mpr h_39)]
            | rw [if_pos (Int64.not_lt.mp h_39), if_neg h_46]
            | rw [if_pos (Int64.not_lt.mp h_39), if_pos h_46, if_pos h_25]
            | rw [if_pos (Int64.not_lt.mp h_39), if_pos h_46, if_neg h_25]
      · skip
        have h_46 := (lg_cmp_eq _ _).mp h_46
        refine lv_iload hx hb nd_A_nearest_49 (zv_at hl 8 rfl) ?_
        refine lv_if_eq (tgt := 58) hx hb nd_A_nearest_51 (by decide) (fun h_51 => ?_) (fun h_51 => ?_)
        · skip
          refine lv_iconst (v := 0) hx hb nd_A_nearest_58 (by decide) ?_
          refine lv_istore hx hb nd_A_nearest_59 hl (by decide) rfl (fun ls hl => ?_)
          refine lv_iload hx hb nd_A_nearest_61 (zv_at hl 9 rfl) ?_
          refine lv_if_eq (tgt := 73) hx hb nd_A_nearest_63 (by decide) (fun h_63 => ?_) (fun h_63 => ?_)
          · skip
            refine lv_lload hx hb nd_A_nearest_73 (zv_at hl 4 rfl) ?_
            refine zw_lret hx hb hr hlk nd_A_nearest_75 ?_
            unfold zb_near zb_near2
            first
              | exact absurd h_63 (by decide)
              | exact absurd h_51 (by decide)
              | rw [if_neg (Int64.not_le.mpr h_39)]
              | rw [if_pos (Int64.not_lt.mp h_39), if_neg h_46]
              | rw [if_pos (Int64.not_lt.mp h_39), if_pos h_46, if_pos h_25]
              | rw [if_pos (Int64.not_lt.mp h_39), if_pos h_46, if_neg h_25]
          · skip
            refine lv_lload hx hb nd_A_nearest_66 (zv_at hl 4 rfl) ?_
            refine lv_lconst (v := 1) hx hb nd_A_nearest_68 (by decide) ?_
            refine lv_ladd hx hb nd_A_nearest_69 ?_
            refine lv_goto (tgt := 75) hx hb nd_A_nearest_70 (by decide) ?_
            refine zw_lret hx hb hr hlk nd_A_nearest_75 ?_
            unfold zb_near zb_near2
            first
              | exact absurd h_63 (by decide)
              | exact absurd h_51 (by decide)
              | rw [if_neg (Int64.not_le.mpr h_39)]
              | rw [if_pos (Int64.not_lt.mp h_39), if_neg h_46]
              | rw [if_pos (Int64.not_lt.mp h_39), if_pos h_46, if_pos h_25]
              | rw [if_pos (Int64.not_lt.mp h_39), if_pos h_46, if_neg h_25]
        · skip
          refine lv_iconst (v := 1) hx hb nd_A_nearest_54 (by decide) ?_
          refine lv_goto (tgt := 59) hx hb nd_A_nearest_55 (by decide) ?_
          refine lv_istore hx hb nd_A_nearest_59 hl (by decide) rfl (fun ls hl => ?_)
          refine lv_iload hx hb nd_A_nearest_61 (zv_at hl 9 rfl) ?_
          refine lv_if_eq (tgt := 73) hx hb nd_A_nearest_63 (by decide) (fun h_63 => ?_) (fun h_63 => ?_)
          · skip
            refine lv_lload hx hb nd_A_nearest_73 (zv_at hl 4 rfl) ?_
            refine zw_lret hx hb hr hlk nd_A_nearest_75 ?_
            unfold zb_near zb_near2
            first
              | exact absurd h_63 (by decide)
              | exact absurd h_51 (by decide)
              | rw [if_neg (Int64.not_le.mpr h_39)]
              | rw [if_pos (Int64.not_lt.mp h_39), if_neg h_46]
              | rw [if_pos (Int64.not_lt.mp h_39), if_pos h_46, if_pos h_25]
              | rw [if_pos (Int64.not_lt.mp h_39), if_pos h_46, if_neg h_25]
          · skip
            refine lv_lload hx hb nd_A_nearest_66 (zv_at hl 4 rfl) ?_
            refine lv_lconst (v := 1) hx hb nd_A_nearest_68 (by decide) ?_
            refine lv_ladd hx hb nd_A_nearest_69 ?_
            refine lv_goto (tgt := 75) hx hb nd_A_nearest_70 (by decide) ?_
            refine zw_lret hx hb hr hlk nd_A_nearest_75 ?_
            unfold zb_near zb_near2
            first
              | exact absurd h_63 (by decide)
              | exact absurd h_51 (by decide)
              | rw [if_neg (Int64.not_le.mpr h_39)]
              | rw [if_pos (Int64.not_lt.mp h_39), if_neg h_46]
              | rw [if_pos (Int64.not_lt.mp h_39), if_pos h_46, if_pos h_25]
              | rw [if_pos (Int64.not_lt.mp h_39), if_pos h_46, if_neg h_25]
  · skip
    have h_25 := (lg_cmp_eq _ _).mp h_25
    refine lv_iconst (v := 1) hx hb nd_A_nearest_28 (by decide) ?_
    refine lv_goto (tgt := 33) hx hb nd_A_nearest_29 (by decide) ?_
    refine lv_istore hx hb nd_A_nearest_33 hl (by decide) rfl (fun ls hl => ?_)
    refine lv_lload hx hb nd_A_nearest_35 (zv_at hl 6 rfl) ?_
    refine lv_lload_n hx hb nd_A_nearest_37 rfl (zv_at hl 2 rfl) ?_
    refine W.lcmp hx hb nd_A_nearest_38 ?_
    refine lv_if_gt (tgt := 54) hx hb nd_A_nearest_39 (by decide) (fun h_39 => ?_) (fun h_39 => ?_)
    · skip
      have h_39 := (lg_cmp_gt _ _).mp h_39
      refine lv_iconst (v := 1) hx hb nd_A_nearest_54 (by decide) ?_
      refine lv_goto (tgt := 59) hx hb nd_A_nearest_55 (by decide) ?_
      refine lv_istore hx hb nd_A_nearest_59 hl (by decide) rfl (fun ls hl => ?_)
      refine lv_iload hx hb nd_A_nearest_61 (zv_at hl 9 rfl) ?_
      refine lv_if_eq (tgt := 73) hx hb nd_A_nearest_63 (by decide) (fun h_63 => ?_) (fun h_63 => ?_)
      · skip
        refine lv_lload hx hb nd_A_nearest_73 (zv_at hl 4 rfl) ?_
        refine zw_lret hx hb hr hlk nd_A_nearest_75 ?_
        unfold zb_near zb_near2
        first
          | exact absurd h_63 (by decide)
          | exact absurd h_51 (by decide)
          | rw [if_neg (Int64.not_le.mpr h_39)]
          | rw [if_pos (Int64.not_lt.mp h_39), if_neg h_46]
          | rw [if_pos (Int64.not_lt.mp h_39), if_pos h_46, if_pos h_25]
          | rw [if_pos (Int64.not_lt.mp h_39), if_pos h_46, if_neg h_25]
      · skip
        refine lv_lload hx hb nd_A_nearest_66 (zv_at hl 4 rfl) ?_
        refine lv_lconst (v := 1) hx hb nd_A_nearest_68 (by decide) ?_
        refine lv_ladd hx hb nd_A_nearest_69 ?_
        refine lv_goto (tgt := 75) hx hb nd_A_nearest_70 (by decide) ?_
        refine zw_lret hx hb hr hlk nd_A_nearest_75 ?_
        unfold zb_near zb_near2
        first
          | exact absurd h_63 (by decide)
          | exact absurd h_51 (by decide)
          | rw [if_neg (Int64.not_le.mpr h_39)]
          | rw [if_pos (Int64.not_lt.mp h_39), if_neg h_46]
          | rw [if_pos (Int64.not_lt.mp h_39), if_pos h_46, if_pos h_25]
          | rw [if_pos (Int64.not_lt.mp h_39), if_pos h_46, if_neg h_25]
    · skip
      have h_39 := (show ¬ _ from fun q => h_39 ((lg_cmp_gt _ _).mpr q))
      refine lv_lload hx hb nd_A_nearest_42 (zv_at hl 6 rfl) ?_
      refine lv_lload_n hx hb nd_A_nearest_44 rfl (zv_at hl 2 rfl) ?_
      refine W.lcmp hx hb nd_A_nearest_45 ?_
      refine lv_if_ne (tgt := 58) hx hb nd_A_nearest_46 (by decide) (fun h_46 => ?_) (fun h_46 => ?_)
      · skip
        have h_46 := (show ¬ _ from fun q => h_46 ((lg_cmp_eq _ _).mpr q))
        refine lv_iconst (v := 0) hx hb nd_A_nearest_58 (by decide) ?_
        refine lv_istore hx hb nd_A_nearest_59 hl (by decide) rfl (fun ls hl => ?_)
        refine lv_iload hx hb nd_A_nearest_61 (zv_at hl 9 rfl) ?_
        refine lv_if_eq (tgt := 73) hx hb nd_A_nearest_63 (by decide) (fun h_63 => ?_) (fun h_63 => ?_)
        · skip
          refine lv_lload hx hb nd_A_nearest_73 (zv_at hl 4 rfl) ?_
          refine zw_lret hx hb hr hlk nd_A_nearest_75 ?_
          unfold zb_near zb_near2
          first
            | exact absurd h_63 (by decide)
            | exact absurd h_51 (by decide)
            | rw [if_neg (Int64.not_le.mpr h_39)]
            | rw [if_pos (Int64.not_lt.mp h_39), if_neg h_46]
            | rw [if_pos (Int64.not_lt.mp h_39), if_pos h_46, if_pos h_25]
            | rw [if_pos (Int64.not_lt.mp h_39), if_pos h_46, if_neg h_25]
        · skip
          refine lv_lload hx hb nd_A_nearest_66 (zv_at hl 4 rfl) ?_
          refine lv_lconst (v := 1) hx hb nd_A_nearest_68 (by decide) ?_
          refine lv_ladd hx hb nd_A_nearest_69 ?_
          refine lv_goto (tgt := 75) hx hb nd_A_nearest_70 (by decide) ?_
          refine zw_lret hx hb hr hlk nd_A_nearest_75 ?_
          unfold zb_near zb_near2
          first
            | exact absurd h_63 (by decide)
            | exact absurd h_51 (by decide)
            | rw [if_neg (Int64.not_le.mpr h_39)]
            | rw [if_pos (Int64.not_lt.mp h_39), if_neg h_46]
            | rw [if_pos (Int64.not_lt.mp h_39), if_pos h_46, if_pos h_25]
            | rw [if_pos (Int64.not_lt.mp h_39), if_pos h_46, if_neg h_25]
      · skip
        have h_46 := (lg_cmp_eq _ _).mp h_46
        refine lv_iload hx hb nd_A_nearest_49 (zv_at hl 8 rfl) ?_
        refine lv_if_eq (tgt := 58) hx hb nd_A_nearest_51 (by decide) (fun h_51 => ?_) (fun h_51 => ?_)
        · skip
          refine lv_iconst (v := 0) hx hb nd_A_nearest_58 (by decide) ?_
          refine lv_istore hx hb nd_A_nearest_59 hl (by decide) rfl (fun ls hl => ?_)
          refine lv_iload hx hb nd_A_nearest_61 (zv_at hl 9 rfl) ?_
          refine lv_if_eq (tgt := 73) hx hb nd_A_nearest_63 (by decide) (fun h_63 => ?_) (fun h_63 => ?_)
          · skip
            refine lv_lload hx hb nd_A_nearest_73 (zv_at hl 4 rfl) ?_
            refine zw_lret hx hb hr hlk nd_A_nearest_75 ?_
            unfold zb_near zb_near2
            first
              | exact absurd h_63 (by decide)
              | exact absurd h_51 (by decide)
              | rw [if_neg (Int64.not_le.mpr h_39)]
              | rw [if_pos (Int64.not_lt.mp h_39), if_neg h_46]
              | rw [if_pos (Int64.not_lt.mp h_39), if_pos h_46, if_pos h_25]
              | rw [if_pos (Int64.not_lt.mp h_39), if_pos h_46, if_neg h_25]
          · skip
            refine lv_lload hx hb nd_A_nearest_66 (zv_at hl 4 rfl) ?_
            refine lv_lconst (v := 1) hx hb nd_A_nearest_68 (by decide) ?_
            refine lv_ladd hx hb nd_A_nearest_69 ?_
            refine lv_goto (tgt := 75) hx hb nd_A_nearest_70 (by decide) ?_
            refine zw_lret hx hb hr hlk nd_A_nearest_75 ?_
            unfold zb_near zb_near2
            first
              | exact absurd h_63 (by decide)
              | exact absurd h_51 (by decide)
              | rw [if_neg (Int64.not_le.mpr h_39)]
              | rw [if_pos (Int64.not_lt.mp h_39), if_neg h_46]
              | rw [if_pos (Int64.not_lt.mp h_39), if_pos h_46, if_pos h_25]
              | rw [if_pos (Int64.not_lt.mp h_39), if_pos h_46, if_neg h_25]
        · skip
          refine lv_iconst (v := 1) hx hb nd_A_nearest_54 (by decide) ?_
          refine lv_goto (tgt := 59) hx hb nd_A_nearest_55 (by decide) ?_
          refine lv_istore hx hb nd_A_nearest_59 hl (by decide) rfl (fun ls hl => ?_)
          refine lv_iload hx hb nd_A_nearest_61 (zv_at hl 9 rfl) ?_
          refine lv_if_eq (tgt := 73) hx hb nd_A_nearest_63 (by decide) (fun h_63 => ?_) (fun h_63 => ?_)
          · skip
            refine lv_lload hx hb nd_A_nearest_73 (zv_at hl 4 rfl) ?_
            refine zw_lret hx hb hr hlk nd_A_nearest_75 ?_
            unfold zb_near zb_near2
            first
              | exact absurd h_63 (by decide)
              | exact absurd h_51 (by decide)
              | rw [if_neg (Int64.not_le.mpr h_39)]
              | rw [if_pos (Int64.not_lt.mp h_39), if_neg h_46]
              | rw [if_pos (Int64.not_lt.mp h_39), if_pos h_46, if_pos h_25]
              | rw [if_pos (Int64.not_lt.mp h_39), if_pos h_46, if_neg h_25]
          · skip
            refine lv_lload hx hb nd_A_nearest_66 (zv_at hl 4 rfl) ?_
            refine lv_lconst (v := 1) hx hb nd_A_nearest_68 (by decide) ?_
            refine lv_ladd hx hb nd_A_nearest_69 ?_
            refine lv_goto (tgt := 75) hx hb nd_A_nearest_70 (by decide) ?_
            refine zw_lret hx hb hr hlk nd_A_nearest_75 ?_
            unfold zb_near zb_near2
            first
              | exact absurd h_63 (by decide)
              | exact absurd h_51 (by decide)
              | rw [if_neg (Int64.not_le.mpr h_39)]
              | rw [if_pos (Int64.not_lt.mp h_39), if_neg h_46]
              | rw [if_pos (Int64.not_lt.mp h_39), if_pos h_46, if_pos h_25]
              | rw [if_pos (Int64.not_lt.mp h_39), if_pos h_46, if_neg h_25]

set_option maxHeartbeats 4000000 in
set_option maxRecDepth 100000 in
theorem c_A_takeInterest (l : Launch) (D : va_G) (G : zg_G) (hG : zw_apart (zb_adr G)) (S : zb_S) (i : Nat) (hi : i < 6) : Met l ny_A_takeInterest (Cond.code ny_A_takeInterest nc_A_takeInterest 5 (some .long) :: zw_big) ({ frames := 2, cells := 0, slots := 0, locals := 54 } : Room) (zw_P [.ref (zg_acc G i)] D (zb_tys G) (zb_cells G S)) (zb_Ql D G (zb_whole S i, zb_take S i)) 0 0 (zb_Ad G) := by
  refine Met.ofW (cc := nc_A_takeInterest) (maxL := 5) (ret := (some .long)) (by decide) rfl ?_
  intro p e s m args below meth c s₁ B hml hv
  obtain ⟨rfl, hP, hK⟩ := hv
  have hx := B.exec
  have hb := B.bytes
  have hr := B.returns
  have hts0 := atoms_spec (ws := Cond.code ny_A_takeInterest nc_A_takeInterest 5 (some .long) :: zw_big) B.pre
  have hts : ∀ w ∈ zw_big, w.before [.ref (zg_acc G i)].toArray s = true := fun w h => hts0 w (List.mem_cons_of_mem _ h)
  have hown : s.vm.findClass nR_A = some m.cls := findClass_of_methodNamed B.named
  have hlk := B.notSynchronized
  have hS : va_S (zb_Ad G) s.heap s.heap [] := va_S.rf
  have hl := lv_entry ([.ref (zg_acc G i)]) (n := 5) (Nat.le_of_ble_eq_true rfl)
  rw [lg_entry_eq]
  generalize (lg_sl ([.ref (zg_acc G i)]) ++ List.replicate (5 - (lg_sl ([.ref (zg_acc G i)])).length) Slot.unset).toArray = ls at hl ⊢
  have hl : lv_has ls 5 [(0, .ref (zg_acc G i))] := hl
  have hF : CallFix p m c nc_A_takeInterest 5 s [.ref (zg_acc G i)].toArray zw_big nR_A := ⟨hx, hb, hml, hown, hts⟩
  refine lv_ldc2 (v := 10000) hx hb hown (hts _ nw_393) nd_A_takeInterest_0 ?_
  refine lv_aload_n hx hb nd_A_takeInterest_3 rfl (zv_at hl 0 rfl) ?_
  refine zb_getA hx hb hts hown hK hP (by assumption) 2 (by decide) (hts _ nw_78) rfl nd_A_takeInterest_4 ?_
  refine zw_sR (As := [_]) (rest := _) hF (c_C_yearOf l _) zw_preN nk_C_yearOf nw_394 ⟨rfl, rfl, Nat.le_of_ble_eq_true rfl, Nat.le_of_ble_eq_true rfl⟩ rfl hl.1 rfl (Nat.le_of_ble_eq_true rfl) ⟨Nat.zero_le _, Nat.zero_le _⟩ nd_A_takeInterest_7 ?_
  refine lv_i2l (v := _) hx hb nd_A_takeInterest_10 rfl ?_
  refine lv_lmul hx hb nd_A_takeInterest_11 ?_
  refine lv_lstore_n hx hb nd_A_takeInterest_12 rfl hl (by decide) rfl (fun ls hl => ?_)
  refine lv_aload_n hx hb nd_A_takeInterest_13 rfl (zv_at hl 0 rfl) ?_
  refine zb_getA hx hb hts hown hK hP (by assumption) 7 (by decide) (hts _ nw_87) rfl nd_A_takeInterest_14 ?_
  refine lv_lload_n hx hb nd_A_takeInterest_17 rfl (zv_at hl 1 rfl) ?_
  refine zw_sR (As := [_, _]) (rest := _) hF (c_A_nearest l _ _ (by exact zb_unit_ne S i)) zw_preN nk_A_nearest nw_397 ⟨rfl, rfl, Nat.le_of_ble_eq_true rfl, Nat.le_of_ble_eq_true rfl⟩ rfl hl.1 rfl (Nat.le_of_ble_eq_true rfl) ⟨Nat.zero_le _, Nat.zero_le _⟩ nd_A_takeInterest_18 ?_
  refine lv_lstore_n hx hb nd_A_takeInterest_21 rfl hl (by decide) rfl (fun ls hl => ?_)
  refine lv_aload_n hx hb nd_A_takeInterest_22 rfl (zv_at hl 0 rfl) ?_
  refine lv_dup hx hb nd_A_takeInterest_23 rfl ?_
  refine zb_getA hx hb hts hown hK hP (by assumption) 5 (by decide) (hts _ nw_83) rfl nd_A_takeInterest_24 ?_
  refine lv_lload_n hx hb nd_A_takeInterest_27 rfl (zv_at hl 3 rfl) ?_
  refine lv_ladd hx hb nd_A_takeInterest_28 ?_
  refine zb_put_bal hx hb hts hown hK hG hP hS (by assumption) (hts _ nw_83) nd_A_takeInterest_29 (fun H locs hP hS => ?_)
  refine lv_aload_n hx hb nd_A_takeInterest_32 rfl (zv_at hl 0 rfl) ?_
  refine lv_dup hx hb nd_A_takeInterest_33 rfl ?_
  refine zb_getA hx hb hts hown hK hP (by assumption) 7 (by decide) (hts _ nw_87) rfl nd_A_takeInterest_34 ?_
  refine lv_lload_n hx hb nd_A_takeInterest_37 rfl (zv_at hl 3 rfl) ?_
  refine lv_lload_n hx hb nd_A_takeInterest_38 rfl (zv_at hl 1 rfl) ?_
  refine lv_lmul hx hb nd_A_takeInterest_39 ?_
  refine lv_lsub hx hb nd_A_takeInterest_40 ?_
  refine zb_put_acr hx hb hts hown hK hG hP hS (by assumption) (hts _ nw_87) nd_A_takeInterest_41 (fun H locs hP hS => ?_)
  refine lv_lload_n hx hb nd_A_takeInterest_44 rfl (zv_at hl 3 rfl) ?_
  refine zb_lret hx hb hr hlk nd_A_takeInterest_45 hP hS ?_
  all_goals rfl

set_option maxHeartbeats 4000000 in
set_option maxRecDepth 100000 in
theorem c_H_begin (l : Launch) (D : va_G) (G : zg_G) (hG : zw_apart (zb_adr G)) (S : zb_S) (k i : Nat) (hk : k < 8) (hi : i < 6) (a : Int32) : Met l ny_H_begin (Cond.code ny_H_begin nc_H_begin 3 none :: zw_big) ({ frames := 0, cells := 0, slots := 0, locals := 0 } : Room) (zw_P [.ref (zg_hld G k), .ref (zg_acc G i), .int a] D (zb_tys G) (zb_cells G S)) (zb_Qv D G (zb_begin S k i a)) 0 0 (zb_Ad G) := by
  refine Met.ofW (cc := nc_H_begin) (maxL := 3) (ret := none) (by decide) rfl ?_
  intro p e s m args below meth c s₁ B hml hv
  obtain ⟨rfl, hP, hK⟩ := hv
  have hx := B.exec
  have hb := B.bytes
  have hr := B.returns
  have hts0 := atoms_spec (ws := Cond.code ny_H_begin nc_H_begin 3 none :: zw_big) B.pre
  have hts : ∀ w ∈ zw_big, w.before [.ref (zg_hld G k), .ref (zg_acc G i), .int a].toArray s = true := fun w h => hts0 w (List.mem_cons_of_mem _ h)
  have hown : s.vm.findClass nR_H = some m.cls := findClass_of_methodNamed B.named
  have hlk := B.notSynchronized
  have hS : va_S (zb_Ad G) s.heap s.heap [] := va_S.rf
  have hl := lv_entry ([.ref (zg_hld G k), .ref (zg_acc G i), .int a]) (n := 3) (Nat.le_of_ble_eq_true rfl)
  rw [lg_entry_eq]
  generalize (lg_sl ([.ref (zg_hld G k), .ref (zg_acc G i), .int a]) ++ List.replicate (3 - (lg_sl ([.ref (zg_hld G k), .ref (zg_acc G i), .int a])).length) Slot.unset).toArray = ls at hl ⊢
  have hl : lv_has ls 3 [(0, .ref (zg_hld G k)), (1, .ref (zg_acc G i)), (2, .int a)] := hl
  have hF : CallFix p m c nc_H_begin 3 s [.ref (zg_hld G k), .ref (zg_acc G i), .int a].toArray zw_big nR_H := ⟨hx, hb, hml, hown, hts⟩
  refine lv_aload_n hx hb nd_H_begin_0 rfl (zv_at hl 0 rfl) ?_
  refine lv_aload_n hx hb nd_H_begin_1 rfl (zv_at hl 1 rfl) ?_
  refine zb_put_hol (v := some _) hx hb hts hown hK hG hP hS (by assumption) (hts _ nw_115) nd_H_begin_2 (fun H locs hP hS => ?_)
  refine lv_aload_n hx hb nd_H_begin_5 rfl (zv_at hl 0 rfl) ?_
  refine lv_iload_n hx hb nd_H_begin_6 rfl (zv_at hl 2 rfl) ?_
  refine zb_put_ham hx hb hts hown hK hG hP hS (by assumption) (hts _ nw_117) nd_H_begin_7 (fun H locs hP hS => ?_)
  refine lv_aload_n hx hb nd_H_begin_10 rfl (zv_at hl 1 rfl) ?_
  refine lv_dup hx hb nd_H_begin_11 rfl ?_
  refine zb_getA hx hb hts hown hK hP (by assumption) 6 (by decide) (hts _ nw_86) rfl nd_H_begin_12 ?_
  refine lv_iload_n hx hb nd_H_begin_15 rfl (zv_at hl 2 rfl) ?_
  refine lv_i2l (v := _) hx hb nd_H_begin_16 rfl ?_
  refine lv_ladd hx hb nd_H_begin_17 ?_
  refine zb_put_hel hx hb hts hown hK hG hP hS (by assumption) (hts _ nw_86) nd_H_begin_18 (fun H locs hP hS => ?_)
  refine zb_vret hx hb hr hlk nd_H_begin_21 hP hS ?_
  all_goals rfl

set_option maxHeartbeats 4000000 in
set_option maxRecDepth 100000 in
theorem c_H_end (l : Launch) (D : va_G) (G : zg_G) (hG : zw_apart (zb_adr G)) (S : zb_S) (k : Nat) (hk : k < 8) (hHol : ∀ j, zb_hol S k = some j → j < 6) : Met l ny_H_end (Cond.code ny_H_end nc_H_end 1 none :: zw_big) ({ frames := 0, cells := 0, slots := 0, locals := 0 } : Room) (zw_P [.ref (zg_hld G k)] D (zb_tys G) (zb_cells G S)) (zb_Qv D G (zb_end S k)) 0 0 (zb_Ad G) := by
  refine Met.ofW (cc := nc_H_end) (maxL := 1) (ret := none) (by decide) rfl ?_
  intro p e s m args below meth c s₁ B hml hv
  obtain ⟨rfl, hP, hK⟩ := hv
  have hx := B.exec
  have hb := B.bytes
  have hr := B.returns
  have hts0 := atoms_spec (ws := Cond.code ny_H_end nc_H_end 1 none :: zw_big) B.pre
  have hts : ∀ w ∈ zw_big, w.before [.ref (zg_hld G k)].toArray s = true := fun w h => hts0 w (List.mem_cons_of_mem _ h)
  have hown : s.vm.findClass nR_H = some m.cls := findClass_of_methodNamed B.named
  have hlk := B.notSynchronized
  have hS : va_S (zb_Ad G) s.heap s.heap [] := va_S.rf
  have hl := lv_entry ([.ref (zg_hld G k)]) (n := 1) (Nat.le_of_ble_eq_true rfl)
  rw [lg_entry_eq]
  generalize (lg_sl ([.ref (zg_hld G k)]) ++ List.replicate (1 - (lg_sl ([.ref (zg_hld G k)])).length) Slot.unset).toArray = ls at hl ⊢
  have hl : lv_has ls 1 [(0, .ref (zg_hld G k))] := hl
  have hF : CallFix p m c nc_H_end 1 s [.ref (zg_hld G k)].toArray zw_big nR_H := ⟨hx, hb, hml, hown, hts⟩
  refine lv_aload_n hx hb nd_H_end_0 rfl (zv_at hl 0 rfl) ?_
  refine zb_getH hx hb hts hown hK hP (by assumption) 0 (by decide) (hts _ nw_115) rfl nd_H_end_1 ?_
  refine zw_split (fun hj_1 => ?_) (fun j_1 hj_1 => ?_)
  · skip
    refine lv_ifnullN (tgt := 24) hx hb nd_H_end_4 (by decide) ?_
    refine lv_aload_n hx hb nd_H_end_24 rfl (zv_at hl 0 rfl) ?_
    refine lv_null hx hb nd_H_end_25 ?_
    refine zb_put_hol (v := none) hx hb hts hown hK hG hP hS (by assumption) (hts _ nw_115) nd_H_end_26 (fun H locs hP hS => ?_)
    refine lv_aload_n hx hb nd_H_end_29 rfl (zv_at hl 0 rfl) ?_
    refine lv_iconst (v := 0) hx hb nd_H_end_30 (by decide) ?_
    refine zb_put_ham hx hb hts hown hK hG hP hS (by assumption) (hts _ nw_117) nd_H_end_31 (fun H locs hP hS => ?_)
    refine zb_vret hx hb hr hlk nd_H_end_34 hP hS ?_
    unfold zb_end
    rw [hj_1]
    all_goals rfl
  · skip
    refine lv_ifnull hx hb nd_H_end_4 ?_
    refine lv_aload_n hx hb nd_H_end_7 rfl (zv_at hl 0 rfl) ?_
    refine zb_getH hx hb hts hown hK hP (by assumption) 0 (by decide) (hts _ nw_115) rfl nd_H_end_8 ?_
    refine zw_split (fun hj_8 => ?_) (fun j_8 hj_8 => ?_)
    · skip
      exact absurd (hj_1.symm.trans hj_8) (by simp) --done
    · skip
      obtain rfl : j_1 = j_8 := Option.some.inj (hj_1.symm.trans hj_8)
      have hj6 : j_1 < 6 := hHol _ hj_1
      refine lv_dup hx hb nd_H_end_11 rfl ?_
      refine zb_getA hx hb hts hown hK hP (by assumption) 6 (by decide) (hts _ nw_86) rfl nd_H_end_12 ?_
      refine lv_aload_n hx hb nd_H_end_15 rfl (zv_at hl 0 rfl) ?_
      refine zb_getH hx hb hts hown hK hP (by assumption) 1 (by decide) (hts _ nw_117) rfl nd_H_end_16 ?_
      refine lv_i2l (v := _) hx hb nd_H_end_19 rfl ?_
      refine lv_lsub hx hb nd_H_end_20 ?_
      refine zb_put_hel hx hb hts hown hK hG hP hS (by assumption) (hts _ nw_86) nd_H_end_21 (fun H locs hP hS => ?_)
      refine lv_aload_n hx hb nd_H_end_24 rfl (zv_at hl 0 rfl) ?_
      refine lv_null hx hb nd_H_end_25 ?_
      refine zb_put_hol (v := none) hx hb hts hown hK hG hP hS (by assumption) (hts _ nw_115) nd_H_end_26 (fun H locs hP hS => ?_)
      refine lv_aload_n hx hb nd_H_end_29 rfl (zv_at hl 0 rfl) ?_
      refine lv_iconst (v := 0) hx hb nd_H_end_30 (by decide) ?_
      refine zb_put_ham hx hb hts hown hK hG hP hS (by assumption) (hts _ nw_117) nd_H_end_31 (fun H locs hP hS => ?_)
      refine zb_vret hx hb hr hlk nd_H_end_34 hP hS ?_
      unfold zb_end
      rw [hj_1]
      all_goals rfl

set_option maxHeartbeats 4000000 in
set_option maxRecDepth 100000 in
theorem c_O_make (l : Launch) (D : va_G) (G : zg_G) (hG : zw_apart (zb_adr G)) (S : zb_S) (k i j : Nat) (hk : k < 6) (a d : Int32) : Met l ny_O_make (Cond.code ny_O_make nc_O_make 5 none :: zw_big) ({ frames := 0, cells := 0, slots := 0, locals := 0 } : Room) (zw_P [.ref (zg_ord G k), .ref (zg_acc G i), .ref (zg_acc G j), .int a, .int d] D (zb_tys G) (zb_cells G S)) (zb_Qv D G (zb_make S k (some i) (some j) a d)) 0 0 (zb_Ad G) := by
  refine Met.ofW (cc := nc_O_make) (maxL := 5) (ret := none) (by decide) rfl ?_
  intro p e s m args below meth c s₁ B hml hv
  obtain ⟨rfl, hP, hK⟩ := hv
  have hx := B.exec
  have hb := B.bytes
  have hr := B.returns
  have hts0 := atoms_spec (ws := Cond.code ny_O_make nc_O_make 5 none :: zw_big) B.pre
  have hts : ∀ w ∈ zw_big, w.before [.ref (zg_ord G k), .ref (zg_acc G i), .ref (zg_acc G j), .int a, .int d].toArray s = true := fun w h => hts0 w (List.mem_cons_of_mem _ h)
  have hown : s.vm.findClass nR_O = some m.cls := findClass_of_methodNamed B.named
  have hlk := B.notSynchronized
  have hS : va_S (zb_Ad G) s.heap s.heap [] := va_S.rf
  have hl := lv_entry ([.ref (zg_ord G k), .ref (zg_acc G i), .ref (zg_acc G j), .int a, .int d]) (n := 5) (Nat.le_of_ble_eq_true rfl)
  rw [lg_entry_eq]
  generalize (lg_sl ([.ref (zg_ord G k), .ref (zg_acc G i), .ref (zg_acc G j), .int a, .int d]) ++ List.replicate (5 - (lg_sl ([.ref (zg_ord G k), .ref (zg_acc G i), .ref (zg_acc G j), .int a, .int d])).length) Slot.unset).toArray = ls at hl ⊢
  have hl : lv_has ls 5 [(0, .ref (zg_ord G k)), (1, .ref (zg_acc G i)), (2, .ref (zg_acc G j)), (3, .int a), (4, .int d)] := hl
  have hF : CallFix p m c nc_O_make 5 s [.ref (zg_ord G k), .ref (zg_acc G i), .ref (zg_acc G j), .int a, .int d].toArray zw_big nR_O := ⟨hx, hb, hml, hown, hts⟩
  refine lv_aload_n hx hb nd_O_make_0 rfl (zv_at hl 0 rfl) ?_
  refine lv_aload_n hx hb nd_O_make_1 rfl (zv_at hl 1 rfl) ?_
  refine zb_put_pyr (v := some _) hx hb hts hown hK hG hP hS (by assumption) (hts _ nw_129) nd_O_make_2 (fun H locs hP hS => ?_)
  refine lv_aload_n hx hb nd_O_make_5 rfl (zv_at hl 0 rfl) ?_
  refine lv_aload_n hx hb nd_O_make_6 rfl (zv_at hl 2 rfl) ?_
  refine zb_put_pye (v := some _) hx hb hts hown hK hG hP hS (by assumption) (hts _ nw_131) nd_O_make_7 (fun H locs hP hS => ?_)
  refine lv_aload_n hx hb nd_O_make_10 rfl (zv_at hl 0 rfl) ?_
  refine lv_iload_n hx hb nd_O_make_11 rfl (zv_at hl 3 rfl) ?_
  refine zb_put_oam hx hb hts hown hK hG hP hS (by assumption) (hts _ nw_133) nd_O_make_12 (fun H locs hP hS => ?_)
  refine lv_aload_n hx hb nd_O_make_15 rfl (zv_at hl 0 rfl) ?_
  refine lv_iload hx hb nd_O_make_16 (zv_at hl 4 rfl) ?_
  refine zb_put_ody hx hb hts hown hK hG hP hS (by assumption) (hts _ nw_135) nd_O_make_18 (fun H locs hP hS => ?_)
  refine zb_vret hx hb hr hlk nd_O_make_21 hP hS ?_
  all_goals rfl
