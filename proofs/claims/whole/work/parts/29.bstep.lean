set_option maxHeartbeats 4000000 in
set_option maxRecDepth 100000 in
theorem c_B_writeStep (l : Launch) (D : va_G) (G : zg_G) (hG : zw_apart (zb_adr G)) (S : zb_S) (hI : zb_I S) (a : Nat) (ha : a < 6) : Met l ny_B_writeStep (Cond.code ny_B_writeStep nc_B_writeStep 5 (some .boolean) :: zw_big) ({ frames := 3, cells := 0, slots := 0, locals := 65 } : Room) (zw_P [.ref (zg_bnk G), .ref (zg_acc G a)] D (zb_tys G) (zb_cells G S)) (zb_Qi D G (zb_wStep S a)) 0 0 (zb_Ad G) := by
  refine Met.ofW (cc := nc_B_writeStep) (maxL := 5) (ret := (some .boolean)) (by decide) rfl ?_
  intro p e s m args below meth c s₁ B hml hv
  obtain ⟨rfl, hP, hK⟩ := hv
  have hx := B.exec
  have hb := B.bytes
  have hr := B.returns
  have hts0 := atoms_spec (ws := Cond.code ny_B_writeStep nc_B_writeStep 5 (some .boolean) :: zw_big) B.pre
  have hts : ∀ w ∈ zw_big, w.before [.ref (zg_bnk G), .ref (zg_acc G a)].toArray s = true := fun w h => hts0 w (List.mem_cons_of_mem _ h)
  have hown : s.vm.findClass nR_B = some m.cls := findClass_of_methodNamed B.named
  have hlk := B.notSynchronized
  have hS : va_S (zb_Ad G) s.heap s.heap [] := va_S.rf
  have hl := lv_entry ([.ref (zg_bnk G), .ref (zg_acc G a)]) (n := 5) (Nat.le_of_ble_eq_true rfl)
  rw [lg_entry_eq]
  generalize (lg_sl ([.ref (zg_bnk G), .ref (zg_acc G a)]) ++ List.replicate (5 - (lg_sl ([.ref (zg_bnk G), .ref (zg_acc G a)])).length) Slot.unset).toArray = ls at hl ⊢
  have hl : lv_has ls 5 [(0, .ref (zg_bnk G)), (1, .ref (zg_acc G a))] := hl
  have hF : CallFix p m c nc_B_writeStep 5 s [.ref (zg_bnk G), .ref (zg_acc G a)].toArray zw_big nR_B := ⟨hx, hb, hml, hown, hts⟩
  obtain ⟨o, ho6, eo⟩ := hI.2.1
  have eo2 : (zb_o S).toNatClampNeg = o := by rw [eo]; exact nI_clamp (by omega)
  refine lv_aload_n hx hb nd_B_writeStep_0 rfl (zv_at hl 1 rfl) ?_
  refine zw_sR (As := [_]) (rest := _) hF (c_B_bitOf l D G _ _ (by assumption)) (zw_preS hP hK) nk_B_bitOf nw_207 ⟨rfl, rfl, Nat.le_of_ble_eq_true rfl, Nat.le_of_ble_eq_true rfl⟩ rfl hl.1 rfl (Nat.le_of_ble_eq_true rfl) ⟨Nat.zero_le _, Nat.zero_le _⟩ nd_B_writeStep_1 ?_
  refine lv_istore_n hx hb nd_B_writeStep_4 rfl hl (by decide) rfl (fun ls hl => ?_)
  refine lv_iconst (v := 2) hx hb nd_B_writeStep_5 (by decide) ?_
  refine lv_istore_n hx hb nd_B_writeStep_6 rfl hl (by decide) rfl (fun ls hl => ?_)
  refine lv_iconst (v := 0) hx hb nd_B_writeStep_7 (by decide) ?_
  refine lv_istore hx hb nd_B_writeStep_8 hl (by decide) rfl (fun ls hl => ?_)
  refine zw_loop (σ := Nat × Int32 × Nat) (fun k x H locs ls => H = s.heap ∧ locs = [] ∧ x.1 + k = o ∧ x.2.2 ≤ x.1 ∧ zb_stepSet S o 0 (zb_bit (some a)) 2 = zb_stepSet S k x.1 x.2.1 (nI (2 + x.2.2)) ∧ lv_has ls 5 [(0, .ref (zg_bnk G)), (1, .ref (zg_acc G a)), (2, .int x.2.1), (3, .int (nI (2 + x.2.2))), (4, .int (nI x.1))]) ?_ o (0, zb_bit (some a), 0) ⟨rfl, rfl, by simp, by simp, rfl, zv_sub hl (by intro q hq; simp only [List.mem_cons, List.not_mem_nil, or_false] at hq; rcases hq with rfl | rfl | rfl | rfl | rfl <;> rfl)⟩
  rintro k ⟨i, g, q⟩ H locs ls hI9 ih
  obtain ⟨hH, hL, hik, hq, hE, hl⟩ := hI9
  dsimp only at hik hq hE hl
  subst hH
  subst hL
  refine lv_iload hx hb nd_B_writeStep_10 (zv_at hl 4 rfl) ?_
  refine lv_aload_n hx hb nd_B_writeStep_12 rfl (zv_at hl 0 rfl) ?_
  refine zb_getB hx hb hts hown hK hP 8 (by decide) (hts _ nw_163) rfl nd_B_writeStep_13 ?_
  refine lv_icmp_ge (tgt := 57) hx hb nd_B_writeStep_16 (by decide) (fun h_16 => ?_) (fun h_16 => ?_)
  · skip
    have hk0 : k = 0 := by
      have h : nI o ≤ nI i := by rw [← eo]; exact h_16
      have := (nI_leI (a := o) (b := i) (by omega) (by omega)).mp h
      omega
    subst hk0
    have hN : 2 + q < 128 := by omega
    refine lv_aload_n hx hb nd_B_writeStep_57 rfl (zv_at hl 0 rfl) ?_
    refine zb_getB hx hb hts hown hK hP 4 (by decide) (hts _ nw_159) rfl nd_B_writeStep_58 ?_
    refine lv_iload_n hx hb nd_B_writeStep_61 rfl (zv_at hl 2 rfl) ?_
    refine lv_iload_n hx hb nd_B_writeStep_62 rfl (zv_at hl 3 rfl) ?_
    refine zb_vWi (As := [_, _]) (rest := _) hF (c_D_writeLines l D G hG _ _ _ (2 + q) hN rfl) (zw_preV hP hK (q0 := 5) (ci := 5) rfl rfl rfl) nk_D_writeLines nw_367 ⟨rfl, rfl, Nat.le_of_ble_eq_true rfl, Nat.le_of_ble_eq_true rfl⟩ rfl hl.1 rfl (Nat.le_of_ble_eq_true rfl) ⟨Nat.zero_le _, Nat.zero_le _⟩ nd_B_writeStep_63 hS (fun H locs hP hS => ?_)
    refine zb_zret hx hb hr hlk nd_B_writeStep_66 hP hS (zb_lines_01 _ _ _) ?_
    unfold zb_wStep
    rw [eo2, hE]
    all_goals rfl
  · skip
    have hio : i < o := by
      refine Nat.lt_of_not_le fun z => h_16 ?_
      show zb_o S ≤ nI i
      rw [eo]; exact nI_le z (by omega)
    have hi6 : i < 6 := by omega
    refine lv_aload_n hx hb nd_B_writeStep_19 rfl (zv_at hl 0 rfl) ?_
    refine zb_getB hx hb hts hown hK hP 2 (by decide) (hts _ nw_157) rfl nd_B_writeStep_20 ?_
    refine lv_iload hx hb nd_B_writeStep_23 (zv_at hl 4 rfl) ?_
    refine zb_ald_ord hx hb hK hP (vp_in_nI hi6 (by decide)) nd_B_writeStep_25 ?_
    rw [nI_clamp (show i < 2 ^ 31 by omega)]
    refine zb_getO hx hb hts hown hK hP (by assumption) 6 (by decide) (hts _ nw_139) rfl nd_B_writeStep_26 ?_
    refine lv_if_eq (tgt := 51) hx hb nd_B_writeStep_29 (by decide) (fun h_29 => ?_) (fun h_29 => ?_)
    · skip
      refine zv_iinc (v := nI (i + 1)) hx hb nd_B_writeStep_51 hl rfl ((nI_succ i).symm) (by decide) rfl (fun ls hl => ?_)
      refine lv_goto (tgt := 10) hx hb nd_B_writeStep_54 (by decide) ?_
      exact ih (k - 1) (i + 1, g, q) _ _ _ (by omega) ⟨rfl, rfl, by show i + 1 + (k - 1) = o; omega, by show q ≤ i + 1; omega, by rw [hE, zb_stepSet_no (by omega) h_29], zv_sub hl (by intro q hq; simp only [List.mem_cons, List.not_mem_nil, or_false] at hq; rcases hq with rfl | rfl | rfl | rfl | rfl <;> rfl)⟩
    · skip
      refine lv_iload_n hx hb nd_B_writeStep_32 rfl (zv_at hl 2 rfl) ?_
      refine lv_aload_n hx hb nd_B_writeStep_33 rfl (zv_at hl 0 rfl) ?_
      refine zb_getB hx hb hts hown hK hP 2 (by decide) (hts _ nw_157) rfl nd_B_writeStep_34 ?_
      refine lv_iload hx hb nd_B_writeStep_37 (zv_at hl 4 rfl) ?_
      refine zb_ald_ord hx hb hK hP (vp_in_nI hi6 (by decide)) nd_B_writeStep_39 ?_
      rw [nI_clamp (show i < 2 ^ 31 by omega)]
      refine zb_getO hx hb hts hown hK hP (by assumption) 1 (by decide) (hts _ nw_132) rfl nd_B_writeStep_40 ?_
      refine zw_split (fun hj_40 => ?_) (fun j_40 hj_40 => ?_)
      · skip
        refine zw_sR (As := [_]) (rest := _) hF (c_B_bitOfN l D G _) (zw_preS hP hK) nk_B_bitOf nw_207 ⟨rfl, rfl, Nat.le_of_ble_eq_true rfl, Nat.le_of_ble_eq_true rfl⟩ rfl hl.1 rfl (Nat.le_of_ble_eq_true rfl) ⟨Nat.zero_le _, Nat.zero_le _⟩ nd_B_writeStep_43 ?_
        refine lv_ior hx hb nd_B_writeStep_46 ?_
        refine lv_istore_n hx hb nd_B_writeStep_47 rfl hl (by decide) rfl (fun ls hl => ?_)
        refine zv_iinc (v := nI (2 + (q + 1))) hx hb nd_B_writeStep_48 hl rfl ((nI_succ (2 + q)).symm) (by decide) rfl (fun ls hl => ?_)
        refine zv_iinc (v := nI (i + 1)) hx hb nd_B_writeStep_51 hl rfl ((nI_succ i).symm) (by decide) rfl (fun ls hl => ?_)
        refine lv_goto (tgt := 10) hx hb nd_B_writeStep_54 (by decide) ?_
        exact ih (k - 1) (i + 1, g ||| zb_bit (zb_pye S i), q + 1) _ _ _ (by omega) ⟨rfl, rfl, by show i + 1 + (k - 1) = o; omega, by show q + 1 ≤ i + 1; omega, by rw [hE, zb_stepSet_yes (by omega) h_29, ← nI_succ]; rfl, zv_sub hl (by rw [hj_40]; exact (by intro q hq; simp only [List.mem_cons, List.not_mem_nil, or_false] at hq; rcases hq with rfl | rfl | rfl | rfl | rfl <;> rfl))⟩
      · skip
        have hj6 : j_40 < 6 := hI.2.2.2.2.2.2 i j_40 hj_40
        refine zw_sR (As := [_]) (rest := _) hF (c_B_bitOf l D G _ _ (by assumption)) (zw_preS hP hK) nk_B_bitOf nw_207 ⟨rfl, rfl, Nat.le_of_ble_eq_true rfl, Nat.le_of_ble_eq_true rfl⟩ rfl hl.1 rfl (Nat.le_of_ble_eq_true rfl) ⟨Nat.zero_le _, Nat.zero_le _⟩ nd_B_writeStep_43 ?_
        refine lv_ior hx hb nd_B_writeStep_46 ?_
        refine lv_istore_n hx hb nd_B_writeStep_47 rfl hl (by decide) rfl (fun ls hl => ?_)
        refine zv_iinc (v := nI (2 + (q + 1))) hx hb nd_B_writeStep_48 hl rfl ((nI_succ (2 + q)).symm) (by decide) rfl (fun ls hl => ?_)
        refine zv_iinc (v := nI (i + 1)) hx hb nd_B_writeStep_51 hl rfl ((nI_succ i).symm) (by decide) rfl (fun ls hl => ?_)
        refine lv_goto (tgt := 10) hx hb nd_B_writeStep_54 (by decide) ?_
        exact ih (k - 1) (i + 1, g ||| zb_bit (zb_pye S i), q + 1) _ _ _ (by omega) ⟨rfl, rfl, by show i + 1 + (k - 1) = o; omega, by show q + 1 ≤ i + 1; omega, by rw [hE, zb_stepSet_yes (by omega) h_29, ← nI_succ]; rfl, zv_sub hl (by rw [hj_40]; exact (by intro q hq; simp only [List.mem_cons, List.not_mem_nil, or_false] at hq; rcases hq with rfl | rfl | rfl | rfl | rfl <;> rfl))⟩

set_option maxHeartbeats 4000000 in
set_option maxRecDepth 100000 in
theorem c_B_carryOutOrders (l : Launch) (D : va_G) (G : zg_G) (hG : zw_apart (zb_adr G)) (S : zb_S) (hI : zb_I S) : Met l ny_B_carryOutOrders (Cond.code ny_B_carryOutOrders nc_B_carryOutOrders 3 none :: zw_big) ({ frames := 1, cells := 0, slots := 0, locals := 23 } : Room) (zw_P [.ref (zg_bnk G)] D (zb_tys G) (zb_cells G S)) (zb_Qv D G (zb_carry (zb_o S).toNatClampNeg 0 S)) 0 0 (zb_Ad G) := by
  refine Met.ofW (cc := nc_B_carryOutOrders) (maxL := 3) (ret := none) (by decide) rfl ?_
  intro p e s m args below meth c s₁ B hml hv
  obtain ⟨rfl, hP, hK⟩ := hv
  have hx := B.exec
  have hb := B.bytes
  have hr := B.returns
  have hts0 := atoms_spec (ws := Cond.code ny_B_carryOutOrders nc_B_carryOutOrders 3 none :: zw_big) B.pre
  have hts : ∀ w ∈ zw_big, w.before [.ref (zg_bnk G)].toArray s = true := fun w h => hts0 w (List.mem_cons_of_mem _ h)
  have hown : s.vm.findClass nR_B = some m.cls := findClass_of_methodNamed B.named
  have hlk := B.notSynchronized
  have hS : va_S (zb_Ad G) s.heap s.heap [] := va_S.rf
  have hl := lv_entry ([.ref (zg_bnk G)]) (n := 3) (Nat.le_of_ble_eq_true rfl)
  rw [lg_entry_eq]
  generalize (lg_sl ([.ref (zg_bnk G)]) ++ List.replicate (3 - (lg_sl ([.ref (zg_bnk G)])).length) Slot.unset).toArray = ls at hl ⊢
  have hl : lv_has ls 3 [(0, .ref (zg_bnk G))] := hl
  have hF : CallFix p m c nc_B_carryOutOrders 3 s [.ref (zg_bnk G)].toArray zw_big nR_B := ⟨hx, hb, hml, hown, hts⟩
  obtain ⟨o, ho6, eo⟩ := hI.2.1
  have eo2 : (zb_o S).toNatClampNeg = o := by rw [eo]; exact nI_clamp (by omega)
  rw [eo2]
  refine lv_iconst (v := 0) hx hb nd_B_carryOutOrders_0 (by decide) ?_
  refine lv_istore_n hx hb nd_B_carryOutOrders_1 rfl hl (by decide) rfl (fun ls hl => ?_)
  refine zw_loop (σ := Nat × zb_S) (fun k x H locs ls => x.1 + k = o ∧ zb_carry o 0 S = zb_carry k x.1 x.2 ∧ zb_key x.2 = zb_key S ∧ va_P D vwCl (zb_cells G x.2) H ∧ va_S (zb_Ad G) s.heap H locs ∧ lv_has ls 3 [(0, .ref (zg_bnk G)), (1, .int (nI x.1))]) ?_ o (0, S) ⟨by simp, rfl, rfl, hP, hS, zv_sub hl (by intro q hq; simp only [List.mem_cons, List.not_mem_nil, or_false] at hq; rcases hq with rfl | rfl <;> rfl)⟩
  rintro k ⟨i, S1⟩ H locs ls hI9 ih
  obtain ⟨hik, hE, hkey, hP, hS, hl⟩ := hI9
  dsimp only at hik hE hkey hP hl
  have hI := zb_I_key hkey hI
  have eo1 : zb_o S1 = nI o := (zb_key_o hkey).trans eo
  refine lv_iload_n hx hb nd_B_carryOutOrders_2 rfl (zv_at hl 1 rfl) ?_
  refine lv_aload_n hx hb nd_B_carryOutOrders_3 rfl (zv_at hl 0 rfl) ?_
  refine zb_getB hx hb hts hown hK hP 8 (by decide) (hts _ nw_163) rfl nd_B_carryOutOrders_4 ?_
  refine lv_icmp_ge (tgt := 66) hx hb nd_B_carryOutOrders_7 (by decide) (fun h_7 => ?_) (fun h_7 => ?_)
  · skip
    have hk0 : k = 0 := by
      have h : nI o ≤ nI i := by rw [← eo1]; exact h_7
      have := (nI_leI (a := o) (b := i) (by omega) (by omega)).mp h
      omega
    subst hk0
    refine zb_vret hx hb hr hlk nd_B_carryOutOrders_66 hP hS ?_
    rw [hE]
    all_goals rfl
  · skip
    have hio : i < o := by
      refine Nat.lt_of_not_le fun z => h_7 ?_
      show zb_o S1 ≤ nI i
      rw [eo1]; exact nI_le z (by omega)
    have hi6 : i < 6 := by omega
    refine lv_aload_n hx hb nd_B_carryOutOrders_10 rfl (zv_at hl 0 rfl) ?_
    refine zb_getB hx hb hts hown hK hP 2 (by decide) (hts _ nw_157) rfl nd_B_carryOutOrders_11 ?_
    refine lv_iload_n hx hb nd_B_carryOutOrders_14 rfl (zv_at hl 1 rfl) ?_
    refine zb_ald_ord hx hb hK hP (vp_in_nI hi6 (by decide)) nd_B_carryOutOrders_15 ?_
    rw [nI_clamp (show i < 2 ^ 31 by omega)]
    refine lv_astore_n hx hb nd_B_carryOutOrders_16 rfl hl (by decide) rfl (fun ls hl => ?_)
    refine lv_aload_n hx hb nd_B_carryOutOrders_17 rfl (zv_at hl 2 rfl) ?_
    refine zb_getO hx hb hts hown hK hP (by assumption) 6 (by decide) (hts _ nw_139) rfl nd_B_carryOutOrders_18 ?_
    refine lv_if_eq (tgt := 43) hx hb nd_B_carryOutOrders_21 (by decide) (fun h_21 => ?_) (fun h_21 => ?_)
    · skip
      refine lv_aload_n hx hb nd_B_carryOutOrders_43 rfl (zv_at hl 2 rfl) ?_
      refine zb_getO hx hb hts hown hK hP (by assumption) 5 (by decide) (hts _ nw_138) rfl nd_B_carryOutOrders_44 ?_
      refine lv_if_eq (tgt := 60) hx hb nd_B_carryOutOrders_47 (by decide) (fun h_47 => ?_) (fun h_47 => ?_)
      · skip
        refine zv_iinc (v := nI (i + 1)) hx hb nd_B_carryOutOrders_60 hl rfl ((nI_succ i).symm) (by decide) rfl (fun ls hl => ?_)
        refine lv_goto (tgt := 2) hx hb nd_B_carryOutOrders_63 (by decide) ?_
        exact ih (k - 1) (i + 1, S1) _ _ _ (by omega) ⟨by show i + 1 + (k - 1) = o; omega, by rw [hE, zb_carry_next (by omega)]; exact congrArg (zb_carry (k - 1) (i + 1)) (show zb_carryOne S1 i = S1 by unfold zb_carryOne; rw [if_pos h_21, if_pos h_47]), hkey, hP, hS, zv_sub hl (by intro q hq; simp only [List.mem_cons, List.not_mem_nil, or_false] at hq; rcases hq with rfl | rfl <;> rfl)⟩
      · skip
        refine lv_aload_n hx hb nd_B_carryOutOrders_50 rfl (zv_at hl 2 rfl) ?_
        refine lv_dup hx hb nd_B_carryOutOrders_51 rfl ?_
        refine zb_getO hx hb hts hown hK hP (by assumption) 4 (by decide) (hts _ nw_137) rfl nd_B_carryOutOrders_52 ?_
        refine lv_iconst (v := 1) hx hb nd_B_carryOutOrders_55 (by decide) ?_
        refine lv_iadd hx hb nd_B_carryOutOrders_56 ?_
        refine zb_put_oms hx hb hts hown hK hG hP hS (by assumption) (hts _ nw_137) nd_B_carryOutOrders_57 (fun H locs hP hS => ?_)
        refine zv_iinc (v := nI (i + 1)) hx hb nd_B_carryOutOrders_60 hl rfl ((nI_succ i).symm) (by decide) rfl (fun ls hl => ?_)
        refine lv_goto (tgt := 2) hx hb nd_B_carryOutOrders_63 (by decide) ?_
        exact ih (k - 1) (i + 1, zb_soms S1 (upd (zb_oms S1) i (zb_oms S1 i + 1))) _ _ _ (by omega) ⟨by show i + 1 + (k - 1) = o; omega, by rw [hE, zb_carry_next (by omega)]; exact congrArg (zb_carry (k - 1) (i + 1)) (show zb_carryOne S1 i = _ by unfold zb_carryOne; rw [if_pos h_21, if_neg h_47]), hkey, hP, hS, zv_sub hl (by intro q hq; simp only [List.mem_cons, List.not_mem_nil, or_false] at hq; rcases hq with rfl | rfl <;> rfl)⟩
    · skip
      refine lv_aload_n hx hb nd_B_carryOutOrders_24 rfl (zv_at hl 0 rfl) ?_
      refine lv_aload_n hx hb nd_B_carryOutOrders_25 rfl (zv_at hl 2 rfl) ?_
      refine zb_getO hx hb hts hown hK hP (by assumption) 0 (by decide) (hts _ nw_130) rfl nd_B_carryOutOrders_26 ?_
      refine zw_split (fun hj_26 => ?_) (fun j_26 hj_26 => ?_)
      · skip
        refine lv_aload_n hx hb nd_B_carryOutOrders_29 rfl (zv_at hl 2 rfl) ?_
        refine zb_getO hx hb hts hown hK hP (by assumption) 1 (by decide) (hts _ nw_132) rfl nd_B_carryOutOrders_30 ?_
        refine zw_split (fun hj_30 => ?_) (fun j_30 hj_30 => ?_)
        · skip
          refine lv_aload_n hx hb nd_B_carryOutOrders_33 rfl (zv_at hl 2 rfl) ?_
          refine zb_getO hx hb hts hown hK hP (by assumption) 2 (by decide) (hts _ nw_134) rfl nd_B_carryOutOrders_34 ?_
          refine zb_vWv (As := [_, _, _]) (rest := _) hF (c_B_transferNN l D G hG _ (by first | exact hI | exact zb_I_end hI) _) (zw_preV hP hK (q0 := 0) (ci := 0) rfl rfl rfl) nk_B_transfer nw_255 ⟨rfl, rfl, Nat.le_of_ble_eq_true rfl, Nat.le_of_ble_eq_true rfl⟩ rfl hl.1 rfl (Nat.le_of_ble_eq_true rfl) ⟨Nat.zero_le _, Nat.zero_le _⟩ nd_B_carryOutOrders_37 hS (fun H locs hP hS => ?_)
          refine lv_goto (tgt := 60) hx hb nd_B_carryOutOrders_40 (by decide) ?_
          refine zv_iinc (v := nI (i + 1)) hx hb nd_B_carryOutOrders_60 hl rfl ((nI_succ i).symm) (by decide) rfl (fun ls hl => ?_)
          refine lv_goto (tgt := 2) hx hb nd_B_carryOutOrders_63 (by decide) ?_
          exact ih (k - 1) (i + 1, zb_transfer S1 (zb_pyr S1 i) (zb_pye S1 i) (zb_oam S1 i)) _ _ _ (by omega) ⟨by show i + 1 + (k - 1) = o; omega, by rw [hE, zb_carry_next (by omega)]; exact congrArg (zb_carry (k - 1) (i + 1)) (show zb_carryOne S1 i = _ by unfold zb_carryOne; rw [if_neg h_21]), (zb_transfer_key _ _ _ _).trans hkey, by show va_P D vwCl (zb_cells G (zb_transfer S1 (zb_pyr S1 i) (zb_pye S1 i) (zb_oam S1 i))) _; rw [hj_26, hj_30]; exact hP, hS, zv_sub hl (by intro q hq; simp only [List.mem_cons, List.not_mem_nil, or_false] at hq; rcases hq with rfl | rfl <;> rfl)⟩
        · skip
          have hj6b : j_30 < 6 := hI.2.2.2.2.2.2 i j_30 hj_30
          refine lv_aload_n hx hb nd_B_carryOutOrders_33 rfl (zv_at hl 2 rfl) ?_
          refine zb_getO hx hb hts hown hK hP (by assumption) 2 (by decide) (hts _ nw_134) rfl nd_B_carryOutOrders_34 ?_
          refine zb_vWv (As := [_, _, _]) (rest := _) hF (c_B_transferNA l D G hG _ (by first | exact hI | exact zb_I_end hI) _ (by assumption) _) (zw_preV hP hK (q0 := 0) (ci := 0) rfl rfl rfl) nk_B_transfer nw_255 ⟨rfl, rfl, Nat.le_of_ble_eq_true rfl, Nat.le_of_ble_eq_true rfl⟩ rfl hl.1 rfl (Nat.le_of_ble_eq_true rfl) ⟨Nat.zero_le _, Nat.zero_le _⟩ nd_B_carryOutOrders_37 hS (fun H locs hP hS => ?_)
          refine lv_goto (tgt := 60) hx hb nd_B_carryOutOrders_40 (by decide) ?_
          refine zv_iinc (v := nI (i + 1)) hx hb nd_B_carryOutOrders_60 hl rfl ((nI_succ i).symm) (by decide) rfl (fun ls hl => ?_)
          refine lv_goto (tgt := 2) hx hb nd_B_carryOutOrders_63 (by decide) ?_
          exact ih (k - 1) (i + 1, zb_transfer S1 (zb_pyr S1 i) (zb_pye S1 i) (zb_oam S1 i)) _ _ _ (by omega) ⟨by show i + 1 + (k - 1) = o; omega, by rw [hE, zb_carry_next (by omega)]; exact congrArg (zb_carry (k - 1) (i + 1)) (show zb_carryOne S1 i = _ by unfold zb_carryOne; rw [if_neg h_21]), (zb_transfer_key _ _ _ _).trans hkey, by show va_P D vwCl (zb_cells G (zb_transfer S1 (zb_pyr S1 i) (zb_pye S1 i) (zb_oam S1 i))) _; rw [hj_26, hj_30]; exact hP, hS, zv_sub hl (by intro q hq; simp only [List.mem_cons, List.not_mem_nil, or_false] at hq; rcases hq with rfl | rfl <;> rfl)⟩
      · skip
        have hj6a : j_26 < 6 := (hI.2.2.2.2.2.1 i j_26 hj_26).1
        refine lv_aload_n hx hb nd_B_carryOutOrders_29 rfl (zv_at hl 2 rfl) ?_
        refine zb_getO hx hb hts hown hK hP (by assumption) 1 (by decide) (hts _ nw_132) rfl nd_B_carryOutOrders_30 ?_
        refine zw_split (fun hj_30 => ?_) (fun j_30 hj_30 => ?_)
        · skip
          refine lv_aload_n hx hb nd_B_carryOutOrders_33 rfl (zv_at hl 2 rfl) ?_
          refine zb_getO hx hb hts hown hK hP (by assumption) 2 (by decide) (hts _ nw_134) rfl nd_B_carryOutOrders_34 ?_
          refine zb_vWv (As := [_, _, _]) (rest := _) hF (c_B_transferAN l D G hG _ (by first | exact hI | exact zb_I_end hI) _ (by assumption) _) (zw_preV hP hK (q0 := 0) (ci := 0) rfl rfl rfl) nk_B_transfer nw_255 ⟨rfl, rfl, Nat.le_of_ble_eq_true rfl, Nat.le_of_ble_eq_true rfl⟩ rfl hl.1 rfl (Nat.le_of_ble_eq_true rfl) ⟨Nat.zero_le _, Nat.zero_le _⟩ nd_B_carryOutOrders_37 hS (fun H locs hP hS => ?_)
          refine lv_goto (tgt := 60) hx hb nd_B_carryOutOrders_40 (by decide) ?_
          refine zv_iinc (v := nI (i + 1)) hx hb nd_B_carryOutOrders_60 hl rfl ((nI_succ i).symm) (by decide) rfl (fun ls hl => ?_)
          refine lv_goto (tgt := 2) hx hb nd_B_carryOutOrders_63 (by decide) ?_
          exact ih (k - 1) (i + 1, zb_transfer S1 (zb_pyr S1 i) (zb_pye S1 i) (zb_oam S1 i)) _ _ _ (by omega) ⟨by show i + 1 + (k - 1) = o; omega, by rw [hE, zb_carry_next (by omega)]; exact congrArg (zb_carry (k - 1) (i + 1)) (show zb_carryOne S1 i = _ by unfold zb_carryOne; rw [if_neg h_21]), (zb_transfer_key _ _ _ _).trans hkey, by show va_P D vwCl (zb_cells G (zb_transfer S1 (zb_pyr S1 i) (zb_pye S1 i) (zb_oam S1 i))) _; rw [hj_26, hj_30]; exact hP, hS, zv_sub hl (by intro q hq; simp only [List.mem_cons, List.not_mem_nil, or_false] at hq; rcases hq with rfl | rfl <;> rfl)⟩
        · skip
          have hj6b : j_30 < 6 := hI.2.2.2.2.2.2 i j_30 hj_30
          refine lv_aload_n hx hb nd_B_carryOutOrders_33 rfl (zv_at hl 2 rfl) ?_
          refine zb_getO hx hb hts hown hK hP (by assumption) 2 (by decide) (hts _ nw_134) rfl nd_B_carryOutOrders_34 ?_
          refine zb_vWv (As := [_, _, _]) (rest := _) hF (c_B_transferAA l D G hG _ (by first | exact hI | exact zb_I_end hI) _ (by assumption) _ (by assumption) _) (zw_preV hP hK (q0 := 0) (ci := 0) rfl rfl rfl) nk_B_transfer nw_255 ⟨rfl, rfl, Nat.le_of_ble_eq_true rfl, Nat.le_of_ble_eq_true rfl⟩ rfl hl.1 rfl (Nat.le_of_ble_eq_true rfl) ⟨Nat.zero_le _, Nat.zero_le _⟩ nd_B_carryOutOrders_37 hS (fun H locs hP hS => ?_)
          refine lv_goto (tgt := 60) hx hb nd_B_carryOutOrders_40 (by decide) ?_
          refine zv_iinc (v := nI (i + 1)) hx hb nd_B_carryOutOrders_60 hl rfl ((nI_succ i).symm) (by decide) rfl (fun ls hl => ?_)
          refine lv_goto (tgt := 2) hx hb nd_B_carryOutOrders_63 (by decide) ?_
          exact ih (k - 1) (i + 1, zb_transfer S1 (zb_pyr S1 i) (zb_pye S1 i) (zb_oam S1 i)) _ _ _ (by omega) ⟨by show i + 1 + (k - 1) = o; omega, by rw [hE, zb_carry_next (by omega)]; exact congrArg (zb_carry (k - 1) (i + 1)) (show zb_carryOne S1 i = _ by unfold zb_carryOne; rw [if_neg h_21]), (zb_transfer_key _ _ _ _).trans hkey, by show va_P D vwCl (zb_cells G (zb_transfer S1 (zb_pyr S1 i) (zb_pye S1 i) (zb_oam S1 i))) _; rw [hj_26, hj_30]; exact hP, hS, zv_sub hl (by intro q hq; simp only [List.mem_cons, List.not_mem_nil, or_false] at hq; rcases hq with rfl | rfl <;> rfl)⟩
