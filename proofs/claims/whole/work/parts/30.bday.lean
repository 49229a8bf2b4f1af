set_option maxHeartbeats 4000000 in
set_option maxRecDepth 100000 in
theorem c_B_makeStep (l : Launch) (D : va_G) (G : zg_G) (hG : zw_apart (zb_adr G)) (S : zb_S) (hI : zb_I S) (a : Nat) (ha : a < 6) : Met l ny_B_makeStep (Cond.code ny_B_makeStep nc_B_makeStep 2 (some .boolean) :: zw_big) ({ frames := 4, cells := 0, slots := 0, locals := 102 } : Room) (zw_P [.ref (zg_bnk G), .ref (zg_acc G a)] D (zb_tys G) (zb_cells G S)) (zb_Qi D G (zb_step S a)) 0 0 (zb_Ad G) := by
  refine Met.ofW (cc := nc_B_makeStep) (maxL := 2) (ret := (some .boolean)) (by decide) rfl ?_
  intro p e s m args below meth c s₁ B hml hv
  obtain ⟨rfl, hP, hK⟩ := hv
  have hx := B.exec
  have hb := B.bytes
  have hr := B.returns
  have hts0 := atoms_spec (ws := Cond.code ny_B_makeStep nc_B_makeStep 2 (some .boolean) :: zw_big) B.pre
  have hts : ∀ w ∈ zw_big, w.before [.ref (zg_bnk G), .ref (zg_acc G a)].toArray s = true := fun w h => hts0 w (List.mem_cons_of_mem _ h)
  have hown : s.vm.findClass nR_B = some m.cls := findClass_of_methodNamed B.named
  have hlk := B.notSynchronized
  have hS : va_S (zb_Ad G) s.heap s.heap [] := va_S.rf
  have hl := lv_entry ([.ref (zg_bnk G), .ref (zg_acc G a)]) (n := 2) (Nat.le_of_ble_eq_true rfl)
  rw [lg_entry_eq]
  generalize (lg_sl ([.ref (zg_bnk G), .ref (zg_acc G a)]) ++ List.replicate (2 - (lg_sl ([.ref (zg_bnk G), .ref (zg_acc G a)])).length) Slot.unset).toArray = ls at hl ⊢
  have hl : lv_has ls 2 [(0, .ref (zg_bnk G)), (1, .ref (zg_acc G a))] := hl
  have hF : CallFix p m c nc_B_makeStep 2 s [.ref (zg_bnk G), .ref (zg_acc G a)].toArray zw_big nR_B := ⟨hx, hb, hml, hown, hts⟩
  refine lv_aload_n hx hb nd_B_makeStep_0 rfl (zv_at hl 0 rfl) ?_
  refine lv_aload_n hx hb nd_B_makeStep_1 rfl (zv_at hl 1 rfl) ?_
  refine zb_vWv (As := [_]) (rest := _) hF (c_B_planOrders l D G hG _ (by exact hI) _ (by assumption)) (zw_preV hP hK (q0 := 0) (ci := 0) rfl rfl rfl) nk_B_planOrders nw_347 ⟨rfl, rfl, Nat.le_of_ble_eq_true rfl, Nat.le_of_ble_eq_true rfl⟩ rfl hl.1 rfl (Nat.le_of_ble_eq_true rfl) ⟨Nat.zero_le _, Nat.zero_le _⟩ nd_B_makeStep_2 hS (fun H locs hP hS => ?_)
  have hI := zb_I_key (zb_plan_key a (zb_o S).toNatClampNeg 0 S (zb_spend S a)) hI
  have hstep : zb_step S a = (if (zb_wStep (zb_plan a (zb_o S).toNatClampNeg 0 S (zb_spend S a)) a).1 = 0 then (0, (zb_wStep (zb_plan a (zb_o S).toNatClampNeg 0 S (zb_spend S a)) a).2) else (1, zb_step2 (zb_wStep (zb_plan a (zb_o S).toNatClampNeg 0 S (zb_spend S a)) a).2 a)) := rfl
  generalize hS2 : zb_plan a (zb_o S).toNatClampNeg 0 S (zb_spend S a) = S2 at hP hI hstep
  refine lv_aload_n hx hb nd_B_makeStep_5 rfl (zv_at hl 0 rfl) ?_
  refine lv_aload_n hx hb nd_B_makeStep_6 rfl (zv_at hl 1 rfl) ?_
  refine zb_vWi (As := [_]) (rest := _) hF (c_B_writeStep l D G hG _ (by exact hI) _ (by assumption)) (zw_preV hP hK (q0 := 0) (ci := 0) rfl rfl rfl) nk_B_writeStep nw_363 ⟨rfl, rfl, Nat.le_of_ble_eq_true rfl, Nat.le_of_ble_eq_true rfl⟩ rfl hl.1 rfl (Nat.le_of_ble_eq_true rfl) ⟨Nat.zero_le _, Nat.zero_le _⟩ nd_B_makeStep_7 hS (fun H locs hP hS => ?_)
  refine lv_if_ne (tgt := 15) hx hb nd_B_makeStep_10 (by decide) (fun h_10 => ?_) (fun h_10 => ?_)
  · skip
    have hI : zb_I (zb_wStep S2 a).2 := zb_I_key (zb_wStep_key S2 a) hI
    rw [if_neg h_10] at hstep
    generalize hS3 : (zb_wStep S2 a).2 = S3 at hP hI hstep
    refine lv_aload_n hx hb nd_B_makeStep_15 rfl (zv_at hl 0 rfl) ?_
    refine zb_vWv (As := []) (rest := _) hF (c_B_carryOutOrders l D G hG _ (by exact hI)) (zw_preV hP hK (q0 := 0) (ci := 0) rfl rfl rfl) nk_B_carryOutOrders nw_368 ⟨rfl, rfl, Nat.le_of_ble_eq_true rfl, Nat.le_of_ble_eq_true rfl⟩ rfl hl.1 rfl (Nat.le_of_ble_eq_true rfl) ⟨Nat.zero_le _, Nat.zero_le _⟩ nd_B_makeStep_16 hS (fun H locs hP hS => ?_)
    have hI := zb_I_key (zb_carry_key (zb_o S3).toNatClampNeg 0 S3) hI
    obtain ⟨cc0, hcc, ecc⟩ := hI.2.2.2.1 a
    have hstep2 : zb_step2 S3 a = (let S4 := zb_step3 (zb_accrue (zb_carry (zb_o S3).toNatClampNeg 0 S3) a (zb_dayCount (zb_bas (zb_carry (zb_o S3).toNatClampNeg 0 S3) a) (zb_bd (zb_carry (zb_o S3).toNatClampNeg 0 S3)) (zb_bd (zb_carry (zb_o S3).toNatClampNeg 0 S3) + 1))) a; zb_smrk S4 (upd (zb_mrk S4) a (zb_bd S4))) := rfl
    generalize hS1 : zb_carry (zb_o S3).toNatClampNeg 0 S3 = S1 at hP hI hstep2 ecc
    refine lv_aload_n hx hb nd_B_makeStep_19 rfl (zv_at hl 1 rfl) ?_
    refine lv_aload_n hx hb nd_B_makeStep_20 rfl (zv_at hl 1 rfl) ?_
    refine zb_getA hx hb hts hown hK hP (by assumption) 2 (by decide) (hts _ nw_77) rfl nd_B_makeStep_21 ?_
    refine lv_aload_n hx hb nd_B_makeStep_24 rfl (zv_at hl 0 rfl) ?_
    refine zb_getB hx hb hts hown hK hP 9 (by decide) (hts _ nw_164) rfl nd_B_makeStep_25 ?_
    refine lv_aload_n hx hb nd_B_makeStep_28 rfl (zv_at hl 0 rfl) ?_
    refine zb_getB hx hb hts hown hK hP 9 (by decide) (hts _ nw_164) rfl nd_B_makeStep_29 ?_
    refine lv_iconst (v := 1) hx hb nd_B_makeStep_32 (by decide) ?_
    refine lv_iadd hx hb nd_B_makeStep_33 ?_
    refine zw_sR (As := [_, _, _]) (rest := _) hF (c_C_dayCount l _ _ _) zw_preN nk_C_dayCount nw_372 ⟨rfl, rfl, Nat.le_of_ble_eq_true rfl, Nat.le_of_ble_eq_true rfl⟩ rfl hl.1 rfl (Nat.le_of_ble_eq_true rfl) ⟨Nat.zero_le _, Nat.zero_le _⟩ nd_B_makeStep_34 ?_
    refine zb_vWv (As := [_]) (rest := _) hF (c_A_accrue l D G hG _ _ (by assumption) _) (zw_preV hP hK (ci := 1) rfl (zb_atA (by assumption)) rfl) nk_A_accrue nw_382 ⟨rfl, rfl, Nat.le_of_ble_eq_true rfl, Nat.le_of_ble_eq_true rfl⟩ rfl hl.1 rfl (Nat.le_of_ble_eq_true rfl) ⟨Nat.zero_le _, Nat.zero_le _⟩ nd_B_makeStep_37 hS (fun H locs hP hS => ?_)
    have hI5 : zb_I (zb_accrue S1 a (zb_dayCount (zb_bas S1 a) (zb_bd S1) (zb_bd S1 + 1))) := hI
    generalize hS5 : zb_accrue S1 a (zb_dayCount (zb_bas S1 a) (zb_bd S1) (zb_bd S1 + 1)) = S5 at hP hI5 hstep2
    obtain ⟨cc5, hcc5, ecc5⟩ := hI5.2.2.2.1 a
    refine lv_aload_n hx hb nd_B_makeStep_40 rfl (zv_at hl 0 rfl) ?_
    refine zb_getB hx hb hts hown hK hP 9 (by decide) (hts _ nw_164) rfl nd_B_makeStep_41 ?_
    refine zw_sR (As := [_]) (rest := _) hF (c_C_isLastOfMonth l _) zw_preN nk_C_isLastOfMonth nw_386 ⟨rfl, rfl, Nat.le_of_ble_eq_true rfl, Nat.le_of_ble_eq_true rfl⟩ rfl hl.1 rfl (Nat.le_of_ble_eq_true rfl) ⟨Nat.zero_le _, Nat.zero_le _⟩ nd_B_makeStep_44 ?_
    refine lv_if_eq (tgt := 66) hx hb nd_B_makeStep_47 (by decide) (fun h_47 => ?_) (fun h_47 => ?_)
    · skip
      refine lv_aload_n hx hb nd_B_makeStep_66 rfl (zv_at hl 1 rfl) ?_
      refine lv_aload_n hx hb nd_B_makeStep_67 rfl (zv_at hl 0 rfl) ?_
      refine zb_getB hx hb hts hown hK hP 9 (by decide) (hts _ nw_164) rfl nd_B_makeStep_68 ?_
      refine zb_put_mrk hx hb hts hown hK hG hP hS (by assumption) (hts _ nw_89) nd_B_makeStep_71 (fun H locs hP hS => ?_)
      refine lv_iconst (v := 1) hx hb nd_B_makeStep_74 (by decide) ?_
      refine zb_zret hx hb hr hlk nd_B_makeStep_75 hP hS (by decide) ?_
      rw [hstep, hstep2]
      unfold zb_step3
      rw [if_pos h_47]
      all_goals rfl
    · skip
      refine lv_aload_n hx hb nd_B_makeStep_50 rfl (zv_at hl 0 rfl) ?_
      refine zb_getB hx hb hts hown hK hP 6 (by decide) (hts _ nw_161) rfl nd_B_makeStep_51 ?_
      refine lv_aload_n hx hb nd_B_makeStep_54 rfl (zv_at hl 1 rfl) ?_
      refine zb_getA hx hb hts hown hK hP (by assumption) 1 (by decide) (hts _ nw_76) rfl nd_B_makeStep_55 ?_
      refine lv_dup2_11 hx hb nd_B_makeStep_58 rfl rfl ?_
      refine zb_ald_itr hx hb hK hP (by show vp_in (zb_cur S5 a) 3; rw [ecc5]; exact vp_in_nI hcc5 (by decide)) nd_B_makeStep_59 ?_
      refine lv_aload_n hx hb nd_B_makeStep_60 rfl (zv_at hl 1 rfl) ?_
      refine zb_vWl (As := []) (rest := _) hF (c_A_takeInterest l D G hG _ _ (by assumption)) (zw_preV hP hK (ci := 1) rfl (zb_atA (by assumption)) rfl) nk_A_takeInterest nw_389 ⟨rfl, rfl, Nat.le_of_ble_eq_true rfl, Nat.le_of_ble_eq_true rfl⟩ rfl hl.1 rfl (Nat.le_of_ble_eq_true rfl) ⟨Nat.zero_le _, Nat.zero_le _⟩ nd_B_makeStep_61 hS (fun H locs hP hS => ?_)
      refine lv_ladd hx hb nd_B_makeStep_64 ?_
      refine zb_ast_itr hx hb hK hG hP hS (by show vp_in (zb_cur S5 a) 3; rw [ecc5]; exact vp_in_nI hcc5 (by decide)) nd_B_makeStep_65 (fun H locs hP hS => ?_)
      refine lv_aload_n hx hb nd_B_makeStep_66 rfl (zv_at hl 1 rfl) ?_
      refine lv_aload_n hx hb nd_B_makeStep_67 rfl (zv_at hl 0 rfl) ?_
      refine zb_getB hx hb hts hown hK hP 9 (by decide) (hts _ nw_164) rfl nd_B_makeStep_68 ?_
      refine zb_put_mrk hx hb hts hown hK hG hP hS (by assumption) (hts _ nw_89) nd_B_makeStep_71 (fun H locs hP hS => ?_)
      refine lv_iconst (v := 1) hx hb nd_B_makeStep_74 (by decide) ?_
      refine zb_zret hx hb hr hlk nd_B_makeStep_75 hP hS (by decide) ?_
      rw [hstep, hstep2]
      unfold zb_step3
      rw [if_neg h_47]
      all_goals rfl
  · skip
    refine lv_iconst (v := 0) hx hb nd_B_makeStep_13 (by decide) ?_
    refine zb_zret hx hb hr hlk nd_B_makeStep_14 hP hS (by decide) ?_
    rw [hstep, if_pos h_10]

set_option maxHeartbeats 4000000 in
set_option maxRecDepth 100000 in
theorem c_B_makeDayEnd (l : Launch) (D : va_G) (G : zg_G) (hG : zw_apart (zb_adr G)) (S : zb_S) (hI : zb_I S) : Met l ny_B_makeDayEnd (Cond.code ny_B_makeDayEnd nc_B_makeDayEnd 2 (some .boolean) :: zw_big) ({ frames := 5, cells := 0, slots := 0, locals := 123 } : Room) (zw_P [.ref (zg_bnk G)] D (zb_tys G) (zb_cells G S)) (zb_Qi D G (zb_dayEnd S)) 0 0 (zb_Ad G) := by
  refine Met.ofW (cc := nc_B_makeDayEnd) (maxL := 2) (ret := (some .boolean)) (by decide) rfl ?_
  intro p e s m args below meth c s₁ B hml hv
  obtain ⟨rfl, hP, hK⟩ := hv
  have hx := B.exec
  have hb := B.bytes
  have hr := B.returns
  have hts0 := atoms_spec (ws := Cond.code ny_B_makeDayEnd nc_B_makeDayEnd 2 (some .boolean) :: zw_big) B.pre
  have hts : ∀ w ∈ zw_big, w.before [.ref (zg_bnk G)].toArray s = true := fun w h => hts0 w (List.mem_cons_of_mem _ h)
  have hown : s.vm.findClass nR_B = some m.cls := findClass_of_methodNamed B.named
  have hlk := B.notSynchronized
  have hS : va_S (zb_Ad G) s.heap s.heap [] := va_S.rf
  have hl := lv_entry ([.ref (zg_bnk G)]) (n := 2) (Nat.le_of_ble_eq_true rfl)
  rw [lg_entry_eq]
  generalize (lg_sl ([.ref (zg_bnk G)]) ++ List.replicate (2 - (lg_sl ([.ref (zg_bnk G)])).length) Slot.unset).toArray = ls at hl ⊢
  have hl : lv_has ls 2 [(0, .ref (zg_bnk G))] := hl
  have hF : CallFix p m c nc_B_makeDayEnd 2 s [.ref (zg_bnk G)].toArray zw_big nR_B := ⟨hx, hb, hml, hown, hts⟩
  obtain ⟨n, hn6, en⟩ := hI.1
  have hI00 := hI
  refine zw_cut (σ := zb_S) 20 (fun x => []) (fun x H locs ls => zb_dayEnd S = zb_dayEnd2 x ∧ zb_key x = zb_key S ∧ va_P D vwCl (zb_cells G x) H ∧ va_S (zb_Ad G) s.heap H locs ∧ lv_has ls 2 [(0, .ref (zg_bnk G))]) (fun x H locs ls hI => ?_) (fun hJ20 => ?_)
  · skip
    obtain ⟨hJ, hkx, hP, hS, hl⟩ := hI
    have hI : zb_I S := hI00
    have enx : (zb_n x).toNatClampNeg = n := by rw [zb_key_n hkx, en]; exact nI_clamp (by omega)
    have hJ2 : zb_dayEnd S = (if (zb_steps n 0 (zb_sde x 1)).1 = 0 then (0, (zb_steps n 0 (zb_sde x 1)).2) else zb_dayEnd3 (zb_steps n 0 (zb_sde x 1)).2) := by rw [hJ, zb_dayEnd2, enx]
    refine lv_aload_n hx hb nd_B_makeDayEnd_20 rfl (zv_at hl 0 rfl) ?_
    refine lv_iconst (v := 1) hx hb nd_B_makeDayEnd_21 (by decide) ?_
    refine zb_put_de hx hb hts hown hK hG hP hS (by decide) (hts _ nw_165) nd_B_makeDayEnd_22 (fun H locs hP hS => ?_)
    refine lv_iconst (v := 0) hx hb nd_B_makeDayEnd_25 (by decide) ?_
    refine lv_istore_n hx hb nd_B_makeDayEnd_26 rfl hl (by decide) rfl (fun ls hl => ?_)
    refine zw_loop (σ := Nat × zb_S) (fun k y H locs ls => y.1 + k = n ∧ zb_steps n 0 (zb_sde x 1) = zb_steps k y.1 y.2 ∧ zb_key y.2 = zb_key S ∧ va_P D vwCl (zb_cells G y.2) H ∧ va_S (zb_Ad G) s.heap H locs ∧ lv_has ls 2 [(0, .ref (zg_bnk G)), (1, .int (nI y.1))]) ?_ n (0, zb_sde x 1) ⟨by simp, rfl, hkx, hP, hS, zv_sub hl (by intro q hq; simp only [List.mem_cons, List.not_mem_nil, or_false] at hq; rcases hq with rfl | rfl <;> rfl)⟩
    rintro k ⟨i, S1⟩ H locs ls hI9 ih
    obtain ⟨hik, hE, hkey, hP, hS, hl⟩ := hI9
    dsimp only at hik hE hkey hP hl
    have hI := zb_I_key hkey hI
    have en1 : zb_n S1 = nI n := (zb_key_n hkey).trans en
    refine lv_iload_n hx hb nd_B_makeDayEnd_27 rfl (zv_at hl 1 rfl) ?_
    refine lv_aload_n hx hb nd_B_makeDayEnd_28 rfl (zv_at hl 0 rfl) ?_
    refine zb_getB hx hb hts hown hK hP 7 (by decide) (hts _ nw_162) rfl nd_B_makeDayEnd_29 ?_
    refine lv_icmp_ge (tgt := 72) hx hb nd_B_makeDayEnd_32 (by decide) (fun h_32 => ?_) (fun h_32 => ?_)
    · skip
      have hk0 : k = 0 := by
        have h : nI n ≤ nI i := by rw [← en1]; exact h_32
        have := (nI_leI (a := n) (b := i) (by omega) (by omega)).mp h
        omega
      subst hk0
      have hE : zb_steps n 0 (zb_sde x 1) = (1, S1) := hE
      refine lv_aload_n hx hb nd_B_makeDayEnd_72 rfl (zv_at hl 0 rfl) ?_
      refine zb_getB hx hb hts hown hK hP 4 (by decide) (hts _ nw_159) rfl nd_B_makeDayEnd_73 ?_
      refine lv_iconst (v := 0) hx hb nd_B_makeDayEnd_76 (by decide) ?_
      refine zb_vWi (As := [_]) (rest := _) hF (c_D_writeTransaction l D G hG _ _) (zw_preV hP hK (q0 := 5) (ci := 5) rfl rfl rfl) nk_D_writeTransaction nw_210 ⟨rfl, rfl, Nat.le_of_ble_eq_true rfl, Nat.le_of_ble_eq_true rfl⟩ rfl hl.1 rfl (Nat.le_of_ble_eq_true rfl) ⟨Nat.zero_le _, Nat.zero_le _⟩ nd_B_makeDayEnd_77 hS (fun H locs hP hS => ?_)
      refine lv_if_ne (tgt := 85) hx hb nd_B_makeDayEnd_80 (by decide) (fun h_80 => ?_) (fun h_80 => ?_)
      · skip
        refine lv_aload_n hx hb nd_B_makeDayEnd_85 rfl (zv_at hl 0 rfl) ?_
        refine lv_dup hx hb nd_B_makeDayEnd_86 rfl ?_
        refine zb_getB hx hb hts hown hK hP 9 (by decide) (hts _ nw_164) rfl nd_B_makeDayEnd_87 ?_
        refine lv_iconst (v := 1) hx hb nd_B_makeDayEnd_90 (by decide) ?_
        refine lv_iadd hx hb nd_B_makeDayEnd_91 ?_
        refine zb_put_bd hx hb hts hown hK hG hP hS (hts _ nw_164) nd_B_makeDayEnd_92 (fun H locs hP hS => ?_)
        refine lv_aload_n hx hb nd_B_makeDayEnd_95 rfl (zv_at hl 0 rfl) ?_
        refine lv_iconst (v := 0) hx hb nd_B_makeDayEnd_96 (by decide) ?_
        refine zb_put_de hx hb hts hown hK hG hP hS (by decide) (hts _ nw_165) nd_B_makeDayEnd_97 (fun H locs hP hS => ?_)
        refine lv_iconst (v := 1) hx hb nd_B_makeDayEnd_100 (by decide) ?_
        refine zb_zret hx hb hr hlk nd_B_makeDayEnd_101 hP hS (by decide) ?_
        rw [hJ2, hE, if_neg (show ¬ (1 : Int32) = 0 by decide)]
        unfold zb_dayEnd3
        rw [if_neg h_80]
        all_goals rfl
      · skip
        refine lv_iconst (v := 0) hx hb nd_B_makeDayEnd_83 (by decide) ?_
        refine zb_zret hx hb hr hlk nd_B_makeDayEnd_84 hP hS (by decide) ?_
        rw [hJ2, hE, if_neg (show ¬ (1 : Int32) = 0 by decide)]
        unfold zb_dayEnd3
        rw [if_pos h_80]
        all_goals rfl
    · skip
      have hio : i < n := by
        refine Nat.lt_of_not_le fun z => h_32 ?_
        show zb_n S1 ≤ nI i
        rw [en1]; exact nI_le z (by omega)
      have hi6 : i < 6 := by omega
      refine lv_aload_n hx hb nd_B_makeDayEnd_35 rfl (zv_at hl 0 rfl) ?_
      refine zb_getB hx hb hts hown hK hP 0 (by decide) (hts _ nw_155) rfl nd_B_makeDayEnd_36 ?_
      refine lv_iload_n hx hb nd_B_makeDayEnd_39 rfl (zv_at hl 1 rfl) ?_
      refine zb_ald_acc hx hb hK hP (vp_in_nI hi6 (by decide)) nd_B_makeDayEnd_40 ?_
      rw [nI_clamp (show i < 2 ^ 31 by omega)]
      refine zb_getA hx hb hts hown hK hP (by assumption) 8 (by decide) (hts _ nw_89) rfl nd_B_makeDayEnd_41 ?_
      refine lv_aload_n hx hb nd_B_makeDayEnd_44 rfl (zv_at hl 0 rfl) ?_
      refine zb_getB hx hb hts hown hK hP 9 (by decide) (hts _ nw_164) rfl nd_B_makeDayEnd_45 ?_
      refine lv_icmp_ge (tgt := 66) hx hb nd_B_makeDayEnd_48 (by decide) (fun h_48 => ?_) (fun h_48 => ?_)
      · skip
        refine zv_iinc (v := nI (i + 1)) hx hb nd_B_makeDayEnd_66 hl rfl ((nI_succ i).symm) (by decide) rfl (fun ls hl => ?_)
        refine lv_goto (tgt := 27) hx hb nd_B_makeDayEnd_69 (by decide) ?_
        exact ih (k - 1) (i + 1, S1) _ _ _ (by omega) ⟨by show i + 1 + (k - 1) = n; omega, hE.trans (zb_steps_skip (by omega) h_48), hkey, hP, hS, zv_sub hl (by intro q hq; simp only [List.mem_cons, List.not_mem_nil, or_false] at hq; rcases hq with rfl | rfl <;> rfl)⟩
      · skip
        refine lv_aload_n hx hb nd_B_makeDayEnd_51 rfl (zv_at hl 0 rfl) ?_
        refine lv_aload_n hx hb nd_B_makeDayEnd_52 rfl (zv_at hl 0 rfl) ?_
        refine zb_getB hx hb hts hown hK hP 0 (by decide) (hts _ nw_155) rfl nd_B_makeDayEnd_53 ?_
        refine lv_iload_n hx hb nd_B_makeDayEnd_56 rfl (zv_at hl 1 rfl) ?_
        refine zb_ald_acc hx hb hK hP (vp_in_nI hi6 (by decide)) nd_B_makeDayEnd_57 ?_
        rw [nI_clamp (show i < 2 ^ 31 by omega)]
        refine zb_vWi (As := [_]) (rest := _) hF (c_B_makeStep l D G hG _ (by exact hI) _ (by assumption)) (zw_preV hP hK (q0 := 0) (ci := 0) rfl rfl rfl) nk_B_makeStep nw_343 ⟨rfl, rfl, Nat.le_of_ble_eq_true rfl, Nat.le_of_ble_eq_true rfl⟩ rfl hl.1 rfl (Nat.le_of_ble_eq_true rfl) ⟨Nat.zero_le _, Nat.zero_le _⟩ nd_B_makeDayEnd_58 hS (fun H locs hP hS => ?_)
        refine lv_if_ne (tgt := 66) hx hb nd_B_makeDayEnd_61 (by decide) (fun h_61 => ?_) (fun h_61 => ?_)
        · skip
          refine zv_iinc (v := nI (i + 1)) hx hb nd_B_makeDayEnd_66 hl rfl ((nI_succ i).symm) (by decide) rfl (fun ls hl => ?_)
          refine lv_goto (tgt := 27) hx hb nd_B_makeDayEnd_69 (by decide) ?_
          exact ih (k - 1) (i + 1, (zb_step S1 i).2) _ _ _ (by omega) ⟨by show i + 1 + (k - 1) = n; omega, hE.trans (zb_steps_next (by omega) h_48 h_61), (zb_step_key S1 i).trans hkey, hP, hS, zv_sub hl (by intro q hq; simp only [List.mem_cons, List.not_mem_nil, or_false] at hq; rcases hq with rfl | rfl <;> rfl)⟩
        · skip
          refine lv_iconst (v := 0) hx hb nd_B_makeDayEnd_64 (by decide) ?_
          refine zb_zret hx hb hr hlk nd_B_makeDayEnd_65 hP hS (by decide) ?_
          rw [hJ2, hE.trans (zb_steps_stop (by omega) h_48 h_61), if_pos rfl]
  refine lv_aload_n hx hb nd_B_makeDayEnd_0 rfl (zv_at hl 0 rfl) ?_
  refine zb_getB hx hb hts hown hK hP 10 (by decide) (hts _ nw_165) rfl nd_B_makeDayEnd_1 ?_
  refine lv_if_ne (tgt := 20) hx hb nd_B_makeDayEnd_4 (by decide) (fun h_4 => ?_) (fun h_4 => ?_)
  · skip
    first
      | exact hJ20 S _ _ _ ⟨by unfold zb_dayEnd; rw [if_neg h_4], rfl, hP, hS, hl⟩
      | exact hJ20 (zb_tr S 0).2 _ _ _ ⟨by unfold zb_dayEnd; rw [if_pos h_4, if_neg h_15], rfl, hP, hS, hl⟩
  · skip
    refine lv_aload_n hx hb nd_B_makeDayEnd_7 rfl (zv_at hl 0 rfl) ?_
    refine zb_getB hx hb hts hown hK hP 4 (by decide) (hts _ nw_159) rfl nd_B_makeDayEnd_8 ?_
    refine lv_iconst (v := 0) hx hb nd_B_makeDayEnd_11 (by decide) ?_
    refine zb_vWi (As := [_]) (rest := _) hF (c_D_writeTransaction l D G hG _ _) (zw_preV hP hK (q0 := 5) (ci := 5) rfl rfl rfl) nk_D_writeTransaction nw_210 ⟨rfl, rfl, Nat.le_of_ble_eq_true rfl, Nat.le_of_ble_eq_true rfl⟩ rfl hl.1 rfl (Nat.le_of_ble_eq_true rfl) ⟨Nat.zero_le _, Nat.zero_le _⟩ nd_B_makeDayEnd_12 hS (fun H locs hP hS => ?_)
    refine lv_if_ne (tgt := 20) hx hb nd_B_makeDayEnd_15 (by decide) (fun h_15 => ?_) (fun h_15 => ?_)
    · skip
      first
        | exact hJ20 S _ _ _ ⟨by unfold zb_dayEnd; rw [if_neg h_4], rfl, hP, hS, hl⟩
        | exact hJ20 (zb_tr S 0).2 _ _ _ ⟨by unfold zb_dayEnd; rw [if_pos h_4, if_neg h_15], rfl, hP, hS, hl⟩
    · skip
      refine lv_iconst (v := 0) hx hb nd_B_makeDayEnd_18 (by decide) ?_
      refine zb_zret hx hb hr hlk nd_B_makeDayEnd_19 hP hS (by decide) ?_
      unfold zb_dayEnd
      rw [if_pos h_4, if_pos h_15]

set_option maxHeartbeats 4000000 in
set_option maxRecDepth 100000 in
theorem c_B_run (l : Launch) (D : va_G) (G : zg_G) (hG : zw_apart (zb_adr G)) (S : zb_S) (hI : zb_I S) (n : Int32) : Met l ny_B_run (Cond.code ny_B_run nc_B_run 3 (some .int) :: zw_big) ({ frames := 6, cells := 0, slots := 0, locals := 144 } : Room) (zw_P [.ref (zg_bnk G), .int n] D (zb_tys G) (zb_cells G S)) (zb_Qi D G (zb_run S n)) 0 0 (zb_Ad G) := by
  refine Met.ofW (cc := nc_B_run) (maxL := 3) (ret := (some .int)) (by decide) rfl ?_
  intro p e s m args below meth c s₁ B hml hv
  obtain ⟨rfl, hP, hK⟩ := hv
  have hx := B.exec
  have hb := B.bytes
  have hr := B.returns
  have hts0 := atoms_spec (ws := Cond.code ny_B_run nc_B_run 3 (some .int) :: zw_big) B.pre
  have hts : ∀ w ∈ zw_big, w.before [.ref (zg_bnk G), .int n].toArray s = true := fun w h => hts0 w (List.mem_cons_of_mem _ h)
  have hown : s.vm.findClass nR_B = some m.cls := findClass_of_methodNamed B.named
  have hlk := B.notSynchronized
  have hS : va_S (zb_Ad G) s.heap s.heap [] := va_S.rf
  have hl := lv_entry ([.ref (zg_bnk G), .int n]) (n := 3) (Nat.le_of_ble_eq_true rfl)
  rw [lg_entry_eq]
  generalize (lg_sl ([.ref (zg_bnk G), .int n]) ++ List.replicate (3 - (lg_sl ([.ref (zg_bnk G), .int n])).length) Slot.unset).toArray = ls at hl ⊢
  have hl : lv_has ls 3 [(0, .ref (zg_bnk G)), (1, .int n)] := hl
  have hF : CallFix p m c nc_B_run 3 s [.ref (zg_bnk G), .int n].toArray zw_big nR_B := ⟨hx, hb, hml, hown, hts⟩
  refine lv_aload_n hx hb nd_B_run_0 rfl (zv_at hl 0 rfl) ?_
  refine zb_getB hx hb hts hown hK hP 4 (by decide) (hts _ nw_159) rfl nd_B_run_1 ?_
  refine zb_getD hx hb hts hown hK hP 0 (by decide) (hts _ nw_46) rfl nd_B_run_4 ?_
  refine lv_if_eq (tgt := 12) hx hb nd_B_run_7 (by decide) (fun h_7 => ?_) (fun h_7 => ?_)
  · skip
    refine lv_iload_n hx hb nd_B_run_12 rfl (zv_at hl 1 rfl) ?_
    refine lv_iconst (v := 1) hx hb nd_B_run_13 (by decide) ?_
    refine lv_bipush (v := 31) hx hb nd_B_run_14 (by decide) ?_
    refine zw_sR (As := [_, _, _]) (rest := _) hF (c_B_isWithin l _ _ _) zw_preN nk_B_isWithin nw_200 ⟨rfl, rfl, Nat.le_of_ble_eq_true rfl, Nat.le_of_ble_eq_true rfl⟩ rfl hl.1 rfl (Nat.le_of_ble_eq_true rfl) ⟨Nat.zero_le _, Nat.zero_le _⟩ nd_B_run_16 ?_
    refine lv_if_ne (tgt := 25) hx hb nd_B_run_19 (by decide) (fun h_19 => ?_) (fun h_19 => ?_)
    · skip
      obtain ⟨h_a, h_b⟩ := zb_within_spec h_19
      obtain ⟨N, hN, rfl⟩ : ∃ N : Nat, N < 32 ∧ n = nI N := by
        have h0 : ¬ n < 0 := fun q => h_a (by rw [Int32.lt_iff_toInt_lt] at q ⊢; have : (0 : Int32).toInt = 0 := rfl; have : (1 : Int32).toInt = 1 := rfl; omega)
        obtain ⟨j, hj, rfl⟩ := nI_of h0
        exact ⟨j, Nat.lt_of_not_le fun q => h_b (nI_lt (a := 31) (by omega) hj), rfl⟩
      have hrun : zb_run S (nI N) = (if (zb_days N S).1 = 0 then (-1, (zb_days N S).2) else (nI N, (zb_days N S).2)) := by unfold zb_run; rw [if_pos h_7, if_neg h_19, nI_clamp (by omega)]
      refine lv_iconst (v := 0) hx hb nd_B_run_25 (by decide) ?_
      refine lv_istore_n hx hb nd_B_run_26 rfl hl (by decide) rfl (fun ls hl => ?_)
      refine zw_loop (σ := Nat × zb_S) (fun k y H locs ls => y.1 + k = N ∧ zb_days N S = zb_days k y.2 ∧ zb_key y.2 = zb_key S ∧ va_P D vwCl (zb_cells G y.2) H ∧ va_S (zb_Ad G) s.heap H locs ∧ lv_has ls 3 [(0, .ref (zg_bnk G)), (1, .int (nI N)), (2, .int (nI y.1))]) ?_ N (0, S) ⟨by simp, rfl, rfl, hP, hS, zv_sub hl (by intro q hq; simp only [List.mem_cons, List.not_mem_nil, or_false] at hq; rcases hq with rfl | rfl | rfl <;> rfl)⟩
      rintro k ⟨i, S1⟩ H locs ls hI9 ih
      obtain ⟨hik, hE, hkey, hP, hS, hl⟩ := hI9
      dsimp only at hik hE hkey hP hl
      have hI := zb_I_key hkey hI
      refine lv_iload_n hx hb nd_B_run_27 rfl (zv_at hl 2 rfl) ?_
      refine lv_iload_n hx hb nd_B_run_28 rfl (zv_at hl 1 rfl) ?_
      refine lv_icmp_ge (tgt := 47) hx hb nd_B_run_29 (by decide) (fun h_29 => ?_) (fun h_29 => ?_)
      · skip
        have hk0 : k = 0 := by
          have := (nI_leI (a := N) (b := i) (by omega) (by omega)).mp h_29
          omega
        subst hk0
        have hE : zb_days N S = (1, S1) := hE
        refine lv_iload_n hx hb nd_B_run_47 rfl (zv_at hl 1 rfl) ?_
        refine zb_iret hx hb hr hlk nd_B_run_48 hP hS ?_
        rw [hrun, hE, if_neg (show ¬ (1 : Int32) = 0 by decide)]
      · skip
        have hio : i < N := Nat.lt_of_not_le fun z => h_29 (nI_le z (by omega))
        refine lv_aload_n hx hb nd_B_run_32 rfl (zv_at hl 0 rfl) ?_
        refine zb_vWi (As := []) (rest := _) hF (c_B_makeDayEnd l D G hG _ (by exact hI)) (zw_preV hP hK (q0 := 0) (ci := 0) rfl rfl rfl) nk_B_makeDayEnd nw_339 ⟨rfl, rfl, Nat.le_of_ble_eq_true rfl, Nat.le_of_ble_eq_true rfl⟩ rfl hl.1 rfl (Nat.le_of_ble_eq_true rfl) ⟨Nat.zero_le _, Nat.zero_le _⟩ nd_B_run_33 hS (fun H locs hP hS => ?_)
        refine lv_if_ne (tgt := 41) hx hb nd_B_run_36 (by decide) (fun h_36 => ?_) (fun h_36 => ?_)
        · skip
          refine zv_iinc (v := nI (i + 1)) hx hb nd_B_run_41 hl rfl ((nI_succ i).symm) (by decide) rfl (fun ls hl => ?_)
          refine lv_goto (tgt := 27) hx hb nd_B_run_44 (by decide) ?_
          exact ih (k - 1) (i + 1, (zb_dayEnd S1).2) _ _ _ (by omega) ⟨by show i + 1 + (k - 1) = N; omega, hE.trans (zb_days_next (by omega) h_36), (zb_dayEnd_key S1).trans hkey, hP, hS, zv_sub hl (by intro q hq; simp only [List.mem_cons, List.not_mem_nil, or_false] at hq; rcases hq with rfl | rfl | rfl <;> rfl)⟩
        · skip
          refine lv_iconst (v := -1) hx hb nd_B_run_39 (by decide) ?_
          refine zb_iret hx hb hr hlk nd_B_run_40 hP hS ?_
          rw [hrun, hE.trans (zb_days_stop (by omega) h_36), if_pos rfl]
    · skip
      refine lv_bipush (v := -3) hx hb nd_B_run_22 (by decide) ?_
      refine zb_iret hx hb hr hlk nd_B_run_24 hP hS ?_
      unfold zb_run
      rw [if_pos h_7, if_pos h_19]
  · skip
    refine lv_iconst (v := -1) hx hb nd_B_run_10 (by decide) ?_
    refine zb_iret hx hb hr hlk nd_B_run_11 hP hS ?_
    unfold zb_run
    rw [if_neg h_7]
