theorem zb_cur_in {x : Int32} (h : ¬ zb_within x 0 2 = 0) : vp_in x 3 := by
  obtain ⟨j, hj, rfl⟩ := zb_within_nat (N := 3) (n := 3) rfl (by decide) h
  exact vp_in_nI hj (by decide)

set_option maxHeartbeats 4000000 in
set_option maxRecDepth 100000 in
theorem c_B_ledger (l : Launch) (D : va_G) (G : zg_G) (S : zb_S) (hI : zb_I S) (cu wh : Int32) : Met l ny_B_ledger (Cond.code ny_B_ledger nc_B_ledger 3 (some .long) :: zw_big) ({ frames := 2, cells := 0, slots := 0, locals := 42 } : Room) (zw_P [.ref (zg_bnk G), .int cu, .int wh] D (zb_tys G) (zb_cells G S)) (zw_R (.long (zb_ledger S cu wh))) 0 0 (fun _ => False) := by
  refine Met.ofW (cc := nc_B_ledger) (maxL := 3) (ret := (some .long)) (by decide) rfl ?_
  intro p e s m args below meth c s₁ B hml hv
  obtain ⟨rfl, hP, hK⟩ := hv
  have hx := B.exec
  have hb := B.bytes
  have hr := B.returns
  have hts0 := atoms_spec (ws := Cond.code ny_B_ledger nc_B_ledger 3 (some .long) :: zw_big) B.pre
  have hts : ∀ w ∈ zw_big, w.before [.ref (zg_bnk G), .int cu, .int wh].toArray s = true := fun w h => hts0 w (List.mem_cons_of_mem _ h)
  have hown : s.vm.findClass nR_B = some m.cls := findClass_of_methodNamed B.named
  have hlk := B.notSynchronized
  have hl := lv_entry ([.ref (zg_bnk G), .int cu, .int wh]) (n := 3) (Nat.le_of_ble_eq_true rfl)
  rw [lg_entry_eq]
  generalize (lg_sl ([.ref (zg_bnk G), .int cu, .int wh]) ++ List.replicate (3 - (lg_sl ([.ref (zg_bnk G), .int cu, .int wh])).length) Slot.unset).toArray = ls at hl ⊢
  have hl : lv_has ls 3 [(0, .ref (zg_bnk G)), (1, .int cu), (2, .int wh)] := hl
  have hF : CallFix p m c nc_B_ledger 3 s [.ref (zg_bnk G), .int cu, .int wh].toArray zw_big nR_B := ⟨hx, hb, hml, hown, hts⟩
  refine lv_aload_n hx hb nd_B_ledger_0 rfl (zv_at hl 0 rfl) ?_
  refine zb_getB hx hb hts hown hK hP 4 (by decide) (hts _ nw_159) rfl nd_B_ledger_1 ?_
  refine zb_getD hx hb hts hown hK hP 0 (by decide) (hts _ nw_46) rfl nd_B_ledger_4 ?_
  refine lv_if_ne (tgt := 17) hx hb nd_B_ledger_7 (by decide) (fun h_7 => ?_) (fun h_7 => ?_)
  · skip
    refine lv_lconst (v := 0) hx hb nd_B_ledger_17 (by decide) ?_
    refine zw_lret hx hb hr hlk nd_B_ledger_18 ?_
    unfold zb_ledger
    all_goals (try dsimp only)
    all_goals (try rw [if_neg h_7])
    all_goals rfl
  · skip
    refine lv_iload_n hx hb nd_B_ledger_10 rfl (zv_at hl 1 rfl) ?_
    refine zw_sR (As := [_]) (rest := _) hF (c_B_isCurrency l _) zw_preN nk_B_isCurrency nw_197 ⟨rfl, rfl, Nat.le_of_ble_eq_true rfl, Nat.le_of_ble_eq_true rfl⟩ rfl hl.1 rfl (Nat.le_of_ble_eq_true rfl) ⟨Nat.zero_le _, Nat.zero_le _⟩ nd_B_ledger_11 ?_
    refine lv_if_ne (tgt := 19) hx hb nd_B_ledger_14 (by decide) (fun h_14 => ?_) (fun h_14 => ?_)
    · skip
      refine lv_iload_n hx hb nd_B_ledger_19 rfl (zv_at hl 2 rfl) ?_
      by_cases hs_0 : wh = 0
      · skip
        refine lv_topi (fun z9 ez9 => ?_)
        obtain rfl := ez9.trans hs_0
        refine lv_tableIn (off := 28) (tgt := 48) hx hb nd_B_ledger_20 (by decide) (by decide) (by decide) (by decide) ?_
        refine lv_aload_n hx hb nd_B_ledger_48 rfl (zv_at hl 0 rfl) ?_
        refine zb_getB hx hb hts hown hK hP 5 (by decide) (hts _ nw_160) rfl nd_B_ledger_49 ?_
        refine lv_iload_n hx hb nd_B_ledger_52 rfl (zv_at hl 1 rfl) ?_
        refine zb_ald_csh hx hb hK hP (zb_cur_in h_14) nd_B_ledger_53 ?_
        refine zw_lret hx hb hr hlk nd_B_ledger_54 ?_
        unfold zb_ledger
        all_goals (try dsimp only)
        all_goals (try rw [if_pos h_7])
        all_goals (try rw [if_neg h_14])
        all_goals (try rw [if_pos hs_0])
        all_goals rfl
      by_cases hs_1 : wh = 1
      · skip
        refine lv_topi (fun z9 ez9 => ?_)
        obtain rfl := ez9.trans hs_1
        refine lv_tableIn (off := 35) (tgt := 55) hx hb nd_B_ledger_20 (by decide) (by decide) (by decide) (by decide) ?_
        refine lv_aload_n hx hb nd_B_ledger_55 rfl (zv_at hl 0 rfl) ?_
        refine zb_getB hx hb hts hown hK hP 6 (by decide) (hts _ nw_161) rfl nd_B_ledger_56 ?_
        refine lv_iload_n hx hb nd_B_ledger_59 rfl (zv_at hl 1 rfl) ?_
        refine zb_ald_itr hx hb hK hP (zb_cur_in h_14) nd_B_ledger_60 ?_
        refine zw_lret hx hb hr hlk nd_B_ledger_61 ?_
        unfold zb_ledger
        all_goals (try dsimp only)
        all_goals (try rw [if_pos h_7])
        all_goals (try rw [if_neg h_14])
        all_goals (try rw [if_neg hs_0])
        all_goals (try rw [if_pos hs_1])
        all_goals rfl
      by_cases hs_2 : wh = 2
      · skip
        refine lv_topi (fun z9 ez9 => ?_)
        obtain rfl := ez9.trans hs_2
        refine lv_tableIn (off := 42) (tgt := 62) hx hb nd_B_ledger_20 (by decide) (by decide) (by decide) (by decide) ?_
        refine lv_aload_n hx hb nd_B_ledger_62 rfl (zv_at hl 0 rfl) ?_
        refine lv_iload_n hx hb nd_B_ledger_63 rfl (zv_at hl 1 rfl) ?_
        refine zw_vR (As := [_]) (rest := _) hF (c_B_sumOfBalances l D G _ (by exact hI) _) (zw_preV hP hK (q0 := 0) (ci := 0) rfl rfl rfl) nk_B_sumOfBalances nw_436 ⟨rfl, rfl, Nat.le_of_ble_eq_true rfl, Nat.le_of_ble_eq_true rfl⟩ rfl hl.1 rfl (Nat.le_of_ble_eq_true rfl) ⟨Nat.zero_le _, Nat.zero_le _⟩ nd_B_ledger_64 ?_
        refine zw_lret hx hb hr hlk nd_B_ledger_67 ?_
        unfold zb_ledger
        all_goals (try dsimp only)
        all_goals (try rw [if_pos h_7])
        all_goals (try rw [if_neg h_14])
        all_goals (try rw [if_neg hs_0])
        all_goals (try rw [if_neg hs_1])
        all_goals (try rw [if_pos hs_2])
        all_goals rfl
      refine lv_tableOut (tgt := 68) hx hb nd_B_ledger_20 (by have e0 := lv_neT (a := 0) hs_0 (by decide); have e1 := lv_neT (a := 1) hs_1 (by decide); have e2 := lv_neT (a := 2) hs_2 (by decide); omega) (by decide) ?_
      refine lv_lconst (v := 0) hx hb nd_B_ledger_68 (by decide) ?_
      refine zw_lret hx hb hr hlk nd_B_ledger_69 ?_
      unfold zb_ledger
      all_goals (try dsimp only)
      all_goals (try rw [if_pos h_7])
      all_goals (try rw [if_neg h_14])
      all_goals (try rw [if_neg hs_0])
      all_goals (try rw [if_neg hs_1])
      all_goals (try rw [if_neg hs_2])
      all_goals rfl
    · skip
      refine lv_lconst (v := 0) hx hb nd_B_ledger_17 (by decide) ?_
      refine zw_lret hx hb hr hlk nd_B_ledger_18 ?_
      unfold zb_ledger
      all_goals (try dsimp only)
      all_goals (try rw [if_pos h_7])
      all_goals (try rw [if_pos h_14])
      all_goals rfl

set_option maxHeartbeats 4000000 in
set_option maxRecDepth 100000 in
theorem c_B_planOrders (l : Launch) (D : va_G) (G : zg_G) (hG : zw_apart (zb_adr G)) (S : zb_S) (hI : zb_I S) (a : Nat) (ha : a < 6) : Met l ny_B_planOrders (Cond.code ny_B_planOrders nc_B_planOrders 6 none :: zw_big) ({ frames := 3, cells := 0, slots := 0, locals := 77 } : Room) (zw_P [.ref (zg_bnk G), .ref (zg_acc G a)] D (zb_tys G) (zb_cells G S)) (zb_Qv D G (zb_plan a (zb_o S).toNatClampNeg 0 S (zb_spend S a))) 0 0 (zb_Ad G) := by
  refine Met.ofW (cc := nc_B_planOrders) (maxL := 6) (ret := none) (by decide) rfl ?_
  intro p e s m args below meth c s₁ B hml hv
  obtain ⟨rfl, hP, hK⟩ := hv
  have hx := B.exec
  have hb := B.bytes
  have hr := B.returns
  have hts0 := atoms_spec (ws := Cond.code ny_B_planOrders nc_B_planOrders 6 none :: zw_big) B.pre
  have hts : ∀ w ∈ zw_big, w.before [.ref (zg_bnk G), .ref (zg_acc G a)].toArray s = true := fun w h => hts0 w (List.mem_cons_of_mem _ h)
  have hown : s.vm.findClass nR_B = some m.cls := findClass_of_methodNamed B.named
  have hlk := B.notSynchronized
  have hS : va_S (zb_Ad G) s.heap s.heap [] := va_S.rf
  have hl := lv_entry ([.ref (zg_bnk G), .ref (zg_acc G a)]) (n := 6) (Nat.le_of_ble_eq_true rfl)
  rw [lg_entry_eq]
  generalize (lg_sl ([.ref (zg_bnk G), .ref (zg_acc G a)]) ++ List.replicate (6 - (lg_sl ([.ref (zg_bnk G), .ref (zg_acc G a)])).length) Slot.unset).toArray = ls at hl ⊢
  have hl : lv_has ls 6 [(0, .ref (zg_bnk G)), (1, .ref (zg_acc G a))] := hl
  have hF : CallFix p m c nc_B_planOrders 6 s [.ref (zg_bnk G), .ref (zg_acc G a)].toArray zw_big nR_B := ⟨hx, hb, hml, hown, hts⟩
  obtain ⟨o, ho6, eo⟩ := hI.2.1
  have eo2 : (zb_o S).toNatClampNeg = o := by rw [eo]; exact nI_clamp (by omega)
  rw [eo2]
  refine lv_aload_n hx hb nd_B_planOrders_0 rfl (zv_at hl 1 rfl) ?_
  refine zw_vR (As := []) (rest := _) hF (c_A_spendable l D G _ _ (by assumption)) (zw_preV hP hK (ci := 1) rfl (zb_atA (by assumption)) rfl) nk_A_spendable nw_251 ⟨rfl, rfl, Nat.le_of_ble_eq_true rfl, Nat.le_of_ble_eq_true rfl⟩ rfl hl.1 rfl (Nat.le_of_ble_eq_true rfl) ⟨Nat.zero_le _, Nat.zero_le _⟩ nd_B_planOrders_1 ?_
  refine lv_lstore_n hx hb nd_B_planOrders_4 rfl hl (by decide) rfl (fun ls hl => ?_)
  refine lv_iconst (v := 0) hx hb nd_B_planOrders_5 (by decide) ?_
  refine lv_istore hx hb nd_B_planOrders_6 hl (by decide) rfl (fun ls hl => ?_)
  refine zw_loop (σ := Nat × zb_S × Int64) (fun k x H locs ls => x.1 + k = o ∧ zb_plan a o 0 S (zb_spend S a) = zb_plan a k x.1 x.2.1 x.2.2 ∧ zb_key x.2.1 = zb_key S ∧ va_P D vwCl (zb_cells G x.2.1) H ∧ va_S (zb_Ad G) s.heap H locs ∧ lv_has ls 6 [(0, .ref (zg_bnk G)), (1, .ref (zg_acc G a)), (2, .long x.2.2), (4, .int (nI x.1))]) ?_ o (0, S, zb_spend S a) ⟨by simp, rfl, rfl, hP, hS, zv_sub hl (by intro q hq; simp only [List.mem_cons, List.not_mem_nil, or_false] at hq; rcases hq with rfl | rfl | rfl | rfl <;> rfl)⟩
  rintro k ⟨i, S1, left⟩ H locs ls hI9 ih
  obtain ⟨hik, hE, hkey, hP, hS, hl⟩ := hI9
  dsimp only at hik hE hkey hP hl
  have hI := zb_I_key hkey hI
  have eo1 : zb_o S1 = nI o := (zb_key_o hkey).trans eo
  refine lv_iload hx hb nd_B_planOrders_8 (zv_at hl 4 rfl) ?_
  refine lv_aload_n hx hb nd_B_planOrders_10 rfl (zv_at hl 0 rfl) ?_
  refine zb_getB hx hb hts hown hK hP 8 (by decide) (hts _ nw_163) rfl nd_B_planOrders_11 ?_
  refine lv_icmp_ge (tgt := 120) hx hb nd_B_planOrders_14 (by decide) (fun h_14 => ?_) (fun h_14 => ?_)
  · skip
    have hk0 : k = 0 := by
      have h : nI o ≤ nI i := by rw [← eo1]; exact h_14
      have := (nI_leI (a := o) (b := i) (by omega) (by omega)).mp h
      omega
    subst hk0
    refine zb_vret hx hb hr hlk nd_B_planOrders_120 hP hS ?_
    rw [hE]
    all_goals rfl
  · skip
    have hio : i < o := by
      refine Nat.lt_of_not_le fun q => h_14 ?_
      show zb_o S1 ≤ nI i
      rw [eo1]; exact nI_le q (by omega)
    have hi6 : i < 6 := by omega
    refine lv_aload_n hx hb nd_B_planOrders_17 rfl (zv_at hl 0 rfl) ?_
    refine zb_getB hx hb hts hown hK hP 2 (by decide) (hts _ nw_157) rfl nd_B_planOrders_18 ?_
    refine lv_iload hx hb nd_B_planOrders_21 (zv_at hl 4 rfl) ?_
    refine zb_ald_ord hx hb hK hP (vp_in_nI hi6 (by decide)) nd_B_planOrders_23 ?_
    rw [nI_clamp (show i < 2 ^ 31 by omega)]
    refine lv_astore hx hb nd_B_planOrders_24 hl (by decide) rfl (fun ls hl => ?_)
    refine zw_cut (σ := Int32) 65 (fun x => [.int x, .ref (zg_ord G i)]) (fun x H locs ls => x = zb_dueV S1 a i ∧ (x = 0 ∨ x = 1) ∧ va_P D vwCl (zb_cells G S1) H ∧ va_S (zb_Ad G) s.heap H locs ∧ lv_has ls 6 [(0, .ref (zg_bnk G)), (1, .ref (zg_acc G a)), (2, .long left), (4, .int (nI i)), (5, .ref (zg_ord G i))]) (fun v H locs ls hI9 => ?_) (fun hJ65 => ?_)
    · skip
      obtain ⟨hv, hv01, hP, hS, hl⟩ := hI9
      refine zb_put_odu hx hb hts hown hK hG hP hS (by assumption) hv01 (hts _ nw_138) nd_B_planOrders_65 (fun H locs hP hS => ?_)
      refine zw_cut (σ := Int32) 94 (fun x => [.int x, .ref (zg_ord G i)]) (fun x H locs ls => x = zb_paidV S1 i v left ∧ (x = 0 ∨ x = 1) ∧ va_P D vwCl (zb_cells G (zb_sodu S1 (upd (zb_odu S1) i v))) H ∧ va_S (zb_Ad G) s.heap H locs ∧ lv_has ls 6 [(0, .ref (zg_bnk G)), (1, .ref (zg_acc G a)), (2, .long left), (4, .int (nI i)), (5, .ref (zg_ord G i))]) (fun u H locs ls hI9 => ?_) (fun hJ94 => ?_)
      · skip
        obtain ⟨hu, hu01, hP, hS, hl⟩ := hI9
        refine zb_put_opd hx hb hts hown hK hG hP hS (by assumption) hu01 (hts _ nw_139) nd_B_planOrders_94 (fun H locs hP hS => ?_)
        refine lv_aload hx hb nd_B_planOrders_97 (zv_at hl 5 rfl) ?_
        refine zb_getO hx hb hts hown hK hP (by assumption) 6 (by decide) (hts _ nw_139) rfl nd_B_planOrders_99 ?_
        rw [zq_opd]
        refine lv_if_eq (tgt := 114) hx hb nd_B_planOrders_102 (by decide) (fun h_102 => ?_) (fun h_102 => ?_)
        · skip
          refine zv_iinc (v := nI (i + 1)) hx hb nd_B_planOrders_114 hl rfl ((nI_succ i).symm) (by decide) rfl (fun ls hl => ?_)
          refine lv_goto (tgt := 8) hx hb nd_B_planOrders_117 (by decide) ?_
          exact ih (k - 1) (i + 1, zb_sopd (zb_sodu S1 (upd (zb_odu S1) i v)) (upd (zb_opd S1) i u), left) _ _ _ (by omega) ⟨by show i + 1 + (k - 1) = o; omega, by rw [hE, zb_plan_next (by omega), zb_planOne_eq hv hu, if_pos h_102], hkey, hP, hS, zv_sub hl (by intro q hq; simp only [List.mem_cons, List.not_mem_nil, or_false] at hq; rcases hq with rfl | rfl | rfl | rfl <;> rfl)⟩
        · skip
          refine lv_lload_n hx hb nd_B_planOrders_105 rfl (zv_at hl 2 rfl) ?_
          refine lv_aload hx hb nd_B_planOrders_106 (zv_at hl 5 rfl) ?_
          refine zb_getO hx hb hts hown hK hP (by assumption) 2 (by decide) (hts _ nw_134) rfl nd_B_planOrders_108 ?_
          refine lv_i2l (v := _) hx hb nd_B_planOrders_111 rfl ?_
          refine lv_lsub hx hb nd_B_planOrders_112 ?_
          refine lv_lstore_n hx hb nd_B_planOrders_113 rfl hl (by decide) rfl (fun ls hl => ?_)
          refine zv_iinc (v := nI (i + 1)) hx hb nd_B_planOrders_114 hl rfl ((nI_succ i).symm) (by decide) rfl (fun ls hl => ?_)
          refine lv_goto (tgt := 8) hx hb nd_B_planOrders_117 (by decide) ?_
          exact ih (k - 1) (i + 1, zb_sopd (zb_sodu S1 (upd (zb_odu S1) i v)) (upd (zb_opd S1) i u), left - (zb_oam S1 i).toInt64) _ _ _ (by omega) ⟨by show i + 1 + (k - 1) = o; omega, by rw [hE, zb_plan_next (by omega), zb_planOne_eq hv hu, if_neg h_102], hkey, hP, hS, zv_sub hl (by intro q hq; simp only [List.mem_cons, List.not_mem_nil, or_false] at hq; rcases hq with rfl | rfl | rfl | rfl <;> rfl)⟩
      refine lv_aload hx hb nd_B_planOrders_68 (zv_at hl 5 rfl) ?_
      refine lv_aload hx hb nd_B_planOrders_70 (zv_at hl 5 rfl) ?_
      refine zb_getO hx hb hts hown hK hP (by assumption) 5 (by decide) (hts _ nw_138) rfl nd_B_planOrders_72 ?_
      rw [zq_odu]
      refine lv_if_eq (tgt := 93) hx hb nd_B_planOrders_75 (by decide) (fun h_75 => ?_) (fun h_75 => ?_)
      · skip
        refine lv_iconst (v := 0) hx hb nd_B_planOrders_93 (by decide) ?_
        first
          | exact hJ94 1 _ _ _ ⟨by unfold zb_paidV; rw [if_neg h_75, if_pos h_86], Or.inr rfl, hP, hS, hl⟩
          | exact hJ94 0 _ _ _ ⟨by unfold zb_paidV; rw [if_neg h_75, if_neg h_86], Or.inl rfl, hP, hS, hl⟩
          | exact hJ94 0 _ _ _ ⟨by unfold zb_paidV; rw [if_pos h_75], Or.inl rfl, hP, hS, hl⟩
      · skip
        refine lv_aload hx hb nd_B_planOrders_78 (zv_at hl 5 rfl) ?_
        refine zb_getO hx hb hts hown hK hP (by assumption) 2 (by decide) (hts _ nw_134) rfl nd_B_planOrders_80 ?_
        refine lv_i2l (v := _) hx hb nd_B_planOrders_83 rfl ?_
        refine lv_lload_n hx hb nd_B_planOrders_84 rfl (zv_at hl 2 rfl) ?_
        refine W.lcmp hx hb nd_B_planOrders_85 ?_
        refine lv_if_gt (tgt := 93) hx hb nd_B_planOrders_86 (by decide) (fun h_86 => ?_) (fun h_86 => ?_)
        · skip
          have h_86 := (lg_cmp_gt _ _).mp h_86
          have h_86 : ¬ (zb_oam S1 i).toInt64 ≤ left := Int64.not_le.mpr h_86
          refine lv_iconst (v := 0) hx hb nd_B_planOrders_93 (by decide) ?_
          first
            | exact hJ94 1 _ _ _ ⟨by unfold zb_paidV; rw [if_neg h_75, if_pos h_86], Or.inr rfl, hP, hS, hl⟩
            | exact hJ94 0 _ _ _ ⟨by unfold zb_paidV; rw [if_neg h_75, if_neg h_86], Or.inl rfl, hP, hS, hl⟩
            | exact hJ94 0 _ _ _ ⟨by unfold zb_paidV; rw [if_pos h_75], Or.inl rfl, hP, hS, hl⟩
        · skip
          have h_86 := (show ¬ _ from fun q => h_86 ((lg_cmp_gt _ _).mpr q))
          have h_86 : (zb_oam S1 i).toInt64 ≤ left := Int64.not_lt.mp h_86
          refine lv_iconst (v := 1) hx hb nd_B_planOrders_89 (by decide) ?_
          refine lv_goto (tgt := 94) hx hb nd_B_planOrders_90 (by decide) ?_
          first
            | exact hJ94 1 _ _ _ ⟨by unfold zb_paidV; rw [if_neg h_75, if_pos h_86], Or.inr rfl, hP, hS, hl⟩
            | exact hJ94 0 _ _ _ ⟨by unfold zb_paidV; rw [if_neg h_75, if_neg h_86], Or.inl rfl, hP, hS, hl⟩
            | exact hJ94 0 _ _ _ ⟨by unfold zb_paidV; rw [if_pos h_75], Or.inl rfl, hP, hS, hl⟩
    refine lv_aload hx hb nd_B_planOrders_26 (zv_at hl 5 rfl) ?_
    refine lv_aload hx hb nd_B_planOrders_28 (zv_at hl 5 rfl) ?_
    refine zb_getO hx hb hts hown hK hP (by assumption) 0 (by decide) (hts _ nw_130) rfl nd_B_planOrders_30 ?_
    refine zw_split (fun hj_30 => ?_) (fun j_30 hj_30 => ?_)
    · skip
      refine lv_aload_n hx hb nd_B_planOrders_33 rfl (zv_at hl 1 rfl) ?_
      refine lv_acmp_ne (rx := none) (ry := some _) (tgt := 64) hx hb nd_B_planOrders_34 (by decide) (fun h_34 => ?_) (fun h_34 => ?_)
      · skip
        refine lv_iconst (v := 0) hx hb nd_B_planOrders_64 (by decide) ?_
        first
          | exact hJ65 1 _ _ _ ⟨by unfold zb_dueV; rw [if_pos (show zb_pyr S1 i = some a by rw [hj_30, hja]), if_pos h_57], Or.inr rfl, hP, hS, zv_sub hl (by intro q hq; simp only [List.mem_cons, List.not_mem_nil, or_false] at hq; rcases hq with rfl | rfl | rfl | rfl | rfl <;> rfl)⟩
          | exact hJ65 0 _ _ _ ⟨by unfold zb_dueV; rw [if_pos (show zb_pyr S1 i = some a by rw [hj_30, hja]), if_neg h_57], Or.inl rfl, hP, hS, zv_sub hl (by intro q hq; simp only [List.mem_cons, List.not_mem_nil, or_false] at hq; rcases hq with rfl | rfl | rfl | rfl | rfl <;> rfl)⟩
          | exact hJ65 0 _ _ _ ⟨by unfold zb_dueV; rw [if_neg (show ¬ zb_pyr S1 i = some a by rw [hj_30]; exact fun q => hja (Option.some.inj q))], Or.inl rfl, hP, hS, zv_sub hl (by intro q hq; simp only [List.mem_cons, List.not_mem_nil, or_false] at hq; rcases hq with rfl | rfl | rfl | rfl | rfl <;> rfl)⟩
          | exact hJ65 0 _ _ _ ⟨by unfold zb_dueV; rw [if_neg (show ¬ zb_pyr S1 i = some a by rw [hj_30]; exact fun q => by cases q)], Or.inl rfl, hP, hS, zv_sub hl (by intro q hq; simp only [List.mem_cons, List.not_mem_nil, or_false] at hq; rcases hq with rfl | rfl | rfl | rfl | rfl <;> rfl)⟩
      · skip
        cases h_34 --done
    · skip
      have hpy := hI.2.2.2.2.2.1 i j_30 hj_30
      have hj6 : j_30 < 6 := hpy.1
      have hody := hpy.2
      have hdm := hI.2.2.1
      refine lv_aload_n hx hb nd_B_planOrders_33 rfl (zv_at hl 1 rfl) ?_
      refine lv_acmp_ne (rx := some _) (ry := some _) (tgt := 64) hx hb nd_B_planOrders_34 (by decide) (fun h_34 => ?_) (fun h_34 => ?_)
      · skip
        have hja : ¬ j_30 = a := fun q => h_34 (by rw [q])
        refine lv_iconst (v := 0) hx hb nd_B_planOrders_64 (by decide) ?_
        first
          | exact hJ65 1 _ _ _ ⟨by unfold zb_dueV; rw [if_pos (show zb_pyr S1 i = some a by rw [hj_30, hja]), if_pos h_57], Or.inr rfl, hP, hS, zv_sub hl (by intro q hq; simp only [List.mem_cons, List.not_mem_nil, or_false] at hq; rcases hq with rfl | rfl | rfl | rfl | rfl <;> rfl)⟩
          | exact hJ65 0 _ _ _ ⟨by unfold zb_dueV; rw [if_pos (show zb_pyr S1 i = some a by rw [hj_30, hja]), if_neg h_57], Or.inl rfl, hP, hS, zv_sub hl (by intro q hq; simp only [List.mem_cons, List.not_mem_nil, or_false] at hq; rcases hq with rfl | rfl | rfl | rfl | rfl <;> rfl)⟩
          | exact hJ65 0 _ _ _ ⟨by unfold zb_dueV; rw [if_neg (show ¬ zb_pyr S1 i = some a by rw [hj_30]; exact fun q => hja (Option.some.inj q))], Or.inl rfl, hP, hS, zv_sub hl (by intro q hq; simp only [List.mem_cons, List.not_mem_nil, or_false] at hq; rcases hq with rfl | rfl | rfl | rfl | rfl <;> rfl)⟩
          | exact hJ65 0 _ _ _ ⟨by unfold zb_dueV; rw [if_neg (show ¬ zb_pyr S1 i = some a by rw [hj_30]; exact fun q => by cases q)], Or.inl rfl, hP, hS, zv_sub hl (by intro q hq; simp only [List.mem_cons, List.not_mem_nil, or_false] at hq; rcases hq with rfl | rfl | rfl | rfl | rfl <;> rfl)⟩
      · skip
        have hja : j_30 = a := zb_acc_inj hG hj6 ha (Option.some.inj h_34)
        refine lv_aload_n hx hb nd_B_planOrders_37 rfl (zv_at hl 0 rfl) ?_
        refine zb_getB hx hb hts hown hK hP 3 (by decide) (hts _ nw_158) rfl nd_B_planOrders_38 ?_
        refine lv_aload hx hb nd_B_planOrders_41 (zv_at hl 5 rfl) ?_
        refine zb_getO hx hb hts hown hK hP (by assumption) 3 (by decide) (hts _ nw_136) rfl nd_B_planOrders_43 ?_
        refine lv_aload_n hx hb nd_B_planOrders_46 rfl (zv_at hl 0 rfl) ?_
        refine zb_getB hx hb hts hown hK hP 9 (by decide) (hts _ nw_164) rfl nd_B_planOrders_47 ?_
        refine zw_vR (As := [_, _]) (rest := _) hF (c_R_dueDate l D G _ (by exact hdm) _ _ (by exact hody)) (zw_preV hP hK (q0 := 4) (ci := 4) rfl rfl rfl) nk_R_dueDate nw_351 ⟨rfl, rfl, Nat.le_of_ble_eq_true rfl, Nat.le_of_ble_eq_true rfl⟩ rfl hl.1 rfl (Nat.le_of_ble_eq_true rfl) ⟨Nat.zero_le _, Nat.zero_le _⟩ nd_B_planOrders_50 ?_
        refine lv_aload_n hx hb nd_B_planOrders_53 rfl (zv_at hl 0 rfl) ?_
        refine zb_getB hx hb hts hown hK hP 9 (by decide) (hts _ nw_164) rfl nd_B_planOrders_54 ?_
        refine lv_icmp_ne (tgt := 64) hx hb nd_B_planOrders_57 (by decide) (fun h_57 => ?_) (fun h_57 => ?_)
        · skip
          refine lv_iconst (v := 0) hx hb nd_B_planOrders_64 (by decide) ?_
          first
            | exact hJ65 1 _ _ _ ⟨by unfold zb_dueV; rw [if_pos (show zb_pyr S1 i = some a by rw [hj_30, hja]), if_pos h_57], Or.inr rfl, hP, hS, zv_sub hl (by intro q hq; simp only [List.mem_cons, List.not_mem_nil, or_false] at hq; rcases hq with rfl | rfl | rfl | rfl | rfl <;> rfl)⟩
            | exact hJ65 0 _ _ _ ⟨by unfold zb_dueV; rw [if_pos (show zb_pyr S1 i = some a by rw [hj_30, hja]), if_neg h_57], Or.inl rfl, hP, hS, zv_sub hl (by intro q hq; simp only [List.mem_cons, List.not_mem_nil, or_false] at hq; rcases hq with rfl | rfl | rfl | rfl | rfl <;> rfl)⟩
            | exact hJ65 0 _ _ _ ⟨by unfold zb_dueV; rw [if_neg (show ¬ zb_pyr S1 i = some a by rw [hj_30]; exact fun q => hja (Option.some.inj q))], Or.inl rfl, hP, hS, zv_sub hl (by intro q hq; simp only [List.mem_cons, List.not_mem_nil, or_false] at hq; rcases hq with rfl | rfl | rfl | rfl | rfl <;> rfl)⟩
            | exact hJ65 0 _ _ _ ⟨by unfold zb_dueV; rw [if_neg (show ¬ zb_pyr S1 i = some a by rw [hj_30]; exact fun q => by cases q)], Or.inl rfl, hP, hS, zv_sub hl (by intro q hq; simp only [List.mem_cons, List.not_mem_nil, or_false] at hq; rcases hq with rfl | rfl | rfl | rfl | rfl <;> rfl)⟩
        · skip
          refine lv_iconst (v := 1) hx hb nd_B_planOrders_60 (by decide) ?_
          refine lv_goto (tgt := 65) hx hb nd_B_planOrders_61 (by decide) ?_
          first
            | exact hJ65 1 _ _ _ ⟨by unfold zb_dueV; rw [if_pos (show zb_pyr S1 i = some a by rw [hj_30, hja]), if_pos h_57], Or.inr rfl, hP, hS, zv_sub hl (by intro q hq; simp only [List.mem_cons, List.not_mem_nil, or_false] at hq; rcases hq with rfl | rfl | rfl | rfl | rfl <;> rfl)⟩
            | exact hJ65 0 _ _ _ ⟨by unfold zb_dueV; rw [if_pos (show zb_pyr S1 i = some a by rw [hj_30, hja]), if_neg h_57], Or.inl rfl, hP, hS, zv_sub hl (by intro q hq; simp only [List.mem_cons, List.not_mem_nil, or_false] at hq; rcases hq with rfl | rfl | rfl | rfl | rfl <;> rfl)⟩
            | exact hJ65 0 _ _ _ ⟨by unfold zb_dueV; rw [if_neg (show ¬ zb_pyr S1 i = some a by rw [hj_30]; exact fun q => hja (Option.some.inj q))], Or.inl rfl, hP, hS, zv_sub hl (by intro q hq; simp only [List.mem_cons, List.not_mem_nil, or_false] at hq; rcases hq with rfl | rfl | rfl | rfl | rfl <;> rfl)⟩
            | exact hJ65 0 _ _ _ ⟨by unfold zb_dueV; rw [if_neg (show ¬ zb_pyr S1 i = some a by rw [hj_30]; exact fun q => by cases q)], Or.inl rfl, hP, hS, zv_sub hl (by intro q hq; simp only [List.mem_cons, List.not_mem_nil, or_false] at hq; rcases hq with rfl | rfl | rfl | rfl | rfl <;> rfl)⟩
