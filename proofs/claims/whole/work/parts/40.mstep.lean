set_option maxHeartbeats 4000000 in
set_option maxRecDepth 100000 in
theorem c_M_transferB (l : Launch) (D : va_G) (G : zh_G) (hG : zw_apart (zm_adr G)) (T : zm_S) (Y : zm_Y) (x y a : Int32) (hI : zm_I T) (hkx : x = -1 ∨ ∃ j, j < 6 ∧ x = nI j) (hky : y = -1 ∨ ∃ j, j < 6 ∧ y = nI j) (hne : x = -1 → ¬ y = -1) : Met l ny_M_transfer (Cond.code ny_M_transfer nc_M_transfer 4 none :: zw_big) ({ frames := 0, cells := 0, slots := 0, locals := 0 } : Room) (zw_P [.ref (zh_mdl G), .int x, .int y, .int a] D (zm_tys G) (zm_cells G T Y)) (zm_Qv D G (zm_transfer T x y a)) 0 0 (zm_Ad G) := by
  refine Met.ofW (cc := nc_M_transfer) (maxL := 4) (ret := none) (by decide) rfl ?_
  intro p e s m args below meth c s₁ B hml hv
  obtain ⟨rfl, hP, hK⟩ := hv
  have hx := B.exec
  have hb := B.bytes
  have hr := B.returns
  have hts0 := atoms_spec (ws := Cond.code ny_M_transfer nc_M_transfer 4 none :: zw_big) B.pre
  have hts : ∀ w ∈ zw_big, w.before [.ref (zh_mdl G), .int x, .int y, .int a].toArray s = true := fun w h => hts0 w (List.mem_cons_of_mem _ h)
  have hown : s.vm.findClass nR_M = some m.cls := findClass_of_methodNamed B.named
  have hlk := B.notSynchronized
  have hS : va_S (zm_Ad G) s.heap s.heap [] := va_S.rf
  have hl := lv_entry ([.ref (zh_mdl G), .int x, .int y, .int a]) (n := 4) (Nat.le_of_ble_eq_true rfl)
  rw [lg_entry_eq]
  generalize (lg_sl ([.ref (zh_mdl G), .int x, .int y, .int a]) ++ List.replicate (4 - (lg_sl ([.ref (zh_mdl G), .int x, .int y, .int a])).length) Slot.unset).toArray = ls at hl ⊢
  have hl : lv_has ls 4 [(0, .ref (zh_mdl G)), (1, .int x), (2, .int y), (3, .int a)] := hl
  have hF : CallFix p m c nc_M_transfer 4 s [.ref (zh_mdl G), .int x, .int y, .int a].toArray zw_big nR_M := ⟨hx, hb, hml, hown, hts⟩
  refine lv_iload_n hx hb nd_M_transfer_0 rfl (zv_at hl 1 rfl) ?_
  refine lv_if_lt (tgt := 18) hx hb nd_M_transfer_1 (by decide) (fun h_1 => ?_) (fun h_1 => ?_)
  · skip
    have hx1 : x = -1 := hkx.resolve_right (fun ⟨j, hj, q⟩ => nI_pos (show j < 2 ^ 31 by omega) (by rw [← q]; exact h_1))
    have hy6 : vp_in y 6 := zm_in_of (hky.resolve_left (hne hx1))
    refine lv_aload_n hx hb nd_M_transfer_18 rfl (zv_at hl 0 rfl) ?_
    refine zm_get hx hb hts hown hK hP 18 (by decide) (hts _ nw_485) rfl nd_M_transfer_19 ?_
    refine lv_aload_n hx hb nd_M_transfer_22 rfl (zv_at hl 0 rfl) ?_
    refine zm_get hx hb hts hown hK hP 1 (by decide) (hts _ nw_468) rfl nd_M_transfer_23 ?_
    refine lv_iload_n hx hb nd_M_transfer_26 rfl (zv_at hl 2 rfl) ?_
    refine zm_ald_cur hx hb hK hP (by assumption) nd_M_transfer_27 ?_
    refine lv_dup2_11 hx hb nd_M_transfer_28 rfl rfl ?_
    refine zm_ald_csh hx hb hK hP (zm_cur_in hI _) nd_M_transfer_29 ?_
    refine lv_iload_n hx hb nd_M_transfer_30 rfl (zv_at hl 3 rfl) ?_
    refine lv_i2l (v := _) hx hb nd_M_transfer_31 rfl ?_
    refine lv_ladd hx hb nd_M_transfer_32 ?_
    refine zm_ast_csh hx hb hK hG hP hS (zm_cur_in hI _) nd_M_transfer_33 (fun H locs hP hS => ?_)
    refine lv_iload_n hx hb nd_M_transfer_34 rfl (zv_at hl 2 rfl) ?_
    refine lv_if_lt (tgt := 52) hx hb nd_M_transfer_35 (by decide) (fun h_35 => ?_) (fun h_35 => ?_)
    · skip
      have hy1 : y = -1 := hky.resolve_right (fun ⟨j, hj, q⟩ => nI_pos (show j < 2 ^ 31 by omega) (by rw [← q]; exact h_35))
      have hx6b : vp_in x 6 := zm_in_of (hkx.resolve_left (fun q => hne q hy1))
      refine lv_aload_n hx hb nd_M_transfer_52 rfl (zv_at hl 0 rfl) ?_
      refine zm_get hx hb hts hown hK hP 18 (by decide) (hts _ nw_485) rfl nd_M_transfer_53 ?_
      refine lv_aload_n hx hb nd_M_transfer_56 rfl (zv_at hl 0 rfl) ?_
      refine zm_get hx hb hts hown hK hP 1 (by decide) (hts _ nw_468) rfl nd_M_transfer_57 ?_
      refine lv_iload_n hx hb nd_M_transfer_60 rfl (zv_at hl 1 rfl) ?_
      refine zm_ald_cur hx hb hK hP (by assumption) nd_M_transfer_61 ?_
      refine lv_dup2_11 hx hb nd_M_transfer_62 rfl rfl ?_
      refine zm_ald_csh hx hb hK hP (zm_cur_in hI _) nd_M_transfer_63 ?_
      refine lv_iload_n hx hb nd_M_transfer_64 rfl (zv_at hl 3 rfl) ?_
      refine lv_i2l (v := _) hx hb nd_M_transfer_65 rfl ?_
      refine lv_lsub hx hb nd_M_transfer_66 ?_
      refine zm_ast_csh hx hb hK hG hP hS (zm_cur_in hI _) nd_M_transfer_67 (fun H locs hP hS => ?_)
      refine zm_vret hx hb hr hlk nd_M_transfer_68 hP hS ?_
      unfold zm_transfer zm_gets zm_pays
      rw [if_pos h_35, if_pos h_1]
      all_goals rfl
    · skip
      have hy6b : vp_in y 6 := zm_in_of (hky.resolve_left (fun q => h_35 (by rw [q]; decide)))
      refine lv_aload_n hx hb nd_M_transfer_38 rfl (zv_at hl 0 rfl) ?_
      refine zm_get hx hb hts hown hK hP 6 (by decide) (hts _ nw_473) rfl nd_M_transfer_39 ?_
      refine lv_iload_n hx hb nd_M_transfer_42 rfl (zv_at hl 2 rfl) ?_
      refine lv_dup2_11 hx hb nd_M_transfer_43 rfl rfl ?_
      refine zm_ald_mon hx hb hK hP (by assumption) nd_M_transfer_44 ?_
      refine lv_iload_n hx hb nd_M_transfer_45 rfl (zv_at hl 3 rfl) ?_
      refine lv_i2l (v := _) hx hb nd_M_transfer_46 rfl ?_
      refine lv_ladd hx hb nd_M_transfer_47 ?_
      refine zm_ast_mon hx hb hK hG hP hS (by assumption) nd_M_transfer_48 (fun H locs hP hS => ?_)
      refine lv_goto (tgt := 68) hx hb nd_M_transfer_49 (by decide) ?_
      refine zm_vret hx hb hr hlk nd_M_transfer_68 hP hS ?_
      unfold zm_transfer zm_gets zm_pays
      rw [if_neg h_35, if_pos h_1]
      all_goals rfl
  · skip
    have hx6 : vp_in x 6 := zm_in_of (hkx.resolve_left (fun q => h_1 (by rw [q]; decide)))
    refine lv_aload_n hx hb nd_M_transfer_4 rfl (zv_at hl 0 rfl) ?_
    refine zm_get hx hb hts hown hK hP 6 (by decide) (hts _ nw_473) rfl nd_M_transfer_5 ?_
    refine lv_iload_n hx hb nd_M_transfer_8 rfl (zv_at hl 1 rfl) ?_
    refine lv_dup2_11 hx hb nd_M_transfer_9 rfl rfl ?_
    refine zm_ald_mon hx hb hK hP (by assumption) nd_M_transfer_10 ?_
    refine lv_iload_n hx hb nd_M_transfer_11 rfl (zv_at hl 3 rfl) ?_
    refine lv_i2l (v := _) hx hb nd_M_transfer_12 rfl ?_
    refine lv_lsub hx hb nd_M_transfer_13 ?_
    refine zm_ast_mon hx hb hK hG hP hS (by assumption) nd_M_transfer_14 (fun H locs hP hS => ?_)
    refine lv_goto (tgt := 34) hx hb nd_M_transfer_15 (by decide) ?_
    refine lv_iload_n hx hb nd_M_transfer_34 rfl (zv_at hl 2 rfl) ?_
    refine lv_if_lt (tgt := 52) hx hb nd_M_transfer_35 (by decide) (fun h_35 => ?_) (fun h_35 => ?_)
    · skip
      have hy1 : y = -1 := hky.resolve_right (fun ⟨j, hj, q⟩ => nI_pos (show j < 2 ^ 31 by omega) (by rw [← q]; exact h_35))
      have hx6b : vp_in x 6 := zm_in_of (hkx.resolve_left (fun q => hne q hy1))
      refine lv_aload_n hx hb nd_M_transfer_52 rfl (zv_at hl 0 rfl) ?_
      refine zm_get hx hb hts hown hK hP 18 (by decide) (hts _ nw_485) rfl nd_M_transfer_53 ?_
      refine lv_aload_n hx hb nd_M_transfer_56 rfl (zv_at hl 0 rfl) ?_
      refine zm_get hx hb hts hown hK hP 1 (by decide) (hts _ nw_468) rfl nd_M_transfer_57 ?_
      refine lv_iload_n hx hb nd_M_transfer_60 rfl (zv_at hl 1 rfl) ?_
      refine zm_ald_cur hx hb hK hP (by assumption) nd_M_transfer_61 ?_
      refine lv_dup2_11 hx hb nd_M_transfer_62 rfl rfl ?_
      refine zm_ald_csh hx hb hK hP (zm_cur_in hI _) nd_M_transfer_63 ?_
      refine lv_iload_n hx hb nd_M_transfer_64 rfl (zv_at hl 3 rfl) ?_
      refine lv_i2l (v := _) hx hb nd_M_transfer_65 rfl ?_
      refine lv_lsub hx hb nd_M_transfer_66 ?_
      refine zm_ast_csh hx hb hK hG hP hS (zm_cur_in hI _) nd_M_transfer_67 (fun H locs hP hS => ?_)
      refine zm_vret hx hb hr hlk nd_M_transfer_68 hP hS ?_
      unfold zm_transfer zm_gets zm_pays
      rw [if_pos h_35, if_neg h_1]
      all_goals rfl
    · skip
      have hy6b : vp_in y 6 := zm_in_of (hky.resolve_left (fun q => h_35 (by rw [q]; decide)))
      refine lv_aload_n hx hb nd_M_transfer_38 rfl (zv_at hl 0 rfl) ?_
      refine zm_get hx hb hts hown hK hP 6 (by decide) (hts _ nw_473) rfl nd_M_transfer_39 ?_
      refine lv_iload_n hx hb nd_M_transfer_42 rfl (zv_at hl 2 rfl) ?_
      refine lv_dup2_11 hx hb nd_M_transfer_43 rfl rfl ?_
      refine zm_ald_mon hx hb hK hP (by assumption) nd_M_transfer_44 ?_
      refine lv_iload_n hx hb nd_M_transfer_45 rfl (zv_at hl 3 rfl) ?_
      refine lv_i2l (v := _) hx hb nd_M_transfer_46 rfl ?_
      refine lv_ladd hx hb nd_M_transfer_47 ?_
      refine zm_ast_mon hx hb hK hG hP hS (by assumption) nd_M_transfer_48 (fun H locs hP hS => ?_)
      refine lv_goto (tgt := 68) hx hb nd_M_transfer_49 (by decide) ?_
      refine zm_vret hx hb hr hlk nd_M_transfer_68 hP hS ?_
      unfold zm_transfer zm_gets zm_pays
      rw [if_neg h_35, if_neg h_1]
      all_goals rfl

set_option maxHeartbeats 4000000 in
set_option maxRecDepth 100000 in
theorem c_M_step (l : Launch) (D : va_G) (G : zh_G) (hG : zw_apart (zm_adr G)) (T : zm_S) (Y : zm_Y) (j : Nat) (hj : j < 99999) (ej : zm_now T = nI j) (hI : zm_I T) (hO : zm_IO T) (i : Nat) (hi : i < 6) : Met l ny_M_step (Cond.code ny_M_step nc_M_step 6 (some .boolean) :: zw_big) ({ frames := 5, cells := 0, slots := 0, locals := 119 } : Room) (zw_P [.ref (zh_mdl G), .int (nI i)] D (zm_tys G) (zm_cells G T Y)) (zm_Qi D G (zm_step T j i)) 0 0 (zm_Ad G) := by
  refine Met.ofW (cc := nc_M_step) (maxL := 6) (ret := (some .boolean)) (by decide) rfl ?_
  intro p e s m args below meth c s₁ B hml hv
  obtain ⟨rfl, hP, hK⟩ := hv
  have hx := B.exec
  have hb := B.bytes
  have hr := B.returns
  have hts0 := atoms_spec (ws := Cond.code ny_M_step nc_M_step 6 (some .boolean) :: zw_big) B.pre
  have hts : ∀ w ∈ zw_big, w.before [.ref (zh_mdl G), .int (nI i)].toArray s = true := fun w h => hts0 w (List.mem_cons_of_mem _ h)
  have hown : s.vm.findClass nR_M = some m.cls := findClass_of_methodNamed B.named
  have hlk := B.notSynchronized
  have hS : va_S (zm_Ad G) s.heap s.heap [] := va_S.rf
  have hl := lv_entry ([.ref (zh_mdl G), .int (nI i)]) (n := 6) (Nat.le_of_ble_eq_true rfl)
  rw [lg_entry_eq]
  generalize (lg_sl ([.ref (zh_mdl G), .int (nI i)]) ++ List.replicate (6 - (lg_sl ([.ref (zh_mdl G), .int (nI i)])).length) Slot.unset).toArray = ls at hl ⊢
  have hl : lv_has ls 6 [(0, .ref (zh_mdl G)), (1, .int (nI i))] := hl
  have hF : CallFix p m c nc_M_step 6 s [.ref (zh_mdl G), .int (nI i)].toArray zw_big nR_M := ⟨hx, hb, hml, hown, hts⟩
  obtain ⟨o, ho6, eo⟩ := hI.2.1
  have eo2 : (zm_ors T).toNatClampNeg = o := by rw [eo]; exact nI_clamp (by omega)
  refine lv_aload_n hx hb nd_M_step_0 rfl (zv_at hl 0 rfl) ?_
  refine lv_iload_n hx hb nd_M_step_1 rfl (zv_at hl 1 rfl) ?_
  refine zm_vWi (As := [_]) (rest := _) hF (c_M_paidOrders l D G hG _ _ j hj (by exact ej) (by exact hI) _ (by assumption)) (zw_preV hP hK (q0 := 0) (ci := 6) rfl rfl rfl) nk_M_paidOrders nw_668 ⟨rfl, rfl, Nat.le_of_ble_eq_true rfl, Nat.le_of_ble_eq_true rfl⟩ rfl hl.1 rfl (Nat.le_of_ble_eq_true rfl) ⟨Nat.zero_le _, Nat.zero_le _⟩ nd_M_step_2 hS (fun Y H locs hP hS => ?_)
  refine lv_topi (fun pd epd => ?_)
  refine lv_istore_n hx hb nd_M_step_5 rfl hl (by decide) rfl (fun ls hl => ?_)
  have epd : pd = zm_paid T j (nI i) := epd
  refine lv_iconst (v := 1) hx hb nd_M_step_6 (by decide) ?_
  refine lv_istore_n hx hb nd_M_step_7 rfl hl (by decide) rfl (fun ls hl => ?_)
  refine lv_iconst (v := 1) hx hb nd_M_step_8 (by decide) ?_
  refine lv_iload_n hx hb nd_M_step_9 rfl (zv_at hl 1 rfl) ?_
  refine lv_ishl hx hb nd_M_step_10 ?_
  refine lv_istore hx hb nd_M_step_11 hl (by decide) rfl (fun ls hl => ?_)
  refine lv_iconst (v := 0) hx hb nd_M_step_13 (by decide) ?_
  refine lv_istore hx hb nd_M_step_14 hl (by decide) rfl (fun ls hl => ?_)
  refine zw_loop (σ := Nat × Int32 × Int32) (fun n x H locs ls => x.1 + n = o ∧ zm_stepSet T pd o 0 1 ((1 : Int32) <<< (nI i &&& 31)) = zm_stepSet T pd n x.1 x.2.1 x.2.2 ∧ va_P D vwCl (zm_cells G T Y) H ∧ va_S (zm_Ad G) s.heap H locs ∧ lv_has ls 6 [(0, .ref (zh_mdl G)), (1, .int (nI i)), (2, .int pd), (3, .int x.2.1), (4, .int x.2.2), (5, .int (nI x.1))]) ?_ o (0, 1, (1 : Int32) <<< (nI i &&& 31)) ⟨by simp, rfl, hP, hS, zv_sub hl (by intro q hq; simp only [List.mem_cons, List.not_mem_nil, or_false] at hq; rcases hq with rfl | rfl | rfl | rfl | rfl | rfl <;> rfl)⟩
  rintro n ⟨k, cnt, set⟩ H locs ls hI9 ih
  obtain ⟨hik, hE, hP, hS, hl⟩ := hI9
  dsimp only at hik hE hP hl
  refine lv_iload hx hb nd_M_step_16 (zv_at hl 5 rfl) ?_
  refine lv_aload_n hx hb nd_M_step_18 rfl (zv_at hl 0 rfl) ?_
  refine zm_get hx hb hts hown hK hP 10 (by decide) (hts _ nw_477) rfl nd_M_step_19 ?_
  refine lv_icmp_ge (tgt := 58) hx hb nd_M_step_22 (by decide) (fun h_22 => ?_) (fun h_22 => ?_)
  · skip
    have hk0 : n = 0 := by
      have h : nI o ≤ nI k := by rw [← eo]; exact h_22
      have := (nI_leI (a := o) (b := k) (by omega) (by omega)).mp h
      omega
    subst hk0
    have hs : zm_step T j i = zm_stepB T j i pd o (cnt, set) := by rw [zm_step_eq eo2, ← epd, hE]; rfl
    refine lv_aload_n hx hb nd_M_step_58 rfl (zv_at hl 0 rfl) ?_
    refine lv_iload_n hx hb nd_M_step_59 rfl (zv_at hl 3 rfl) ?_
    refine lv_iload hx hb nd_M_step_60 (zv_at hl 4 rfl) ?_
    refine zm_vWi (As := [_, _]) (rest := _) hF (c_M_comes l D G hG _ _ _ _) (zw_preV hP hK (q0 := 0) (ci := 6) rfl rfl rfl) nk_M_comes nw_570 ⟨rfl, rfl, Nat.le_of_ble_eq_true rfl, Nat.le_of_ble_eq_true rfl⟩ rfl hl.1 rfl (Nat.le_of_ble_eq_true rfl) ⟨Nat.zero_le _, Nat.zero_le _⟩ nd_M_step_62 hS (fun Y H locs hP hS => ?_)
    refine lv_if_ne (tgt := 70) hx hb nd_M_step_65 (by decide) (fun h_65 => ?_) (fun h_65 => ?_)
    · skip
      have hkey2 : zm_key (zm_cm T cnt set).2 = zm_key T := rfl
      generalize hT2 : (zm_cm T cnt set).2 = T2 at hP hkey2
      refine lv_iconst (v := 0) hx hb nd_M_step_70 (by decide) ?_
      refine lv_istore hx hb nd_M_step_71 hl (by decide) rfl (fun ls hl => ?_)
      refine zw_loop (σ := Nat × zm_S × zm_Y) (fun n x H locs ls => x.1 + n = o ∧ zm_carry j (nI i) pd o 0 T2 = zm_carry j (nI i) pd n x.1 x.2.1 ∧ zm_key x.2.1 = zm_key T ∧ va_P D vwCl (zm_cells G x.2.1 x.2.2) H ∧ va_S (zm_Ad G) s.heap H locs ∧ lv_has ls 6 [(0, .ref (zh_mdl G)), (1, .int (nI i)), (2, .int pd), (5, .int (nI x.1))]) ?_ o (0, T2, _) ⟨by simp, rfl, hkey2, hP, hS, zv_sub hl (by intro q hq; simp only [List.mem_cons, List.not_mem_nil, or_false] at hq; rcases hq with rfl | rfl | rfl | rfl <;> rfl)⟩
      rintro n ⟨k, T3, Y3⟩ H locs ls hI9 ih
      obtain ⟨hik, hE2, hkey, hP, hS, hl⟩ := hI9
      dsimp only at hik hE2 hkey hP hl
      have hI3 := zm_I_key hkey hI
      have hO3 := zm_IO_key hkey hO
      have ej3 : zm_now T3 = nI j := (zm_key_now hkey).trans ej
      have hdm3 := hI3.2.2.1
      have eo3 : zm_ors T3 = nI o := (zm_key_ors hkey).trans eo
      refine lv_iload hx hb nd_M_step_73 (zv_at hl 5 rfl) ?_
      refine lv_aload_n hx hb nd_M_step_75 rfl (zv_at hl 0 rfl) ?_
      refine zm_get hx hb hts hown hK hP 10 (by decide) (hts _ nw_477) rfl nd_M_step_76 ?_
      refine lv_icmp_ge (tgt := 156) hx hb nd_M_step_79 (by decide) (fun h_79 => ?_) (fun h_79 => ?_)
      · skip
        have hk0 : n = 0 := by
          have h : nI o ≤ nI k := by rw [← eo3]; exact h_79
          have := (nI_leI (a := o) (b := k) (by omega) (by omega)).mp h
          omega
        subst hk0
        have hE2 : zm_carry j (nI i) pd o 0 T2 = T3 := hE2
        refine lv_aload_n hx hb nd_M_step_156 rfl (zv_at hl 0 rfl) ?_
        refine lv_iload_n hx hb nd_M_step_157 rfl (zv_at hl 1 rfl) ?_
        refine zm_vWv (As := [_]) (rest := _) hF (c_M_grow l D G hG _ _ j hj (by exact ej3) (by exact hI3) i hi) (zw_preV hP hK (q0 := 0) (ci := 6) rfl rfl rfl) nk_M_grow nw_676 ⟨rfl, rfl, Nat.le_of_ble_eq_true rfl, Nat.le_of_ble_eq_true rfl⟩ rfl hl.1 rfl (Nat.le_of_ble_eq_true rfl) ⟨Nat.zero_le _, Nat.zero_le _⟩ nd_M_step_158 hS (fun Y H locs hP hS => ?_)
        refine lv_aload_n hx hb nd_M_step_161 rfl (zv_at hl 0 rfl) ?_
        refine zm_get hx hb hts hown hK hP 5 (by decide) (hts _ nw_472) rfl nd_M_step_162 ?_
        refine lv_iload_n hx hb nd_M_step_165 rfl (zv_at hl 1 rfl) ?_
        refine lv_aload_n hx hb nd_M_step_166 rfl (zv_at hl 0 rfl) ?_
        refine zm_get hx hb hts hown hK hP 20 (by decide) (hts _ nw_487) rfl nd_M_step_167 ?_
        rw [show zm_now (zm_grow T3 j i) = nI j from (zm_key_now (zm_grow_key T3 j i)).trans ej3]
        refine zm_astN_mrk hx hb hK hG hP hS (by assumption) nd_M_step_170 (fun H locs hP hS => ?_)
        refine lv_iconst (v := 1) hx hb nd_M_step_171 (by decide) ?_
        refine zm_zret hx hb hr hlk nd_M_step_172 hP hS (by decide) ?_
        rw [hs]
        unfold zm_stepB
        rw [if_neg h_65]
        dsimp only
        rw [hT2, hE2]
        all_goals rfl
      · skip
        have hko : k < o := by
          refine Nat.lt_of_not_le fun z => h_79 ?_
          show zm_ors T3 ≤ nI k
          rw [eo3]; exact nI_le z (by omega)
        have hk6 : k < 6 := by omega
        refine lv_iload_n hx hb nd_M_step_82 rfl (zv_at hl 2 rfl) ?_
        refine lv_iload hx hb nd_M_step_83 (zv_at hl 5 rfl) ?_
        refine lv_ishr hx hb nd_M_step_85 ?_
        refine lv_iconst (v := 1) hx hb nd_M_step_86 (by decide) ?_
        refine lv_iand hx hb nd_M_step_87 ?_
        refine lv_iconst (v := 1) hx hb nd_M_step_88 (by decide) ?_
        refine lv_icmp_ne (tgt := 114) hx hb nd_M_step_89 (by decide) (fun h_89 => ?_) (fun h_89 => ?_)
        · skip
          refine lv_aload_n hx hb nd_M_step_114 rfl (zv_at hl 0 rfl) ?_
          refine zm_get hx hb hts hown hK hP 11 (by decide) (hts _ nw_478) rfl nd_M_step_115 ?_
          refine lv_iload hx hb nd_M_step_118 (zv_at hl 5 rfl) ?_
          refine zm_aldN_pyr hx hb hK hP (by assumption) nd_M_step_120 ?_
          refine lv_iload_n hx hb nd_M_step_121 rfl (zv_at hl 1 rfl) ?_
          refine lv_icmp_ne (tgt := 150) hx hb nd_M_step_122 (by decide) (fun h_122 => ?_) (fun h_122 => ?_)
          · skip
            refine zv_iinc (v := nI (k + 1)) hx hb nd_M_step_150 hl rfl ((nI_succ k).symm) (by decide) rfl (fun ls hl => ?_)
            refine lv_goto (tgt := 73) hx hb nd_M_step_153 (by decide) ?_
            exact ih (n - 1) (k + 1, T3, _) _ _ _ (by omega) ⟨by show k + 1 + (n - 1) = o; omega, by rw [hE2, zm_carry_next (by omega)]; exact congrArg (zm_carry j (nI i) pd (n - 1) (k + 1)) (show zm_carryOne T3 j (nI i) pd k = T3 by unfold zm_carryOne; rw [if_neg h_89, if_neg h_122]), hkey, hP, hS, zv_sub hl (by intro q hq; simp only [List.mem_cons, List.not_mem_nil, or_false] at hq; rcases hq with rfl | rfl | rfl | rfl <;> rfl)⟩
          · skip
            refine lv_aload_n hx hb nd_M_step_125 rfl (zv_at hl 0 rfl) ?_
            refine lv_aload_n hx hb nd_M_step_126 rfl (zv_at hl 0 rfl) ?_
            refine zm_get hx hb hts hown hK hP 14 (by decide) (hts _ nw_481) rfl nd_M_step_127 ?_
            refine lv_iload hx hb nd_M_step_130 (zv_at hl 5 rfl) ?_
            refine zm_aldN_ody hx hb hK hP (by assumption) nd_M_step_132 ?_
            refine zm_vWi (As := [_]) (rest := _) hF (c_M_due l D G hG _ _ _ j (by omega) (by exact ej3) (by exact hdm3)) (zw_preV hP hK (q0 := 0) (ci := 6) rfl rfl rfl) nk_M_due nw_672 ⟨rfl, rfl, Nat.le_of_ble_eq_true rfl, Nat.le_of_ble_eq_true rfl⟩ rfl hl.1 rfl (Nat.le_of_ble_eq_true rfl) ⟨Nat.zero_le _, Nat.zero_le _⟩ nd_M_step_133 hS (fun Y H locs hP hS => ?_)
            refine lv_if_eq (tgt := 150) hx hb nd_M_step_136 (by decide) (fun h_136 => ?_) (fun h_136 => ?_)
            · skip
              refine zv_iinc (v := nI (k + 1)) hx hb nd_M_step_150 hl rfl ((nI_succ k).symm) (by decide) rfl (fun ls hl => ?_)
              refine lv_goto (tgt := 73) hx hb nd_M_step_153 (by decide) ?_
              exact ih (n - 1) (k + 1, T3, _) _ _ _ (by omega) ⟨by show k + 1 + (n - 1) = o; omega, by rw [hE2, zm_carry_next (by omega)]; exact congrArg (zm_carry j (nI i) pd (n - 1) (k + 1)) (show zm_carryOne T3 j (nI i) pd k = T3 by unfold zm_carryOne; rw [if_neg h_89, if_pos h_122, if_pos (show zm_due (zm_R T3) j (zm_ody T3 k) = 0 from h_136)]), hkey, hP, hS, zv_sub hl (by intro q hq; simp only [List.mem_cons, List.not_mem_nil, or_false] at hq; rcases hq with rfl | rfl | rfl | rfl <;> rfl)⟩
            · skip
              refine lv_aload_n hx hb nd_M_step_139 rfl (zv_at hl 0 rfl) ?_
              refine zm_get hx hb hts hown hK hP 15 (by decide) (hts _ nw_482) rfl nd_M_step_140 ?_
              refine lv_iload hx hb nd_M_step_143 (zv_at hl 5 rfl) ?_
              refine lv_dup2_11 hx hb nd_M_step_145 rfl rfl ?_
              refine zm_aldN_mis hx hb hK hP (by assumption) nd_M_step_146 ?_
              refine lv_iconst (v := 1) hx hb nd_M_step_147 (by decide) ?_
              refine lv_iadd hx hb nd_M_step_148 ?_
              refine zm_astN_mis hx hb hK hG hP hS (by assumption) nd_M_step_149 (fun H locs hP hS => ?_)
              refine zv_iinc (v := nI (k + 1)) hx hb nd_M_step_150 hl rfl ((nI_succ k).symm) (by decide) rfl (fun ls hl => ?_)
              refine lv_goto (tgt := 73) hx hb nd_M_step_153 (by decide) ?_
              exact ih (n - 1) (k + 1, zm_smis T3 (upd (zm_mis T3) k (zm_mis T3 k + 1)), _) _ _ _ (by omega) ⟨by show k + 1 + (n - 1) = o; omega, by rw [hE2, zm_carry_next (by omega)]; exact congrArg (zm_carry j (nI i) pd (n - 1) (k + 1)) (show zm_carryOne T3 j (nI i) pd k = zm_smis T3 (upd (zm_mis T3) k (zm_mis T3 k + 1)) by unfold zm_carryOne; rw [if_neg h_89, if_pos h_122, if_neg (show ¬ zm_due (zm_R T3) j (zm_ody T3 k) = 0 from h_136)]), hkey, hP, hS, zv_sub hl (by intro q hq; simp only [List.mem_cons, List.not_mem_nil, or_false] at hq; rcases hq with rfl | rfl | rfl | rfl <;> rfl)⟩
        · skip
          refine lv_aload_n hx hb nd_M_step_92 rfl (zv_at hl 0 rfl) ?_
          refine lv_iload_n hx hb nd_M_step_93 rfl (zv_at hl 1 rfl) ?_
          refine lv_aload_n hx hb nd_M_step_94 rfl (zv_at hl 0 rfl) ?_
          refine zm_get hx hb hts hown hK hP 12 (by decide) (hts _ nw_479) rfl nd_M_step_95 ?_
          refine lv_iload hx hb nd_M_step_98 (zv_at hl 5 rfl) ?_
          refine zm_aldN_pye hx hb hK hP (by assumption) nd_M_step_100 ?_
          refine lv_aload_n hx hb nd_M_step_101 rfl (zv_at hl 0 rfl) ?_
          refine zm_get hx hb hts hown hK hP 13 (by decide) (hts _ nw_480) rfl nd_M_step_102 ?_
          refine lv_iload hx hb nd_M_step_105 (zv_at hl 5 rfl) ?_
          refine zm_aldN_sum hx hb hK hP (by assumption) nd_M_step_107 ?_
          refine zm_vWv (As := [_, _, _]) (rest := _) hF (c_M_transferB l D G hG _ _ _ _ _ (by exact hI3) (by exact Or.inr ⟨i, hi, rfl⟩) (by exact Or.inr (hO3 k).2.1) (by intro q; exact absurd q (zm_nI_ne (by omega)))) (zw_preV hP hK (q0 := 0) (ci := 6) rfl rfl rfl) nk_M_transfer nw_610 ⟨rfl, rfl, Nat.le_of_ble_eq_true rfl, Nat.le_of_ble_eq_true rfl⟩ rfl hl.1 rfl (Nat.le_of_ble_eq_true rfl) ⟨Nat.zero_le _, Nat.zero_le _⟩ nd_M_step_108 hS (fun Y H locs hP hS => ?_)
          refine lv_goto (tgt := 150) hx hb nd_M_step_111 (by decide) ?_
          refine zv_iinc (v := nI (k + 1)) hx hb nd_M_step_150 hl rfl ((nI_succ k).symm) (by decide) rfl (fun ls hl => ?_)
          refine lv_goto (tgt := 73) hx hb nd_M_step_153 (by decide) ?_
          exact ih (n - 1) (k + 1, zm_transfer T3 (nI i) (zm_pye T3 k) (zm_sum T3 k), _) _ _ _ (by omega) ⟨by show k + 1 + (n - 1) = o; omega, by rw [hE2, zm_carry_next (by omega)]; exact congrArg (zm_carry j (nI i) pd (n - 1) (k + 1)) (show zm_carryOne T3 j (nI i) pd k = zm_transfer T3 (nI i) (zm_pye T3 k) (zm_sum T3 k) by unfold zm_carryOne; rw [if_pos h_89]), (zm_transfer_key _ _ _ _).trans hkey, hP, hS, zv_sub hl (by intro q hq; simp only [List.mem_cons, List.not_mem_nil, or_false] at hq; rcases hq with rfl | rfl | rfl | rfl <;> rfl)⟩
    · skip
      refine lv_iconst (v := 0) hx hb nd_M_step_68 (by decide) ?_
      refine zm_zret hx hb hr hlk nd_M_step_69 hP hS (by decide) ?_
      rw [hs]
      unfold zm_stepB
      rw [if_pos h_65]
  · skip
    have hko : k < o := by
      refine Nat.lt_of_not_le fun z => h_22 ?_
      show zm_ors T ≤ nI k
      rw [eo]; exact nI_le z (by omega)
    have hk6 : k < 6 := by omega
    refine lv_iload_n hx hb nd_M_step_25 rfl (zv_at hl 2 rfl) ?_
    refine lv_iload hx hb nd_M_step_26 (zv_at hl 5 rfl) ?_
    refine lv_ishr hx hb nd_M_step_28 ?_
    refine lv_iconst (v := 1) hx hb nd_M_step_29 (by decide) ?_
    refine lv_iand hx hb nd_M_step_30 ?_
    refine lv_iconst (v := 1) hx hb nd_M_step_31 (by decide) ?_
    refine lv_icmp_ne (tgt := 52) hx hb nd_M_step_32 (by decide) (fun h_32 => ?_) (fun h_32 => ?_)
    · skip
      refine zv_iinc (v := nI (k + 1)) hx hb nd_M_step_52 hl rfl ((nI_succ k).symm) (by decide) rfl (fun ls hl => ?_)
      refine lv_goto (tgt := 16) hx hb nd_M_step_55 (by decide) ?_
      exact ih (n - 1) (k + 1, cnt, set) _ _ _ (by omega) ⟨by show k + 1 + (n - 1) = o; omega, by rw [hE, zm_stepSet_next (by omega), if_neg h_32], hP, hS, zv_sub hl (by intro q hq; simp only [List.mem_cons, List.not_mem_nil, or_false] at hq; rcases hq with rfl | rfl | rfl | rfl | rfl | rfl <;> rfl)⟩
    · skip
      refine zv_iinc hx hb nd_M_step_35 hl rfl rfl (by decide) rfl (fun ls hl => ?_)
      refine lv_iload hx hb nd_M_step_38 (zv_at hl 4 rfl) ?_
      refine lv_iconst (v := 1) hx hb nd_M_step_40 (by decide) ?_
      refine lv_aload_n hx hb nd_M_step_41 rfl (zv_at hl 0 rfl) ?_
      refine zm_get hx hb hts hown hK hP 12 (by decide) (hts _ nw_479) rfl nd_M_step_42 ?_
      refine lv_iload hx hb nd_M_step_45 (zv_at hl 5 rfl) ?_
      refine zm_aldN_pye hx hb hK hP (by assumption) nd_M_step_47 ?_
      refine lv_ishl hx hb nd_M_step_48 ?_
      refine lv_ior hx hb nd_M_step_49 ?_
      refine lv_istore hx hb nd_M_step_50 hl (by decide) rfl (fun ls hl => ?_)
      refine zv_iinc (v := nI (k + 1)) hx hb nd_M_step_52 hl rfl ((nI_succ k).symm) (by decide) rfl (fun ls hl => ?_)
      refine lv_goto (tgt := 16) hx hb nd_M_step_55 (by decide) ?_
      exact ih (n - 1) (k + 1, cnt + 1, set ||| (1 : Int32) <<< (zm_pye T k &&& 31)) _ _ _ (by omega) ⟨by show k + 1 + (n - 1) = o; omega, by rw [hE, zm_stepSet_next (by omega), if_pos h_32], hP, hS, zv_sub hl (by intro q hq; simp only [List.mem_cons, List.not_mem_nil, or_false] at hq; rcases hq with rfl | rfl | rfl | rfl | rfl | rfl <;> rfl)⟩
