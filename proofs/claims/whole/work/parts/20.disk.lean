set_option maxHeartbeats 4000000 in
set_option maxRecDepth 100000 in
theorem c_D_writeOnce (l : Launch) (D : va_G) (G : zg_G) (hG : zw_apart (zb_adr G)) (S : zb_S) : Met l ny_D_writeOnce (Cond.code ny_D_writeOnce nc_D_writeOnce 1 (some .boolean) :: zw_big) ({ frames := 0, cells := 0, slots := 0, locals := 0 } : Room) (zw_P [.ref (zg_dsk G)] D (zb_tys G) (zb_cells G S)) (zb_Qi D G ((zb_wOnce (zb_D S)).1, zb_sD S (zb_wOnce (zb_D S)).2)) 0 0 (zb_Ad G) := by
  refine Met.ofW (cc := nc_D_writeOnce) (maxL := 1) (ret := (some .boolean)) (by decide) rfl ?_
  intro p e s m args below meth c s₁ B hml hv
  obtain ⟨rfl, hP, hK⟩ := hv
  have hx := B.exec
  have hb := B.bytes
  have hr := B.returns
  have hts0 := atoms_spec (ws := Cond.code ny_D_writeOnce nc_D_writeOnce 1 (some .boolean) :: zw_big) B.pre
  have hts : ∀ w ∈ zw_big, w.before [.ref (zg_dsk G)].toArray s = true := fun w h => hts0 w (List.mem_cons_of_mem _ h)
  have hown : s.vm.findClass nR_D = some m.cls := findClass_of_methodNamed B.named
  have hlk := B.notSynchronized
  have hS : va_S (zb_Ad G) s.heap s.heap [] := va_S.rf
  have hl := lv_entry ([.ref (zg_dsk G)]) (n := 1) (Nat.le_of_ble_eq_true rfl)
  rw [lg_entry_eq]
  generalize (lg_sl ([.ref (zg_dsk G)]) ++ List.replicate (1 - (lg_sl ([.ref (zg_dsk G)])).length) Slot.unset).toArray = ls at hl ⊢
  have hl : lv_has ls 1 [(0, .ref (zg_dsk G))] := hl
  have hF : CallFix p m c nc_D_writeOnce 1 s [.ref (zg_dsk G)].toArray zw_big nR_D := ⟨hx, hb, hml, hown, hts⟩
  refine lv_aload_n hx hb nd_D_writeOnce_0 rfl (zv_at hl 0 rfl) ?_
  refine zb_getD hx hb hts hown hK hP 2 (by decide) (hts _ nw_49) rfl nd_D_writeOnce_1 ?_
  refine lv_if_ne (tgt := 14) hx hb nd_D_writeOnce_4 (by decide) (fun h_4 => ?_) (fun h_4 => ?_)
  · skip
    refine lv_aload_n hx hb nd_D_writeOnce_14 rfl (zv_at hl 0 rfl) ?_
    refine zb_getD hx hb hts hown hK hP 2 (by decide) (hts _ nw_49) rfl nd_D_writeOnce_15 ?_
    refine lv_if_le (tgt := 31) hx hb nd_D_writeOnce_18 (by decide) (fun h_18 => ?_) (fun h_18 => ?_)
    · skip
      refine lv_aload_n hx hb nd_D_writeOnce_31 rfl (zv_at hl 0 rfl) ?_
      refine lv_dup hx hb nd_D_writeOnce_32 rfl ?_
      refine zb_getD hx hb hts hown hK hP 1 (by decide) (hts _ nw_47) rfl nd_D_writeOnce_33 ?_
      refine lv_iconst (v := 1) hx hb nd_D_writeOnce_36 (by decide) ?_
      refine lv_iadd hx hb nd_D_writeOnce_37 ?_
      refine zb_put_wm hx hb hts hown hK hG hP hS (hts _ nw_47) nd_D_writeOnce_38 (fun H locs hP hS => ?_)
      refine lv_iconst (v := 1) hx hb nd_D_writeOnce_41 (by decide) ?_
      refine zb_zret hx hb hr hlk nd_D_writeOnce_42 hP hS (by decide) ?_
      unfold zb_wOnce
      first
        | (rw [if_pos (show zbD_wl (zb_D S) = 0 from h_4)]; rfl)
        | (rw [if_neg (show ¬ zbD_wl (zb_D S) = 0 from h_4), if_pos (show zbD_wl (zb_D S) ≤ 0 from h_18)]; rfl)
        | (rw [if_neg (show ¬ zbD_wl (zb_D S) = 0 from h_4), if_neg (show ¬ zbD_wl (zb_D S) ≤ 0 from h_18)]; rfl)
    · skip
      refine lv_aload_n hx hb nd_D_writeOnce_21 rfl (zv_at hl 0 rfl) ?_
      refine lv_dup hx hb nd_D_writeOnce_22 rfl ?_
      refine zb_getD hx hb hts hown hK hP 2 (by decide) (hts _ nw_49) rfl nd_D_writeOnce_23 ?_
      refine lv_iconst (v := 1) hx hb nd_D_writeOnce_26 (by decide) ?_
      refine lv_isub hx hb nd_D_writeOnce_27 ?_
      refine zb_put_wl hx hb hts hown hK hG hP hS (hts _ nw_49) nd_D_writeOnce_28 (fun H locs hP hS => ?_)
      refine lv_aload_n hx hb nd_D_writeOnce_31 rfl (zv_at hl 0 rfl) ?_
      refine lv_dup hx hb nd_D_writeOnce_32 rfl ?_
      refine zb_getD hx hb hts hown hK hP 1 (by decide) (hts _ nw_47) rfl nd_D_writeOnce_33 ?_
      refine lv_iconst (v := 1) hx hb nd_D_writeOnce_36 (by decide) ?_
      refine lv_iadd hx hb nd_D_writeOnce_37 ?_
      refine zb_put_wm hx hb hts hown hK hG hP hS (hts _ nw_47) nd_D_writeOnce_38 (fun H locs hP hS => ?_)
      refine lv_iconst (v := 1) hx hb nd_D_writeOnce_41 (by decide) ?_
      refine zb_zret hx hb hr hlk nd_D_writeOnce_42 hP hS (by decide) ?_
      unfold zb_wOnce
      first
        | (rw [if_pos (show zbD_wl (zb_D S) = 0 from h_4)]; rfl)
        | (rw [if_neg (show ¬ zbD_wl (zb_D S) = 0 from h_4), if_pos (show zbD_wl (zb_D S) ≤ 0 from h_18)]; rfl)
        | (rw [if_neg (show ¬ zbD_wl (zb_D S) = 0 from h_4), if_neg (show ¬ zbD_wl (zb_D S) ≤ 0 from h_18)]; rfl)
  · skip
    refine lv_aload_n hx hb nd_D_writeOnce_7 rfl (zv_at hl 0 rfl) ?_
    refine lv_iconst (v := 1) hx hb nd_D_writeOnce_8 (by decide) ?_
    refine zb_put_stp hx hb hts hown hK hG hP hS (by decide) (hts _ nw_45) nd_D_writeOnce_9 (fun H locs hP hS => ?_)
    refine lv_iconst (v := 0) hx hb nd_D_writeOnce_12 (by decide) ?_
    refine zb_zret hx hb hr hlk nd_D_writeOnce_13 hP hS (by decide) ?_
    unfold zb_wOnce
    first
      | (rw [if_pos (show zbD_wl (zb_D S) = 0 from h_4)]; rfl)
      | (rw [if_neg (show ¬ zbD_wl (zb_D S) = 0 from h_4), if_pos (show zbD_wl (zb_D S) ≤ 0 from h_18)]; rfl)
      | (rw [if_neg (show ¬ zbD_wl (zb_D S) = 0 from h_4), if_neg (show ¬ zbD_wl (zb_D S) ≤ 0 from h_18)]; rfl)

set_option maxHeartbeats 4000000 in
set_option maxRecDepth 100000 in
theorem c_D_makeCheckpoint (l : Launch) (D : va_G) (G : zg_G) (hG : zw_apart (zb_adr G)) (S : zb_S) : Met l ny_D_makeCheckpoint (Cond.code ny_D_makeCheckpoint nc_D_makeCheckpoint 3 (some .boolean) :: zw_big) ({ frames := 1, cells := 0, slots := 0, locals := 20 } : Room) (zw_P [.ref (zg_dsk G)] D (zb_tys G) (zb_cells G S)) (zb_Qi D G ((zb_check (zb_D S)).1, zb_sD S (zb_check (zb_D S)).2)) 0 0 (zb_Ad G) := by
  refine Met.ofW (cc := nc_D_makeCheckpoint) (maxL := 3) (ret := (some .boolean)) (by decide) rfl ?_
  intro p e s m args below meth c s₁ B hml hv
  obtain ⟨rfl, hP, hK⟩ := hv
  have hx := B.exec
  have hb := B.bytes
  have hr := B.returns
  have hts0 := atoms_spec (ws := Cond.code ny_D_makeCheckpoint nc_D_makeCheckpoint 3 (some .boolean) :: zw_big) B.pre
  have hts : ∀ w ∈ zw_big, w.before [.ref (zg_dsk G)].toArray s = true := fun w h => hts0 w (List.mem_cons_of_mem _ h)
  have hown : s.vm.findClass nR_D = some m.cls := findClass_of_methodNamed B.named
  have hlk := B.notSynchronized
  have hS : va_S (zb_Ad G) s.heap s.heap [] := va_S.rf
  have hl := lv_entry ([.ref (zg_dsk G)]) (n := 3) (Nat.le_of_ble_eq_true rfl)
  rw [lg_entry_eq]
  generalize (lg_sl ([.ref (zg_dsk G)]) ++ List.replicate (3 - (lg_sl ([.ref (zg_dsk G)])).length) Slot.unset).toArray = ls at hl ⊢
  have hl : lv_has ls 3 [(0, .ref (zg_dsk G))] := hl
  have hF : CallFix p m c nc_D_makeCheckpoint 3 s [.ref (zg_dsk G)].toArray zw_big nR_D := ⟨hx, hb, hml, hown, hts⟩
  obtain ⟨N, hN, eN⟩ := zj_bc_nat (zbD_chg (zb_D S))
  refine lv_aload_n hx hb nd_D_makeCheckpoint_0 rfl (zv_at hl 0 rfl) ?_
  refine zb_getD hx hb hts hown hK hP 5 (by decide) (hts _ nw_55) rfl nd_D_makeCheckpoint_1 ?_
  refine zw_sR (As := [_]) (rest := _) hF (c_I_bitCount l _) zw_preN nk_I_bitCount nw_214 ⟨rfl, rfl, Nat.le_of_ble_eq_true rfl, Nat.le_of_ble_eq_true rfl⟩ rfl hl.1 rfl (Nat.le_of_ble_eq_true rfl) ⟨Nat.zero_le _, Nat.zero_le _⟩ nd_D_makeCheckpoint_4 ?_
  refine lv_istore_n hx hb nd_D_makeCheckpoint_7 rfl hl (by decide) rfl (fun ls hl => ?_)
  refine lv_iconst (v := 0) hx hb nd_D_makeCheckpoint_8 (by decide) ?_
  refine lv_istore_n hx hb nd_D_makeCheckpoint_9 rfl hl (by decide) rfl (fun ls hl => ?_)
  refine zw_loop (σ := zb_TD) (fun k d H locs ls => ∃ i : Nat, i + k = N ∧ zb_wMany N (zb_D S) = zb_wMany k d ∧ va_P D vwCl (zb_cells G (zb_sD S d)) H ∧ va_S (zb_Ad G) s.heap H locs ∧ lv_has ls 3 [(0, .ref (zg_dsk G)), (1, .int (nI N)), (2, .int (nI i))]) ?_ N (zb_D S) ⟨0, by omega, rfl, hP, hS, zv_sub hl (by intro q hq; simp only [List.mem_cons, List.not_mem_nil, or_false] at hq; rcases hq with rfl | rfl | rfl; rfl; exact congrArg (fun z => some (Value.int z)) eN; rfl)⟩
  intro k d H locs ls hI ih
  obtain ⟨i, hik, hE, hP, hS, hl⟩ := hI
  refine lv_iload_n hx hb nd_D_makeCheckpoint_10 rfl (zv_at hl 2 rfl) ?_
  refine lv_iload_n hx hb nd_D_makeCheckpoint_11 rfl (zv_at hl 1 rfl) ?_
  refine lv_icmp_ge (tgt := 30) hx hb nd_D_makeCheckpoint_12 (by decide) (fun h_12 => ?_) (fun h_12 => ?_)
  · skip
    have hk0 : k = 0 := by
      have h := (nI_leI (by omega) (by omega)).mp h_12
      omega
    subst hk0
    have hE : zb_wMany N (zb_D S) = (1, d) := hE
    refine lv_aload_n hx hb nd_D_makeCheckpoint_30 rfl (zv_at hl 0 rfl) ?_
    refine zb_vWi (As := []) (rest := _) hF (c_D_writeOnce l D G hG _) (zw_preV hP hK (q0 := 5) (ci := 5) rfl rfl rfl) nk_D_writeOnce nw_228 ⟨rfl, rfl, Nat.le_of_ble_eq_true rfl, Nat.le_of_ble_eq_true rfl⟩ rfl hl.1 rfl (Nat.le_of_ble_eq_true rfl) ⟨Nat.zero_le _, Nat.zero_le _⟩ nd_D_makeCheckpoint_31 hS (fun H locs hP hS => ?_)
    refine lv_if_ne (tgt := 39) hx hb nd_D_makeCheckpoint_34 (by decide) (fun h_34 => ?_) (fun h_34 => ?_)
    · skip
      refine lv_aload_n hx hb nd_D_makeCheckpoint_39 rfl (zv_at hl 0 rfl) ?_
      refine lv_iconst (v := 0) hx hb nd_D_makeCheckpoint_40 (by decide) ?_
      refine zb_put_lin hx hb hts hown hK hG hP hS (hts _ nw_51) nd_D_makeCheckpoint_41 (fun H locs hP hS => ?_)
      refine lv_aload_n hx hb nd_D_makeCheckpoint_44 rfl (zv_at hl 0 rfl) ?_
      refine lv_iconst (v := 0) hx hb nd_D_makeCheckpoint_45 (by decide) ?_
      refine zb_put_trn hx hb hts hown hK hG hP hS (hts _ nw_53) nd_D_makeCheckpoint_46 (fun H locs hP hS => ?_)
      refine lv_aload_n hx hb nd_D_makeCheckpoint_49 rfl (zv_at hl 0 rfl) ?_
      refine lv_iconst (v := 0) hx hb nd_D_makeCheckpoint_50 (by decide) ?_
      refine zb_put_chg hx hb hts hown hK hG hP hS (hts _ nw_55) nd_D_makeCheckpoint_51 (fun H locs hP hS => ?_)
      refine lv_iconst (v := 1) hx hb nd_D_makeCheckpoint_54 (by decide) ?_
      refine zb_zret hx hb hr hlk nd_D_makeCheckpoint_55 hP hS (by decide) ?_
      have hz : ¬ (zb_wOnce d).1 = 0 := h_34
      unfold zb_check
      rw [eN, nI_clamp (by omega), hE, if_neg (show ¬ (1 : Int32) = 0 by decide)]
      unfold zb_check2
      rw [if_neg hz]
      all_goals rfl
    · skip
      refine lv_iconst (v := 0) hx hb nd_D_makeCheckpoint_37 (by decide) ?_
      refine zb_zret hx hb hr hlk nd_D_makeCheckpoint_38 hP hS (by decide) ?_
      have hz : (zb_wOnce d).1 = 0 := h_34
      unfold zb_check
      rw [eN, nI_clamp (by omega), hE, if_neg (show ¬ (1 : Int32) = 0 by decide)]
      unfold zb_check2
      rw [if_pos hz]
      all_goals rfl
  · skip
    have hk0 : ¬ k = 0 := fun q => h_12 (nI_le (by omega) (by omega))
    refine lv_aload_n hx hb nd_D_makeCheckpoint_15 rfl (zv_at hl 0 rfl) ?_
    refine zb_vWi (As := []) (rest := _) hF (c_D_writeOnce l D G hG _) (zw_preV hP hK (q0 := 5) (ci := 5) rfl rfl rfl) nk_D_writeOnce nw_228 ⟨rfl, rfl, Nat.le_of_ble_eq_true rfl, Nat.le_of_ble_eq_true rfl⟩ rfl hl.1 rfl (Nat.le_of_ble_eq_true rfl) ⟨Nat.zero_le _, Nat.zero_le _⟩ nd_D_makeCheckpoint_16 hS (fun H locs hP hS => ?_)
    refine lv_if_ne (tgt := 24) hx hb nd_D_makeCheckpoint_19 (by decide) (fun h_19 => ?_) (fun h_19 => ?_)
    · skip
      refine zv_iinc (v := nI (i + 1)) hx hb nd_D_makeCheckpoint_24 hl rfl ((nI_succ i).symm) (by decide) rfl (fun ls hl => ?_)
      refine lv_goto (tgt := 10) hx hb nd_D_makeCheckpoint_27 (by decide) ?_
      exact ih (k - 1) (zb_wOnce d).2 _ _ _ (by omega) ⟨i + 1, by omega, hE.trans (zb_wMany_next h_19 hk0), hP, hS, zv_sub hl (by intro q hq; simp only [List.mem_cons, List.not_mem_nil, or_false] at hq; rcases hq with rfl | rfl | rfl <;> rfl)⟩
    · skip
      refine lv_iconst (v := 0) hx hb nd_D_makeCheckpoint_22 (by decide) ?_
      refine zb_zret hx hb hr hlk nd_D_makeCheckpoint_23 hP hS (by decide) ?_
      have hz : (zb_wOnce d).1 = 0 := h_19
      have e1 : zb_wMany N (zb_D S) = (0, (zb_wOnce d).2) := hE.trans (zb_wMany_stop hz hk0)
      unfold zb_check
      rw [eN, nI_clamp (by omega), e1]
      all_goals rfl

set_option maxHeartbeats 4000000 in
set_option maxRecDepth 100000 in
theorem c_D_writeLines (l : Launch) (D : va_G) (G : zg_G) (hG : zw_apart (zb_adr G)) (S : zb_S) (chg cnt : Int32) (N : Nat) (hN : N < 128) (eN : cnt = nI N) : Met l ny_D_writeLines (Cond.code ny_D_writeLines nc_D_writeLines 4 (some .boolean) :: zw_big) ({ frames := 2, cells := 0, slots := 0, locals := 42 } : Room) (zw_P [.ref (zg_dsk G), .int chg, .int cnt] D (zb_tys G) (zb_cells G S)) (zb_Qi D G ((zb_lines (zb_D S) chg cnt).1, zb_sD S (zb_lines (zb_D S) chg cnt).2)) 0 0 (zb_Ad G) := by
  refine Met.ofW (cc := nc_D_writeLines) (maxL := 4) (ret := (some .boolean)) (by decide) rfl ?_
  intro p e s m args below meth c s₁ B hml hv
  obtain ⟨rfl, hP, hK⟩ := hv
  have hx := B.exec
  have hb := B.bytes
  have hr := B.returns
  have hts0 := atoms_spec (ws := Cond.code ny_D_writeLines nc_D_writeLines 4 (some .boolean) :: zw_big) B.pre
  have hts : ∀ w ∈ zw_big, w.before [.ref (zg_dsk G), .int chg, .int cnt].toArray s = true := fun w h => hts0 w (List.mem_cons_of_mem _ h)
  have hown : s.vm.findClass nR_D = some m.cls := findClass_of_methodNamed B.named
  have hlk := B.notSynchronized
  have hS : va_S (zb_Ad G) s.heap s.heap [] := va_S.rf
  have hl := lv_entry ([.ref (zg_dsk G), .int chg, .int cnt]) (n := 4) (Nat.le_of_ble_eq_true rfl)
  rw [lg_entry_eq]
  generalize (lg_sl ([.ref (zg_dsk G), .int chg, .int cnt]) ++ List.replicate (4 - (lg_sl ([.ref (zg_dsk G), .int chg, .int cnt])).length) Slot.unset).toArray = ls at hl ⊢
  have hl : lv_has ls 4 [(0, .ref (zg_dsk G)), (1, .int chg), (2, .int cnt)] := hl
  have hF : CallFix p m c nc_D_writeLines 4 s [.ref (zg_dsk G), .int chg, .int cnt].toArray zw_big nR_D := ⟨hx, hb, hml, hown, hts⟩
  subst eN
  refine zw_cut (σ := zb_TD) 20 (fun x => []) (fun x H locs ls => zb_lines (zb_D S) chg (nI N) = zb_lines2 x chg (nI N) ∧ va_P D vwCl (zb_cells G (zb_sD S x)) H ∧ va_S (zb_Ad G) s.heap H locs ∧ lv_has ls 4 [(0, .ref (zg_dsk G)), (1, .int chg), (2, .int (nI N))]) (fun x H locs ls hI => ?_) (fun hJ20 => ?_)
  · skip
    obtain ⟨hJ, hP, hS, hl⟩ := hI
    refine lv_iconst (v := 0) hx hb nd_D_writeLines_20 (by decide) ?_
    refine lv_istore_n hx hb nd_D_writeLines_21 rfl hl (by decide) rfl (fun ls hl => ?_)
    refine zw_loop (σ := zb_TD) (fun k d H locs ls => ∃ i : Nat, i + k = N ∧ zb_wMany N x = zb_wMany k d ∧ va_P D vwCl (zb_cells G (zb_sD S d)) H ∧ va_S (zb_Ad G) s.heap H locs ∧ lv_has ls 4 [(0, .ref (zg_dsk G)), (1, .int chg), (2, .int (nI N)), (3, .int (nI i))]) ?_ N x ⟨0, by omega, rfl, hP, hS, zv_sub hl (by intro q hq; simp only [List.mem_cons, List.not_mem_nil, or_false] at hq; rcases hq with rfl | rfl | rfl | rfl <;> rfl)⟩
    intro k d H locs ls hI ih
    obtain ⟨i, hik, hE, hP, hS, hl⟩ := hI
    refine lv_iload_n hx hb nd_D_writeLines_22 rfl (zv_at hl 3 rfl) ?_
    refine lv_iload_n hx hb nd_D_writeLines_23 rfl (zv_at hl 2 rfl) ?_
    refine lv_icmp_ge (tgt := 42) hx hb nd_D_writeLines_24 (by decide) (fun h_24 => ?_) (fun h_24 => ?_)
    · skip
      have hk0 : k = 0 := by
        have h := (nI_leI (by omega) (by omega)).mp h_24
        omega
      subst hk0
      have hE : zb_wMany N x = (1, d) := hE
      refine lv_aload_n hx hb nd_D_writeLines_42 rfl (zv_at hl 0 rfl) ?_
      refine lv_dup hx hb nd_D_writeLines_43 rfl ?_
      refine zb_getD hx hb hts hown hK hP 3 (by decide) (hts _ nw_51) rfl nd_D_writeLines_44 ?_
      refine lv_iload_n hx hb nd_D_writeLines_47 rfl (zv_at hl 2 rfl) ?_
      refine lv_iadd hx hb nd_D_writeLines_48 ?_
      refine zb_put_lin hx hb hts hown hK hG hP hS (hts _ nw_51) nd_D_writeLines_49 (fun H locs hP hS => ?_)
      refine lv_aload_n hx hb nd_D_writeLines_52 rfl (zv_at hl 0 rfl) ?_
      refine lv_dup hx hb nd_D_writeLines_53 rfl ?_
      refine zb_getD hx hb hts hown hK hP 4 (by decide) (hts _ nw_53) rfl nd_D_writeLines_54 ?_
      refine lv_iconst (v := 1) hx hb nd_D_writeLines_57 (by decide) ?_
      refine lv_iadd hx hb nd_D_writeLines_58 ?_
      refine zb_put_trn hx hb hts hown hK hG hP hS (hts _ nw_53) nd_D_writeLines_59 (fun H locs hP hS => ?_)
      refine lv_aload_n hx hb nd_D_writeLines_62 rfl (zv_at hl 0 rfl) ?_
      refine lv_dup hx hb nd_D_writeLines_63 rfl ?_
      refine zb_getD hx hb hts hown hK hP 5 (by decide) (hts _ nw_55) rfl nd_D_writeLines_64 ?_
      refine lv_iload_n hx hb nd_D_writeLines_67 rfl (zv_at hl 1 rfl) ?_
      refine lv_ior hx hb nd_D_writeLines_68 ?_
      refine zb_put_chg hx hb hts hown hK hG hP hS (hts _ nw_55) nd_D_writeLines_69 (fun H locs hP hS => ?_)
      refine lv_iconst (v := 1) hx hb nd_D_writeLines_72 (by decide) ?_
      refine zb_zret hx hb hr hlk nd_D_writeLines_73 hP hS (by decide) ?_
      rw [hJ]
      unfold zb_lines2
      rw [nI_clamp (by omega), hE, if_neg (show ¬ (1 : Int32) = 0 by decide)]
      all_goals rfl
    · skip
      have hk0 : ¬ k = 0 := fun q => h_24 (nI_le (by omega) (by omega))
      refine lv_aload_n hx hb nd_D_writeLines_27 rfl (zv_at hl 0 rfl) ?_
      refine zb_vWi (As := []) (rest := _) hF (c_D_writeOnce l D G hG _) (zw_preV hP hK (q0 := 5) (ci := 5) rfl rfl rfl) nk_D_writeOnce nw_228 ⟨rfl, rfl, Nat.le_of_ble_eq_true rfl, Nat.le_of_ble_eq_true rfl⟩ rfl hl.1 rfl (Nat.le_of_ble_eq_true rfl) ⟨Nat.zero_le _, Nat.zero_le _⟩ nd_D_writeLines_28 hS (fun H locs hP hS => ?_)
      refine lv_if_ne (tgt := 36) hx hb nd_D_writeLines_31 (by decide) (fun h_31 => ?_) (fun h_31 => ?_)
      · skip
        refine zv_iinc (v := nI (i + 1)) hx hb nd_D_writeLines_36 hl rfl ((nI_succ i).symm) (by decide) rfl (fun ls hl => ?_)
        refine lv_goto (tgt := 22) hx hb nd_D_writeLines_39 (by decide) ?_
        exact ih (k - 1) (zb_wOnce d).2 _ _ _ (by omega) ⟨i + 1, by omega, hE.trans (zb_wMany_next h_31 hk0), hP, hS, zv_sub hl (by intro q hq; simp only [List.mem_cons, List.not_mem_nil, or_false] at hq; rcases hq with rfl | rfl | rfl | rfl <;> rfl)⟩
      · skip
        refine lv_iconst (v := 0) hx hb nd_D_writeLines_34 (by decide) ?_
        refine zb_zret hx hb hr hlk nd_D_writeLines_35 hP hS (by decide) ?_
        rw [hJ]
        unfold zb_lines2
        rw [nI_clamp (by omega), hE.trans (zb_wMany_stop h_31 hk0), if_pos rfl]
        all_goals rfl
  refine lv_aload_n hx hb nd_D_writeLines_0 rfl (zv_at hl 0 rfl) ?_
  refine zb_getD hx hb hts hown hK hP 3 (by decide) (hts _ nw_51) rfl nd_D_writeLines_1 ?_
  refine lv_iload_n hx hb nd_D_writeLines_4 rfl (zv_at hl 2 rfl) ?_
  refine lv_iadd hx hb nd_D_writeLines_5 ?_
  refine lv_bipush (v := 24) hx hb nd_D_writeLines_6 (by decide) ?_
  refine lv_icmp_le (tgt := 20) hx hb nd_D_writeLines_8 (by decide) (fun h_8 => ?_) (fun h_8 => ?_)
  · skip
    first
      | exact hJ20 (zb_D S) _ _ _ ⟨by unfold zb_lines; rw [if_pos (show zbD_lin (zb_D S) + nI N ≤ 24 from h_8)], hP, hS, hl⟩
      | exact hJ20 (zb_check (zb_D S)).2 _ _ _ ⟨by unfold zb_lines; rw [if_neg (show ¬ zbD_lin (zb_D S) + nI N ≤ 24 from h_8), if_neg (show ¬ (zb_check (zb_D S)).1 = 0 from h_15)], hP, hS, hl⟩
  · skip
    refine lv_aload_n hx hb nd_D_writeLines_11 rfl (zv_at hl 0 rfl) ?_
    refine zb_vWi (As := []) (rest := _) hF (c_D_makeCheckpoint l D G hG _) (zw_preV hP hK (q0 := 5) (ci := 5) rfl rfl rfl) nk_D_makeCheckpoint nw_224 ⟨rfl, rfl, Nat.le_of_ble_eq_true rfl, Nat.le_of_ble_eq_true rfl⟩ rfl hl.1 rfl (Nat.le_of_ble_eq_true rfl) ⟨Nat.zero_le _, Nat.zero_le _⟩ nd_D_writeLines_12 hS (fun H locs hP hS => ?_)
    refine lv_if_ne (tgt := 20) hx hb nd_D_writeLines_15 (by decide) (fun h_15 => ?_) (fun h_15 => ?_)
    · skip
      first
        | exact hJ20 (zb_D S) _ _ _ ⟨by unfold zb_lines; rw [if_pos (show zbD_lin (zb_D S) + nI N ≤ 24 from h_8)], hP, hS, hl⟩
        | exact hJ20 (zb_check (zb_D S)).2 _ _ _ ⟨by unfold zb_lines; rw [if_neg (show ¬ zbD_lin (zb_D S) + nI N ≤ 24 from h_8), if_neg (show ¬ (zb_check (zb_D S)).1 = 0 from h_15)], hP, hS, hl⟩
    · skip
      refine lv_iconst (v := 0) hx hb nd_D_writeLines_18 (by decide) ?_
      refine zb_zret hx hb hr hlk nd_D_writeLines_19 hP hS (by decide) ?_
      unfold zb_lines
      rw [if_neg (show ¬ zbD_lin (zb_D S) + nI N ≤ 24 from h_8), if_pos (show (zb_check (zb_D S)).1 = 0 from h_15)]
      all_goals rfl

theorem zb_lines_01 (d : zb_TD) (chg cnt : Int32) : (zb_lines d chg cnt).1 = 0 ∨ (zb_lines d chg cnt).1 = 1 := by
  have h2 : ∀ d : zb_TD, (zb_lines2 d chg cnt).1 = 0 ∨ (zb_lines2 d chg cnt).1 = 1 := by
    intro d
    unfold zb_lines2
    split
    · exact Or.inl rfl
    · exact Or.inr rfl
  unfold zb_lines
  split
  · exact h2 d
  · split
    · exact Or.inl rfl
    · exact h2 _
theorem zb_bc1 (x : Int32) : ∃ n : Nat, n < 128 ∧ zj_bc x + 1 = nI n := by
  obtain ⟨n, hn, e⟩ := zj_bc_nat x
  exact ⟨n + 1, by omega, by rw [e, nI_succ]⟩

set_option maxHeartbeats 4000000 in
set_option maxRecDepth 100000 in
theorem c_D_writeTransaction (l : Launch) (D : va_G) (G : zg_G) (hG : zw_apart (zb_adr G)) (S : zb_S) (chg : Int32) : Met l ny_D_writeTransaction (Cond.code ny_D_writeTransaction nc_D_writeTransaction 2 (some .boolean) :: zw_big) ({ frames := 3, cells := 0, slots := 0, locals := 65 } : Room) (zw_P [.ref (zg_dsk G), .int chg] D (zb_tys G) (zb_cells G S)) (zb_Qi D G (zb_tr S chg)) 0 0 (zb_Ad G) := by
  refine Met.ofW (cc := nc_D_writeTransaction) (maxL := 2) (ret := (some .boolean)) (by decide) rfl ?_
  intro p e s m args below meth c s₁ B hml hv
  obtain ⟨rfl, hP, hK⟩ := hv
  have hx := B.exec
  have hb := B.bytes
  have hr := B.returns
  have hts0 := atoms_spec (ws := Cond.code ny_D_writeTransaction nc_D_writeTransaction 2 (some .boolean) :: zw_big) B.pre
  have hts : ∀ w ∈ zw_big, w.before [.ref (zg_dsk G), .int chg].toArray s = true := fun w h => hts0 w (List.mem_cons_of_mem _ h)
  have hown : s.vm.findClass nR_D = some m.cls := findClass_of_methodNamed B.named
  have hlk := B.notSynchronized
  have hS : va_S (zb_Ad G) s.heap s.heap [] := va_S.rf
  have hl := lv_entry ([.ref (zg_dsk G), .int chg]) (n := 2) (Nat.le_of_ble_eq_true rfl)
  rw [lg_entry_eq]
  generalize (lg_sl ([.ref (zg_dsk G), .int chg]) ++ List.replicate (2 - (lg_sl ([.ref (zg_dsk G), .int chg])).length) Slot.unset).toArray = ls at hl ⊢
  have hl : lv_has ls 2 [(0, .ref (zg_dsk G)), (1, .int chg)] := hl
  have hF : CallFix p m c nc_D_writeTransaction 2 s [.ref (zg_dsk G), .int chg].toArray zw_big nR_D := ⟨hx, hb, hml, hown, hts⟩
  obtain ⟨N, hN, eN⟩ := zb_bc1 chg
  refine lv_aload_n hx hb nd_D_writeTransaction_0 rfl (zv_at hl 0 rfl) ?_
  refine lv_iload_n hx hb nd_D_writeTransaction_1 rfl (zv_at hl 1 rfl) ?_
  refine lv_iload_n hx hb nd_D_writeTransaction_2 rfl (zv_at hl 1 rfl) ?_
  refine zw_sR (As := [_]) (rest := _) hF (c_I_bitCount l _) zw_preN nk_I_bitCount nw_214 ⟨rfl, rfl, Nat.le_of_ble_eq_true rfl, Nat.le_of_ble_eq_true rfl⟩ rfl hl.1 rfl (Nat.le_of_ble_eq_true rfl) ⟨Nat.zero_le _, Nat.zero_le _⟩ nd_D_writeTransaction_3 ?_
  refine lv_iconst (v := 1) hx hb nd_D_writeTransaction_6 (by decide) ?_
  refine lv_iadd hx hb nd_D_writeTransaction_7 ?_
  refine zb_vWi (As := [_, _]) (rest := _) hF (c_D_writeLines l D G hG _ _ _ _ (by assumption) (by assumption)) (zw_preV hP hK (q0 := 5) (ci := 5) rfl rfl rfl) nk_D_writeLines nw_220 ⟨rfl, rfl, Nat.le_of_ble_eq_true rfl, Nat.le_of_ble_eq_true rfl⟩ rfl hl.1 rfl (Nat.le_of_ble_eq_true rfl) ⟨Nat.zero_le _, Nat.zero_le _⟩ nd_D_writeTransaction_8 hS (fun H locs hP hS => ?_)
  refine zb_zret hx hb hr hlk nd_D_writeTransaction_11 hP hS (zb_lines_01 _ _ _) ?_
  all_goals rfl
