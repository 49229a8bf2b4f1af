set_option maxHeartbeats 4000000 in
set_option maxRecDepth 100000 in
theorem c_M_dayEnd (l : Launch) (D : va_G) (G : zh_G) (hG : zw_apart (zm_adr G)) (T : zm_S) (Y : zm_Y) (j : Nat) (hj : j < 99999) (ej : zm_now T = nI j) (hI : zm_I T) (hO : zm_IO T) : Met l ny_M_dayEnd (Cond.code ny_M_dayEnd nc_M_dayEnd 2 (some .boolean) :: zw_big) ({ frames := 6, cells := 0, slots := 0, locals := 144 } : Room) (zw_P [.ref (zh_mdl G)] D (zm_tys G) (zm_cells G T Y)) (zm_Qi D G (zm_dayEnd T j)) 0 0 (zm_Ad G) := by
  refine Met.ofW (cc := nc_M_dayEnd) (maxL := 2) (ret := (some .boolean)) (by decide) rfl ?_
  intro p e s m args below meth c s₁ B hml hv
  obtain ⟨rfl, hP, hK⟩ := hv
  have hx := B.exec
  have hb := B.bytes
  have hr := B.returns
  have hts0 := atoms_spec (ws := Cond.code ny_M_dayEnd nc_M_dayEnd 2 (some .boolean) :: zw_big) B.pre
  have hts : ∀ w ∈ zw_big, w.before [.ref (zh_mdl G)].toArray s = true := fun w h => hts0 w (List.mem_cons_of_mem _ h)
  have hown : s.vm.findClass nR_M = some m.cls := findClass_of_methodNamed B.named
  have hlk := B.notSynchronized
  have hS : va_S (zm_Ad G) s.heap s.heap [] := va_S.rf
  have hl := lv_entry ([.ref (zh_mdl G)]) (n := 2) (Nat.le_of_ble_eq_true rfl)
  rw [lg_entry_eq]
  generalize (lg_sl ([.ref (zh_mdl G)]) ++ List.replicate (2 - (lg_sl ([.ref (zh_mdl G)])).length) Slot.unset).toArray = ls at hl ⊢
  have hl : lv_has ls 2 [(0, .ref (zh_mdl G))] := hl
  have hF : CallFix p m c nc_M_dayEnd 2 s [.ref (zh_mdl G)].toArray zw_big nR_M := ⟨hx, hb, hml, hown, hts⟩
  obtain ⟨n, hn6, en⟩ := hI.1
  have hI00 := hI
  refine zw_cut (σ := zm_S × zm_Y) 23 (fun x => []) (fun x H locs ls => zm_dayEnd T j = zm_dayEnd2 x.1 j ∧ zm_key x.1 = zm_key T ∧ va_P D vwCl (zm_cells G x.1 x.2) H ∧ va_S (zm_Ad G) s.heap H locs ∧ lv_has ls 2 [(0, .ref (zh_mdl G))]) (fun x H locs ls hI => ?_) (fun hJ23 => ?_)
  · skip
    obtain ⟨T0, Y0⟩ := x
    obtain ⟨hJ, hkx, hP, hS, hl⟩ := hI
    have hI : zm_I T := hI00
    dsimp only at hJ hkx hP
    have enx : (zm_acs T0).toNatClampNeg = n := by rw [zm_key_acs hkx, en]; exact nI_clamp (by omega)
    have hJ2 : zm_dayEnd T j = (if (zm_steps j n 0 T0).1 = 0 then (0, (zm_steps j n 0 T0).2) else zm_dayEnd3 (zm_steps j n 0 T0).2) := by rw [hJ, zm_dayEnd2, enx]
    refine lv_iconst (v := 0) hx hb nd_M_dayEnd_23 (by decide) ?_
    refine lv_istore_n hx hb nd_M_dayEnd_24 rfl hl (by decide) rfl (fun ls hl => ?_)
    refine zw_loop (σ := Nat × zm_S × zm_Y) (fun k y H locs ls => y.1 + k = n ∧ zm_steps j n 0 T0 = zm_steps j k y.1 y.2.1 ∧ zm_key y.2.1 = zm_key T ∧ va_P D vwCl (zm_cells G y.2.1 y.2.2) H ∧ va_S (zm_Ad G) s.heap H locs ∧ lv_has ls 2 [(0, .ref (zh_mdl G)), (1, .int (nI y.1))]) ?_ n (0, T0, Y0) ⟨by simp, rfl, hkx, hP, hS, zv_sub hl (by intro q hq; simp only [List.mem_cons, List.not_mem_nil, or_false] at hq; rcases hq with rfl | rfl <;> rfl)⟩
    rintro k ⟨i, T1, Y1⟩ H locs ls hI9 ih
    obtain ⟨hik, hE, hkey, hP, hS, hl⟩ := hI9
    dsimp only at hik hE hkey hP hl
    have hI1 := zm_I_key hkey hI
    have hO1 := zm_IO_key hkey hO
    have ej1 : zm_now T1 = nI j := (zm_key_now hkey).trans ej
    have en1 : zm_acs T1 = nI n := (zm_key_acs hkey).trans en
    refine lv_iload_n hx hb nd_M_dayEnd_25 rfl (zv_at hl 1 rfl) ?_
    refine lv_aload_n hx hb nd_M_dayEnd_26 rfl (zv_at hl 0 rfl) ?_
    refine zm_get hx hb hts hown hK hP 0 (by decide) (hts _ nw_467) rfl nd_M_dayEnd_27 ?_
    refine lv_icmp_ge (tgt := 62) hx hb nd_M_dayEnd_30 (by decide) (fun h_30 => ?_) (fun h_30 => ?_)
    · skip
      have hk0 : k = 0 := by
        have h : nI n ≤ nI i := by rw [← en1]; exact h_30
        have := (nI_leI (a := n) (b := i) (by omega) (by omega)).mp h
        omega
      subst hk0
      have hE : zm_steps j n 0 T0 = (1, T1) := hE
      refine lv_aload_n hx hb nd_M_dayEnd_62 rfl (zv_at hl 0 rfl) ?_
      refine lv_iconst (v := 0) hx hb nd_M_dayEnd_63 (by decide) ?_
      refine lv_iconst (v := 0) hx hb nd_M_dayEnd_64 (by decide) ?_
      refine zm_vWi (As := [_, _]) (rest := _) hF (c_M_comes l D G hG _ _ _ _) (zw_preV hP hK (q0 := 0) (ci := 6) rfl rfl rfl) nk_M_comes nw_570 ⟨rfl, rfl, Nat.le_of_ble_eq_true rfl, Nat.le_of_ble_eq_true rfl⟩ rfl hl.1 rfl (Nat.le_of_ble_eq_true rfl) ⟨Nat.zero_le _, Nat.zero_le _⟩ nd_M_dayEnd_65 hS (fun Y H locs hP hS => ?_)
      refine lv_if_ne (tgt := 73) hx hb nd_M_dayEnd_68 (by decide) (fun h_68 => ?_) (fun h_68 => ?_)
      · skip
        refine lv_aload_n hx hb nd_M_dayEnd_73 rfl (zv_at hl 0 rfl) ?_
        refine lv_iconst (v := 0) hx hb nd_M_dayEnd_74 (by decide) ?_
        refine zm_put_end hx hb hts hown hK hG hP hS (by decide) (hts _ nw_488) nd_M_dayEnd_75 (fun H locs hP hS => ?_)
        refine lv_aload_n hx hb nd_M_dayEnd_78 rfl (zv_at hl 0 rfl) ?_
        refine lv_dup hx hb nd_M_dayEnd_79 rfl ?_
        refine zm_get hx hb hts hown hK hP 20 (by decide) (hts _ nw_487) rfl nd_M_dayEnd_80 ?_
        refine lv_iconst (v := 1) hx hb nd_M_dayEnd_83 (by decide) ?_
        refine lv_iadd hx hb nd_M_dayEnd_84 ?_
        refine zm_put_now hx hb hts hown hK hG hP hS (hts _ nw_487) nd_M_dayEnd_85 (fun H locs hP hS => ?_)
        refine lv_iconst (v := 1) hx hb nd_M_dayEnd_88 (by decide) ?_
        refine zm_zret hx hb hr hlk nd_M_dayEnd_89 hP hS (by decide) ?_
        rw [hJ2, hE, if_neg (show ¬ (1 : Int32) = 0 by decide)]
        unfold zm_dayEnd3
        rw [if_neg h_68]
        all_goals rfl
      · skip
        refine lv_iconst (v := 0) hx hb nd_M_dayEnd_71 (by decide) ?_
        refine zm_zret hx hb hr hlk nd_M_dayEnd_72 hP hS (by decide) ?_
        rw [hJ2, hE, if_neg (show ¬ (1 : Int32) = 0 by decide)]
        unfold zm_dayEnd3
        rw [if_pos h_68]
        all_goals rfl
    · skip
      have hio : i < n := by
        refine Nat.lt_of_not_le fun z => h_30 ?_
        show zm_acs T1 ≤ nI i
        rw [en1]; exact nI_le z (by omega)
      have hi6 : i < 6 := by omega
      refine lv_aload_n hx hb nd_M_dayEnd_33 rfl (zv_at hl 0 rfl) ?_
      refine zm_get hx hb hts hown hK hP 5 (by decide) (hts _ nw_472) rfl nd_M_dayEnd_34 ?_
      refine lv_iload_n hx hb nd_M_dayEnd_37 rfl (zv_at hl 1 rfl) ?_
      refine zm_aldN_mrk hx hb hK hP (by assumption) nd_M_dayEnd_38 ?_
      refine lv_aload_n hx hb nd_M_dayEnd_39 rfl (zv_at hl 0 rfl) ?_
      refine zm_get hx hb hts hown hK hP 20 (by decide) (hts _ nw_487) rfl nd_M_dayEnd_40 ?_
      rw [ej1]
      refine lv_icmp_ge (tgt := 56) hx hb nd_M_dayEnd_43 (by decide) (fun h_43 => ?_) (fun h_43 => ?_)
      · skip
        refine zv_iinc (v := nI (i + 1)) hx hb nd_M_dayEnd_56 hl rfl ((nI_succ i).symm) (by decide) rfl (fun ls hl => ?_)
        refine lv_goto (tgt := 25) hx hb nd_M_dayEnd_59 (by decide) ?_
        exact ih (k - 1) (i + 1, T1, _) _ _ _ (by omega) ⟨by show i + 1 + (k - 1) = n; omega, hE.trans (zm_steps_skip (by omega) h_43), hkey, hP, hS, zv_sub hl (by intro q hq; simp only [List.mem_cons, List.not_mem_nil, or_false] at hq; rcases hq with rfl | rfl <;> rfl)⟩
      · skip
        refine lv_aload_n hx hb nd_M_dayEnd_46 rfl (zv_at hl 0 rfl) ?_
        refine lv_iload_n hx hb nd_M_dayEnd_47 rfl (zv_at hl 1 rfl) ?_
        refine zm_vWi (As := [_]) (rest := _) hF (c_M_step l D G hG _ _ j hj (by exact ej1) (by exact hI1) (by exact hO1) _ (by assumption)) (zw_preV hP hK (q0 := 0) (ci := 6) rfl rfl rfl) nk_M_step nw_664 ⟨rfl, rfl, Nat.le_of_ble_eq_true rfl, Nat.le_of_ble_eq_true rfl⟩ rfl hl.1 rfl (Nat.le_of_ble_eq_true rfl) ⟨Nat.zero_le _, Nat.zero_le _⟩ nd_M_dayEnd_48 hS (fun Y H locs hP hS => ?_)
        refine lv_if_ne (tgt := 56) hx hb nd_M_dayEnd_51 (by decide) (fun h_51 => ?_) (fun h_51 => ?_)
        · skip
          refine zv_iinc (v := nI (i + 1)) hx hb nd_M_dayEnd_56 hl rfl ((nI_succ i).symm) (by decide) rfl (fun ls hl => ?_)
          refine lv_goto (tgt := 25) hx hb nd_M_dayEnd_59 (by decide) ?_
          exact ih (k - 1) (i + 1, (zm_step T1 j i).2, _) _ _ _ (by omega) ⟨by show i + 1 + (k - 1) = n; omega, hE.trans (zm_steps_next (by omega) h_43 h_51), (zm_step_key T1 j i).trans hkey, hP, hS, zv_sub hl (by intro q hq; simp only [List.mem_cons, List.not_mem_nil, or_false] at hq; rcases hq with rfl | rfl <;> rfl)⟩
        · skip
          refine lv_iconst (v := 0) hx hb nd_M_dayEnd_54 (by decide) ?_
          refine zm_zret hx hb hr hlk nd_M_dayEnd_55 hP hS (by decide) ?_
          rw [hJ2, hE.trans (zm_steps_stop (by omega) h_43 h_51), if_pos rfl]
  refine lv_aload_n hx hb nd_M_dayEnd_0 rfl (zv_at hl 0 rfl) ?_
  refine zm_get hx hb hts hown hK hP 21 (by decide) (hts _ nw_488) rfl nd_M_dayEnd_1 ?_
  refine lv_if_ne (tgt := 23) hx hb nd_M_dayEnd_4 (by decide) (fun h_4 => ?_) (fun h_4 => ?_)
  · skip
    exact hJ23 (T, _) _ _ _ ⟨by unfold zm_dayEnd; rw [if_neg h_4], rfl, hP, hS, hl⟩
  · skip
    refine lv_aload_n hx hb nd_M_dayEnd_7 rfl (zv_at hl 0 rfl) ?_
    refine lv_iconst (v := 0) hx hb nd_M_dayEnd_8 (by decide) ?_
    refine lv_iconst (v := 0) hx hb nd_M_dayEnd_9 (by decide) ?_
    refine zm_vWi (As := [_, _]) (rest := _) hF (c_M_comes l D G hG _ _ _ _) (zw_preV hP hK (q0 := 0) (ci := 6) rfl rfl rfl) nk_M_comes nw_570 ⟨rfl, rfl, Nat.le_of_ble_eq_true rfl, Nat.le_of_ble_eq_true rfl⟩ rfl hl.1 rfl (Nat.le_of_ble_eq_true rfl) ⟨Nat.zero_le _, Nat.zero_le _⟩ nd_M_dayEnd_10 hS (fun Y H locs hP hS => ?_)
    refine lv_if_ne (tgt := 18) hx hb nd_M_dayEnd_13 (by decide) (fun h_13 => ?_) (fun h_13 => ?_)
    · skip
      refine lv_aload_n hx hb nd_M_dayEnd_18 rfl (zv_at hl 0 rfl) ?_
      refine lv_iconst (v := 1) hx hb nd_M_dayEnd_19 (by decide) ?_
      refine zm_put_end hx hb hts hown hK hG hP hS (by decide) (hts _ nw_488) nd_M_dayEnd_20 (fun H locs hP hS => ?_)
      exact hJ23 (zm_send (zm_cm T 0 0).2 1, _) _ _ _ ⟨by unfold zm_dayEnd; rw [if_pos h_4, if_neg h_13], rfl, hP, hS, hl⟩
    · skip
      refine lv_iconst (v := 0) hx hb nd_M_dayEnd_16 (by decide) ?_
      refine zm_zret hx hb hr hlk nd_M_dayEnd_17 hP hS (by decide) ?_
      unfold zm_dayEnd
      rw [if_pos h_4, if_pos h_13]

set_option maxHeartbeats 4000000 in
set_option maxRecDepth 100000 in
theorem c_M_run (l : Launch) (D : va_G) (G : zh_G) (hG : zw_apart (zm_adr G)) (T : zm_S) (Y : zm_Y) (n : Int32) (j : Nat) (hj : j + 31 < 99999) (ej : zm_now T = nI j) (hI : zm_I T) (hO : zm_IO T) : Met l ny_M_run (Cond.code ny_M_run nc_M_run 3 (some .int) :: zw_big) ({ frames := 7, cells := 0, slots := 0, locals := 165 } : Room) (zw_P [.ref (zh_mdl G), .int n] D (zm_tys G) (zm_cells G T Y)) (zm_Qi D G (zm_run T j n)) 0 0 (zm_Ad G) := by
  refine Met.ofW (cc := nc_M_run) (maxL := 3) (ret := (some .int)) (by decide) rfl ?_
  intro p e s m args below meth c s₁ B hml hv
  obtain ⟨rfl, hP, hK⟩ := hv
  have hx := B.exec
  have hb := B.bytes
  have hr := B.returns
  have hts0 := atoms_spec (ws := Cond.code ny_M_run nc_M_run 3 (some .int) :: zw_big) B.pre
  have hts : ∀ w ∈ zw_big, w.before [.ref (zh_mdl G), .int n].toArray s = true := fun w h => hts0 w (List.mem_cons_of_mem _ h)
  have hown : s.vm.findClass nR_M = some m.cls := findClass_of_methodNamed B.named
  have hlk := B.notSynchronized
  have hS : va_S (zm_Ad G) s.heap s.heap [] := va_S.rf
  have hl := lv_entry ([.ref (zh_mdl G), .int n]) (n := 3) (Nat.le_of_ble_eq_true rfl)
  rw [lg_entry_eq]
  generalize (lg_sl ([.ref (zh_mdl G), .int n]) ++ List.replicate (3 - (lg_sl ([.ref (zh_mdl G), .int n])).length) Slot.unset).toArray = ls at hl ⊢
  have hl : lv_has ls 3 [(0, .ref (zh_mdl G)), (1, .int n)] := hl
  have hF : CallFix p m c nc_M_run 3 s [.ref (zh_mdl G), .int n].toArray zw_big nR_M := ⟨hx, hb, hml, hown, hts⟩
  refine lv_aload_n hx hb nd_M_run_0 rfl (zv_at hl 0 rfl) ?_
  refine zm_get hx hb hts hown hK hP 22 (by decide) (hts _ nw_489) rfl nd_M_run_1 ?_
  refine lv_if_eq (tgt := 9) hx hb nd_M_run_4 (by decide) (fun h_4 => ?_) (fun h_4 => ?_)
  · skip
    refine lv_iload_n hx hb nd_M_run_9 rfl (zv_at hl 1 rfl) ?_
    refine lv_iconst (v := 1) hx hb nd_M_run_10 (by decide) ?_
    refine lv_icmp_lt (tgt := 20) hx hb nd_M_run_11 (by decide) (fun h_11 => ?_) (fun h_11 => ?_)
    · skip
      refine lv_bipush (v := -3) hx hb nd_M_run_20 (by decide) ?_
      refine zm_iret hx hb hr hlk nd_M_run_22 hP hS ?_
      unfold zm_run
      rw [if_pos h_4, if_pos h_11]
    · skip
      refine lv_iload_n hx hb nd_M_run_14 rfl (zv_at hl 1 rfl) ?_
      refine lv_bipush (v := 31) hx hb nd_M_run_15 (by decide) ?_
      refine lv_icmp_le (tgt := 23) hx hb nd_M_run_17 (by decide) (fun h_17 => ?_) (fun h_17 => ?_)
      · skip
        obtain ⟨N, hN, rfl⟩ : ∃ N : Nat, N < 32 ∧ n = nI N := by
          have h0 : ¬ n < 0 := fun q => h_11 (by rw [Int32.lt_iff_toInt_lt] at q ⊢; have : (0 : Int32).toInt = 0 := rfl; have : (1 : Int32).toInt = 1 := rfl; omega)
          obtain ⟨q, hq, rfl⟩ := nI_of h0
          exact ⟨q, Nat.lt_succ_of_le ((nI_leI (a := q) (b := 31) hq (by decide)).mp h_17), rfl⟩
        have hrun : zm_run T j (nI N) = (if (zm_days2 j N T).1 = 0 then (-1, (zm_days2 j N T).2) else (nI N, (zm_days2 j N T).2)) := by unfold zm_run; rw [if_pos h_4, if_neg h_11, if_pos h_17, nI_clamp (by omega)]
        refine lv_iconst (v := 0) hx hb nd_M_run_23 (by decide) ?_
        refine lv_istore_n hx hb nd_M_run_24 rfl hl (by decide) rfl (fun ls hl => ?_)
        refine zw_loop (σ := Nat × zm_S × zm_Y) (fun k y H locs ls => y.1 + k = N ∧ zm_days2 j N T = zm_days2 (j + y.1) k y.2.1 ∧ (zm_now y.2.1 = nI (j + y.1) ∧ zm_I y.2.1 ∧ zm_IO y.2.1) ∧ va_P D vwCl (zm_cells G y.2.1 y.2.2) H ∧ va_S (zm_Ad G) s.heap H locs ∧ lv_has ls 3 [(0, .ref (zh_mdl G)), (1, .int (nI N)), (2, .int (nI y.1))]) ?_ N (0, T, Y) ⟨by simp, rfl, ⟨ej, hI, hO⟩, hP, hS, zv_sub hl (by intro q hq; simp only [List.mem_cons, List.not_mem_nil, or_false] at hq; rcases hq with rfl | rfl | rfl <;> rfl)⟩
        rintro k ⟨i, T1, Y1⟩ H locs ls hI9 ih
        obtain ⟨hik, hE, ⟨ej1, hI1, hO1⟩, hP, hS, hl⟩ := hI9
        dsimp only at hik hE ej1 hI1 hO1 hP hl
        refine lv_iload_n hx hb nd_M_run_25 rfl (zv_at hl 2 rfl) ?_
        refine lv_iload_n hx hb nd_M_run_26 rfl (zv_at hl 1 rfl) ?_
        refine lv_icmp_ge (tgt := 45) hx hb nd_M_run_27 (by decide) (fun h_27 => ?_) (fun h_27 => ?_)
        · skip
          have hk0 : k = 0 := by
            have := (nI_leI (a := N) (b := i) (by omega) (by omega)).mp h_27
            omega
          subst hk0
          have hE : zm_days2 j N T = (1, T1) := hE
          refine lv_iload_n hx hb nd_M_run_45 rfl (zv_at hl 1 rfl) ?_
          refine zm_iret hx hb hr hlk nd_M_run_46 hP hS ?_
          rw [hrun, hE, if_neg (show ¬ (1 : Int32) = 0 by decide)]
        · skip
          have hio : i < N := Nat.lt_of_not_le fun z => h_27 (nI_le z (by omega))
          refine lv_aload_n hx hb nd_M_run_30 rfl (zv_at hl 0 rfl) ?_
          refine zm_vWi (As := []) (rest := _) hF (c_M_dayEnd l D G hG _ _ (j + i) (by omega) (by exact ej1) (by exact hI1) (by exact hO1)) (zw_preV hP hK (q0 := 0) (ci := 6) rfl rfl rfl) nk_M_dayEnd nw_660 ⟨rfl, rfl, Nat.le_of_ble_eq_true rfl, Nat.le_of_ble_eq_true rfl⟩ rfl hl.1 rfl (Nat.le_of_ble_eq_true rfl) ⟨Nat.zero_le _, Nat.zero_le _⟩ nd_M_run_31 hS (fun Y H locs hP hS => ?_)
          refine lv_if_ne (tgt := 39) hx hb nd_M_run_34 (by decide) (fun h_34 => ?_) (fun h_34 => ?_)
          · skip
            have hnx := zm_dayEnd_inv ej1 hI1 hO1
            refine zv_iinc (v := nI (i + 1)) hx hb nd_M_run_39 hl rfl ((nI_succ i).symm) (by decide) rfl (fun ls hl => ?_)
            refine lv_goto (tgt := 25) hx hb nd_M_run_42 (by decide) ?_
            exact ih (k - 1) (i + 1, (zm_dayEnd T1 (j + i)).2, _) _ _ _ (by omega) ⟨by show i + 1 + (k - 1) = N; omega, hE.trans (zm_days2_next (by omega) h_34), ⟨hnx.2.2 h_34, hnx.1, hnx.2.1⟩, hP, hS, zv_sub hl (by intro q hq; simp only [List.mem_cons, List.not_mem_nil, or_false] at hq; rcases hq with rfl | rfl | rfl <;> rfl)⟩
          · skip
            refine lv_iconst (v := -1) hx hb nd_M_run_37 (by decide) ?_
            refine zm_iret hx hb hr hlk nd_M_run_38 hP hS ?_
            rw [hrun, hE.trans (zm_days2_stop (by omega) h_34), if_pos rfl]
      · skip
        refine lv_bipush (v := -3) hx hb nd_M_run_20 (by decide) ?_
        refine zm_iret hx hb hr hlk nd_M_run_22 hP hS ?_
        unfold zm_run
        rw [if_pos h_4, if_neg h_11, if_neg h_17]
  · skip
    refine lv_iconst (v := -1) hx hb nd_M_run_7 (by decide) ?_
    refine zm_iret hx hb hr hlk nd_M_run_8 hP hS ?_
    unfold zm_run
    rw [if_neg h_4]

set_option maxHeartbeats 4000000 in
set_option maxRecDepth 100000 in
theorem c_M_count (l : Launch) (D : va_G) (G : zh_G) (hG : zw_apart (zm_adr G)) (T : zm_S) (Y : zm_Y) (ba x y : Int32) : Met l ny_M_count (Cond.code ny_M_count nc_M_count 4 (some .int) :: zw_big) ({ frames := 4, cells := 0, slots := 0, locals := 91 } : Room) (zw_P [.ref (zh_mdl G), .int ba, .int x, .int y] D (zm_tys G) (zm_cells G T Y)) (zm_Qi D G (zm_count ba x y, T)) 0 0 (zm_Ad G) := by
  refine Met.ofW (cc := nc_M_count) (maxL := 4) (ret := (some .int)) (by decide) rfl ?_
  intro p e s m args below meth c s₁ B hml hv
  obtain ⟨rfl, hP, hK⟩ := hv
  have hx := B.exec
  have hb := B.bytes
  have hr := B.returns
  have hts0 := atoms_spec (ws := Cond.code ny_M_count nc_M_count 4 (some .int) :: zw_big) B.pre
  have hts : ∀ w ∈ zw_big, w.before [.ref (zh_mdl G), .int ba, .int x, .int y].toArray s = true := fun w h => hts0 w (List.mem_cons_of_mem _ h)
  have hown : s.vm.findClass nR_M = some m.cls := findClass_of_methodNamed B.named
  have hlk := B.notSynchronized
  have hS : va_S (zm_Ad G) s.heap s.heap [] := va_S.rf
  have hl := lv_entry ([.ref (zh_mdl G), .int ba, .int x, .int y]) (n := 4) (Nat.le_of_ble_eq_true rfl)
  rw [lg_entry_eq]
  generalize (lg_sl ([.ref (zh_mdl G), .int ba, .int x, .int y]) ++ List.replicate (4 - (lg_sl ([.ref (zh_mdl G), .int ba, .int x, .int y])).length) Slot.unset).toArray = ls at hl ⊢
  have hl : lv_has ls 4 [(0, .ref (zh_mdl G)), (1, .int ba), (2, .int x), (3, .int y)] := hl
  have hF : CallFix p m c nc_M_count 4 s [.ref (zh_mdl G), .int ba, .int x, .int y].toArray zw_big nR_M := ⟨hx, hb, hml, hown, hts⟩
  refine lv_iload_n hx hb nd_M_count_0 rfl (zv_at hl 1 rfl) ?_
  refine lv_if_lt (tgt := 24) hx hb nd_M_count_1 (by decide) (fun h_1 => ?_) (fun h_1 => ?_)
  · skip
    refine lv_iconst (v := -1) hx hb nd_M_count_24 (by decide) ?_
    refine lv_goto (tgt := 35) hx hb nd_M_count_25 (by decide) ?_
    refine zm_iret hx hb hr hlk nd_M_count_35 hP hS ?_
    unfold zm_count
    rw [if_pos h_1]
  · skip
    refine lv_iload_n hx hb nd_M_count_4 rfl (zv_at hl 1 rfl) ?_
    refine lv_iconst (v := 2) hx hb nd_M_count_5 (by decide) ?_
    refine lv_icmp_gt (tgt := 24) hx hb nd_M_count_6 (by decide) (fun h_6 => ?_) (fun h_6 => ?_)
    · skip
      refine lv_iconst (v := -1) hx hb nd_M_count_24 (by decide) ?_
      refine lv_goto (tgt := 35) hx hb nd_M_count_25 (by decide) ?_
      refine zm_iret hx hb hr hlk nd_M_count_35 hP hS ?_
      unfold zm_count
      rw [if_neg h_1]
      rw [if_pos h_6]
    · skip
      refine lv_iload_n hx hb nd_M_count_9 rfl (zv_at hl 2 rfl) ?_
      refine lv_if_lt (tgt := 24) hx hb nd_M_count_10 (by decide) (fun h_10 => ?_) (fun h_10 => ?_)
      · skip
        refine lv_iconst (v := -1) hx hb nd_M_count_24 (by decide) ?_
        refine lv_goto (tgt := 35) hx hb nd_M_count_25 (by decide) ?_
        refine zm_iret hx hb hr hlk nd_M_count_35 hP hS ?_
        unfold zm_count
        rw [if_neg h_1]
        rw [if_neg h_6]
        rw [if_pos h_10]
      · skip
        refine lv_iload_n hx hb nd_M_count_13 rfl (zv_at hl 3 rfl) ?_
        refine lv_ldc (v := 99999) hx hb hown (hts _ nw_726) nd_M_count_14 ?_
        refine lv_icmp_gt (tgt := 24) hx hb nd_M_count_16 (by decide) (fun h_16 => ?_) (fun h_16 => ?_)
        · skip
          refine lv_iconst (v := -1) hx hb nd_M_count_24 (by decide) ?_
          refine lv_goto (tgt := 35) hx hb nd_M_count_25 (by decide) ?_
          refine zm_iret hx hb hr hlk nd_M_count_35 hP hS ?_
          unfold zm_count
          rw [if_neg h_1]
          rw [if_neg h_6]
          rw [if_neg h_10]
          rw [if_pos h_16]
        · skip
          refine lv_iload_n hx hb nd_M_count_19 rfl (zv_at hl 2 rfl) ?_
          refine lv_iload_n hx hb nd_M_count_20 rfl (zv_at hl 3 rfl) ?_
          refine lv_icmp_le (tgt := 28) hx hb nd_M_count_21 (by decide) (fun h_21 => ?_) (fun h_21 => ?_)
          · skip
            obtain ⟨a, ha, rfl⟩ := nI_of h_10
            obtain ⟨b, hb2, rfl⟩ : ∃ b : Nat, b < 2 ^ 31 ∧ y = nI b := nI_of (fun q => h_10 (by rw [Int32.lt_iff_toInt_lt] at q ⊢; rw [Int32.le_iff_toInt_le] at h_21; omega))
            have hb9 : b ≤ 99999 := Nat.le_of_not_lt fun q => h_16 (nI_lt (a := 99999) q hb2)
            have ha9 : a ≤ b := (nI_leI ha hb2).mp h_21
            refine lv_aload_n hx hb nd_M_count_28 rfl (zv_at hl 0 rfl) ?_
            refine lv_iload_n hx hb nd_M_count_29 rfl (zv_at hl 1 rfl) ?_
            refine lv_iload_n hx hb nd_M_count_30 rfl (zv_at hl 2 rfl) ?_
            refine lv_iload_n hx hb nd_M_count_31 rfl (zv_at hl 3 rfl) ?_
            refine zm_vWi (As := [_, _, _]) (rest := _) hF (c_M_days l D G hG _ _ _ _ _ (by omega) (by omega)) (zw_preV hP hK (q0 := 0) (ci := 6) rfl rfl rfl) nk_M_days nw_680 ⟨rfl, rfl, Nat.le_of_ble_eq_true rfl, Nat.le_of_ble_eq_true rfl⟩ rfl hl.1 rfl (Nat.le_of_ble_eq_true rfl) ⟨Nat.zero_le _, Nat.zero_le _⟩ nd_M_count_32 hS (fun Y H locs hP hS => ?_)
            refine zm_iret hx hb hr hlk nd_M_count_35 hP hS ?_
            unfold zm_count
            rw [if_neg h_1, if_neg h_6, if_neg h_10, if_neg h_16, if_pos h_21, nI_clamp (by omega), nI_clamp (by omega)]
          · skip
            refine lv_iconst (v := -1) hx hb nd_M_count_24 (by decide) ?_
            refine lv_goto (tgt := 35) hx hb nd_M_count_25 (by decide) ?_
            refine zm_iret hx hb hr hlk nd_M_count_35 hP hS ?_
            unfold zm_count
            rw [if_neg h_1]
            rw [if_neg h_6]
            rw [if_neg h_10]
            rw [if_neg h_16]
            rw [if_neg h_21]

set_option maxHeartbeats 4000000 in
set_option maxRecDepth 100000 in
theorem c_M_ledger (l : Launch) (D : va_G) (G : zh_G) (T : zm_S) (Y : zm_Y) (cu wh : Int32) (hI : zm_I T) : Met l ny_M_ledger (Cond.code ny_M_ledger nc_M_ledger 6 (some .long) :: zw_big) ({ frames := 0, cells := 0, slots := 0, locals := 0 } : Room) (zw_P [.ref (zh_mdl G), .int cu, .int wh] D (zm_tys G) (zm_cells G T Y)) (zw_R (.long (zm_ledger T cu wh))) 0 0 (fun _ => False) := by
  refine Met.ofW (cc := nc_M_ledger) (maxL := 6) (ret := (some .long)) (by decide) rfl ?_
  intro p e s m args below meth c s₁ B hml hv
  obtain ⟨rfl, hP, hK⟩ := hv
  have hx := B.exec
  have hb := B.bytes
  have hr := B.returns
  have hts0 := atoms_spec (ws := Cond.code ny_M_ledger nc_M_ledger 6 (some .long) :: zw_big) B.pre
  have hts : ∀ w ∈ zw_big, w.before [.ref (zh_mdl G), .int cu, .int wh].toArray s = true := fun w h => hts0 w (List.mem_cons_of_mem _ h)
  have hown : s.vm.findClass nR_M = some m.cls := findClass_of_methodNamed B.named
  have hlk := B.notSynchronized
  have hl := lv_entry ([.ref (zh_mdl G), .int cu, .int wh]) (n := 6) (Nat.le_of_ble_eq_true rfl)
  rw [lg_entry_eq]
  generalize (lg_sl ([.ref (zh_mdl G), .int cu, .int wh]) ++ List.replicate (6 - (lg_sl ([.ref (zh_mdl G), .int cu, .int wh])).length) Slot.unset).toArray = ls at hl ⊢
  have hl : lv_has ls 6 [(0, .ref (zh_mdl G)), (1, .int cu), (2, .int wh)] := hl
  have hF : CallFix p m c nc_M_ledger 6 s [.ref (zh_mdl G), .int cu, .int wh].toArray zw_big nR_M := ⟨hx, hb, hml, hown, hts⟩
  obtain ⟨n, hn6, en⟩ := hI.1
  have en2 : (zm_acs T).toNatClampNeg = n := by rw [en]; exact nI_clamp (by omega)
  refine lv_aload_n hx hb nd_M_ledger_0 rfl (zv_at hl 0 rfl) ?_
  refine zm_get hx hb hts hown hK hP 22 (by decide) (hts _ nw_489) rfl nd_M_ledger_1 ?_
  refine lv_if_ne (tgt := 25) hx hb nd_M_ledger_4 (by decide) (fun h_4 => ?_) (fun h_4 => ?_)
  · skip
    refine lv_lconst (v := 0) hx hb nd_M_ledger_25 (by decide) ?_
    refine zw_lret hx hb hr hlk nd_M_ledger_26 ?_
    unfold zm_ledger
    all_goals (try dsimp only)
    all_goals (try rw [if_neg h_4])
    all_goals rfl
  · skip
    refine lv_iload_n hx hb nd_M_ledger_7 rfl (zv_at hl 1 rfl) ?_
    refine lv_if_lt (tgt := 25) hx hb nd_M_ledger_8 (by decide) (fun h_8 => ?_) (fun h_8 => ?_)
    · skip
      refine lv_lconst (v := 0) hx hb nd_M_ledger_25 (by decide) ?_
      refine zw_lret hx hb hr hlk nd_M_ledger_26 ?_
      unfold zm_ledger
      all_goals (try dsimp only)
      all_goals (try rw [if_pos h_4])
      all_goals (try rw [if_pos h_8])
      all_goals rfl
    · skip
      refine lv_iload_n hx hb nd_M_ledger_11 rfl (zv_at hl 1 rfl) ?_
      refine lv_iconst (v := 2) hx hb nd_M_ledger_12 (by decide) ?_
      refine lv_icmp_gt (tgt := 25) hx hb nd_M_ledger_13 (by decide) (fun h_13 => ?_) (fun h_13 => ?_)
      · skip
        refine lv_lconst (v := 0) hx hb nd_M_ledger_25 (by decide) ?_
        refine zw_lret hx hb hr hlk nd_M_ledger_26 ?_
        unfold zm_ledger
        all_goals (try dsimp only)
        all_goals (try rw [if_pos h_4])
        all_goals (try rw [if_neg h_8])
        all_goals (try rw [if_pos h_13])
        all_goals rfl
      · skip
        have hc3 : vp_in cu 3 := by
          obtain ⟨q, hq, rfl⟩ := nI_of h_8
          exact vp_in_nI (Nat.lt_succ_of_le (Nat.le_of_not_lt fun z => h_13 (nI_lt (a := 2) z hq))) (by decide)
        refine lv_iload_n hx hb nd_M_ledger_16 rfl (zv_at hl 2 rfl) ?_
        refine lv_if_lt (tgt := 25) hx hb nd_M_ledger_17 (by decide) (fun h_17 => ?_) (fun h_17 => ?_)
        · skip
          refine lv_lconst (v := 0) hx hb nd_M_ledger_25 (by decide) ?_
          refine zw_lret hx hb hr hlk nd_M_ledger_26 ?_
          unfold zm_ledger
          all_goals (try dsimp only)
          all_goals (try rw [if_pos h_4])
          all_goals (try rw [if_neg h_8])
          all_goals (try rw [if_neg h_13])
          all_goals (try rw [if_pos h_17])
          all_goals rfl
        · skip
          refine lv_iload_n hx hb nd_M_ledger_20 rfl (zv_at hl 2 rfl) ?_
          refine lv_iconst (v := 2) hx hb nd_M_ledger_21 (by decide) ?_
          refine lv_icmp_le (tgt := 27) hx hb nd_M_ledger_22 (by decide) (fun h_22 => ?_) (fun h_22 => ?_)
          · skip
            refine lv_iload_n hx hb nd_M_ledger_27 rfl (zv_at hl 2 rfl) ?_
            refine lv_iconst (v := 2) hx hb nd_M_ledger_28 (by decide) ?_
            refine lv_icmp_ge (tgt := 52) hx hb nd_M_ledger_29 (by decide) (fun h_29 => ?_) (fun h_29 => ?_)
            · skip
              refine lv_lconst (v := 0) hx hb nd_M_ledger_52 (by decide) ?_
              refine lv_lstore_n hx hb nd_M_ledger_53 rfl hl (by decide) rfl (fun ls hl => ?_)
              refine lv_iconst (v := 0) hx hb nd_M_ledger_54 (by decide) ?_
              refine lv_istore hx hb nd_M_ledger_55 hl (by decide) rfl (fun ls hl => ?_)
              refine zw_loop (σ := Nat × Int64) (fun k x H locs ls => H = s.heap ∧ locs = [] ∧ x.1 + k = n ∧ zm_sumB T cu n 0 0 = zm_sumB T cu k x.1 x.2 ∧ lv_has ls 6 [(0, .ref (zh_mdl G)), (1, .int cu), (3, .long x.2), (5, .int (nI x.1))]) ?_ n (0, 0) ⟨rfl, rfl, by simp, rfl, zv_sub hl (by intro q hq; simp only [List.mem_cons, List.not_mem_nil, or_false] at hq; rcases hq with rfl | rfl | rfl | rfl <;> rfl)⟩
              rintro k ⟨i, z⟩ H locs ls hI9 ih
              obtain ⟨hH, hL, hik, hE, hl⟩ := hI9
              dsimp only at hik hE hl
              subst hH
              subst hL
              refine lv_iload hx hb nd_M_ledger_57 (zv_at hl 5 rfl) ?_
              refine lv_aload_n hx hb nd_M_ledger_59 rfl (zv_at hl 0 rfl) ?_
              refine zm_get hx hb hts hown hK hP 0 (by decide) (hts _ nw_467) rfl nd_M_ledger_60 ?_
              refine lv_icmp_ge (tgt := 97) hx hb nd_M_ledger_63 (by decide) (fun h_63 => ?_) (fun h_63 => ?_)
              · skip
                have hk0 : k = 0 := by
                  have h : nI n ≤ nI i := by rw [← en]; exact h_63
                  have := (nI_leI (a := n) (b := i) (by omega) (by omega)).mp h
                  omega
                subst hk0
                refine lv_lload_n hx hb nd_M_ledger_97 rfl (zv_at hl 3 rfl) ?_
                refine zw_lret hx hb hr hlk nd_M_ledger_98 ?_
                unfold zm_ledger
                rw [if_pos h_4, if_neg h_8, if_neg h_13, if_neg h_17, if_pos h_22, if_pos h_29, en2, hE]
                all_goals rfl
              · skip
                have hin : i < n := by
                  refine Nat.lt_of_not_le fun q => h_63 ?_
                  show zm_acs T ≤ nI i
                  rw [en]; exact nI_le q (by omega)
                have hi6 : i < 6 := by omega
                refine lv_lload_n hx hb nd_M_ledger_66 rfl (zv_at hl 3 rfl) ?_
                refine lv_aload_n hx hb nd_M_ledger_67 rfl (zv_at hl 0 rfl) ?_
                refine zm_get hx hb hts hown hK hP 1 (by decide) (hts _ nw_468) rfl nd_M_ledger_68 ?_
                refine lv_iload hx hb nd_M_ledger_71 (zv_at hl 5 rfl) ?_
                refine zm_aldN_cur hx hb hK hP hi6 nd_M_ledger_73 ?_
                refine lv_iload_n hx hb nd_M_ledger_74 rfl (zv_at hl 1 rfl) ?_
                refine lv_icmp_ne (tgt := 88) hx hb nd_M_ledger_75 (by decide) (fun h_75 => ?_) (fun h_75 => ?_)
                · skip
                  refine lv_lconst (v := 0) hx hb nd_M_ledger_88 (by decide) ?_
                  refine lv_ladd hx hb nd_M_ledger_89 ?_
                  refine lv_lstore_n hx hb nd_M_ledger_90 rfl hl (by decide) rfl (fun ls hl => ?_)
                  refine zv_iinc (v := nI (i + 1)) hx hb nd_M_ledger_91 hl rfl ((nI_succ i).symm) (by decide) rfl (fun ls hl => ?_)
                  refine lv_goto (tgt := 57) hx hb nd_M_ledger_94 (by decide) ?_
                  exact ih (k - 1) (i + 1, z + 0) _ _ _ (by omega) ⟨rfl, rfl, by show i + 1 + (k - 1) = n; omega, by rw [hE, zm_sumB_next (by omega), if_neg h_75], zv_sub hl (by intro q hq; simp only [List.mem_cons, List.not_mem_nil, or_false] at hq; rcases hq with rfl | rfl | rfl | rfl <;> rfl)⟩
                · skip
                  refine lv_aload_n hx hb nd_M_ledger_78 rfl (zv_at hl 0 rfl) ?_
                  refine zm_get hx hb hts hown hK hP 6 (by decide) (hts _ nw_473) rfl nd_M_ledger_79 ?_
                  refine lv_iload hx hb nd_M_ledger_82 (zv_at hl 5 rfl) ?_
                  refine zm_aldN_mon hx hb hK hP hi6 nd_M_ledger_84 ?_
                  refine lv_goto (tgt := 89) hx hb nd_M_ledger_85 (by decide) ?_
                  refine lv_ladd hx hb nd_M_ledger_89 ?_
                  refine lv_lstore_n hx hb nd_M_ledger_90 rfl hl (by decide) rfl (fun ls hl => ?_)
                  refine zv_iinc (v := nI (i + 1)) hx hb nd_M_ledger_91 hl rfl ((nI_succ i).symm) (by decide) rfl (fun ls hl => ?_)
                  refine lv_goto (tgt := 57) hx hb nd_M_ledger_94 (by decide) ?_
                  exact ih (k - 1) (i + 1, z + zm_mon T i) _ _ _ (by omega) ⟨rfl, rfl, by show i + 1 + (k - 1) = n; omega, by rw [hE, zm_sumB_next (by omega), if_pos h_75], zv_sub hl (by intro q hq; simp only [List.mem_cons, List.not_mem_nil, or_false] at hq; rcases hq with rfl | rfl | rfl | rfl <;> rfl)⟩
            · skip
              refine lv_iload_n hx hb nd_M_ledger_32 rfl (zv_at hl 2 rfl) ?_
              refine lv_if_ne (tgt := 45) hx hb nd_M_ledger_33 (by decide) (fun h_33 => ?_) (fun h_33 => ?_)
              · skip
                refine lv_aload_n hx hb nd_M_ledger_45 rfl (zv_at hl 0 rfl) ?_
                refine zm_get hx hb hts hown hK hP 19 (by decide) (hts _ nw_486) rfl nd_M_ledger_46 ?_
                refine lv_iload_n hx hb nd_M_ledger_49 rfl (zv_at hl 1 rfl) ?_
                refine zm_ald_itr hx hb hK hP hc3 nd_M_ledger_50 ?_
                refine zw_lret hx hb hr hlk nd_M_ledger_51 ?_
                unfold zm_ledger
                all_goals (try dsimp only)
                all_goals (try rw [if_pos h_4])
                all_goals (try rw [if_neg h_8])
                all_goals (try rw [if_neg h_13])
                all_goals (try rw [if_neg h_17])
                all_goals (try rw [if_pos h_22])
                all_goals (try rw [if_neg h_29])
                all_goals (try rw [if_neg h_33])
                all_goals rfl
              · skip
                refine lv_aload_n hx hb nd_M_ledger_36 rfl (zv_at hl 0 rfl) ?_
                refine zm_get hx hb hts hown hK hP 18 (by decide) (hts _ nw_485) rfl nd_M_ledger_37 ?_
                refine lv_iload_n hx hb nd_M_ledger_40 rfl (zv_at hl 1 rfl) ?_
                refine zm_ald_csh hx hb hK hP hc3 nd_M_ledger_41 ?_
                refine lv_goto (tgt := 51) hx hb nd_M_ledger_42 (by decide) ?_
                refine zw_lret hx hb hr hlk nd_M_ledger_51 ?_
                unfold zm_ledger
                all_goals (try dsimp only)
                all_goals (try rw [if_pos h_4])
                all_goals (try rw [if_neg h_8])
                all_goals (try rw [if_neg h_13])
                all_goals (try rw [if_neg h_17])
                all_goals (try rw [if_pos h_22])
                all_goals (try rw [if_neg h_29])
                all_goals (try rw [if_pos h_33])
                all_goals rfl
          · skip
            refine lv_lconst (v := 0) hx hb nd_M_ledger_25 (by decide) ?_
            refine zw_lret hx hb hr hlk nd_M_ledger_26 ?_
            unfold zm_ledger
            all_goals (try dsimp only)
            all_goals (try rw [if_pos h_4])
            all_goals (try rw [if_neg h_8])
            all_goals (try rw [if_neg h_13])
            all_goals (try rw [if_neg h_17])
            all_goals (try rw [if_neg h_22])
            all_goals rfl
