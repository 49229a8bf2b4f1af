theorem zm_stands_in {T : zm_S} {x : Int32} (h : ¬ zm_stands T x = 0) : vp_in x 8 := by
  unfold zm_stands at h
  by_cases h1 : x < 0
  · rw [if_pos h1] at h; exact absurd rfl h
  · rw [if_neg h1] at h
    by_cases h2 : 8 ≤ x
    · rw [if_pos h2] at h; exact absurd rfl h
    · obtain ⟨j, hj, rfl⟩ := nI_of h1
      exact vp_in_nI (Nat.lt_of_not_le fun q => h2 (nI_le (a := 8) q hj)) (by decide)
theorem zm_acs_in {T : zm_S} (hI : zm_I T) (h : ¬ zm_acs T = 6) : vp_in (zm_acs T) 6 := by
  obtain ⟨n, hn, en⟩ := hI.1
  have : ¬ n = 6 := fun q => h (by rw [en, q]; rfl)
  rw [en]; exact vp_in_nI (by omega) (by decide)
theorem zm_ors_in {T : zm_S} (hI : zm_I T) (h : ¬ zm_ors T = 6) : vp_in (zm_ors T) 6 := by
  obtain ⟨n, hn, en⟩ := hI.2.1
  have : ¬ n = 6 := fun q => h (by rw [en, q]; rfl)
  rw [en]; exact vp_in_nI (by omega) (by decide)
theorem zm_slot_next {f : Nat → Int32} {n k : Nat} (hn : ¬ n = 0) (h : ¬ f k ≤ 0) : zm_slot f n k = zm_slot f (n - 1) (k + 1) := by
  obtain ⟨j, rfl⟩ : ∃ j, n = j + 1 := ⟨n - 1, by omega⟩
  rw [zm_slot, if_neg h]; rfl
theorem zm_slot_stop {f : Nat → Int32} {n k : Nat} (hn : ¬ n = 0) (h : f k ≤ 0) : zm_slot f n k = k := by
  obtain ⟨j, rfl⟩ : ∃ j, n = j + 1 := ⟨n - 1, by omega⟩
  rw [zm_slot, if_pos h]

set_option maxHeartbeats 4000000 in
set_option maxRecDepth 100000 in
theorem c_M_open (l : Launch) (D : va_G) (G : zh_G) (hG : zw_apart (zm_adr G)) (T : zm_S) (Y : zm_Y) (cu ba li ra : Int32) (hI : zm_I T) : Met l ny_M_open (Cond.code ny_M_open nc_M_open 5 (some .int) :: zw_big) ({ frames := 3, cells := 0, slots := 0, locals := 66 } : Room) (zw_P [.ref (zh_mdl G), .int cu, .int ba, .int li, .int ra] D (zm_tys G) (zm_cells G T Y)) (zm_Qi D G (zm_open T cu ba li ra)) 0 0 (zm_Ad G) := by
  refine Met.ofW (cc := nc_M_open) (maxL := 5) (ret := (some .int)) (by decide) rfl ?_
  intro p e s m args below meth c s₁ B hml hv
  obtain ⟨rfl, hP, hK⟩ := hv
  have hx := B.exec
  have hb := B.bytes
  have hr := B.returns
  have hts0 := atoms_spec (ws := Cond.code ny_M_open nc_M_open 5 (some .int) :: zw_big) B.pre
  have hts : ∀ w ∈ zw_big, w.before [.ref (zh_mdl G), .int cu, .int ba, .int li, .int ra].toArray s = true := fun w h => hts0 w (List.mem_cons_of_mem _ h)
  have hown : s.vm.findClass nR_M = some m.cls := findClass_of_methodNamed B.named
  have hlk := B.notSynchronized
  have hS : va_S (zm_Ad G) s.heap s.heap [] := va_S.rf
  have hl := lv_entry ([.ref (zh_mdl G), .int cu, .int ba, .int li, .int ra]) (n := 5) (Nat.le_of_ble_eq_true rfl)
  rw [lg_entry_eq]
  generalize (lg_sl ([.ref (zh_mdl G), .int cu, .int ba, .int li, .int ra]) ++ List.replicate (5 - (lg_sl ([.ref (zh_mdl G), .int cu, .int ba, .int li, .int ra])).length) Slot.unset).toArray = ls at hl ⊢
  have hl : lv_has ls 5 [(0, .ref (zh_mdl G)), (1, .int cu), (2, .int ba), (3, .int li), (4, .int ra)] := hl
  have hF : CallFix p m c nc_M_open 5 s [.ref (zh_mdl G), .int cu, .int ba, .int li, .int ra].toArray zw_big nR_M := ⟨hx, hb, hml, hown, hts⟩
  refine lv_aload_n hx hb nd_M_open_0 rfl (zv_at hl 0 rfl) ?_
  refine zw_vR (As := []) (rest := _) hF (c_M_shut l D G _ _) (zw_preV hP hK (q0 := 0) (ci := 6) rfl rfl rfl) nk_M_shut nw_565 ⟨rfl, rfl, Nat.le_of_ble_eq_true rfl, Nat.le_of_ble_eq_true rfl⟩ rfl hl.1 rfl (Nat.le_of_ble_eq_true rfl) ⟨Nat.zero_le _, Nat.zero_le _⟩ nd_M_open_1 ?_
  refine lv_if_eq (tgt := 12) hx hb nd_M_open_4 (by decide) (fun h_4 => ?_) (fun h_4 => ?_)
  · skip
    refine lv_iload_n hx hb nd_M_open_12 rfl (zv_at hl 1 rfl) ?_
    refine lv_if_lt (tgt := 53) hx hb nd_M_open_13 (by decide) (fun h_13 => ?_) (fun h_13 => ?_)
    · skip
      refine lv_bipush (v := -3) hx hb nd_M_open_53 (by decide) ?_
      refine zm_iret hx hb hr hlk nd_M_open_55 hP hS ?_
      unfold zm_open
      all_goals (try unfold zm_open2)
      all_goals (try dsimp only)
      all_goals (try rw [if_pos h_4])
      all_goals (try rw [if_pos h_13])
      all_goals rfl
    · skip
      refine lv_iload_n hx hb nd_M_open_16 rfl (zv_at hl 1 rfl) ?_
      refine lv_iconst (v := 2) hx hb nd_M_open_17 (by decide) ?_
      refine lv_icmp_gt (tgt := 53) hx hb nd_M_open_18 (by decide) (fun h_18 => ?_) (fun h_18 => ?_)
      · skip
        refine lv_bipush (v := -3) hx hb nd_M_open_53 (by decide) ?_
        refine zm_iret hx hb hr hlk nd_M_open_55 hP hS ?_
        unfold zm_open
        all_goals (try unfold zm_open2)
        all_goals (try dsimp only)
        all_goals (try rw [if_pos h_4])
        all_goals (try rw [if_neg h_13])
        all_goals (try rw [if_pos h_18])
        all_goals rfl
      · skip
        refine lv_iload_n hx hb nd_M_open_21 rfl (zv_at hl 2 rfl) ?_
        refine lv_if_lt (tgt := 53) hx hb nd_M_open_22 (by decide) (fun h_22 => ?_) (fun h_22 => ?_)
        · skip
          refine lv_bipush (v := -3) hx hb nd_M_open_53 (by decide) ?_
          refine zm_iret hx hb hr hlk nd_M_open_55 hP hS ?_
          unfold zm_open
          all_goals (try unfold zm_open2)
          all_goals (try dsimp only)
          all_goals (try rw [if_pos h_4])
          all_goals (try rw [if_neg h_13])
          all_goals (try rw [if_neg h_18])
          all_goals (try rw [if_pos h_22])
          all_goals rfl
        · skip
          refine lv_iload_n hx hb nd_M_open_25 rfl (zv_at hl 2 rfl) ?_
          refine lv_iconst (v := 2) hx hb nd_M_open_26 (by decide) ?_
          refine lv_icmp_gt (tgt := 53) hx hb nd_M_open_27 (by decide) (fun h_27 => ?_) (fun h_27 => ?_)
          · skip
            refine lv_bipush (v := -3) hx hb nd_M_open_53 (by decide) ?_
            refine zm_iret hx hb hr hlk nd_M_open_55 hP hS ?_
            unfold zm_open
            all_goals (try unfold zm_open2)
            all_goals (try dsimp only)
            all_goals (try rw [if_pos h_4])
            all_goals (try rw [if_neg h_13])
            all_goals (try rw [if_neg h_18])
            all_goals (try rw [if_neg h_22])
            all_goals (try rw [if_pos h_27])
            all_goals rfl
          · skip
            refine lv_iload_n hx hb nd_M_open_30 rfl (zv_at hl 3 rfl) ?_
            refine lv_if_lt (tgt := 53) hx hb nd_M_open_31 (by decide) (fun h_31 => ?_) (fun h_31 => ?_)
            · skip
              refine lv_bipush (v := -3) hx hb nd_M_open_53 (by decide) ?_
              refine zm_iret hx hb hr hlk nd_M_open_55 hP hS ?_
              unfold zm_open
              all_goals (try unfold zm_open2)
              all_goals (try dsimp only)
              all_goals (try rw [if_pos h_4])
              all_goals (try rw [if_neg h_13])
              all_goals (try rw [if_neg h_18])
              all_goals (try rw [if_neg h_22])
              all_goals (try rw [if_neg h_27])
              all_goals (try rw [if_pos h_31])
              all_goals rfl
            · skip
              refine lv_iload_n hx hb nd_M_open_34 rfl (zv_at hl 3 rfl) ?_
              refine lv_ldc (v := 1000000) hx hb hown (hts _ nw_569) nd_M_open_35 ?_
              refine lv_icmp_gt (tgt := 53) hx hb nd_M_open_37 (by decide) (fun h_37 => ?_) (fun h_37 => ?_)
              · skip
                refine lv_bipush (v := -3) hx hb nd_M_open_53 (by decide) ?_
                refine zm_iret hx hb hr hlk nd_M_open_55 hP hS ?_
                unfold zm_open
                all_goals (try unfold zm_open2)
                all_goals (try dsimp only)
                all_goals (try rw [if_pos h_4])
                all_goals (try rw [if_neg h_13])
                all_goals (try rw [if_neg h_18])
                all_goals (try rw [if_neg h_22])
                all_goals (try rw [if_neg h_27])
                all_goals (try rw [if_neg h_31])
                all_goals (try rw [if_pos h_37])
                all_goals rfl
              · skip
                refine lv_iload hx hb nd_M_open_40 (zv_at hl 4 rfl) ?_
                refine lv_if_lt (tgt := 53) hx hb nd_M_open_42 (by decide) (fun h_42 => ?_) (fun h_42 => ?_)
                · skip
                  refine lv_bipush (v := -3) hx hb nd_M_open_53 (by decide) ?_
                  refine zm_iret hx hb hr hlk nd_M_open_55 hP hS ?_
                  unfold zm_open
                  all_goals (try unfold zm_open2)
                  all_goals (try dsimp only)
                  all_goals (try rw [if_pos h_4])
                  all_goals (try rw [if_neg h_13])
                  all_goals (try rw [if_neg h_18])
                  all_goals (try rw [if_neg h_22])
                  all_goals (try rw [if_neg h_27])
                  all_goals (try rw [if_neg h_31])
                  all_goals (try rw [if_neg h_37])
                  all_goals (try rw [if_pos h_42])
                  all_goals rfl
                · skip
                  refine lv_iload hx hb nd_M_open_45 (zv_at hl 4 rfl) ?_
                  refine lv_sipush (v := 1000) hx hb nd_M_open_47 (by decide) ?_
                  refine lv_icmp_le (tgt := 56) hx hb nd_M_open_50 (by decide) (fun h_50 => ?_) (fun h_50 => ?_)
                  · skip
                    refine lv_aload_n hx hb nd_M_open_56 rfl (zv_at hl 0 rfl) ?_
                    refine zm_get hx hb hts hown hK hP 0 (by decide) (hts _ nw_467) rfl nd_M_open_57 ?_
                    refine lv_bipush (v := 6) hx hb nd_M_open_60 (by decide) ?_
                    refine lv_icmp_ne (tgt := 68) hx hb nd_M_open_62 (by decide) (fun h_62 => ?_) (fun h_62 => ?_)
                    · skip
                      have hv6 := zm_acs_in hI h_62
                      refine lv_aload_n hx hb nd_M_open_68 rfl (zv_at hl 0 rfl) ?_
                      refine lv_iconst (v := 1) hx hb nd_M_open_69 (by decide) ?_
                      refine lv_iconst (v := 1) hx hb nd_M_open_70 (by decide) ?_
                      refine lv_aload_n hx hb nd_M_open_71 rfl (zv_at hl 0 rfl) ?_
                      refine zm_get hx hb hts hown hK hP 0 (by decide) (hts _ nw_467) rfl nd_M_open_72 ?_
                      refine lv_ishl hx hb nd_M_open_75 ?_
                      refine zm_vWi (As := [_, _]) (rest := _) hF (c_M_comes l D G hG _ _ _ _) (zw_preV hP hK (q0 := 0) (ci := 6) rfl rfl rfl) nk_M_comes nw_570 ⟨rfl, rfl, Nat.le_of_ble_eq_true rfl, Nat.le_of_ble_eq_true rfl⟩ rfl hl.1 rfl (Nat.le_of_ble_eq_true rfl) ⟨Nat.zero_le _, Nat.zero_le _⟩ nd_M_open_76 hS (fun Y H locs hP hS => ?_)
                      refine lv_if_ne (tgt := 84) hx hb nd_M_open_79 (by decide) (fun h_79 => ?_) (fun h_79 => ?_)
                      · skip
                        refine lv_aload_n hx hb nd_M_open_84 rfl (zv_at hl 0 rfl) ?_
                        refine zm_get hx hb hts hown hK hP 1 (by decide) (hts _ nw_468) rfl nd_M_open_85 ?_
                        refine lv_aload_n hx hb nd_M_open_88 rfl (zv_at hl 0 rfl) ?_
                        refine zm_get hx hb hts hown hK hP 0 (by decide) (hts _ nw_467) rfl nd_M_open_89 ?_
                        refine lv_iload_n hx hb nd_M_open_92 rfl (zv_at hl 1 rfl) ?_
                        refine zm_ast_cur hx hb hK hG hP hS (by exact hv6) nd_M_open_93 (fun H locs hP hS => ?_)
                        refine lv_aload_n hx hb nd_M_open_94 rfl (zv_at hl 0 rfl) ?_
                        refine zm_get hx hb hts hown hK hP 2 (by decide) (hts _ nw_469) rfl nd_M_open_95 ?_
                        refine lv_aload_n hx hb nd_M_open_98 rfl (zv_at hl 0 rfl) ?_
                        refine zm_get hx hb hts hown hK hP 0 (by decide) (hts _ nw_467) rfl nd_M_open_99 ?_
                        refine lv_iload_n hx hb nd_M_open_102 rfl (zv_at hl 2 rfl) ?_
                        refine zm_ast_bas hx hb hK hG hP hS (by exact hv6) nd_M_open_103 (fun H locs hP hS => ?_)
                        refine lv_aload_n hx hb nd_M_open_104 rfl (zv_at hl 0 rfl) ?_
                        refine zm_get hx hb hts hown hK hP 3 (by decide) (hts _ nw_470) rfl nd_M_open_105 ?_
                        refine lv_aload_n hx hb nd_M_open_108 rfl (zv_at hl 0 rfl) ?_
                        refine zm_get hx hb hts hown hK hP 0 (by decide) (hts _ nw_467) rfl nd_M_open_109 ?_
                        refine lv_iload_n hx hb nd_M_open_112 rfl (zv_at hl 3 rfl) ?_
                        refine zm_ast_lim hx hb hK hG hP hS (by exact hv6) nd_M_open_113 (fun H locs hP hS => ?_)
                        refine lv_aload_n hx hb nd_M_open_114 rfl (zv_at hl 0 rfl) ?_
                        refine zm_get hx hb hts hown hK hP 4 (by decide) (hts _ nw_471) rfl nd_M_open_115 ?_
                        refine lv_aload_n hx hb nd_M_open_118 rfl (zv_at hl 0 rfl) ?_
                        refine zm_get hx hb hts hown hK hP 0 (by decide) (hts _ nw_467) rfl nd_M_open_119 ?_
                        refine lv_iload hx hb nd_M_open_122 (zv_at hl 4 rfl) ?_
                        refine zm_ast_rat hx hb hK hG hP hS (by exact hv6) nd_M_open_124 (fun H locs hP hS => ?_)
                        refine lv_aload_n hx hb nd_M_open_125 rfl (zv_at hl 0 rfl) ?_
                        refine zm_get hx hb hts hown hK hP 5 (by decide) (hts _ nw_472) rfl nd_M_open_126 ?_
                        refine lv_aload_n hx hb nd_M_open_129 rfl (zv_at hl 0 rfl) ?_
                        refine zm_get hx hb hts hown hK hP 0 (by decide) (hts _ nw_467) rfl nd_M_open_130 ?_
                        refine lv_aload_n hx hb nd_M_open_133 rfl (zv_at hl 0 rfl) ?_
                        refine zm_get hx hb hts hown hK hP 20 (by decide) (hts _ nw_487) rfl nd_M_open_134 ?_
                        refine lv_iconst (v := 1) hx hb nd_M_open_137 (by decide) ?_
                        refine lv_isub hx hb nd_M_open_138 ?_
                        refine zm_ast_mrk hx hb hK hG hP hS (by exact hv6) nd_M_open_139 (fun H locs hP hS => ?_)
                        refine lv_aload_n hx hb nd_M_open_140 rfl (zv_at hl 0 rfl) ?_
                        refine lv_dup hx hb nd_M_open_141 rfl ?_
                        refine zm_get hx hb hts hown hK hP 0 (by decide) (hts _ nw_467) rfl nd_M_open_142 ?_
                        refine lv_iconst (v := 1) hx hb nd_M_open_145 (by decide) ?_
                        refine lv_iadd hx hb nd_M_open_146 ?_
                        refine zm_put_acs hx hb hts hown hK hG hP hS (hts _ nw_467) nd_M_open_147 (fun H locs hP hS => ?_)
                        refine lv_aload_n hx hb nd_M_open_150 rfl (zv_at hl 0 rfl) ?_
                        refine zm_get hx hb hts hown hK hP 0 (by decide) (hts _ nw_467) rfl nd_M_open_151 ?_
                        refine lv_iconst (v := 1) hx hb nd_M_open_154 (by decide) ?_
                        refine lv_isub hx hb nd_M_open_155 ?_
                        refine zm_iret hx hb hr hlk nd_M_open_156 hP hS ?_
                        unfold zm_open
                        all_goals (try unfold zm_open2)
                        all_goals (try dsimp only)
                        all_goals (try rw [if_pos h_4])
                        all_goals (try rw [if_neg h_13])
                        all_goals (try rw [if_neg h_18])
                        all_goals (try rw [if_neg h_22])
                        all_goals (try rw [if_neg h_27])
                        all_goals (try rw [if_neg h_31])
                        all_goals (try rw [if_neg h_37])
                        all_goals (try rw [if_neg h_42])
                        all_goals (try rw [if_pos h_50])
                        all_goals (try rw [if_neg h_62])
                        all_goals (try rw [if_neg h_79])
                        all_goals rfl
                      · skip
                        refine lv_iconst (v := -1) hx hb nd_M_open_82 (by decide) ?_
                        refine zm_iret hx hb hr hlk nd_M_open_83 hP hS ?_
                        unfold zm_open
                        all_goals (try unfold zm_open2)
                        all_goals (try dsimp only)
                        all_goals (try rw [if_pos h_4])
                        all_goals (try rw [if_neg h_13])
                        all_goals (try rw [if_neg h_18])
                        all_goals (try rw [if_neg h_22])
                        all_goals (try rw [if_neg h_27])
                        all_goals (try rw [if_neg h_31])
                        all_goals (try rw [if_neg h_37])
                        all_goals (try rw [if_neg h_42])
                        all_goals (try rw [if_pos h_50])
                        all_goals (try rw [if_neg h_62])
                        all_goals (try rw [if_pos h_79])
                        all_goals rfl
                    · skip
                      refine lv_bipush (v := -4) hx hb nd_M_open_65 (by decide) ?_
                      refine zm_iret hx hb hr hlk nd_M_open_67 hP hS ?_
                      unfold zm_open
                      all_goals (try unfold zm_open2)
                      all_goals (try dsimp only)
                      all_goals (try rw [if_pos h_4])
                      all_goals (try rw [if_neg h_13])
                      all_goals (try rw [if_neg h_18])
                      all_goals (try rw [if_neg h_22])
                      all_goals (try rw [if_neg h_27])
                      all_goals (try rw [if_neg h_31])
                      all_goals (try rw [if_neg h_37])
                      all_goals (try rw [if_neg h_42])
                      all_goals (try rw [if_pos h_50])
                      all_goals (try rw [if_pos h_62])
                      all_goals rfl
                  · skip
                    refine lv_bipush (v := -3) hx hb nd_M_open_53 (by decide) ?_
                    refine zm_iret hx hb hr hlk nd_M_open_55 hP hS ?_
                    unfold zm_open
                    all_goals (try unfold zm_open2)
                    all_goals (try dsimp only)
                    all_goals (try rw [if_pos h_4])
                    all_goals (try rw [if_neg h_13])
                    all_goals (try rw [if_neg h_18])
                    all_goals (try rw [if_neg h_22])
                    all_goals (try rw [if_neg h_27])
                    all_goals (try rw [if_neg h_31])
                    all_goals (try rw [if_neg h_37])
                    all_goals (try rw [if_neg h_42])
                    all_goals (try rw [if_neg h_50])
                    all_goals rfl
  · skip
    refine lv_aload_n hx hb nd_M_open_7 rfl (zv_at hl 0 rfl) ?_
    refine zw_vR (As := []) (rest := _) hF (c_M_shut l D G _ _) (zw_preV hP hK (q0 := 0) (ci := 6) rfl rfl rfl) nk_M_shut nw_565 ⟨rfl, rfl, Nat.le_of_ble_eq_true rfl, Nat.le_of_ble_eq_true rfl⟩ rfl hl.1 rfl (Nat.le_of_ble_eq_true rfl) ⟨Nat.zero_le _, Nat.zero_le _⟩ nd_M_open_8 ?_
    refine zm_iret hx hb hr hlk nd_M_open_11 hP hS ?_
    unfold zm_open
    all_goals (try unfold zm_open2)
    all_goals (try dsimp only)
    all_goals (try rw [if_neg h_4])
    all_goals rfl

set_option maxHeartbeats 4000000 in
set_option maxRecDepth 100000 in
theorem c_M_pay (l : Launch) (D : va_G) (G : zh_G) (hG : zw_apart (zm_adr G)) (T : zm_S) (Y : zm_Y) (x y a : Int32) (hI : zm_I T) : Met l ny_M_pay (Cond.code ny_M_pay nc_M_pay 4 (some .int) :: zw_big) ({ frames := 3, cells := 0, slots := 0, locals := 66 } : Room) (zw_P [.ref (zh_mdl G), .int x, .int y, .int a] D (zm_tys G) (zm_cells G T Y)) (zm_Qi D G (zm_pay T x y a)) 0 0 (zm_Ad G) := by
  refine Met.ofW (cc := nc_M_pay) (maxL := 4) (ret := (some .int)) (by decide) rfl ?_
  intro p e s m args below meth c s₁ B hml hv
  obtain ⟨rfl, hP, hK⟩ := hv
  have hx := B.exec
  have hb := B.bytes
  have hr := B.returns
  have hts0 := atoms_spec (ws := Cond.code ny_M_pay nc_M_pay 4 (some .int) :: zw_big) B.pre
  have hts : ∀ w ∈ zw_big, w.before [.ref (zh_mdl G), .int x, .int y, .int a].toArray s = true := fun w h => hts0 w (List.mem_cons_of_mem _ h)
  have hown : s.vm.findClass nR_M = some m.cls := findClass_of_methodNamed B.named
  have hlk := B.notSynchronized
  have hS : va_S (zm_Ad G) s.heap s.heap [] := va_S.rf
  have hl := lv_entry ([.ref (zh_mdl G), .int x, .int y, .int a]) (n := 4) (Nat.le_of_ble_eq_true rfl)
  rw [lg_entry_eq]
  generalize (lg_sl ([.ref (zh_mdl G), .int x, .int y, .int a]) ++ List.replicate (4 - (lg_sl ([.ref (zh_mdl G), .int x, .int y, .int a])).length) Slot.unset).toArray = ls at hl ⊢
  have hl : lv_has ls 4 [(0, .ref (zh_mdl G)), (1, .int x), (2, .int y), (3, .int a)] := hl
  have hF : CallFix p m c nc_M_pay 4 s [.ref (zh_mdl G), .int x, .int y, .int a].toArray zw_big nR_M := ⟨hx, hb, hml, hown, hts⟩
  refine lv_aload_n hx hb nd_M_pay_0 rfl (zv_at hl 0 rfl) ?_
  refine zw_vR (As := []) (rest := _) hF (c_M_shut l D G _ _) (zw_preV hP hK (q0 := 0) (ci := 6) rfl rfl rfl) nk_M_shut nw_565 ⟨rfl, rfl, Nat.le_of_ble_eq_true rfl, Nat.le_of_ble_eq_true rfl⟩ rfl hl.1 rfl (Nat.le_of_ble_eq_true rfl) ⟨Nat.zero_le _, Nat.zero_le _⟩ nd_M_pay_1 ?_
  refine lv_if_eq (tgt := 12) hx hb nd_M_pay_4 (by decide) (fun h_4 => ?_) (fun h_4 => ?_)
  · skip
    refine lv_aload_n hx hb nd_M_pay_12 rfl (zv_at hl 0 rfl) ?_
    refine lv_iload_n hx hb nd_M_pay_13 rfl (zv_at hl 1 rfl) ?_
    refine lv_iload_n hx hb nd_M_pay_14 rfl (zv_at hl 2 rfl) ?_
    refine zw_vR (As := [_, _]) (rest := _) hF (c_M_pair l D G _ _ _ _ (by exact hI)) (zw_preV hP hK (q0 := 0) (ci := 6) rfl rfl rfl) nk_M_pair nw_586 ⟨rfl, rfl, Nat.le_of_ble_eq_true rfl, Nat.le_of_ble_eq_true rfl⟩ rfl hl.1 rfl (Nat.le_of_ble_eq_true rfl) ⟨Nat.zero_le _, Nat.zero_le _⟩ nd_M_pay_15 ?_
    refine lv_if_eq (tgt := 29) hx hb nd_M_pay_18 (by decide) (fun h_18 => ?_) (fun h_18 => ?_)
    · skip
      refine lv_bipush (v := -3) hx hb nd_M_pay_29 (by decide) ?_
      refine zm_iret hx hb hr hlk nd_M_pay_31 hP hS ?_
      unfold zm_pay
      all_goals (try unfold zm_pay2)
      all_goals (try dsimp only)
      all_goals (try rw [if_pos h_4])
      all_goals (try rw [if_pos h_18])
      all_goals rfl
    · skip
      obtain ⟨hkx, hky, hne⟩ := zm_known_spec hI (zm_pair_known h_18)
      refine lv_aload_n hx hb nd_M_pay_21 rfl (zv_at hl 0 rfl) ?_
      refine lv_iload_n hx hb nd_M_pay_22 rfl (zv_at hl 3 rfl) ?_
      refine zw_vR (As := [_]) (rest := _) hF (c_M_amountOk l D G _ _ _) (zw_preV hP hK (q0 := 0) (ci := 6) rfl rfl rfl) nk_M_amountOk nw_594 ⟨rfl, rfl, Nat.le_of_ble_eq_true rfl, Nat.le_of_ble_eq_true rfl⟩ rfl hl.1 rfl (Nat.le_of_ble_eq_true rfl) ⟨Nat.zero_le _, Nat.zero_le _⟩ nd_M_pay_23 ?_
      refine lv_if_ne (tgt := 32) hx hb nd_M_pay_26 (by decide) (fun h_26 => ?_) (fun h_26 => ?_)
      · skip
        refine lv_iload_n hx hb nd_M_pay_32 rfl (zv_at hl 1 rfl) ?_
        refine lv_if_lt (tgt := 50) hx hb nd_M_pay_33 (by decide) (fun h_33 => ?_) (fun h_33 => ?_)
        · skip
          refine lv_aload_n hx hb nd_M_pay_50 rfl (zv_at hl 0 rfl) ?_
          refine lv_aload_n hx hb nd_M_pay_51 rfl (zv_at hl 0 rfl) ?_
          refine lv_iload_n hx hb nd_M_pay_52 rfl (zv_at hl 1 rfl) ?_
          refine lv_iload_n hx hb nd_M_pay_53 rfl (zv_at hl 2 rfl) ?_
          refine zw_vR (As := [_, _]) (rest := _) hF (c_M_linesOf l D G _ _ _ _) (zw_preV hP hK (q0 := 0) (ci := 6) rfl rfl rfl) nk_M_linesOf nw_602 ⟨rfl, rfl, Nat.le_of_ble_eq_true rfl, Nat.le_of_ble_eq_true rfl⟩ rfl hl.1 rfl (Nat.le_of_ble_eq_true rfl) ⟨Nat.zero_le _, Nat.zero_le _⟩ nd_M_pay_54 ?_
          refine lv_aload_n hx hb nd_M_pay_57 rfl (zv_at hl 0 rfl) ?_
          refine lv_iload_n hx hb nd_M_pay_58 rfl (zv_at hl 1 rfl) ?_
          refine lv_iload_n hx hb nd_M_pay_59 rfl (zv_at hl 2 rfl) ?_
          refine zw_vR (As := [_, _]) (rest := _) hF (c_M_setOf l D G _ _ _ _) (zw_preV hP hK (q0 := 0) (ci := 6) rfl rfl rfl) nk_M_setOf nw_606 ⟨rfl, rfl, Nat.le_of_ble_eq_true rfl, Nat.le_of_ble_eq_true rfl⟩ rfl hl.1 rfl (Nat.le_of_ble_eq_true rfl) ⟨Nat.zero_le _, Nat.zero_le _⟩ nd_M_pay_60 ?_
          refine zm_vWi (As := [_, _]) (rest := _) hF (c_M_comes l D G hG _ _ _ _) (zw_preV hP hK (q0 := 0) (ci := 6) rfl rfl rfl) nk_M_comes nw_570 ⟨rfl, rfl, Nat.le_of_ble_eq_true rfl, Nat.le_of_ble_eq_true rfl⟩ rfl hl.1 rfl (Nat.le_of_ble_eq_true rfl) ⟨Nat.zero_le _, Nat.zero_le _⟩ nd_M_pay_63 hS (fun Y H locs hP hS => ?_)
          refine lv_if_ne (tgt := 71) hx hb nd_M_pay_66 (by decide) (fun h_66 => ?_) (fun h_66 => ?_)
          · skip
            refine lv_aload_n hx hb nd_M_pay_71 rfl (zv_at hl 0 rfl) ?_
            refine lv_iload_n hx hb nd_M_pay_72 rfl (zv_at hl 1 rfl) ?_
            refine lv_iload_n hx hb nd_M_pay_73 rfl (zv_at hl 2 rfl) ?_
            refine lv_iload_n hx hb nd_M_pay_74 rfl (zv_at hl 3 rfl) ?_
            refine zm_vWv (As := [_, _, _]) (rest := _) hF (c_M_transfer l D G hG _ _ _ _ _ (by exact hI) (by assumption) (by assumption) (by assumption)) (zw_preV hP hK (q0 := 0) (ci := 6) rfl rfl rfl) nk_M_transfer nw_610 ⟨rfl, rfl, Nat.le_of_ble_eq_true rfl, Nat.le_of_ble_eq_true rfl⟩ rfl hl.1 rfl (Nat.le_of_ble_eq_true rfl) ⟨Nat.zero_le _, Nat.zero_le _⟩ nd_M_pay_75 hS (fun Y H locs hP hS => ?_)
            refine lv_iconst (v := 0) hx hb nd_M_pay_78 (by decide) ?_
            refine zm_iret hx hb hr hlk nd_M_pay_79 hP hS ?_
            unfold zm_pay
            all_goals (try unfold zm_pay2)
            all_goals (try dsimp only)
            all_goals (try rw [if_pos h_4])
            all_goals (try rw [if_neg h_18])
            all_goals (try rw [if_neg h_26])
            all_goals (try rw [if_pos h_33])
            all_goals (try rw [if_neg h_66])
            all_goals rfl
          · skip
            refine lv_iconst (v := -1) hx hb nd_M_pay_69 (by decide) ?_
            refine zm_iret hx hb hr hlk nd_M_pay_70 hP hS ?_
            unfold zm_pay
            all_goals (try unfold zm_pay2)
            all_goals (try dsimp only)
            all_goals (try rw [if_pos h_4])
            all_goals (try rw [if_neg h_18])
            all_goals (try rw [if_neg h_26])
            all_goals (try rw [if_pos h_33])
            all_goals (try rw [if_pos h_66])
            all_goals rfl
        · skip
          have hx6 : vp_in x 6 := zm_in_of (hkx.resolve_left (fun q => h_33 (by rw [q]; decide)))
          refine lv_aload_n hx hb nd_M_pay_36 rfl (zv_at hl 0 rfl) ?_
          refine lv_iload_n hx hb nd_M_pay_37 rfl (zv_at hl 1 rfl) ?_
          refine zw_vR (As := [_]) (rest := _) hF (c_M_free l D G _ _ _ (by assumption)) (zw_preV hP hK (q0 := 0) (ci := 6) rfl rfl rfl) nk_M_free nw_598 ⟨rfl, rfl, Nat.le_of_ble_eq_true rfl, Nat.le_of_ble_eq_true rfl⟩ rfl hl.1 rfl (Nat.le_of_ble_eq_true rfl) ⟨Nat.zero_le _, Nat.zero_le _⟩ nd_M_pay_38 ?_
          refine lv_iload_n hx hb nd_M_pay_41 rfl (zv_at hl 3 rfl) ?_
          refine lv_i2l (v := _) hx hb nd_M_pay_42 rfl ?_
          refine W.lcmp hx hb nd_M_pay_43 ?_
          refine lv_if_ge (tgt := 50) hx hb nd_M_pay_44 (by decide) (fun h_44 => ?_) (fun h_44 => ?_)
          · skip
            have h_44 := (lg_cmp_ge _ _).mp h_44
            refine lv_aload_n hx hb nd_M_pay_50 rfl (zv_at hl 0 rfl) ?_
            refine lv_aload_n hx hb nd_M_pay_51 rfl (zv_at hl 0 rfl) ?_
            refine lv_iload_n hx hb nd_M_pay_52 rfl (zv_at hl 1 rfl) ?_
            refine lv_iload_n hx hb nd_M_pay_53 rfl (zv_at hl 2 rfl) ?_
            refine zw_vR (As := [_, _]) (rest := _) hF (c_M_linesOf l D G _ _ _ _) (zw_preV hP hK (q0 := 0) (ci := 6) rfl rfl rfl) nk_M_linesOf nw_602 ⟨rfl, rfl, Nat.le_of_ble_eq_true rfl, Nat.le_of_ble_eq_true rfl⟩ rfl hl.1 rfl (Nat.le_of_ble_eq_true rfl) ⟨Nat.zero_le _, Nat.zero_le _⟩ nd_M_pay_54 ?_
            refine lv_aload_n hx hb nd_M_pay_57 rfl (zv_at hl 0 rfl) ?_
            refine lv_iload_n hx hb nd_M_pay_58 rfl (zv_at hl 1 rfl) ?_
            refine lv_iload_n hx hb nd_M_pay_59 rfl (zv_at hl 2 rfl) ?_
            refine zw_vR (As := [_, _]) (rest := _) hF (c_M_setOf l D G _ _ _ _) (zw_preV hP hK (q0 := 0) (ci := 6) rfl rfl rfl) nk_M_setOf nw_606 ⟨rfl, rfl, Nat.le_of_ble_eq_true rfl, Nat.le_of_ble_eq_true rfl⟩ rfl hl.1 rfl (Nat.le_of_ble_eq_true rfl) ⟨Nat.zero_le _, Nat.zero_le _⟩ nd_M_pay_60 ?_
            refine zm_vWi (As := [_, _]) (rest := _) hF (c_M_comes l D G hG _ _ _ _) (zw_preV hP hK (q0 := 0) (ci := 6) rfl rfl rfl) nk_M_comes nw_570 ⟨rfl, rfl, Nat.le_of_ble_eq_true rfl, Nat.le_of_ble_eq_true rfl⟩ rfl hl.1 rfl (Nat.le_of_ble_eq_true rfl) ⟨Nat.zero_le _, Nat.zero_le _⟩ nd_M_pay_63 hS (fun Y H locs hP hS => ?_)
            refine lv_if_ne (tgt := 71) hx hb nd_M_pay_66 (by decide) (fun h_66 => ?_) (fun h_66 => ?_)
            · skip
              refine lv_aload_n hx hb nd_M_pay_71 rfl (zv_at hl 0 rfl) ?_
              refine lv_iload_n hx hb nd_M_pay_72 rfl (zv_at hl 1 rfl) ?_
              refine lv_iload_n hx hb nd_M_pay_73 rfl (zv_at hl 2 rfl) ?_
              refine lv_iload_n hx hb nd_M_pay_74 rfl (zv_at hl 3 rfl) ?_
              refine zm_vWv (As := [_, _, _]) (rest := _) hF (c_M_transfer l D G hG _ _ _ _ _ (by exact hI) (by assumption) (by assumption) (by assumption)) (zw_preV hP hK (q0 := 0) (ci := 6) rfl rfl rfl) nk_M_transfer nw_610 ⟨rfl, rfl, Nat.le_of_ble_eq_true rfl, Nat.le_of_ble_eq_true rfl⟩ rfl hl.1 rfl (Nat.le_of_ble_eq_true rfl) ⟨Nat.zero_le _, Nat.zero_le _⟩ nd_M_pay_75 hS (fun Y H locs hP hS => ?_)
              refine lv_iconst (v := 0) hx hb nd_M_pay_78 (by decide) ?_
              refine zm_iret hx hb hr hlk nd_M_pay_79 hP hS ?_
              unfold zm_pay
              all_goals (try unfold zm_pay2)
              all_goals (try dsimp only)
              all_goals (try rw [if_pos h_4])
              all_goals (try rw [if_neg h_18])
              all_goals (try rw [if_neg h_26])
              all_goals (try rw [if_neg h_33])
              all_goals (try rw [if_pos h_44])
              all_goals (try rw [if_neg h_66])
              all_goals rfl
            · skip
              refine lv_iconst (v := -1) hx hb nd_M_pay_69 (by decide) ?_
              refine zm_iret hx hb hr hlk nd_M_pay_70 hP hS ?_
              unfold zm_pay
              all_goals (try unfold zm_pay2)
              all_goals (try dsimp only)
              all_goals (try rw [if_pos h_4])
              all_goals (try rw [if_neg h_18])
              all_goals (try rw [if_neg h_26])
              all_goals (try rw [if_neg h_33])
              all_goals (try rw [if_pos h_44])
              all_goals (try rw [if_pos h_66])
              all_goals rfl
          · skip
            have h_44 := (show ¬ _ from fun q => h_44 ((lg_cmp_ge _ _).mpr q))
            refine lv_bipush (v := -5) hx hb nd_M_pay_47 (by decide) ?_
            refine zm_iret hx hb hr hlk nd_M_pay_49 hP hS ?_
            unfold zm_pay
            all_goals (try unfold zm_pay2)
            all_goals (try dsimp only)
            all_goals (try rw [if_pos h_4])
            all_goals (try rw [if_neg h_18])
            all_goals (try rw [if_neg h_26])
            all_goals (try rw [if_neg h_33])
            all_goals (try rw [if_neg h_44])
            all_goals rfl
      · skip
        refine lv_bipush (v := -3) hx hb nd_M_pay_29 (by decide) ?_
        refine zm_iret hx hb hr hlk nd_M_pay_31 hP hS ?_
        unfold zm_pay
        all_goals (try unfold zm_pay2)
        all_goals (try dsimp only)
        all_goals (try rw [if_pos h_4])
        all_goals (try rw [if_neg h_18])
        all_goals (try rw [if_pos h_26])
        all_goals rfl
  · skip
    refine lv_aload_n hx hb nd_M_pay_7 rfl (zv_at hl 0 rfl) ?_
    refine zw_vR (As := []) (rest := _) hF (c_M_shut l D G _ _) (zw_preV hP hK (q0 := 0) (ci := 6) rfl rfl rfl) nk_M_shut nw_565 ⟨rfl, rfl, Nat.le_of_ble_eq_true rfl, Nat.le_of_ble_eq_true rfl⟩ rfl hl.1 rfl (Nat.le_of_ble_eq_true rfl) ⟨Nat.zero_le _, Nat.zero_le _⟩ nd_M_pay_8 ?_
    refine zm_iret hx hb hr hlk nd_M_pay_11 hP hS ?_
    unfold zm_pay
    all_goals (try unfold zm_pay2)
    all_goals (try dsimp only)
    all_goals (try rw [if_neg h_4])
    all_goals rfl

set_option maxHeartbeats 4000000 in
set_option maxRecDepth 100000 in
theorem c_M_hold (l : Launch) (D : va_G) (G : zh_G) (hG : zw_apart (zm_adr G)) (T : zm_S) (Y : zm_Y) (x a : Int32) (hI : zm_I T) : Met l ny_M_hold (Cond.code ny_M_hold nc_M_hold 4 (some .int) :: zw_big) ({ frames := 3, cells := 0, slots := 0, locals := 66 } : Room) (zw_P [.ref (zh_mdl G), .int x, .int a] D (zm_tys G) (zm_cells G T Y)) (zm_Qi D G (zm_hold T x a)) 0 0 (zm_Ad G) := by
  refine Met.ofW (cc := nc_M_hold) (maxL := 4) (ret := (some .int)) (by decide) rfl ?_
  intro p e s m args below meth c s₁ B hml hv
  obtain ⟨rfl, hP, hK⟩ := hv
  have hx := B.exec
  have hb := B.bytes
  have hr := B.returns
  have hts0 := atoms_spec (ws := Cond.code ny_M_hold nc_M_hold 4 (some .int) :: zw_big) B.pre
  have hts : ∀ w ∈ zw_big, w.before [.ref (zh_mdl G), .int x, .int a].toArray s = true := fun w h => hts0 w (List.mem_cons_of_mem _ h)
  have hown : s.vm.findClass nR_M = some m.cls := findClass_of_methodNamed B.named
  have hlk := B.notSynchronized
  have hS : va_S (zm_Ad G) s.heap s.heap [] := va_S.rf
  have hl := lv_entry ([.ref (zh_mdl G), .int x, .int a]) (n := 4) (Nat.le_of_ble_eq_true rfl)
  rw [lg_entry_eq]
  generalize (lg_sl ([.ref (zh_mdl G), .int x, .int a]) ++ List.replicate (4 - (lg_sl ([.ref (zh_mdl G), .int x, .int a])).length) Slot.unset).toArray = ls at hl ⊢
  have hl : lv_has ls 4 [(0, .ref (zh_mdl G)), (1, .int x), (2, .int a)] := hl
  have hF : CallFix p m c nc_M_hold 4 s [.ref (zh_mdl G), .int x, .int a].toArray zw_big nR_M := ⟨hx, hb, hml, hown, hts⟩
  refine lv_aload_n hx hb nd_M_hold_0 rfl (zv_at hl 0 rfl) ?_
  refine zw_vR (As := []) (rest := _) hF (c_M_shut l D G _ _) (zw_preV hP hK (q0 := 0) (ci := 6) rfl rfl rfl) nk_M_shut nw_565 ⟨rfl, rfl, Nat.le_of_ble_eq_true rfl, Nat.le_of_ble_eq_true rfl⟩ rfl hl.1 rfl (Nat.le_of_ble_eq_true rfl) ⟨Nat.zero_le _, Nat.zero_le _⟩ nd_M_hold_1 ?_
  refine lv_if_eq (tgt := 12) hx hb nd_M_hold_4 (by decide) (fun h_4 => ?_) (fun h_4 => ?_)
  · skip
    refine lv_aload_n hx hb nd_M_hold_12 rfl (zv_at hl 0 rfl) ?_
    refine lv_iload_n hx hb nd_M_hold_13 rfl (zv_at hl 1 rfl) ?_
    refine zw_vR (As := [_]) (rest := _) hF (c_M_is l D G _ _ _) (zw_preV hP hK (q0 := 0) (ci := 6) rfl rfl rfl) nk_M_is nw_590 ⟨rfl, rfl, Nat.le_of_ble_eq_true rfl, Nat.le_of_ble_eq_true rfl⟩ rfl hl.1 rfl (Nat.le_of_ble_eq_true rfl) ⟨Nat.zero_le _, Nat.zero_le _⟩ nd_M_hold_14 ?_
    refine lv_if_eq (tgt := 28) hx hb nd_M_hold_17 (by decide) (fun h_17 => ?_) (fun h_17 => ?_)
    · skip
      refine lv_bipush (v := -3) hx hb nd_M_hold_28 (by decide) ?_
      refine zm_iret hx hb hr hlk nd_M_hold_30 hP hS ?_
      unfold zm_hold
      rw [if_pos h_4, if_pos h_17]
    · skip
      have hx6 : vp_in x 6 := zm_in_of (zm_is_nat hI h_17)
      refine lv_aload_n hx hb nd_M_hold_20 rfl (zv_at hl 0 rfl) ?_
      refine lv_iload_n hx hb nd_M_hold_21 rfl (zv_at hl 2 rfl) ?_
      refine zw_vR (As := [_]) (rest := _) hF (c_M_amountOk l D G _ _ _) (zw_preV hP hK (q0 := 0) (ci := 6) rfl rfl rfl) nk_M_amountOk nw_594 ⟨rfl, rfl, Nat.le_of_ble_eq_true rfl, Nat.le_of_ble_eq_true rfl⟩ rfl hl.1 rfl (Nat.le_of_ble_eq_true rfl) ⟨Nat.zero_le _, Nat.zero_le _⟩ nd_M_hold_22 ?_
      refine lv_if_ne (tgt := 31) hx hb nd_M_hold_25 (by decide) (fun h_25 => ?_) (fun h_25 => ?_)
      · skip
        refine lv_iconst (v := 0) hx hb nd_M_hold_31 (by decide) ?_
        refine lv_istore_n hx hb nd_M_hold_32 rfl hl (by decide) rfl (fun ls hl => ?_)
        refine zw_loop (σ := Nat) (fun n k H locs ls => H = s.heap ∧ locs = [] ∧ k + n = 8 ∧ zm_slot (zm_ham T) 8 0 = zm_slot (zm_ham T) n k ∧ lv_has ls 4 [(0, .ref (zh_mdl G)), (1, .int x), (2, .int a), (3, .int (nI k))]) ?_ 8 0 ⟨rfl, rfl, by omega, rfl, zv_sub hl (by intro q hq; simp only [List.mem_cons, List.not_mem_nil, or_false] at hq; rcases hq with rfl | rfl | rfl | rfl <;> rfl)⟩
        intro n k H locs ls hI9 ih
        obtain ⟨hH, hL, hik, hE, hl⟩ := hI9
        subst hH
        subst hL
        refine lv_iload_n hx hb nd_M_hold_33 rfl (zv_at hl 3 rfl) ?_
        refine lv_bipush (v := 8) hx hb nd_M_hold_34 (by decide) ?_
        refine lv_icmp_ge (tgt := 54) hx hb nd_M_hold_36 (by decide) (fun h_36 => ?_) (fun h_36 => ?_)
        · skip
          have hn0 : n = 0 ∧ k = 8 := by
            have := (nI_leI (a := 8) (b := k) (by omega) (by omega)).mp h_36
            omega
          obtain ⟨rfl, rfl⟩ := hn0
          have hk : zm_slot (zm_ham T) 8 0 = 8 := hE
          refine lv_iload_n hx hb nd_M_hold_54 rfl (zv_at hl 3 rfl) ?_
          refine lv_bipush (v := 8) hx hb nd_M_hold_55 (by decide) ?_
          refine lv_icmp_ne (tgt := 63) hx hb nd_M_hold_57 (by decide) (fun h_57 => ?_) (fun h_57 => ?_)
          · skip
            exact absurd rfl h_57 --done
          · skip
            refine lv_bipush (v := -4) hx hb nd_M_hold_60 (by decide) ?_
            refine zm_iret hx hb hr hlk nd_M_hold_62 hP hS ?_
            unfold zm_hold
            rw [if_pos h_4, if_neg h_17, if_neg h_25]
            unfold zm_hold2
            all_goals (try dsimp only)
            rw [hk]
            rw [if_pos h_57]
            all_goals rfl
        · skip
          have hk8 : k < 8 := Nat.lt_of_not_le fun q => h_36 (nI_le (a := 8) q (by omega))
          refine lv_aload_n hx hb nd_M_hold_39 rfl (zv_at hl 0 rfl) ?_
          refine zm_get hx hb hts hown hK hP 9 (by decide) (hts _ nw_476) rfl nd_M_hold_40 ?_
          refine lv_iload_n hx hb nd_M_hold_43 rfl (zv_at hl 3 rfl) ?_
          refine zm_aldN_ham hx hb hK hP hk8 nd_M_hold_44 ?_
          refine lv_if_le (tgt := 54) hx hb nd_M_hold_45 (by decide) (fun h_45 => ?_) (fun h_45 => ?_)
          · skip
            have hk : zm_slot (zm_ham T) 8 0 = k := hE.trans (zm_slot_stop (by omega) h_45)
            refine lv_iload_n hx hb nd_M_hold_54 rfl (zv_at hl 3 rfl) ?_
            refine lv_bipush (v := 8) hx hb nd_M_hold_55 (by decide) ?_
            refine lv_icmp_ne (tgt := 63) hx hb nd_M_hold_57 (by decide) (fun h_57 => ?_) (fun h_57 => ?_)
            · skip
              refine lv_aload_n hx hb nd_M_hold_63 rfl (zv_at hl 0 rfl) ?_
              refine lv_iload_n hx hb nd_M_hold_64 rfl (zv_at hl 1 rfl) ?_
              refine zw_vR (As := [_]) (rest := _) hF (c_M_free l D G _ _ _ (by assumption)) (zw_preV hP hK (q0 := 0) (ci := 6) rfl rfl rfl) nk_M_free nw_598 ⟨rfl, rfl, Nat.le_of_ble_eq_true rfl, Nat.le_of_ble_eq_true rfl⟩ rfl hl.1 rfl (Nat.le_of_ble_eq_true rfl) ⟨Nat.zero_le _, Nat.zero_le _⟩ nd_M_hold_65 ?_
              refine lv_iload_n hx hb nd_M_hold_68 rfl (zv_at hl 2 rfl) ?_
              refine lv_i2l (v := _) hx hb nd_M_hold_69 rfl ?_
              refine W.lcmp hx hb nd_M_hold_70 ?_
              refine lv_if_ge (tgt := 77) hx hb nd_M_hold_71 (by decide) (fun h_71 => ?_) (fun h_71 => ?_)
              · skip
                have h_71 := (lg_cmp_ge _ _).mp h_71
                refine lv_aload_n hx hb nd_M_hold_77 rfl (zv_at hl 0 rfl) ?_
                refine lv_iconst (v := 1) hx hb nd_M_hold_78 (by decide) ?_
                refine lv_iconst (v := 1) hx hb nd_M_hold_79 (by decide) ?_
                refine lv_iload_n hx hb nd_M_hold_80 rfl (zv_at hl 1 rfl) ?_
                refine lv_ishl hx hb nd_M_hold_81 ?_
                refine zm_vWi (As := [_, _]) (rest := _) hF (c_M_comes l D G hG _ _ _ _) (zw_preV hP hK (q0 := 0) (ci := 6) rfl rfl rfl) nk_M_comes nw_570 ⟨rfl, rfl, Nat.le_of_ble_eq_true rfl, Nat.le_of_ble_eq_true rfl⟩ rfl hl.1 rfl (Nat.le_of_ble_eq_true rfl) ⟨Nat.zero_le _, Nat.zero_le _⟩ nd_M_hold_82 hS (fun Y H locs hP hS => ?_)
                refine lv_if_ne (tgt := 90) hx hb nd_M_hold_85 (by decide) (fun h_85 => ?_) (fun h_85 => ?_)
                · skip
                  refine lv_aload_n hx hb nd_M_hold_90 rfl (zv_at hl 0 rfl) ?_
                  refine zm_get hx hb hts hown hK hP 8 (by decide) (hts _ nw_475) rfl nd_M_hold_91 ?_
                  refine lv_iload_n hx hb nd_M_hold_94 rfl (zv_at hl 3 rfl) ?_
                  refine lv_iload_n hx hb nd_M_hold_95 rfl (zv_at hl 1 rfl) ?_
                  refine zm_astN_hof hx hb hK hG hP hS hk8 nd_M_hold_96 (fun H locs hP hS => ?_)
                  refine lv_aload_n hx hb nd_M_hold_97 rfl (zv_at hl 0 rfl) ?_
                  refine zm_get hx hb hts hown hK hP 9 (by decide) (hts _ nw_476) rfl nd_M_hold_98 ?_
                  refine lv_iload_n hx hb nd_M_hold_101 rfl (zv_at hl 3 rfl) ?_
                  refine lv_iload_n hx hb nd_M_hold_102 rfl (zv_at hl 2 rfl) ?_
                  refine zm_astN_ham hx hb hK hG hP hS hk8 nd_M_hold_103 (fun H locs hP hS => ?_)
                  refine lv_iload_n hx hb nd_M_hold_104 rfl (zv_at hl 3 rfl) ?_
                  refine zm_iret hx hb hr hlk nd_M_hold_105 hP hS ?_
                  unfold zm_hold
                  rw [if_pos h_4, if_neg h_17, if_neg h_25]
                  unfold zm_hold2
                  all_goals (try dsimp only)
                  rw [hk]
                  rw [if_neg h_57]
                  rw [if_pos h_71]
                  rw [if_neg h_85]
                  all_goals rfl
                · skip
                  refine lv_iconst (v := -1) hx hb nd_M_hold_88 (by decide) ?_
                  refine zm_iret hx hb hr hlk nd_M_hold_89 hP hS ?_
                  unfold zm_hold
                  rw [if_pos h_4, if_neg h_17, if_neg h_25]
                  unfold zm_hold2
                  all_goals (try dsimp only)
                  rw [hk]
                  rw [if_neg h_57]
                  rw [if_pos h_71]
                  rw [if_pos h_85]
                  all_goals rfl
              · skip
                have h_71 := (show ¬ _ from fun q => h_71 ((lg_cmp_ge _ _).mpr q))
                refine lv_bipush (v := -5) hx hb nd_M_hold_74 (by decide) ?_
                refine zm_iret hx hb hr hlk nd_M_hold_76 hP hS ?_
                unfold zm_hold
                rw [if_pos h_4, if_neg h_17, if_neg h_25]
                unfold zm_hold2
                all_goals (try dsimp only)
                rw [hk]
                rw [if_neg h_57]
                rw [if_neg h_71]
                all_goals rfl
            · skip
              refine lv_bipush (v := -4) hx hb nd_M_hold_60 (by decide) ?_
              refine zm_iret hx hb hr hlk nd_M_hold_62 hP hS ?_
              unfold zm_hold
              rw [if_pos h_4, if_neg h_17, if_neg h_25]
              unfold zm_hold2
              all_goals (try dsimp only)
              rw [hk]
              rw [if_pos h_57]
              all_goals rfl
          · skip
            refine zv_iinc (v := nI (k + 1)) hx hb nd_M_hold_48 hl rfl ((nI_succ k).symm) (by decide) rfl (fun ls hl => ?_)
            refine lv_goto (tgt := 33) hx hb nd_M_hold_51 (by decide) ?_
            exact ih (n - 1) (k + 1) _ _ _ (by omega) ⟨rfl, rfl, by omega, hE.trans (zm_slot_next (by omega) h_45), zv_sub hl (by intro q hq; simp only [List.mem_cons, List.not_mem_nil, or_false] at hq; rcases hq with rfl | rfl | rfl | rfl <;> rfl)⟩
      · skip
        refine lv_bipush (v := -3) hx hb nd_M_hold_28 (by decide) ?_
        refine zm_iret hx hb hr hlk nd_M_hold_30 hP hS ?_
        unfold zm_hold
        rw [if_pos h_4, if_neg h_17, if_pos h_25]
  · skip
    refine lv_aload_n hx hb nd_M_hold_7 rfl (zv_at hl 0 rfl) ?_
    refine zw_vR (As := []) (rest := _) hF (c_M_shut l D G _ _) (zw_preV hP hK (q0 := 0) (ci := 6) rfl rfl rfl) nk_M_shut nw_565 ⟨rfl, rfl, Nat.le_of_ble_eq_true rfl, Nat.le_of_ble_eq_true rfl⟩ rfl hl.1 rfl (Nat.le_of_ble_eq_true rfl) ⟨Nat.zero_le _, Nat.zero_le _⟩ nd_M_hold_8 ?_
    refine zm_iret hx hb hr hlk nd_M_hold_11 hP hS ?_
    unfold zm_hold
    rw [if_neg h_4]

set_option maxHeartbeats 4000000 in
set_option maxRecDepth 100000 in
theorem c_M_release (l : Launch) (D : va_G) (G : zh_G) (hG : zw_apart (zm_adr G)) (T : zm_S) (Y : zm_Y) (x : Int32) : Met l ny_M_release (Cond.code ny_M_release nc_M_release 2 (some .int) :: zw_big) ({ frames := 3, cells := 0, slots := 0, locals := 66 } : Room) (zw_P [.ref (zh_mdl G), .int x] D (zm_tys G) (zm_cells G T Y)) (zm_Qi D G (zm_release T x)) 0 0 (zm_Ad G) := by
  refine Met.ofW (cc := nc_M_release) (maxL := 2) (ret := (some .int)) (by decide) rfl ?_
  intro p e s m args below meth c s₁ B hml hv
  obtain ⟨rfl, hP, hK⟩ := hv
  have hx := B.exec
  have hb := B.bytes
  have hr := B.returns
  have hts0 := atoms_spec (ws := Cond.code ny_M_release nc_M_release 2 (some .int) :: zw_big) B.pre
  have hts : ∀ w ∈ zw_big, w.before [.ref (zh_mdl G), .int x].toArray s = true := fun w h => hts0 w (List.mem_cons_of_mem _ h)
  have hown : s.vm.findClass nR_M = some m.cls := findClass_of_methodNamed B.named
  have hlk := B.notSynchronized
  have hS : va_S (zm_Ad G) s.heap s.heap [] := va_S.rf
  have hl := lv_entry ([.ref (zh_mdl G), .int x]) (n := 2) (Nat.le_of_ble_eq_true rfl)
  rw [lg_entry_eq]
  generalize (lg_sl ([.ref (zh_mdl G), .int x]) ++ List.replicate (2 - (lg_sl ([.ref (zh_mdl G), .int x])).length) Slot.unset).toArray = ls at hl ⊢
  have hl : lv_has ls 2 [(0, .ref (zh_mdl G)), (1, .int x)] := hl
  have hF : CallFix p m c nc_M_release 2 s [.ref (zh_mdl G), .int x].toArray zw_big nR_M := ⟨hx, hb, hml, hown, hts⟩
  refine lv_aload_n hx hb nd_M_release_0 rfl (zv_at hl 0 rfl) ?_
  refine zw_vR (As := []) (rest := _) hF (c_M_shut l D G _ _) (zw_preV hP hK (q0 := 0) (ci := 6) rfl rfl rfl) nk_M_shut nw_565 ⟨rfl, rfl, Nat.le_of_ble_eq_true rfl, Nat.le_of_ble_eq_true rfl⟩ rfl hl.1 rfl (Nat.le_of_ble_eq_true rfl) ⟨Nat.zero_le _, Nat.zero_le _⟩ nd_M_release_1 ?_
  refine lv_if_eq (tgt := 12) hx hb nd_M_release_4 (by decide) (fun h_4 => ?_) (fun h_4 => ?_)
  · skip
    refine lv_aload_n hx hb nd_M_release_12 rfl (zv_at hl 0 rfl) ?_
    refine lv_iload_n hx hb nd_M_release_13 rfl (zv_at hl 1 rfl) ?_
    refine zw_vR (As := [_]) (rest := _) hF (c_M_stands l D G _ _ _) (zw_preV hP hK (q0 := 0) (ci := 6) rfl rfl rfl) nk_M_stands nw_622 ⟨rfl, rfl, Nat.le_of_ble_eq_true rfl, Nat.le_of_ble_eq_true rfl⟩ rfl hl.1 rfl (Nat.le_of_ble_eq_true rfl) ⟨Nat.zero_le _, Nat.zero_le _⟩ nd_M_release_14 ?_
    refine lv_if_ne (tgt := 23) hx hb nd_M_release_17 (by decide) (fun h_17 => ?_) (fun h_17 => ?_)
    · skip
      have hx8 := zm_stands_in h_17
      refine lv_aload_n hx hb nd_M_release_23 rfl (zv_at hl 0 rfl) ?_
      refine lv_iconst (v := 1) hx hb nd_M_release_24 (by decide) ?_
      refine lv_iconst (v := 1) hx hb nd_M_release_25 (by decide) ?_
      refine lv_aload_n hx hb nd_M_release_26 rfl (zv_at hl 0 rfl) ?_
      refine zm_get hx hb hts hown hK hP 8 (by decide) (hts _ nw_475) rfl nd_M_release_27 ?_
      refine lv_iload_n hx hb nd_M_release_30 rfl (zv_at hl 1 rfl) ?_
      refine zm_ald_hof hx hb hK hP (by exact hx8) nd_M_release_31 ?_
      refine lv_ishl hx hb nd_M_release_32 ?_
      refine zm_vWi (As := [_, _]) (rest := _) hF (c_M_comes l D G hG _ _ _ _) (zw_preV hP hK (q0 := 0) (ci := 6) rfl rfl rfl) nk_M_comes nw_570 ⟨rfl, rfl, Nat.le_of_ble_eq_true rfl, Nat.le_of_ble_eq_true rfl⟩ rfl hl.1 rfl (Nat.le_of_ble_eq_true rfl) ⟨Nat.zero_le _, Nat.zero_le _⟩ nd_M_release_33 hS (fun Y H locs hP hS => ?_)
      refine lv_if_ne (tgt := 41) hx hb nd_M_release_36 (by decide) (fun h_36 => ?_) (fun h_36 => ?_)
      · skip
        refine lv_aload_n hx hb nd_M_release_41 rfl (zv_at hl 0 rfl) ?_
        refine zm_get hx hb hts hown hK hP 9 (by decide) (hts _ nw_476) rfl nd_M_release_42 ?_
        refine lv_iload_n hx hb nd_M_release_45 rfl (zv_at hl 1 rfl) ?_
        refine lv_iconst (v := 0) hx hb nd_M_release_46 (by decide) ?_
        refine zm_ast_ham hx hb hK hG hP hS (by exact hx8) nd_M_release_47 (fun H locs hP hS => ?_)
        refine lv_iconst (v := 0) hx hb nd_M_release_48 (by decide) ?_
        refine zm_iret hx hb hr hlk nd_M_release_49 hP hS ?_
        unfold zm_release
        all_goals (try dsimp only)
        all_goals (try rw [if_pos h_4])
        all_goals (try rw [if_neg h_17])
        all_goals (try rw [if_neg h_36])
        all_goals rfl
      · skip
        refine lv_iconst (v := -1) hx hb nd_M_release_39 (by decide) ?_
        refine zm_iret hx hb hr hlk nd_M_release_40 hP hS ?_
        unfold zm_release
        all_goals (try dsimp only)
        all_goals (try rw [if_pos h_4])
        all_goals (try rw [if_neg h_17])
        all_goals (try rw [if_pos h_36])
        all_goals rfl
    · skip
      refine lv_bipush (v := -3) hx hb nd_M_release_20 (by decide) ?_
      refine zm_iret hx hb hr hlk nd_M_release_22 hP hS ?_
      unfold zm_release
      all_goals (try dsimp only)
      all_goals (try rw [if_pos h_4])
      all_goals (try rw [if_pos h_17])
      all_goals rfl
  · skip
    refine lv_aload_n hx hb nd_M_release_7 rfl (zv_at hl 0 rfl) ?_
    refine zw_vR (As := []) (rest := _) hF (c_M_shut l D G _ _) (zw_preV hP hK (q0 := 0) (ci := 6) rfl rfl rfl) nk_M_shut nw_565 ⟨rfl, rfl, Nat.le_of_ble_eq_true rfl, Nat.le_of_ble_eq_true rfl⟩ rfl hl.1 rfl (Nat.le_of_ble_eq_true rfl) ⟨Nat.zero_le _, Nat.zero_le _⟩ nd_M_release_8 ?_
    refine zm_iret hx hb hr hlk nd_M_release_11 hP hS ?_
    unfold zm_release
    all_goals (try dsimp only)
    all_goals (try rw [if_neg h_4])
    all_goals rfl

set_option maxHeartbeats 4000000 in
set_option maxRecDepth 100000 in
theorem c_M_settle (l : Launch) (D : va_G) (G : zh_G) (hG : zw_apart (zm_adr G)) (T : zm_S) (Y : zm_Y) (x y a : Int32) (hI : zm_I T) : Met l ny_M_settle (Cond.code ny_M_settle nc_M_settle 5 (some .int) :: zw_big) ({ frames := 3, cells := 0, slots := 0, locals := 66 } : Room) (zw_P [.ref (zh_mdl G), .int x, .int y, .int a] D (zm_tys G) (zm_cells G T Y)) (zm_Qi D G (zm_settle T x y a)) 0 0 (zm_Ad G) := by
  refine Met.ofW (cc := nc_M_settle) (maxL := 5) (ret := (some .int)) (by decide) rfl ?_
  intro p e s m args below meth c s₁ B hml hv
  obtain ⟨rfl, hP, hK⟩ := hv
  have hx := B.exec
  have hb := B.bytes
  have hr := B.returns
  have hts0 := atoms_spec (ws := Cond.code ny_M_settle nc_M_settle 5 (some .int) :: zw_big) B.pre
  have hts : ∀ w ∈ zw_big, w.before [.ref (zh_mdl G), .int x, .int y, .int a].toArray s = true := fun w h => hts0 w (List.mem_cons_of_mem _ h)
  have hown : s.vm.findClass nR_M = some m.cls := findClass_of_methodNamed B.named
  have hlk := B.notSynchronized
  have hS : va_S (zm_Ad G) s.heap s.heap [] := va_S.rf
  have hl := lv_entry ([.ref (zh_mdl G), .int x, .int y, .int a]) (n := 5) (Nat.le_of_ble_eq_true rfl)
  rw [lg_entry_eq]
  generalize (lg_sl ([.ref (zh_mdl G), .int x, .int y, .int a]) ++ List.replicate (5 - (lg_sl ([.ref (zh_mdl G), .int x, .int y, .int a])).length) Slot.unset).toArray = ls at hl ⊢
  have hl : lv_has ls 5 [(0, .ref (zh_mdl G)), (1, .int x), (2, .int y), (3, .int a)] := hl
  have hF : CallFix p m c nc_M_settle 5 s [.ref (zh_mdl G), .int x, .int y, .int a].toArray zw_big nR_M := ⟨hx, hb, hml, hown, hts⟩
  refine lv_aload_n hx hb nd_M_settle_0 rfl (zv_at hl 0 rfl) ?_
  refine zw_vR (As := []) (rest := _) hF (c_M_shut l D G _ _) (zw_preV hP hK (q0 := 0) (ci := 6) rfl rfl rfl) nk_M_shut nw_565 ⟨rfl, rfl, Nat.le_of_ble_eq_true rfl, Nat.le_of_ble_eq_true rfl⟩ rfl hl.1 rfl (Nat.le_of_ble_eq_true rfl) ⟨Nat.zero_le _, Nat.zero_le _⟩ nd_M_settle_1 ?_
  refine lv_if_eq (tgt := 12) hx hb nd_M_settle_4 (by decide) (fun h_4 => ?_) (fun h_4 => ?_)
  · skip
    refine lv_aload_n hx hb nd_M_settle_12 rfl (zv_at hl 0 rfl) ?_
    refine lv_iload_n hx hb nd_M_settle_13 rfl (zv_at hl 1 rfl) ?_
    refine zw_vR (As := [_]) (rest := _) hF (c_M_stands l D G _ _ _) (zw_preV hP hK (q0 := 0) (ci := 6) rfl rfl rfl) nk_M_stands nw_622 ⟨rfl, rfl, Nat.le_of_ble_eq_true rfl, Nat.le_of_ble_eq_true rfl⟩ rfl hl.1 rfl (Nat.le_of_ble_eq_true rfl) ⟨Nat.zero_le _, Nat.zero_le _⟩ nd_M_settle_14 ?_
    refine lv_if_eq (tgt := 49) hx hb nd_M_settle_17 (by decide) (fun h_17 => ?_) (fun h_17 => ?_)
    · skip
      refine lv_bipush (v := -3) hx hb nd_M_settle_49 (by decide) ?_
      refine zm_iret hx hb hr hlk nd_M_settle_51 hP hS ?_
      unfold zm_settle
      all_goals (try unfold zm_settle2)
      all_goals (try dsimp only)
      all_goals (try rw [if_pos h_4])
      all_goals (try rw [if_pos h_17])
      all_goals rfl
    · skip
      have hx8 := zm_stands_in h_17
      refine lv_aload_n hx hb nd_M_settle_20 rfl (zv_at hl 0 rfl) ?_
      refine lv_aload_n hx hb nd_M_settle_21 rfl (zv_at hl 0 rfl) ?_
      refine zm_get hx hb hts hown hK hP 8 (by decide) (hts _ nw_475) rfl nd_M_settle_22 ?_
      refine lv_iload_n hx hb nd_M_settle_25 rfl (zv_at hl 1 rfl) ?_
      refine zm_ald_hof hx hb hK hP (by exact hx8) nd_M_settle_26 ?_
      refine lv_iload_n hx hb nd_M_settle_27 rfl (zv_at hl 2 rfl) ?_
      refine zw_vR (As := [_, _]) (rest := _) hF (c_M_pair l D G _ _ _ _ (by exact hI)) (zw_preV hP hK (q0 := 0) (ci := 6) rfl rfl rfl) nk_M_pair nw_586 ⟨rfl, rfl, Nat.le_of_ble_eq_true rfl, Nat.le_of_ble_eq_true rfl⟩ rfl hl.1 rfl (Nat.le_of_ble_eq_true rfl) ⟨Nat.zero_le _, Nat.zero_le _⟩ nd_M_settle_28 ?_
      refine lv_if_eq (tgt := 49) hx hb nd_M_settle_31 (by decide) (fun h_31 => ?_) (fun h_31 => ?_)
      · skip
        refine lv_bipush (v := -3) hx hb nd_M_settle_49 (by decide) ?_
        refine zm_iret hx hb hr hlk nd_M_settle_51 hP hS ?_
        unfold zm_settle
        all_goals (try unfold zm_settle2)
        all_goals (try dsimp only)
        all_goals (try rw [if_pos h_4])
        all_goals (try rw [if_neg h_17])
        all_goals (try rw [if_pos h_31])
        all_goals rfl
      · skip
        obtain ⟨hkx, hky, hne⟩ := zm_known_spec hI (zm_pair_known h_31)
        refine lv_iload_n hx hb nd_M_settle_34 rfl (zv_at hl 3 rfl) ?_
        refine lv_iconst (v := 1) hx hb nd_M_settle_35 (by decide) ?_
        refine lv_icmp_lt (tgt := 49) hx hb nd_M_settle_36 (by decide) (fun h_36 => ?_) (fun h_36 => ?_)
        · skip
          refine lv_bipush (v := -3) hx hb nd_M_settle_49 (by decide) ?_
          refine zm_iret hx hb hr hlk nd_M_settle_51 hP hS ?_
          unfold zm_settle
          all_goals (try unfold zm_settle2)
          all_goals (try dsimp only)
          all_goals (try rw [if_pos h_4])
          all_goals (try rw [if_neg h_17])
          all_goals (try rw [if_neg h_31])
          all_goals (try rw [if_pos h_36])
          all_goals rfl
        · skip
          refine lv_iload_n hx hb nd_M_settle_39 rfl (zv_at hl 3 rfl) ?_
          refine lv_aload_n hx hb nd_M_settle_40 rfl (zv_at hl 0 rfl) ?_
          refine zm_get hx hb hts hown hK hP 9 (by decide) (hts _ nw_476) rfl nd_M_settle_41 ?_
          refine lv_iload_n hx hb nd_M_settle_44 rfl (zv_at hl 1 rfl) ?_
          refine zm_ald_ham hx hb hK hP (by exact hx8) nd_M_settle_45 ?_
          refine lv_icmp_le (tgt := 52) hx hb nd_M_settle_46 (by decide) (fun h_46 => ?_) (fun h_46 => ?_)
          · skip
            refine lv_aload_n hx hb nd_M_settle_52 rfl (zv_at hl 0 rfl) ?_
            refine zm_get hx hb hts hown hK hP 8 (by decide) (hts _ nw_475) rfl nd_M_settle_53 ?_
            refine lv_iload_n hx hb nd_M_settle_56 rfl (zv_at hl 1 rfl) ?_
            refine zm_ald_hof hx hb hK hP (by exact hx8) nd_M_settle_57 ?_
            refine lv_istore hx hb nd_M_settle_58 hl (by decide) rfl (fun ls hl => ?_)
            refine lv_aload_n hx hb nd_M_settle_60 rfl (zv_at hl 0 rfl) ?_
            refine lv_aload_n hx hb nd_M_settle_61 rfl (zv_at hl 0 rfl) ?_
            refine lv_iload hx hb nd_M_settle_62 (zv_at hl 4 rfl) ?_
            refine lv_iload_n hx hb nd_M_settle_64 rfl (zv_at hl 2 rfl) ?_
            refine zw_vR (As := [_, _]) (rest := _) hF (c_M_linesOf l D G _ _ _ _) (zw_preV hP hK (q0 := 0) (ci := 6) rfl rfl rfl) nk_M_linesOf nw_602 ⟨rfl, rfl, Nat.le_of_ble_eq_true rfl, Nat.le_of_ble_eq_true rfl⟩ rfl hl.1 rfl (Nat.le_of_ble_eq_true rfl) ⟨Nat.zero_le _, Nat.zero_le _⟩ nd_M_settle_65 ?_
            refine lv_aload_n hx hb nd_M_settle_68 rfl (zv_at hl 0 rfl) ?_
            refine lv_iload hx hb nd_M_settle_69 (zv_at hl 4 rfl) ?_
            refine lv_iload_n hx hb nd_M_settle_71 rfl (zv_at hl 2 rfl) ?_
            refine zw_vR (As := [_, _]) (rest := _) hF (c_M_setOf l D G _ _ _ _) (zw_preV hP hK (q0 := 0) (ci := 6) rfl rfl rfl) nk_M_setOf nw_606 ⟨rfl, rfl, Nat.le_of_ble_eq_true rfl, Nat.le_of_ble_eq_true rfl⟩ rfl hl.1 rfl (Nat.le_of_ble_eq_true rfl) ⟨Nat.zero_le _, Nat.zero_le _⟩ nd_M_settle_72 ?_
            refine zm_vWi (As := [_, _]) (rest := _) hF (c_M_comes l D G hG _ _ _ _) (zw_preV hP hK (q0 := 0) (ci := 6) rfl rfl rfl) nk_M_comes nw_570 ⟨rfl, rfl, Nat.le_of_ble_eq_true rfl, Nat.le_of_ble_eq_true rfl⟩ rfl hl.1 rfl (Nat.le_of_ble_eq_true rfl) ⟨Nat.zero_le _, Nat.zero_le _⟩ nd_M_settle_75 hS (fun Y H locs hP hS => ?_)
            refine lv_if_ne (tgt := 83) hx hb nd_M_settle_78 (by decide) (fun h_78 => ?_) (fun h_78 => ?_)
            · skip
              refine lv_aload_n hx hb nd_M_settle_83 rfl (zv_at hl 0 rfl) ?_
              refine zm_get hx hb hts hown hK hP 9 (by decide) (hts _ nw_476) rfl nd_M_settle_84 ?_
              refine lv_iload_n hx hb nd_M_settle_87 rfl (zv_at hl 1 rfl) ?_
              refine lv_iconst (v := 0) hx hb nd_M_settle_88 (by decide) ?_
              refine zm_ast_ham hx hb hK hG hP hS (by exact hx8) nd_M_settle_89 (fun H locs hP hS => ?_)
              refine lv_aload_n hx hb nd_M_settle_90 rfl (zv_at hl 0 rfl) ?_
              refine lv_iload hx hb nd_M_settle_91 (zv_at hl 4 rfl) ?_
              refine lv_iload_n hx hb nd_M_settle_93 rfl (zv_at hl 2 rfl) ?_
              refine lv_iload_n hx hb nd_M_settle_94 rfl (zv_at hl 3 rfl) ?_
              refine zm_vWv (As := [_, _, _]) (rest := _) hF (c_M_transfer l D G hG _ _ _ _ _ (by exact hI) (by assumption) (by assumption) (by assumption)) (zw_preV hP hK (q0 := 0) (ci := 6) rfl rfl rfl) nk_M_transfer nw_610 ⟨rfl, rfl, Nat.le_of_ble_eq_true rfl, Nat.le_of_ble_eq_true rfl⟩ rfl hl.1 rfl (Nat.le_of_ble_eq_true rfl) ⟨Nat.zero_le _, Nat.zero_le _⟩ nd_M_settle_95 hS (fun Y H locs hP hS => ?_)
              refine lv_iconst (v := 0) hx hb nd_M_settle_98 (by decide) ?_
              refine zm_iret hx hb hr hlk nd_M_settle_99 hP hS ?_
              unfold zm_settle
              all_goals (try unfold zm_settle2)
              all_goals (try dsimp only)
              all_goals (try rw [if_pos h_4])
              all_goals (try rw [if_neg h_17])
              all_goals (try rw [if_neg h_31])
              all_goals (try rw [if_neg h_36])
              all_goals (try rw [if_pos h_46])
              all_goals (try rw [if_neg h_78])
              all_goals rfl
            · skip
              refine lv_iconst (v := -1) hx hb nd_M_settle_81 (by decide) ?_
              refine zm_iret hx hb hr hlk nd_M_settle_82 hP hS ?_
              unfold zm_settle
              all_goals (try unfold zm_settle2)
              all_goals (try dsimp only)
              all_goals (try rw [if_pos h_4])
              all_goals (try rw [if_neg h_17])
              all_goals (try rw [if_neg h_31])
              all_goals (try rw [if_neg h_36])
              all_goals (try rw [if_pos h_46])
              all_goals (try rw [if_pos h_78])
              all_goals rfl
          · skip
            refine lv_bipush (v := -3) hx hb nd_M_settle_49 (by decide) ?_
            refine zm_iret hx hb hr hlk nd_M_settle_51 hP hS ?_
            unfold zm_settle
            all_goals (try unfold zm_settle2)
            all_goals (try dsimp only)
            all_goals (try rw [if_pos h_4])
            all_goals (try rw [if_neg h_17])
            all_goals (try rw [if_neg h_31])
            all_goals (try rw [if_neg h_36])
            all_goals (try rw [if_neg h_46])
            all_goals rfl
  · skip
    refine lv_aload_n hx hb nd_M_settle_7 rfl (zv_at hl 0 rfl) ?_
    refine zw_vR (As := []) (rest := _) hF (c_M_shut l D G _ _) (zw_preV hP hK (q0 := 0) (ci := 6) rfl rfl rfl) nk_M_shut nw_565 ⟨rfl, rfl, Nat.le_of_ble_eq_true rfl, Nat.le_of_ble_eq_true rfl⟩ rfl hl.1 rfl (Nat.le_of_ble_eq_true rfl) ⟨Nat.zero_le _, Nat.zero_le _⟩ nd_M_settle_8 ?_
    refine zm_iret hx hb hr hlk nd_M_settle_11 hP hS ?_
    unfold zm_settle
    all_goals (try unfold zm_settle2)
    all_goals (try dsimp only)
    all_goals (try rw [if_neg h_4])
    all_goals rfl

set_option maxHeartbeats 4000000 in
set_option maxRecDepth 100000 in
theorem c_M_order (l : Launch) (D : va_G) (G : zh_G) (hG : zw_apart (zm_adr G)) (T : zm_S) (Y : zm_Y) (x y a d : Int32) (hI : zm_I T) : Met l ny_M_order (Cond.code ny_M_order nc_M_order 5 (some .int) :: zw_big) ({ frames := 3, cells := 0, slots := 0, locals := 66 } : Room) (zw_P [.ref (zh_mdl G), .int x, .int y, .int a, .int d] D (zm_tys G) (zm_cells G T Y)) (zm_Qi D G (zm_order T x y a d)) 0 0 (zm_Ad G) := by
  refine Met.ofW (cc := nc_M_order) (maxL := 5) (ret := (some .int)) (by decide) rfl ?_
  intro p e s m args below meth c s₁ B hml hv
  obtain ⟨rfl, hP, hK⟩ := hv
  have hx := B.exec
  have hb := B.bytes
  have hr := B.returns
  have hts0 := atoms_spec (ws := Cond.code ny_M_order nc_M_order 5 (some .int) :: zw_big) B.pre
  have hts : ∀ w ∈ zw_big, w.before [.ref (zh_mdl G), .int x, .int y, .int a, .int d].toArray s = true := fun w h => hts0 w (List.mem_cons_of_mem _ h)
  have hown : s.vm.findClass nR_M = some m.cls := findClass_of_methodNamed B.named
  have hlk := B.notSynchronized
  have hS : va_S (zm_Ad G) s.heap s.heap [] := va_S.rf
  have hl := lv_entry ([.ref (zh_mdl G), .int x, .int y, .int a, .int d]) (n := 5) (Nat.le_of_ble_eq_true rfl)
  rw [lg_entry_eq]
  generalize (lg_sl ([.ref (zh_mdl G), .int x, .int y, .int a, .int d]) ++ List.replicate (5 - (lg_sl ([.ref (zh_mdl G), .int x, .int y, .int a, .int d])).length) Slot.unset).toArray = ls at hl ⊢
  have hl : lv_has ls 5 [(0, .ref (zh_mdl G)), (1, .int x), (2, .int y), (3, .int a), (4, .int d)] := hl
  have hF : CallFix p m c nc_M_order 5 s [.ref (zh_mdl G), .int x, .int y, .int a, .int d].toArray zw_big nR_M := ⟨hx, hb, hml, hown, hts⟩
  refine lv_aload_n hx hb nd_M_order_0 rfl (zv_at hl 0 rfl) ?_
  refine zw_vR (As := []) (rest := _) hF (c_M_shut l D G _ _) (zw_preV hP hK (q0 := 0) (ci := 6) rfl rfl rfl) nk_M_shut nw_565 ⟨rfl, rfl, Nat.le_of_ble_eq_true rfl, Nat.le_of_ble_eq_true rfl⟩ rfl hl.1 rfl (Nat.le_of_ble_eq_true rfl) ⟨Nat.zero_le _, Nat.zero_le _⟩ nd_M_order_1 ?_
  refine lv_if_eq (tgt := 12) hx hb nd_M_order_4 (by decide) (fun h_4 => ?_) (fun h_4 => ?_)
  · skip
    refine lv_aload_n hx hb nd_M_order_12 rfl (zv_at hl 0 rfl) ?_
    refine lv_iload_n hx hb nd_M_order_13 rfl (zv_at hl 1 rfl) ?_
    refine zw_vR (As := [_]) (rest := _) hF (c_M_is l D G _ _ _) (zw_preV hP hK (q0 := 0) (ci := 6) rfl rfl rfl) nk_M_is nw_590 ⟨rfl, rfl, Nat.le_of_ble_eq_true rfl, Nat.le_of_ble_eq_true rfl⟩ rfl hl.1 rfl (Nat.le_of_ble_eq_true rfl) ⟨Nat.zero_le _, Nat.zero_le _⟩ nd_M_order_14 ?_
    refine lv_if_eq (tgt := 58) hx hb nd_M_order_17 (by decide) (fun h_17 => ?_) (fun h_17 => ?_)
    · skip
      refine lv_bipush (v := -3) hx hb nd_M_order_58 (by decide) ?_
      refine zm_iret hx hb hr hlk nd_M_order_60 hP hS ?_
      unfold zm_order
      all_goals (try unfold zm_order2)
      all_goals (try dsimp only)
      all_goals (try rw [if_pos h_4])
      all_goals (try rw [if_pos h_17])
      all_goals rfl
    · skip
      refine lv_aload_n hx hb nd_M_order_20 rfl (zv_at hl 0 rfl) ?_
      refine lv_iload_n hx hb nd_M_order_21 rfl (zv_at hl 2 rfl) ?_
      refine zw_vR (As := [_]) (rest := _) hF (c_M_is l D G _ _ _) (zw_preV hP hK (q0 := 0) (ci := 6) rfl rfl rfl) nk_M_is nw_590 ⟨rfl, rfl, Nat.le_of_ble_eq_true rfl, Nat.le_of_ble_eq_true rfl⟩ rfl hl.1 rfl (Nat.le_of_ble_eq_true rfl) ⟨Nat.zero_le _, Nat.zero_le _⟩ nd_M_order_22 ?_
      refine lv_if_eq (tgt := 58) hx hb nd_M_order_25 (by decide) (fun h_25 => ?_) (fun h_25 => ?_)
      · skip
        refine lv_bipush (v := -3) hx hb nd_M_order_58 (by decide) ?_
        refine zm_iret hx hb hr hlk nd_M_order_60 hP hS ?_
        unfold zm_order
        all_goals (try unfold zm_order2)
        all_goals (try dsimp only)
        all_goals (try rw [if_pos h_4])
        all_goals (try rw [if_neg h_17])
        all_goals (try rw [if_pos h_25])
        all_goals rfl
      · skip
        refine lv_aload_n hx hb nd_M_order_28 rfl (zv_at hl 0 rfl) ?_
        refine lv_iload_n hx hb nd_M_order_29 rfl (zv_at hl 1 rfl) ?_
        refine lv_iload_n hx hb nd_M_order_30 rfl (zv_at hl 2 rfl) ?_
        refine zw_vR (As := [_, _]) (rest := _) hF (c_M_pair l D G _ _ _ _ (by exact hI)) (zw_preV hP hK (q0 := 0) (ci := 6) rfl rfl rfl) nk_M_pair nw_586 ⟨rfl, rfl, Nat.le_of_ble_eq_true rfl, Nat.le_of_ble_eq_true rfl⟩ rfl hl.1 rfl (Nat.le_of_ble_eq_true rfl) ⟨Nat.zero_le _, Nat.zero_le _⟩ nd_M_order_31 ?_
        refine lv_if_eq (tgt := 58) hx hb nd_M_order_34 (by decide) (fun h_34 => ?_) (fun h_34 => ?_)
        · skip
          refine lv_bipush (v := -3) hx hb nd_M_order_58 (by decide) ?_
          refine zm_iret hx hb hr hlk nd_M_order_60 hP hS ?_
          unfold zm_order
          all_goals (try unfold zm_order2)
          all_goals (try dsimp only)
          all_goals (try rw [if_pos h_4])
          all_goals (try rw [if_neg h_17])
          all_goals (try rw [if_neg h_25])
          all_goals (try rw [if_pos h_34])
          all_goals rfl
        · skip
          refine lv_aload_n hx hb nd_M_order_37 rfl (zv_at hl 0 rfl) ?_
          refine lv_iload_n hx hb nd_M_order_38 rfl (zv_at hl 3 rfl) ?_
          refine zw_vR (As := [_]) (rest := _) hF (c_M_amountOk l D G _ _ _) (zw_preV hP hK (q0 := 0) (ci := 6) rfl rfl rfl) nk_M_amountOk nw_594 ⟨rfl, rfl, Nat.le_of_ble_eq_true rfl, Nat.le_of_ble_eq_true rfl⟩ rfl hl.1 rfl (Nat.le_of_ble_eq_true rfl) ⟨Nat.zero_le _, Nat.zero_le _⟩ nd_M_order_39 ?_
          refine lv_if_eq (tgt := 58) hx hb nd_M_order_42 (by decide) (fun h_42 => ?_) (fun h_42 => ?_)
          · skip
            refine lv_bipush (v := -3) hx hb nd_M_order_58 (by decide) ?_
            refine zm_iret hx hb hr hlk nd_M_order_60 hP hS ?_
            unfold zm_order
            all_goals (try unfold zm_order2)
            all_goals (try dsimp only)
            all_goals (try rw [if_pos h_4])
            all_goals (try rw [if_neg h_17])
            all_goals (try rw [if_neg h_25])
            all_goals (try rw [if_neg h_34])
            all_goals (try rw [if_pos h_42])
            all_goals rfl
          · skip
            refine lv_iload hx hb nd_M_order_45 (zv_at hl 4 rfl) ?_
            refine lv_iconst (v := 1) hx hb nd_M_order_47 (by decide) ?_
            refine lv_icmp_lt (tgt := 58) hx hb nd_M_order_48 (by decide) (fun h_48 => ?_) (fun h_48 => ?_)
            · skip
              refine lv_bipush (v := -3) hx hb nd_M_order_58 (by decide) ?_
              refine zm_iret hx hb hr hlk nd_M_order_60 hP hS ?_
              unfold zm_order
              all_goals (try unfold zm_order2)
              all_goals (try dsimp only)
              all_goals (try rw [if_pos h_4])
              all_goals (try rw [if_neg h_17])
              all_goals (try rw [if_neg h_25])
              all_goals (try rw [if_neg h_34])
              all_goals (try rw [if_neg h_42])
              all_goals (try rw [if_pos h_48])
              all_goals rfl
            · skip
              refine lv_iload hx hb nd_M_order_51 (zv_at hl 4 rfl) ?_
              refine lv_bipush (v := 31) hx hb nd_M_order_53 (by decide) ?_
              refine lv_icmp_le (tgt := 61) hx hb nd_M_order_55 (by decide) (fun h_55 => ?_) (fun h_55 => ?_)
              · skip
                refine lv_aload_n hx hb nd_M_order_61 rfl (zv_at hl 0 rfl) ?_
                refine zm_get hx hb hts hown hK hP 10 (by decide) (hts _ nw_477) rfl nd_M_order_62 ?_
                refine lv_bipush (v := 6) hx hb nd_M_order_65 (by decide) ?_
                refine lv_icmp_ne (tgt := 73) hx hb nd_M_order_67 (by decide) (fun h_67 => ?_) (fun h_67 => ?_)
                · skip
                  have hv6 := zm_ors_in hI h_67
                  refine lv_aload_n hx hb nd_M_order_73 rfl (zv_at hl 0 rfl) ?_
                  refine lv_iconst (v := 1) hx hb nd_M_order_74 (by decide) ?_
                  refine lv_iconst (v := 1) hx hb nd_M_order_75 (by decide) ?_
                  refine lv_iload_n hx hb nd_M_order_76 rfl (zv_at hl 1 rfl) ?_
                  refine lv_ishl hx hb nd_M_order_77 ?_
                  refine zm_vWi (As := [_, _]) (rest := _) hF (c_M_comes l D G hG _ _ _ _) (zw_preV hP hK (q0 := 0) (ci := 6) rfl rfl rfl) nk_M_comes nw_570 ⟨rfl, rfl, Nat.le_of_ble_eq_true rfl, Nat.le_of_ble_eq_true rfl⟩ rfl hl.1 rfl (Nat.le_of_ble_eq_true rfl) ⟨Nat.zero_le _, Nat.zero_le _⟩ nd_M_order_78 hS (fun Y H locs hP hS => ?_)
                  refine lv_if_ne (tgt := 86) hx hb nd_M_order_81 (by decide) (fun h_81 => ?_) (fun h_81 => ?_)
                  · skip
                    refine lv_aload_n hx hb nd_M_order_86 rfl (zv_at hl 0 rfl) ?_
                    refine zm_get hx hb hts hown hK hP 11 (by decide) (hts _ nw_478) rfl nd_M_order_87 ?_
                    refine lv_aload_n hx hb nd_M_order_90 rfl (zv_at hl 0 rfl) ?_
                    refine zm_get hx hb hts hown hK hP 10 (by decide) (hts _ nw_477) rfl nd_M_order_91 ?_
                    refine lv_iload_n hx hb nd_M_order_94 rfl (zv_at hl 1 rfl) ?_
                    refine zm_ast_pyr hx hb hK hG hP hS (by exact hv6) nd_M_order_95 (fun H locs hP hS => ?_)
                    refine lv_aload_n hx hb nd_M_order_96 rfl (zv_at hl 0 rfl) ?_
                    refine zm_get hx hb hts hown hK hP 12 (by decide) (hts _ nw_479) rfl nd_M_order_97 ?_
                    refine lv_aload_n hx hb nd_M_order_100 rfl (zv_at hl 0 rfl) ?_
                    refine zm_get hx hb hts hown hK hP 10 (by decide) (hts _ nw_477) rfl nd_M_order_101 ?_
                    refine lv_iload_n hx hb nd_M_order_104 rfl (zv_at hl 2 rfl) ?_
                    refine zm_ast_pye hx hb hK hG hP hS (by exact hv6) nd_M_order_105 (fun H locs hP hS => ?_)
                    refine lv_aload_n hx hb nd_M_order_106 rfl (zv_at hl 0 rfl) ?_
                    refine zm_get hx hb hts hown hK hP 13 (by decide) (hts _ nw_480) rfl nd_M_order_107 ?_
                    refine lv_aload_n hx hb nd_M_order_110 rfl (zv_at hl 0 rfl) ?_
                    refine zm_get hx hb hts hown hK hP 10 (by decide) (hts _ nw_477) rfl nd_M_order_111 ?_
                    refine lv_iload_n hx hb nd_M_order_114 rfl (zv_at hl 3 rfl) ?_
                    refine zm_ast_sum hx hb hK hG hP hS (by exact hv6) nd_M_order_115 (fun H locs hP hS => ?_)
                    refine lv_aload_n hx hb nd_M_order_116 rfl (zv_at hl 0 rfl) ?_
                    refine zm_get hx hb hts hown hK hP 14 (by decide) (hts _ nw_481) rfl nd_M_order_117 ?_
                    refine lv_aload_n hx hb nd_M_order_120 rfl (zv_at hl 0 rfl) ?_
                    refine zm_get hx hb hts hown hK hP 10 (by decide) (hts _ nw_477) rfl nd_M_order_121 ?_
                    refine lv_iload hx hb nd_M_order_124 (zv_at hl 4 rfl) ?_
                    refine zm_ast_ody hx hb hK hG hP hS (by exact hv6) nd_M_order_126 (fun H locs hP hS => ?_)
                    refine lv_aload_n hx hb nd_M_order_127 rfl (zv_at hl 0 rfl) ?_
                    refine lv_dup hx hb nd_M_order_128 rfl ?_
                    refine zm_get hx hb hts hown hK hP 10 (by decide) (hts _ nw_477) rfl nd_M_order_129 ?_
                    refine lv_iconst (v := 1) hx hb nd_M_order_132 (by decide) ?_
                    refine lv_iadd hx hb nd_M_order_133 ?_
                    refine zm_put_ors hx hb hts hown hK hG hP hS (hts _ nw_477) nd_M_order_134 (fun H locs hP hS => ?_)
                    refine lv_aload_n hx hb nd_M_order_137 rfl (zv_at hl 0 rfl) ?_
                    refine zm_get hx hb hts hown hK hP 10 (by decide) (hts _ nw_477) rfl nd_M_order_138 ?_
                    refine lv_iconst (v := 1) hx hb nd_M_order_141 (by decide) ?_
                    refine lv_isub hx hb nd_M_order_142 ?_
                    refine zm_iret hx hb hr hlk nd_M_order_143 hP hS ?_
                    unfold zm_order
                    all_goals (try unfold zm_order2)
                    all_goals (try dsimp only)
                    all_goals (try rw [if_pos h_4])
                    all_goals (try rw [if_neg h_17])
                    all_goals (try rw [if_neg h_25])
                    all_goals (try rw [if_neg h_34])
                    all_goals (try rw [if_neg h_42])
                    all_goals (try rw [if_neg h_48])
                    all_goals (try rw [if_pos h_55])
                    all_goals (try rw [if_neg h_67])
                    all_goals (try rw [if_neg h_81])
                    all_goals rfl
                  · skip
                    refine lv_iconst (v := -1) hx hb nd_M_order_84 (by decide) ?_
                    refine zm_iret hx hb hr hlk nd_M_order_85 hP hS ?_
                    unfold zm_order
                    all_goals (try unfold zm_order2)
                    all_goals (try dsimp only)
                    all_goals (try rw [if_pos h_4])
                    all_goals (try rw [if_neg h_17])
                    all_goals (try rw [if_neg h_25])
                    all_goals (try rw [if_neg h_34])
                    all_goals (try rw [if_neg h_42])
                    all_goals (try rw [if_neg h_48])
                    all_goals (try rw [if_pos h_55])
                    all_goals (try rw [if_neg h_67])
                    all_goals (try rw [if_pos h_81])
                    all_goals rfl
                · skip
                  refine lv_bipush (v := -4) hx hb nd_M_order_70 (by decide) ?_
                  refine zm_iret hx hb hr hlk nd_M_order_72 hP hS ?_
                  unfold zm_order
                  all_goals (try unfold zm_order2)
                  all_goals (try dsimp only)
                  all_goals (try rw [if_pos h_4])
                  all_goals (try rw [if_neg h_17])
                  all_goals (try rw [if_neg h_25])
                  all_goals (try rw [if_neg h_34])
                  all_goals (try rw [if_neg h_42])
                  all_goals (try rw [if_neg h_48])
                  all_goals (try rw [if_pos h_55])
                  all_goals (try rw [if_pos h_67])
                  all_goals rfl
              · skip
                refine lv_bipush (v := -3) hx hb nd_M_order_58 (by decide) ?_
                refine zm_iret hx hb hr hlk nd_M_order_60 hP hS ?_
                unfold zm_order
                all_goals (try unfold zm_order2)
                all_goals (try dsimp only)
                all_goals (try rw [if_pos h_4])
                all_goals (try rw [if_neg h_17])
                all_goals (try rw [if_neg h_25])
                all_goals (try rw [if_neg h_34])
                all_goals (try rw [if_neg h_42])
                all_goals (try rw [if_neg h_48])
                all_goals (try rw [if_neg h_55])
                all_goals rfl
  · skip
    refine lv_aload_n hx hb nd_M_order_7 rfl (zv_at hl 0 rfl) ?_
    refine zw_vR (As := []) (rest := _) hF (c_M_shut l D G _ _) (zw_preV hP hK (q0 := 0) (ci := 6) rfl rfl rfl) nk_M_shut nw_565 ⟨rfl, rfl, Nat.le_of_ble_eq_true rfl, Nat.le_of_ble_eq_true rfl⟩ rfl hl.1 rfl (Nat.le_of_ble_eq_true rfl) ⟨Nat.zero_le _, Nat.zero_le _⟩ nd_M_order_8 ?_
    refine zm_iret hx hb hr hlk nd_M_order_11 hP hS ?_
    unfold zm_order
    all_goals (try unfold zm_order2)
    all_goals (try dsimp only)
    all_goals (try rw [if_neg h_4])
    all_goals rfl

set_option maxHeartbeats 4000000 in
set_option maxRecDepth 100000 in
theorem c_M_fuse (l : Launch) (D : va_G) (G : zh_G) (hG : zw_apart (zm_adr G)) (T : zm_S) (Y : zm_Y) (n : Int32) : Met l ny_M_fuse (Cond.code ny_M_fuse nc_M_fuse 2 (some .boolean) :: zw_big) ({ frames := 0, cells := 0, slots := 0, locals := 0 } : Room) (zw_P [.ref (zh_mdl G), .int n] D (zm_tys G) (zm_cells G T Y)) (zm_Qi D G (zm_fuse T n)) 0 0 (zm_Ad G) := by
  refine Met.ofW (cc := nc_M_fuse) (maxL := 2) (ret := (some .boolean)) (by decide) rfl ?_
  intro p e s m args below meth c s₁ B hml hv
  obtain ⟨rfl, hP, hK⟩ := hv
  have hx := B.exec
  have hb := B.bytes
  have hr := B.returns
  have hts0 := atoms_spec (ws := Cond.code ny_M_fuse nc_M_fuse 2 (some .boolean) :: zw_big) B.pre
  have hts : ∀ w ∈ zw_big, w.before [.ref (zh_mdl G), .int n].toArray s = true := fun w h => hts0 w (List.mem_cons_of_mem _ h)
  have hown : s.vm.findClass nR_M = some m.cls := findClass_of_methodNamed B.named
  have hlk := B.notSynchronized
  have hS : va_S (zm_Ad G) s.heap s.heap [] := va_S.rf
  have hl := lv_entry ([.ref (zh_mdl G), .int n]) (n := 2) (Nat.le_of_ble_eq_true rfl)
  rw [lg_entry_eq]
  generalize (lg_sl ([.ref (zh_mdl G), .int n]) ++ List.replicate (2 - (lg_sl ([.ref (zh_mdl G), .int n])).length) Slot.unset).toArray = ls at hl ⊢
  have hl : lv_has ls 2 [(0, .ref (zh_mdl G)), (1, .int n)] := hl
  have hF : CallFix p m c nc_M_fuse 2 s [.ref (zh_mdl G), .int n].toArray zw_big nR_M := ⟨hx, hb, hml, hown, hts⟩
  refine lv_aload_n hx hb nd_M_fuse_0 rfl (zv_at hl 0 rfl) ?_
  refine zm_get hx hb hts hown hK hP 22 (by decide) (hts _ nw_489) rfl nd_M_fuse_1 ?_
  refine lv_if_ne (tgt := 19) hx hb nd_M_fuse_4 (by decide) (fun h_4 => ?_) (fun h_4 => ?_)
  · skip
    refine lv_iconst (v := 0) hx hb nd_M_fuse_19 (by decide) ?_
    refine zm_zret hx hb hr hlk nd_M_fuse_20 hP hS (by decide) ?_
    unfold zm_fuse
    all_goals (try dsimp only)
    all_goals (try rw [if_neg h_4])
    all_goals rfl
  · skip
    refine lv_iload_n hx hb nd_M_fuse_7 rfl (zv_at hl 1 rfl) ?_
    refine lv_iconst (v := -1) hx hb nd_M_fuse_8 (by decide) ?_
    refine lv_icmp_lt (tgt := 19) hx hb nd_M_fuse_9 (by decide) (fun h_9 => ?_) (fun h_9 => ?_)
    · skip
      refine lv_iconst (v := 0) hx hb nd_M_fuse_19 (by decide) ?_
      refine zm_zret hx hb hr hlk nd_M_fuse_20 hP hS (by decide) ?_
      unfold zm_fuse
      all_goals (try dsimp only)
      all_goals (try rw [if_pos h_4])
      all_goals (try rw [if_pos h_9])
      all_goals rfl
    · skip
      refine lv_iload_n hx hb nd_M_fuse_12 rfl (zv_at hl 1 rfl) ?_
      refine lv_sipush (v := 500) hx hb nd_M_fuse_13 (by decide) ?_
      refine lv_icmp_le (tgt := 21) hx hb nd_M_fuse_16 (by decide) (fun h_16 => ?_) (fun h_16 => ?_)
      · skip
        refine lv_aload_n hx hb nd_M_fuse_21 rfl (zv_at hl 0 rfl) ?_
        refine lv_iload_n hx hb nd_M_fuse_22 rfl (zv_at hl 1 rfl) ?_
        refine zm_put_lft hx hb hts hown hK hG hP hS (hts _ nw_490) nd_M_fuse_23 (fun H locs hP hS => ?_)
        refine lv_iconst (v := 1) hx hb nd_M_fuse_26 (by decide) ?_
        refine zm_zret hx hb hr hlk nd_M_fuse_27 hP hS (by decide) ?_
        unfold zm_fuse
        all_goals (try dsimp only)
        all_goals (try rw [if_pos h_4])
        all_goals (try rw [if_neg h_9])
        all_goals (try rw [if_pos h_16])
        all_goals rfl
      · skip
        refine lv_iconst (v := 0) hx hb nd_M_fuse_19 (by decide) ?_
        refine zm_zret hx hb hr hlk nd_M_fuse_20 hP hS (by decide) ?_
        unfold zm_fuse
        all_goals (try dsimp only)
        all_goals (try rw [if_pos h_4])
        all_goals (try rw [if_neg h_9])
        all_goals (try rw [if_neg h_16])
        all_goals rfl

set_option maxHeartbeats 4000000 in
set_option maxRecDepth 100000 in
theorem c_M_restart (l : Launch) (D : va_G) (G : zh_G) (hG : zw_apart (zm_adr G)) (T : zm_S) (Y : zm_Y) : Met l ny_M_restart (Cond.code ny_M_restart nc_M_restart 1 (some .int) :: zw_big) ({ frames := 0, cells := 0, slots := 0, locals := 0 } : Room) (zw_P [.ref (zh_mdl G)] D (zm_tys G) (zm_cells G T Y)) (zm_Qi D G (zm_restart T)) 0 0 (zm_Ad G) := by
  refine Met.ofW (cc := nc_M_restart) (maxL := 1) (ret := (some .int)) (by decide) rfl ?_
  intro p e s m args below meth c s₁ B hml hv
  obtain ⟨rfl, hP, hK⟩ := hv
  have hx := B.exec
  have hb := B.bytes
  have hr := B.returns
  have hts0 := atoms_spec (ws := Cond.code ny_M_restart nc_M_restart 1 (some .int) :: zw_big) B.pre
  have hts : ∀ w ∈ zw_big, w.before [.ref (zh_mdl G)].toArray s = true := fun w h => hts0 w (List.mem_cons_of_mem _ h)
  have hown : s.vm.findClass nR_M = some m.cls := findClass_of_methodNamed B.named
  have hlk := B.notSynchronized
  have hS : va_S (zm_Ad G) s.heap s.heap [] := va_S.rf
  have hl := lv_entry ([.ref (zh_mdl G)]) (n := 1) (Nat.le_of_ble_eq_true rfl)
  rw [lg_entry_eq]
  generalize (lg_sl ([.ref (zh_mdl G)]) ++ List.replicate (1 - (lg_sl ([.ref (zh_mdl G)])).length) Slot.unset).toArray = ls at hl ⊢
  have hl : lv_has ls 1 [(0, .ref (zh_mdl G))] := hl
  have hF : CallFix p m c nc_M_restart 1 s [.ref (zh_mdl G)].toArray zw_big nR_M := ⟨hx, hb, hml, hown, hts⟩
  refine lv_aload_n hx hb nd_M_restart_0 rfl (zv_at hl 0 rfl) ?_
  refine zm_get hx hb hts hown hK hP 22 (by decide) (hts _ nw_489) rfl nd_M_restart_1 ?_
  refine lv_if_ne (tgt := 10) hx hb nd_M_restart_4 (by decide) (fun h_4 => ?_) (fun h_4 => ?_)
  · skip
    refine lv_aload_n hx hb nd_M_restart_10 rfl (zv_at hl 0 rfl) ?_
    refine lv_iconst (v := 0) hx hb nd_M_restart_11 (by decide) ?_
    refine zm_put_stp hx hb hts hown hK hG hP hS (by decide) (hts _ nw_489) nd_M_restart_12 (fun H locs hP hS => ?_)
    refine lv_aload_n hx hb nd_M_restart_15 rfl (zv_at hl 0 rfl) ?_
    refine lv_iconst (v := -1) hx hb nd_M_restart_16 (by decide) ?_
    refine zm_put_lft hx hb hts hown hK hG hP hS (hts _ nw_490) nd_M_restart_17 (fun H locs hP hS => ?_)
    refine lv_aload_n hx hb nd_M_restart_20 rfl (zv_at hl 0 rfl) ?_
    refine zm_get hx hb hts hown hK hP 26 (by decide) (hts _ nw_493) rfl nd_M_restart_21 ?_
    refine zm_iret hx hb hr hlk nd_M_restart_24 hP hS ?_
    unfold zm_restart
    all_goals (try dsimp only)
    all_goals (try rw [if_neg h_4])
    all_goals rfl
  · skip
    refine lv_bipush (v := -3) hx hb nd_M_restart_7 (by decide) ?_
    refine zm_iret hx hb hr hlk nd_M_restart_9 hP hS ?_
    unfold zm_restart
    all_goals (try dsimp only)
    all_goals (try rw [if_pos h_4])
    all_goals rfl

set_option maxHeartbeats 4000000 in
set_option maxRecDepth 100000 in
theorem c_M_balance (l : Launch) (D : va_G) (G : zh_G) (T : zm_S) (Y : zm_Y) (x : Int32) (hI : zm_I T) : Met l ny_M_balance (Cond.code ny_M_balance nc_M_balance 2 (some .long) :: zw_big) ({ frames := 1, cells := 0, slots := 0, locals := 21 } : Room) (zw_P [.ref (zh_mdl G), .int x] D (zm_tys G) (zm_cells G T Y)) (zw_R (.long (zm_balance T x))) 0 0 (fun _ => False) := by
  refine Met.ofW (cc := nc_M_balance) (maxL := 2) (ret := (some .long)) (by decide) rfl ?_
  intro p e s m args below meth c s₁ B hml hv
  obtain ⟨rfl, hP, hK⟩ := hv
  have hx := B.exec
  have hb := B.bytes
  have hr := B.returns
  have hts0 := atoms_spec (ws := Cond.code ny_M_balance nc_M_balance 2 (some .long) :: zw_big) B.pre
  have hts : ∀ w ∈ zw_big, w.before [.ref (zh_mdl G), .int x].toArray s = true := fun w h => hts0 w (List.mem_cons_of_mem _ h)
  have hown : s.vm.findClass nR_M = some m.cls := findClass_of_methodNamed B.named
  have hlk := B.notSynchronized
  have hl := lv_entry ([.ref (zh_mdl G), .int x]) (n := 2) (Nat.le_of_ble_eq_true rfl)
  rw [lg_entry_eq]
  generalize (lg_sl ([.ref (zh_mdl G), .int x]) ++ List.replicate (2 - (lg_sl ([.ref (zh_mdl G), .int x])).length) Slot.unset).toArray = ls at hl ⊢
  have hl : lv_has ls 2 [(0, .ref (zh_mdl G)), (1, .int x)] := hl
  have hF : CallFix p m c nc_M_balance 2 s [.ref (zh_mdl G), .int x].toArray zw_big nR_M := ⟨hx, hb, hml, hown, hts⟩
  refine lv_aload_n hx hb nd_M_balance_0 rfl (zv_at hl 0 rfl) ?_
  refine zm_get hx hb hts hown hK hP 22 (by decide) (hts _ nw_489) rfl nd_M_balance_1 ?_
  refine lv_if_ne (tgt := 24) hx hb nd_M_balance_4 (by decide) (fun h_4 => ?_) (fun h_4 => ?_)
  · skip
    refine lv_lconst (v := 0) hx hb nd_M_balance_24 (by decide) ?_
    refine zw_lret hx hb hr hlk nd_M_balance_25 ?_
    unfold zm_balance
    all_goals (try dsimp only)
    all_goals (try rw [if_neg h_4])
    all_goals rfl
  · skip
    refine lv_aload_n hx hb nd_M_balance_7 rfl (zv_at hl 0 rfl) ?_
    refine lv_iload_n hx hb nd_M_balance_8 rfl (zv_at hl 1 rfl) ?_
    refine zw_vR (As := [_]) (rest := _) hF (c_M_is l D G _ _ _) (zw_preV hP hK (q0 := 0) (ci := 6) rfl rfl rfl) nk_M_is nw_590 ⟨rfl, rfl, Nat.le_of_ble_eq_true rfl, Nat.le_of_ble_eq_true rfl⟩ rfl hl.1 rfl (Nat.le_of_ble_eq_true rfl) ⟨Nat.zero_le _, Nat.zero_le _⟩ nd_M_balance_9 ?_
    refine lv_if_eq (tgt := 24) hx hb nd_M_balance_12 (by decide) (fun h_12 => ?_) (fun h_12 => ?_)
    · skip
      refine lv_lconst (v := 0) hx hb nd_M_balance_24 (by decide) ?_
      refine zw_lret hx hb hr hlk nd_M_balance_25 ?_
      unfold zm_balance
      all_goals (try dsimp only)
      all_goals (try rw [if_pos h_4])
      all_goals (try rw [if_pos h_12])
      all_goals rfl
    · skip
      have hx6 : vp_in x 6 := zm_in_of (zm_is_nat hI h_12)
      refine lv_aload_n hx hb nd_M_balance_15 rfl (zv_at hl 0 rfl) ?_
      refine zm_get hx hb hts hown hK hP 6 (by decide) (hts _ nw_473) rfl nd_M_balance_16 ?_
      refine lv_iload_n hx hb nd_M_balance_19 rfl (zv_at hl 1 rfl) ?_
      refine zm_ald_mon hx hb hK hP (by assumption) nd_M_balance_20 ?_
      refine lv_goto (tgt := 25) hx hb nd_M_balance_21 (by decide) ?_
      refine zw_lret hx hb hr hlk nd_M_balance_25 ?_
      unfold zm_balance
      all_goals (try dsimp only)
      all_goals (try rw [if_pos h_4])
      all_goals (try rw [if_neg h_12])
      all_goals rfl

set_option maxHeartbeats 4000000 in
set_option maxRecDepth 100000 in
theorem c_M_available (l : Launch) (D : va_G) (G : zh_G) (T : zm_S) (Y : zm_Y) (x : Int32) (hI : zm_I T) : Met l ny_M_available (Cond.code ny_M_available nc_M_available 2 (some .long) :: zw_big) ({ frames := 1, cells := 0, slots := 0, locals := 24 } : Room) (zw_P [.ref (zh_mdl G), .int x] D (zm_tys G) (zm_cells G T Y)) (zw_R (.long (zm_avail T x))) 0 0 (fun _ => False) := by
  refine Met.ofW (cc := nc_M_available) (maxL := 2) (ret := (some .long)) (by decide) rfl ?_
  intro p e s m args below meth c s₁ B hml hv
  obtain ⟨rfl, hP, hK⟩ := hv
  have hx := B.exec
  have hb := B.bytes
  have hr := B.returns
  have hts0 := atoms_spec (ws := Cond.code ny_M_available nc_M_available 2 (some .long) :: zw_big) B.pre
  have hts : ∀ w ∈ zw_big, w.before [.ref (zh_mdl G), .int x].toArray s = true := fun w h => hts0 w (List.mem_cons_of_mem _ h)
  have hown : s.vm.findClass nR_M = some m.cls := findClass_of_methodNamed B.named
  have hlk := B.notSynchronized
  have hl := lv_entry ([.ref (zh_mdl G), .int x]) (n := 2) (Nat.le_of_ble_eq_true rfl)
  rw [lg_entry_eq]
  generalize (lg_sl ([.ref (zh_mdl G), .int x]) ++ List.replicate (2 - (lg_sl ([.ref (zh_mdl G), .int x])).length) Slot.unset).toArray = ls at hl ⊢
  have hl : lv_has ls 2 [(0, .ref (zh_mdl G)), (1, .int x)] := hl
  have hF : CallFix p m c nc_M_available 2 s [.ref (zh_mdl G), .int x].toArray zw_big nR_M := ⟨hx, hb, hml, hown, hts⟩
  refine lv_aload_n hx hb nd_M_available_0 rfl (zv_at hl 0 rfl) ?_
  refine zm_get hx hb hts hown hK hP 22 (by decide) (hts _ nw_489) rfl nd_M_available_1 ?_
  refine lv_if_ne (tgt := 23) hx hb nd_M_available_4 (by decide) (fun h_4 => ?_) (fun h_4 => ?_)
  · skip
    refine lv_lconst (v := 0) hx hb nd_M_available_23 (by decide) ?_
    refine zw_lret hx hb hr hlk nd_M_available_24 ?_
    unfold zm_avail
    all_goals (try dsimp only)
    all_goals (try rw [if_neg h_4])
    all_goals rfl
  · skip
    refine lv_aload_n hx hb nd_M_available_7 rfl (zv_at hl 0 rfl) ?_
    refine lv_iload_n hx hb nd_M_available_8 rfl (zv_at hl 1 rfl) ?_
    refine zw_vR (As := [_]) (rest := _) hF (c_M_is l D G _ _ _) (zw_preV hP hK (q0 := 0) (ci := 6) rfl rfl rfl) nk_M_is nw_590 ⟨rfl, rfl, Nat.le_of_ble_eq_true rfl, Nat.le_of_ble_eq_true rfl⟩ rfl hl.1 rfl (Nat.le_of_ble_eq_true rfl) ⟨Nat.zero_le _, Nat.zero_le _⟩ nd_M_available_9 ?_
    refine lv_if_eq (tgt := 23) hx hb nd_M_available_12 (by decide) (fun h_12 => ?_) (fun h_12 => ?_)
    · skip
      refine lv_lconst (v := 0) hx hb nd_M_available_23 (by decide) ?_
      refine zw_lret hx hb hr hlk nd_M_available_24 ?_
      unfold zm_avail
      all_goals (try dsimp only)
      all_goals (try rw [if_pos h_4])
      all_goals (try rw [if_pos h_12])
      all_goals rfl
    · skip
      have hx6 : vp_in x 6 := zm_in_of (zm_is_nat hI h_12)
      refine lv_aload_n hx hb nd_M_available_15 rfl (zv_at hl 0 rfl) ?_
      refine lv_iload_n hx hb nd_M_available_16 rfl (zv_at hl 1 rfl) ?_
      refine zw_vR (As := [_]) (rest := _) hF (c_M_free l D G _ _ _ (by assumption)) (zw_preV hP hK (q0 := 0) (ci := 6) rfl rfl rfl) nk_M_free nw_598 ⟨rfl, rfl, Nat.le_of_ble_eq_true rfl, Nat.le_of_ble_eq_true rfl⟩ rfl hl.1 rfl (Nat.le_of_ble_eq_true rfl) ⟨Nat.zero_le _, Nat.zero_le _⟩ nd_M_available_17 ?_
      refine lv_goto (tgt := 24) hx hb nd_M_available_20 (by decide) ?_
      refine zw_lret hx hb hr hlk nd_M_available_24 ?_
      unfold zm_avail
      all_goals (try dsimp only)
      all_goals (try rw [if_pos h_4])
      all_goals (try rw [if_neg h_12])
      all_goals rfl

set_option maxHeartbeats 4000000 in
set_option maxRecDepth 100000 in
theorem c_M_accrued (l : Launch) (D : va_G) (G : zh_G) (T : zm_S) (Y : zm_Y) (x : Int32) (hI : zm_I T) : Met l ny_M_accrued (Cond.code ny_M_accrued nc_M_accrued 2 (some .long) :: zw_big) ({ frames := 1, cells := 0, slots := 0, locals := 21 } : Room) (zw_P [.ref (zh_mdl G), .int x] D (zm_tys G) (zm_cells G T Y)) (zw_R (.long (zm_accrd T x))) 0 0 (fun _ => False) := by
  refine Met.ofW (cc := nc_M_accrued) (maxL := 2) (ret := (some .long)) (by decide) rfl ?_
  intro p e s m args below meth c s₁ B hml hv
  obtain ⟨rfl, hP, hK⟩ := hv
  have hx := B.exec
  have hb := B.bytes
  have hr := B.returns
  have hts0 := atoms_spec (ws := Cond.code ny_M_accrued nc_M_accrued 2 (some .long) :: zw_big) B.pre
  have hts : ∀ w ∈ zw_big, w.before [.ref (zh_mdl G), .int x].toArray s = true := fun w h => hts0 w (List.mem_cons_of_mem _ h)
  have hown : s.vm.findClass nR_M = some m.cls := findClass_of_methodNamed B.named
  have hlk := B.notSynchronized
  have hl := lv_entry ([.ref (zh_mdl G), .int x]) (n := 2) (Nat.le_of_ble_eq_true rfl)
  rw [lg_entry_eq]
  generalize (lg_sl ([.ref (zh_mdl G), .int x]) ++ List.replicate (2 - (lg_sl ([.ref (zh_mdl G), .int x])).length) Slot.unset).toArray = ls at hl ⊢
  have hl : lv_has ls 2 [(0, .ref (zh_mdl G)), (1, .int x)] := hl
  have hF : CallFix p m c nc_M_accrued 2 s [.ref (zh_mdl G), .int x].toArray zw_big nR_M := ⟨hx, hb, hml, hown, hts⟩
  refine lv_aload_n hx hb nd_M_accrued_0 rfl (zv_at hl 0 rfl) ?_
  refine zm_get hx hb hts hown hK hP 22 (by decide) (hts _ nw_489) rfl nd_M_accrued_1 ?_
  refine lv_if_ne (tgt := 24) hx hb nd_M_accrued_4 (by decide) (fun h_4 => ?_) (fun h_4 => ?_)
  · skip
    refine lv_lconst (v := 0) hx hb nd_M_accrued_24 (by decide) ?_
    refine zw_lret hx hb hr hlk nd_M_accrued_25 ?_
    unfold zm_accrd
    all_goals (try dsimp only)
    all_goals (try rw [if_neg h_4])
    all_goals rfl
  · skip
    refine lv_aload_n hx hb nd_M_accrued_7 rfl (zv_at hl 0 rfl) ?_
    refine lv_iload_n hx hb nd_M_accrued_8 rfl (zv_at hl 1 rfl) ?_
    refine zw_vR (As := [_]) (rest := _) hF (c_M_is l D G _ _ _) (zw_preV hP hK (q0 := 0) (ci := 6) rfl rfl rfl) nk_M_is nw_590 ⟨rfl, rfl, Nat.le_of_ble_eq_true rfl, Nat.le_of_ble_eq_true rfl⟩ rfl hl.1 rfl (Nat.le_of_ble_eq_true rfl) ⟨Nat.zero_le _, Nat.zero_le _⟩ nd_M_accrued_9 ?_
    refine lv_if_eq (tgt := 24) hx hb nd_M_accrued_12 (by decide) (fun h_12 => ?_) (fun h_12 => ?_)
    · skip
      refine lv_lconst (v := 0) hx hb nd_M_accrued_24 (by decide) ?_
      refine zw_lret hx hb hr hlk nd_M_accrued_25 ?_
      unfold zm_accrd
      all_goals (try dsimp only)
      all_goals (try rw [if_pos h_4])
      all_goals (try rw [if_pos h_12])
      all_goals rfl
    · skip
      have hx6 : vp_in x 6 := zm_in_of (zm_is_nat hI h_12)
      refine lv_aload_n hx hb nd_M_accrued_15 rfl (zv_at hl 0 rfl) ?_
      refine zm_get hx hb hts hown hK hP 7 (by decide) (hts _ nw_474) rfl nd_M_accrued_16 ?_
      refine lv_iload_n hx hb nd_M_accrued_19 rfl (zv_at hl 1 rfl) ?_
      refine zm_ald_acr hx hb hK hP (by assumption) nd_M_accrued_20 ?_
      refine lv_goto (tgt := 25) hx hb nd_M_accrued_21 (by decide) ?_
      refine zw_lret hx hb hr hlk nd_M_accrued_25 ?_
      unfold zm_accrd
      all_goals (try dsimp only)
      all_goals (try rw [if_pos h_4])
      all_goals (try rw [if_neg h_12])
      all_goals rfl

set_option maxHeartbeats 4000000 in
set_option maxRecDepth 100000 in
theorem c_M_mark (l : Launch) (D : va_G) (G : zh_G) (T : zm_S) (Y : zm_Y) (x : Int32) (hI : zm_I T) : Met l ny_M_mark (Cond.code ny_M_mark nc_M_mark 2 (some .int) :: zw_big) ({ frames := 1, cells := 0, slots := 0, locals := 21 } : Room) (zw_P [.ref (zh_mdl G), .int x] D (zm_tys G) (zm_cells G T Y)) (zw_R (.int (zm_markC T x))) 0 0 (fun _ => False) := by
  refine Met.ofW (cc := nc_M_mark) (maxL := 2) (ret := (some .int)) (by decide) rfl ?_
  intro p e s m args below meth c s₁ B hml hv
  obtain ⟨rfl, hP, hK⟩ := hv
  have hx := B.exec
  have hb := B.bytes
  have hr := B.returns
  have hts0 := atoms_spec (ws := Cond.code ny_M_mark nc_M_mark 2 (some .int) :: zw_big) B.pre
  have hts : ∀ w ∈ zw_big, w.before [.ref (zh_mdl G), .int x].toArray s = true := fun w h => hts0 w (List.mem_cons_of_mem _ h)
  have hown : s.vm.findClass nR_M = some m.cls := findClass_of_methodNamed B.named
  have hlk := B.notSynchronized
  have hl := lv_entry ([.ref (zh_mdl G), .int x]) (n := 2) (Nat.le_of_ble_eq_true rfl)
  rw [lg_entry_eq]
  generalize (lg_sl ([.ref (zh_mdl G), .int x]) ++ List.replicate (2 - (lg_sl ([.ref (zh_mdl G), .int x])).length) Slot.unset).toArray = ls at hl ⊢
  have hl : lv_has ls 2 [(0, .ref (zh_mdl G)), (1, .int x)] := hl
  have hF : CallFix p m c nc_M_mark 2 s [.ref (zh_mdl G), .int x].toArray zw_big nR_M := ⟨hx, hb, hml, hown, hts⟩
  refine lv_aload_n hx hb nd_M_mark_0 rfl (zv_at hl 0 rfl) ?_
  refine zm_get hx hb hts hown hK hP 22 (by decide) (hts _ nw_489) rfl nd_M_mark_1 ?_
  refine lv_if_ne (tgt := 24) hx hb nd_M_mark_4 (by decide) (fun h_4 => ?_) (fun h_4 => ?_)
  · skip
    refine lv_iconst (v := 0) hx hb nd_M_mark_24 (by decide) ?_
    refine zw_iret hx hb hr hlk nd_M_mark_25 ?_
    unfold zm_markC
    all_goals (try dsimp only)
    all_goals (try rw [if_neg h_4])
    all_goals rfl
  · skip
    refine lv_aload_n hx hb nd_M_mark_7 rfl (zv_at hl 0 rfl) ?_
    refine lv_iload_n hx hb nd_M_mark_8 rfl (zv_at hl 1 rfl) ?_
    refine zw_vR (As := [_]) (rest := _) hF (c_M_is l D G _ _ _) (zw_preV hP hK (q0 := 0) (ci := 6) rfl rfl rfl) nk_M_is nw_590 ⟨rfl, rfl, Nat.le_of_ble_eq_true rfl, Nat.le_of_ble_eq_true rfl⟩ rfl hl.1 rfl (Nat.le_of_ble_eq_true rfl) ⟨Nat.zero_le _, Nat.zero_le _⟩ nd_M_mark_9 ?_
    refine lv_if_eq (tgt := 24) hx hb nd_M_mark_12 (by decide) (fun h_12 => ?_) (fun h_12 => ?_)
    · skip
      refine lv_iconst (v := 0) hx hb nd_M_mark_24 (by decide) ?_
      refine zw_iret hx hb hr hlk nd_M_mark_25 ?_
      unfold zm_markC
      all_goals (try dsimp only)
      all_goals (try rw [if_pos h_4])
      all_goals (try rw [if_pos h_12])
      all_goals rfl
    · skip
      have hx6 : vp_in x 6 := zm_in_of (zm_is_nat hI h_12)
      refine lv_aload_n hx hb nd_M_mark_15 rfl (zv_at hl 0 rfl) ?_
      refine zm_get hx hb hts hown hK hP 5 (by decide) (hts _ nw_472) rfl nd_M_mark_16 ?_
      refine lv_iload_n hx hb nd_M_mark_19 rfl (zv_at hl 1 rfl) ?_
      refine zm_ald_mrk hx hb hK hP (by assumption) nd_M_mark_20 ?_
      refine lv_goto (tgt := 25) hx hb nd_M_mark_21 (by decide) ?_
      refine zw_iret hx hb hr hlk nd_M_mark_25 ?_
      unfold zm_markC
      all_goals (try dsimp only)
      all_goals (try rw [if_pos h_4])
      all_goals (try rw [if_neg h_12])
      all_goals rfl

set_option maxHeartbeats 4000000 in
set_option maxRecDepth 100000 in
theorem c_M_missed (l : Launch) (D : va_G) (G : zh_G) (T : zm_S) (Y : zm_Y) (x : Int32) (hI : zm_I T) : Met l ny_M_missed (Cond.code ny_M_missed nc_M_missed 2 (some .int) :: zw_big) ({ frames := 0, cells := 0, slots := 0, locals := 0 } : Room) (zw_P [.ref (zh_mdl G), .int x] D (zm_tys G) (zm_cells G T Y)) (zw_R (.int (zm_missed T x))) 0 0 (fun _ => False) := by
  refine Met.ofW (cc := nc_M_missed) (maxL := 2) (ret := (some .int)) (by decide) rfl ?_
  intro p e s m args below meth c s₁ B hml hv
  obtain ⟨rfl, hP, hK⟩ := hv
  have hx := B.exec
  have hb := B.bytes
  have hr := B.returns
  have hts0 := atoms_spec (ws := Cond.code ny_M_missed nc_M_missed 2 (some .int) :: zw_big) B.pre
  have hts : ∀ w ∈ zw_big, w.before [.ref (zh_mdl G), .int x].toArray s = true := fun w h => hts0 w (List.mem_cons_of_mem _ h)
  have hown : s.vm.findClass nR_M = some m.cls := findClass_of_methodNamed B.named
  have hlk := B.notSynchronized
  have hl := lv_entry ([.ref (zh_mdl G), .int x]) (n := 2) (Nat.le_of_ble_eq_true rfl)
  rw [lg_entry_eq]
  generalize (lg_sl ([.ref (zh_mdl G), .int x]) ++ List.replicate (2 - (lg_sl ([.ref (zh_mdl G), .int x])).length) Slot.unset).toArray = ls at hl ⊢
  have hl : lv_has ls 2 [(0, .ref (zh_mdl G)), (1, .int x)] := hl
  have hF : CallFix p m c nc_M_missed 2 s [.ref (zh_mdl G), .int x].toArray zw_big nR_M := ⟨hx, hb, hml, hown, hts⟩
  refine lv_aload_n hx hb nd_M_missed_0 rfl (zv_at hl 0 rfl) ?_
  refine zm_get hx hb hts hown hK hP 22 (by decide) (hts _ nw_489) rfl nd_M_missed_1 ?_
  refine lv_if_ne (tgt := 28) hx hb nd_M_missed_4 (by decide) (fun h_4 => ?_) (fun h_4 => ?_)
  · skip
    refine lv_iconst (v := 0) hx hb nd_M_missed_28 (by decide) ?_
    refine zw_iret hx hb hr hlk nd_M_missed_29 ?_
    unfold zm_missed
    all_goals (try dsimp only)
    all_goals (try rw [if_neg h_4])
    all_goals rfl
  · skip
    refine lv_iload_n hx hb nd_M_missed_7 rfl (zv_at hl 1 rfl) ?_
    refine lv_if_lt (tgt := 28) hx hb nd_M_missed_8 (by decide) (fun h_8 => ?_) (fun h_8 => ?_)
    · skip
      refine lv_iconst (v := 0) hx hb nd_M_missed_28 (by decide) ?_
      refine zw_iret hx hb hr hlk nd_M_missed_29 ?_
      unfold zm_missed
      all_goals (try dsimp only)
      all_goals (try rw [if_pos h_4])
      all_goals (try rw [if_pos h_8])
      all_goals rfl
    · skip
      refine lv_iload_n hx hb nd_M_missed_11 rfl (zv_at hl 1 rfl) ?_
      refine lv_aload_n hx hb nd_M_missed_12 rfl (zv_at hl 0 rfl) ?_
      refine zm_get hx hb hts hown hK hP 10 (by decide) (hts _ nw_477) rfl nd_M_missed_13 ?_
      refine lv_icmp_ge (tgt := 28) hx hb nd_M_missed_16 (by decide) (fun h_16 => ?_) (fun h_16 => ?_)
      · skip
        refine lv_iconst (v := 0) hx hb nd_M_missed_28 (by decide) ?_
        refine zw_iret hx hb hr hlk nd_M_missed_29 ?_
        unfold zm_missed
        all_goals (try dsimp only)
        all_goals (try rw [if_pos h_4])
        all_goals (try rw [if_neg h_8])
        all_goals (try rw [if_pos h_16])
        all_goals rfl
      · skip
        have hx6 : vp_in x 6 := by
          obtain ⟨o, ho, eo⟩ := hI.2.1
          obtain ⟨j, hj, rfl⟩ := nI_of h_8
          exact vp_in_nI (Nat.lt_of_lt_of_le (Nat.lt_of_not_le fun q => h_16 (by show zm_ors T ≤ nI j; rw [eo]; exact nI_le q hj)) ho) (by decide)
        refine lv_aload_n hx hb nd_M_missed_19 rfl (zv_at hl 0 rfl) ?_
        refine zm_get hx hb hts hown hK hP 15 (by decide) (hts _ nw_482) rfl nd_M_missed_20 ?_
        refine lv_iload_n hx hb nd_M_missed_23 rfl (zv_at hl 1 rfl) ?_
        refine zm_ald_mis hx hb hK hP (by assumption) nd_M_missed_24 ?_
        refine lv_goto (tgt := 29) hx hb nd_M_missed_25 (by decide) ?_
        refine zw_iret hx hb hr hlk nd_M_missed_29 ?_
        unfold zm_missed
        all_goals (try dsimp only)
        all_goals (try rw [if_pos h_4])
        all_goals (try rw [if_neg h_8])
        all_goals (try rw [if_neg h_16])
        all_goals rfl

set_option maxHeartbeats 4000000 in
set_option maxRecDepth 100000 in
theorem c_M_today (l : Launch) (D : va_G) (G : zh_G) (T : zm_S) (Y : zm_Y) : Met l ny_M_today (Cond.code ny_M_today nc_M_today 1 (some .int) :: zw_big) ({ frames := 0, cells := 0, slots := 0, locals := 0 } : Room) (zw_P [.ref (zh_mdl G)] D (zm_tys G) (zm_cells G T Y)) (zw_R (.int (zm_today T))) 0 0 (fun _ => False) := by
  refine Met.ofW (cc := nc_M_today) (maxL := 1) (ret := (some .int)) (by decide) rfl ?_
  intro p e s m args below meth c s₁ B hml hv
  obtain ⟨rfl, hP, hK⟩ := hv
  have hx := B.exec
  have hb := B.bytes
  have hr := B.returns
  have hts0 := atoms_spec (ws := Cond.code ny_M_today nc_M_today 1 (some .int) :: zw_big) B.pre
  have hts : ∀ w ∈ zw_big, w.before [.ref (zh_mdl G)].toArray s = true := fun w h => hts0 w (List.mem_cons_of_mem _ h)
  have hown : s.vm.findClass nR_M = some m.cls := findClass_of_methodNamed B.named
  have hlk := B.notSynchronized
  have hl := lv_entry ([.ref (zh_mdl G)]) (n := 1) (Nat.le_of_ble_eq_true rfl)
  rw [lg_entry_eq]
  generalize (lg_sl ([.ref (zh_mdl G)]) ++ List.replicate (1 - (lg_sl ([.ref (zh_mdl G)])).length) Slot.unset).toArray = ls at hl ⊢
  have hl : lv_has ls 1 [(0, .ref (zh_mdl G))] := hl
  have hF : CallFix p m c nc_M_today 1 s [.ref (zh_mdl G)].toArray zw_big nR_M := ⟨hx, hb, hml, hown, hts⟩
  refine lv_aload_n hx hb nd_M_today_0 rfl (zv_at hl 0 rfl) ?_
  refine zm_get hx hb hts hown hK hP 22 (by decide) (hts _ nw_489) rfl nd_M_today_1 ?_
  refine lv_if_eq (tgt := 11) hx hb nd_M_today_4 (by decide) (fun h_4 => ?_) (fun h_4 => ?_)
  · skip
    refine lv_aload_n hx hb nd_M_today_11 rfl (zv_at hl 0 rfl) ?_
    refine zm_get hx hb hts hown hK hP 20 (by decide) (hts _ nw_487) rfl nd_M_today_12 ?_
    refine zw_iret hx hb hr hlk nd_M_today_15 ?_
    unfold zm_today
    all_goals (try dsimp only)
    all_goals (try rw [if_pos h_4])
    all_goals rfl
  · skip
    refine lv_iconst (v := 0) hx hb nd_M_today_7 (by decide) ?_
    refine lv_goto (tgt := 15) hx hb nd_M_today_8 (by decide) ?_
    refine zw_iret hx hb hr hlk nd_M_today_15 ?_
    unfold zm_today
    all_goals (try dsimp only)
    all_goals (try rw [if_neg h_4])
    all_goals rfl

set_option maxHeartbeats 4000000 in
set_option maxRecDepth 100000 in
theorem c_M_writes (l : Launch) (D : va_G) (G : zh_G) (T : zm_S) (Y : zm_Y) : Met l ny_M_writes (Cond.code ny_M_writes nc_M_writes 1 (some .int) :: zw_big) ({ frames := 0, cells := 0, slots := 0, locals := 0 } : Room) (zw_P [.ref (zh_mdl G)] D (zm_tys G) (zm_cells G T Y)) (zw_R (.int (zm_writes T))) 0 0 (fun _ => False) := by
  refine Met.ofW (cc := nc_M_writes) (maxL := 1) (ret := (some .int)) (by decide) rfl ?_
  intro p e s m args below meth c s₁ B hml hv
  obtain ⟨rfl, hP, hK⟩ := hv
  have hx := B.exec
  have hb := B.bytes
  have hr := B.returns
  have hts0 := atoms_spec (ws := Cond.code ny_M_writes nc_M_writes 1 (some .int) :: zw_big) B.pre
  have hts : ∀ w ∈ zw_big, w.before [.ref (zh_mdl G)].toArray s = true := fun w h => hts0 w (List.mem_cons_of_mem _ h)
  have hown : s.vm.findClass nR_M = some m.cls := findClass_of_methodNamed B.named
  have hlk := B.notSynchronized
  have hl := lv_entry ([.ref (zh_mdl G)]) (n := 1) (Nat.le_of_ble_eq_true rfl)
  rw [lg_entry_eq]
  generalize (lg_sl ([.ref (zh_mdl G)]) ++ List.replicate (1 - (lg_sl ([.ref (zh_mdl G)])).length) Slot.unset).toArray = ls at hl ⊢
  have hl : lv_has ls 1 [(0, .ref (zh_mdl G))] := hl
  have hF : CallFix p m c nc_M_writes 1 s [.ref (zh_mdl G)].toArray zw_big nR_M := ⟨hx, hb, hml, hown, hts⟩
  refine lv_aload_n hx hb nd_M_writes_0 rfl (zv_at hl 0 rfl) ?_
  refine zm_get hx hb hts hown hK hP 24 (by decide) (hts _ nw_491) rfl nd_M_writes_1 ?_
  refine zw_iret hx hb hr hlk nd_M_writes_4 ?_
  all_goals rfl

set_option maxHeartbeats 4000000 in
set_option maxRecDepth 100000 in
theorem c_M_lines (l : Launch) (D : va_G) (G : zh_G) (T : zm_S) (Y : zm_Y) : Met l ny_M_lines (Cond.code ny_M_lines nc_M_lines 1 (some .int) :: zw_big) ({ frames := 0, cells := 0, slots := 0, locals := 0 } : Room) (zw_P [.ref (zh_mdl G)] D (zm_tys G) (zm_cells G T Y)) (zw_R (.int (zm_linesC T))) 0 0 (fun _ => False) := by
  refine Met.ofW (cc := nc_M_lines) (maxL := 1) (ret := (some .int)) (by decide) rfl ?_
  intro p e s m args below meth c s₁ B hml hv
  obtain ⟨rfl, hP, hK⟩ := hv
  have hx := B.exec
  have hb := B.bytes
  have hr := B.returns
  have hts0 := atoms_spec (ws := Cond.code ny_M_lines nc_M_lines 1 (some .int) :: zw_big) B.pre
  have hts : ∀ w ∈ zw_big, w.before [.ref (zh_mdl G)].toArray s = true := fun w h => hts0 w (List.mem_cons_of_mem _ h)
  have hown : s.vm.findClass nR_M = some m.cls := findClass_of_methodNamed B.named
  have hlk := B.notSynchronized
  have hl := lv_entry ([.ref (zh_mdl G)]) (n := 1) (Nat.le_of_ble_eq_true rfl)
  rw [lg_entry_eq]
  generalize (lg_sl ([.ref (zh_mdl G)]) ++ List.replicate (1 - (lg_sl ([.ref (zh_mdl G)])).length) Slot.unset).toArray = ls at hl ⊢
  have hl : lv_has ls 1 [(0, .ref (zh_mdl G))] := hl
  have hF : CallFix p m c nc_M_lines 1 s [.ref (zh_mdl G)].toArray zw_big nR_M := ⟨hx, hb, hml, hown, hts⟩
  refine lv_aload_n hx hb nd_M_lines_0 rfl (zv_at hl 0 rfl) ?_
  refine zm_get hx hb hts hown hK hP 22 (by decide) (hts _ nw_489) rfl nd_M_lines_1 ?_
  refine lv_if_eq (tgt := 11) hx hb nd_M_lines_4 (by decide) (fun h_4 => ?_) (fun h_4 => ?_)
  · skip
    refine lv_aload_n hx hb nd_M_lines_11 rfl (zv_at hl 0 rfl) ?_
    refine zm_get hx hb hts hown hK hP 25 (by decide) (hts _ nw_492) rfl nd_M_lines_12 ?_
    refine zw_iret hx hb hr hlk nd_M_lines_15 ?_
    unfold zm_linesC
    all_goals (try dsimp only)
    all_goals (try rw [if_pos h_4])
    all_goals rfl
  · skip
    refine lv_iconst (v := 0) hx hb nd_M_lines_7 (by decide) ?_
    refine lv_goto (tgt := 15) hx hb nd_M_lines_8 (by decide) ?_
    refine zw_iret hx hb hr hlk nd_M_lines_15 ?_
    unfold zm_linesC
    all_goals (try dsimp only)
    all_goals (try rw [if_neg h_4])
    all_goals rfl
