theorem zb_I_end {S : zb_S} {k : Nat} (h : zb_I S) : zb_I (zb_end S k) := by
  obtain ⟨h1, h2, h3, h4, h5, h6, h7⟩ := h
  have hh : ∀ k' j, va_up (zb_hol S) k none k' = some j → j < 6 := by
    intro k' j e
    by_cases q : k' = k
    · subst q; rw [va_up_self] at e; cases e
    · rw [va_up_ne _ _ q] at e; exact h5 k' j e
  unfold zb_end
  cases zb_hol S k with
  | none => exact ⟨h1, h2, h3, h4, hh, h6, h7⟩
  | some i => exact ⟨h1, h2, h3, h4, hh, h6, h7⟩
theorem zb_free_le (f : Nat → Option Nat) : ∀ n k, zb_free f n k ≤ n + k := by
  intro n
  induction n with
  | zero => intro k; rw [zb_free]; omega
  | succ n ih =>
    intro k
    rw [zb_free]
    cases f k with
    | none => dsimp only; omega
    | some j => dsimp only; have := ih (k + 1); omega
theorem zb_free_lt {f : Nat → Option Nat} (h : nI (zb_free f 8 0) < 8) : zb_free f 8 0 < 8 := by
  have h1 := zb_free_le f 8 0
  exact (nI_ltI (a := zb_free f 8 0) (b := 8) (by omega) (by decide)).mp h
set_option maxHeartbeats 4000000 in
set_option maxRecDepth 100000 in
theorem c_B_open (l : Launch) (D : va_G) (G : zg_G) (hG : zw_apart (zb_adr G)) (S : zb_S) (hI : zb_I S) (cu ba li ra : Int32) : Met l ny_B_open (Cond.code ny_B_open nc_B_open 7 (some .int) :: zw_big) ({ frames := 4, cells := 0, slots := 0, locals := 86 } : Room) (zw_P [.ref (zg_bnk G), .int cu, .int ba, .int li, .int ra] D (zb_tys G) (zb_cells G S)) (zb_Qi D G (zb_open S cu ba li ra)) 0 0 (zb_Ad G) := by
  refine Met.ofW (cc := nc_B_open) (maxL := 7) (ret := (some .int)) (by decide) rfl ?_
  intro p e s m args below meth c s₁ B hml hv
  obtain ⟨rfl, hP, hK⟩ := hv
  have hx := B.exec
  have hb := B.bytes
  have hr := B.returns
  have hts0 := atoms_spec (ws := Cond.code ny_B_open nc_B_open 7 (some .int) :: zw_big) B.pre
  have hts : ∀ w ∈ zw_big, w.before [.ref (zg_bnk G), .int cu, .int ba, .int li, .int ra].toArray s = true := fun w h => hts0 w (List.mem_cons_of_mem _ h)
  have hown : s.vm.findClass nR_B = some m.cls := findClass_of_methodNamed B.named
  have hlk := B.notSynchronized
  have hS : va_S (zb_Ad G) s.heap s.heap [] := va_S.rf
  have hl := lv_entry ([.ref (zg_bnk G), .int cu, .int ba, .int li, .int ra]) (n := 7) (Nat.le_of_ble_eq_true rfl)
  rw [lg_entry_eq]
  generalize (lg_sl ([.ref (zg_bnk G), .int cu, .int ba, .int li, .int ra]) ++ List.replicate (7 - (lg_sl ([.ref (zg_bnk G), .int cu, .int ba, .int li, .int ra])).length) Slot.unset).toArray = ls at hl ⊢
  have hl : lv_has ls 7 [(0, .ref (zg_bnk G)), (1, .int cu), (2, .int ba), (3, .int li), (4, .int ra)] := hl
  have hF : CallFix p m c nc_B_open 7 s [.ref (zg_bnk G), .int cu, .int ba, .int li, .int ra].toArray zw_big nR_B := ⟨hx, hb, hml, hown, hts⟩
  refine lv_aload_n hx hb nd_B_open_0 rfl (zv_at hl 0 rfl) ?_
  refine zw_vR (As := []) (rest := _) hF (c_B_refusalOfChange l D G _) (zw_preV hP hK (q0 := 0) (ci := 0) rfl rfl rfl) nk_B_refusalOfChange nw_193 ⟨rfl, rfl, Nat.le_of_ble_eq_true rfl, Nat.le_of_ble_eq_true rfl⟩ rfl hl.1 rfl (Nat.le_of_ble_eq_true rfl) ⟨Nat.zero_le _, Nat.zero_le _⟩ nd_B_open_1 ?_
  refine lv_istore hx hb nd_B_open_4 hl (by decide) rfl (fun ls hl => ?_)
  refine lv_iload hx hb nd_B_open_6 (zv_at hl 5 rfl) ?_
  refine lv_if_eq (tgt := 14) hx hb nd_B_open_8 (by decide) (fun h_8 => ?_) (fun h_8 => ?_)
  · skip
    refine lv_iload_n hx hb nd_B_open_14 rfl (zv_at hl 1 rfl) ?_
    refine zw_sR (As := [_]) (rest := _) hF (c_B_isCurrency l _) zw_preN nk_B_isCurrency nw_197 ⟨rfl, rfl, Nat.le_of_ble_eq_true rfl, Nat.le_of_ble_eq_true rfl⟩ rfl hl.1 rfl (Nat.le_of_ble_eq_true rfl) ⟨Nat.zero_le _, Nat.zero_le _⟩ nd_B_open_15 ?_
    refine lv_if_eq (tgt := 28) hx hb nd_B_open_18 (by decide) (fun h_18 => ?_) (fun h_18 => ?_)
    · skip
      refine lv_bipush (v := -3) hx hb nd_B_open_28 (by decide) ?_
      refine zb_iret hx hb hr hlk nd_B_open_30 hP hS ?_
      unfold zb_open
      all_goals (try unfold zb_open2)
      all_goals (try dsimp only)
      all_goals (try rw [if_pos h_8])
      all_goals (try rw [if_pos h_18])
      all_goals rfl
    · skip
      refine lv_iload_n hx hb nd_B_open_21 rfl (zv_at hl 2 rfl) ?_
      refine zw_sR (As := [_]) (rest := _) hF (c_C_isBasis l _) zw_preN nk_C_isBasis nw_203 ⟨rfl, rfl, Nat.le_of_ble_eq_true rfl, Nat.le_of_ble_eq_true rfl⟩ rfl hl.1 rfl (Nat.le_of_ble_eq_true rfl) ⟨Nat.zero_le _, Nat.zero_le _⟩ nd_B_open_22 ?_
      refine lv_if_ne (tgt := 31) hx hb nd_B_open_25 (by decide) (fun h_25 => ?_) (fun h_25 => ?_)
      · skip
        refine lv_iload_n hx hb nd_B_open_31 rfl (zv_at hl 3 rfl) ?_
        refine lv_iconst (v := 0) hx hb nd_B_open_32 (by decide) ?_
        refine lv_ldc (v := 1000000) hx hb hown (hts _ nw_206) nd_B_open_33 ?_
        refine zw_sR (As := [_, _, _]) (rest := _) hF (c_B_isWithin l _ _ _) zw_preN nk_B_isWithin nw_200 ⟨rfl, rfl, Nat.le_of_ble_eq_true rfl, Nat.le_of_ble_eq_true rfl⟩ rfl hl.1 rfl (Nat.le_of_ble_eq_true rfl) ⟨Nat.zero_le _, Nat.zero_le _⟩ nd_B_open_35 ?_
        refine lv_if_eq (tgt := 53) hx hb nd_B_open_38 (by decide) (fun h_38 => ?_) (fun h_38 => ?_)
        · skip
          refine lv_bipush (v := -3) hx hb nd_B_open_53 (by decide) ?_
          refine zb_iret hx hb hr hlk nd_B_open_55 hP hS ?_
          unfold zb_open
          all_goals (try unfold zb_open2)
          all_goals (try dsimp only)
          all_goals (try rw [if_pos h_8])
          all_goals (try rw [if_neg h_18])
          all_goals (try rw [if_neg h_25])
          all_goals (try rw [if_pos h_38])
          all_goals rfl
        · skip
          refine lv_iload hx hb nd_B_open_41 (zv_at hl 4 rfl) ?_
          refine lv_iconst (v := 0) hx hb nd_B_open_43 (by decide) ?_
          refine lv_sipush (v := 1000) hx hb nd_B_open_44 (by decide) ?_
          refine zw_sR (As := [_, _, _]) (rest := _) hF (c_B_isWithin l _ _ _) zw_preN nk_B_isWithin nw_200 ⟨rfl, rfl, Nat.le_of_ble_eq_true rfl, Nat.le_of_ble_eq_true rfl⟩ rfl hl.1 rfl (Nat.le_of_ble_eq_true rfl) ⟨Nat.zero_le _, Nat.zero_le _⟩ nd_B_open_47 ?_
          refine lv_if_ne (tgt := 56) hx hb nd_B_open_50 (by decide) (fun h_50 => ?_) (fun h_50 => ?_)
          · skip
            refine lv_aload_n hx hb nd_B_open_56 rfl (zv_at hl 0 rfl) ?_
            refine zb_getB hx hb hts hown hK hP 7 (by decide) (hts _ nw_162) rfl nd_B_open_57 ?_
            refine lv_bipush (v := 6) hx hb nd_B_open_60 (by decide) ?_
            refine lv_icmp_lt (tgt := 68) hx hb nd_B_open_62 (by decide) (fun h_62 => ?_) (fun h_62 => ?_)
            · skip
              obtain ⟨n, hn6, en⟩ := hI.1
              have hn : n < 6 := by
                have h : nI n < nI 6 := by rw [← en]; exact h_62
                exact (nI_ltI (by omega) (by decide)).mp h
              have hi6 : (zb_n S).toNatClampNeg < 6 := by rw [en, nI_clamp (by omega)]; exact hn
              refine lv_aload_n hx hb nd_B_open_68 rfl (zv_at hl 0 rfl) ?_
              refine zb_getB hx hb hts hown hK hP 0 (by decide) (hts _ nw_155) rfl nd_B_open_69 ?_
              refine lv_aload_n hx hb nd_B_open_72 rfl (zv_at hl 0 rfl) ?_
              refine zb_getB hx hb hts hown hK hP 7 (by decide) (hts _ nw_162) rfl nd_B_open_73 ?_
              refine zb_ald_acc hx hb hK hP (by show vp_in (zb_n S) 6; rw [en]; exact vp_in_nI hn (by decide)) nd_B_open_76 ?_
              refine lv_astore hx hb nd_B_open_77 hl (by decide) rfl (fun ls hl => ?_)
              refine lv_aload_n hx hb nd_B_open_79 rfl (zv_at hl 0 rfl) ?_
              refine zb_getB hx hb hts hown hK hP 4 (by decide) (hts _ nw_159) rfl nd_B_open_80 ?_
              refine lv_aload hx hb nd_B_open_83 (zv_at hl 6 rfl) ?_
              refine zw_sR (As := [_]) (rest := _) hF (c_B_bitOf l D G _ _ (by assumption)) (zw_preS hP hK) nk_B_bitOf nw_207 ⟨rfl, rfl, Nat.le_of_ble_eq_true rfl, Nat.le_of_ble_eq_true rfl⟩ rfl hl.1 rfl (Nat.le_of_ble_eq_true rfl) ⟨Nat.zero_le _, Nat.zero_le _⟩ nd_B_open_85 ?_
              refine zb_vWi (As := [_]) (rest := _) hF (c_D_writeTransaction l D G hG _ _) (zw_preV hP hK (q0 := 5) (ci := 5) rfl rfl rfl) nk_D_writeTransaction nw_210 ⟨rfl, rfl, Nat.le_of_ble_eq_true rfl, Nat.le_of_ble_eq_true rfl⟩ rfl hl.1 rfl (Nat.le_of_ble_eq_true rfl) ⟨Nat.zero_le _, Nat.zero_le _⟩ nd_B_open_88 hS (fun H locs hP hS => ?_)
              refine lv_if_ne (tgt := 96) hx hb nd_B_open_91 (by decide) (fun h_91 => ?_) (fun h_91 => ?_)
              · skip
                refine lv_aload hx hb nd_B_open_96 (zv_at hl 6 rfl) ?_
                refine lv_iload_n hx hb nd_B_open_98 rfl (zv_at hl 1 rfl) ?_
                refine zb_put_cur hx hb hts hown hK hG hP hS (by assumption) (hts _ nw_76) nd_B_open_99 (fun H locs hP hS => ?_)
                refine lv_aload hx hb nd_B_open_102 (zv_at hl 6 rfl) ?_
                refine lv_iload_n hx hb nd_B_open_104 rfl (zv_at hl 2 rfl) ?_
                refine zb_put_bas hx hb hts hown hK hG hP hS (by assumption) (hts _ nw_77) nd_B_open_105 (fun H locs hP hS => ?_)
                refine lv_aload hx hb nd_B_open_108 (zv_at hl 6 rfl) ?_
                refine lv_iload_n hx hb nd_B_open_110 rfl (zv_at hl 3 rfl) ?_
                refine zb_put_lim hx hb hts hown hK hG hP hS (by assumption) (hts _ nw_80) nd_B_open_111 (fun H locs hP hS => ?_)
                refine lv_aload hx hb nd_B_open_114 (zv_at hl 6 rfl) ?_
                refine lv_iload hx hb nd_B_open_116 (zv_at hl 4 rfl) ?_
                refine zb_put_rat hx hb hts hown hK hG hP hS (by assumption) (hts _ nw_81) nd_B_open_118 (fun H locs hP hS => ?_)
                refine lv_aload hx hb nd_B_open_121 (zv_at hl 6 rfl) ?_
                refine lv_aload_n hx hb nd_B_open_123 rfl (zv_at hl 0 rfl) ?_
                refine zb_getB hx hb hts hown hK hP 9 (by decide) (hts _ nw_164) rfl nd_B_open_124 ?_
                refine lv_iconst (v := 1) hx hb nd_B_open_127 (by decide) ?_
                refine lv_isub hx hb nd_B_open_128 ?_
                refine zb_put_mrk hx hb hts hown hK hG hP hS (by assumption) (hts _ nw_89) nd_B_open_129 (fun H locs hP hS => ?_)
                refine lv_aload_n hx hb nd_B_open_132 rfl (zv_at hl 0 rfl) ?_
                refine lv_dup hx hb nd_B_open_133 rfl ?_
                refine zb_getB hx hb hts hown hK hP 7 (by decide) (hts _ nw_162) rfl nd_B_open_134 ?_
                refine lv_iconst (v := 1) hx hb nd_B_open_137 (by decide) ?_
                refine lv_iadd hx hb nd_B_open_138 ?_
                refine zb_put_n hx hb hts hown hK hG hP hS (hts _ nw_162) nd_B_open_139 (fun H locs hP hS => ?_)
                refine lv_aload hx hb nd_B_open_142 (zv_at hl 6 rfl) ?_
                refine zb_getA hx hb hts hown hK hP (by assumption) 0 (by decide) (hts _ nw_75) rfl nd_B_open_144 ?_
                refine zb_iret hx hb hr hlk nd_B_open_147 hP hS ?_
                unfold zb_open
                all_goals (try unfold zb_open2)
                all_goals (try dsimp only)
                all_goals (try rw [if_pos h_8])
                all_goals (try rw [if_neg h_18])
                all_goals (try rw [if_neg h_25])
                all_goals (try rw [if_neg h_38])
                all_goals (try rw [if_neg h_50])
                all_goals (try rw [if_pos h_62])
                all_goals (try rw [if_neg h_91])
                all_goals rfl
              · skip
                refine lv_iconst (v := -1) hx hb nd_B_open_94 (by decide) ?_
                refine zb_iret hx hb hr hlk nd_B_open_95 hP hS ?_
                unfold zb_open
                all_goals (try unfold zb_open2)
                all_goals (try dsimp only)
                all_goals (try rw [if_pos h_8])
                all_goals (try rw [if_neg h_18])
                all_goals (try rw [if_neg h_25])
                all_goals (try rw [if_neg h_38])
                all_goals (try rw [if_neg h_50])
                all_goals (try rw [if_pos h_62])
                all_goals (try rw [if_pos h_91])
                all_goals rfl
            · skip
              refine lv_bipush (v := -4) hx hb nd_B_open_65 (by decide) ?_
              refine zb_iret hx hb hr hlk nd_B_open_67 hP hS ?_
              unfold zb_open
              all_goals (try unfold zb_open2)
              all_goals (try dsimp only)
              all_goals (try rw [if_pos h_8])
              all_goals (try rw [if_neg h_18])
              all_goals (try rw [if_neg h_25])
              all_goals (try rw [if_neg h_38])
              all_goals (try rw [if_neg h_50])
              all_goals (try rw [if_neg h_62])
              all_goals rfl
          · skip
            refine lv_bipush (v := -3) hx hb nd_B_open_53 (by decide) ?_
            refine zb_iret hx hb hr hlk nd_B_open_55 hP hS ?_
            unfold zb_open
            all_goals (try unfold zb_open2)
            all_goals (try dsimp only)
            all_goals (try rw [if_pos h_8])
            all_goals (try rw [if_neg h_18])
            all_goals (try rw [if_neg h_25])
            all_goals (try rw [if_neg h_38])
            all_goals (try rw [if_pos h_50])
            all_goals rfl
      · skip
        refine lv_bipush (v := -3) hx hb nd_B_open_28 (by decide) ?_
        refine zb_iret hx hb hr hlk nd_B_open_30 hP hS ?_
        unfold zb_open
        all_goals (try unfold zb_open2)
        all_goals (try dsimp only)
        all_goals (try rw [if_pos h_8])
        all_goals (try rw [if_neg h_18])
        all_goals (try rw [if_pos h_25])
        all_goals rfl
  · skip
    refine lv_iload hx hb nd_B_open_11 (zv_at hl 5 rfl) ?_
    refine zb_iret hx hb hr hlk nd_B_open_13 hP hS ?_
    unfold zb_open
    all_goals (try unfold zb_open2)
    all_goals (try dsimp only)
    all_goals (try rw [if_neg h_8])
    all_goals rfl

set_option maxHeartbeats 4000000 in
set_option maxRecDepth 100000 in
theorem c_B_pay (l : Launch) (D : va_G) (G : zg_G) (hG : zw_apart (zb_adr G)) (S : zb_S) (hI : zb_I S) (x y a : Int32) : Met l ny_B_pay (Cond.code ny_B_pay nc_B_pay 7 (some .int) :: zw_big) ({ frames := 4, cells := 0, slots := 0, locals := 88 } : Room) (zw_P [.ref (zg_bnk G), .int x, .int y, .int a] D (zb_tys G) (zb_cells G S)) (zb_Qi D G (zb_pay S x y a)) 0 0 (zb_Ad G) := by
  refine Met.ofW (cc := nc_B_pay) (maxL := 7) (ret := (some .int)) (by decide) rfl ?_
  intro p e s m args below meth c s₁ B hml hv
  obtain ⟨rfl, hP, hK⟩ := hv
  have hx := B.exec
  have hb := B.bytes
  have hr := B.returns
  have hts0 := atoms_spec (ws := Cond.code ny_B_pay nc_B_pay 7 (some .int) :: zw_big) B.pre
  have hts : ∀ w ∈ zw_big, w.before [.ref (zg_bnk G), .int x, .int y, .int a].toArray s = true := fun w h => hts0 w (List.mem_cons_of_mem _ h)
  have hown : s.vm.findClass nR_B = some m.cls := findClass_of_methodNamed B.named
  have hlk := B.notSynchronized
  have hS : va_S (zb_Ad G) s.heap s.heap [] := va_S.rf
  have hl := lv_entry ([.ref (zg_bnk G), .int x, .int y, .int a]) (n := 7) (Nat.le_of_ble_eq_true rfl)
  rw [lg_entry_eq]
  generalize (lg_sl ([.ref (zg_bnk G), .int x, .int y, .int a]) ++ List.replicate (7 - (lg_sl ([.ref (zg_bnk G), .int x, .int y, .int a])).length) Slot.unset).toArray = ls at hl ⊢
  have hl : lv_has ls 7 [(0, .ref (zg_bnk G)), (1, .int x), (2, .int y), (3, .int a)] := hl
  have hF : CallFix p m c nc_B_pay 7 s [.ref (zg_bnk G), .int x, .int y, .int a].toArray zw_big nR_B := ⟨hx, hb, hml, hown, hts⟩
  refine lv_aload_n hx hb nd_B_pay_0 rfl (zv_at hl 0 rfl) ?_
  refine zw_vR (As := []) (rest := _) hF (c_B_refusalOfChange l D G _) (zw_preV hP hK (q0 := 0) (ci := 0) rfl rfl rfl) nk_B_refusalOfChange nw_193 ⟨rfl, rfl, Nat.le_of_ble_eq_true rfl, Nat.le_of_ble_eq_true rfl⟩ rfl hl.1 rfl (Nat.le_of_ble_eq_true rfl) ⟨Nat.zero_le _, Nat.zero_le _⟩ nd_B_pay_1 ?_
  refine lv_istore hx hb nd_B_pay_4 hl (by decide) rfl (fun ls hl => ?_)
  refine lv_iload hx hb nd_B_pay_6 (zv_at hl 4 rfl) ?_
  refine lv_if_eq (tgt := 14) hx hb nd_B_pay_8 (by decide) (fun h_8 => ?_) (fun h_8 => ?_)
  · skip
    refine lv_aload_n hx hb nd_B_pay_14 rfl (zv_at hl 0 rfl) ?_
    refine lv_iload_n hx hb nd_B_pay_15 rfl (zv_at hl 1 rfl) ?_
    refine lv_iload_n hx hb nd_B_pay_16 rfl (zv_at hl 2 rfl) ?_
    refine zw_vR (As := [_, _]) (rest := _) hF (c_B_isPayable l D G _ (by exact hI) _ _) (zw_preV hP hK (q0 := 0) (ci := 0) rfl rfl rfl) nk_B_isPayable nw_236 ⟨rfl, rfl, Nat.le_of_ble_eq_true rfl, Nat.le_of_ble_eq_true rfl⟩ rfl hl.1 rfl (Nat.le_of_ble_eq_true rfl) ⟨Nat.zero_le _, Nat.zero_le _⟩ nd_B_pay_17 ?_
    refine lv_if_eq (tgt := 30) hx hb nd_B_pay_20 (by decide) (fun h_20 => ?_) (fun h_20 => ?_)
    · skip
      refine lv_bipush (v := -3) hx hb nd_B_pay_30 (by decide) ?_
      refine zb_iret hx hb hr hlk nd_B_pay_32 hP hS ?_
      unfold zb_pay
      all_goals (try unfold zb_pay2)
      all_goals (try unfold zb_pay3)
      all_goals (try dsimp only)
      all_goals (try rw [if_pos h_8])
      all_goals (try rw [if_pos h_20])
      all_goals rfl
    · skip
      refine lv_iload_n hx hb nd_B_pay_23 rfl (zv_at hl 3 rfl) ?_
      refine zw_sR (As := [_]) (rest := _) hF (c_B_isAmount l _) zw_preN nk_B_isAmount nw_248 ⟨rfl, rfl, Nat.le_of_ble_eq_true rfl, Nat.le_of_ble_eq_true rfl⟩ rfl hl.1 rfl (Nat.le_of_ble_eq_true rfl) ⟨Nat.zero_le _, Nat.zero_le _⟩ nd_B_pay_24 ?_
      refine lv_if_ne (tgt := 33) hx hb nd_B_pay_27 (by decide) (fun h_27 => ?_) (fun h_27 => ?_)
      · skip
        refine lv_aload_n hx hb nd_B_pay_33 rfl (zv_at hl 0 rfl) ?_
        refine lv_iload_n hx hb nd_B_pay_34 rfl (zv_at hl 1 rfl) ?_
        refine zw_vR (As := [_]) (rest := _) hF (c_B_accountOf l D G _ (by exact hI) _) (zw_preV hP hK (q0 := 0) (ci := 0) rfl rfl rfl) nk_B_accountOf nw_244 ⟨rfl, rfl, Nat.le_of_ble_eq_true rfl, Nat.le_of_ble_eq_true rfl⟩ rfl hl.1 rfl (Nat.le_of_ble_eq_true rfl) ⟨Nat.zero_le _, Nat.zero_le _⟩ nd_B_pay_35 ?_
        refine zw_split (fun hj_35 => ?_) (fun j_35 hj_35 => ?_)
        · skip
          refine lv_astoreN hx hb nd_B_pay_38 hl (by decide) rfl (fun ls hl => ?_)
          refine lv_aload_n hx hb nd_B_pay_40 rfl (zv_at hl 0 rfl) ?_
          refine lv_iload_n hx hb nd_B_pay_41 rfl (zv_at hl 2 rfl) ?_
          refine zw_vR (As := [_]) (rest := _) hF (c_B_accountOf l D G _ (by exact hI) _) (zw_preV hP hK (q0 := 0) (ci := 0) rfl rfl rfl) nk_B_accountOf nw_244 ⟨rfl, rfl, Nat.le_of_ble_eq_true rfl, Nat.le_of_ble_eq_true rfl⟩ rfl hl.1 rfl (Nat.le_of_ble_eq_true rfl) ⟨Nat.zero_le _, Nat.zero_le _⟩ nd_B_pay_42 ?_
          refine zw_split (fun hj_42 => ?_) (fun j_42 hj_42 => ?_)
          · skip
            refine lv_astoreN hx hb nd_B_pay_45 hl (by decide) rfl (fun ls hl => ?_)
            refine lv_aloadN hx hb nd_B_pay_47 (zv_at hl 5 rfl) ?_
            refine lv_ifnullN (tgt := 66) hx hb nd_B_pay_49 (by decide) ?_
            refine lv_aload_n hx hb nd_B_pay_66 rfl (zv_at hl 0 rfl) ?_
            refine zb_getB hx hb hts hown hK hP 4 (by decide) (hts _ nw_159) rfl nd_B_pay_67 ?_
            refine lv_aloadN hx hb nd_B_pay_70 (zv_at hl 5 rfl) ?_
            refine zw_sR (As := [_]) (rest := _) hF (c_B_bitOfN l D G _) (zw_preS hP hK) nk_B_bitOf nw_207 ⟨rfl, rfl, Nat.le_of_ble_eq_true rfl, Nat.le_of_ble_eq_true rfl⟩ rfl hl.1 rfl (Nat.le_of_ble_eq_true rfl) ⟨Nat.zero_le _, Nat.zero_le _⟩ nd_B_pay_72 ?_
            refine lv_aloadN hx hb nd_B_pay_75 (zv_at hl 6 rfl) ?_
            refine zw_sR (As := [_]) (rest := _) hF (c_B_bitOfN l D G _) (zw_preS hP hK) nk_B_bitOf nw_207 ⟨rfl, rfl, Nat.le_of_ble_eq_true rfl, Nat.le_of_ble_eq_true rfl⟩ rfl hl.1 rfl (Nat.le_of_ble_eq_true rfl) ⟨Nat.zero_le _, Nat.zero_le _⟩ nd_B_pay_77 ?_
            refine lv_ior hx hb nd_B_pay_80 ?_
            refine zb_vWi (As := [_]) (rest := _) hF (c_D_writeTransaction l D G hG _ _) (zw_preV hP hK (q0 := 5) (ci := 5) rfl rfl rfl) nk_D_writeTransaction nw_210 ⟨rfl, rfl, Nat.le_of_ble_eq_true rfl, Nat.le_of_ble_eq_true rfl⟩ rfl hl.1 rfl (Nat.le_of_ble_eq_true rfl) ⟨Nat.zero_le _, Nat.zero_le _⟩ nd_B_pay_81 hS (fun H locs hP hS => ?_)
            refine lv_if_ne (tgt := 89) hx hb nd_B_pay_84 (by decide) (fun h_84 => ?_) (fun h_84 => ?_)
            · skip
              refine lv_aload_n hx hb nd_B_pay_89 rfl (zv_at hl 0 rfl) ?_
              refine lv_aloadN hx hb nd_B_pay_90 (zv_at hl 5 rfl) ?_
              refine lv_aloadN hx hb nd_B_pay_92 (zv_at hl 6 rfl) ?_
              refine lv_iload_n hx hb nd_B_pay_94 rfl (zv_at hl 3 rfl) ?_
              refine zb_vWv (As := [_, _, _]) (rest := _) hF (c_B_transferNN l D G hG _ (by first | exact hI | exact zb_I_end hI) _) (zw_preV hP hK (q0 := 0) (ci := 0) rfl rfl rfl) nk_B_transfer nw_255 ⟨rfl, rfl, Nat.le_of_ble_eq_true rfl, Nat.le_of_ble_eq_true rfl⟩ rfl hl.1 rfl (Nat.le_of_ble_eq_true rfl) ⟨Nat.zero_le _, Nat.zero_le _⟩ nd_B_pay_95 hS (fun H locs hP hS => ?_)
              refine lv_iconst (v := 0) hx hb nd_B_pay_98 (by decide) ?_
              refine zb_iret hx hb hr hlk nd_B_pay_99 hP hS ?_
              unfold zb_pay
              all_goals (try unfold zb_pay2)
              all_goals (try unfold zb_pay3)
              all_goals (try dsimp only)
              all_goals (try rw [if_pos h_8])
              all_goals (try rw [if_neg h_20])
              all_goals (try rw [if_neg h_27])
              all_goals (try rw [hj_35])
              all_goals (try dsimp only)
              all_goals (try rw [hj_42])
              all_goals (try dsimp only)
              all_goals (try rw [if_neg h_84])
              all_goals rfl
            · skip
              refine lv_iconst (v := -1) hx hb nd_B_pay_87 (by decide) ?_
              refine zb_iret hx hb hr hlk nd_B_pay_88 hP hS ?_
              unfold zb_pay
              all_goals (try unfold zb_pay2)
              all_goals (try unfold zb_pay3)
              all_goals (try dsimp only)
              all_goals (try rw [if_pos h_8])
              all_goals (try rw [if_neg h_20])
              all_goals (try rw [if_neg h_27])
              all_goals (try rw [hj_35])
              all_goals (try dsimp only)
              all_goals (try rw [hj_42])
              all_goals (try dsimp only)
              all_goals (try rw [if_pos h_84])
              all_goals rfl
          · skip
            have hj6b : j_42 < 6 := zb_accOf_lt hI hj_42
            refine lv_astore hx hb nd_B_pay_45 hl (by decide) rfl (fun ls hl => ?_)
            refine lv_aloadN hx hb nd_B_pay_47 (zv_at hl 5 rfl) ?_
            refine lv_ifnullN (tgt := 66) hx hb nd_B_pay_49 (by decide) ?_
            refine lv_aload_n hx hb nd_B_pay_66 rfl (zv_at hl 0 rfl) ?_
            refine zb_getB hx hb hts hown hK hP 4 (by decide) (hts _ nw_159) rfl nd_B_pay_67 ?_
            refine lv_aloadN hx hb nd_B_pay_70 (zv_at hl 5 rfl) ?_
            refine zw_sR (As := [_]) (rest := _) hF (c_B_bitOfN l D G _) (zw_preS hP hK) nk_B_bitOf nw_207 ⟨rfl, rfl, Nat.le_of_ble_eq_true rfl, Nat.le_of_ble_eq_true rfl⟩ rfl hl.1 rfl (Nat.le_of_ble_eq_true rfl) ⟨Nat.zero_le _, Nat.zero_le _⟩ nd_B_pay_72 ?_
            refine lv_aload hx hb nd_B_pay_75 (zv_at hl 6 rfl) ?_
            refine zw_sR (As := [_]) (rest := _) hF (c_B_bitOf l D G _ _ (by assumption)) (zw_preS hP hK) nk_B_bitOf nw_207 ⟨rfl, rfl, Nat.le_of_ble_eq_true rfl, Nat.le_of_ble_eq_true rfl⟩ rfl hl.1 rfl (Nat.le_of_ble_eq_true rfl) ⟨Nat.zero_le _, Nat.zero_le _⟩ nd_B_pay_77 ?_
            refine lv_ior hx hb nd_B_pay_80 ?_
            refine zb_vWi (As := [_]) (rest := _) hF (c_D_writeTransaction l D G hG _ _) (zw_preV hP hK (q0 := 5) (ci := 5) rfl rfl rfl) nk_D_writeTransaction nw_210 ⟨rfl, rfl, Nat.le_of_ble_eq_true rfl, Nat.le_of_ble_eq_true rfl⟩ rfl hl.1 rfl (Nat.le_of_ble_eq_true rfl) ⟨Nat.zero_le _, Nat.zero_le _⟩ nd_B_pay_81 hS (fun H locs hP hS => ?_)
            refine lv_if_ne (tgt := 89) hx hb nd_B_pay_84 (by decide) (fun h_84 => ?_) (fun h_84 => ?_)
            · skip
              refine lv_aload_n hx hb nd_B_pay_89 rfl (zv_at hl 0 rfl) ?_
              refine lv_aloadN hx hb nd_B_pay_90 (zv_at hl 5 rfl) ?_
              refine lv_aload hx hb nd_B_pay_92 (zv_at hl 6 rfl) ?_
              refine lv_iload_n hx hb nd_B_pay_94 rfl (zv_at hl 3 rfl) ?_
              refine zb_vWv (As := [_, _, _]) (rest := _) hF (c_B_transferNA l D G hG _ (by first | exact hI | exact zb_I_end hI) _ (by assumption) _) (zw_preV hP hK (q0 := 0) (ci := 0) rfl rfl rfl) nk_B_transfer nw_255 ⟨rfl, rfl, Nat.le_of_ble_eq_true rfl, Nat.le_of_ble_eq_true rfl⟩ rfl hl.1 rfl (Nat.le_of_ble_eq_true rfl) ⟨Nat.zero_le _, Nat.zero_le _⟩ nd_B_pay_95 hS (fun H locs hP hS => ?_)
              refine lv_iconst (v := 0) hx hb nd_B_pay_98 (by decide) ?_
              refine zb_iret hx hb hr hlk nd_B_pay_99 hP hS ?_
              unfold zb_pay
              all_goals (try unfold zb_pay2)
              all_goals (try unfold zb_pay3)
              all_goals (try dsimp only)
              all_goals (try rw [if_pos h_8])
              all_goals (try rw [if_neg h_20])
              all_goals (try rw [if_neg h_27])
              all_goals (try rw [hj_35])
              all_goals (try dsimp only)
              all_goals (try rw [hj_42])
              all_goals (try dsimp only)
              all_goals (try rw [if_neg h_84])
              all_goals rfl
            · skip
              refine lv_iconst (v := -1) hx hb nd_B_pay_87 (by decide) ?_
              refine zb_iret hx hb hr hlk nd_B_pay_88 hP hS ?_
              unfold zb_pay
              all_goals (try unfold zb_pay2)
              all_goals (try unfold zb_pay3)
              all_goals (try dsimp only)
              all_goals (try rw [if_pos h_8])
              all_goals (try rw [if_neg h_20])
              all_goals (try rw [if_neg h_27])
              all_goals (try rw [hj_35])
              all_goals (try dsimp only)
              all_goals (try rw [hj_42])
              all_goals (try dsimp only)
              all_goals (try rw [if_pos h_84])
              all_goals rfl
        · skip
          have hj6a : j_35 < 6 := zb_accOf_lt hI hj_35
          refine lv_astore hx hb nd_B_pay_38 hl (by decide) rfl (fun ls hl => ?_)
          refine lv_aload_n hx hb nd_B_pay_40 rfl (zv_at hl 0 rfl) ?_
          refine lv_iload_n hx hb nd_B_pay_41 rfl (zv_at hl 2 rfl) ?_
          refine zw_vR (As := [_]) (rest := _) hF (c_B_accountOf l D G _ (by exact hI) _) (zw_preV hP hK (q0 := 0) (ci := 0) rfl rfl rfl) nk_B_accountOf nw_244 ⟨rfl, rfl, Nat.le_of_ble_eq_true rfl, Nat.le_of_ble_eq_true rfl⟩ rfl hl.1 rfl (Nat.le_of_ble_eq_true rfl) ⟨Nat.zero_le _, Nat.zero_le _⟩ nd_B_pay_42 ?_
          refine zw_split (fun hj_42 => ?_) (fun j_42 hj_42 => ?_)
          · skip
            refine lv_astoreN hx hb nd_B_pay_45 hl (by decide) rfl (fun ls hl => ?_)
            refine lv_aload hx hb nd_B_pay_47 (zv_at hl 5 rfl) ?_
            refine lv_ifnull hx hb nd_B_pay_49 ?_
            refine lv_iload_n hx hb nd_B_pay_52 rfl (zv_at hl 3 rfl) ?_
            refine lv_i2l (v := _) hx hb nd_B_pay_53 rfl ?_
            refine lv_aload hx hb nd_B_pay_54 (zv_at hl 5 rfl) ?_
            refine zw_vR (As := []) (rest := _) hF (c_A_spendable l D G _ _ (by assumption)) (zw_preV hP hK (ci := 1) rfl (zb_atA (by assumption)) rfl) nk_A_spendable nw_251 ⟨rfl, rfl, Nat.le_of_ble_eq_true rfl, Nat.le_of_ble_eq_true rfl⟩ rfl hl.1 rfl (Nat.le_of_ble_eq_true rfl) ⟨Nat.zero_le _, Nat.zero_le _⟩ nd_B_pay_56 ?_
            refine W.lcmp hx hb nd_B_pay_59 ?_
            refine lv_if_le (tgt := 66) hx hb nd_B_pay_60 (by decide) (fun h_60 => ?_) (fun h_60 => ?_)
            · skip
              have h_60 := (lg_cmp_le _ _).mp h_60
              refine lv_aload_n hx hb nd_B_pay_66 rfl (zv_at hl 0 rfl) ?_
              refine zb_getB hx hb hts hown hK hP 4 (by decide) (hts _ nw_159) rfl nd_B_pay_67 ?_
              refine lv_aload hx hb nd_B_pay_70 (zv_at hl 5 rfl) ?_
              refine zw_sR (As := [_]) (rest := _) hF (c_B_bitOf l D G _ _ (by assumption)) (zw_preS hP hK) nk_B_bitOf nw_207 ⟨rfl, rfl, Nat.le_of_ble_eq_true rfl, Nat.le_of_ble_eq_true rfl⟩ rfl hl.1 rfl (Nat.le_of_ble_eq_true rfl) ⟨Nat.zero_le _, Nat.zero_le _⟩ nd_B_pay_72 ?_
              refine lv_aloadN hx hb nd_B_pay_75 (zv_at hl 6 rfl) ?_
              refine zw_sR (As := [_]) (rest := _) hF (c_B_bitOfN l D G _) (zw_preS hP hK) nk_B_bitOf nw_207 ⟨rfl, rfl, Nat.le_of_ble_eq_true rfl, Nat.le_of_ble_eq_true rfl⟩ rfl hl.1 rfl (Nat.le_of_ble_eq_true rfl) ⟨Nat.zero_le _, Nat.zero_le _⟩ nd_B_pay_77 ?_
              refine lv_ior hx hb nd_B_pay_80 ?_
              refine zb_vWi (As := [_]) (rest := _) hF (c_D_writeTransaction l D G hG _ _) (zw_preV hP hK (q0 := 5) (ci := 5) rfl rfl rfl) nk_D_writeTransaction nw_210 ⟨rfl, rfl, Nat.le_of_ble_eq_true rfl, Nat.le_of_ble_eq_true rfl⟩ rfl hl.1 rfl (Nat.le_of_ble_eq_true rfl) ⟨Nat.zero_le _, Nat.zero_le _⟩ nd_B_pay_81 hS (fun H locs hP hS => ?_)
              refine lv_if_ne (tgt := 89) hx hb nd_B_pay_84 (by decide) (fun h_84 => ?_) (fun h_84 => ?_)
              · skip
                refine lv_aload_n hx hb nd_B_pay_89 rfl (zv_at hl 0 rfl) ?_
                refine lv_aload hx hb nd_B_pay_90 (zv_at hl 5 rfl) ?_
                refine lv_aloadN hx hb nd_B_pay_92 (zv_at hl 6 rfl) ?_
                refine lv_iload_n hx hb nd_B_pay_94 rfl (zv_at hl 3 rfl) ?_
                refine zb_vWv (As := [_, _, _]) (rest := _) hF (c_B_transferAN l D G hG _ (by first | exact hI | exact zb_I_end hI) _ (by assumption) _) (zw_preV hP hK (q0 := 0) (ci := 0) rfl rfl rfl) nk_B_transfer nw_255 ⟨rfl, rfl, Nat.le_of_ble_eq_true rfl, Nat.le_of_ble_eq_true rfl⟩ rfl hl.1 rfl (Nat.le_of_ble_eq_true rfl) ⟨Nat.zero_le _, Nat.zero_le _⟩ nd_B_pay_95 hS (fun H locs hP hS => ?_)
                refine lv_iconst (v := 0) hx hb nd_B_pay_98 (by decide) ?_
                refine zb_iret hx hb hr hlk nd_B_pay_99 hP hS ?_
                unfold zb_pay
                all_goals (try unfold zb_pay2)
                all_goals (try unfold zb_pay3)
                all_goals (try dsimp only)
                all_goals (try rw [if_pos h_8])
                all_goals (try rw [if_neg h_20])
                all_goals (try rw [if_neg h_27])
                all_goals (try rw [hj_35])
                all_goals (try dsimp only)
                all_goals (try rw [hj_42])
                all_goals (try dsimp only)
                all_goals (try rw [if_pos h_60])
                all_goals (try rw [if_neg h_84])
                all_goals rfl
              · skip
                refine lv_iconst (v := -1) hx hb nd_B_pay_87 (by decide) ?_
                refine zb_iret hx hb hr hlk nd_B_pay_88 hP hS ?_
                unfold zb_pay
                all_goals (try unfold zb_pay2)
                all_goals (try unfold zb_pay3)
                all_goals (try dsimp only)
                all_goals (try rw [if_pos h_8])
                all_goals (try rw [if_neg h_20])
                all_goals (try rw [if_neg h_27])
                all_goals (try rw [hj_35])
                all_goals (try dsimp only)
                all_goals (try rw [hj_42])
                all_goals (try dsimp only)
                all_goals (try rw [if_pos h_60])
                all_goals (try rw [if_pos h_84])
                all_goals rfl
            · skip
              have h_60 := (show ¬ _ from fun q => h_60 ((lg_cmp_le _ _).mpr q))
              refine lv_bipush (v := -5) hx hb nd_B_pay_63 (by decide) ?_
              refine zb_iret hx hb hr hlk nd_B_pay_65 hP hS ?_
              unfold zb_pay
              all_goals (try unfold zb_pay2)
              all_goals (try unfold zb_pay3)
              all_goals (try dsimp only)
              all_goals (try rw [if_pos h_8])
              all_goals (try rw [if_neg h_20])
              all_goals (try rw [if_neg h_27])
              all_goals (try rw [hj_35])
              all_goals (try dsimp only)
              all_goals (try rw [hj_42])
              all_goals (try dsimp only)
              all_goals (try rw [if_neg h_60])
              all_goals rfl
          · skip
            have hj6b : j_42 < 6 := zb_accOf_lt hI hj_42
            refine lv_astore hx hb nd_B_pay_45 hl (by decide) rfl (fun ls hl => ?_)
            refine lv_aload hx hb nd_B_pay_47 (zv_at hl 5 rfl) ?_
            refine lv_ifnull hx hb nd_B_pay_49 ?_
            refine lv_iload_n hx hb nd_B_pay_52 rfl (zv_at hl 3 rfl) ?_
            refine lv_i2l (v := _) hx hb nd_B_pay_53 rfl ?_
            refine lv_aload hx hb nd_B_pay_54 (zv_at hl 5 rfl) ?_
            refine zw_vR (As := []) (rest := _) hF (c_A_spendable l D G _ _ (by assumption)) (zw_preV hP hK (ci := 1) rfl (zb_atA (by assumption)) rfl) nk_A_spendable nw_251 ⟨rfl, rfl, Nat.le_of_ble_eq_true rfl, Nat.le_of_ble_eq_true rfl⟩ rfl hl.1 rfl (Nat.le_of_ble_eq_true rfl) ⟨Nat.zero_le _, Nat.zero_le _⟩ nd_B_pay_56 ?_
            refine W.lcmp hx hb nd_B_pay_59 ?_
            refine lv_if_le (tgt := 66) hx hb nd_B_pay_60 (by decide) (fun h_60 => ?_) (fun h_60 => ?_)
            · skip
              have h_60 := (lg_cmp_le _ _).mp h_60
              refine lv_aload_n hx hb nd_B_pay_66 rfl (zv_at hl 0 rfl) ?_
              refine zb_getB hx hb hts hown hK hP 4 (by decide) (hts _ nw_159) rfl nd_B_pay_67 ?_
              refine lv_aload hx hb nd_B_pay_70 (zv_at hl 5 rfl) ?_
              refine zw_sR (As := [_]) (rest := _) hF (c_B_bitOf l D G _ _ (by assumption)) (zw_preS hP hK) nk_B_bitOf nw_207 ⟨rfl, rfl, Nat.le_of_ble_eq_true rfl, Nat.le_of_ble_eq_true rfl⟩ rfl hl.1 rfl (Nat.le_of_ble_eq_true rfl) ⟨Nat.zero_le _, Nat.zero_le _⟩ nd_B_pay_72 ?_
              refine lv_aload hx hb nd_B_pay_75 (zv_at hl 6 rfl) ?_
              refine zw_sR (As := [_]) (rest := _) hF (c_B_bitOf l D G _ _ (by assumption)) (zw_preS hP hK) nk_B_bitOf nw_207 ⟨rfl, rfl, Nat.le_of_ble_eq_true rfl, Nat.le_of_ble_eq_true rfl⟩ rfl hl.1 rfl (Nat.le_of_ble_eq_true rfl) ⟨Nat.zero_le _, Nat.zero_le _⟩ nd_B_pay_77 ?_
              refine lv_ior hx hb nd_B_pay_80 ?_
              refine zb_vWi (As := [_]) (rest := _) hF (c_D_writeTransaction l D G hG _ _) (zw_preV hP hK (q0 := 5) (ci := 5) rfl rfl rfl) nk_D_writeTransaction nw_210 ⟨rfl, rfl, Nat.le_of_ble_eq_true rfl, Nat.le_of_ble_eq_true rfl⟩ rfl hl.1 rfl (Nat.le_of_ble_eq_true rfl) ⟨Nat.zero_le _, Nat.zero_le _⟩ nd_B_pay_81 hS (fun H locs hP hS => ?_)
              refine lv_if_ne (tgt := 89) hx hb nd_B_pay_84 (by decide) (fun h_84 => ?_) (fun h_84 => ?_)
              · skip
                refine lv_aload_n hx hb nd_B_pay_89 rfl (zv_at hl 0 rfl) ?_
                refine lv_aload hx hb nd_B_pay_90 (zv_at hl 5 rfl) ?_
                refine lv_aload hx hb nd_B_pay_92 (zv_at hl 6 rfl) ?_
                refine lv_iload_n hx hb nd_B_pay_94 rfl (zv_at hl 3 rfl) ?_
                refine zb_vWv (As := [_, _, _]) (rest := _) hF (c_B_transferAA l D G hG _ (by first | exact hI | exact zb_I_end hI) _ (by assumption) _ (by assumption) _) (zw_preV hP hK (q0 := 0) (ci := 0) rfl rfl rfl) nk_B_transfer nw_255 ⟨rfl, rfl, Nat.le_of_ble_eq_true rfl, Nat.le_of_ble_eq_true rfl⟩ rfl hl.1 rfl (Nat.le_of_ble_eq_true rfl) ⟨Nat.zero_le _, Nat.zero_le _⟩ nd_B_pay_95 hS (fun H locs hP hS => ?_)
                refine lv_iconst (v := 0) hx hb nd_B_pay_98 (by decide) ?_
                refine zb_iret hx hb hr hlk nd_B_pay_99 hP hS ?_
                unfold zb_pay
                all_goals (try unfold zb_pay2)
                all_goals (try unfold zb_pay3)
                all_goals (try dsimp only)
                all_goals (try rw [if_pos h_8])
                all_goals (try rw [if_neg h_20])
                all_goals (try rw [if_neg h_27])
                all_goals (try rw [hj_35])
                all_goals (try dsimp only)
                all_goals (try rw [hj_42])
                all_goals (try dsimp only)
                all_goals (try rw [if_pos h_60])
                all_goals (try rw [if_neg h_84])
                all_goals rfl
              · skip
                refine lv_iconst (v := -1) hx hb nd_B_pay_87 (by decide) ?_
                refine zb_iret hx hb hr hlk nd_B_pay_88 hP hS ?_
                unfold zb_pay
                all_goals (try unfold zb_pay2)
                all_goals (try unfold zb_pay3)
                all_goals (try dsimp only)
                all_goals (try rw [if_pos h_8])
                all_goals (try rw [if_neg h_20])
                all_goals (try rw [if_neg h_27])
                all_goals (try rw [hj_35])
                all_goals (try dsimp only)
                all_goals (try rw [hj_42])
                all_goals (try dsimp only)
                all_goals (try rw [if_pos h_60])
                all_goals (try rw [if_pos h_84])
                all_goals rfl
            · skip
              have h_60 := (show ¬ _ from fun q => h_60 ((lg_cmp_le _ _).mpr q))
              refine lv_bipush (v := -5) hx hb nd_B_pay_63 (by decide) ?_
              refine zb_iret hx hb hr hlk nd_B_pay_65 hP hS ?_
              unfold zb_pay
              all_goals (try unfold zb_pay2)
              all_goals (try unfold zb_pay3)
              all_goals (try dsimp only)
              all_goals (try rw [if_pos h_8])
              all_goals (try rw [if_neg h_20])
              all_goals (try rw [if_neg h_27])
              all_goals (try rw [hj_35])
              all_goals (try dsimp only)
              all_goals (try rw [hj_42])
              all_goals (try dsimp only)
              all_goals (try rw [if_neg h_60])
              all_goals rfl
      · skip
        refine lv_bipush (v := -3) hx hb nd_B_pay_30 (by decide) ?_
        refine zb_iret hx hb hr hlk nd_B_pay_32 hP hS ?_
        unfold zb_pay
        all_goals (try unfold zb_pay2)
        all_goals (try unfold zb_pay3)
        all_goals (try dsimp only)
        all_goals (try rw [if_pos h_8])
        all_goals (try rw [if_neg h_20])
        all_goals (try rw [if_pos h_27])
        all_goals rfl
  · skip
    refine lv_iload hx hb nd_B_pay_11 (zv_at hl 4 rfl) ?_
    refine zb_iret hx hb hr hlk nd_B_pay_13 hP hS ?_
    unfold zb_pay
    all_goals (try unfold zb_pay2)
    all_goals (try unfold zb_pay3)
    all_goals (try dsimp only)
    all_goals (try rw [if_neg h_8])
    all_goals rfl

set_option maxHeartbeats 4000000 in
set_option maxRecDepth 100000 in
theorem c_B_hold (l : Launch) (D : va_G) (G : zg_G) (hG : zw_apart (zb_adr G)) (S : zb_S) (hI : zb_I S) (x a : Int32) : Met l ny_B_hold (Cond.code ny_B_hold nc_B_hold 6 (some .int) :: zw_big) ({ frames := 4, cells := 0, slots := 0, locals := 86 } : Room) (zw_P [.ref (zg_bnk G), .int x, .int a] D (zb_tys G) (zb_cells G S)) (zb_Qi D G (zb_hold S x a)) 0 0 (zb_Ad G) := by
  refine Met.ofW (cc := nc_B_hold) (maxL := 6) (ret := (some .int)) (by decide) rfl ?_
  intro p e s m args below meth c s₁ B hml hv
  obtain ⟨rfl, hP, hK⟩ := hv
  have hx := B.exec
  have hb := B.bytes
  have hr := B.returns
  have hts0 := atoms_spec (ws := Cond.code ny_B_hold nc_B_hold 6 (some .int) :: zw_big) B.pre
  have hts : ∀ w ∈ zw_big, w.before [.ref (zg_bnk G), .int x, .int a].toArray s = true := fun w h => hts0 w (List.mem_cons_of_mem _ h)
  have hown : s.vm.findClass nR_B = some m.cls := findClass_of_methodNamed B.named
  have hlk := B.notSynchronized
  have hS : va_S (zb_Ad G) s.heap s.heap [] := va_S.rf
  have hl := lv_entry ([.ref (zg_bnk G), .int x, .int a]) (n := 6) (Nat.le_of_ble_eq_true rfl)
  rw [lg_entry_eq]
  generalize (lg_sl ([.ref (zg_bnk G), .int x, .int a]) ++ List.replicate (6 - (lg_sl ([.ref (zg_bnk G), .int x, .int a])).length) Slot.unset).toArray = ls at hl ⊢
  have hl : lv_has ls 6 [(0, .ref (zg_bnk G)), (1, .int x), (2, .int a)] := hl
  have hF : CallFix p m c nc_B_hold 6 s [.ref (zg_bnk G), .int x, .int a].toArray zw_big nR_B := ⟨hx, hb, hml, hown, hts⟩
  refine lv_aload_n hx hb nd_B_hold_0 rfl (zv_at hl 0 rfl) ?_
  refine zw_vR (As := []) (rest := _) hF (c_B_refusalOfChange l D G _) (zw_preV hP hK (q0 := 0) (ci := 0) rfl rfl rfl) nk_B_refusalOfChange nw_193 ⟨rfl, rfl, Nat.le_of_ble_eq_true rfl, Nat.le_of_ble_eq_true rfl⟩ rfl hl.1 rfl (Nat.le_of_ble_eq_true rfl) ⟨Nat.zero_le _, Nat.zero_le _⟩ nd_B_hold_1 ?_
  refine lv_istore_n hx hb nd_B_hold_4 rfl hl (by decide) rfl (fun ls hl => ?_)
  refine lv_iload_n hx hb nd_B_hold_5 rfl (zv_at hl 3 rfl) ?_
  refine lv_if_eq (tgt := 11) hx hb nd_B_hold_6 (by decide) (fun h_6 => ?_) (fun h_6 => ?_)
  · skip
    refine lv_aload_n hx hb nd_B_hold_11 rfl (zv_at hl 0 rfl) ?_
    refine lv_iload_n hx hb nd_B_hold_12 rfl (zv_at hl 1 rfl) ?_
    refine zw_vR (As := [_]) (rest := _) hF (c_B_accountOf l D G _ (by exact hI) _) (zw_preV hP hK (q0 := 0) (ci := 0) rfl rfl rfl) nk_B_accountOf nw_244 ⟨rfl, rfl, Nat.le_of_ble_eq_true rfl, Nat.le_of_ble_eq_true rfl⟩ rfl hl.1 rfl (Nat.le_of_ble_eq_true rfl) ⟨Nat.zero_le _, Nat.zero_le _⟩ nd_B_hold_13 ?_
    refine zw_split (fun hj_13 => ?_) (fun j_13 hj_13 => ?_)
    · skip
      refine lv_astoreN hx hb nd_B_hold_16 hl (by decide) rfl (fun ls hl => ?_)
      refine lv_aloadN hx hb nd_B_hold_18 (zv_at hl 4 rfl) ?_
      refine lv_ifnullN (tgt := 30) hx hb nd_B_hold_20 (by decide) ?_
      refine lv_bipush (v := -3) hx hb nd_B_hold_30 (by decide) ?_
      refine zb_iret hx hb hr hlk nd_B_hold_32 hP hS ?_
      unfold zb_hold
      all_goals (try unfold zb_hold2)
      all_goals (try dsimp only)
      all_goals (try rw [if_pos h_6])
      all_goals (try rw [hj_13])
      all_goals (try dsimp only)
      all_goals rfl
    · skip
      have hj6 : j_13 < 6 := zb_accOf_lt hI hj_13
      refine lv_astore hx hb nd_B_hold_16 hl (by decide) rfl (fun ls hl => ?_)
      refine lv_aload hx hb nd_B_hold_18 (zv_at hl 4 rfl) ?_
      refine lv_ifnull hx hb nd_B_hold_20 ?_
      refine lv_iload_n hx hb nd_B_hold_23 rfl (zv_at hl 2 rfl) ?_
      refine zw_sR (As := [_]) (rest := _) hF (c_B_isAmount l _) zw_preN nk_B_isAmount nw_248 ⟨rfl, rfl, Nat.le_of_ble_eq_true rfl, Nat.le_of_ble_eq_true rfl⟩ rfl hl.1 rfl (Nat.le_of_ble_eq_true rfl) ⟨Nat.zero_le _, Nat.zero_le _⟩ nd_B_hold_24 ?_
      refine lv_if_ne (tgt := 33) hx hb nd_B_hold_27 (by decide) (fun h_27 => ?_) (fun h_27 => ?_)
      · skip
        refine lv_aload_n hx hb nd_B_hold_33 rfl (zv_at hl 0 rfl) ?_
        refine zw_vR (As := []) (rest := _) hF (c_B_leastFreeHold l D G _) (zw_preV hP hK (q0 := 0) (ci := 0) rfl rfl rfl) nk_B_leastFreeHold nw_263 ⟨rfl, rfl, Nat.le_of_ble_eq_true rfl, Nat.le_of_ble_eq_true rfl⟩ rfl hl.1 rfl (Nat.le_of_ble_eq_true rfl) ⟨Nat.zero_le _, Nat.zero_le _⟩ nd_B_hold_34 ?_
        refine lv_istore hx hb nd_B_hold_37 hl (by decide) rfl (fun ls hl => ?_)
        refine lv_iload hx hb nd_B_hold_39 (zv_at hl 5 rfl) ?_
        refine lv_bipush (v := 8) hx hb nd_B_hold_41 (by decide) ?_
        refine lv_icmp_lt (tgt := 49) hx hb nd_B_hold_43 (by decide) (fun h_43 => ?_) (fun h_43 => ?_)
        · skip
          have hk8 : zb_free (zb_hol S) 8 0 < 8 := zb_free_lt h_43
          refine lv_iload_n hx hb nd_B_hold_49 rfl (zv_at hl 2 rfl) ?_
          refine lv_i2l (v := _) hx hb nd_B_hold_50 rfl ?_
          refine lv_aload hx hb nd_B_hold_51 (zv_at hl 4 rfl) ?_
          refine zw_vR (As := []) (rest := _) hF (c_A_spendable l D G _ _ (by assumption)) (zw_preV hP hK (ci := 1) rfl (zb_atA (by assumption)) rfl) nk_A_spendable nw_251 ⟨rfl, rfl, Nat.le_of_ble_eq_true rfl, Nat.le_of_ble_eq_true rfl⟩ rfl hl.1 rfl (Nat.le_of_ble_eq_true rfl) ⟨Nat.zero_le _, Nat.zero_le _⟩ nd_B_hold_53 ?_
          refine W.lcmp hx hb nd_B_hold_56 ?_
          refine lv_if_le (tgt := 63) hx hb nd_B_hold_57 (by decide) (fun h_57 => ?_) (fun h_57 => ?_)
          · skip
            have h_57 := (lg_cmp_le _ _).mp h_57
            refine lv_aload_n hx hb nd_B_hold_63 rfl (zv_at hl 0 rfl) ?_
            refine zb_getB hx hb hts hown hK hP 4 (by decide) (hts _ nw_159) rfl nd_B_hold_64 ?_
            refine lv_aload hx hb nd_B_hold_67 (zv_at hl 4 rfl) ?_
            refine zw_sR (As := [_]) (rest := _) hF (c_B_bitOf l D G _ _ (by assumption)) (zw_preS hP hK) nk_B_bitOf nw_207 ⟨rfl, rfl, Nat.le_of_ble_eq_true rfl, Nat.le_of_ble_eq_true rfl⟩ rfl hl.1 rfl (Nat.le_of_ble_eq_true rfl) ⟨Nat.zero_le _, Nat.zero_le _⟩ nd_B_hold_69 ?_
            refine zb_vWi (As := [_]) (rest := _) hF (c_D_writeTransaction l D G hG _ _) (zw_preV hP hK (q0 := 5) (ci := 5) rfl rfl rfl) nk_D_writeTransaction nw_210 ⟨rfl, rfl, Nat.le_of_ble_eq_true rfl, Nat.le_of_ble_eq_true rfl⟩ rfl hl.1 rfl (Nat.le_of_ble_eq_true rfl) ⟨Nat.zero_le _, Nat.zero_le _⟩ nd_B_hold_72 hS (fun H locs hP hS => ?_)
            refine lv_if_ne (tgt := 80) hx hb nd_B_hold_75 (by decide) (fun h_75 => ?_) (fun h_75 => ?_)
            · skip
              refine lv_aload_n hx hb nd_B_hold_80 rfl (zv_at hl 0 rfl) ?_
              refine zb_getB hx hb hts hown hK hP 1 (by decide) (hts _ nw_156) rfl nd_B_hold_81 ?_
              refine lv_iload hx hb nd_B_hold_84 (zv_at hl 5 rfl) ?_
              refine zb_ald_hld hx hb hK hP (vp_in_nI hk8 (by decide)) nd_B_hold_86 ?_
              rw [nI_clamp (show zb_free (zb_hol S) 8 0 < 2 ^ 31 by omega)]
              refine lv_aload hx hb nd_B_hold_87 (zv_at hl 4 rfl) ?_
              refine lv_iload_n hx hb nd_B_hold_89 rfl (zv_at hl 2 rfl) ?_
              refine zb_vWv (As := [_, _]) (rest := _) hF (c_H_begin l D G hG _ _ _ (by assumption) (by assumption) _) (zw_preV hP hK (ci := 2) rfl (zb_atH (by assumption)) rfl) nk_H_begin nw_267 ⟨rfl, rfl, Nat.le_of_ble_eq_true rfl, Nat.le_of_ble_eq_true rfl⟩ rfl hl.1 rfl (Nat.le_of_ble_eq_true rfl) ⟨Nat.zero_le _, Nat.zero_le _⟩ nd_B_hold_90 hS (fun H locs hP hS => ?_)
              refine lv_iload hx hb nd_B_hold_93 (zv_at hl 5 rfl) ?_
              refine zb_iret hx hb hr hlk nd_B_hold_95 hP hS ?_
              unfold zb_hold
              all_goals (try unfold zb_hold2)
              all_goals (try dsimp only)
              all_goals (try rw [if_pos h_6])
              all_goals (try rw [hj_13])
              all_goals (try dsimp only)
              all_goals (try rw [if_neg h_27])
              all_goals (try rw [if_pos h_43])
              all_goals (try rw [if_pos h_57])
              all_goals (try rw [if_neg h_75])
              all_goals rfl
            · skip
              refine lv_iconst (v := -1) hx hb nd_B_hold_78 (by decide) ?_
              refine zb_iret hx hb hr hlk nd_B_hold_79 hP hS ?_
              unfold zb_hold
              all_goals (try unfold zb_hold2)
              all_goals (try dsimp only)
              all_goals (try rw [if_pos h_6])
              all_goals (try rw [hj_13])
              all_goals (try dsimp only)
              all_goals (try rw [if_neg h_27])
              all_goals (try rw [if_pos h_43])
              all_goals (try rw [if_pos h_57])
              all_goals (try rw [if_pos h_75])
              all_goals rfl
          · skip
            have h_57 := (show ¬ _ from fun q => h_57 ((lg_cmp_le _ _).mpr q))
            refine lv_bipush (v := -5) hx hb nd_B_hold_60 (by decide) ?_
            refine zb_iret hx hb hr hlk nd_B_hold_62 hP hS ?_
            unfold zb_hold
            all_goals (try unfold zb_hold2)
            all_goals (try dsimp only)
            all_goals (try rw [if_pos h_6])
            all_goals (try rw [hj_13])
            all_goals (try dsimp only)
            all_goals (try rw [if_neg h_27])
            all_goals (try rw [if_pos h_43])
            all_goals (try rw [if_neg h_57])
            all_goals rfl
        · skip
          refine lv_bipush (v := -4) hx hb nd_B_hold_46 (by decide) ?_
          refine zb_iret hx hb hr hlk nd_B_hold_48 hP hS ?_
          unfold zb_hold
          all_goals (try unfold zb_hold2)
          all_goals (try dsimp only)
          all_goals (try rw [if_pos h_6])
          all_goals (try rw [hj_13])
          all_goals (try dsimp only)
          all_goals (try rw [if_neg h_27])
          all_goals (try rw [if_neg h_43])
          all_goals rfl
      · skip
        refine lv_bipush (v := -3) hx hb nd_B_hold_30 (by decide) ?_
        refine zb_iret hx hb hr hlk nd_B_hold_32 hP hS ?_
        unfold zb_hold
        all_goals (try unfold zb_hold2)
        all_goals (try dsimp only)
        all_goals (try rw [if_pos h_6])
        all_goals (try rw [hj_13])
        all_goals (try dsimp only)
        all_goals (try rw [if_pos h_27])
        all_goals rfl
  · skip
    refine lv_iload_n hx hb nd_B_hold_9 rfl (zv_at hl 3 rfl) ?_
    refine zb_iret hx hb hr hlk nd_B_hold_10 hP hS ?_
    unfold zb_hold
    all_goals (try unfold zb_hold2)
    all_goals (try dsimp only)
    all_goals (try rw [if_neg h_6])
    all_goals rfl

set_option maxHeartbeats 4000000 in
set_option maxRecDepth 100000 in
theorem c_B_release (l : Launch) (D : va_G) (G : zg_G) (hG : zw_apart (zb_adr G)) (S : zb_S) (hI : zb_I S) (x : Int32) : Met l ny_B_release (Cond.code ny_B_release nc_B_release 4 (some .int) :: zw_big) ({ frames := 4, cells := 0, slots := 0, locals := 86 } : Room) (zw_P [.ref (zg_bnk G), .int x] D (zb_tys G) (zb_cells G S)) (zb_Qi D G (zb_release S x)) 0 0 (zb_Ad G) := by
  refine Met.ofW (cc := nc_B_release) (maxL := 4) (ret := (some .int)) (by decide) rfl ?_
  intro p e s m args below meth c s₁ B hml hv
  obtain ⟨rfl, hP, hK⟩ := hv
  have hx := B.exec
  have hb := B.bytes
  have hr := B.returns
  have hts0 := atoms_spec (ws := Cond.code ny_B_release nc_B_release 4 (some .int) :: zw_big) B.pre
  have hts : ∀ w ∈ zw_big, w.before [.ref (zg_bnk G), .int x].toArray s = true := fun w h => hts0 w (List.mem_cons_of_mem _ h)
  have hown : s.vm.findClass nR_B = some m.cls := findClass_of_methodNamed B.named
  have hlk := B.notSynchronized
  have hS : va_S (zb_Ad G) s.heap s.heap [] := va_S.rf
  have hl := lv_entry ([.ref (zg_bnk G), .int x]) (n := 4) (Nat.le_of_ble_eq_true rfl)
  rw [lg_entry_eq]
  generalize (lg_sl ([.ref (zg_bnk G), .int x]) ++ List.replicate (4 - (lg_sl ([.ref (zg_bnk G), .int x])).length) Slot.unset).toArray = ls at hl ⊢
  have hl : lv_has ls 4 [(0, .ref (zg_bnk G)), (1, .int x)] := hl
  have hF : CallFix p m c nc_B_release 4 s [.ref (zg_bnk G), .int x].toArray zw_big nR_B := ⟨hx, hb, hml, hown, hts⟩
  refine lv_aload_n hx hb nd_B_release_0 rfl (zv_at hl 0 rfl) ?_
  refine zw_vR (As := []) (rest := _) hF (c_B_refusalOfChange l D G _) (zw_preV hP hK (q0 := 0) (ci := 0) rfl rfl rfl) nk_B_refusalOfChange nw_193 ⟨rfl, rfl, Nat.le_of_ble_eq_true rfl, Nat.le_of_ble_eq_true rfl⟩ rfl hl.1 rfl (Nat.le_of_ble_eq_true rfl) ⟨Nat.zero_le _, Nat.zero_le _⟩ nd_B_release_1 ?_
  refine lv_istore_n hx hb nd_B_release_4 rfl hl (by decide) rfl (fun ls hl => ?_)
  refine lv_iload_n hx hb nd_B_release_5 rfl (zv_at hl 2 rfl) ?_
  refine lv_if_eq (tgt := 11) hx hb nd_B_release_6 (by decide) (fun h_6 => ?_) (fun h_6 => ?_)
  · skip
    refine lv_aload_n hx hb nd_B_release_11 rfl (zv_at hl 0 rfl) ?_
    refine lv_iload_n hx hb nd_B_release_12 rfl (zv_at hl 1 rfl) ?_
    refine zw_vR (As := [_]) (rest := _) hF (c_B_standingHold l D G _ _) (zw_preV hP hK (q0 := 0) (ci := 0) rfl rfl rfl) nk_B_standingHold nw_275 ⟨rfl, rfl, Nat.le_of_ble_eq_true rfl, Nat.le_of_ble_eq_true rfl⟩ rfl hl.1 rfl (Nat.le_of_ble_eq_true rfl) ⟨Nat.zero_le _, Nat.zero_le _⟩ nd_B_release_13 ?_
    refine zw_split (fun hj_13 => ?_) (fun j_13 hj_13 => ?_)
    · skip
      refine lv_astore_nN hx hb nd_B_release_16 rfl hl (by decide) rfl (fun ls hl => ?_)
      refine lv_aload_nN hx hb nd_B_release_17 rfl (zv_at hl 3 rfl) ?_
      refine lv_ifnonnullN hx hb nd_B_release_18 ?_
      refine lv_bipush (v := -3) hx hb nd_B_release_21 (by decide) ?_
      refine zb_iret hx hb hr hlk nd_B_release_23 hP hS ?_
      unfold zb_release
      all_goals (try dsimp only)
      all_goals (try rw [if_pos h_6])
      all_goals (try rw [hj_13])
      all_goals (try dsimp only)
      all_goals rfl
    · skip
      obtain ⟨hk8, -, i0, hi0⟩ := zb_stand_spec hj_13
      have hHol : ∀ j, zb_hol S j_13 = some j → j < 6 := fun j h => hI.2.2.2.2.1 _ _ h
      refine lv_astore_n hx hb nd_B_release_16 rfl hl (by decide) rfl (fun ls hl => ?_)
      refine lv_aload_n hx hb nd_B_release_17 rfl (zv_at hl 3 rfl) ?_
      refine lv_ifnonnull (tgt := 24) hx hb nd_B_release_18 (by decide) ?_
      refine lv_aload_n hx hb nd_B_release_24 rfl (zv_at hl 0 rfl) ?_
      refine zb_getB hx hb hts hown hK hP 4 (by decide) (hts _ nw_159) rfl nd_B_release_25 ?_
      refine lv_aload_n hx hb nd_B_release_28 rfl (zv_at hl 3 rfl) ?_
      refine zb_getH hx hb hts hown hK hP (by assumption) 0 (by decide) (hts _ nw_116) rfl nd_B_release_29 ?_
      refine zw_split (fun hj_29 => ?_) (fun j_29 hj_29 => ?_)
      · skip
        refine zw_sR (As := [_]) (rest := _) hF (c_B_bitOfN l D G _) (zw_preS hP hK) nk_B_bitOf nw_207 ⟨rfl, rfl, Nat.le_of_ble_eq_true rfl, Nat.le_of_ble_eq_true rfl⟩ rfl hl.1 rfl (Nat.le_of_ble_eq_true rfl) ⟨Nat.zero_le _, Nat.zero_le _⟩ nd_B_release_32 ?_
        refine zb_vWi (As := [_]) (rest := _) hF (c_D_writeTransaction l D G hG _ _) (zw_preV hP hK (q0 := 5) (ci := 5) rfl rfl rfl) nk_D_writeTransaction nw_210 ⟨rfl, rfl, Nat.le_of_ble_eq_true rfl, Nat.le_of_ble_eq_true rfl⟩ rfl hl.1 rfl (Nat.le_of_ble_eq_true rfl) ⟨Nat.zero_le _, Nat.zero_le _⟩ nd_B_release_35 hS (fun H locs hP hS => ?_)
        refine lv_if_ne (tgt := 43) hx hb nd_B_release_38 (by decide) (fun h_38 => ?_) (fun h_38 => ?_)
        · skip
          refine lv_aload_n hx hb nd_B_release_43 rfl (zv_at hl 3 rfl) ?_
          refine zb_vWv (As := []) (rest := _) hF (c_H_end l D G hG _ _ (by assumption) (by exact hHol)) (zw_preV hP hK (ci := 2) rfl (zb_atH (by assumption)) rfl) nk_H_end nw_279 ⟨rfl, rfl, Nat.le_of_ble_eq_true rfl, Nat.le_of_ble_eq_true rfl⟩ rfl hl.1 rfl (Nat.le_of_ble_eq_true rfl) ⟨Nat.zero_le _, Nat.zero_le _⟩ nd_B_release_44 hS (fun H locs hP hS => ?_)
          refine lv_iconst (v := 0) hx hb nd_B_release_47 (by decide) ?_
          refine zb_iret hx hb hr hlk nd_B_release_48 hP hS ?_
          unfold zb_release
          all_goals (try dsimp only)
          all_goals (try rw [if_pos h_6])
          all_goals (try rw [hj_13])
          all_goals (try dsimp only)
          all_goals (try rw [hj_29])
          all_goals (try dsimp only)
          all_goals (try rw [if_neg h_38])
          all_goals rfl
        · skip
          refine lv_iconst (v := -1) hx hb nd_B_release_41 (by decide) ?_
          refine zb_iret hx hb hr hlk nd_B_release_42 hP hS ?_
          unfold zb_release
          all_goals (try dsimp only)
          all_goals (try rw [if_pos h_6])
          all_goals (try rw [hj_13])
          all_goals (try dsimp only)
          all_goals (try rw [hj_29])
          all_goals (try dsimp only)
          all_goals (try rw [if_pos h_38])
          all_goals rfl
      · skip
        have hj6 : j_29 < 6 := hHol _ hj_29
        refine zw_sR (As := [_]) (rest := _) hF (c_B_bitOf l D G _ _ (by assumption)) (zw_preS hP hK) nk_B_bitOf nw_207 ⟨rfl, rfl, Nat.le_of_ble_eq_true rfl, Nat.le_of_ble_eq_true rfl⟩ rfl hl.1 rfl (Nat.le_of_ble_eq_true rfl) ⟨Nat.zero_le _, Nat.zero_le _⟩ nd_B_release_32 ?_
        refine zb_vWi (As := [_]) (rest := _) hF (c_D_writeTransaction l D G hG _ _) (zw_preV hP hK (q0 := 5) (ci := 5) rfl rfl rfl) nk_D_writeTransaction nw_210 ⟨rfl, rfl, Nat.le_of_ble_eq_true rfl, Nat.le_of_ble_eq_true rfl⟩ rfl hl.1 rfl (Nat.le_of_ble_eq_true rfl) ⟨Nat.zero_le _, Nat.zero_le _⟩ nd_B_release_35 hS (fun H locs hP hS => ?_)
        refine lv_if_ne (tgt := 43) hx hb nd_B_release_38 (by decide) (fun h_38 => ?_) (fun h_38 => ?_)
        · skip
          refine lv_aload_n hx hb nd_B_release_43 rfl (zv_at hl 3 rfl) ?_
          refine zb_vWv (As := []) (rest := _) hF (c_H_end l D G hG _ _ (by assumption) (by exact hHol)) (zw_preV hP hK (ci := 2) rfl (zb_atH (by assumption)) rfl) nk_H_end nw_279 ⟨rfl, rfl, Nat.le_of_ble_eq_true rfl, Nat.le_of_ble_eq_true rfl⟩ rfl hl.1 rfl (Nat.le_of_ble_eq_true rfl) ⟨Nat.zero_le _, Nat.zero_le _⟩ nd_B_release_44 hS (fun H locs hP hS => ?_)
          refine lv_iconst (v := 0) hx hb nd_B_release_47 (by decide) ?_
          refine zb_iret hx hb hr hlk nd_B_release_48 hP hS ?_
          unfold zb_release
          all_goals (try dsimp only)
          all_goals (try rw [if_pos h_6])
          all_goals (try rw [hj_13])
          all_goals (try dsimp only)
          all_goals (try rw [hj_29])
          all_goals (try dsimp only)
          all_goals (try rw [if_neg h_38])
          all_goals rfl
        · skip
          refine lv_iconst (v := -1) hx hb nd_B_release_41 (by decide) ?_
          refine zb_iret hx hb hr hlk nd_B_release_42 hP hS ?_
          unfold zb_release
          all_goals (try dsimp only)
          all_goals (try rw [if_pos h_6])
          all_goals (try rw [hj_13])
          all_goals (try dsimp only)
          all_goals (try rw [hj_29])
          all_goals (try dsimp only)
          all_goals (try rw [if_pos h_38])
          all_goals rfl
  · skip
    refine lv_iload_n hx hb nd_B_release_9 rfl (zv_at hl 2 rfl) ?_
    refine zb_iret hx hb hr hlk nd_B_release_10 hP hS ?_
    unfold zb_release
    all_goals (try dsimp only)
    all_goals (try rw [if_neg h_6])
    all_goals rfl

set_option maxHeartbeats 4000000 in
set_option maxRecDepth 100000 in
theorem c_B_settle (l : Launch) (D : va_G) (G : zg_G) (hG : zw_apart (zb_adr G)) (S : zb_S) (hI : zb_I S) (x y a : Int32) : Met l ny_B_settle (Cond.code ny_B_settle nc_B_settle 8 (some .int) :: zw_big) ({ frames := 4, cells := 0, slots := 0, locals := 88 } : Room) (zw_P [.ref (zg_bnk G), .int x, .int y, .int a] D (zb_tys G) (zb_cells G S)) (zb_Qi D G (zb_settle S x y a)) 0 0 (zb_Ad G) := by
  refine Met.ofW (cc := nc_B_settle) (maxL := 8) (ret := (some .int)) (by decide) rfl ?_
  intro p e s m args below meth c s₁ B hml hv
  obtain ⟨rfl, hP, hK⟩ := hv
  have hx := B.exec
  have hb := B.bytes
  have hr := B.returns
  have hts0 := atoms_spec (ws := Cond.code ny_B_settle nc_B_settle 8 (some .int) :: zw_big) B.pre
  have hts : ∀ w ∈ zw_big, w.before [.ref (zg_bnk G), .int x, .int y, .int a].toArray s = true := fun w h => hts0 w (List.mem_cons_of_mem _ h)
  have hown : s.vm.findClass nR_B = some m.cls := findClass_of_methodNamed B.named
  have hlk := B.notSynchronized
  have hS : va_S (zb_Ad G) s.heap s.heap [] := va_S.rf
  have hl := lv_entry ([.ref (zg_bnk G), .int x, .int y, .int a]) (n := 8) (Nat.le_of_ble_eq_true rfl)
  rw [lg_entry_eq]
  generalize (lg_sl ([.ref (zg_bnk G), .int x, .int y, .int a]) ++ List.replicate (8 - (lg_sl ([.ref (zg_bnk G), .int x, .int y, .int a])).length) Slot.unset).toArray = ls at hl ⊢
  have hl : lv_has ls 8 [(0, .ref (zg_bnk G)), (1, .int x), (2, .int y), (3, .int a)] := hl
  have hF : CallFix p m c nc_B_settle 8 s [.ref (zg_bnk G), .int x, .int y, .int a].toArray zw_big nR_B := ⟨hx, hb, hml, hown, hts⟩
  refine lv_aload_n hx hb nd_B_settle_0 rfl (zv_at hl 0 rfl) ?_
  refine zw_vR (As := []) (rest := _) hF (c_B_refusalOfChange l D G _) (zw_preV hP hK (q0 := 0) (ci := 0) rfl rfl rfl) nk_B_refusalOfChange nw_193 ⟨rfl, rfl, Nat.le_of_ble_eq_true rfl, Nat.le_of_ble_eq_true rfl⟩ rfl hl.1 rfl (Nat.le_of_ble_eq_true rfl) ⟨Nat.zero_le _, Nat.zero_le _⟩ nd_B_settle_1 ?_
  refine lv_istore hx hb nd_B_settle_4 hl (by decide) rfl (fun ls hl => ?_)
  refine lv_iload hx hb nd_B_settle_6 (zv_at hl 4 rfl) ?_
  refine lv_if_eq (tgt := 14) hx hb nd_B_settle_8 (by decide) (fun h_8 => ?_) (fun h_8 => ?_)
  · skip
    refine lv_aload_n hx hb nd_B_settle_14 rfl (zv_at hl 0 rfl) ?_
    refine lv_iload_n hx hb nd_B_settle_15 rfl (zv_at hl 1 rfl) ?_
    refine zw_vR (As := [_]) (rest := _) hF (c_B_standingHold l D G _ _) (zw_preV hP hK (q0 := 0) (ci := 0) rfl rfl rfl) nk_B_standingHold nw_275 ⟨rfl, rfl, Nat.le_of_ble_eq_true rfl, Nat.le_of_ble_eq_true rfl⟩ rfl hl.1 rfl (Nat.le_of_ble_eq_true rfl) ⟨Nat.zero_le _, Nat.zero_le _⟩ nd_B_settle_16 ?_
    refine zw_split (fun hj_16 => ?_) (fun j_16 hj_16 => ?_)
    · skip
      refine lv_astoreN hx hb nd_B_settle_19 hl (by decide) rfl (fun ls hl => ?_)
      refine lv_aloadN hx hb nd_B_settle_21 (zv_at hl 5 rfl) ?_
      refine lv_ifnullN (tgt := 39) hx hb nd_B_settle_23 (by decide) ?_
      refine lv_bipush (v := -3) hx hb nd_B_settle_39 (by decide) ?_
      refine zb_iret hx hb hr hlk nd_B_settle_41 hP hS ?_
      unfold zb_settle
      all_goals (try unfold zb_settle2)
      all_goals (try dsimp only)
      all_goals (try rw [if_pos h_8])
      all_goals (try rw [hj_16])
      all_goals (try dsimp only)
      all_goals rfl
    · skip
      obtain ⟨hk8, -, i0, hi0⟩ := zb_stand_spec hj_16
      have hHol : ∀ j, zb_hol S j_16 = some j → j < 6 := fun j h => hI.2.2.2.2.1 _ _ h
      refine lv_astore hx hb nd_B_settle_19 hl (by decide) rfl (fun ls hl => ?_)
      refine lv_aload hx hb nd_B_settle_21 (zv_at hl 5 rfl) ?_
      refine lv_ifnull hx hb nd_B_settle_23 ?_
      refine lv_iload_n hx hb nd_B_settle_26 rfl (zv_at hl 3 rfl) ?_
      refine lv_iconst (v := 1) hx hb nd_B_settle_27 (by decide) ?_
      refine lv_aload hx hb nd_B_settle_28 (zv_at hl 5 rfl) ?_
      refine zb_getH hx hb hts hown hK hP (by assumption) 1 (by decide) (hts _ nw_118) rfl nd_B_settle_30 ?_
      refine zw_sR (As := [_, _, _]) (rest := _) hF (c_B_isWithin l _ _ _) zw_preN nk_B_isWithin nw_200 ⟨rfl, rfl, Nat.le_of_ble_eq_true rfl, Nat.le_of_ble_eq_true rfl⟩ rfl hl.1 rfl (Nat.le_of_ble_eq_true rfl) ⟨Nat.zero_le _, Nat.zero_le _⟩ nd_B_settle_33 ?_
      refine lv_if_ne (tgt := 42) hx hb nd_B_settle_36 (by decide) (fun h_36 => ?_) (fun h_36 => ?_)
      · skip
        refine lv_aload hx hb nd_B_settle_42 (zv_at hl 5 rfl) ?_
        refine zb_getH hx hb hts hown hK hP (by assumption) 0 (by decide) (hts _ nw_116) rfl nd_B_settle_44 ?_
        refine zw_split (fun hj_44 => ?_) (fun j_44 hj_44 => ?_)
        · skip
          refine lv_astoreN hx hb nd_B_settle_47 hl (by decide) rfl (fun ls hl => ?_)
          refine lv_aloadN hx hb nd_B_settle_49 (zv_at hl 6 rfl) ?_
          refine lv_ifnullN (tgt := 67) hx hb nd_B_settle_51 (by decide) ?_
          refine lv_bipush (v := -3) hx hb nd_B_settle_67 (by decide) ?_
          refine zb_iret hx hb hr hlk nd_B_settle_69 hP hS ?_
          unfold zb_settle
          all_goals (try unfold zb_settle2)
          all_goals (try dsimp only)
          all_goals (try rw [if_pos h_8])
          all_goals (try rw [hj_16])
          all_goals (try dsimp only)
          all_goals (try rw [if_neg h_36])
          all_goals (try rw [hj_44])
          all_goals (try dsimp only)
          all_goals rfl
        · skip
          have hj6 : j_44 < 6 := hHol _ hj_44
          refine lv_astore hx hb nd_B_settle_47 hl (by decide) rfl (fun ls hl => ?_)
          refine lv_aload hx hb nd_B_settle_49 (zv_at hl 6 rfl) ?_
          refine lv_ifnull hx hb nd_B_settle_51 ?_
          refine lv_aload_n hx hb nd_B_settle_54 rfl (zv_at hl 0 rfl) ?_
          refine lv_aload hx hb nd_B_settle_55 (zv_at hl 6 rfl) ?_
          refine zb_getA hx hb hts hown hK hP (by assumption) 0 (by decide) (hts _ nw_75) rfl nd_B_settle_57 ?_
          refine lv_iload_n hx hb nd_B_settle_60 rfl (zv_at hl 2 rfl) ?_
          refine zw_vR (As := [_, _]) (rest := _) hF (c_B_isPayable l D G _ (by exact hI) _ _) (zw_preV hP hK (q0 := 0) (ci := 0) rfl rfl rfl) nk_B_isPayable nw_236 ⟨rfl, rfl, Nat.le_of_ble_eq_true rfl, Nat.le_of_ble_eq_true rfl⟩ rfl hl.1 rfl (Nat.le_of_ble_eq_true rfl) ⟨Nat.zero_le _, Nat.zero_le _⟩ nd_B_settle_61 ?_
          refine lv_if_ne (tgt := 70) hx hb nd_B_settle_64 (by decide) (fun h_64 => ?_) (fun h_64 => ?_)
          · skip
            refine lv_aload_n hx hb nd_B_settle_70 rfl (zv_at hl 0 rfl) ?_
            refine lv_iload_n hx hb nd_B_settle_71 rfl (zv_at hl 2 rfl) ?_
            refine zw_vR (As := [_]) (rest := _) hF (c_B_accountOf l D G _ (by exact hI) _) (zw_preV hP hK (q0 := 0) (ci := 0) rfl rfl rfl) nk_B_accountOf nw_244 ⟨rfl, rfl, Nat.le_of_ble_eq_true rfl, Nat.le_of_ble_eq_true rfl⟩ rfl hl.1 rfl (Nat.le_of_ble_eq_true rfl) ⟨Nat.zero_le _, Nat.zero_le _⟩ nd_B_settle_72 ?_
            refine zw_split (fun hj_72 => ?_) (fun j_72 hj_72 => ?_)
            · skip
              refine lv_astoreN hx hb nd_B_settle_75 hl (by decide) rfl (fun ls hl => ?_)
              refine lv_aload_n hx hb nd_B_settle_77 rfl (zv_at hl 0 rfl) ?_
              refine zb_getB hx hb hts hown hK hP 4 (by decide) (hts _ nw_159) rfl nd_B_settle_78 ?_
              refine lv_aload hx hb nd_B_settle_81 (zv_at hl 6 rfl) ?_
              refine zw_sR (As := [_]) (rest := _) hF (c_B_bitOf l D G _ _ (by assumption)) (zw_preS hP hK) nk_B_bitOf nw_207 ⟨rfl, rfl, Nat.le_of_ble_eq_true rfl, Nat.le_of_ble_eq_true rfl⟩ rfl hl.1 rfl (Nat.le_of_ble_eq_true rfl) ⟨Nat.zero_le _, Nat.zero_le _⟩ nd_B_settle_83 ?_
              refine lv_aloadN hx hb nd_B_settle_86 (zv_at hl 7 rfl) ?_
              refine zw_sR (As := [_]) (rest := _) hF (c_B_bitOfN l D G _) (zw_preS hP hK) nk_B_bitOf nw_207 ⟨rfl, rfl, Nat.le_of_ble_eq_true rfl, Nat.le_of_ble_eq_true rfl⟩ rfl hl.1 rfl (Nat.le_of_ble_eq_true rfl) ⟨Nat.zero_le _, Nat.zero_le _⟩ nd_B_settle_88 ?_
              refine lv_ior hx hb nd_B_settle_91 ?_
              refine zb_vWi (As := [_]) (rest := _) hF (c_D_writeTransaction l D G hG _ _) (zw_preV hP hK (q0 := 5) (ci := 5) rfl rfl rfl) nk_D_writeTransaction nw_210 ⟨rfl, rfl, Nat.le_of_ble_eq_true rfl, Nat.le_of_ble_eq_true rfl⟩ rfl hl.1 rfl (Nat.le_of_ble_eq_true rfl) ⟨Nat.zero_le _, Nat.zero_le _⟩ nd_B_settle_92 hS (fun H locs hP hS => ?_)
              refine lv_if_ne (tgt := 100) hx hb nd_B_settle_95 (by decide) (fun h_95 => ?_) (fun h_95 => ?_)
              · skip
                refine lv_aload hx hb nd_B_settle_100 (zv_at hl 5 rfl) ?_
                refine zb_vWv (As := []) (rest := _) hF (c_H_end l D G hG _ _ (by assumption) (by exact hHol)) (zw_preV hP hK (ci := 2) rfl (zb_atH (by assumption)) rfl) nk_H_end nw_279 ⟨rfl, rfl, Nat.le_of_ble_eq_true rfl, Nat.le_of_ble_eq_true rfl⟩ rfl hl.1 rfl (Nat.le_of_ble_eq_true rfl) ⟨Nat.zero_le _, Nat.zero_le _⟩ nd_B_settle_102 hS (fun H locs hP hS => ?_)
                refine lv_aload_n hx hb nd_B_settle_105 rfl (zv_at hl 0 rfl) ?_
                refine lv_aload hx hb nd_B_settle_106 (zv_at hl 6 rfl) ?_
                refine lv_aloadN hx hb nd_B_settle_108 (zv_at hl 7 rfl) ?_
                refine lv_iload_n hx hb nd_B_settle_110 rfl (zv_at hl 3 rfl) ?_
                refine zb_vWv (As := [_, _, _]) (rest := _) hF (c_B_transferAN l D G hG _ (by first | exact hI | exact zb_I_end hI) _ (by assumption) _) (zw_preV hP hK (q0 := 0) (ci := 0) rfl rfl rfl) nk_B_transfer nw_255 ⟨rfl, rfl, Nat.le_of_ble_eq_true rfl, Nat.le_of_ble_eq_true rfl⟩ rfl hl.1 rfl (Nat.le_of_ble_eq_true rfl) ⟨Nat.zero_le _, Nat.zero_le _⟩ nd_B_settle_111 hS (fun H locs hP hS => ?_)
                refine lv_iconst (v := 0) hx hb nd_B_settle_114 (by decide) ?_
                refine zb_iret hx hb hr hlk nd_B_settle_115 hP hS ?_
                unfold zb_settle
                all_goals (try unfold zb_settle2)
                all_goals (try dsimp only)
                all_goals (try rw [if_pos h_8])
                all_goals (try rw [hj_16])
                all_goals (try dsimp only)
                all_goals (try rw [if_neg h_36])
                all_goals (try rw [hj_44])
                all_goals (try dsimp only)
                all_goals (try rw [if_neg h_64])
                all_goals (try rw [hj_72])
                all_goals (try dsimp only)
                all_goals (try rw [if_neg h_95])
                all_goals rfl
              · skip
                refine lv_iconst (v := -1) hx hb nd_B_settle_98 (by decide) ?_
                refine zb_iret hx hb hr hlk nd_B_settle_99 hP hS ?_
                unfold zb_settle
                all_goals (try unfold zb_settle2)
                all_goals (try dsimp only)
                all_goals (try rw [if_pos h_8])
                all_goals (try rw [hj_16])
                all_goals (try dsimp only)
                all_goals (try rw [if_neg h_36])
                all_goals (try rw [hj_44])
                all_goals (try dsimp only)
                all_goals (try rw [if_neg h_64])
                all_goals (try rw [hj_72])
                all_goals (try dsimp only)
                all_goals (try rw [if_pos h_95])
                all_goals rfl
            · skip
              have hj6b : j_72 < 6 := zb_accOf_lt hI hj_72
              refine lv_astore hx hb nd_B_settle_75 hl (by decide) rfl (fun ls hl => ?_)
              refine lv_aload_n hx hb nd_B_settle_77 rfl (zv_at hl 0 rfl) ?_
              refine zb_getB hx hb hts hown hK hP 4 (by decide) (hts _ nw_159) rfl nd_B_settle_78 ?_
              refine lv_aload hx hb nd_B_settle_81 (zv_at hl 6 rfl) ?_
              refine zw_sR (As := [_]) (rest := _) hF (c_B_bitOf l D G _ _ (by assumption)) (zw_preS hP hK) nk_B_bitOf nw_207 ⟨rfl, rfl, Nat.le_of_ble_eq_true rfl, Nat.le_of_ble_eq_true rfl⟩ rfl hl.1 rfl (Nat.le_of_ble_eq_true rfl) ⟨Nat.zero_le _, Nat.zero_le _⟩ nd_B_settle_83 ?_
              refine lv_aload hx hb nd_B_settle_86 (zv_at hl 7 rfl) ?_
              refine zw_sR (As := [_]) (rest := _) hF (c_B_bitOf l D G _ _ (by assumption)) (zw_preS hP hK) nk_B_bitOf nw_207 ⟨rfl, rfl, Nat.le_of_ble_eq_true rfl, Nat.le_of_ble_eq_true rfl⟩ rfl hl.1 rfl (Nat.le_of_ble_eq_true rfl) ⟨Nat.zero_le _, Nat.zero_le _⟩ nd_B_settle_88 ?_
              refine lv_ior hx hb nd_B_settle_91 ?_
              refine zb_vWi (As := [_]) (rest := _) hF (c_D_writeTransaction l D G hG _ _) (zw_preV hP hK (q0 := 5) (ci := 5) rfl rfl rfl) nk_D_writeTransaction nw_210 ⟨rfl, rfl, Nat.le_of_ble_eq_true rfl, Nat.le_of_ble_eq_true rfl⟩ rfl hl.1 rfl (Nat.le_of_ble_eq_true rfl) ⟨Nat.zero_le _, Nat.zero_le _⟩ nd_B_settle_92 hS (fun H locs hP hS => ?_)
              refine lv_if_ne (tgt := 100) hx hb nd_B_settle_95 (by decide) (fun h_95 => ?_) (fun h_95 => ?_)
              · skip
                refine lv_aload hx hb nd_B_settle_100 (zv_at hl 5 rfl) ?_
                refine zb_vWv (As := []) (rest := _) hF (c_H_end l D G hG _ _ (by assumption) (by exact hHol)) (zw_preV hP hK (ci := 2) rfl (zb_atH (by assumption)) rfl) nk_H_end nw_279 ⟨rfl, rfl, Nat.le_of_ble_eq_true rfl, Nat.le_of_ble_eq_true rfl⟩ rfl hl.1 rfl (Nat.le_of_ble_eq_true rfl) ⟨Nat.zero_le _, Nat.zero_le _⟩ nd_B_settle_102 hS (fun H locs hP hS => ?_)
                refine lv_aload_n hx hb nd_B_settle_105 rfl (zv_at hl 0 rfl) ?_
                refine lv_aload hx hb nd_B_settle_106 (zv_at hl 6 rfl) ?_
                refine lv_aload hx hb nd_B_settle_108 (zv_at hl 7 rfl) ?_
                refine lv_iload_n hx hb nd_B_settle_110 rfl (zv_at hl 3 rfl) ?_
                refine zb_vWv (As := [_, _, _]) (rest := _) hF (c_B_transferAA l D G hG _ (by first | exact hI | exact zb_I_end hI) _ (by assumption) _ (by assumption) _) (zw_preV hP hK (q0 := 0) (ci := 0) rfl rfl rfl) nk_B_transfer nw_255 ⟨rfl, rfl, Nat.le_of_ble_eq_true rfl, Nat.le_of_ble_eq_true rfl⟩ rfl hl.1 rfl (Nat.le_of_ble_eq_true rfl) ⟨Nat.zero_le _, Nat.zero_le _⟩ nd_B_settle_111 hS (fun H locs hP hS => ?_)
                refine lv_iconst (v := 0) hx hb nd_B_settle_114 (by decide) ?_
                refine zb_iret hx hb hr hlk nd_B_settle_115 hP hS ?_
                unfold zb_settle
                all_goals (try unfold zb_settle2)
                all_goals (try dsimp only)
                all_goals (try rw [if_pos h_8])
                all_goals (try rw [hj_16])
                all_goals (try dsimp only)
                all_goals (try rw [if_neg h_36])
                all_goals (try rw [hj_44])
                all_goals (try dsimp only)
                all_goals (try rw [if_neg h_64])
                all_goals (try rw [hj_72])
                all_goals (try dsimp only)
                all_goals (try rw [if_neg h_95])
                all_goals rfl
              · skip
                refine lv_iconst (v := -1) hx hb nd_B_settle_98 (by decide) ?_
                refine zb_iret hx hb hr hlk nd_B_settle_99 hP hS ?_
                unfold zb_settle
                all_goals (try unfold zb_settle2)
                all_goals (try dsimp only)
                all_goals (try rw [if_pos h_8])
                all_goals (try rw [hj_16])
                all_goals (try dsimp only)
                all_goals (try rw [if_neg h_36])
                all_goals (try rw [hj_44])
                all_goals (try dsimp only)
                all_goals (try rw [if_neg h_64])
                all_goals (try rw [hj_72])
                all_goals (try dsimp only)
                all_goals (try rw [if_pos h_95])
                all_goals rfl
          · skip
            refine lv_bipush (v := -3) hx hb nd_B_settle_67 (by decide) ?_
            refine zb_iret hx hb hr hlk nd_B_settle_69 hP hS ?_
            unfold zb_settle
            all_goals (try unfold zb_settle2)
            all_goals (try dsimp only)
            all_goals (try rw [if_pos h_8])
            all_goals (try rw [hj_16])
            all_goals (try dsimp only)
            all_goals (try rw [if_neg h_36])
            all_goals (try rw [hj_44])
            all_goals (try dsimp only)
            all_goals (try rw [if_pos h_64])
            all_goals rfl
      · skip
        refine lv_bipush (v := -3) hx hb nd_B_settle_39 (by decide) ?_
        refine zb_iret hx hb hr hlk nd_B_settle_41 hP hS ?_
        unfold zb_settle
        all_goals (try unfold zb_settle2)
        all_goals (try dsimp only)
        all_goals (try rw [if_pos h_8])
        all_goals (try rw [hj_16])
        all_goals (try dsimp only)
        all_goals (try rw [if_pos h_36])
        all_goals rfl
  · skip
    refine lv_iload hx hb nd_B_settle_11 (zv_at hl 4 rfl) ?_
    refine zb_iret hx hb hr hlk nd_B_settle_13 hP hS ?_
    unfold zb_settle
    all_goals (try unfold zb_settle2)
    all_goals (try dsimp only)
    all_goals (try rw [if_neg h_8])
    all_goals rfl

set_option maxHeartbeats 4000000 in
set_option maxRecDepth 100000 in
theorem c_B_order (l : Launch) (D : va_G) (G : zg_G) (hG : zw_apart (zb_adr G)) (S : zb_S) (hI : zb_I S) (x y a d : Int32) : Met l ny_B_order (Cond.code ny_B_order nc_B_order 8 (some .int) :: zw_big) ({ frames := 4, cells := 0, slots := 0, locals := 88 } : Room) (zw_P [.ref (zg_bnk G), .int x, .int y, .int a, .int d] D (zb_tys G) (zb_cells G S)) (zb_Qi D G (zb_order S x y a d)) 0 0 (zb_Ad G) := by
  refine Met.ofW (cc := nc_B_order) (maxL := 8) (ret := (some .int)) (by decide) rfl ?_
  intro p e s m args below meth c s₁ B hml hv
  obtain ⟨rfl, hP, hK⟩ := hv
  have hx := B.exec
  have hb := B.bytes
  have hr := B.returns
  have hts0 := atoms_spec (ws := Cond.code ny_B_order nc_B_order 8 (some .int) :: zw_big) B.pre
  have hts : ∀ w ∈ zw_big, w.before [.ref (zg_bnk G), .int x, .int y, .int a, .int d].toArray s = true := fun w h => hts0 w (List.mem_cons_of_mem _ h)
  have hown : s.vm.findClass nR_B = some m.cls := findClass_of_methodNamed B.named
  have hlk := B.notSynchronized
  have hS : va_S (zb_Ad G) s.heap s.heap [] := va_S.rf
  have hl := lv_entry ([.ref (zg_bnk G), .int x, .int y, .int a, .int d]) (n := 8) (Nat.le_of_ble_eq_true rfl)
  rw [lg_entry_eq]
  generalize (lg_sl ([.ref (zg_bnk G), .int x, .int y, .int a, .int d]) ++ List.replicate (8 - (lg_sl ([.ref (zg_bnk G), .int x, .int y, .int a, .int d])).length) Slot.unset).toArray = ls at hl ⊢
  have hl : lv_has ls 8 [(0, .ref (zg_bnk G)), (1, .int x), (2, .int y), (3, .int a), (4, .int d)] := hl
  have hF : CallFix p m c nc_B_order 8 s [.ref (zg_bnk G), .int x, .int y, .int a, .int d].toArray zw_big nR_B := ⟨hx, hb, hml, hown, hts⟩
  refine lv_aload_n hx hb nd_B_order_0 rfl (zv_at hl 0 rfl) ?_
  refine zw_vR (As := []) (rest := _) hF (c_B_refusalOfChange l D G _) (zw_preV hP hK (q0 := 0) (ci := 0) rfl rfl rfl) nk_B_refusalOfChange nw_193 ⟨rfl, rfl, Nat.le_of_ble_eq_true rfl, Nat.le_of_ble_eq_true rfl⟩ rfl hl.1 rfl (Nat.le_of_ble_eq_true rfl) ⟨Nat.zero_le _, Nat.zero_le _⟩ nd_B_order_1 ?_
  refine lv_istore hx hb nd_B_order_4 hl (by decide) rfl (fun ls hl => ?_)
  refine lv_iload hx hb nd_B_order_6 (zv_at hl 5 rfl) ?_
  refine lv_if_eq (tgt := 14) hx hb nd_B_order_8 (by decide) (fun h_8 => ?_) (fun h_8 => ?_)
  · skip
    refine lv_aload_n hx hb nd_B_order_14 rfl (zv_at hl 0 rfl) ?_
    refine lv_iload_n hx hb nd_B_order_15 rfl (zv_at hl 1 rfl) ?_
    refine zw_vR (As := [_]) (rest := _) hF (c_B_accountOf l D G _ (by exact hI) _) (zw_preV hP hK (q0 := 0) (ci := 0) rfl rfl rfl) nk_B_accountOf nw_244 ⟨rfl, rfl, Nat.le_of_ble_eq_true rfl, Nat.le_of_ble_eq_true rfl⟩ rfl hl.1 rfl (Nat.le_of_ble_eq_true rfl) ⟨Nat.zero_le _, Nat.zero_le _⟩ nd_B_order_16 ?_
    refine zw_split (fun hj_16 => ?_) (fun j_16 hj_16 => ?_)
    · skip
      refine lv_astoreN hx hb nd_B_order_19 hl (by decide) rfl (fun ls hl => ?_)
      refine lv_aload_n hx hb nd_B_order_21 rfl (zv_at hl 0 rfl) ?_
      refine lv_iload_n hx hb nd_B_order_22 rfl (zv_at hl 2 rfl) ?_
      refine zw_vR (As := [_]) (rest := _) hF (c_B_accountOf l D G _ (by exact hI) _) (zw_preV hP hK (q0 := 0) (ci := 0) rfl rfl rfl) nk_B_accountOf nw_244 ⟨rfl, rfl, Nat.le_of_ble_eq_true rfl, Nat.le_of_ble_eq_true rfl⟩ rfl hl.1 rfl (Nat.le_of_ble_eq_true rfl) ⟨Nat.zero_le _, Nat.zero_le _⟩ nd_B_order_23 ?_
      refine zw_split (fun hj_23 => ?_) (fun j_23 hj_23 => ?_)
      · skip
        refine lv_astoreN hx hb nd_B_order_26 hl (by decide) rfl (fun ls hl => ?_)
        refine lv_aloadN hx hb nd_B_order_28 (zv_at hl 6 rfl) ?_
        refine lv_ifnullN (tgt := 47) hx hb nd_B_order_30 (by decide) ?_
        refine lv_bipush (v := -3) hx hb nd_B_order_47 (by decide) ?_
        refine zb_iret hx hb hr hlk nd_B_order_49 hP hS ?_
        unfold zb_order
        all_goals (try unfold zb_order2)
        all_goals (try dsimp only)
        all_goals (try rw [if_pos h_8])
        all_goals (try rw [hj_16])
        all_goals (try dsimp only)
        all_goals (try rw [hj_23])
        all_goals (try dsimp only)
        all_goals rfl
      · skip
        have hj6b : j_23 < 6 := zb_accOf_lt hI hj_23
        refine lv_astore hx hb nd_B_order_26 hl (by decide) rfl (fun ls hl => ?_)
        refine lv_aloadN hx hb nd_B_order_28 (zv_at hl 6 rfl) ?_
        refine lv_ifnullN (tgt := 47) hx hb nd_B_order_30 (by decide) ?_
        refine lv_bipush (v := -3) hx hb nd_B_order_47 (by decide) ?_
        refine zb_iret hx hb hr hlk nd_B_order_49 hP hS ?_
        unfold zb_order
        all_goals (try unfold zb_order2)
        all_goals (try dsimp only)
        all_goals (try rw [if_pos h_8])
        all_goals (try rw [hj_16])
        all_goals (try dsimp only)
        all_goals (try rw [hj_23])
        all_goals (try dsimp only)
        all_goals rfl
    · skip
      have hj6a : j_16 < 6 := zb_accOf_lt hI hj_16
      refine lv_astore hx hb nd_B_order_19 hl (by decide) rfl (fun ls hl => ?_)
      refine lv_aload_n hx hb nd_B_order_21 rfl (zv_at hl 0 rfl) ?_
      refine lv_iload_n hx hb nd_B_order_22 rfl (zv_at hl 2 rfl) ?_
      refine zw_vR (As := [_]) (rest := _) hF (c_B_accountOf l D G _ (by exact hI) _) (zw_preV hP hK (q0 := 0) (ci := 0) rfl rfl rfl) nk_B_accountOf nw_244 ⟨rfl, rfl, Nat.le_of_ble_eq_true rfl, Nat.le_of_ble_eq_true rfl⟩ rfl hl.1 rfl (Nat.le_of_ble_eq_true rfl) ⟨Nat.zero_le _, Nat.zero_le _⟩ nd_B_order_23 ?_
      refine zw_split (fun hj_23 => ?_) (fun j_23 hj_23 => ?_)
      · skip
        refine lv_astoreN hx hb nd_B_order_26 hl (by decide) rfl (fun ls hl => ?_)
        refine lv_aload hx hb nd_B_order_28 (zv_at hl 6 rfl) ?_
        refine lv_ifnull hx hb nd_B_order_30 ?_
        refine lv_aloadN hx hb nd_B_order_33 (zv_at hl 7 rfl) ?_
        refine lv_ifnullN (tgt := 47) hx hb nd_B_order_35 (by decide) ?_
        refine lv_bipush (v := -3) hx hb nd_B_order_47 (by decide) ?_
        refine zb_iret hx hb hr hlk nd_B_order_49 hP hS ?_
        unfold zb_order
        all_goals (try unfold zb_order2)
        all_goals (try dsimp only)
        all_goals (try rw [if_pos h_8])
        all_goals (try rw [hj_16])
        all_goals (try dsimp only)
        all_goals (try rw [hj_23])
        all_goals (try dsimp only)
        all_goals rfl
      · skip
        have hj6b : j_23 < 6 := zb_accOf_lt hI hj_23
        refine lv_astore hx hb nd_B_order_26 hl (by decide) rfl (fun ls hl => ?_)
        refine lv_aload hx hb nd_B_order_28 (zv_at hl 6 rfl) ?_
        refine lv_ifnull hx hb nd_B_order_30 ?_
        refine lv_aload hx hb nd_B_order_33 (zv_at hl 7 rfl) ?_
        refine lv_ifnull hx hb nd_B_order_35 ?_
        refine lv_aload_n hx hb nd_B_order_38 rfl (zv_at hl 0 rfl) ?_
        refine lv_iload_n hx hb nd_B_order_39 rfl (zv_at hl 1 rfl) ?_
        refine lv_iload_n hx hb nd_B_order_40 rfl (zv_at hl 2 rfl) ?_
        refine zw_vR (As := [_, _]) (rest := _) hF (c_B_isPayable l D G _ (by exact hI) _ _) (zw_preV hP hK (q0 := 0) (ci := 0) rfl rfl rfl) nk_B_isPayable nw_236 ⟨rfl, rfl, Nat.le_of_ble_eq_true rfl, Nat.le_of_ble_eq_true rfl⟩ rfl hl.1 rfl (Nat.le_of_ble_eq_true rfl) ⟨Nat.zero_le _, Nat.zero_le _⟩ nd_B_order_41 ?_
        refine lv_if_ne (tgt := 50) hx hb nd_B_order_44 (by decide) (fun h_44 => ?_) (fun h_44 => ?_)
        · skip
          refine lv_iload_n hx hb nd_B_order_50 rfl (zv_at hl 3 rfl) ?_
          refine zw_sR (As := [_]) (rest := _) hF (c_B_isAmount l _) zw_preN nk_B_isAmount nw_248 ⟨rfl, rfl, Nat.le_of_ble_eq_true rfl, Nat.le_of_ble_eq_true rfl⟩ rfl hl.1 rfl (Nat.le_of_ble_eq_true rfl) ⟨Nat.zero_le _, Nat.zero_le _⟩ nd_B_order_51 ?_
          refine lv_if_eq (tgt := 68) hx hb nd_B_order_54 (by decide) (fun h_54 => ?_) (fun h_54 => ?_)
          · skip
            refine lv_bipush (v := -3) hx hb nd_B_order_68 (by decide) ?_
            refine zb_iret hx hb hr hlk nd_B_order_70 hP hS ?_
            unfold zb_order
            all_goals (try unfold zb_order2)
            all_goals (try dsimp only)
            all_goals (try rw [if_pos h_8])
            all_goals (try rw [hj_16])
            all_goals (try dsimp only)
            all_goals (try rw [hj_23])
            all_goals (try dsimp only)
            all_goals (try rw [if_neg h_44])
            all_goals (try rw [if_pos h_54])
            all_goals rfl
          · skip
            refine lv_iload hx hb nd_B_order_57 (zv_at hl 4 rfl) ?_
            refine lv_iconst (v := 1) hx hb nd_B_order_59 (by decide) ?_
            refine lv_bipush (v := 31) hx hb nd_B_order_60 (by decide) ?_
            refine zw_sR (As := [_, _, _]) (rest := _) hF (c_B_isWithin l _ _ _) zw_preN nk_B_isWithin nw_200 ⟨rfl, rfl, Nat.le_of_ble_eq_true rfl, Nat.le_of_ble_eq_true rfl⟩ rfl hl.1 rfl (Nat.le_of_ble_eq_true rfl) ⟨Nat.zero_le _, Nat.zero_le _⟩ nd_B_order_62 ?_
            refine lv_if_ne (tgt := 71) hx hb nd_B_order_65 (by decide) (fun h_65 => ?_) (fun h_65 => ?_)
            · skip
              refine lv_aload_n hx hb nd_B_order_71 rfl (zv_at hl 0 rfl) ?_
              refine zb_getB hx hb hts hown hK hP 8 (by decide) (hts _ nw_163) rfl nd_B_order_72 ?_
              refine lv_bipush (v := 6) hx hb nd_B_order_75 (by decide) ?_
              refine lv_icmp_lt (tgt := 83) hx hb nd_B_order_77 (by decide) (fun h_77 => ?_) (fun h_77 => ?_)
              · skip
                obtain ⟨o, ho6, eo⟩ := hI.2.1
                have ho : o < 6 := by
                  have h : nI o < nI 6 := by rw [← eo]; exact h_77
                  exact (nI_ltI (by omega) (by decide)).mp h
                have hi6 : (zb_o S).toNatClampNeg < 6 := by rw [eo, nI_clamp (by omega)]; exact ho
                refine lv_aload_n hx hb nd_B_order_83 rfl (zv_at hl 0 rfl) ?_
                refine zb_getB hx hb hts hown hK hP 4 (by decide) (hts _ nw_159) rfl nd_B_order_84 ?_
                refine lv_aload hx hb nd_B_order_87 (zv_at hl 6 rfl) ?_
                refine zw_sR (As := [_]) (rest := _) hF (c_B_bitOf l D G _ _ (by assumption)) (zw_preS hP hK) nk_B_bitOf nw_207 ⟨rfl, rfl, Nat.le_of_ble_eq_true rfl, Nat.le_of_ble_eq_true rfl⟩ rfl hl.1 rfl (Nat.le_of_ble_eq_true rfl) ⟨Nat.zero_le _, Nat.zero_le _⟩ nd_B_order_89 ?_
                refine zb_vWi (As := [_]) (rest := _) hF (c_D_writeTransaction l D G hG _ _) (zw_preV hP hK (q0 := 5) (ci := 5) rfl rfl rfl) nk_D_writeTransaction nw_210 ⟨rfl, rfl, Nat.le_of_ble_eq_true rfl, Nat.le_of_ble_eq_true rfl⟩ rfl hl.1 rfl (Nat.le_of_ble_eq_true rfl) ⟨Nat.zero_le _, Nat.zero_le _⟩ nd_B_order_92 hS (fun H locs hP hS => ?_)
                refine lv_if_ne (tgt := 100) hx hb nd_B_order_95 (by decide) (fun h_95 => ?_) (fun h_95 => ?_)
                · skip
                  refine lv_aload_n hx hb nd_B_order_100 rfl (zv_at hl 0 rfl) ?_
                  refine zb_getB hx hb hts hown hK hP 2 (by decide) (hts _ nw_157) rfl nd_B_order_101 ?_
                  refine lv_aload_n hx hb nd_B_order_104 rfl (zv_at hl 0 rfl) ?_
                  refine zb_getB hx hb hts hown hK hP 8 (by decide) (hts _ nw_163) rfl nd_B_order_105 ?_
                  refine zb_ald_ord hx hb hK hP (by show vp_in (zb_o S) 6; rw [eo]; exact vp_in_nI ho (by decide)) nd_B_order_108 ?_
                  refine lv_aload hx hb nd_B_order_109 (zv_at hl 6 rfl) ?_
                  refine lv_aload hx hb nd_B_order_111 (zv_at hl 7 rfl) ?_
                  refine lv_iload_n hx hb nd_B_order_113 rfl (zv_at hl 3 rfl) ?_
                  refine lv_iload hx hb nd_B_order_114 (zv_at hl 4 rfl) ?_
                  refine zb_vWv (As := [_, _, _, _]) (rest := _) hF (c_O_make l D G hG _ _ _ _ (by exact hi6) _ _) (zw_preV hP hK (ci := 3) rfl (zb_atO (by exact hi6)) rfl) nk_O_make nw_291 ⟨rfl, rfl, Nat.le_of_ble_eq_true rfl, Nat.le_of_ble_eq_true rfl⟩ rfl hl.1 rfl (Nat.le_of_ble_eq_true rfl) ⟨Nat.zero_le _, Nat.zero_le _⟩ nd_B_order_116 hS (fun H locs hP hS => ?_)
                  refine lv_aload_n hx hb nd_B_order_119 rfl (zv_at hl 0 rfl) ?_
                  refine lv_dup hx hb nd_B_order_120 rfl ?_
                  refine zb_getB hx hb hts hown hK hP 8 (by decide) (hts _ nw_163) rfl nd_B_order_121 ?_
                  refine lv_iconst (v := 1) hx hb nd_B_order_124 (by decide) ?_
                  refine lv_iadd hx hb nd_B_order_125 ?_
                  refine zb_put_o hx hb hts hown hK hG hP hS (hts _ nw_163) nd_B_order_126 (fun H locs hP hS => ?_)
                  refine lv_aload_n hx hb nd_B_order_129 rfl (zv_at hl 0 rfl) ?_
                  refine zb_getB hx hb hts hown hK hP 8 (by decide) (hts _ nw_163) rfl nd_B_order_130 ?_
                  refine lv_iconst (v := 1) hx hb nd_B_order_133 (by decide) ?_
                  refine lv_isub hx hb nd_B_order_134 ?_
                  refine zb_iret hx hb hr hlk nd_B_order_135 hP hS ?_
                  unfold zb_order
                  all_goals (try unfold zb_order2)
                  all_goals (try dsimp only)
                  all_goals (try rw [if_pos h_8])
                  all_goals (try rw [hj_16])
                  all_goals (try dsimp only)
                  all_goals (try rw [hj_23])
                  all_goals (try dsimp only)
                  all_goals (try rw [if_neg h_44])
                  all_goals (try rw [if_neg h_54])
                  all_goals (try rw [if_neg h_65])
                  all_goals (try rw [if_pos h_77])
                  all_goals (try rw [if_neg h_95])
                  all_goals rfl
                · skip
                  refine lv_iconst (v := -1) hx hb nd_B_order_98 (by decide) ?_
                  refine zb_iret hx hb hr hlk nd_B_order_99 hP hS ?_
                  unfold zb_order
                  all_goals (try unfold zb_order2)
                  all_goals (try dsimp only)
                  all_goals (try rw [if_pos h_8])
                  all_goals (try rw [hj_16])
                  all_goals (try dsimp only)
                  all_goals (try rw [hj_23])
                  all_goals (try dsimp only)
                  all_goals (try rw [if_neg h_44])
                  all_goals (try rw [if_neg h_54])
                  all_goals (try rw [if_neg h_65])
                  all_goals (try rw [if_pos h_77])
                  all_goals (try rw [if_pos h_95])
                  all_goals rfl
              · skip
                refine lv_bipush (v := -4) hx hb nd_B_order_80 (by decide) ?_
                refine zb_iret hx hb hr hlk nd_B_order_82 hP hS ?_
                unfold zb_order
                all_goals (try unfold zb_order2)
                all_goals (try dsimp only)
                all_goals (try rw [if_pos h_8])
                all_goals (try rw [hj_16])
                all_goals (try dsimp only)
                all_goals (try rw [hj_23])
                all_goals (try dsimp only)
                all_goals (try rw [if_neg h_44])
                all_goals (try rw [if_neg h_54])
                all_goals (try rw [if_neg h_65])
                all_goals (try rw [if_neg h_77])
                all_goals rfl
            · skip
              refine lv_bipush (v := -3) hx hb nd_B_order_68 (by decide) ?_
              refine zb_iret hx hb hr hlk nd_B_order_70 hP hS ?_
              unfold zb_order
              all_goals (try unfold zb_order2)
              all_goals (try dsimp only)
              all_goals (try rw [if_pos h_8])
              all_goals (try rw [hj_16])
              all_goals (try dsimp only)
              all_goals (try rw [hj_23])
              all_goals (try dsimp only)
              all_goals (try rw [if_neg h_44])
              all_goals (try rw [if_neg h_54])
              all_goals (try rw [if_pos h_65])
              all_goals rfl
        · skip
          refine lv_bipush (v := -3) hx hb nd_B_order_47 (by decide) ?_
          refine zb_iret hx hb hr hlk nd_B_order_49 hP hS ?_
          unfold zb_order
          all_goals (try unfold zb_order2)
          all_goals (try dsimp only)
          all_goals (try rw [if_pos h_8])
          all_goals (try rw [hj_16])
          all_goals (try dsimp only)
          all_goals (try rw [hj_23])
          all_goals (try dsimp only)
          all_goals (try rw [if_pos h_44])
          all_goals rfl
  · skip
    refine lv_iload hx hb nd_B_order_11 (zv_at hl 5 rfl) ?_
    refine zb_iret hx hb hr hlk nd_B_order_13 hP hS ?_
    unfold zb_order
    all_goals (try unfold zb_order2)
    all_goals (try dsimp only)
    all_goals (try rw [if_neg h_8])
    all_goals rfl

set_option maxHeartbeats 4000000 in
set_option maxRecDepth 100000 in
theorem c_B_rest (l : Launch) (D : va_G) (G : zg_G) (hG : zw_apart (zb_adr G)) (S : zb_S) (hI : zb_I S) (x : Int32) : Met l ny_B_rest (Cond.code ny_B_rest nc_B_rest 3 (some .int) :: zw_big) ({ frames := 4, cells := 0, slots := 0, locals := 86 } : Room) (zw_P [.ref (zg_bnk G), .int x] D (zb_tys G) (zb_cells G S)) (zb_Qi D G (zb_restC S x)) 0 0 (zb_Ad G) := by
  refine Met.ofW (cc := nc_B_rest) (maxL := 3) (ret := (some .int)) (by decide) rfl ?_
  intro p e s m args below meth c s₁ B hml hv
  obtain ⟨rfl, hP, hK⟩ := hv
  have hx := B.exec
  have hb := B.bytes
  have hr := B.returns
  have hts0 := atoms_spec (ws := Cond.code ny_B_rest nc_B_rest 3 (some .int) :: zw_big) B.pre
  have hts : ∀ w ∈ zw_big, w.before [.ref (zg_bnk G), .int x].toArray s = true := fun w h => hts0 w (List.mem_cons_of_mem _ h)
  have hown : s.vm.findClass nR_B = some m.cls := findClass_of_methodNamed B.named
  have hlk := B.notSynchronized
  have hS : va_S (zb_Ad G) s.heap s.heap [] := va_S.rf
  have hl := lv_entry ([.ref (zg_bnk G), .int x]) (n := 3) (Nat.le_of_ble_eq_true rfl)
  rw [lg_entry_eq]
  generalize (lg_sl ([.ref (zg_bnk G), .int x]) ++ List.replicate (3 - (lg_sl ([.ref (zg_bnk G), .int x])).length) Slot.unset).toArray = ls at hl ⊢
  have hl : lv_has ls 3 [(0, .ref (zg_bnk G)), (1, .int x)] := hl
  have hF : CallFix p m c nc_B_rest 3 s [.ref (zg_bnk G), .int x].toArray zw_big nR_B := ⟨hx, hb, hml, hown, hts⟩
  have hdm := hI.2.2.1
  refine lv_aload_n hx hb nd_B_rest_0 rfl (zv_at hl 0 rfl) ?_
  refine zw_vR (As := []) (rest := _) hF (c_B_refusalOfChange l D G _) (zw_preV hP hK (q0 := 0) (ci := 0) rfl rfl rfl) nk_B_refusalOfChange nw_193 ⟨rfl, rfl, Nat.le_of_ble_eq_true rfl, Nat.le_of_ble_eq_true rfl⟩ rfl hl.1 rfl (Nat.le_of_ble_eq_true rfl) ⟨Nat.zero_le _, Nat.zero_le _⟩ nd_B_rest_1 ?_
  refine lv_istore_n hx hb nd_B_rest_4 rfl hl (by decide) rfl (fun ls hl => ?_)
  refine lv_iload_n hx hb nd_B_rest_5 rfl (zv_at hl 2 rfl) ?_
  refine lv_if_eq (tgt := 11) hx hb nd_B_rest_6 (by decide) (fun h_6 => ?_) (fun h_6 => ?_)
  · skip
    refine lv_iload_n hx hb nd_B_rest_11 rfl (zv_at hl 1 rfl) ?_
    refine lv_iconst (v := 0) hx hb nd_B_rest_12 (by decide) ?_
    refine lv_sipush (v := 20000) hx hb nd_B_rest_13 (by decide) ?_
    refine zw_sR (As := [_, _, _]) (rest := _) hF (c_B_isWithin l _ _ _) zw_preN nk_B_isWithin nw_200 ⟨rfl, rfl, Nat.le_of_ble_eq_true rfl, Nat.le_of_ble_eq_true rfl⟩ rfl hl.1 rfl (Nat.le_of_ble_eq_true rfl) ⟨Nat.zero_le _, Nat.zero_le _⟩ nd_B_rest_16 ?_
    refine lv_if_eq (tgt := 33) hx hb nd_B_rest_19 (by decide) (fun h_19 => ?_) (fun h_19 => ?_)
    · skip
      refine lv_bipush (v := -3) hx hb nd_B_rest_33 (by decide) ?_
      refine zb_iret hx hb hr hlk nd_B_rest_35 hP hS ?_
      unfold zb_restC
      all_goals (try dsimp only)
      all_goals (try rw [if_pos h_6])
      all_goals (try rw [if_pos h_19])
      all_goals rfl
    · skip
      refine lv_aload_n hx hb nd_B_rest_22 rfl (zv_at hl 0 rfl) ?_
      refine zb_getB hx hb hts hown hK hP 3 (by decide) (hts _ nw_158) rfl nd_B_rest_23 ?_
      refine lv_iload_n hx hb nd_B_rest_26 rfl (zv_at hl 1 rfl) ?_
      refine zw_vR (As := [_]) (rest := _) hF (c_R_isRest l D G _ (by assumption) _) (zw_preV hP hK (q0 := 4) (ci := 4) rfl rfl rfl) nk_R_isRest nw_299 ⟨rfl, rfl, Nat.le_of_ble_eq_true rfl, Nat.le_of_ble_eq_true rfl⟩ rfl hl.1 rfl (Nat.le_of_ble_eq_true rfl) ⟨Nat.zero_le _, Nat.zero_le _⟩ nd_B_rest_27 ?_
      refine lv_if_eq (tgt := 36) hx hb nd_B_rest_30 (by decide) (fun h_30 => ?_) (fun h_30 => ?_)
      · skip
        refine lv_aload_n hx hb nd_B_rest_36 rfl (zv_at hl 0 rfl) ?_
        refine lv_iload_n hx hb nd_B_rest_37 rfl (zv_at hl 1 rfl) ?_
        refine zw_vR (As := [_]) (rest := _) hF (c_B_isInLaterMonth l D G _ _) (zw_preV hP hK (q0 := 0) (ci := 0) rfl rfl rfl) nk_B_isInLaterMonth nw_307 ⟨rfl, rfl, Nat.le_of_ble_eq_true rfl, Nat.le_of_ble_eq_true rfl⟩ rfl hl.1 rfl (Nat.le_of_ble_eq_true rfl) ⟨Nat.zero_le _, Nat.zero_le _⟩ nd_B_rest_38 ?_
        refine lv_if_ne (tgt := 47) hx hb nd_B_rest_41 (by decide) (fun h_41 => ?_) (fun h_41 => ?_)
        · skip
          refine lv_aload_n hx hb nd_B_rest_47 rfl (zv_at hl 0 rfl) ?_
          refine zb_getB hx hb hts hown hK hP 3 (by decide) (hts _ nw_158) rfl nd_B_rest_48 ?_
          refine zw_vR (As := []) (rest := _) hF (c_R_isFull l D G _) (zw_preV hP hK (q0 := 4) (ci := 4) rfl rfl rfl) nk_R_isFull nw_326 ⟨rfl, rfl, Nat.le_of_ble_eq_true rfl, Nat.le_of_ble_eq_true rfl⟩ rfl hl.1 rfl (Nat.le_of_ble_eq_true rfl) ⟨Nat.zero_le _, Nat.zero_le _⟩ nd_B_rest_51 ?_
          refine lv_if_eq (tgt := 60) hx hb nd_B_rest_54 (by decide) (fun h_54 => ?_) (fun h_54 => ?_)
          · skip
            refine lv_aload_n hx hb nd_B_rest_60 rfl (zv_at hl 0 rfl) ?_
            refine zb_getB hx hb hts hown hK hP 4 (by decide) (hts _ nw_159) rfl nd_B_rest_61 ?_
            refine lv_iconst (v := 0) hx hb nd_B_rest_64 (by decide) ?_
            refine zb_vWi (As := [_]) (rest := _) hF (c_D_writeTransaction l D G hG _ _) (zw_preV hP hK (q0 := 5) (ci := 5) rfl rfl rfl) nk_D_writeTransaction nw_210 ⟨rfl, rfl, Nat.le_of_ble_eq_true rfl, Nat.le_of_ble_eq_true rfl⟩ rfl hl.1 rfl (Nat.le_of_ble_eq_true rfl) ⟨Nat.zero_le _, Nat.zero_le _⟩ nd_B_rest_65 hS (fun H locs hP hS => ?_)
            refine lv_if_ne (tgt := 73) hx hb nd_B_rest_68 (by decide) (fun h_68 => ?_) (fun h_68 => ?_)
            · skip
              refine lv_aload_n hx hb nd_B_rest_73 rfl (zv_at hl 0 rfl) ?_
              refine zb_getB hx hb hts hown hK hP 3 (by decide) (hts _ nw_158) rfl nd_B_rest_74 ?_
              refine lv_iload_n hx hb nd_B_rest_77 rfl (zv_at hl 1 rfl) ?_
              refine zb_vWv (As := [_]) (rest := _) hF (c_R_add l D G hG _ (by exact hdm) _) (zw_preV hP hK (q0 := 4) (ci := 4) rfl rfl rfl) nk_R_add nw_330 ⟨rfl, rfl, Nat.le_of_ble_eq_true rfl, Nat.le_of_ble_eq_true rfl⟩ rfl hl.1 rfl (Nat.le_of_ble_eq_true rfl) ⟨Nat.zero_le _, Nat.zero_le _⟩ nd_B_rest_78 hS (fun H locs hP hS => ?_)
              refine lv_iconst (v := 0) hx hb nd_B_rest_81 (by decide) ?_
              refine zb_iret hx hb hr hlk nd_B_rest_82 hP hS ?_
              unfold zb_restC
              all_goals (try dsimp only)
              all_goals (try rw [if_pos h_6])
              all_goals (try rw [if_neg h_19])
              all_goals (try rw [if_pos h_30])
              all_goals (try rw [if_neg h_41])
              all_goals (try rw [if_pos h_54])
              all_goals (try rw [if_neg h_68])
              all_goals rfl
            · skip
              refine lv_iconst (v := -1) hx hb nd_B_rest_71 (by decide) ?_
              refine zb_iret hx hb hr hlk nd_B_rest_72 hP hS ?_
              unfold zb_restC
              all_goals (try dsimp only)
              all_goals (try rw [if_pos h_6])
              all_goals (try rw [if_neg h_19])
              all_goals (try rw [if_pos h_30])
              all_goals (try rw [if_neg h_41])
              all_goals (try rw [if_pos h_54])
              all_goals (try rw [if_pos h_68])
              all_goals rfl
          · skip
            refine lv_bipush (v := -4) hx hb nd_B_rest_57 (by decide) ?_
            refine zb_iret hx hb hr hlk nd_B_rest_59 hP hS ?_
            unfold zb_restC
            all_goals (try dsimp only)
            all_goals (try rw [if_pos h_6])
            all_goals (try rw [if_neg h_19])
            all_goals (try rw [if_pos h_30])
            all_goals (try rw [if_neg h_41])
            all_goals (try rw [if_neg h_54])
            all_goals rfl
        · skip
          refine lv_bipush (v := -3) hx hb nd_B_rest_44 (by decide) ?_
          refine zb_iret hx hb hr hlk nd_B_rest_46 hP hS ?_
          unfold zb_restC
          all_goals (try dsimp only)
          all_goals (try rw [if_pos h_6])
          all_goals (try rw [if_neg h_19])
          all_goals (try rw [if_pos h_30])
          all_goals (try rw [if_pos h_41])
          all_goals rfl
      · skip
        refine lv_bipush (v := -3) hx hb nd_B_rest_33 (by decide) ?_
        refine zb_iret hx hb hr hlk nd_B_rest_35 hP hS ?_
        unfold zb_restC
        all_goals (try dsimp only)
        all_goals (try rw [if_pos h_6])
        all_goals (try rw [if_neg h_19])
        all_goals (try rw [if_neg h_30])
        all_goals rfl
  · skip
    refine lv_iload_n hx hb nd_B_rest_9 rfl (zv_at hl 2 rfl) ?_
    refine zb_iret hx hb hr hlk nd_B_rest_10 hP hS ?_
    unfold zb_restC
    all_goals (try dsimp only)
    all_goals (try rw [if_neg h_6])
    all_goals rfl

set_option maxHeartbeats 4000000 in
set_option maxRecDepth 100000 in
theorem c_B_fuse (l : Launch) (D : va_G) (G : zg_G) (hG : zw_apart (zb_adr G)) (S : zb_S) (n : Int32) : Met l ny_B_fuse (Cond.code ny_B_fuse nc_B_fuse 2 (some .boolean) :: zw_big) ({ frames := 1, cells := 0, slots := 0, locals := 22 } : Room) (zw_P [.ref (zg_bnk G), .int n] D (zb_tys G) (zb_cells G S)) (zb_Qi D G (zb_fuse S n)) 0 0 (zb_Ad G) := by
  refine Met.ofW (cc := nc_B_fuse) (maxL := 2) (ret := (some .boolean)) (by decide) rfl ?_
  intro p e s m args below meth c s₁ B hml hv
  obtain ⟨rfl, hP, hK⟩ := hv
  have hx := B.exec
  have hb := B.bytes
  have hr := B.returns
  have hts0 := atoms_spec (ws := Cond.code ny_B_fuse nc_B_fuse 2 (some .boolean) :: zw_big) B.pre
  have hts : ∀ w ∈ zw_big, w.before [.ref (zg_bnk G), .int n].toArray s = true := fun w h => hts0 w (List.mem_cons_of_mem _ h)
  have hown : s.vm.findClass nR_B = some m.cls := findClass_of_methodNamed B.named
  have hlk := B.notSynchronized
  have hS : va_S (zb_Ad G) s.heap s.heap [] := va_S.rf
  have hl := lv_entry ([.ref (zg_bnk G), .int n]) (n := 2) (Nat.le_of_ble_eq_true rfl)
  rw [lg_entry_eq]
  generalize (lg_sl ([.ref (zg_bnk G), .int n]) ++ List.replicate (2 - (lg_sl ([.ref (zg_bnk G), .int n])).length) Slot.unset).toArray = ls at hl ⊢
  have hl : lv_has ls 2 [(0, .ref (zg_bnk G)), (1, .int n)] := hl
  have hF : CallFix p m c nc_B_fuse 2 s [.ref (zg_bnk G), .int n].toArray zw_big nR_B := ⟨hx, hb, hml, hown, hts⟩
  refine lv_aload_n hx hb nd_B_fuse_0 rfl (zv_at hl 0 rfl) ?_
  refine zb_getB hx hb hts hown hK hP 4 (by decide) (hts _ nw_159) rfl nd_B_fuse_1 ?_
  refine zb_getD hx hb hts hown hK hP 0 (by decide) (hts _ nw_46) rfl nd_B_fuse_4 ?_
  refine lv_if_ne (tgt := 21) hx hb nd_B_fuse_7 (by decide) (fun h_7 => ?_) (fun h_7 => ?_)
  · skip
    refine lv_iconst (v := 0) hx hb nd_B_fuse_21 (by decide) ?_
    refine zb_zret hx hb hr hlk nd_B_fuse_22 hP hS (by decide) ?_
    unfold zb_fuse
    all_goals (try dsimp only)
    all_goals (try rw [if_neg h_7])
    all_goals rfl
  · skip
    refine lv_iload_n hx hb nd_B_fuse_10 rfl (zv_at hl 1 rfl) ?_
    refine lv_iconst (v := -1) hx hb nd_B_fuse_11 (by decide) ?_
    refine lv_sipush (v := 500) hx hb nd_B_fuse_12 (by decide) ?_
    refine zw_sR (As := [_, _, _]) (rest := _) hF (c_B_isWithin l _ _ _) zw_preN nk_B_isWithin nw_200 ⟨rfl, rfl, Nat.le_of_ble_eq_true rfl, Nat.le_of_ble_eq_true rfl⟩ rfl hl.1 rfl (Nat.le_of_ble_eq_true rfl) ⟨Nat.zero_le _, Nat.zero_le _⟩ nd_B_fuse_15 ?_
    refine lv_if_ne (tgt := 23) hx hb nd_B_fuse_18 (by decide) (fun h_18 => ?_) (fun h_18 => ?_)
    · skip
      refine lv_aload_n hx hb nd_B_fuse_23 rfl (zv_at hl 0 rfl) ?_
      refine zb_getB hx hb hts hown hK hP 4 (by decide) (hts _ nw_159) rfl nd_B_fuse_24 ?_
      refine lv_iload_n hx hb nd_B_fuse_27 rfl (zv_at hl 1 rfl) ?_
      refine zb_put_wl hx hb hts hown hK hG hP hS (hts _ nw_50) nd_B_fuse_28 (fun H locs hP hS => ?_)
      refine lv_iconst (v := 1) hx hb nd_B_fuse_31 (by decide) ?_
      refine zb_zret hx hb hr hlk nd_B_fuse_32 hP hS (by decide) ?_
      unfold zb_fuse
      all_goals (try dsimp only)
      all_goals (try rw [if_pos h_7])
      all_goals (try rw [if_neg h_18])
      all_goals rfl
    · skip
      refine lv_iconst (v := 0) hx hb nd_B_fuse_21 (by decide) ?_
      refine zb_zret hx hb hr hlk nd_B_fuse_22 hP hS (by decide) ?_
      unfold zb_fuse
      all_goals (try dsimp only)
      all_goals (try rw [if_pos h_7])
      all_goals (try rw [if_pos h_18])
      all_goals rfl

set_option maxHeartbeats 4000000 in
set_option maxRecDepth 100000 in
theorem c_B_restart (l : Launch) (D : va_G) (G : zg_G) (hG : zw_apart (zb_adr G)) (S : zb_S) : Met l ny_B_restart (Cond.code ny_B_restart nc_B_restart 1 (some .int) :: zw_big) ({ frames := 0, cells := 0, slots := 0, locals := 0 } : Room) (zw_P [.ref (zg_bnk G)] D (zb_tys G) (zb_cells G S)) (zb_Qi D G (zb_restart S)) 0 0 (zb_Ad G) := by
  refine Met.ofW (cc := nc_B_restart) (maxL := 1) (ret := (some .int)) (by decide) rfl ?_
  intro p e s m args below meth c s₁ B hml hv
  obtain ⟨rfl, hP, hK⟩ := hv
  have hx := B.exec
  have hb := B.bytes
  have hr := B.returns
  have hts0 := atoms_spec (ws := Cond.code ny_B_restart nc_B_restart 1 (some .int) :: zw_big) B.pre
  have hts : ∀ w ∈ zw_big, w.before [.ref (zg_bnk G)].toArray s = true := fun w h => hts0 w (List.mem_cons_of_mem _ h)
  have hown : s.vm.findClass nR_B = some m.cls := findClass_of_methodNamed B.named
  have hlk := B.notSynchronized
  have hS : va_S (zb_Ad G) s.heap s.heap [] := va_S.rf
  have hl := lv_entry ([.ref (zg_bnk G)]) (n := 1) (Nat.le_of_ble_eq_true rfl)
  rw [lg_entry_eq]
  generalize (lg_sl ([.ref (zg_bnk G)]) ++ List.replicate (1 - (lg_sl ([.ref (zg_bnk G)])).length) Slot.unset).toArray = ls at hl ⊢
  have hl : lv_has ls 1 [(0, .ref (zg_bnk G))] := hl
  have hF : CallFix p m c nc_B_restart 1 s [.ref (zg_bnk G)].toArray zw_big nR_B := ⟨hx, hb, hml, hown, hts⟩
  refine lv_aload_n hx hb nd_B_restart_0 rfl (zv_at hl 0 rfl) ?_
  refine zb_getB hx hb hts hown hK hP 4 (by decide) (hts _ nw_159) rfl nd_B_restart_1 ?_
  refine zb_getD hx hb hts hown hK hP 0 (by decide) (hts _ nw_46) rfl nd_B_restart_4 ?_
  refine lv_if_ne (tgt := 13) hx hb nd_B_restart_7 (by decide) (fun h_7 => ?_) (fun h_7 => ?_)
  · skip
    refine lv_aload_n hx hb nd_B_restart_13 rfl (zv_at hl 0 rfl) ?_
    refine zb_getB hx hb hts hown hK hP 4 (by decide) (hts _ nw_159) rfl nd_B_restart_14 ?_
    refine lv_iconst (v := 0) hx hb nd_B_restart_17 (by decide) ?_
    refine zb_put_stp hx hb hts hown hK hG hP hS (by decide) (hts _ nw_46) nd_B_restart_18 (fun H locs hP hS => ?_)
    refine lv_aload_n hx hb nd_B_restart_21 rfl (zv_at hl 0 rfl) ?_
    refine zb_getB hx hb hts hown hK hP 4 (by decide) (hts _ nw_159) rfl nd_B_restart_22 ?_
    refine lv_iconst (v := -1) hx hb nd_B_restart_25 (by decide) ?_
    refine zb_put_wl hx hb hts hown hK hG hP hS (hts _ nw_50) nd_B_restart_26 (fun H locs hP hS => ?_)
    refine lv_aload_n hx hb nd_B_restart_29 rfl (zv_at hl 0 rfl) ?_
    refine zb_getB hx hb hts hown hK hP 4 (by decide) (hts _ nw_159) rfl nd_B_restart_30 ?_
    refine zb_getD hx hb hts hown hK hP 4 (by decide) (hts _ nw_54) rfl nd_B_restart_33 ?_
    refine zb_iret hx hb hr hlk nd_B_restart_36 hP hS ?_
    unfold zb_restart
    all_goals (try dsimp only)
    all_goals (try rw [if_neg h_7])
    all_goals rfl
  · skip
    refine lv_bipush (v := -3) hx hb nd_B_restart_10 (by decide) ?_
    refine zb_iret hx hb hr hlk nd_B_restart_12 hP hS ?_
    unfold zb_restart
    all_goals (try dsimp only)
    all_goals (try rw [if_pos h_7])
    all_goals rfl
