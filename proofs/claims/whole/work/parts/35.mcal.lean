set_option maxHeartbeats 4000000 in
set_option maxRecDepth 100000 in
theorem c_M_leap (l : Launch) (y : Nat) (hy : y < 100000) : Met l ny_M_leap (Cond.code ny_M_leap nc_M_leap 1 (some .boolean) :: zw_big) ({ frames := 0, cells := 0, slots := 0, locals := 0 } : Room) (zw_N [.int (nI y)]) (zw_R (.int (zm_lp y))) 0 0 (fun _ => False) := by
  refine Met.ofW (cc := nc_M_leap) (maxL := 1) (ret := (some .boolean)) (by decide) rfl ?_
  intro p e s m args below meth c s₁ B hml hv
  have hv : args = [.int (nI y)].toArray := hv
  subst hv
  have hx := B.exec
  have hb := B.bytes
  have hr := B.returns
  have hts0 := atoms_spec (ws := Cond.code ny_M_leap nc_M_leap 1 (some .boolean) :: zw_big) B.pre
  have hts : ∀ w ∈ zw_big, w.before [.int (nI y)].toArray s = true := fun w h => hts0 w (List.mem_cons_of_mem _ h)
  have hown : s.vm.findClass nR_M = some m.cls := findClass_of_methodNamed B.named
  have hlk := B.notSynchronized
  have hl := lv_entry ([.int (nI y)]) (n := 1) (Nat.le_of_ble_eq_true rfl)
  rw [lg_entry_eq]
  generalize (lg_sl ([.int (nI y)]) ++ List.replicate (1 - (lg_sl ([.int (nI y)])).length) Slot.unset).toArray = ls at hl ⊢
  have hl : lv_has ls 1 [(0, .int (nI y))] := hl
  have hF : CallFix p m c nc_M_leap 1 s [.int (nI y)].toArray zw_big nR_M := ⟨hx, hb, hml, hown, hts⟩
  refine lv_iload_n hx hb nd_M_leap_0 rfl (zv_at hl 0 rfl) ?_
  refine lv_iconst (v := 4) hx hb nd_M_leap_1 (by decide) ?_
  refine lv_irem hx hb nd_M_leap_2 (by decide) ?_
  rw [show nI y - nI y / 4 * 4 = nI (y % 4) from pk_rem (d := 4) (by omega) (by decide) (by decide)]
  refine lv_if_ne (tgt := 13) hx hb nd_M_leap_3 (by decide) (fun h_3 => ?_) (fun h_3 => ?_)
  · skip
    refine lv_iload_n hx hb nd_M_leap_13 rfl (zv_at hl 0 rfl) ?_
    refine lv_sipush (v := 400) hx hb nd_M_leap_14 (by decide) ?_
    refine lv_irem hx hb nd_M_leap_17 (by decide) ?_
    rw [show nI y - nI y / 400 * 400 = nI (y % 400) from pk_rem (d := 400) (by omega) (by decide) (by decide)]
    refine lv_if_ne (tgt := 25) hx hb nd_M_leap_18 (by decide) (fun h_18 => ?_) (fun h_18 => ?_)
    · skip
      refine lv_iconst (v := 0) hx hb nd_M_leap_25 (by decide) ?_
      refine zw_zret hx hb hr hlk nd_M_leap_26 (by decide) ?_
      unfold zm_lp zc_leap
      rw [zc_b0, zc_b0, zc_b0]
      rw [decide_eq_false (fun q => h_3 ((zm_n0 (a := y % 4) (by omega)).mpr q))]
      rw [decide_eq_false (fun q => h_18 ((zm_n0 (a := y % 400) (by omega)).mpr q))]
      simp only [Bool.false_and, Bool.true_and, Bool.false_or, Bool.true_or, Bool.or_true, Bool.not_true, Bool.not_false, Bool.and_false, cond_true, cond_false, Bool.and_true, Bool.or_false]
    · skip
      refine lv_iconst (v := 1) hx hb nd_M_leap_21 (by decide) ?_
      refine lv_goto (tgt := 26) hx hb nd_M_leap_22 (by decide) ?_
      refine zw_zret hx hb hr hlk nd_M_leap_26 (by decide) ?_
      unfold zm_lp zc_leap
      rw [zc_b0, zc_b0, zc_b0]
      rw [decide_eq_false (fun q => h_3 ((zm_n0 (a := y % 4) (by omega)).mpr q))]
      rw [decide_eq_true ((zm_n0 (a := y % 400) (by omega)).mp h_18)]
      simp only [Bool.false_and, Bool.true_and, Bool.false_or, Bool.true_or, Bool.or_true, Bool.not_true, Bool.not_false, Bool.and_false, cond_true, cond_false, Bool.and_true, Bool.or_false]
  · skip
    refine lv_iload_n hx hb nd_M_leap_6 rfl (zv_at hl 0 rfl) ?_
    refine lv_bipush (v := 100) hx hb nd_M_leap_7 (by decide) ?_
    refine lv_irem hx hb nd_M_leap_9 (by decide) ?_
    rw [show nI y - nI y / 100 * 100 = nI (y % 100) from pk_rem (d := 100) (by omega) (by decide) (by decide)]
    refine lv_if_ne (tgt := 21) hx hb nd_M_leap_10 (by decide) (fun h_10 => ?_) (fun h_10 => ?_)
    · skip
      refine lv_iconst (v := 1) hx hb nd_M_leap_21 (by decide) ?_
      refine lv_goto (tgt := 26) hx hb nd_M_leap_22 (by decide) ?_
      refine zw_zret hx hb hr hlk nd_M_leap_26 (by decide) ?_
      unfold zm_lp zc_leap
      rw [zc_b0, zc_b0, zc_b0]
      rw [decide_eq_true ((zm_n0 (a := y % 4) (by omega)).mp h_3)]
      rw [decide_eq_false (fun q => h_10 ((zm_n0 (a := y % 100) (by omega)).mpr q))]
      simp only [Bool.false_and, Bool.true_and, Bool.false_or, Bool.true_or, Bool.or_true, Bool.not_true, Bool.not_false, Bool.and_false, cond_true, cond_false, Bool.and_true, Bool.or_false]
    · skip
      refine lv_iload_n hx hb nd_M_leap_13 rfl (zv_at hl 0 rfl) ?_
      refine lv_sipush (v := 400) hx hb nd_M_leap_14 (by decide) ?_
      refine lv_irem hx hb nd_M_leap_17 (by decide) ?_
      rw [show nI y - nI y / 400 * 400 = nI (y % 400) from pk_rem (d := 400) (by omega) (by decide) (by decide)]
      refine lv_if_ne (tgt := 25) hx hb nd_M_leap_18 (by decide) (fun h_18 => ?_) (fun h_18 => ?_)
      · skip
        refine lv_iconst (v := 0) hx hb nd_M_leap_25 (by decide) ?_
        refine zw_zret hx hb hr hlk nd_M_leap_26 (by decide) ?_
        unfold zm_lp zc_leap
        rw [zc_b0, zc_b0, zc_b0]
        rw [decide_eq_true ((zm_n0 (a := y % 4) (by omega)).mp h_3)]
        rw [decide_eq_true ((zm_n0 (a := y % 100) (by omega)).mp h_10)]
        rw [decide_eq_false (fun q => h_18 ((zm_n0 (a := y % 400) (by omega)).mpr q))]
        simp only [Bool.false_and, Bool.true_and, Bool.false_or, Bool.true_or, Bool.or_true, Bool.not_true, Bool.not_false, Bool.and_false, cond_true, cond_false, Bool.and_true, Bool.or_false]
      · skip
        refine lv_iconst (v := 1) hx hb nd_M_leap_21 (by decide) ?_
        refine lv_goto (tgt := 26) hx hb nd_M_leap_22 (by decide) ?_
        refine zw_zret hx hb hr hlk nd_M_leap_26 (by decide) ?_
        unfold zm_lp zc_leap
        rw [zc_b0, zc_b0, zc_b0]
        rw [decide_eq_true ((zm_n0 (a := y % 4) (by omega)).mp h_3)]
        rw [decide_eq_true ((zm_n0 (a := y % 100) (by omega)).mp h_10)]
        rw [decide_eq_true ((zm_n0 (a := y % 400) (by omega)).mp h_18)]
        simp only [Bool.false_and, Bool.true_and, Bool.false_or, Bool.true_or, Bool.or_true, Bool.not_true, Bool.not_false, Bool.and_false, cond_true, cond_false, Bool.and_true, Bool.or_false]

set_option maxHeartbeats 4000000 in
set_option maxRecDepth 100000 in
theorem c_M_length (l : Launch) (y m9 : Nat) (hy : y < 100000) (hm : m9 < 100000) : Met l ny_M_length (Cond.code ny_M_length nc_M_length 2 (some .int) :: zw_big) ({ frames := 1, cells := 0, slots := 0, locals := 20 } : Room) (zw_N [.int (nI y), .int (nI m9)]) (zw_R (.int (nI (zc_ml y m9)))) 0 0 (fun _ => False) := by
  refine Met.ofW (cc := nc_M_length) (maxL := 2) (ret := (some .int)) (by decide) rfl ?_
  intro p e s m args below meth c s₁ B hml hv
  have hv : args = [.int (nI y), .int (nI m9)].toArray := hv
  subst hv
  have hx := B.exec
  have hb := B.bytes
  have hr := B.returns
  have hts0 := atoms_spec (ws := Cond.code ny_M_length nc_M_length 2 (some .int) :: zw_big) B.pre
  have hts : ∀ w ∈ zw_big, w.before [.int (nI y), .int (nI m9)].toArray s = true := fun w h => hts0 w (List.mem_cons_of_mem _ h)
  have hown : s.vm.findClass nR_M = some m.cls := findClass_of_methodNamed B.named
  have hlk := B.notSynchronized
  have hl := lv_entry ([.int (nI y), .int (nI m9)]) (n := 2) (Nat.le_of_ble_eq_true rfl)
  rw [lg_entry_eq]
  generalize (lg_sl ([.int (nI y), .int (nI m9)]) ++ List.replicate (2 - (lg_sl ([.int (nI y), .int (nI m9)])).length) Slot.unset).toArray = ls at hl ⊢
  have hl : lv_has ls 2 [(0, .int (nI y)), (1, .int (nI m9))] := hl
  have hF : CallFix p m c nc_M_length 2 s [.int (nI y), .int (nI m9)].toArray zw_big nR_M := ⟨hx, hb, hml, hown, hts⟩
  refine lv_iload_n hx hb nd_M_length_0 rfl (zv_at hl 1 rfl) ?_
  refine lv_iconst (v := 2) hx hb nd_M_length_1 (by decide) ?_
  refine lv_icmp_ne (tgt := 22) hx hb nd_M_length_2 (by decide) (fun h_2 => ?_) (fun h_2 => ?_)
  · skip
    refine lv_iload_n hx hb nd_M_length_22 rfl (zv_at hl 1 rfl) ?_
    refine lv_iconst (v := 4) hx hb nd_M_length_23 (by decide) ?_
    refine lv_icmp_eq (tgt := 45) hx hb nd_M_length_24 (by decide) (fun h_24 => ?_) (fun h_24 => ?_)
    · skip
      refine lv_bipush (v := 30) hx hb nd_M_length_45 (by decide) ?_
      refine lv_goto (tgt := 52) hx hb nd_M_length_47 (by decide) ?_
      refine zw_iret hx hb hr hlk nd_M_length_52 ?_
      unfold zc_ml
      rw [zc_beq, zc_beq, zc_beq, zc_beq, zc_beq]
      rw [decide_eq_false (fun q => h_2 (by rw [q]; rfl))]
      rw [decide_eq_true ((nI_eq (a := m9) (b := 4) (by omega) (by decide)).mp h_24)]
      simp only [Bool.false_and, Bool.true_and, Bool.false_or, Bool.true_or, Bool.or_true, Bool.not_true, Bool.not_false, Bool.and_false, cond_true, cond_false, Bool.and_true, Bool.or_false]
      all_goals rfl
    · skip
      refine lv_iload_n hx hb nd_M_length_27 rfl (zv_at hl 1 rfl) ?_
      refine lv_bipush (v := 6) hx hb nd_M_length_28 (by decide) ?_
      refine lv_icmp_eq (tgt := 45) hx hb nd_M_length_30 (by decide) (fun h_30 => ?_) (fun h_30 => ?_)
      · skip
        refine lv_bipush (v := 30) hx hb nd_M_length_45 (by decide) ?_
        refine lv_goto (tgt := 52) hx hb nd_M_length_47 (by decide) ?_
        refine zw_iret hx hb hr hlk nd_M_length_52 ?_
        unfold zc_ml
        rw [zc_beq, zc_beq, zc_beq, zc_beq, zc_beq]
        rw [decide_eq_false (fun q => h_2 (by rw [q]; rfl))]
        rw [decide_eq_false (fun q : m9 = 4 => h_24 (by rw [q]; rfl))]
        rw [decide_eq_true ((nI_eq (a := m9) (b := 6) (by omega) (by decide)).mp h_30)]
        simp only [Bool.false_and, Bool.true_and, Bool.false_or, Bool.true_or, Bool.or_true, Bool.not_true, Bool.not_false, Bool.and_false, cond_true, cond_false, Bool.and_true, Bool.or_false]
        all_goals rfl
      · skip
        refine lv_iload_n hx hb nd_M_length_33 rfl (zv_at hl 1 rfl) ?_
        refine lv_bipush (v := 9) hx hb nd_M_length_34 (by decide) ?_
        refine lv_icmp_eq (tgt := 45) hx hb nd_M_length_36 (by decide) (fun h_36 => ?_) (fun h_36 => ?_)
        · skip
          refine lv_bipush (v := 30) hx hb nd_M_length_45 (by decide) ?_
          refine lv_goto (tgt := 52) hx hb nd_M_length_47 (by decide) ?_
          refine zw_iret hx hb hr hlk nd_M_length_52 ?_
          unfold zc_ml
          rw [zc_beq, zc_beq, zc_beq, zc_beq, zc_beq]
          rw [decide_eq_false (fun q => h_2 (by rw [q]; rfl))]
          rw [decide_eq_false (fun q : m9 = 4 => h_24 (by rw [q]; rfl))]
          rw [decide_eq_false (fun q : m9 = 6 => h_30 (by rw [q]; rfl))]
          rw [decide_eq_true ((nI_eq (a := m9) (b := 9) (by omega) (by decide)).mp h_36)]
          simp only [Bool.false_and, Bool.true_and, Bool.false_or, Bool.true_or, Bool.or_true, Bool.not_true, Bool.not_false, Bool.and_false, cond_true, cond_false, Bool.and_true, Bool.or_false]
          all_goals rfl
        · skip
          refine lv_iload_n hx hb nd_M_length_39 rfl (zv_at hl 1 rfl) ?_
          refine lv_bipush (v := 11) hx hb nd_M_length_40 (by decide) ?_
          refine lv_icmp_ne (tgt := 50) hx hb nd_M_length_42 (by decide) (fun h_42 => ?_) (fun h_42 => ?_)
          · skip
            refine lv_bipush (v := 31) hx hb nd_M_length_50 (by decide) ?_
            refine zw_iret hx hb hr hlk nd_M_length_52 ?_
            unfold zc_ml
            rw [zc_beq, zc_beq, zc_beq, zc_beq, zc_beq]
            rw [decide_eq_false (fun q => h_2 (by rw [q]; rfl))]
            rw [decide_eq_false (fun q : m9 = 4 => h_24 (by rw [q]; rfl))]
            rw [decide_eq_false (fun q : m9 = 6 => h_30 (by rw [q]; rfl))]
            rw [decide_eq_false (fun q : m9 = 9 => h_36 (by rw [q]; rfl))]
            rw [decide_eq_false (fun q : m9 = 11 => h_42 (by rw [q]; rfl))]
            simp only [Bool.false_and, Bool.true_and, Bool.false_or, Bool.true_or, Bool.or_true, Bool.not_true, Bool.not_false, Bool.and_false, cond_true, cond_false, Bool.and_true, Bool.or_false]
            all_goals rfl
          · skip
            refine lv_bipush (v := 30) hx hb nd_M_length_45 (by decide) ?_
            refine lv_goto (tgt := 52) hx hb nd_M_length_47 (by decide) ?_
            refine zw_iret hx hb hr hlk nd_M_length_52 ?_
            unfold zc_ml
            rw [zc_beq, zc_beq, zc_beq, zc_beq, zc_beq]
            rw [decide_eq_false (fun q => h_2 (by rw [q]; rfl))]
            rw [decide_eq_false (fun q : m9 = 4 => h_24 (by rw [q]; rfl))]
            rw [decide_eq_false (fun q : m9 = 6 => h_30 (by rw [q]; rfl))]
            rw [decide_eq_false (fun q : m9 = 9 => h_36 (by rw [q]; rfl))]
            rw [decide_eq_true ((nI_eq (a := m9) (b := 11) (by omega) (by decide)).mp h_42)]
            simp only [Bool.false_and, Bool.true_and, Bool.false_or, Bool.true_or, Bool.or_true, Bool.not_true, Bool.not_false, Bool.and_false, cond_true, cond_false, Bool.and_true, Bool.or_false]
            all_goals rfl
  · skip
    refine lv_iload_n hx hb nd_M_length_5 rfl (zv_at hl 0 rfl) ?_
    refine zw_sR (As := [_]) (rest := _) hF (c_M_leap l _ (by omega)) zw_preN nk_M_leap nw_650 ⟨rfl, rfl, Nat.le_of_ble_eq_true rfl, Nat.le_of_ble_eq_true rfl⟩ rfl hl.1 rfl (Nat.le_of_ble_eq_true rfl) ⟨Nat.zero_le _, Nat.zero_le _⟩ nd_M_length_6 ?_
    refine lv_if_eq (tgt := 17) hx hb nd_M_length_9 (by decide) (fun h_9 => ?_) (fun h_9 => ?_)
    · skip
      refine lv_bipush (v := 28) hx hb nd_M_length_17 (by decide) ?_
      refine lv_goto (tgt := 52) hx hb nd_M_length_19 (by decide) ?_
      refine zw_iret hx hb hr hlk nd_M_length_52 ?_
      unfold zc_ml
      rw [zc_beq, zc_beq, zc_beq, zc_beq, zc_beq]
      rw [decide_eq_true ((nI_eq (a := m9) (b := 2) (by omega) (by decide)).mp h_2)]
      rw [zm_lp_0 h_9]
      all_goals rfl
    · skip
      refine lv_bipush (v := 29) hx hb nd_M_length_12 (by decide) ?_
      refine lv_goto (tgt := 52) hx hb nd_M_length_14 (by decide) ?_
      refine zw_iret hx hb hr hlk nd_M_length_52 ?_
      unfold zc_ml
      rw [zc_beq, zc_beq, zc_beq, zc_beq, zc_beq]
      rw [decide_eq_true ((nI_eq (a := m9) (b := 2) (by omega) (by decide)).mp h_2)]
      rw [zm_lp_1 h_9]
      all_goals rfl

set_option maxHeartbeats 4000000 in
set_option maxRecDepth 100000 in
theorem c_M_resting (l : Launch) (D : va_G) (G : zh_G) (T : zm_S) (Y : zm_Y) (x : Int32) (hdm : ∃ r, r ≤ 8 ∧ zm_rst T = nI r) : Met l ny_M_resting (Cond.code ny_M_resting nc_M_resting 4 (some .boolean) :: zw_big) ({ frames := 0, cells := 0, slots := 0, locals := 0 } : Room) (zw_P [.ref (zh_mdl G), .int x] D (zm_tys G) (zm_cells G T Y)) (zw_R (.int (zb_isRest (zm_R T) x))) 0 0 (fun _ => False) := by
  refine Met.ofW (cc := nc_M_resting) (maxL := 4) (ret := (some .boolean)) (by decide) rfl ?_
  intro p e s m args below meth c s₁ B hml hv
  obtain ⟨rfl, hP, hK⟩ := hv
  have hx := B.exec
  have hb := B.bytes
  have hr := B.returns
  have hts0 := atoms_spec (ws := Cond.code ny_M_resting nc_M_resting 4 (some .boolean) :: zw_big) B.pre
  have hts : ∀ w ∈ zw_big, w.before [.ref (zh_mdl G), .int x].toArray s = true := fun w h => hts0 w (List.mem_cons_of_mem _ h)
  have hown : s.vm.findClass nR_M = some m.cls := findClass_of_methodNamed B.named
  have hlk := B.notSynchronized
  have hl := lv_entry ([.ref (zh_mdl G), .int x]) (n := 4) (Nat.le_of_ble_eq_true rfl)
  rw [lg_entry_eq]
  generalize (lg_sl ([.ref (zh_mdl G), .int x]) ++ List.replicate (4 - (lg_sl ([.ref (zh_mdl G), .int x])).length) Slot.unset).toArray = ls at hl ⊢
  have hl : lv_has ls 4 [(0, .ref (zh_mdl G)), (1, .int x)] := hl
  have hF : CallFix p m c nc_M_resting 4 s [.ref (zh_mdl G), .int x].toArray zw_big nR_M := ⟨hx, hb, hml, hown, hts⟩
  obtain ⟨r, hr8, er⟩ := hdm
  have er2 : (zbR_dm (zm_R T)).toNatClampNeg = r := by show (zm_rst T).toNatClampNeg = r; rw [er]; exact nI_clamp (by omega)
  refine zw_cut (σ := Int32) 20 (fun z => [.int z]) (fun z H locs ls => H = s.heap ∧ locs = [] ∧ z = zm_wk x ∧ lv_has ls 4 [(0, .ref (zh_mdl G)), (1, .int x)]) (fun z H locs ls hI => ?_) (fun hJ20 => ?_)
  · skip
    obtain ⟨hH, hL, hv, hl⟩ := hI
    subst hH
    subst hL
    subst hv
    refine lv_istore_n hx hb nd_M_resting_20 rfl hl (by decide) rfl (fun ls hl => ?_)
    refine lv_iconst (v := 0) hx hb nd_M_resting_21 (by decide) ?_
    refine lv_istore_n hx hb nd_M_resting_22 rfl hl (by decide) rfl (fun ls hl => ?_)
    refine zw_loop (σ := Nat) (fun k i H locs ls => H = s.heap ∧ locs = [] ∧ i + k = r ∧ lv_has ls 4 [(0, .ref (zh_mdl G)), (1, .int x), (2, .int (zm_fnd (zm_wk x) (zm_dat T) x i)), (3, .int (nI i))]) ?_ r 0 ⟨rfl, rfl, by omega, zv_sub hl (by intro q hq; simp only [List.mem_cons, List.not_mem_nil, or_false] at hq; rcases hq with rfl | rfl | rfl | rfl; rfl; rfl; exact congrArg (fun z => some (Value.int z)) (show zm_wk x = zm_fnd (zm_wk x) (zm_dat T) x 0 by unfold zm_fnd zm_wk zb_was; split <;> (try split) <;> (try split) <;> simp_all); rfl)⟩
    intro k i H locs ls hI9 ih
    obtain ⟨hH, hL, hik, hl⟩ := hI9
    subst hH
    subst hL
    refine lv_iload_n hx hb nd_M_resting_23 rfl (zv_at hl 3 rfl) ?_
    refine lv_aload_n hx hb nd_M_resting_24 rfl (zv_at hl 0 rfl) ?_
    refine zm_get hx hb hts hown hK hP 16 (by decide) (hts _ nw_483) rfl nd_M_resting_25 ?_
    refine lv_icmp_ge (tgt := 57) hx hb nd_M_resting_28 (by decide) (fun h_28 => ?_) (fun h_28 => ?_)
    · skip
      have hk0 : k = 0 := by
        have h : nI r ≤ nI i := by rw [← er]; exact h_28
        have := (nI_leI (a := r) (b := i) (by omega) (by omega)).mp h
        omega
      subst hk0
      obtain rfl : i = r := by omega
      refine lv_iload_n hx hb nd_M_resting_57 rfl (zv_at hl 2 rfl) ?_
      refine zw_zret hx hb hr hlk nd_M_resting_58 (zm_fnd_01 _ _ _ _) ?_
      rw [zm_isRest_fnd, er2]
      all_goals rfl
    · skip
      have hir : i < r := by
        refine Nat.lt_of_not_le fun q => h_28 ?_
        show zm_rst T ≤ nI i
        rw [er]; exact nI_le q (by omega)
      have hi8 : i < 8 := by omega
      refine zw_cut (σ := Int32) 50 (fun z => [.int z]) (fun z H locs ls => H = s.heap ∧ locs = [] ∧ z = zm_fnd (zm_wk x) (zm_dat T) x (i + 1) ∧ lv_has ls 4 [(0, .ref (zh_mdl G)), (1, .int x), (2, .int (zm_fnd (zm_wk x) (zm_dat T) x i)), (3, .int (nI i))]) (fun z H locs ls hI9 => ?_) (fun hJ50 => ?_)
      · skip
        obtain ⟨hH, hL, hv, hl⟩ := hI9
        subst hH
        subst hL
        subst hv
        refine lv_istore_n hx hb nd_M_resting_50 rfl hl (by decide) rfl (fun ls hl => ?_)
        refine zv_iinc (v := nI (i + 1)) hx hb nd_M_resting_51 hl rfl ((nI_succ i).symm) (by decide) rfl (fun ls hl => ?_)
        refine lv_goto (tgt := 23) hx hb nd_M_resting_54 (by decide) ?_
        exact ih (k - 1) (i + 1) _ _ _ (by omega) ⟨rfl, rfl, by omega, zv_sub hl (by intro q hq; simp only [List.mem_cons, List.not_mem_nil, or_false] at hq; rcases hq with rfl | rfl | rfl | rfl <;> rfl)⟩
      refine lv_iload_n hx hb nd_M_resting_31 rfl (zv_at hl 2 rfl) ?_
      refine lv_if_ne (tgt := 45) hx hb nd_M_resting_32 (by decide) (fun h_32 => ?_) (fun h_32 => ?_)
      · skip
        refine lv_iconst (v := 1) hx hb nd_M_resting_45 (by decide) ?_
        refine lv_goto (tgt := 50) hx hb nd_M_resting_46 (by decide) ?_
        exact hJ50 1 _ _ _ ⟨rfl, rfl, by rw [zm_fnd_next]; rw [if_neg h_32], hl⟩
      · skip
        refine lv_aload_n hx hb nd_M_resting_35 rfl (zv_at hl 0 rfl) ?_
        refine zm_get hx hb hts hown hK hP 17 (by decide) (hts _ nw_484) rfl nd_M_resting_36 ?_
        refine lv_iload_n hx hb nd_M_resting_39 rfl (zv_at hl 3 rfl) ?_
        refine zm_aldN_dat hx hb hK hP hi8 nd_M_resting_40 ?_
        refine lv_iload_n hx hb nd_M_resting_41 rfl (zv_at hl 1 rfl) ?_
        refine lv_icmp_ne (tgt := 49) hx hb nd_M_resting_42 (by decide) (fun h_42 => ?_) (fun h_42 => ?_)
        · skip
          refine lv_iconst (v := 0) hx hb nd_M_resting_49 (by decide) ?_
          exact hJ50 0 _ _ _ ⟨rfl, rfl, by rw [zm_fnd_next]; rw [if_pos h_32, if_neg h_42], hl⟩
        · skip
          refine lv_iconst (v := 1) hx hb nd_M_resting_45 (by decide) ?_
          refine lv_goto (tgt := 50) hx hb nd_M_resting_46 (by decide) ?_
          exact hJ50 1 _ _ _ ⟨rfl, rfl, by rw [zm_fnd_next]; rw [if_pos h_32, if_pos h_42], hl⟩
  refine lv_iload_n hx hb nd_M_resting_0 rfl (zv_at hl 1 rfl) ?_
  refine lv_bipush (v := 7) hx hb nd_M_resting_1 (by decide) ?_
  refine lv_irem hx hb nd_M_resting_3 (by decide) ?_
  refine lv_if_eq (tgt := 15) hx hb nd_M_resting_4 (by decide) (fun h_4 => ?_) (fun h_4 => ?_)
  · skip
    refine lv_iconst (v := 1) hx hb nd_M_resting_15 (by decide) ?_
    refine lv_goto (tgt := 20) hx hb nd_M_resting_16 (by decide) ?_
    exact hJ20 1 _ _ _ ⟨rfl, rfl, by unfold zm_wk; rw [if_pos h_4], hl⟩
  · skip
    refine lv_iload_n hx hb nd_M_resting_7 rfl (zv_at hl 1 rfl) ?_
    refine lv_bipush (v := 7) hx hb nd_M_resting_8 (by decide) ?_
    refine lv_irem hx hb nd_M_resting_10 (by decide) ?_
    refine lv_iconst (v := 1) hx hb nd_M_resting_11 (by decide) ?_
    refine lv_icmp_ne (tgt := 19) hx hb nd_M_resting_12 (by decide) (fun h_12 => ?_) (fun h_12 => ?_)
    · skip
      refine lv_iconst (v := 0) hx hb nd_M_resting_19 (by decide) ?_
      exact hJ20 0 _ _ _ ⟨rfl, rfl, by unfold zm_wk; rw [if_neg h_4, if_neg h_12], hl⟩
    · skip
      refine lv_iconst (v := 1) hx hb nd_M_resting_15 (by decide) ?_
      refine lv_goto (tgt := 20) hx hb nd_M_resting_16 (by decide) ?_
      exact hJ20 1 _ _ _ ⟨rfl, rfl, by unfold zm_wk; rw [if_neg h_4, if_pos h_12], hl⟩

set_option maxHeartbeats 4000000 in
set_option maxRecDepth 100000 in
theorem c_M_walk (l : Launch) (D : va_G) (G : zh_G) (hG : zw_apart (zm_adr G)) (T : zm_S) (Y : zm_Y) (j : Nat) (hj : j < 100077) : Met l ny_M_walk (Cond.code ny_M_walk nc_M_walk 4 none :: zw_big) ({ frames := 2, cells := 0, slots := 0, locals := 41 } : Room) (zw_P [.ref (zh_mdl G), .int (nI j)] D (zm_tys G) (zm_cells G T Y)) (zm_Qy D G T (zm_ymd j)) 0 0 (zm_Ad G) := by
  refine Met.ofW (cc := nc_M_walk) (maxL := 4) (ret := none) (by decide) rfl ?_
  intro p e s m args below meth c s₁ B hml hv
  obtain ⟨rfl, hP, hK⟩ := hv
  have hx := B.exec
  have hb := B.bytes
  have hr := B.returns
  have hts0 := atoms_spec (ws := Cond.code ny_M_walk nc_M_walk 4 none :: zw_big) B.pre
  have hts : ∀ w ∈ zw_big, w.before [.ref (zh_mdl G), .int (nI j)].toArray s = true := fun w h => hts0 w (List.mem_cons_of_mem _ h)
  have hown : s.vm.findClass nR_M = some m.cls := findClass_of_methodNamed B.named
  have hlk := B.notSynchronized
  have hS : va_S (zm_Ad G) s.heap s.heap [] := va_S.rf
  have hl := lv_entry ([.ref (zh_mdl G), .int (nI j)]) (n := 4) (Nat.le_of_ble_eq_true rfl)
  rw [lg_entry_eq]
  generalize (lg_sl ([.ref (zh_mdl G), .int (nI j)]) ++ List.replicate (4 - (lg_sl ([.ref (zh_mdl G), .int (nI j)])).length) Slot.unset).toArray = ls at hl ⊢
  have hl : lv_has ls 4 [(0, .ref (zh_mdl G)), (1, .int (nI j))] := hl
  have hF : CallFix p m c nc_M_walk 4 s [.ref (zh_mdl G), .int (nI j)].toArray zw_big nR_M := ⟨hx, hb, hml, hown, hts⟩
  refine zw_cut (σ := Nat × Nat) 79 (fun x => []) (fun x H locs ls => zc_wy 400 2000 j = x ∧ x.1 ≤ 2400 ∧ x.2 ≤ j ∧ va_P D vwCl (zm_cells G T (nI x.1, Y.2.1, Y.2.2)) H ∧ va_S (zm_Ad G) s.heap H locs ∧ lv_has ls 4 [(0, .ref (zh_mdl G)), (2, .int (nI x.2))]) (fun x H locs ls hI => ?_) (fun hJ79 => ?_)
  · skip
    obtain ⟨y, r0⟩ := x
    obtain ⟨hE1, hy, hrj, hP, hS, hl⟩ := hI
    dsimp only at hy hrj hP hl
    refine zw_cut (σ := Nat × Nat) 137 (fun x => []) (fun x H locs ls => zc_wm 12 y 1 r0 = x ∧ va_P D vwCl (zm_cells G T (nI y, nI x.1, Y.2.2)) H ∧ va_S (zm_Ad G) s.heap H locs ∧ lv_has ls 4 [(0, .ref (zh_mdl G)), (2, .int (nI x.2))]) (fun z H locs ls hI9 => ?_) (fun hJ137 => ?_)
    · skip
      obtain ⟨m9, r⟩ := z
      obtain ⟨hE2, hP, hS, hl⟩ := hI9
      dsimp only at hP hl
      refine lv_aload_n hx hb nd_M_walk_137 rfl (zv_at hl 0 rfl) ?_
      refine lv_iload_n hx hb nd_M_walk_138 rfl (zv_at hl 2 rfl) ?_
      refine lv_iconst (v := 1) hx hb nd_M_walk_139 (by decide) ?_
      refine lv_iadd hx hb nd_M_walk_140 ?_
      refine zm_put_dy hx hb hts hown hK hG hP hS (hts _ nw_497) nd_M_walk_141 (fun H locs hP hS => ?_)
      refine zm_yret hx hb hr hlk nd_M_walk_144 hP hS ?_
      have e1 : zc_y j = y := by unfold zc_y; rw [hE1]
      have e2 : zc_m j = m9 := by unfold zc_m; rw [e1, hE1, hE2]
      have e3 : zc_d j = r + 1 := by unfold zc_d; rw [e1, hE1, hE2]
      unfold zm_ymd
      rw [e1, e2, e3, nI_succ]
    refine lv_aload_n hx hb nd_M_walk_79 rfl (zv_at hl 0 rfl) ?_
    refine lv_iconst (v := 1) hx hb nd_M_walk_80 (by decide) ?_
    refine zm_put_mo hx hb hts hown hK hG hP hS (hts _ nw_496) nd_M_walk_81 (fun H locs hP hS => ?_)
    refine lv_iconst (v := 0) hx hb nd_M_walk_84 (by decide) ?_
    refine lv_istore_n hx hb nd_M_walk_85 rfl hl (by decide) rfl (fun ls hl => ?_)
    refine zw_loop (σ := Nat × Nat) (fun f x H locs ls => x.1 + f = 13 ∧ 1 ≤ x.1 ∧ x.2 ≤ j ∧ zc_wm 12 y 1 r0 = zc_wm f y x.1 x.2 ∧ va_P D vwCl (zm_cells G T (nI y, nI x.1, Y.2.2)) H ∧ va_S (zm_Ad G) s.heap H locs ∧ lv_has ls 4 [(0, .ref (zh_mdl G)), (2, .int (nI x.2)), (3, .int (nI (x.1 - 1)))]) ?_ 12 (1, r0) ⟨by simp, by simp, hrj, rfl, hP, hS, zv_sub hl (by intro q hq; simp only [List.mem_cons, List.not_mem_nil, or_false] at hq; rcases hq with rfl | rfl | rfl <;> rfl)⟩
    rintro f ⟨m9, r⟩ H locs ls hI9 ih
    obtain ⟨hik, hm1, hrj, hE2, hP, hS, hl⟩ := hI9
    dsimp only at hik hm1 hrj hE2 hP hl
    refine lv_iload_n hx hb nd_M_walk_86 rfl (zv_at hl 3 rfl) ?_
    refine lv_bipush (v := 12) hx hb nd_M_walk_87 (by decide) ?_
    refine lv_icmp_ge (tgt := 137) hx hb nd_M_walk_89 (by decide) (fun h_89 => ?_) (fun h_89 => ?_)
    · skip
      have hf0 : f = 0 := by
        have := (nI_leI (a := 12) (b := m9 - 1) (by omega) (by omega)).mp h_89
        omega
      exact hJ137 (m9, r) _ _ _ ⟨by rw [hE2, hf0]; rfl, hP, hS, zv_sub hl (by intro q hq; simp only [List.mem_cons, List.not_mem_nil, or_false] at hq; rcases hq with rfl | rfl <;> rfl)⟩
    · skip
      have hf0 : ¬ f = 0 := fun q => h_89 (nI_le (a := 12) (b := m9 - 1) (by omega) (by omega))
      refine lv_iload_n hx hb nd_M_walk_92 rfl (zv_at hl 2 rfl) ?_
      refine lv_aload_n hx hb nd_M_walk_93 rfl (zv_at hl 0 rfl) ?_
      refine zm_get hx hb hts hown hK hP 28 (by decide) (hts _ nw_495) rfl nd_M_walk_94 ?_
      refine lv_aload_n hx hb nd_M_walk_97 rfl (zv_at hl 0 rfl) ?_
      refine zm_get hx hb hts hown hK hP 29 (by decide) (hts _ nw_496) rfl nd_M_walk_98 ?_
      refine zw_sR (As := [_, _]) (rest := _) hF (c_M_length l _ _ (by omega) (by omega)) zw_preN nk_M_length nw_653 ⟨rfl, rfl, Nat.le_of_ble_eq_true rfl, Nat.le_of_ble_eq_true rfl⟩ rfl hl.1 rfl (Nat.le_of_ble_eq_true rfl) ⟨Nat.zero_le _, Nat.zero_le _⟩ nd_M_walk_101 ?_
      refine lv_icmp_lt (tgt := 137) hx hb nd_M_walk_104 (by decide) (fun h_104 => ?_) (fun h_104 => ?_)
      · skip
        exact hJ137 (m9, r) _ _ _ ⟨by rw [hE2, zc_wm_stop ((nI_ltI (by omega) (by have := zc_ml_le y m9; omega)).mp h_104)], hP, hS, zv_sub hl (by intro q hq; simp only [List.mem_cons, List.not_mem_nil, or_false] at hq; rcases hq with rfl | rfl <;> rfl)⟩
      · skip
        have hge : zc_ml y m9 ≤ r := Nat.le_of_not_lt fun q => h_104 (nI_lt q (by have := zc_ml_le y m9; omega))
        refine lv_iload_n hx hb nd_M_walk_107 rfl (zv_at hl 2 rfl) ?_
        refine lv_aload_n hx hb nd_M_walk_108 rfl (zv_at hl 0 rfl) ?_
        refine zm_get hx hb hts hown hK hP 28 (by decide) (hts _ nw_495) rfl nd_M_walk_109 ?_
        refine lv_aload_n hx hb nd_M_walk_112 rfl (zv_at hl 0 rfl) ?_
        refine zm_get hx hb hts hown hK hP 29 (by decide) (hts _ nw_496) rfl nd_M_walk_113 ?_
        refine zw_sR (As := [_, _]) (rest := _) hF (c_M_length l _ _ (by omega) (by omega)) zw_preN nk_M_length nw_653 ⟨rfl, rfl, Nat.le_of_ble_eq_true rfl, Nat.le_of_ble_eq_true rfl⟩ rfl hl.1 rfl (Nat.le_of_ble_eq_true rfl) ⟨Nat.zero_le _, Nat.zero_le _⟩ nd_M_walk_116 ?_
        refine lv_isub hx hb nd_M_walk_119 ?_
        rw [pk_sub hge]
        refine lv_istore_n hx hb nd_M_walk_120 rfl hl (by decide) rfl (fun ls hl => ?_)
        refine lv_aload_n hx hb nd_M_walk_121 rfl (zv_at hl 0 rfl) ?_
        refine lv_dup hx hb nd_M_walk_122 rfl ?_
        refine zm_get hx hb hts hown hK hP 29 (by decide) (hts _ nw_496) rfl nd_M_walk_123 ?_
        refine lv_iconst (v := 1) hx hb nd_M_walk_126 (by decide) ?_
        refine lv_iadd hx hb nd_M_walk_127 ?_
        refine zm_put_mo hx hb hts hown hK hG hP hS (hts _ nw_496) nd_M_walk_128 (fun H locs hP hS => ?_)
        refine zv_iinc (v := nI (m9 + 1 - 1)) hx hb nd_M_walk_131 hl rfl (by rw [show m9 + 1 - 1 = m9 - 1 + 1 by omega]; exact (nI_succ _).symm) (by decide) rfl (fun ls hl => ?_)
        refine lv_goto (tgt := 86) hx hb nd_M_walk_134 (by decide) ?_
        exact ih (f - 1) (m9 + 1, r - zc_ml y m9) _ _ _ (by omega) ⟨by show m9 + 1 + (f - 1) = 13; omega, by show 1 ≤ m9 + 1; omega, by show r - zc_ml y m9 ≤ j; omega, by rw [hE2, zc_wm_next (by omega) hge], by show va_P D vwCl (zm_cells G T (nI y, nI (m9 + 1), Y.2.2)) _; rw [nI_succ]; exact hP, hS, zv_sub hl (by intro q hq; simp only [List.mem_cons, List.not_mem_nil, or_false] at hq; rcases hq with rfl | rfl | rfl <;> rfl)⟩
  refine lv_iload_n hx hb nd_M_walk_0 rfl (zv_at hl 1 rfl) ?_
  refine lv_istore_n hx hb nd_M_walk_1 rfl hl (by decide) rfl (fun ls hl => ?_)
  refine lv_aload_n hx hb nd_M_walk_2 rfl (zv_at hl 0 rfl) ?_
  refine lv_sipush (v := 2000) hx hb nd_M_walk_3 (by decide) ?_
  refine zm_put_yr hx hb hts hown hK hG hP hS (hts _ nw_495) nd_M_walk_6 (fun H locs hP hS => ?_)
  refine lv_iconst (v := 0) hx hb nd_M_walk_9 (by decide) ?_
  refine lv_istore_n hx hb nd_M_walk_10 rfl hl (by decide) rfl (fun ls hl => ?_)
  refine zw_loop (σ := Nat × Nat) (fun f x H locs ls => x.1 + f = 2400 ∧ x.2 ≤ j ∧ zc_wy 400 2000 j = zc_wy f x.1 x.2 ∧ va_P D vwCl (zm_cells G T (nI x.1, Y.2.1, Y.2.2)) H ∧ va_S (zm_Ad G) s.heap H locs ∧ lv_has ls 4 [(0, .ref (zh_mdl G)), (2, .int (nI x.2)), (3, .int (nI (x.1 - 2000)))] ∧ 2000 ≤ x.1) ?_ 400 (2000, j) ⟨by simp, by simp, rfl, hP, hS, zv_sub hl (by intro q hq; simp only [List.mem_cons, List.not_mem_nil, or_false] at hq; rcases hq with rfl | rfl | rfl <;> rfl), by simp⟩
  rintro f ⟨y, r⟩ H locs ls hI9 ih
  obtain ⟨hik, hrj, hE, hP, hS, hl, hy2⟩ := hI9
  dsimp only at hik hrj hE hP hl hy2
  refine lv_iload_n hx hb nd_M_walk_11 rfl (zv_at hl 3 rfl) ?_
  refine lv_sipush (v := 400) hx hb nd_M_walk_12 (by decide) ?_
  refine lv_icmp_ge (tgt := 79) hx hb nd_M_walk_15 (by decide) (fun h_15 => ?_) (fun h_15 => ?_)
  · skip
    have hf0 : f = 0 := by
      have := (nI_leI (a := 400) (b := y - 2000) (by omega) (by omega)).mp h_15
      omega
    exact hJ79 (y, r) _ _ _ ⟨by rw [hE, hf0]; rfl, by show y ≤ 2400; omega, hrj, hP, hS, zv_sub hl (by intro q hq; simp only [List.mem_cons, List.not_mem_nil, or_false] at hq; rcases hq with rfl | rfl <;> rfl)⟩
  · skip
    have hf0 : ¬ f = 0 := fun q => h_15 (nI_le (a := 400) (b := y - 2000) (by omega) (by omega))
    refine lv_iload_n hx hb nd_M_walk_18 rfl (zv_at hl 2 rfl) ?_
    refine lv_aload_n hx hb nd_M_walk_19 rfl (zv_at hl 0 rfl) ?_
    refine zm_get hx hb hts hown hK hP 28 (by decide) (hts _ nw_495) rfl nd_M_walk_20 ?_
    refine zw_sR (As := [_]) (rest := _) hF (c_M_leap l _ (by omega)) zw_preN nk_M_leap nw_650 ⟨rfl, rfl, Nat.le_of_ble_eq_true rfl, Nat.le_of_ble_eq_true rfl⟩ rfl hl.1 rfl (Nat.le_of_ble_eq_true rfl) ⟨Nat.zero_le _, Nat.zero_le _⟩ nd_M_walk_23 ?_
    refine lv_if_eq (tgt := 35) hx hb nd_M_walk_26 (by decide) (fun h_26 => ?_) (fun h_26 => ?_)
    · skip
      refine lv_sipush (v := 365) hx hb nd_M_walk_35 (by decide) ?_
      refine lv_icmp_lt (tgt := 79) hx hb nd_M_walk_38 (by decide) (fun h_38 => ?_) (fun h_38 => ?_)
      · skip
        exact hJ79 (y, r) _ _ _ ⟨by rw [hE, zc_wy_stop (by rw [zm_yl_0 h_26]; exact (nI_ltI (a := r) (b := 365) (by omega) (by decide)).mp h_38)], by show y ≤ 2400; omega, hrj, hP, hS, zv_sub hl (by intro q hq; simp only [List.mem_cons, List.not_mem_nil, or_false] at hq; rcases hq with rfl | rfl <;> rfl)⟩
      · skip
        have hge : 365 ≤ r := Nat.le_of_not_lt fun q => h_38 (nI_lt (b := 365) q (by decide))
        refine lv_iload_n hx hb nd_M_walk_41 rfl (zv_at hl 2 rfl) ?_
        refine lv_aload_n hx hb nd_M_walk_42 rfl (zv_at hl 0 rfl) ?_
        refine zm_get hx hb hts hown hK hP 28 (by decide) (hts _ nw_495) rfl nd_M_walk_43 ?_
        refine zw_sR (As := [_]) (rest := _) hF (c_M_leap l _ (by omega)) zw_preN nk_M_leap nw_650 ⟨rfl, rfl, Nat.le_of_ble_eq_true rfl, Nat.le_of_ble_eq_true rfl⟩ rfl hl.1 rfl (Nat.le_of_ble_eq_true rfl) ⟨Nat.zero_le _, Nat.zero_le _⟩ nd_M_walk_46 ?_
        refine lv_if_eq (tgt := 58) hx hb nd_M_walk_49 (by decide) (fun h_49 => ?_) (fun h_49 => ?_)
        · skip
          refine lv_sipush (v := 365) hx hb nd_M_walk_58 (by decide) ?_
          refine lv_isub hx hb nd_M_walk_61 ?_
          rw [show nI r - 365 = nI (r - 365) from pk_sub (b := 365) hge]
          refine lv_istore_n hx hb nd_M_walk_62 rfl hl (by decide) rfl (fun ls hl => ?_)
          refine lv_aload_n hx hb nd_M_walk_63 rfl (zv_at hl 0 rfl) ?_
          refine lv_dup hx hb nd_M_walk_64 rfl ?_
          refine zm_get hx hb hts hown hK hP 28 (by decide) (hts _ nw_495) rfl nd_M_walk_65 ?_
          refine lv_iconst (v := 1) hx hb nd_M_walk_68 (by decide) ?_
          refine lv_iadd hx hb nd_M_walk_69 ?_
          refine zm_put_yr hx hb hts hown hK hG hP hS (hts _ nw_495) nd_M_walk_70 (fun H locs hP hS => ?_)
          refine zv_iinc (v := nI (y + 1 - 2000)) hx hb nd_M_walk_73 hl rfl (by rw [show y + 1 - 2000 = y - 2000 + 1 by omega]; exact (nI_succ _).symm) (by decide) rfl (fun ls hl => ?_)
          refine lv_goto (tgt := 11) hx hb nd_M_walk_76 (by decide) ?_
          exact ih (f - 1) (y + 1, r - 365) _ _ _ (by omega) ⟨by show y + 1 + (f - 1) = 2400; omega, by show r - 365 ≤ j; omega, by rw [hE, zc_wy_next (by omega) (by rw [zm_yl_0 h_26]; exact hge), zm_yl_0 h_26], by show va_P D vwCl (zm_cells G T (nI (y + 1), Y.2.1, Y.2.2)) _; rw [nI_succ]; exact hP, hS, zv_sub hl (by intro q hq; simp only [List.mem_cons, List.not_mem_nil, or_false] at hq; rcases hq with rfl | rfl | rfl <;> rfl), by show 2000 ≤ y + 1; omega⟩
        · skip
          refine lv_sipush (v := 366) hx hb nd_M_walk_52 (by decide) ?_
          refine lv_goto (tgt := 61) hx hb nd_M_walk_55 (by decide) ?_
          refine lv_isub hx hb nd_M_walk_61 ?_
          refine lv_istore_n hx hb nd_M_walk_62 rfl hl (by decide) rfl (fun ls hl => ?_)
          refine lv_aload_n hx hb nd_M_walk_63 rfl (zv_at hl 0 rfl) ?_
          refine lv_dup hx hb nd_M_walk_64 rfl ?_
          refine zm_get hx hb hts hown hK hP 28 (by decide) (hts _ nw_495) rfl nd_M_walk_65 ?_
          refine lv_iconst (v := 1) hx hb nd_M_walk_68 (by decide) ?_
          refine lv_iadd hx hb nd_M_walk_69 ?_
          refine zm_put_yr hx hb hts hown hK hG hP hS (hts _ nw_495) nd_M_walk_70 (fun H locs hP hS => ?_)
          refine zv_iinc (v := nI (y + 1 - 2000)) hx hb nd_M_walk_73 hl rfl (by rw [show y + 1 - 2000 = y - 2000 + 1 by omega]; exact (nI_succ _).symm) (by decide) rfl (fun ls hl => ?_)
          refine lv_goto (tgt := 11) hx hb nd_M_walk_76 (by decide) ?_
          exact absurd h_26 h_49
    · skip
      refine lv_sipush (v := 366) hx hb nd_M_walk_29 (by decide) ?_
      refine lv_goto (tgt := 38) hx hb nd_M_walk_32 (by decide) ?_
      refine lv_icmp_lt (tgt := 79) hx hb nd_M_walk_38 (by decide) (fun h_38 => ?_) (fun h_38 => ?_)
      · skip
        exact hJ79 (y, r) _ _ _ ⟨by rw [hE, zc_wy_stop (by rw [zm_yl_1 h_26]; exact (nI_ltI (a := r) (b := 366) (by omega) (by decide)).mp h_38)], by show y ≤ 2400; omega, hrj, hP, hS, zv_sub hl (by intro q hq; simp only [List.mem_cons, List.not_mem_nil, or_false] at hq; rcases hq with rfl | rfl <;> rfl)⟩
      · skip
        have hge : 366 ≤ r := Nat.le_of_not_lt fun q => h_38 (nI_lt (b := 366) q (by decide))
        refine lv_iload_n hx hb nd_M_walk_41 rfl (zv_at hl 2 rfl) ?_
        refine lv_aload_n hx hb nd_M_walk_42 rfl (zv_at hl 0 rfl) ?_
        refine zm_get hx hb hts hown hK hP 28 (by decide) (hts _ nw_495) rfl nd_M_walk_43 ?_
        refine zw_sR (As := [_]) (rest := _) hF (c_M_leap l _ (by omega)) zw_preN nk_M_leap nw_650 ⟨rfl, rfl, Nat.le_of_ble_eq_true rfl, Nat.le_of_ble_eq_true rfl⟩ rfl hl.1 rfl (Nat.le_of_ble_eq_true rfl) ⟨Nat.zero_le _, Nat.zero_le _⟩ nd_M_walk_46 ?_
        refine lv_if_eq (tgt := 58) hx hb nd_M_walk_49 (by decide) (fun h_49 => ?_) (fun h_49 => ?_)
        · skip
          refine lv_sipush (v := 365) hx hb nd_M_walk_58 (by decide) ?_
          refine lv_isub hx hb nd_M_walk_61 ?_
          refine lv_istore_n hx hb nd_M_walk_62 rfl hl (by decide) rfl (fun ls hl => ?_)
          refine lv_aload_n hx hb nd_M_walk_63 rfl (zv_at hl 0 rfl) ?_
          refine lv_dup hx hb nd_M_walk_64 rfl ?_
          refine zm_get hx hb hts hown hK hP 28 (by decide) (hts _ nw_495) rfl nd_M_walk_65 ?_
          refine lv_iconst (v := 1) hx hb nd_M_walk_68 (by decide) ?_
          refine lv_iadd hx hb nd_M_walk_69 ?_
          refine zm_put_yr hx hb hts hown hK hG hP hS (hts _ nw_495) nd_M_walk_70 (fun H locs hP hS => ?_)
          refine zv_iinc (v := nI (y + 1 - 2000)) hx hb nd_M_walk_73 hl rfl (by rw [show y + 1 - 2000 = y - 2000 + 1 by omega]; exact (nI_succ _).symm) (by decide) rfl (fun ls hl => ?_)
          refine lv_goto (tgt := 11) hx hb nd_M_walk_76 (by decide) ?_
          exact absurd h_49 h_26
        · skip
          refine lv_sipush (v := 366) hx hb nd_M_walk_52 (by decide) ?_
          refine lv_goto (tgt := 61) hx hb nd_M_walk_55 (by decide) ?_
          refine lv_isub hx hb nd_M_walk_61 ?_
          rw [show nI r - 366 = nI (r - 366) from pk_sub (b := 366) hge]
          refine lv_istore_n hx hb nd_M_walk_62 rfl hl (by decide) rfl (fun ls hl => ?_)
          refine lv_aload_n hx hb nd_M_walk_63 rfl (zv_at hl 0 rfl) ?_
          refine lv_dup hx hb nd_M_walk_64 rfl ?_
          refine zm_get hx hb hts hown hK hP 28 (by decide) (hts _ nw_495) rfl nd_M_walk_65 ?_
          refine lv_iconst (v := 1) hx hb nd_M_walk_68 (by decide) ?_
          refine lv_iadd hx hb nd_M_walk_69 ?_
          refine zm_put_yr hx hb hts hown hK hG hP hS (hts _ nw_495) nd_M_walk_70 (fun H locs hP hS => ?_)
          refine zv_iinc (v := nI (y + 1 - 2000)) hx hb nd_M_walk_73 hl rfl (by rw [show y + 1 - 2000 = y - 2000 + 1 by omega]; exact (nI_succ _).symm) (by decide) rfl (fun ls hl => ?_)
          refine lv_goto (tgt := 11) hx hb nd_M_walk_76 (by decide) ?_
          exact ih (f - 1) (y + 1, r - 366) _ _ _ (by omega) ⟨by show y + 1 + (f - 1) = 2400; omega, by show r - 366 ≤ j; omega, by rw [hE, zc_wy_next (by omega) (by rw [zm_yl_1 h_26]; exact hge), zm_yl_1 h_26], by show va_P D vwCl (zm_cells G T (nI (y + 1), Y.2.1, Y.2.2)) _; rw [nI_succ]; exact hP, hS, zv_sub hl (by intro q hq; simp only [List.mem_cons, List.not_mem_nil, or_false] at hq; rcases hq with rfl | rfl | rfl <;> rfl), by show 2000 ≤ y + 1; omega⟩

set_option maxHeartbeats 4000000 in
set_option maxRecDepth 100000 in
theorem c_M_days (l : Launch) (D : va_G) (G : zh_G) (hG : zw_apart (zm_adr G)) (T : zm_S) (Y : zm_Y) (how : Int32) (a b : Nat) (ha : a < 100077) (hb9 : b < 100077) : Met l ny_M_days (Cond.code ny_M_days nc_M_days 8 (some .int) :: zw_big) ({ frames := 3, cells := 0, slots := 0, locals := 64 } : Room) (zw_P [.ref (zh_mdl G), .int how, .int (nI a), .int (nI b)] D (zm_tys G) (zm_cells G T Y)) (zm_Qi D G (zm_days how a b, T)) 0 0 (zm_Ad G) := by
  refine Met.ofW (cc := nc_M_days) (maxL := 8) (ret := (some .int)) (by decide) rfl ?_
  intro p e s m args below meth c s₁ B hml hv
  obtain ⟨rfl, hP, hK⟩ := hv
  have hx := B.exec
  have hb := B.bytes
  have hr := B.returns
  have hts0 := atoms_spec (ws := Cond.code ny_M_days nc_M_days 8 (some .int) :: zw_big) B.pre
  have hts : ∀ w ∈ zw_big, w.before [.ref (zh_mdl G), .int how, .int (nI a), .int (nI b)].toArray s = true := fun w h => hts0 w (List.mem_cons_of_mem _ h)
  have hown : s.vm.findClass nR_M = some m.cls := findClass_of_methodNamed B.named
  have hlk := B.notSynchronized
  have hS : va_S (zm_Ad G) s.heap s.heap [] := va_S.rf
  have hl := lv_entry ([.ref (zh_mdl G), .int how, .int (nI a), .int (nI b)]) (n := 8) (Nat.le_of_ble_eq_true rfl)
  rw [lg_entry_eq]
  generalize (lg_sl ([.ref (zh_mdl G), .int how, .int (nI a), .int (nI b)]) ++ List.replicate (8 - (lg_sl ([.ref (zh_mdl G), .int how, .int (nI a), .int (nI b)])).length) Slot.unset).toArray = ls at hl ⊢
  have hl : lv_has ls 8 [(0, .ref (zh_mdl G)), (1, .int how), (2, .int (nI a)), (3, .int (nI b))] := hl
  have hF : CallFix p m c nc_M_days 8 s [.ref (zh_mdl G), .int how, .int (nI a), .int (nI b)].toArray zw_big nR_M := ⟨hx, hb, hml, hown, hts⟩
  refine lv_iload_n hx hb nd_M_days_0 rfl (zv_at hl 1 rfl) ?_
  refine lv_iconst (v := 2) hx hb nd_M_days_1 (by decide) ?_
  refine lv_icmp_ge (tgt := 9) hx hb nd_M_days_2 (by decide) (fun h_2 => ?_) (fun h_2 => ?_)
  · skip
    refine lv_aload_n hx hb nd_M_days_9 rfl (zv_at hl 0 rfl) ?_
    refine lv_iload_n hx hb nd_M_days_10 rfl (zv_at hl 2 rfl) ?_
    refine zm_vWy (As := [_]) (rest := _) hF (c_M_walk l D G hG _ _ _ (by omega)) (zw_preV hP hK (q0 := 0) (ci := 6) rfl rfl rfl) nk_M_walk nw_646 ⟨rfl, rfl, Nat.le_of_ble_eq_true rfl, Nat.le_of_ble_eq_true rfl⟩ rfl hl.1 rfl (Nat.le_of_ble_eq_true rfl) ⟨Nat.zero_le _, Nat.zero_le _⟩ nd_M_days_11 hS (fun H locs hP hS => ?_)
    refine lv_aload_n hx hb nd_M_days_14 rfl (zv_at hl 0 rfl) ?_
    refine zm_get hx hb hts hown hK hP 28 (by decide) (hts _ nw_495) rfl nd_M_days_15 ?_
    refine lv_istore hx hb nd_M_days_18 hl (by decide) rfl (fun ls hl => ?_)
    refine lv_aload_n hx hb nd_M_days_20 rfl (zv_at hl 0 rfl) ?_
    refine zm_get hx hb hts hown hK hP 29 (by decide) (hts _ nw_496) rfl nd_M_days_21 ?_
    refine lv_istore hx hb nd_M_days_24 hl (by decide) rfl (fun ls hl => ?_)
    refine lv_aload_n hx hb nd_M_days_26 rfl (zv_at hl 0 rfl) ?_
    refine zm_get hx hb hts hown hK hP 30 (by decide) (hts _ nw_497) rfl nd_M_days_27 ?_
    refine lv_bipush (v := 31) hx hb nd_M_days_30 (by decide) ?_
    refine lv_icmp_ne (tgt := 40) hx hb nd_M_days_32 (by decide) (fun h_32 => ?_) (fun h_32 => ?_)
    · skip
      refine lv_aload_n hx hb nd_M_days_40 rfl (zv_at hl 0 rfl) ?_
      refine zm_get hx hb hts hown hK hP 30 (by decide) (hts _ nw_497) rfl nd_M_days_41 ?_
      refine lv_istore hx hb nd_M_days_44 hl (by decide) rfl (fun ls hl => ?_)
      refine lv_aload_n hx hb nd_M_days_46 rfl (zv_at hl 0 rfl) ?_
      refine lv_iload_n hx hb nd_M_days_47 rfl (zv_at hl 3 rfl) ?_
      refine zm_vWy (As := [_]) (rest := _) hF (c_M_walk l D G hG _ _ _ (by omega)) (zw_preV hP hK (q0 := 0) (ci := 6) rfl rfl rfl) nk_M_walk nw_646 ⟨rfl, rfl, Nat.le_of_ble_eq_true rfl, Nat.le_of_ble_eq_true rfl⟩ rfl hl.1 rfl (Nat.le_of_ble_eq_true rfl) ⟨Nat.zero_le _, Nat.zero_le _⟩ nd_M_days_48 hS (fun H locs hP hS => ?_)
      refine lv_iload hx hb nd_M_days_51 (zv_at hl 6 rfl) ?_
      refine lv_bipush (v := 30) hx hb nd_M_days_53 (by decide) ?_
      refine lv_icmp_ne (tgt := 72) hx hb nd_M_days_55 (by decide) (fun h_55 => ?_) (fun h_55 => ?_)
      · skip
        refine lv_aload_n hx hb nd_M_days_72 rfl (zv_at hl 0 rfl) ?_
        refine zm_get hx hb hts hown hK hP 30 (by decide) (hts _ nw_497) rfl nd_M_days_73 ?_
        refine lv_istore hx hb nd_M_days_76 hl (by decide) rfl (fun ls hl => ?_)
        refine lv_sipush (v := 360) hx hb nd_M_days_78 (by decide) ?_
        refine lv_aload_n hx hb nd_M_days_81 rfl (zv_at hl 0 rfl) ?_
        refine zm_get hx hb hts hown hK hP 28 (by decide) (hts _ nw_495) rfl nd_M_days_82 ?_
        refine lv_iload hx hb nd_M_days_85 (zv_at hl 4 rfl) ?_
        refine lv_isub hx hb nd_M_days_87 ?_
        refine lv_imul hx hb nd_M_days_88 ?_
        refine lv_bipush (v := 30) hx hb nd_M_days_89 (by decide) ?_
        refine lv_aload_n hx hb nd_M_days_91 rfl (zv_at hl 0 rfl) ?_
        refine zm_get hx hb hts hown hK hP 29 (by decide) (hts _ nw_496) rfl nd_M_days_92 ?_
        refine lv_iload hx hb nd_M_days_95 (zv_at hl 5 rfl) ?_
        refine lv_isub hx hb nd_M_days_97 ?_
        refine lv_imul hx hb nd_M_days_98 ?_
        refine lv_iadd hx hb nd_M_days_99 ?_
        refine lv_iload hx hb nd_M_days_100 (zv_at hl 7 rfl) ?_
        refine lv_iadd hx hb nd_M_days_102 ?_
        refine lv_iload hx hb nd_M_days_103 (zv_at hl 6 rfl) ?_
        refine lv_isub hx hb nd_M_days_105 ?_
        refine zm_iret hx hb hr hlk nd_M_days_106 hP hS ?_
        unfold zm_days
        rw [if_neg (show ¬ how < 2 from Int32.not_lt.mpr h_2)]
        unfold zm_eOf zm_dOf
        rw [if_neg (show ¬ nI (zc_d a) = 31 from h_32)]
        rw [if_neg (show ¬ nI (zc_d a) = 30 from h_55)]
        all_goals rfl
      · skip
        refine lv_aload_n hx hb nd_M_days_58 rfl (zv_at hl 0 rfl) ?_
        refine zm_get hx hb hts hown hK hP 30 (by decide) (hts _ nw_497) rfl nd_M_days_59 ?_
        refine lv_bipush (v := 31) hx hb nd_M_days_62 (by decide) ?_
        refine lv_icmp_ne (tgt := 72) hx hb nd_M_days_64 (by decide) (fun h_64 => ?_) (fun h_64 => ?_)
        · skip
          refine lv_aload_n hx hb nd_M_days_72 rfl (zv_at hl 0 rfl) ?_
          refine zm_get hx hb hts hown hK hP 30 (by decide) (hts _ nw_497) rfl nd_M_days_73 ?_
          refine lv_istore hx hb nd_M_days_76 hl (by decide) rfl (fun ls hl => ?_)
          refine lv_sipush (v := 360) hx hb nd_M_days_78 (by decide) ?_
          refine lv_aload_n hx hb nd_M_days_81 rfl (zv_at hl 0 rfl) ?_
          refine zm_get hx hb hts hown hK hP 28 (by decide) (hts _ nw_495) rfl nd_M_days_82 ?_
          refine lv_iload hx hb nd_M_days_85 (zv_at hl 4 rfl) ?_
          refine lv_isub hx hb nd_M_days_87 ?_
          refine lv_imul hx hb nd_M_days_88 ?_
          refine lv_bipush (v := 30) hx hb nd_M_days_89 (by decide) ?_
          refine lv_aload_n hx hb nd_M_days_91 rfl (zv_at hl 0 rfl) ?_
          refine zm_get hx hb hts hown hK hP 29 (by decide) (hts _ nw_496) rfl nd_M_days_92 ?_
          refine lv_iload hx hb nd_M_days_95 (zv_at hl 5 rfl) ?_
          refine lv_isub hx hb nd_M_days_97 ?_
          refine lv_imul hx hb nd_M_days_98 ?_
          refine lv_iadd hx hb nd_M_days_99 ?_
          refine lv_iload hx hb nd_M_days_100 (zv_at hl 7 rfl) ?_
          refine lv_iadd hx hb nd_M_days_102 ?_
          refine lv_iload hx hb nd_M_days_103 (zv_at hl 6 rfl) ?_
          refine lv_isub hx hb nd_M_days_105 ?_
          refine zm_iret hx hb hr hlk nd_M_days_106 hP hS ?_
          unfold zm_days
          rw [if_neg (show ¬ how < 2 from Int32.not_lt.mpr h_2)]
          unfold zm_eOf zm_dOf
          rw [if_neg (show ¬ nI (zc_d a) = 31 from h_32)]
          rw [if_pos (show nI (zc_d a) = 30 from h_55)]
          rw [if_neg (show ¬ nI (zc_d b) = 31 from h_64)]
          all_goals rfl
        · skip
          refine lv_bipush (v := 30) hx hb nd_M_days_67 (by decide) ?_
          refine lv_goto (tgt := 76) hx hb nd_M_days_69 (by decide) ?_
          refine lv_istore hx hb nd_M_days_76 hl (by decide) rfl (fun ls hl => ?_)
          refine lv_sipush (v := 360) hx hb nd_M_days_78 (by decide) ?_
          refine lv_aload_n hx hb nd_M_days_81 rfl (zv_at hl 0 rfl) ?_
          refine zm_get hx hb hts hown hK hP 28 (by decide) (hts _ nw_495) rfl nd_M_days_82 ?_
          refine lv_iload hx hb nd_M_days_85 (zv_at hl 4 rfl) ?_
          refine lv_isub hx hb nd_M_days_87 ?_
          refine lv_imul hx hb nd_M_days_88 ?_
          refine lv_bipush (v := 30) hx hb nd_M_days_89 (by decide) ?_
          refine lv_aload_n hx hb nd_M_days_91 rfl (zv_at hl 0 rfl) ?_
          refine zm_get hx hb hts hown hK hP 29 (by decide) (hts _ nw_496) rfl nd_M_days_92 ?_
          refine lv_iload hx hb nd_M_days_95 (zv_at hl 5 rfl) ?_
          refine lv_isub hx hb nd_M_days_97 ?_
          refine lv_imul hx hb nd_M_days_98 ?_
          refine lv_iadd hx hb nd_M_days_99 ?_
          refine lv_iload hx hb nd_M_days_100 (zv_at hl 7 rfl) ?_
          refine lv_iadd hx hb nd_M_days_102 ?_
          refine lv_iload hx hb nd_M_days_103 (zv_at hl 6 rfl) ?_
          refine lv_isub hx hb nd_M_days_105 ?_
          refine zm_iret hx hb hr hlk nd_M_days_106 hP hS ?_
          unfold zm_days
          rw [if_neg (show ¬ how < 2 from Int32.not_lt.mpr h_2)]
          unfold zm_eOf zm_dOf
          rw [if_neg (show ¬ nI (zc_d a) = 31 from h_32)]
          rw [if_pos (show nI (zc_d a) = 30 from h_55)]
          rw [if_pos (show nI (zc_d b) = 31 from h_64)]
          all_goals rfl
    · skip
      refine lv_bipush (v := 30) hx hb nd_M_days_35 (by decide) ?_
      refine lv_goto (tgt := 44) hx hb nd_M_days_37 (by decide) ?_
      refine lv_istore hx hb nd_M_days_44 hl (by decide) rfl (fun ls hl => ?_)
      refine lv_aload_n hx hb nd_M_days_46 rfl (zv_at hl 0 rfl) ?_
      refine lv_iload_n hx hb nd_M_days_47 rfl (zv_at hl 3 rfl) ?_
      refine zm_vWy (As := [_]) (rest := _) hF (c_M_walk l D G hG _ _ _ (by omega)) (zw_preV hP hK (q0 := 0) (ci := 6) rfl rfl rfl) nk_M_walk nw_646 ⟨rfl, rfl, Nat.le_of_ble_eq_true rfl, Nat.le_of_ble_eq_true rfl⟩ rfl hl.1 rfl (Nat.le_of_ble_eq_true rfl) ⟨Nat.zero_le _, Nat.zero_le _⟩ nd_M_days_48 hS (fun H locs hP hS => ?_)
      refine lv_iload hx hb nd_M_days_51 (zv_at hl 6 rfl) ?_
      refine lv_bipush (v := 30) hx hb nd_M_days_53 (by decide) ?_
      refine lv_icmp_ne (tgt := 72) hx hb nd_M_days_55 (by decide) (fun h_55 => ?_) (fun h_55 => ?_)
      · skip
        refine lv_aload_n hx hb nd_M_days_72 rfl (zv_at hl 0 rfl) ?_
        refine zm_get hx hb hts hown hK hP 30 (by decide) (hts _ nw_497) rfl nd_M_days_73 ?_
        refine lv_istore hx hb nd_M_days_76 hl (by decide) rfl (fun ls hl => ?_)
        refine lv_sipush (v := 360) hx hb nd_M_days_78 (by decide) ?_
        refine lv_aload_n hx hb nd_M_days_81 rfl (zv_at hl 0 rfl) ?_
        refine zm_get hx hb hts hown hK hP 28 (by decide) (hts _ nw_495) rfl nd_M_days_82 ?_
        refine lv_iload hx hb nd_M_days_85 (zv_at hl 4 rfl) ?_
        refine lv_isub hx hb nd_M_days_87 ?_
        refine lv_imul hx hb nd_M_days_88 ?_
        refine lv_bipush (v := 30) hx hb nd_M_days_89 (by decide) ?_
        refine lv_aload_n hx hb nd_M_days_91 rfl (zv_at hl 0 rfl) ?_
        refine zm_get hx hb hts hown hK hP 29 (by decide) (hts _ nw_496) rfl nd_M_days_92 ?_
        refine lv_iload hx hb nd_M_days_95 (zv_at hl 5 rfl) ?_
        refine lv_isub hx hb nd_M_days_97 ?_
        refine lv_imul hx hb nd_M_days_98 ?_
        refine lv_iadd hx hb nd_M_days_99 ?_
        refine lv_iload hx hb nd_M_days_100 (zv_at hl 7 rfl) ?_
        refine lv_iadd hx hb nd_M_days_102 ?_
        refine lv_iload hx hb nd_M_days_103 (zv_at hl 6 rfl) ?_
        refine lv_isub hx hb nd_M_days_105 ?_
        refine zm_iret hx hb hr hlk nd_M_days_106 hP hS ?_
        unfold zm_days
        rw [if_neg (show ¬ how < 2 from Int32.not_lt.mpr h_2)]
        unfold zm_eOf zm_dOf
        rw [if_pos (show nI (zc_d a) = 31 from h_32)]
        rw [if_neg (show ¬ (30 : Int32) = 30 from h_55)]
        all_goals rfl
      · skip
        refine lv_aload_n hx hb nd_M_days_58 rfl (zv_at hl 0 rfl) ?_
        refine zm_get hx hb hts hown hK hP 30 (by decide) (hts _ nw_497) rfl nd_M_days_59 ?_
        refine lv_bipush (v := 31) hx hb nd_M_days_62 (by decide) ?_
        refine lv_icmp_ne (tgt := 72) hx hb nd_M_days_64 (by decide) (fun h_64 => ?_) (fun h_64 => ?_)
        · skip
          refine lv_aload_n hx hb nd_M_days_72 rfl (zv_at hl 0 rfl) ?_
          refine zm_get hx hb hts hown hK hP 30 (by decide) (hts _ nw_497) rfl nd_M_days_73 ?_
          refine lv_istore hx hb nd_M_days_76 hl (by decide) rfl (fun ls hl => ?_)
          refine lv_sipush (v := 360) hx hb nd_M_days_78 (by decide) ?_
          refine lv_aload_n hx hb nd_M_days_81 rfl (zv_at hl 0 rfl) ?_
          refine zm_get hx hb hts hown hK hP 28 (by decide) (hts _ nw_495) rfl nd_M_days_82 ?_
          refine lv_iload hx hb nd_M_days_85 (zv_at hl 4 rfl) ?_
          refine lv_isub hx hb nd_M_days_87 ?_
          refine lv_imul hx hb nd_M_days_88 ?_
          refine lv_bipush (v := 30) hx hb nd_M_days_89 (by decide) ?_
          refine lv_aload_n hx hb nd_M_days_91 rfl (zv_at hl 0 rfl) ?_
          refine zm_get hx hb hts hown hK hP 29 (by decide) (hts _ nw_496) rfl nd_M_days_92 ?_
          refine lv_iload hx hb nd_M_days_95 (zv_at hl 5 rfl) ?_
          refine lv_isub hx hb nd_M_days_97 ?_
          refine lv_imul hx hb nd_M_days_98 ?_
          refine lv_iadd hx hb nd_M_days_99 ?_
          refine lv_iload hx hb nd_M_days_100 (zv_at hl 7 rfl) ?_
          refine lv_iadd hx hb nd_M_days_102 ?_
          refine lv_iload hx hb nd_M_days_103 (zv_at hl 6 rfl) ?_
          refine lv_isub hx hb nd_M_days_105 ?_
          refine zm_iret hx hb hr hlk nd_M_days_106 hP hS ?_
          unfold zm_days
          rw [if_neg (show ¬ how < 2 from Int32.not_lt.mpr h_2)]
          unfold zm_eOf zm_dOf
          rw [if_pos (show nI (zc_d a) = 31 from h_32)]
          rw [if_pos (show (30 : Int32) = 30 from h_55)]
          rw [if_neg (show ¬ nI (zc_d b) = 31 from h_64)]
          all_goals rfl
        · skip
          refine lv_bipush (v := 30) hx hb nd_M_days_67 (by decide) ?_
          refine lv_goto (tgt := 76) hx hb nd_M_days_69 (by decide) ?_
          refine lv_istore hx hb nd_M_days_76 hl (by decide) rfl (fun ls hl => ?_)
          refine lv_sipush (v := 360) hx hb nd_M_days_78 (by decide) ?_
          refine lv_aload_n hx hb nd_M_days_81 rfl (zv_at hl 0 rfl) ?_
          refine zm_get hx hb hts hown hK hP 28 (by decide) (hts _ nw_495) rfl nd_M_days_82 ?_
          refine lv_iload hx hb nd_M_days_85 (zv_at hl 4 rfl) ?_
          refine lv_isub hx hb nd_M_days_87 ?_
          refine lv_imul hx hb nd_M_days_88 ?_
          refine lv_bipush (v := 30) hx hb nd_M_days_89 (by decide) ?_
          refine lv_aload_n hx hb nd_M_days_91 rfl (zv_at hl 0 rfl) ?_
          refine zm_get hx hb hts hown hK hP 29 (by decide) (hts _ nw_496) rfl nd_M_days_92 ?_
          refine lv_iload hx hb nd_M_days_95 (zv_at hl 5 rfl) ?_
          refine lv_isub hx hb nd_M_days_97 ?_
          refine lv_imul hx hb nd_M_days_98 ?_
          refine lv_iadd hx hb nd_M_days_99 ?_
          refine lv_iload hx hb nd_M_days_100 (zv_at hl 7 rfl) ?_
          refine lv_iadd hx hb nd_M_days_102 ?_
          refine lv_iload hx hb nd_M_days_103 (zv_at hl 6 rfl) ?_
          refine lv_isub hx hb nd_M_days_105 ?_
          refine zm_iret hx hb hr hlk nd_M_days_106 hP hS ?_
          unfold zm_days
          rw [if_neg (show ¬ how < 2 from Int32.not_lt.mpr h_2)]
          unfold zm_eOf zm_dOf
          rw [if_pos (show nI (zc_d a) = 31 from h_32)]
          rw [if_pos (show (30 : Int32) = 30 from h_55)]
          rw [if_pos (show nI (zc_d b) = 31 from h_64)]
          all_goals rfl
  · skip
    refine lv_iload_n hx hb nd_M_days_5 rfl (zv_at hl 3 rfl) ?_
    refine lv_iload_n hx hb nd_M_days_6 rfl (zv_at hl 2 rfl) ?_
    refine lv_isub hx hb nd_M_days_7 ?_
    refine zm_iret hx hb hr hlk nd_M_days_8 hP hS ?_
    unfold zm_days
    rw [if_pos (show how < 2 from Int32.not_le.mp h_2)]
