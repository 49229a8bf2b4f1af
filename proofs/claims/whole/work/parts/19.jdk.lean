set_option maxHeartbeats 4000000 in
set_option maxRecDepth 100000 in
theorem c_T_floorDiv (l : Launch) (x y : Int32) (hy : ¬ y = 0) : Met l ny_T_floorDiv (Cond.code ny_T_floorDiv nc_T_floorDiv 3 (some .int) :: zw_big) ({ frames := 0, cells := 0, slots := 0, locals := 0 } : Room) (zw_N [.int x, .int y]) (zw_R (.int (zj_fdiv x y))) 0 0 (fun _ => False) := by
  refine va_MetF (cc := nc_T_floorDiv) (maxL := 3) (ret := (some .int)) (by decide +kernel) rfl ?_
  intro p e s m args below meth c s₁ B hml hv
  have hv : args = [.int x, .int y].toArray := hv
  subst hv
  have hx := B.exec
  have hb := B.bytes
  have hr := B.returns
  have hts0 := atoms_spec (ws := Cond.code ny_T_floorDiv nc_T_floorDiv 3 (some .int) :: zw_big) B.pre
  have hts : ∀ w ∈ zw_big, w.before [.int x, .int y].toArray s = true := fun w h => hts0 w (List.mem_cons_of_mem _ h)
  have hown : s.vm.findClass nR_T = some m.cls := findClass_of_methodNamed B.named
  have hlk := B.notSynchronized
  have hl := lv_entry ([.int x, .int y]) (n := 3) (Nat.le_of_ble_eq_true rfl)
  rw [lg_entry_eq]
  generalize (lg_sl ([.int x, .int y]) ++ List.replicate (3 - (lg_sl ([.int x, .int y])).length) Slot.unset).toArray = ls at hl ⊢
  have hl : lv_has ls 3 [(0, .int x), (1, .int y)] := hl
  have hF : CallFix p m c nc_T_floorDiv 3 s [.int x, .int y].toArray zw_big nR_T := ⟨hx, hb, hml, hown, hts⟩
  refine lv_iload_n hx hb nd_T_floorDiv_0 rfl (zv_at hl 0 rfl) ?_
  refine lv_iload_n hx hb nd_T_floorDiv_1 rfl (zv_at hl 1 rfl) ?_
  refine lv_idiv hx hb nd_T_floorDiv_2 (hy) ?_
  refine lv_istore_n hx hb nd_T_floorDiv_3 rfl hl (by decide) rfl (fun ls hl => ?_)
  refine lv_iload_n hx hb nd_T_floorDiv_4 rfl (zv_at hl 0 rfl) ?_
  refine lv_iload_n hx hb nd_T_floorDiv_5 rfl (zv_at hl 1 rfl) ?_
  refine lv_ixor hx hb nd_T_floorDiv_6 ?_
  refine lv_if_ge (tgt := 21) hx hb nd_T_floorDiv_7 (by decide) (fun h_7 => ?_) (fun h_7 => ?_)
  · skip
    refine lv_iload_n hx hb nd_T_floorDiv_21 rfl (zv_at hl 2 rfl) ?_
    refine zw_iret hx hb hr hlk nd_T_floorDiv_22 ?_
    unfold zj_fdiv
    first | rw [if_pos h_7] | rw [if_neg h_7, if_pos h_14] | rw [if_neg h_7, if_neg h_14]
  · skip
    refine lv_iload_n hx hb nd_T_floorDiv_10 rfl (zv_at hl 2 rfl) ?_
    refine lv_iload_n hx hb nd_T_floorDiv_11 rfl (zv_at hl 1 rfl) ?_
    refine lv_imul hx hb nd_T_floorDiv_12 ?_
    refine lv_iload_n hx hb nd_T_floorDiv_13 rfl (zv_at hl 0 rfl) ?_
    refine lv_icmp_eq (tgt := 21) hx hb nd_T_floorDiv_14 (by decide) (fun h_14 => ?_) (fun h_14 => ?_)
    · skip
      refine lv_iload_n hx hb nd_T_floorDiv_21 rfl (zv_at hl 2 rfl) ?_
      refine zw_iret hx hb hr hlk nd_T_floorDiv_22 ?_
      unfold zj_fdiv
      first | rw [if_pos h_7] | rw [if_neg h_7, if_pos h_14] | rw [if_neg h_7, if_neg h_14]
    · skip
      refine lv_iload_n hx hb nd_T_floorDiv_17 rfl (zv_at hl 2 rfl) ?_
      refine lv_iconst (v := 1) hx hb nd_T_floorDiv_18 (by decide) ?_
      refine lv_isub hx hb nd_T_floorDiv_19 ?_
      refine zw_iret hx hb hr hlk nd_T_floorDiv_20 ?_
      unfold zj_fdiv
      first | rw [if_pos h_7] | rw [if_neg h_7, if_pos h_14] | rw [if_neg h_7, if_neg h_14]

set_option maxHeartbeats 4000000 in
set_option maxRecDepth 100000 in
theorem c_T_floorMod (l : Launch) (x y : Int32) (hy : ¬ y = 0) : Met l ny_T_floorMod (Cond.code ny_T_floorMod nc_T_floorMod 3 (some .int) :: zw_big) ({ frames := 0, cells := 0, slots := 0, locals := 0 } : Room) (zw_N [.int x, .int y]) (zw_R (.int (zj_fmod x y))) 0 0 (fun _ => False) := by
  refine va_MetF (cc := nc_T_floorMod) (maxL := 3) (ret := (some .int)) (by decide +kernel) rfl ?_
  intro p e s m args below meth c s₁ B hml hv
  have hv : args = [.int x, .int y].toArray := hv
  subst hv
  have hx := B.exec
  have hb := B.bytes
  have hr := B.returns
  have hts0 := atoms_spec (ws := Cond.code ny_T_floorMod nc_T_floorMod 3 (some .int) :: zw_big) B.pre
  have hts : ∀ w ∈ zw_big, w.before [.int x, .int y].toArray s = true := fun w h => hts0 w (List.mem_cons_of_mem _ h)
  have hown : s.vm.findClass nR_T = some m.cls := findClass_of_methodNamed B.named
  have hlk := B.notSynchronized
  have hl := lv_entry ([.int x, .int y]) (n := 3) (Nat.le_of_ble_eq_true rfl)
  rw [lg_entry_eq]
  generalize (lg_sl ([.int x, .int y]) ++ List.replicate (3 - (lg_sl ([.int x, .int y])).length) Slot.unset).toArray = ls at hl ⊢
  have hl : lv_has ls 3 [(0, .int x), (1, .int y)] := hl
  have hF : CallFix p m c nc_T_floorMod 3 s [.int x, .int y].toArray zw_big nR_T := ⟨hx, hb, hml, hown, hts⟩
  refine lv_iload_n hx hb nd_T_floorMod_0 rfl (zv_at hl 0 rfl) ?_
  refine lv_iload_n hx hb nd_T_floorMod_1 rfl (zv_at hl 1 rfl) ?_
  refine lv_irem hx hb nd_T_floorMod_2 (hy) ?_
  refine lv_istore_n hx hb nd_T_floorMod_3 rfl hl (by decide) rfl (fun ls hl => ?_)
  refine lv_iload_n hx hb nd_T_floorMod_4 rfl (zv_at hl 0 rfl) ?_
  refine lv_iload_n hx hb nd_T_floorMod_5 rfl (zv_at hl 1 rfl) ?_
  refine lv_ixor hx hb nd_T_floorMod_6 ?_
  refine lv_if_ge (tgt := 18) hx hb nd_T_floorMod_7 (by decide) (fun h_7 => ?_) (fun h_7 => ?_)
  · skip
    refine lv_iload_n hx hb nd_T_floorMod_18 rfl (zv_at hl 2 rfl) ?_
    refine zw_iret hx hb hr hlk nd_T_floorMod_19 ?_
    unfold zj_fmod
    first | rw [if_pos h_7] | rw [if_neg h_7, if_pos h_11] | rw [if_neg h_7, if_neg h_11]
  · skip
    refine lv_iload_n hx hb nd_T_floorMod_10 rfl (zv_at hl 2 rfl) ?_
    refine lv_if_eq (tgt := 18) hx hb nd_T_floorMod_11 (by decide) (fun h_11 => ?_) (fun h_11 => ?_)
    · skip
      refine lv_iload_n hx hb nd_T_floorMod_18 rfl (zv_at hl 2 rfl) ?_
      refine zw_iret hx hb hr hlk nd_T_floorMod_19 ?_
      unfold zj_fmod
      first | rw [if_pos h_7] | rw [if_neg h_7, if_pos h_11] | rw [if_neg h_7, if_neg h_11]
    · skip
      refine lv_iload_n hx hb nd_T_floorMod_14 rfl (zv_at hl 2 rfl) ?_
      refine lv_iload_n hx hb nd_T_floorMod_15 rfl (zv_at hl 1 rfl) ?_
      refine lv_iadd hx hb nd_T_floorMod_16 ?_
      refine zw_iret hx hb hr hlk nd_T_floorMod_17 ?_
      unfold zj_fmod
      first | rw [if_pos h_7] | rw [if_neg h_7, if_pos h_11] | rw [if_neg h_7, if_neg h_11]

set_option maxHeartbeats 4000000 in
set_option maxRecDepth 100000 in
theorem c_T_floorDivL (l : Launch) (x y : Int64) (hy : ¬ y = 0) : Met l ny_T_floorDivL (Cond.code ny_T_floorDivL nc_T_floorDivL 6 (some .long) :: zw_big) ({ frames := 0, cells := 0, slots := 0, locals := 0 } : Room) (zw_N [.long x, .long y]) (zw_R (.long (zj_ldiv x y))) 0 0 (fun _ => False) := by
  refine va_MetF (cc := nc_T_floorDivL) (maxL := 6) (ret := (some .long)) (by decide +kernel) rfl ?_
  intro p e s m args below meth c s₁ B hml hv
  have hv : args = [.long x, .long y].toArray := hv
  subst hv
  have hx := B.exec
  have hb := B.bytes
  have hr := B.returns
  have hts0 := atoms_spec (ws := Cond.code ny_T_floorDivL nc_T_floorDivL 6 (some .long) :: zw_big) B.pre
  have hts : ∀ w ∈ zw_big, w.before [.long x, .long y].toArray s = true := fun w h => hts0 w (List.mem_cons_of_mem _ h)
  have hown : s.vm.findClass nR_T = some m.cls := findClass_of_methodNamed B.named
  have hlk := B.notSynchronized
  have hl := lv_entry ([.long x, .long y]) (n := 6) (Nat.le_of_ble_eq_true rfl)
  rw [lg_entry_eq]
  generalize (lg_sl ([.long x, .long y]) ++ List.replicate (6 - (lg_sl ([.long x, .long y])).length) Slot.unset).toArray = ls at hl ⊢
  have hl : lv_has ls 6 [(0, .long x), (2, .long y)] := hl
  have hF : CallFix p m c nc_T_floorDivL 6 s [.long x, .long y].toArray zw_big nR_T := ⟨hx, hb, hml, hown, hts⟩
  refine lv_lload_n hx hb nd_T_floorDivL_0 rfl (zv_at hl 0 rfl) ?_
  refine lv_lload_n hx hb nd_T_floorDivL_1 rfl (zv_at hl 2 rfl) ?_
  refine lv_ldiv hx hb nd_T_floorDivL_2 (hy) ?_
  refine lv_lstore hx hb nd_T_floorDivL_3 hl (by decide) rfl (fun ls hl => ?_)
  refine lv_lload_n hx hb nd_T_floorDivL_5 rfl (zv_at hl 0 rfl) ?_
  refine lv_lload_n hx hb nd_T_floorDivL_6 rfl (zv_at hl 2 rfl) ?_
  refine lv_lxor hx hb nd_T_floorDivL_7 ?_
  refine lv_lconst (v := 0) hx hb nd_T_floorDivL_8 (by decide) ?_
  refine W.lcmp hx hb nd_T_floorDivL_9 ?_
  refine lv_if_ge (tgt := 27) hx hb nd_T_floorDivL_10 (by decide) (fun h_10 => ?_) (fun h_10 => ?_)
  · skip
    have h_10 := (lg_cmp_ge _ _).mp h_10
    refine lv_lload hx hb nd_T_floorDivL_27 (zv_at hl 4 rfl) ?_
    refine zw_lret hx hb hr hlk nd_T_floorDivL_29 ?_
    unfold zj_ldiv
    first | rw [if_pos h_10] | rw [if_neg h_10, if_pos h_19] | rw [if_neg h_10, if_neg h_19]
  · skip
    have h_10 := (show ¬ _ from fun q => h_10 ((lg_cmp_ge _ _).mpr q))
    refine lv_lload hx hb nd_T_floorDivL_13 (zv_at hl 4 rfl) ?_
    refine lv_lload_n hx hb nd_T_floorDivL_15 rfl (zv_at hl 2 rfl) ?_
    refine lv_lmul hx hb nd_T_floorDivL_16 ?_
    refine lv_lload_n hx hb nd_T_floorDivL_17 rfl (zv_at hl 0 rfl) ?_
    refine W.lcmp hx hb nd_T_floorDivL_18 ?_
    refine lv_if_eq (tgt := 27) hx hb nd_T_floorDivL_19 (by decide) (fun h_19 => ?_) (fun h_19 => ?_)
    · skip
      have h_19 := (lg_cmp_eq _ _).mp h_19
      refine lv_lload hx hb nd_T_floorDivL_27 (zv_at hl 4 rfl) ?_
      refine zw_lret hx hb hr hlk nd_T_floorDivL_29 ?_
      unfold zj_ldiv
      first | rw [if_pos h_10] | rw [if_neg h_10, if_pos h_19] | rw [if_neg h_10, if_neg h_19]
    · skip
      have h_19 := (show ¬ _ from fun q => h_19 ((lg_cmp_eq _ _).mpr q))
      refine lv_lload hx hb nd_T_floorDivL_22 (zv_at hl 4 rfl) ?_
      refine lv_lconst (v := 1) hx hb nd_T_floorDivL_24 (by decide) ?_
      refine lv_lsub hx hb nd_T_floorDivL_25 ?_
      refine zw_lret hx hb hr hlk nd_T_floorDivL_26 ?_
      unfold zj_ldiv
      first | rw [if_pos h_10] | rw [if_neg h_10, if_pos h_19] | rw [if_neg h_10, if_neg h_19]

set_option maxHeartbeats 4000000 in
set_option maxRecDepth 100000 in
theorem c_T_min (l : Launch) (x y : Int32) : Met l ny_T_min (Cond.code ny_T_min nc_T_min 2 (some .int) :: zw_big) ({ frames := 0, cells := 0, slots := 0, locals := 0 } : Room) (zw_N [.int x, .int y]) (zw_R (.int (zj_min x y))) 0 0 (fun _ => False) := by
  refine va_MetF (cc := nc_T_min) (maxL := 2) (ret := (some .int)) (by decide +kernel) rfl ?_
  intro p e s m args below meth c s₁ B hml hv
  have hv : args = [.int x, .int y].toArray := hv
  subst hv
  have hx := B.exec
  have hb := B.bytes
  have hr := B.returns
  have hts0 := atoms_spec (ws := Cond.code ny_T_min nc_T_min 2 (some .int) :: zw_big) B.pre
  have hts : ∀ w ∈ zw_big, w.before [.int x, .int y].toArray s = true := fun w h => hts0 w (List.mem_cons_of_mem _ h)
  have hown : s.vm.findClass nR_T = some m.cls := findClass_of_methodNamed B.named
  have hlk := B.notSynchronized
  have hl := lv_entry ([.int x, .int y]) (n := 2) (Nat.le_of_ble_eq_true rfl)
  rw [lg_entry_eq]
  generalize (lg_sl ([.int x, .int y]) ++ List.replicate (2 - (lg_sl ([.int x, .int y])).length) Slot.unset).toArray = ls at hl ⊢
  have hl : lv_has ls 2 [(0, .int x), (1, .int y)] := hl
  have hF : CallFix p m c nc_T_min 2 s [.int x, .int y].toArray zw_big nR_T := ⟨hx, hb, hml, hown, hts⟩
  refine lv_iload_n hx hb nd_T_min_0 rfl (zv_at hl 0 rfl) ?_
  refine lv_iload_n hx hb nd_T_min_1 rfl (zv_at hl 1 rfl) ?_
  refine lv_icmp_gt (tgt := 9) hx hb nd_T_min_2 (by decide) (fun h_2 => ?_) (fun h_2 => ?_)
  · skip
    refine lv_iload_n hx hb nd_T_min_9 rfl (zv_at hl 1 rfl) ?_
    refine zw_iret hx hb hr hlk nd_T_min_10 ?_
    unfold zj_min
    first | rw [if_pos h_2] | rw [if_neg h_2]
  · skip
    refine lv_iload_n hx hb nd_T_min_5 rfl (zv_at hl 0 rfl) ?_
    refine lv_goto (tgt := 10) hx hb nd_T_min_6 (by decide) ?_
    refine zw_iret hx hb hr hlk nd_T_min_10 ?_
    unfold zj_min
    first | rw [if_pos h_2] | rw [if_neg h_2]

set_option maxHeartbeats 4000000 in
set_option maxRecDepth 100000 in
theorem c_I_bitCount (l : Launch) (x : Int32) : Met l ny_I_bitCount (Cond.code ny_I_bitCount nc_I_bitCount 1 (some .int) :: zw_big) ({ frames := 0, cells := 0, slots := 0, locals := 0 } : Room) (zw_N [.int x]) (zw_R (.int (zj_bc x))) 0 0 (fun _ => False) := by
  refine va_MetF (cc := nc_I_bitCount) (maxL := 1) (ret := (some .int)) (by decide +kernel) rfl ?_
  intro p e s m args below meth c s₁ B hml hv
  have hv : args = [.int x].toArray := hv
  subst hv
  have hx := B.exec
  have hb := B.bytes
  have hr := B.returns
  have hts0 := atoms_spec (ws := Cond.code ny_I_bitCount nc_I_bitCount 1 (some .int) :: zw_big) B.pre
  have hts : ∀ w ∈ zw_big, w.before [.int x].toArray s = true := fun w h => hts0 w (List.mem_cons_of_mem _ h)
  have hown : s.vm.findClass nR_I = some m.cls := findClass_of_methodNamed B.named
  have hlk := B.notSynchronized
  have hl := lv_entry ([.int x]) (n := 1) (Nat.le_of_ble_eq_true rfl)
  rw [lg_entry_eq]
  generalize (lg_sl ([.int x]) ++ List.replicate (1 - (lg_sl ([.int x])).length) Slot.unset).toArray = ls at hl ⊢
  have hl : lv_has ls 1 [(0, .int x)] := hl
  have hF : CallFix p m c nc_I_bitCount 1 s [.int x].toArray zw_big nR_I := ⟨hx, hb, hml, hown, hts⟩
  refine lv_iload_n hx hb nd_I_bitCount_0 rfl (zv_at hl 0 rfl) ?_
  refine lv_iload_n hx hb nd_I_bitCount_1 rfl (zv_at hl 0 rfl) ?_
  refine lv_iconst (v := 1) hx hb nd_I_bitCount_2 (by decide) ?_
  refine lv_iushr (v := _) hx hb nd_I_bitCount_3 rfl ?_
  refine lv_ldcw (v := 1431655765) hx hb hown (hts _ nw_217) nd_I_bitCount_4 ?_
  refine lv_iand hx hb nd_I_bitCount_7 ?_
  refine lv_isub hx hb nd_I_bitCount_8 ?_
  refine lv_istore_n hx hb nd_I_bitCount_9 rfl hl (by decide) rfl (fun ls hl => ?_)
  refine lv_iload_n hx hb nd_I_bitCount_10 rfl (zv_at hl 0 rfl) ?_
  refine lv_ldcw (v := 858993459) hx hb hown (hts _ nw_218) nd_I_bitCount_11 ?_
  refine lv_iand hx hb nd_I_bitCount_14 ?_
  refine lv_iload_n hx hb nd_I_bitCount_15 rfl (zv_at hl 0 rfl) ?_
  refine lv_iconst (v := 2) hx hb nd_I_bitCount_16 (by decide) ?_
  refine lv_iushr (v := _) hx hb nd_I_bitCount_17 rfl ?_
  refine lv_ldcw (v := 858993459) hx hb hown (hts _ nw_218) nd_I_bitCount_18 ?_
  refine lv_iand hx hb nd_I_bitCount_21 ?_
  refine lv_iadd hx hb nd_I_bitCount_22 ?_
  refine lv_istore_n hx hb nd_I_bitCount_23 rfl hl (by decide) rfl (fun ls hl => ?_)
  refine lv_iload_n hx hb nd_I_bitCount_24 rfl (zv_at hl 0 rfl) ?_
  refine lv_iload_n hx hb nd_I_bitCount_25 rfl (zv_at hl 0 rfl) ?_
  refine lv_iconst (v := 4) hx hb nd_I_bitCount_26 (by decide) ?_
  refine lv_iushr (v := _) hx hb nd_I_bitCount_27 rfl ?_
  refine lv_iadd hx hb nd_I_bitCount_28 ?_
  refine lv_ldcw (v := 252645135) hx hb hown (hts _ nw_219) nd_I_bitCount_29 ?_
  refine lv_iand hx hb nd_I_bitCount_32 ?_
  refine lv_istore_n hx hb nd_I_bitCount_33 rfl hl (by decide) rfl (fun ls hl => ?_)
  refine lv_iload_n hx hb nd_I_bitCount_34 rfl (zv_at hl 0 rfl) ?_
  refine lv_iload_n hx hb nd_I_bitCount_35 rfl (zv_at hl 0 rfl) ?_
  refine lv_bipush (v := 8) hx hb nd_I_bitCount_36 (by decide) ?_
  refine lv_iushr (v := _) hx hb nd_I_bitCount_38 rfl ?_
  refine lv_iadd hx hb nd_I_bitCount_39 ?_
  refine lv_istore_n hx hb nd_I_bitCount_40 rfl hl (by decide) rfl (fun ls hl => ?_)
  refine lv_iload_n hx hb nd_I_bitCount_41 rfl (zv_at hl 0 rfl) ?_
  refine lv_iload_n hx hb nd_I_bitCount_42 rfl (zv_at hl 0 rfl) ?_
  refine lv_bipush (v := 16) hx hb nd_I_bitCount_43 (by decide) ?_
  refine lv_iushr (v := _) hx hb nd_I_bitCount_45 rfl ?_
  refine lv_iadd hx hb nd_I_bitCount_46 ?_
  refine lv_istore_n hx hb nd_I_bitCount_47 rfl hl (by decide) rfl (fun ls hl => ?_)
  refine lv_iload_n hx hb nd_I_bitCount_48 rfl (zv_at hl 0 rfl) ?_
  refine lv_bipush (v := 63) hx hb nd_I_bitCount_49 (by decide) ?_
  refine lv_iand hx hb nd_I_bitCount_51 ?_
  refine zw_iret hx hb hr hlk nd_I_bitCount_52 ?_
  all_goals rfl

theorem zj_bc_nat (x : Int32) : ∃ n : Nat, n < 64 ∧ zj_bc x = nI n := by
  unfold zj_bc
  exact pk_andE _ 6 (by decide)
theorem zb_wOnce_01 (d : zb_TD) : (zb_wOnce d).1 = 0 ∨ (zb_wOnce d).1 = 1 := by
  unfold zb_wOnce
  split
  · exact Or.inl rfl
  · split <;> exact Or.inr rfl
theorem zb_wMany_next {d : zb_TD} {k : Nat} (h : ¬ (zb_wOnce d).1 = 0) (hk : ¬ k = 0) : zb_wMany k d = zb_wMany (k - 1) (zb_wOnce d).2 := by
  obtain ⟨j, rfl⟩ : ∃ j, k = j + 1 := ⟨k - 1, by omega⟩
  rw [zb_wMany, if_neg h]; rfl
theorem zb_wMany_stop {d : zb_TD} {k : Nat} (h : (zb_wOnce d).1 = 0) (hk : ¬ k = 0) : zb_wMany k d = (0, (zb_wOnce d).2) := by
  obtain ⟨j, rfl⟩ : ∃ j, k = j + 1 := ⟨k - 1, by omega⟩
  rw [zb_wMany, if_pos h]
