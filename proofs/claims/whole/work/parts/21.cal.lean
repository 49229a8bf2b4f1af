set_option maxHeartbeats 4000000 in
set_option maxRecDepth 100000 in
theorem c_C_isBasis (l : Launch) (x : Int32) : Met l ny_C_isBasis (Cond.code ny_C_isBasis nc_C_isBasis 1 (some .boolean) :: zw_big) ({ frames := 0, cells := 0, slots := 0, locals := 0 } : Room) (zw_N [.int x]) (zw_R (.int (zb_isBas x))) 0 0 (fun _ => False) := by
  refine Met.ofW (cc := nc_C_isBasis) (maxL := 1) (ret := (some .boolean)) (by decide) rfl ?_
  intro p e s m args below meth c s₁ B hml hv
  have hv : args = [.int x].toArray := hv
  subst hv
  have hx := B.exec
  have hb := B.bytes
  have hr := B.returns
  have hts0 := atoms_spec (ws := Cond.code ny_C_isBasis nc_C_isBasis 1 (some .boolean) :: zw_big) B.pre
  have hts : ∀ w ∈ zw_big, w.before [.int x].toArray s = true := fun w h => hts0 w (List.mem_cons_of_mem _ h)
  have hown : s.vm.findClass nR_C = some m.cls := findClass_of_methodNamed B.named
  have hlk := B.notSynchronized
  have hl := lv_entry ([.int x]) (n := 1) (Nat.le_of_ble_eq_true rfl)
  rw [lg_entry_eq]
  generalize (lg_sl ([.int x]) ++ List.replicate (1 - (lg_sl ([.int x])).length) Slot.unset).toArray = ls at hl ⊢
  have hl : lv_has ls 1 [(0, .int x)] := hl
  have hF : CallFix p m c nc_C_isBasis 1 s [.int x].toArray zw_big nR_C := ⟨hx, hb, hml, hown, hts⟩
  refine lv_iconst (v := 0) hx hb nd_C_isBasis_0 (by decide) ?_
  refine lv_iload_n hx hb nd_C_isBasis_1 rfl (zv_at hl 0 rfl) ?_
  refine lv_icmp_gt (tgt := 14) hx hb nd_C_isBasis_2 (by decide) (fun h_2 => ?_) (fun h_2 => ?_)
  · skip
    refine lv_iconst (v := 0) hx hb nd_C_isBasis_14 (by decide) ?_
    refine zw_zret hx hb hr hlk nd_C_isBasis_15 (by decide) ?_
    unfold zb_isBas
    first | rw [if_pos h_2] | rw [if_neg h_2, if_pos h_7] | rw [if_neg h_2, if_neg h_7]
  · skip
    refine lv_iload_n hx hb nd_C_isBasis_5 rfl (zv_at hl 0 rfl) ?_
    refine lv_iconst (v := 3) hx hb nd_C_isBasis_6 (by decide) ?_
    refine lv_icmp_ge (tgt := 14) hx hb nd_C_isBasis_7 (by decide) (fun h_7 => ?_) (fun h_7 => ?_)
    · skip
      refine lv_iconst (v := 0) hx hb nd_C_isBasis_14 (by decide) ?_
      refine zw_zret hx hb hr hlk nd_C_isBasis_15 (by decide) ?_
      unfold zb_isBas
      first | rw [if_pos h_2] | rw [if_neg h_2, if_pos h_7] | rw [if_neg h_2, if_neg h_7]
    · skip
      refine lv_iconst (v := 1) hx hb nd_C_isBasis_10 (by decide) ?_
      refine lv_goto (tgt := 15) hx hb nd_C_isBasis_11 (by decide) ?_
      refine zw_zret hx hb hr hlk nd_C_isBasis_15 (by decide) ?_
      unfold zb_isBas
      first | rw [if_pos h_2] | rw [if_neg h_2, if_pos h_7] | rw [if_neg h_2, if_neg h_7]

set_option maxHeartbeats 4000000 in
set_option maxRecDepth 100000 in
theorem c_C_yearOf (l : Launch) (x : Int32) : Met l ny_C_yearOf (Cond.code ny_C_yearOf nc_C_yearOf 1 (some .int) :: zw_big) ({ frames := 0, cells := 0, slots := 0, locals := 0 } : Room) (zw_N [.int x]) (zw_R (.int (zb_yearOf x))) 0 0 (fun _ => False) := by
  refine Met.ofW (cc := nc_C_yearOf) (maxL := 1) (ret := (some .int)) (by decide) rfl ?_
  intro p e s m args below meth c s₁ B hml hv
  have hv : args = [.int x].toArray := hv
  subst hv
  have hx := B.exec
  have hb := B.bytes
  have hr := B.returns
  have hts0 := atoms_spec (ws := Cond.code ny_C_yearOf nc_C_yearOf 1 (some .int) :: zw_big) B.pre
  have hts : ∀ w ∈ zw_big, w.before [.int x].toArray s = true := fun w h => hts0 w (List.mem_cons_of_mem _ h)
  have hown : s.vm.findClass nR_C = some m.cls := findClass_of_methodNamed B.named
  have hlk := B.notSynchronized
  have hl := lv_entry ([.int x]) (n := 1) (Nat.le_of_ble_eq_true rfl)
  rw [lg_entry_eq]
  generalize (lg_sl ([.int x]) ++ List.replicate (1 - (lg_sl ([.int x])).length) Slot.unset).toArray = ls at hl ⊢
  have hl : lv_has ls 1 [(0, .int x)] := hl
  have hF : CallFix p m c nc_C_yearOf 1 s [.int x].toArray zw_big nR_C := ⟨hx, hb, hml, hown, hts⟩
  refine lv_iload_n hx hb nd_C_yearOf_0 rfl (zv_at hl 0 rfl) ?_
  refine lv_if_ne (tgt := 10) hx hb nd_C_yearOf_1 (by decide) (fun h_1 => ?_) (fun h_1 => ?_)
  · skip
    refine lv_sipush (v := 360) hx hb nd_C_yearOf_10 (by decide) ?_
    refine zw_iret hx hb hr hlk nd_C_yearOf_13 ?_
    unfold zb_yearOf
    first | rw [if_pos h_1] | rw [if_neg h_1]
  · skip
    refine lv_sipush (v := 365) hx hb nd_C_yearOf_4 (by decide) ?_
    refine lv_goto (tgt := 13) hx hb nd_C_yearOf_7 (by decide) ?_
    refine zw_iret hx hb hr hlk nd_C_yearOf_13 ?_
    unfold zb_yearOf
    first | rw [if_pos h_1] | rw [if_neg h_1]

set_option maxHeartbeats 4000000 in
set_option maxRecDepth 100000 in
theorem c_C_monthIn (l : Launch) (x : Int32) : Met l ny_C_monthIn (Cond.code ny_C_monthIn nc_C_monthIn 1 (some .int) :: zw_big) ({ frames := 0, cells := 0, slots := 0, locals := 0 } : Room) (zw_N [.int x]) (zw_R (.int (zb_monthIn x))) 0 0 (fun _ => False) := by
  refine Met.ofW (cc := nc_C_monthIn) (maxL := 1) (ret := (some .int)) (by decide) rfl ?_
  intro p e s m args below meth c s₁ B hml hv
  have hv : args = [.int x].toArray := hv
  subst hv
  have hx := B.exec
  have hb := B.bytes
  have hr := B.returns
  have hts0 := atoms_spec (ws := Cond.code ny_C_monthIn nc_C_monthIn 1 (some .int) :: zw_big) B.pre
  have hts : ∀ w ∈ zw_big, w.before [.int x].toArray s = true := fun w h => hts0 w (List.mem_cons_of_mem _ h)
  have hown : s.vm.findClass nR_C = some m.cls := findClass_of_methodNamed B.named
  have hlk := B.notSynchronized
  have hl := lv_entry ([.int x]) (n := 1) (Nat.le_of_ble_eq_true rfl)
  rw [lg_entry_eq]
  generalize (lg_sl ([.int x]) ++ List.replicate (1 - (lg_sl ([.int x])).length) Slot.unset).toArray = ls at hl ⊢
  have hl : lv_has ls 1 [(0, .int x)] := hl
  have hF : CallFix p m c nc_C_monthIn 1 s [.int x].toArray zw_big nR_C := ⟨hx, hb, hml, hown, hts⟩
  refine lv_iload_n hx hb nd_C_monthIn_0 rfl (zv_at hl 0 rfl) ?_
  refine lv_iconst (v := 5) hx hb nd_C_monthIn_1 (by decide) ?_
  refine lv_ishr hx hb nd_C_monthIn_2 ?_
  refine zw_iret hx hb hr hlk nd_C_monthIn_3 ?_
  all_goals rfl

set_option maxHeartbeats 4000000 in
set_option maxRecDepth 100000 in
theorem c_C_dayIn (l : Launch) (x : Int32) : Met l ny_C_dayIn (Cond.code ny_C_dayIn nc_C_dayIn 1 (some .int) :: zw_big) ({ frames := 0, cells := 0, slots := 0, locals := 0 } : Room) (zw_N [.int x]) (zw_R (.int (zb_dayIn x))) 0 0 (fun _ => False) := by
  refine Met.ofW (cc := nc_C_dayIn) (maxL := 1) (ret := (some .int)) (by decide) rfl ?_
  intro p e s m args below meth c s₁ B hml hv
  have hv : args = [.int x].toArray := hv
  subst hv
  have hx := B.exec
  have hb := B.bytes
  have hr := B.returns
  have hts0 := atoms_spec (ws := Cond.code ny_C_dayIn nc_C_dayIn 1 (some .int) :: zw_big) B.pre
  have hts : ∀ w ∈ zw_big, w.before [.int x].toArray s = true := fun w h => hts0 w (List.mem_cons_of_mem _ h)
  have hown : s.vm.findClass nR_C = some m.cls := findClass_of_methodNamed B.named
  have hlk := B.notSynchronized
  have hl := lv_entry ([.int x]) (n := 1) (Nat.le_of_ble_eq_true rfl)
  rw [lg_entry_eq]
  generalize (lg_sl ([.int x]) ++ List.replicate (1 - (lg_sl ([.int x])).length) Slot.unset).toArray = ls at hl ⊢
  have hl : lv_has ls 1 [(0, .int x)] := hl
  have hF : CallFix p m c nc_C_dayIn 1 s [.int x].toArray zw_big nR_C := ⟨hx, hb, hml, hown, hts⟩
  refine lv_iload_n hx hb nd_C_dayIn_0 rfl (zv_at hl 0 rfl) ?_
  refine lv_bipush (v := 31) hx hb nd_C_dayIn_1 (by decide) ?_
  refine lv_iand hx hb nd_C_dayIn_3 ?_
  refine zw_iret hx hb hr hlk nd_C_dayIn_4 ?_
  all_goals rfl

set_option maxHeartbeats 4000000 in
set_option maxRecDepth 100000 in
theorem c_C_monthAndDay (l : Launch) (x : Int32) : Met l ny_C_monthAndDay (Cond.code ny_C_monthAndDay nc_C_monthAndDay 10 (some .int) :: zw_big) ({ frames := 1, cells := 0, slots := 0, locals := 22 } : Room) (zw_N [.int x]) (zw_R (.int (zb_md x))) 0 0 (fun _ => False) := by
  refine Met.ofW (cc := nc_C_monthAndDay) (maxL := 10) (ret := (some .int)) (by decide) rfl ?_
  intro p e s m args below meth c s₁ B hml hv
  have hv : args = [.int x].toArray := hv
  subst hv
  have hx := B.exec
  have hb := B.bytes
  have hr := B.returns
  have hts0 := atoms_spec (ws := Cond.code ny_C_monthAndDay nc_C_monthAndDay 10 (some .int) :: zw_big) B.pre
  have hts : ∀ w ∈ zw_big, w.before [.int x].toArray s = true := fun w h => hts0 w (List.mem_cons_of_mem _ h)
  have hown : s.vm.findClass nR_C = some m.cls := findClass_of_methodNamed B.named
  have hlk := B.notSynchronized
  have hl := lv_entry ([.int x]) (n := 10) (Nat.le_of_ble_eq_true rfl)
  rw [lg_entry_eq]
  generalize (lg_sl ([.int x]) ++ List.replicate (10 - (lg_sl ([.int x])).length) Slot.unset).toArray = ls at hl ⊢
  have hl : lv_has ls 10 [(0, .int x)] := hl
  have hF : CallFix p m c nc_C_monthAndDay 10 s [.int x].toArray zw_big nR_C := ⟨hx, hb, hml, hown, hts⟩
  refine lv_iload_n hx hb nd_C_monthAndDay_0 rfl (zv_at hl 0 rfl) ?_
  refine lv_bipush (v := 60) hx hb nd_C_monthAndDay_1 (by decide) ?_
  refine lv_isub hx hb nd_C_monthAndDay_3 ?_
  refine lv_istore_n hx hb nd_C_monthAndDay_4 rfl hl (by decide) rfl (fun ls hl => ?_)
  refine lv_iload_n hx hb nd_C_monthAndDay_5 rfl (zv_at hl 1 rfl) ?_
  refine lv_ldc (v := 146097) hx hb hown (hts _ nw_314) nd_C_monthAndDay_6 ?_
  refine zw_sR (As := [_, _]) (rest := _) hF (c_T_floorDiv l _ _ (by decide)) zw_preN nk_T_floorDiv nw_315 ⟨rfl, rfl, Nat.le_of_ble_eq_true rfl, Nat.le_of_ble_eq_true rfl⟩ rfl hl.1 rfl (Nat.le_of_ble_eq_true rfl) ⟨Nat.zero_le _, Nat.zero_le _⟩ nd_C_monthAndDay_8 ?_
  refine lv_istore_n hx hb nd_C_monthAndDay_11 rfl hl (by decide) rfl (fun ls hl => ?_)
  refine lv_iload_n hx hb nd_C_monthAndDay_12 rfl (zv_at hl 1 rfl) ?_
  refine lv_ldc (v := 146097) hx hb hown (hts _ nw_314) nd_C_monthAndDay_13 ?_
  refine zw_sR (As := [_, _]) (rest := _) hF (c_T_floorMod l _ _ (by decide)) zw_preN nk_T_floorMod nw_318 ⟨rfl, rfl, Nat.le_of_ble_eq_true rfl, Nat.le_of_ble_eq_true rfl⟩ rfl hl.1 rfl (Nat.le_of_ble_eq_true rfl) ⟨Nat.zero_le _, Nat.zero_le _⟩ nd_C_monthAndDay_15 ?_
  refine lv_istore_n hx hb nd_C_monthAndDay_18 rfl hl (by decide) rfl (fun ls hl => ?_)
  refine lv_iload_n hx hb nd_C_monthAndDay_19 rfl (zv_at hl 3 rfl) ?_
  refine lv_sipush (v := 1460) hx hb nd_C_monthAndDay_20 (by decide) ?_
  refine lv_idiv hx hb nd_C_monthAndDay_23 (by decide) ?_
  refine lv_iload_n hx hb nd_C_monthAndDay_24 rfl (zv_at hl 3 rfl) ?_
  refine lv_ldc (v := 36524) hx hb hown (hts _ nw_321) nd_C_monthAndDay_25 ?_
  refine lv_idiv hx hb nd_C_monthAndDay_27 (by decide) ?_
  refine lv_isub hx hb nd_C_monthAndDay_28 ?_
  refine lv_iload_n hx hb nd_C_monthAndDay_29 rfl (zv_at hl 3 rfl) ?_
  refine lv_ldc (v := 146096) hx hb hown (hts _ nw_322) nd_C_monthAndDay_30 ?_
  refine lv_idiv hx hb nd_C_monthAndDay_32 (by decide) ?_
  refine lv_iadd hx hb nd_C_monthAndDay_33 ?_
  refine lv_istore hx hb nd_C_monthAndDay_34 hl (by decide) rfl (fun ls hl => ?_)
  refine lv_iload_n hx hb nd_C_monthAndDay_36 rfl (zv_at hl 3 rfl) ?_
  refine lv_iload hx hb nd_C_monthAndDay_37 (zv_at hl 4 rfl) ?_
  refine lv_isub hx hb nd_C_monthAndDay_39 ?_
  refine lv_sipush (v := 365) hx hb nd_C_monthAndDay_40 (by decide) ?_
  refine lv_idiv hx hb nd_C_monthAndDay_43 (by decide) ?_
  refine lv_istore hx hb nd_C_monthAndDay_44 hl (by decide) rfl (fun ls hl => ?_)
  refine lv_iload_n hx hb nd_C_monthAndDay_46 rfl (zv_at hl 3 rfl) ?_
  refine lv_sipush (v := 365) hx hb nd_C_monthAndDay_47 (by decide) ?_
  refine lv_iload hx hb nd_C_monthAndDay_50 (zv_at hl 5 rfl) ?_
  refine lv_imul hx hb nd_C_monthAndDay_52 ?_
  refine lv_iload hx hb nd_C_monthAndDay_53 (zv_at hl 5 rfl) ?_
  refine lv_iconst (v := 4) hx hb nd_C_monthAndDay_55 (by decide) ?_
  refine lv_idiv hx hb nd_C_monthAndDay_56 (by decide) ?_
  refine lv_iadd hx hb nd_C_monthAndDay_57 ?_
  refine lv_iload hx hb nd_C_monthAndDay_58 (zv_at hl 5 rfl) ?_
  refine lv_bipush (v := 100) hx hb nd_C_monthAndDay_60 (by decide) ?_
  refine lv_idiv hx hb nd_C_monthAndDay_62 (by decide) ?_
  refine lv_isub hx hb nd_C_monthAndDay_63 ?_
  refine lv_isub hx hb nd_C_monthAndDay_64 ?_
  refine lv_istore hx hb nd_C_monthAndDay_65 hl (by decide) rfl (fun ls hl => ?_)
  refine lv_iconst (v := 5) hx hb nd_C_monthAndDay_67 (by decide) ?_
  refine lv_iload hx hb nd_C_monthAndDay_68 (zv_at hl 6 rfl) ?_
  refine lv_imul hx hb nd_C_monthAndDay_70 ?_
  refine lv_iconst (v := 2) hx hb nd_C_monthAndDay_71 (by decide) ?_
  refine lv_iadd hx hb nd_C_monthAndDay_72 ?_
  refine lv_sipush (v := 153) hx hb nd_C_monthAndDay_73 (by decide) ?_
  refine lv_idiv hx hb nd_C_monthAndDay_76 (by decide) ?_
  refine lv_istore hx hb nd_C_monthAndDay_77 hl (by decide) rfl (fun ls hl => ?_)
  refine lv_iload hx hb nd_C_monthAndDay_79 (zv_at hl 6 rfl) ?_
  refine lv_sipush (v := 153) hx hb nd_C_monthAndDay_81 (by decide) ?_
  refine lv_iload hx hb nd_C_monthAndDay_84 (zv_at hl 7 rfl) ?_
  refine lv_imul hx hb nd_C_monthAndDay_86 ?_
  refine lv_iconst (v := 2) hx hb nd_C_monthAndDay_87 (by decide) ?_
  refine lv_iadd hx hb nd_C_monthAndDay_88 ?_
  refine lv_iconst (v := 5) hx hb nd_C_monthAndDay_89 (by decide) ?_
  refine lv_idiv hx hb nd_C_monthAndDay_90 (by decide) ?_
  refine lv_isub hx hb nd_C_monthAndDay_91 ?_
  refine lv_iconst (v := 1) hx hb nd_C_monthAndDay_92 (by decide) ?_
  refine lv_iadd hx hb nd_C_monthAndDay_93 ?_
  refine lv_istore hx hb nd_C_monthAndDay_94 hl (by decide) rfl (fun ls hl => ?_)
  refine lv_sipush (v := 4800) hx hb nd_C_monthAndDay_96 (by decide) ?_
  refine lv_iload_n hx hb nd_C_monthAndDay_99 rfl (zv_at hl 2 rfl) ?_
  refine lv_imul hx hb nd_C_monthAndDay_100 ?_
  refine lv_bipush (v := 12) hx hb nd_C_monthAndDay_101 (by decide) ?_
  refine lv_iload hx hb nd_C_monthAndDay_103 (zv_at hl 5 rfl) ?_
  refine lv_imul hx hb nd_C_monthAndDay_105 ?_
  refine lv_iadd hx hb nd_C_monthAndDay_106 ?_
  refine lv_iload hx hb nd_C_monthAndDay_107 (zv_at hl 7 rfl) ?_
  refine lv_iadd hx hb nd_C_monthAndDay_109 ?_
  refine lv_istore hx hb nd_C_monthAndDay_110 hl (by decide) rfl (fun ls hl => ?_)
  refine lv_iload hx hb nd_C_monthAndDay_112 (zv_at hl 9 rfl) ?_
  refine lv_iconst (v := 5) hx hb nd_C_monthAndDay_114 (by decide) ?_
  refine lv_ishl hx hb nd_C_monthAndDay_115 ?_
  refine lv_iload hx hb nd_C_monthAndDay_116 (zv_at hl 8 rfl) ?_
  refine lv_iadd hx hb nd_C_monthAndDay_118 ?_
  refine zw_iret hx hb hr hlk nd_C_monthAndDay_119 ?_
  all_goals rfl

set_option maxHeartbeats 4000000 in
set_option maxRecDepth 100000 in
theorem c_C_countByMonths (l : Launch) (x y : Int32) : Met l ny_C_countByMonths (Cond.code ny_C_countByMonths nc_C_countByMonths 6 (some .int) :: zw_big) ({ frames := 2, cells := 0, slots := 0, locals := 51 } : Room) (zw_N [.int x, .int y]) (zw_R (.int (zb_byMonths x y))) 0 0 (fun _ => False) := by
  refine Met.ofW (cc := nc_C_countByMonths) (maxL := 6) (ret := (some .int)) (by decide) rfl ?_
  intro p e s m args below meth c s₁ B hml hv
  have hv : args = [.int x, .int y].toArray := hv
  subst hv
  have hx := B.exec
  have hb := B.bytes
  have hr := B.returns
  have hts0 := atoms_spec (ws := Cond.code ny_C_countByMonths nc_C_countByMonths 6 (some .int) :: zw_big) B.pre
  have hts : ∀ w ∈ zw_big, w.before [.int x, .int y].toArray s = true := fun w h => hts0 w (List.mem_cons_of_mem _ h)
  have hown : s.vm.findClass nR_C = some m.cls := findClass_of_methodNamed B.named
  have hlk := B.notSynchronized
  have hl := lv_entry ([.int x, .int y]) (n := 6) (Nat.le_of_ble_eq_true rfl)
  rw [lg_entry_eq]
  generalize (lg_sl ([.int x, .int y]) ++ List.replicate (6 - (lg_sl ([.int x, .int y])).length) Slot.unset).toArray = ls at hl ⊢
  have hl : lv_has ls 6 [(0, .int x), (1, .int y)] := hl
  have hF : CallFix p m c nc_C_countByMonths 6 s [.int x, .int y].toArray zw_big nR_C := ⟨hx, hb, hml, hown, hts⟩
  refine lv_iload_n hx hb nd_C_countByMonths_0 rfl (zv_at hl 0 rfl) ?_
  refine zw_sR (As := [_]) (rest := _) hF (c_C_monthAndDay l _) zw_preN nk_C_monthAndDay nw_378 ⟨rfl, rfl, Nat.le_of_ble_eq_true rfl, Nat.le_of_ble_eq_true rfl⟩ rfl hl.1 rfl (Nat.le_of_ble_eq_true rfl) ⟨Nat.zero_le _, Nat.zero_le _⟩ nd_C_countByMonths_1 ?_
  refine lv_istore_n hx hb nd_C_countByMonths_4 rfl hl (by decide) rfl (fun ls hl => ?_)
  refine lv_iload_n hx hb nd_C_countByMonths_5 rfl (zv_at hl 1 rfl) ?_
  refine zw_sR (As := [_]) (rest := _) hF (c_C_monthAndDay l _) zw_preN nk_C_monthAndDay nw_378 ⟨rfl, rfl, Nat.le_of_ble_eq_true rfl, Nat.le_of_ble_eq_true rfl⟩ rfl hl.1 rfl (Nat.le_of_ble_eq_true rfl) ⟨Nat.zero_le _, Nat.zero_le _⟩ nd_C_countByMonths_6 ?_
  refine lv_istore_n hx hb nd_C_countByMonths_9 rfl hl (by decide) rfl (fun ls hl => ?_)
  refine lv_iload_n hx hb nd_C_countByMonths_10 rfl (zv_at hl 2 rfl) ?_
  refine zw_sR (As := [_]) (rest := _) hF (c_C_dayIn l _) zw_preN nk_C_dayIn nw_379 ⟨rfl, rfl, Nat.le_of_ble_eq_true rfl, Nat.le_of_ble_eq_true rfl⟩ rfl hl.1 rfl (Nat.le_of_ble_eq_true rfl) ⟨Nat.zero_le _, Nat.zero_le _⟩ nd_C_countByMonths_11 ?_
  refine lv_bipush (v := 30) hx hb nd_C_countByMonths_14 (by decide) ?_
  refine zw_sR (As := [_, _]) (rest := _) hF (c_T_min l _ _) zw_preN nk_T_min nw_380 ⟨rfl, rfl, Nat.le_of_ble_eq_true rfl, Nat.le_of_ble_eq_true rfl⟩ rfl hl.1 rfl (Nat.le_of_ble_eq_true rfl) ⟨Nat.zero_le _, Nat.zero_le _⟩ nd_C_countByMonths_16 ?_
  refine lv_istore hx hb nd_C_countByMonths_19 hl (by decide) rfl (fun ls hl => ?_)
  refine lv_iload_n hx hb nd_C_countByMonths_21 rfl (zv_at hl 3 rfl) ?_
  refine zw_sR (As := [_]) (rest := _) hF (c_C_dayIn l _) zw_preN nk_C_dayIn nw_379 ⟨rfl, rfl, Nat.le_of_ble_eq_true rfl, Nat.le_of_ble_eq_true rfl⟩ rfl hl.1 rfl (Nat.le_of_ble_eq_true rfl) ⟨Nat.zero_le _, Nat.zero_le _⟩ nd_C_countByMonths_22 ?_
  refine lv_istore hx hb nd_C_countByMonths_25 hl (by decide) rfl (fun ls hl => ?_)
  refine lv_iload hx hb nd_C_countByMonths_27 (zv_at hl 4 rfl) ?_
  refine lv_bipush (v := 30) hx hb nd_C_countByMonths_29 (by decide) ?_
  refine lv_icmp_ne (tgt := 45) hx hb nd_C_countByMonths_31 (by decide) (fun h_31 => ?_) (fun h_31 => ?_)
  · skip
    refine lv_bipush (v := 30) hx hb nd_C_countByMonths_45 (by decide) ?_
    refine lv_iload_n hx hb nd_C_countByMonths_47 rfl (zv_at hl 3 rfl) ?_
    refine zw_sR (As := [_]) (rest := _) hF (c_C_monthIn l _) zw_preN nk_C_monthIn nw_381 ⟨rfl, rfl, Nat.le_of_ble_eq_true rfl, Nat.le_of_ble_eq_true rfl⟩ rfl hl.1 rfl (Nat.le_of_ble_eq_true rfl) ⟨Nat.zero_le _, Nat.zero_le _⟩ nd_C_countByMonths_48 ?_
    refine lv_iload_n hx hb nd_C_countByMonths_51 rfl (zv_at hl 2 rfl) ?_
    refine zw_sR (As := [_]) (rest := _) hF (c_C_monthIn l _) zw_preN nk_C_monthIn nw_381 ⟨rfl, rfl, Nat.le_of_ble_eq_true rfl, Nat.le_of_ble_eq_true rfl⟩ rfl hl.1 rfl (Nat.le_of_ble_eq_true rfl) ⟨Nat.zero_le _, Nat.zero_le _⟩ nd_C_countByMonths_52 ?_
    refine lv_isub hx hb nd_C_countByMonths_55 ?_
    refine lv_imul hx hb nd_C_countByMonths_56 ?_
    refine lv_iload hx hb nd_C_countByMonths_57 (zv_at hl 5 rfl) ?_
    refine lv_iadd hx hb nd_C_countByMonths_59 ?_
    refine lv_iload hx hb nd_C_countByMonths_60 (zv_at hl 4 rfl) ?_
    refine lv_isub hx hb nd_C_countByMonths_62 ?_
    refine zw_iret hx hb hr hlk nd_C_countByMonths_63 ?_
    unfold zb_byMonths zb_lastDay
    first | rw [if_neg h_31] | rw [if_pos h_31, if_neg h_38] | rw [if_pos h_31, if_pos h_38]
  · skip
    refine lv_iload hx hb nd_C_countByMonths_34 (zv_at hl 5 rfl) ?_
    refine lv_bipush (v := 31) hx hb nd_C_countByMonths_36 (by decide) ?_
    refine lv_icmp_ne (tgt := 45) hx hb nd_C_countByMonths_38 (by decide) (fun h_38 => ?_) (fun h_38 => ?_)
    · skip
      refine lv_bipush (v := 30) hx hb nd_C_countByMonths_45 (by decide) ?_
      refine lv_iload_n hx hb nd_C_countByMonths_47 rfl (zv_at hl 3 rfl) ?_
      refine zw_sR (As := [_]) (rest := _) hF (c_C_monthIn l _) zw_preN nk_C_monthIn nw_381 ⟨rfl, rfl, Nat.le_of_ble_eq_true rfl, Nat.le_of_ble_eq_true rfl⟩ rfl hl.1 rfl (Nat.le_of_ble_eq_true rfl) ⟨Nat.zero_le _, Nat.zero_le _⟩ nd_C_countByMonths_48 ?_
      refine lv_iload_n hx hb nd_C_countByMonths_51 rfl (zv_at hl 2 rfl) ?_
      refine zw_sR (As := [_]) (rest := _) hF (c_C_monthIn l _) zw_preN nk_C_monthIn nw_381 ⟨rfl, rfl, Nat.le_of_ble_eq_true rfl, Nat.le_of_ble_eq_true rfl⟩ rfl hl.1 rfl (Nat.le_of_ble_eq_true rfl) ⟨Nat.zero_le _, Nat.zero_le _⟩ nd_C_countByMonths_52 ?_
      refine lv_isub hx hb nd_C_countByMonths_55 ?_
      refine lv_imul hx hb nd_C_countByMonths_56 ?_
      refine lv_iload hx hb nd_C_countByMonths_57 (zv_at hl 5 rfl) ?_
      refine lv_iadd hx hb nd_C_countByMonths_59 ?_
      refine lv_iload hx hb nd_C_countByMonths_60 (zv_at hl 4 rfl) ?_
      refine lv_isub hx hb nd_C_countByMonths_62 ?_
      refine zw_iret hx hb hr hlk nd_C_countByMonths_63 ?_
      unfold zb_byMonths zb_lastDay
      first | rw [if_neg h_31] | rw [if_pos h_31, if_neg h_38] | rw [if_pos h_31, if_pos h_38]
    · skip
      refine lv_bipush (v := 30) hx hb nd_C_countByMonths_41 (by decide) ?_
      refine lv_istore hx hb nd_C_countByMonths_43 hl (by decide) rfl (fun ls hl => ?_)
      refine lv_bipush (v := 30) hx hb nd_C_countByMonths_45 (by decide) ?_
      refine lv_iload_n hx hb nd_C_countByMonths_47 rfl (zv_at hl 3 rfl) ?_
      refine zw_sR (As := [_]) (rest := _) hF (c_C_monthIn l _) zw_preN nk_C_monthIn nw_381 ⟨rfl, rfl, Nat.le_of_ble_eq_true rfl, Nat.le_of_ble_eq_true rfl⟩ rfl hl.1 rfl (Nat.le_of_ble_eq_true rfl) ⟨Nat.zero_le _, Nat.zero_le _⟩ nd_C_countByMonths_48 ?_
      refine lv_iload_n hx hb nd_C_countByMonths_51 rfl (zv_at hl 2 rfl) ?_
      refine zw_sR (As := [_]) (rest := _) hF (c_C_monthIn l _) zw_preN nk_C_monthIn nw_381 ⟨rfl, rfl, Nat.le_of_ble_eq_true rfl, Nat.le_of_ble_eq_true rfl⟩ rfl hl.1 rfl (Nat.le_of_ble_eq_true rfl) ⟨Nat.zero_le _, Nat.zero_le _⟩ nd_C_countByMonths_52 ?_
      refine lv_isub hx hb nd_C_countByMonths_55 ?_
      refine lv_imul hx hb nd_C_countByMonths_56 ?_
      refine lv_iload hx hb nd_C_countByMonths_57 (zv_at hl 5 rfl) ?_
      refine lv_iadd hx hb nd_C_countByMonths_59 ?_
      refine lv_iload hx hb nd_C_countByMonths_60 (zv_at hl 4 rfl) ?_
      refine lv_isub hx hb nd_C_countByMonths_62 ?_
      refine zw_iret hx hb hr hlk nd_C_countByMonths_63 ?_
      unfold zb_byMonths zb_lastDay
      first | rw [if_neg h_31] | rw [if_pos h_31, if_neg h_38] | rw [if_pos h_31, if_pos h_38]

set_option maxHeartbeats 4000000 in
set_option maxRecDepth 100000 in
theorem c_C_dayCount (l : Launch) (b x y : Int32) : Met l ny_C_dayCount (Cond.code ny_C_dayCount nc_C_dayCount 3 (some .int) :: zw_big) ({ frames := 3, cells := 0, slots := 0, locals := 76 } : Room) (zw_N [.int b, .int x, .int y]) (zw_R (.int (zb_dayCount b x y))) 0 0 (fun _ => False) := by
  refine Met.ofW (cc := nc_C_dayCount) (maxL := 3) (ret := (some .int)) (by decide) rfl ?_
  intro p e s m args below meth c s₁ B hml hv
  have hv : args = [.int b, .int x, .int y].toArray := hv
  subst hv
  have hx := B.exec
  have hb := B.bytes
  have hr := B.returns
  have hts0 := atoms_spec (ws := Cond.code ny_C_dayCount nc_C_dayCount 3 (some .int) :: zw_big) B.pre
  have hts : ∀ w ∈ zw_big, w.before [.int b, .int x, .int y].toArray s = true := fun w h => hts0 w (List.mem_cons_of_mem _ h)
  have hown : s.vm.findClass nR_C = some m.cls := findClass_of_methodNamed B.named
  have hlk := B.notSynchronized
  have hl := lv_entry ([.int b, .int x, .int y]) (n := 3) (Nat.le_of_ble_eq_true rfl)
  rw [lg_entry_eq]
  generalize (lg_sl ([.int b, .int x, .int y]) ++ List.replicate (3 - (lg_sl ([.int b, .int x, .int y])).length) Slot.unset).toArray = ls at hl ⊢
  have hl : lv_has ls 3 [(0, .int b), (1, .int x), (2, .int y)] := hl
  have hF : CallFix p m c nc_C_dayCount 3 s [.int b, .int x, .int y].toArray zw_big nR_C := ⟨hx, hb, hml, hown, hts⟩
  refine lv_iload_n hx hb nd_C_dayCount_0 rfl (zv_at hl 0 rfl) ?_
  refine lv_iconst (v := 2) hx hb nd_C_dayCount_1 (by decide) ?_
  refine lv_icmp_ne (tgt := 13) hx hb nd_C_dayCount_2 (by decide) (fun h_2 => ?_) (fun h_2 => ?_)
  · skip
    refine lv_iload_n hx hb nd_C_dayCount_13 rfl (zv_at hl 2 rfl) ?_
    refine lv_iload_n hx hb nd_C_dayCount_14 rfl (zv_at hl 1 rfl) ?_
    refine lv_isub hx hb nd_C_dayCount_15 ?_
    refine zw_iret hx hb hr hlk nd_C_dayCount_16 ?_
    unfold zb_dayCount
    first | rw [if_pos h_2] | rw [if_neg h_2]
  · skip
    refine lv_iload_n hx hb nd_C_dayCount_5 rfl (zv_at hl 1 rfl) ?_
    refine lv_iload_n hx hb nd_C_dayCount_6 rfl (zv_at hl 2 rfl) ?_
    refine zw_sR (As := [_, _]) (rest := _) hF (c_C_countByMonths l _ _) zw_preN nk_C_countByMonths nw_375 ⟨rfl, rfl, Nat.le_of_ble_eq_true rfl, Nat.le_of_ble_eq_true rfl⟩ rfl hl.1 rfl (Nat.le_of_ble_eq_true rfl) ⟨Nat.zero_le _, Nat.zero_le _⟩ nd_C_dayCount_7 ?_
    refine lv_goto (tgt := 16) hx hb nd_C_dayCount_10 (by decide) ?_
    refine zw_iret hx hb hr hlk nd_C_dayCount_16 ?_
    unfold zb_dayCount
    first | rw [if_pos h_2] | rw [if_neg h_2]

set_option maxHeartbeats 4000000 in
set_option maxRecDepth 100000 in
theorem c_C_isLastOfMonth (l : Launch) (x : Int32) : Met l ny_C_isLastOfMonth (Cond.code ny_C_isLastOfMonth nc_C_isLastOfMonth 1 (some .boolean) :: zw_big) ({ frames := 2, cells := 0, slots := 0, locals := 51 } : Room) (zw_N [.int x]) (zw_R (.int (zb_isLast x))) 0 0 (fun _ => False) := by
  refine Met.ofW (cc := nc_C_isLastOfMonth) (maxL := 1) (ret := (some .boolean)) (by decide) rfl ?_
  intro p e s m args below meth c s₁ B hml hv
  have hv : args = [.int x].toArray := hv
  subst hv
  have hx := B.exec
  have hb := B.bytes
  have hr := B.returns
  have hts0 := atoms_spec (ws := Cond.code ny_C_isLastOfMonth nc_C_isLastOfMonth 1 (some .boolean) :: zw_big) B.pre
  have hts : ∀ w ∈ zw_big, w.before [.int x].toArray s = true := fun w h => hts0 w (List.mem_cons_of_mem _ h)
  have hown : s.vm.findClass nR_C = some m.cls := findClass_of_methodNamed B.named
  have hlk := B.notSynchronized
  have hl := lv_entry ([.int x]) (n := 1) (Nat.le_of_ble_eq_true rfl)
  rw [lg_entry_eq]
  generalize (lg_sl ([.int x]) ++ List.replicate (1 - (lg_sl ([.int x])).length) Slot.unset).toArray = ls at hl ⊢
  have hl : lv_has ls 1 [(0, .int x)] := hl
  have hF : CallFix p m c nc_C_isLastOfMonth 1 s [.int x].toArray zw_big nR_C := ⟨hx, hb, hml, hown, hts⟩
  refine lv_iload_n hx hb nd_C_isLastOfMonth_0 rfl (zv_at hl 0 rfl) ?_
  refine lv_iconst (v := 1) hx hb nd_C_isLastOfMonth_1 (by decide) ?_
  refine lv_iadd hx hb nd_C_isLastOfMonth_2 ?_
  refine zw_sR (As := [_]) (rest := _) hF (c_C_monthAndDay l _) zw_preN nk_C_monthAndDay nw_378 ⟨rfl, rfl, Nat.le_of_ble_eq_true rfl, Nat.le_of_ble_eq_true rfl⟩ rfl hl.1 rfl (Nat.le_of_ble_eq_true rfl) ⟨Nat.zero_le _, Nat.zero_le _⟩ nd_C_isLastOfMonth_3 ?_
  refine zw_sR (As := [_]) (rest := _) hF (c_C_dayIn l _) zw_preN nk_C_dayIn nw_379 ⟨rfl, rfl, Nat.le_of_ble_eq_true rfl, Nat.le_of_ble_eq_true rfl⟩ rfl hl.1 rfl (Nat.le_of_ble_eq_true rfl) ⟨Nat.zero_le _, Nat.zero_le _⟩ nd_C_isLastOfMonth_6 ?_
  refine lv_iconst (v := 1) hx hb nd_C_isLastOfMonth_9 (by decide) ?_
  refine lv_icmp_ne (tgt := 17) hx hb nd_C_isLastOfMonth_10 (by decide) (fun h_10 => ?_) (fun h_10 => ?_)
  · skip
    refine lv_iconst (v := 0) hx hb nd_C_isLastOfMonth_17 (by decide) ?_
    refine zw_zret hx hb hr hlk nd_C_isLastOfMonth_18 (by decide) ?_
    unfold zb_isLast
    first | rw [if_pos h_10] | rw [if_neg h_10]
  · skip
    refine lv_iconst (v := 1) hx hb nd_C_isLastOfMonth_13 (by decide) ?_
    refine lv_goto (tgt := 18) hx hb nd_C_isLastOfMonth_14 (by decide) ?_
    refine zw_zret hx hb hr hlk nd_C_isLastOfMonth_18 (by decide) ?_
    unfold zb_isLast
    first | rw [if_pos h_10] | rw [if_neg h_10]
