set_option maxHeartbeats 4000000 in
set_option maxRecDepth 100000 in
theorem c_B_transferNN (l : Launch) (D : va_G) (G : zg_G) (hG : zw_apart (zb_adr G)) (S : zb_S) (hI : zb_I S) (a : Int32) : Met l ny_B_transfer (Cond.code ny_B_transfer nc_B_transfer 4 none :: zw_big) ({ frames := 0, cells := 0, slots := 0, locals := 0 } : Room) (zw_P [.ref (zg_bnk G), .null, .null, .int a] D (zb_tys G) (zb_cells G S)) (zb_Qv D G (zb_transfer S none none a)) 0 0 (zb_Ad G) := by
  refine Met.ofW (cc := nc_B_transfer) (maxL := 4) (ret := none) (by decide) rfl ?_
  intro p e s m args below meth c s₁ B hml hv
  obtain ⟨rfl, hP, hK⟩ := hv
  have hx := B.exec
  have hb := B.bytes
  have hr := B.returns
  have hts0 := atoms_spec (ws := Cond.code ny_B_transfer nc_B_transfer 4 none :: zw_big) B.pre
  have hts : ∀ w ∈ zw_big, w.before [.ref (zg_bnk G), .null, .null, .int a].toArray s = true := fun w h => hts0 w (List.mem_cons_of_mem _ h)
  have hown : s.vm.findClass nR_B = some m.cls := findClass_of_methodNamed B.named
  have hlk := B.notSynchronized
  have hS : va_S (zb_Ad G) s.heap s.heap [] := va_S.rf
  have hl := lv_entry ([.ref (zg_bnk G), .null, .null, .int a]) (n := 4) (Nat.le_of_ble_eq_true rfl)
  rw [lg_entry_eq]
  generalize (lg_sl ([.ref (zg_bnk G), .null, .null, .int a]) ++ List.replicate (4 - (lg_sl ([.ref (zg_bnk G), .null, .null, .int a])).length) Slot.unset).toArray = ls at hl ⊢
  have hl : lv_has ls 4 [(0, .ref (zg_bnk G)), (1, .null), (2, .null), (3, .int a)] := hl
  have hF : CallFix p m c nc_B_transfer 4 s [.ref (zg_bnk G), .null, .null, .int a].toArray zw_big nR_B := ⟨hx, hb, hml, hown, hts⟩
  refine lv_aload_nN hx hb nd_B_transfer_0 rfl (zv_at hl 1 rfl) ?_
  refine lv_ifnullN (tgt := 18) hx hb nd_B_transfer_1 (by decide) ?_
  refine lv_aload_nN hx hb nd_B_transfer_18 rfl (zv_at hl 2 rfl) ?_
  refine lv_ifnullN (tgt := 36) hx hb nd_B_transfer_19 (by decide) ?_
  refine lv_aload_nN hx hb nd_B_transfer_36 rfl (zv_at hl 2 rfl) ?_
  refine lv_ifnullN (tgt := 54) hx hb nd_B_transfer_37 (by decide) ?_
  refine lv_aload_nN hx hb nd_B_transfer_54 rfl (zv_at hl 1 rfl) ?_
  refine lv_ifnullN (tgt := 72) hx hb nd_B_transfer_55 (by decide) ?_
  refine zb_vret hx hb hr hlk nd_B_transfer_72 hP hS ?_
  all_goals rfl

set_option maxHeartbeats 4000000 in
set_option maxRecDepth 100000 in
theorem c_B_transferNA (l : Launch) (D : va_G) (G : zg_G) (hG : zw_apart (zb_adr G)) (S : zb_S) (hI : zb_I S) (j : Nat) (hj : j < 6) (a : Int32) : Met l ny_B_transfer (Cond.code ny_B_transfer nc_B_transfer 4 none :: zw_big) ({ frames := 0, cells := 0, slots := 0, locals := 0 } : Room) (zw_P [.ref (zg_bnk G), .null, .ref (zg_acc G j), .int a] D (zb_tys G) (zb_cells G S)) (zb_Qv D G (zb_transfer S none (some j) a)) 0 0 (zb_Ad G) := by
  refine Met.ofW (cc := nc_B_transfer) (maxL := 4) (ret := none) (by decide) rfl ?_
  intro p e s m args below meth c s₁ B hml hv
  obtain ⟨rfl, hP, hK⟩ := hv
  have hx := B.exec
  have hb := B.bytes
  have hr := B.returns
  have hts0 := atoms_spec (ws := Cond.code ny_B_transfer nc_B_transfer 4 none :: zw_big) B.pre
  have hts : ∀ w ∈ zw_big, w.before [.ref (zg_bnk G), .null, .ref (zg_acc G j), .int a].toArray s = true := fun w h => hts0 w (List.mem_cons_of_mem _ h)
  have hown : s.vm.findClass nR_B = some m.cls := findClass_of_methodNamed B.named
  have hlk := B.notSynchronized
  have hS : va_S (zb_Ad G) s.heap s.heap [] := va_S.rf
  have hl := lv_entry ([.ref (zg_bnk G), .null, .ref (zg_acc G j), .int a]) (n := 4) (Nat.le_of_ble_eq_true rfl)
  rw [lg_entry_eq]
  generalize (lg_sl ([.ref (zg_bnk G), .null, .ref (zg_acc G j), .int a]) ++ List.replicate (4 - (lg_sl ([.ref (zg_bnk G), .null, .ref (zg_acc G j), .int a])).length) Slot.unset).toArray = ls at hl ⊢
  have hl : lv_has ls 4 [(0, .ref (zg_bnk G)), (1, .null), (2, .ref (zg_acc G j)), (3, .int a)] := hl
  have hF : CallFix p m c nc_B_transfer 4 s [.ref (zg_bnk G), .null, .ref (zg_acc G j), .int a].toArray zw_big nR_B := ⟨hx, hb, hml, hown, hts⟩
  obtain ⟨cc0, hcc, ecc⟩ := hI.2.2.2.1 j
  refine lv_aload_nN hx hb nd_B_transfer_0 rfl (zv_at hl 1 rfl) ?_
  refine lv_ifnullN (tgt := 18) hx hb nd_B_transfer_1 (by decide) ?_
  refine lv_aload_n hx hb nd_B_transfer_18 rfl (zv_at hl 2 rfl) ?_
  refine lv_ifnull hx hb nd_B_transfer_19 ?_
  refine lv_aload_n hx hb nd_B_transfer_22 rfl (zv_at hl 0 rfl) ?_
  refine zb_getB hx hb hts hown hK hP 5 (by decide) (hts _ nw_160) rfl nd_B_transfer_23 ?_
  refine lv_aload_n hx hb nd_B_transfer_26 rfl (zv_at hl 2 rfl) ?_
  refine zb_getA hx hb hts hown hK hP (by assumption) 1 (by decide) (hts _ nw_76) rfl nd_B_transfer_27 ?_
  refine lv_dup2_11 hx hb nd_B_transfer_30 rfl rfl ?_
  refine zb_ald_csh hx hb hK hP (by show vp_in (zb_cur S j) 3; rw [ecc]; exact vp_in_nI hcc (by decide)) nd_B_transfer_31 ?_
  refine lv_iload_n hx hb nd_B_transfer_32 rfl (zv_at hl 3 rfl) ?_
  refine lv_i2l (v := _) hx hb nd_B_transfer_33 rfl ?_
  refine lv_ladd hx hb nd_B_transfer_34 ?_
  refine zb_ast_csh hx hb hK hG hP hS (by show vp_in (zb_cur S j) 3; rw [ecc]; exact vp_in_nI hcc (by decide)) nd_B_transfer_35 (fun H locs hP hS => ?_)
  refine lv_aload_n hx hb nd_B_transfer_36 rfl (zv_at hl 2 rfl) ?_
  refine lv_ifnull hx hb nd_B_transfer_37 ?_
  refine lv_aload_n hx hb nd_B_transfer_40 rfl (zv_at hl 2 rfl) ?_
  refine lv_dup hx hb nd_B_transfer_41 rfl ?_
  refine zb_getA hx hb hts hown hK hP (by assumption) 5 (by decide) (hts _ nw_84) rfl nd_B_transfer_42 ?_
  refine lv_iload_n hx hb nd_B_transfer_45 rfl (zv_at hl 3 rfl) ?_
  refine lv_i2l (v := _) hx hb nd_B_transfer_46 rfl ?_
  refine lv_ladd hx hb nd_B_transfer_47 ?_
  refine zb_put_bal hx hb hts hown hK hG hP hS (by assumption) (hts _ nw_84) nd_B_transfer_48 (fun H locs hP hS => ?_)
  refine lv_goto (tgt := 72) hx hb nd_B_transfer_51 (by decide) ?_
  refine zb_vret hx hb hr hlk nd_B_transfer_72 hP hS ?_
  all_goals rfl

set_option maxHeartbeats 4000000 in
set_option maxRecDepth 100000 in
theorem c_B_transferAN (l : Launch) (D : va_G) (G : zg_G) (hG : zw_apart (zb_adr G)) (S : zb_S) (hI : zb_I S) (i : Nat) (hi : i < 6) (a : Int32) : Met l ny_B_transfer (Cond.code ny_B_transfer nc_B_transfer 4 none :: zw_big) ({ frames := 0, cells := 0, slots := 0, locals := 0 } : Room) (zw_P [.ref (zg_bnk G), .ref (zg_acc G i), .null, .int a] D (zb_tys G) (zb_cells G S)) (zb_Qv D G (zb_transfer S (some i) none a)) 0 0 (zb_Ad G) := by
  refine Met.ofW (cc := nc_B_transfer) (maxL := 4) (ret := none) (by decide) rfl ?_
  intro p e s m args below meth c s₁ B hml hv
  obtain ⟨rfl, hP, hK⟩ := hv
  have hx := B.exec
  have hb := B.bytes
  have hr := B.returns
  have hts0 := atoms_spec (ws := Cond.code ny_B_transfer nc_B_transfer 4 none :: zw_big) B.pre
  have hts : ∀ w ∈ zw_big, w.before [.ref (zg_bnk G), .ref (zg_acc G i), .null, .int a].toArray s = true := fun w h => hts0 w (List.mem_cons_of_mem _ h)
  have hown : s.vm.findClass nR_B = some m.cls := findClass_of_methodNamed B.named
  have hlk := B.notSynchronized
  have hS : va_S (zb_Ad G) s.heap s.heap [] := va_S.rf
  have hl := lv_entry ([.ref (zg_bnk G), .ref (zg_acc G i), .null, .int a]) (n := 4) (Nat.le_of_ble_eq_true rfl)
  rw [lg_entry_eq]
  generalize (lg_sl ([.ref (zg_bnk G), .ref (zg_acc G i), .null, .int a]) ++ List.replicate (4 - (lg_sl ([.ref (zg_bnk G), .ref (zg_acc G i), .null, .int a])).length) Slot.unset).toArray = ls at hl ⊢
  have hl : lv_has ls 4 [(0, .ref (zg_bnk G)), (1, .ref (zg_acc G i)), (2, .null), (3, .int a)] := hl
  have hF : CallFix p m c nc_B_transfer 4 s [.ref (zg_bnk G), .ref (zg_acc G i), .null, .int a].toArray zw_big nR_B := ⟨hx, hb, hml, hown, hts⟩
  obtain ⟨cc0, hcc, ecc⟩ := hI.2.2.2.1 i
  refine lv_aload_n hx hb nd_B_transfer_0 rfl (zv_at hl 1 rfl) ?_
  refine lv_ifnull hx hb nd_B_transfer_1 ?_
  refine lv_aload_n hx hb nd_B_transfer_4 rfl (zv_at hl 1 rfl) ?_
  refine lv_dup hx hb nd_B_transfer_5 rfl ?_
  refine zb_getA hx hb hts hown hK hP (by assumption) 5 (by decide) (hts _ nw_84) rfl nd_B_transfer_6 ?_
  refine lv_iload_n hx hb nd_B_transfer_9 rfl (zv_at hl 3 rfl) ?_
  refine lv_i2l (v := _) hx hb nd_B_transfer_10 rfl ?_
  refine lv_lsub hx hb nd_B_transfer_11 ?_
  refine zb_put_bal hx hb hts hown hK hG hP hS (by assumption) (hts _ nw_84) nd_B_transfer_12 (fun H locs hP hS => ?_)
  refine lv_goto (tgt := 36) hx hb nd_B_transfer_15 (by decide) ?_
  refine lv_aload_nN hx hb nd_B_transfer_36 rfl (zv_at hl 2 rfl) ?_
  refine lv_ifnullN (tgt := 54) hx hb nd_B_transfer_37 (by decide) ?_
  refine lv_aload_n hx hb nd_B_transfer_54 rfl (zv_at hl 1 rfl) ?_
  refine lv_ifnull hx hb nd_B_transfer_55 ?_
  refine lv_aload_n hx hb nd_B_transfer_58 rfl (zv_at hl 0 rfl) ?_
  refine zb_getB hx hb hts hown hK hP 5 (by decide) (hts _ nw_160) rfl nd_B_transfer_59 ?_
  refine lv_aload_n hx hb nd_B_transfer_62 rfl (zv_at hl 1 rfl) ?_
  refine zb_getA hx hb hts hown hK hP (by assumption) 1 (by decide) (hts _ nw_76) rfl nd_B_transfer_63 ?_
  refine lv_dup2_11 hx hb nd_B_transfer_66 rfl rfl ?_
  refine zb_ald_csh hx hb hK hP (by show vp_in (zb_cur S i) 3; rw [ecc]; exact vp_in_nI hcc (by decide)) nd_B_transfer_67 ?_
  refine lv_iload_n hx hb nd_B_transfer_68 rfl (zv_at hl 3 rfl) ?_
  refine lv_i2l (v := _) hx hb nd_B_transfer_69 rfl ?_
  refine lv_lsub hx hb nd_B_transfer_70 ?_
  refine zb_ast_csh hx hb hK hG hP hS (by show vp_in (zb_cur S i) 3; rw [ecc]; exact vp_in_nI hcc (by decide)) nd_B_transfer_71 (fun H locs hP hS => ?_)
  refine zb_vret hx hb hr hlk nd_B_transfer_72 hP hS ?_
  all_goals rfl

set_option maxHeartbeats 4000000 in
set_option maxRecDepth 100000 in
theorem c_B_transferAA (l : Launch) (D : va_G) (G : zg_G) (hG : zw_apart (zb_adr G)) (S : zb_S) (hI : zb_I S) (i : Nat) (hi : i < 6) (j : Nat) (hj : j < 6) (a : Int32) : Met l ny_B_transfer (Cond.code ny_B_transfer nc_B_transfer 4 none :: zw_big) ({ frames := 0, cells := 0, slots := 0, locals := 0 } : Room) (zw_P [.ref (zg_bnk G), .ref (zg_acc G i), .ref (zg_acc G j), .int a] D (zb_tys G) (zb_cells G S)) (zb_Qv D G (zb_transfer S (some i) (some j) a)) 0 0 (zb_Ad G) := by
  refine Met.ofW (cc := nc_B_transfer) (maxL := 4) (ret := none) (by decide) rfl ?_
  intro p e s m args below meth c s₁ B hml hv
  obtain ⟨rfl, hP, hK⟩ := hv
  have hx := B.exec
  have hb := B.bytes
  have hr := B.returns
  have hts0 := atoms_spec (ws := Cond.code ny_B_transfer nc_B_transfer 4 none :: zw_big) B.pre
  have hts : ∀ w ∈ zw_big, w.before [.ref (zg_bnk G), .ref (zg_acc G i), .ref (zg_acc G j), .int a].toArray s = true := fun w h => hts0 w (List.mem_cons_of_mem _ h)
  have hown : s.vm.findClass nR_B = some m.cls := findClass_of_methodNamed B.named
  have hlk := B.notSynchronized
  have hS : va_S (zb_Ad G) s.heap s.heap [] := va_S.rf
  have hl := lv_entry ([.ref (zg_bnk G), .ref (zg_acc G i), .ref (zg_acc G j), .int a]) (n := 4) (Nat.le_of_ble_eq_true rfl)
  rw [lg_entry_eq]
  generalize (lg_sl ([.ref (zg_bnk G), .ref (zg_acc G i), .ref (zg_acc G j), .int a]) ++ List.replicate (4 - (lg_sl ([.ref (zg_bnk G), .ref (zg_acc G i), .ref (zg_acc G j), .int a])).length) Slot.unset).toArray = ls at hl ⊢
  have hl : lv_has ls 4 [(0, .ref (zg_bnk G)), (1, .ref (zg_acc G i)), (2, .ref (zg_acc G j)), (3, .int a)] := hl
  have hF : CallFix p m c nc_B_transfer 4 s [.ref (zg_bnk G), .ref (zg_acc G i), .ref (zg_acc G j), .int a].toArray zw_big nR_B := ⟨hx, hb, hml, hown, hts⟩
  refine lv_aload_n hx hb nd_B_transfer_0 rfl (zv_at hl 1 rfl) ?_
  refine lv_ifnull hx hb nd_B_transfer_1 ?_
  refine lv_aload_n hx hb nd_B_transfer_4 rfl (zv_at hl 1 rfl) ?_
  refine lv_dup hx hb nd_B_transfer_5 rfl ?_
  refine zb_getA hx hb hts hown hK hP (by assumption) 5 (by decide) (hts _ nw_84) rfl nd_B_transfer_6 ?_
  refine lv_iload_n hx hb nd_B_transfer_9 rfl (zv_at hl 3 rfl) ?_
  refine lv_i2l (v := _) hx hb nd_B_transfer_10 rfl ?_
  refine lv_lsub hx hb nd_B_transfer_11 ?_
  refine zb_put_bal hx hb hts hown hK hG hP hS (by assumption) (hts _ nw_84) nd_B_transfer_12 (fun H locs hP hS => ?_)
  refine lv_goto (tgt := 36) hx hb nd_B_transfer_15 (by decide) ?_
  refine lv_aload_n hx hb nd_B_transfer_36 rfl (zv_at hl 2 rfl) ?_
  refine lv_ifnull hx hb nd_B_transfer_37 ?_
  refine lv_aload_n hx hb nd_B_transfer_40 rfl (zv_at hl 2 rfl) ?_
  refine lv_dup hx hb nd_B_transfer_41 rfl ?_
  refine zb_getA hx hb hts hown hK hP (by assumption) 5 (by decide) (hts _ nw_84) rfl nd_B_transfer_42 ?_
  refine lv_iload_n hx hb nd_B_transfer_45 rfl (zv_at hl 3 rfl) ?_
  refine lv_i2l (v := _) hx hb nd_B_transfer_46 rfl ?_
  refine lv_ladd hx hb nd_B_transfer_47 ?_
  refine zb_put_bal hx hb hts hown hK hG hP hS (by assumption) (hts _ nw_84) nd_B_transfer_48 (fun H locs hP hS => ?_)
  refine lv_goto (tgt := 72) hx hb nd_B_transfer_51 (by decide) ?_
  refine zb_vret hx hb hr hlk nd_B_transfer_72 hP hS ?_
  all_goals rfl
