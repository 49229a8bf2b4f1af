/-! THE LAW: its cases, the rest. Written by mk_law.py. -/
section ZLW
variable {p : Program} {l : Launch} {e : Env} {s : State} {m : MethodId} {below : List Frame} {meth : Method} {c : Code} {H : Heap} {locs : List Loc} {cells slots : Nat} {Q : State → Prop}
variable {ls : Array Slot} {b L i : Nat} {xs : Nat → Int32} {D : va_G} {G : zg_G} {K : zh_G} {T : zm_S} {Y : zm_Y} {du pd : Nat → Int32}
set_option maxHeartbeats 4000000 in
set_option maxRecDepth 100000 in
theorem zl_balance (F : CallFix p m c nc_L_law 4 s #[Value.ref b] zw_big "DayEndBankLaw") (hX : va_X b L xs s s.heap) (hbl : b < s.heap.size) (hL : L ≤ 2560) (hF : zl_F D G K s) (hi : 5 * i + 5 ≤ L) (hJ : zs_J T (31 * i)) (hPb : va_P D vwCl (zb_cells G (zs_B T du pd)) H) (hPm : va_P D vwCl (zm_cells K T Y) H) (hS : va_S (zl_A s) s.heap H locs) (hl : lv_has ls 4 (zl_l b G K i)) (hcs : cells ≤ 600000 ∧ slots ≤ 7302250)
    (kk : ∀ (T1 : zm_S) (Y1 : zm_Y) (du1 pd1 : Nat → Int32) (H1 : Heap) (locs1 : List Loc), zs_J T1 (31 * (i + 1)) → va_P D vwCl (zb_cells G (zs_B T1 du1 pd1)) H1 → va_P D vwCl (zm_cells K T1 Y1) H1 → va_S (zl_A s) s.heap H1 locs1 → W p l e room_1 s m #[Value.ref b] below meth c H1 locs1 cells slots Q (F0 m 692 ls [])) : W p l e room_1 s m #[Value.ref b] below meth c H locs cells slots Q (F0 m 458 ls []) := by
  have hx := F.1
  have hb := F.2.1
  refine lv_aload_n hx hb nd_L_law_458 rfl (zv_at hl 1 rfl) ?_
  refine zl_arg F hX hbl hL hS hl (j := 1) (by omega) (by decide) nd_L_law_459 nd_L_law_460 nd_L_law_461 nd_L_law_462 nd_L_law_463 ?_
  refine zw_vR (As := [.int (xs (5 * i + 1))]) (rest := []) F (c_B_balance l D G (zs_B T du pd) (zs_I_b hJ.1 du pd) (xs (5 * i + 1))) (zw_preV hPb hF.2.2.2.2.2.1 (q0 := 0) (ci := 0) rfl rfl rfl) nk_B_balance nw_412 ⟨rfl, rfl, Nat.le_of_ble_eq_true rfl, Nat.le_of_ble_eq_true rfl⟩ rfl hl.1 rfl (Nat.le_of_ble_eq_true rfl) hcs nd_L_law_464 ?_
  rw [zs_balance hJ.1]
  refine lv_aload_n hx hb nd_L_law_467 rfl (zv_at hl 2 rfl) ?_
  refine zl_arg F hX hbl hL hS hl (j := 1) (by omega) (by decide) nd_L_law_468 nd_L_law_469 nd_L_law_470 nd_L_law_471 nd_L_law_472 ?_
  refine zw_vR (As := [.int (xs (5 * i + 1))]) F (c_M_balance l D K T Y (xs (5 * i + 1)) (zs_I_m hJ.1)) (zw_preV hPm hF.2.2.2.2.2.2 (q0 := 0) (ci := 6) rfl rfl rfl) nk_M_balance nw_694 ⟨rfl, rfl, Nat.le_of_ble_eq_true rfl, Nat.le_of_ble_eq_true rfl⟩ rfl hl.1 rfl (Nat.le_of_ble_eq_true rfl) hcs nd_L_law_473 ?_
  refine W.lcmp hx hb nd_L_law_476 ?_
  exact lv_if_eq (tgt := 692) hx hb nd_L_law_477 (by decide) (fun _ => kk _ _ _ _ _ _ (zs_J_mono hJ (by omega)) hPb hPm hS) (fun h => absurd ((lg_cmp_eq _ _).mpr rfl) h)
set_option maxHeartbeats 4000000 in
set_option maxRecDepth 100000 in
theorem zl_available (F : CallFix p m c nc_L_law 4 s #[Value.ref b] zw_big "DayEndBankLaw") (hX : va_X b L xs s s.heap) (hbl : b < s.heap.size) (hL : L ≤ 2560) (hF : zl_F D G K s) (hi : 5 * i + 5 ≤ L) (hJ : zs_J T (31 * i)) (hPb : va_P D vwCl (zb_cells G (zs_B T du pd)) H) (hPm : va_P D vwCl (zm_cells K T Y) H) (hS : va_S (zl_A s) s.heap H locs) (hl : lv_has ls 4 (zl_l b G K i)) (hcs : cells ≤ 600000 ∧ slots ≤ 7302250)
    (kk : ∀ (T1 : zm_S) (Y1 : zm_Y) (du1 pd1 : Nat → Int32) (H1 : Heap) (locs1 : List Loc), zs_J T1 (31 * (i + 1)) → va_P D vwCl (zb_cells G (zs_B T1 du1 pd1)) H1 → va_P D vwCl (zm_cells K T1 Y1) H1 → va_S (zl_A s) s.heap H1 locs1 → W p l e room_1 s m #[Value.ref b] below meth c H1 locs1 cells slots Q (F0 m 692 ls [])) : W p l e room_1 s m #[Value.ref b] below meth c H locs cells slots Q (F0 m 482 ls []) := by
  have hx := F.1
  have hb := F.2.1
  refine lv_aload_n hx hb nd_L_law_482 rfl (zv_at hl 1 rfl) ?_
  refine zl_arg F hX hbl hL hS hl (j := 1) (by omega) (by decide) nd_L_law_483 nd_L_law_484 nd_L_law_485 nd_L_law_486 nd_L_law_487 ?_
  refine zw_vR (As := [.int (xs (5 * i + 1))]) (rest := []) F (c_B_available l D G (zs_B T du pd) (zs_I_b hJ.1 du pd) (xs (5 * i + 1))) (zw_preV hPb hF.2.2.2.2.2.1 (q0 := 0) (ci := 0) rfl rfl rfl) nk_B_available nw_420 ⟨rfl, rfl, Nat.le_of_ble_eq_true rfl, Nat.le_of_ble_eq_true rfl⟩ rfl hl.1 rfl (Nat.le_of_ble_eq_true rfl) hcs nd_L_law_488 ?_
  rw [zs_avail hJ.1]
  refine lv_aload_n hx hb nd_L_law_491 rfl (zv_at hl 2 rfl) ?_
  refine zl_arg F hX hbl hL hS hl (j := 1) (by omega) (by decide) nd_L_law_492 nd_L_law_493 nd_L_law_494 nd_L_law_495 nd_L_law_496 ?_
  refine zw_vR (As := [.int (xs (5 * i + 1))]) F (c_M_available l D K T Y (xs (5 * i + 1)) (zs_I_m hJ.1)) (zw_preV hPm hF.2.2.2.2.2.2 (q0 := 0) (ci := 6) rfl rfl rfl) nk_M_available nw_698 ⟨rfl, rfl, Nat.le_of_ble_eq_true rfl, Nat.le_of_ble_eq_true rfl⟩ rfl hl.1 rfl (Nat.le_of_ble_eq_true rfl) hcs nd_L_law_497 ?_
  refine W.lcmp hx hb nd_L_law_500 ?_
  exact lv_if_eq (tgt := 692) hx hb nd_L_law_501 (by decide) (fun _ => kk _ _ _ _ _ _ (zs_J_mono hJ (by omega)) hPb hPm hS) (fun h => absurd ((lg_cmp_eq _ _).mpr rfl) h)
set_option maxHeartbeats 4000000 in
set_option maxRecDepth 100000 in
theorem zl_accrued (F : CallFix p m c nc_L_law 4 s #[Value.ref b] zw_big "DayEndBankLaw") (hX : va_X b L xs s s.heap) (hbl : b < s.heap.size) (hL : L ≤ 2560) (hF : zl_F D G K s) (hi : 5 * i + 5 ≤ L) (hJ : zs_J T (31 * i)) (hPb : va_P D vwCl (zb_cells G (zs_B T du pd)) H) (hPm : va_P D vwCl (zm_cells K T Y) H) (hS : va_S (zl_A s) s.heap H locs) (hl : lv_has ls 4 (zl_l b G K i)) (hcs : cells ≤ 600000 ∧ slots ≤ 7302250)
    (kk : ∀ (T1 : zm_S) (Y1 : zm_Y) (du1 pd1 : Nat → Int32) (H1 : Heap) (locs1 : List Loc), zs_J T1 (31 * (i + 1)) → va_P D vwCl (zb_cells G (zs_B T1 du1 pd1)) H1 → va_P D vwCl (zm_cells K T1 Y1) H1 → va_S (zl_A s) s.heap H1 locs1 → W p l e room_1 s m #[Value.ref b] below meth c H1 locs1 cells slots Q (F0 m 692 ls [])) : W p l e room_1 s m #[Value.ref b] below meth c H locs cells slots Q (F0 m 506 ls []) := by
  have hx := F.1
  have hb := F.2.1
  refine lv_aload_n hx hb nd_L_law_506 rfl (zv_at hl 1 rfl) ?_
  refine zl_arg F hX hbl hL hS hl (j := 1) (by omega) (by decide) nd_L_law_507 nd_L_law_508 nd_L_law_509 nd_L_law_510 nd_L_law_511 ?_
  refine zw_vR (As := [.int (xs (5 * i + 1))]) (rest := []) F (c_B_accrued l D G (zs_B T du pd) (zs_I_b hJ.1 du pd) (xs (5 * i + 1))) (zw_preV hPb hF.2.2.2.2.2.1 (q0 := 0) (ci := 0) rfl rfl rfl) nk_B_accrued nw_424 ⟨rfl, rfl, Nat.le_of_ble_eq_true rfl, Nat.le_of_ble_eq_true rfl⟩ rfl hl.1 rfl (Nat.le_of_ble_eq_true rfl) hcs nd_L_law_512 ?_
  rw [zs_accrd hJ.1]
  refine lv_aload_n hx hb nd_L_law_515 rfl (zv_at hl 2 rfl) ?_
  refine zl_arg F hX hbl hL hS hl (j := 1) (by omega) (by decide) nd_L_law_516 nd_L_law_517 nd_L_law_518 nd_L_law_519 nd_L_law_520 ?_
  refine zw_vR (As := [.int (xs (5 * i + 1))]) F (c_M_accrued l D K T Y (xs (5 * i + 1)) (zs_I_m hJ.1)) (zw_preV hPm hF.2.2.2.2.2.2 (q0 := 0) (ci := 6) rfl rfl rfl) nk_M_accrued nw_702 ⟨rfl, rfl, Nat.le_of_ble_eq_true rfl, Nat.le_of_ble_eq_true rfl⟩ rfl hl.1 rfl (Nat.le_of_ble_eq_true rfl) hcs nd_L_law_521 ?_
  refine W.lcmp hx hb nd_L_law_524 ?_
  exact lv_if_eq (tgt := 692) hx hb nd_L_law_525 (by decide) (fun _ => kk _ _ _ _ _ _ (zs_J_mono hJ (by omega)) hPb hPm hS) (fun h => absurd ((lg_cmp_eq _ _).mpr rfl) h)
set_option maxHeartbeats 4000000 in
set_option maxRecDepth 100000 in
theorem zl_mark (F : CallFix p m c nc_L_law 4 s #[Value.ref b] zw_big "DayEndBankLaw") (hX : va_X b L xs s s.heap) (hbl : b < s.heap.size) (hL : L ≤ 2560) (hF : zl_F D G K s) (hi : 5 * i + 5 ≤ L) (hJ : zs_J T (31 * i)) (hPb : va_P D vwCl (zb_cells G (zs_B T du pd)) H) (hPm : va_P D vwCl (zm_cells K T Y) H) (hS : va_S (zl_A s) s.heap H locs) (hl : lv_has ls 4 (zl_l b G K i)) (hcs : cells ≤ 600000 ∧ slots ≤ 7302250)
    (kk : ∀ (T1 : zm_S) (Y1 : zm_Y) (du1 pd1 : Nat → Int32) (H1 : Heap) (locs1 : List Loc), zs_J T1 (31 * (i + 1)) → va_P D vwCl (zb_cells G (zs_B T1 du1 pd1)) H1 → va_P D vwCl (zm_cells K T1 Y1) H1 → va_S (zl_A s) s.heap H1 locs1 → W p l e room_1 s m #[Value.ref b] below meth c H1 locs1 cells slots Q (F0 m 692 ls [])) : W p l e room_1 s m #[Value.ref b] below meth c H locs cells slots Q (F0 m 530 ls []) := by
  have hx := F.1
  have hb := F.2.1
  refine lv_aload_n hx hb nd_L_law_530 rfl (zv_at hl 1 rfl) ?_
  refine zl_arg F hX hbl hL hS hl (j := 1) (by omega) (by decide) nd_L_law_531 nd_L_law_532 nd_L_law_533 nd_L_law_534 nd_L_law_535 ?_
  refine zw_vR (As := [.int (xs (5 * i + 1))]) (rest := []) F (c_B_mark l D G (zs_B T du pd) (zs_I_b hJ.1 du pd) (xs (5 * i + 1))) (zw_preV hPb hF.2.2.2.2.2.1 (q0 := 0) (ci := 0) rfl rfl rfl) nk_B_mark nw_428 ⟨rfl, rfl, Nat.le_of_ble_eq_true rfl, Nat.le_of_ble_eq_true rfl⟩ rfl hl.1 rfl (Nat.le_of_ble_eq_true rfl) hcs nd_L_law_536 ?_
  rw [zs_markC hJ.1]
  refine lv_aload_n hx hb nd_L_law_539 rfl (zv_at hl 2 rfl) ?_
  refine zl_arg F hX hbl hL hS hl (j := 1) (by omega) (by decide) nd_L_law_540 nd_L_law_541 nd_L_law_542 nd_L_law_543 nd_L_law_544 ?_
  refine zw_vR (As := [.int (xs (5 * i + 1))]) F (c_M_mark l D K T Y (xs (5 * i + 1)) (zs_I_m hJ.1)) (zw_preV hPm hF.2.2.2.2.2.2 (q0 := 0) (ci := 6) rfl rfl rfl) nk_M_mark nw_706 ⟨rfl, rfl, Nat.le_of_ble_eq_true rfl, Nat.le_of_ble_eq_true rfl⟩ rfl hl.1 rfl (Nat.le_of_ble_eq_true rfl) hcs nd_L_law_545 ?_
  exact lv_icmp_eq (tgt := 692) hx hb nd_L_law_548 (by decide) (fun _ => kk _ _ _ _ _ _ (zs_J_mono hJ (by omega)) hPb hPm hS) (fun h => absurd rfl h)
set_option maxHeartbeats 4000000 in
set_option maxRecDepth 100000 in
theorem zl_ledger (F : CallFix p m c nc_L_law 4 s #[Value.ref b] zw_big "DayEndBankLaw") (hX : va_X b L xs s s.heap) (hbl : b < s.heap.size) (hL : L ≤ 2560) (hF : zl_F D G K s) (hi : 5 * i + 5 ≤ L) (hJ : zs_J T (31 * i)) (hPb : va_P D vwCl (zb_cells G (zs_B T du pd)) H) (hPm : va_P D vwCl (zm_cells K T Y) H) (hS : va_S (zl_A s) s.heap H locs) (hl : lv_has ls 4 (zl_l b G K i)) (hcs : cells ≤ 600000 ∧ slots ≤ 7302250)
    (kk : ∀ (T1 : zm_S) (Y1 : zm_Y) (du1 pd1 : Nat → Int32) (H1 : Heap) (locs1 : List Loc), zs_J T1 (31 * (i + 1)) → va_P D vwCl (zb_cells G (zs_B T1 du1 pd1)) H1 → va_P D vwCl (zm_cells K T1 Y1) H1 → va_S (zl_A s) s.heap H1 locs1 → W p l e room_1 s m #[Value.ref b] below meth c H1 locs1 cells slots Q (F0 m 692 ls [])) : W p l e room_1 s m #[Value.ref b] below meth c H locs cells slots Q (F0 m 553 ls []) := by
  have hx := F.1
  have hb := F.2.1
  refine lv_aload_n hx hb nd_L_law_553 rfl (zv_at hl 1 rfl) ?_
  refine zl_arg F hX hbl hL hS hl (j := 1) (by omega) (by decide) nd_L_law_554 nd_L_law_555 nd_L_law_556 nd_L_law_557 nd_L_law_558 ?_
  refine zl_arg F hX hbl hL hS hl (j := 2) (by omega) (by decide) nd_L_law_559 nd_L_law_560 nd_L_law_561 nd_L_law_562 nd_L_law_563 ?_
  refine zw_vR (As := [.int (xs (5 * i + 1)), .int (xs (5 * i + 2))]) (rest := []) F (c_B_ledger l D G (zs_B T du pd) (zs_I_b hJ.1 du pd) (xs (5 * i + 1)) (xs (5 * i + 2))) (zw_preV hPb hF.2.2.2.2.2.1 (q0 := 0) (ci := 0) rfl rfl rfl) nk_B_ledger nw_432 ⟨rfl, rfl, Nat.le_of_ble_eq_true rfl, Nat.le_of_ble_eq_true rfl⟩ rfl hl.1 rfl (Nat.le_of_ble_eq_true rfl) hcs nd_L_law_564 ?_
  rw [zs_ledger]
  refine lv_aload_n hx hb nd_L_law_567 rfl (zv_at hl 2 rfl) ?_
  refine zl_arg F hX hbl hL hS hl (j := 1) (by omega) (by decide) nd_L_law_568 nd_L_law_569 nd_L_law_570 nd_L_law_571 nd_L_law_572 ?_
  refine zl_arg F hX hbl hL hS hl (j := 2) (by omega) (by decide) nd_L_law_573 nd_L_law_574 nd_L_law_575 nd_L_law_576 nd_L_law_577 ?_
  refine zw_vR (As := [.int (xs (5 * i + 1)), .int (xs (5 * i + 2))]) F (c_M_ledger l D K T Y (xs (5 * i + 1)) (xs (5 * i + 2)) (zs_I_m hJ.1)) (zw_preV hPm hF.2.2.2.2.2.2 (q0 := 0) (ci := 6) rfl rfl rfl) nk_M_ledger nw_710 ⟨rfl, rfl, Nat.le_of_ble_eq_true rfl, Nat.le_of_ble_eq_true rfl⟩ rfl hl.1 rfl (Nat.le_of_ble_eq_true rfl) hcs nd_L_law_578 ?_
  refine W.lcmp hx hb nd_L_law_581 ?_
  exact lv_if_eq (tgt := 692) hx hb nd_L_law_582 (by decide) (fun _ => kk _ _ _ _ _ _ (zs_J_mono hJ (by omega)) hPb hPm hS) (fun h => absurd ((lg_cmp_eq _ _).mpr rfl) h)
set_option maxHeartbeats 4000000 in
set_option maxRecDepth 100000 in
theorem zl_missed (F : CallFix p m c nc_L_law 4 s #[Value.ref b] zw_big "DayEndBankLaw") (hX : va_X b L xs s s.heap) (hbl : b < s.heap.size) (hL : L ≤ 2560) (hF : zl_F D G K s) (hi : 5 * i + 5 ≤ L) (hJ : zs_J T (31 * i)) (hPb : va_P D vwCl (zb_cells G (zs_B T du pd)) H) (hPm : va_P D vwCl (zm_cells K T Y) H) (hS : va_S (zl_A s) s.heap H locs) (hl : lv_has ls 4 (zl_l b G K i)) (hcs : cells ≤ 600000 ∧ slots ≤ 7302250)
    (kk : ∀ (T1 : zm_S) (Y1 : zm_Y) (du1 pd1 : Nat → Int32) (H1 : Heap) (locs1 : List Loc), zs_J T1 (31 * (i + 1)) → va_P D vwCl (zb_cells G (zs_B T1 du1 pd1)) H1 → va_P D vwCl (zm_cells K T1 Y1) H1 → va_S (zl_A s) s.heap H1 locs1 → W p l e room_1 s m #[Value.ref b] below meth c H1 locs1 cells slots Q (F0 m 692 ls [])) : W p l e room_1 s m #[Value.ref b] below meth c H locs cells slots Q (F0 m 587 ls []) := by
  have hx := F.1
  have hb := F.2.1
  refine lv_aload_n hx hb nd_L_law_587 rfl (zv_at hl 1 rfl) ?_
  refine zl_arg F hX hbl hL hS hl (j := 1) (by omega) (by decide) nd_L_law_588 nd_L_law_589 nd_L_law_590 nd_L_law_591 nd_L_law_592 ?_
  refine zw_vR (As := [.int (xs (5 * i + 1))]) (rest := []) F (c_B_missed l D G (zs_B T du pd) (zs_I_b hJ.1 du pd) (xs (5 * i + 1))) (zw_preV hPb hF.2.2.2.2.2.1 (q0 := 0) (ci := 0) rfl rfl rfl) nk_B_missed nw_440 ⟨rfl, rfl, Nat.le_of_ble_eq_true rfl, Nat.le_of_ble_eq_true rfl⟩ rfl hl.1 rfl (Nat.le_of_ble_eq_true rfl) hcs nd_L_law_593 ?_
  rw [zs_missed hJ.1]
  refine lv_aload_n hx hb nd_L_law_596 rfl (zv_at hl 2 rfl) ?_
  refine zl_arg F hX hbl hL hS hl (j := 1) (by omega) (by decide) nd_L_law_597 nd_L_law_598 nd_L_law_599 nd_L_law_600 nd_L_law_601 ?_
  refine zw_vR (As := [.int (xs (5 * i + 1))]) F (c_M_missed l D K T Y (xs (5 * i + 1)) (zs_I_m hJ.1)) (zw_preV hPm hF.2.2.2.2.2.2 (q0 := 0) (ci := 6) rfl rfl rfl) nk_M_missed nw_714 ⟨rfl, rfl, Nat.le_of_ble_eq_true rfl, Nat.le_of_ble_eq_true rfl⟩ rfl hl.1 rfl (Nat.le_of_ble_eq_true rfl) hcs nd_L_law_602 ?_
  exact lv_icmp_eq (tgt := 692) hx hb nd_L_law_605 (by decide) (fun _ => kk _ _ _ _ _ _ (zs_J_mono hJ (by omega)) hPb hPm hS) (fun h => absurd rfl h)
set_option maxHeartbeats 4000000 in
set_option maxRecDepth 100000 in
theorem zl_today (F : CallFix p m c nc_L_law 4 s #[Value.ref b] zw_big "DayEndBankLaw") (hX : va_X b L xs s s.heap) (hbl : b < s.heap.size) (hL : L ≤ 2560) (hF : zl_F D G K s) (hi : 5 * i + 5 ≤ L) (hJ : zs_J T (31 * i)) (hPb : va_P D vwCl (zb_cells G (zs_B T du pd)) H) (hPm : va_P D vwCl (zm_cells K T Y) H) (hS : va_S (zl_A s) s.heap H locs) (hl : lv_has ls 4 (zl_l b G K i)) (hcs : cells ≤ 600000 ∧ slots ≤ 7302250)
    (kk : ∀ (T1 : zm_S) (Y1 : zm_Y) (du1 pd1 : Nat → Int32) (H1 : Heap) (locs1 : List Loc), zs_J T1 (31 * (i + 1)) → va_P D vwCl (zb_cells G (zs_B T1 du1 pd1)) H1 → va_P D vwCl (zm_cells K T1 Y1) H1 → va_S (zl_A s) s.heap H1 locs1 → W p l e room_1 s m #[Value.ref b] below meth c H1 locs1 cells slots Q (F0 m 692 ls [])) : W p l e room_1 s m #[Value.ref b] below meth c H locs cells slots Q (F0 m 610 ls []) := by
  have hx := F.1
  have hb := F.2.1
  refine lv_aload_n hx hb nd_L_law_610 rfl (zv_at hl 1 rfl) ?_
  refine zw_vR (As := []) (rest := []) F (c_B_today l D G (zs_B T du pd) ) (zw_preV hPb hF.2.2.2.2.2.1 (q0 := 0) (ci := 0) rfl rfl rfl) nk_B_today nw_444 ⟨rfl, rfl, Nat.le_of_ble_eq_true rfl, Nat.le_of_ble_eq_true rfl⟩ rfl hl.1 rfl (Nat.le_of_ble_eq_true rfl) hcs nd_L_law_611 ?_
  rw [zs_today]
  refine lv_aload_n hx hb nd_L_law_614 rfl (zv_at hl 2 rfl) ?_
  refine zw_vR (As := []) F (c_M_today l D K T Y ) (zw_preV hPm hF.2.2.2.2.2.2 (q0 := 0) (ci := 6) rfl rfl rfl) nk_M_today nw_718 ⟨rfl, rfl, Nat.le_of_ble_eq_true rfl, Nat.le_of_ble_eq_true rfl⟩ rfl hl.1 rfl (Nat.le_of_ble_eq_true rfl) hcs nd_L_law_615 ?_
  exact lv_icmp_eq (tgt := 692) hx hb nd_L_law_618 (by decide) (fun _ => kk _ _ _ _ _ _ (zs_J_mono hJ (by omega)) hPb hPm hS) (fun h => absurd rfl h)
set_option maxHeartbeats 4000000 in
set_option maxRecDepth 100000 in
theorem zl_count (F : CallFix p m c nc_L_law 4 s #[Value.ref b] zw_big "DayEndBankLaw") (hX : va_X b L xs s s.heap) (hbl : b < s.heap.size) (hL : L ≤ 2560) (hF : zl_F D G K s) (hi : 5 * i + 5 ≤ L) (hJ : zs_J T (31 * i)) (hPb : va_P D vwCl (zb_cells G (zs_B T du pd)) H) (hPm : va_P D vwCl (zm_cells K T Y) H) (hS : va_S (zl_A s) s.heap H locs) (hl : lv_has ls 4 (zl_l b G K i)) (hcs : cells ≤ 600000 ∧ slots ≤ 7302250)
    (kk : ∀ (T1 : zm_S) (Y1 : zm_Y) (du1 pd1 : Nat → Int32) (H1 : Heap) (locs1 : List Loc), zs_J T1 (31 * (i + 1)) → va_P D vwCl (zb_cells G (zs_B T1 du1 pd1)) H1 → va_P D vwCl (zm_cells K T1 Y1) H1 → va_S (zl_A s) s.heap H1 locs1 → W p l e room_1 s m #[Value.ref b] below meth c H1 locs1 cells slots Q (F0 m 692 ls [])) : W p l e room_1 s m #[Value.ref b] below meth c H locs cells slots Q (F0 m 623 ls []) := by
  have hx := F.1
  have hb := F.2.1
  refine lv_aload_n hx hb nd_L_law_623 rfl (zv_at hl 1 rfl) ?_
  refine zl_arg F hX hbl hL hS hl (j := 1) (by omega) (by decide) nd_L_law_624 nd_L_law_625 nd_L_law_626 nd_L_law_627 nd_L_law_628 ?_
  refine zl_arg F hX hbl hL hS hl (j := 2) (by omega) (by decide) nd_L_law_629 nd_L_law_630 nd_L_law_631 nd_L_law_632 nd_L_law_633 ?_
  refine zl_arg F hX hbl hL hS hl (j := 3) (by omega) (by decide) nd_L_law_634 nd_L_law_635 nd_L_law_636 nd_L_law_637 nd_L_law_638 ?_
  refine zw_vR (As := [.int (xs (5 * i + 1)), .int (xs (5 * i + 2)), .int (xs (5 * i + 3))]) (rest := []) F (c_B_count l D G (zs_B T du pd) (xs (5 * i + 1)) (xs (5 * i + 2)) (xs (5 * i + 3))) (zw_preV hPb hF.2.2.2.2.2.1 (q0 := 0) (ci := 0) rfl rfl rfl) nk_B_count nw_448 ⟨rfl, rfl, Nat.le_of_ble_eq_true rfl, Nat.le_of_ble_eq_true rfl⟩ rfl hl.1 rfl (Nat.le_of_ble_eq_true rfl) hcs nd_L_law_639 ?_
  rw [zs_count]
  refine lv_aload_n hx hb nd_L_law_642 rfl (zv_at hl 2 rfl) ?_
  refine zl_arg F hX hbl hL hS hl (j := 1) (by omega) (by decide) nd_L_law_643 nd_L_law_644 nd_L_law_645 nd_L_law_646 nd_L_law_647 ?_
  refine zl_arg F hX hbl hL hS hl (j := 2) (by omega) (by decide) nd_L_law_648 nd_L_law_649 nd_L_law_650 nd_L_law_651 nd_L_law_652 ?_
  refine zl_arg F hX hbl hL hS hl (j := 3) (by omega) (by decide) nd_L_law_653 nd_L_law_654 nd_L_law_655 nd_L_law_656 nd_L_law_657 ?_
  refine zl_mi (As := [.int (xs (5 * i + 1)), .int (xs (5 * i + 2)), .int (xs (5 * i + 3))]) F hF (c_M_count l D K hF.2.1 T Y (xs (5 * i + 1)) (xs (5 * i + 2)) (xs (5 * i + 3))) hPb hPm rfl nk_M_count nw_722 ⟨rfl, rfl, Nat.le_of_ble_eq_true rfl, Nat.le_of_ble_eq_true rfl⟩ rfl hl.1 rfl (Nat.le_of_ble_eq_true rfl) hcs nd_L_law_658 hS (fun Y1 H1 locs1 hPm hPb hS => ?_)
  dsimp only at hPm ⊢
  exact lv_icmp_eq (tgt := 692) hx hb nd_L_law_661 (by decide) (fun _ => kk _ _ _ _ _ _ (zs_J_mono hJ (by omega)) hPb hPm hS) (fun h => absurd rfl h)
set_option maxHeartbeats 4000000 in
set_option maxRecDepth 100000 in
theorem zl_writes (F : CallFix p m c nc_L_law 4 s #[Value.ref b] zw_big "DayEndBankLaw") (hX : va_X b L xs s s.heap) (hbl : b < s.heap.size) (hL : L ≤ 2560) (hF : zl_F D G K s) (hi : 5 * i + 5 ≤ L) (hJ : zs_J T (31 * i)) (hPb : va_P D vwCl (zb_cells G (zs_B T du pd)) H) (hPm : va_P D vwCl (zm_cells K T Y) H) (hS : va_S (zl_A s) s.heap H locs) (hl : lv_has ls 4 (zl_l b G K i)) (hcs : cells ≤ 600000 ∧ slots ≤ 7302250)
    (kk : ∀ (T1 : zm_S) (Y1 : zm_Y) (du1 pd1 : Nat → Int32) (H1 : Heap) (locs1 : List Loc), zs_J T1 (31 * (i + 1)) → va_P D vwCl (zb_cells G (zs_B T1 du1 pd1)) H1 → va_P D vwCl (zm_cells K T1 Y1) H1 → va_S (zl_A s) s.heap H1 locs1 → W p l e room_1 s m #[Value.ref b] below meth c H1 locs1 cells slots Q (F0 m 692 ls [])) : W p l e room_1 s m #[Value.ref b] below meth c H locs cells slots Q (F0 m 666 ls []) := by
  have hx := F.1
  have hb := F.2.1
  refine lv_aload_n hx hb nd_L_law_666 rfl (zv_at hl 1 rfl) ?_
  refine zw_vR (As := []) (rest := []) F (c_B_writes l D G (zs_B T du pd) ) (zw_preV hPb hF.2.2.2.2.2.1 (q0 := 0) (ci := 0) rfl rfl rfl) nk_B_writes nw_453 ⟨rfl, rfl, Nat.le_of_ble_eq_true rfl, Nat.le_of_ble_eq_true rfl⟩ rfl hl.1 rfl (Nat.le_of_ble_eq_true rfl) hcs nd_L_law_667 ?_
  rw [zs_writes]
  refine lv_aload_n hx hb nd_L_law_670 rfl (zv_at hl 2 rfl) ?_
  refine zw_vR (As := []) F (c_M_writes l D K T Y ) (zw_preV hPm hF.2.2.2.2.2.2 (q0 := 0) (ci := 6) rfl rfl rfl) nk_M_writes nw_727 ⟨rfl, rfl, Nat.le_of_ble_eq_true rfl, Nat.le_of_ble_eq_true rfl⟩ rfl hl.1 rfl (Nat.le_of_ble_eq_true rfl) hcs nd_L_law_671 ?_
  exact lv_icmp_eq (tgt := 692) hx hb nd_L_law_674 (by decide) (fun _ => kk _ _ _ _ _ _ (zs_J_mono hJ (by omega)) hPb hPm hS) (fun h => absurd rfl h)
set_option maxHeartbeats 4000000 in
set_option maxRecDepth 100000 in
theorem zl_lines (F : CallFix p m c nc_L_law 4 s #[Value.ref b] zw_big "DayEndBankLaw") (hX : va_X b L xs s s.heap) (hbl : b < s.heap.size) (hL : L ≤ 2560) (hF : zl_F D G K s) (hi : 5 * i + 5 ≤ L) (hJ : zs_J T (31 * i)) (hPb : va_P D vwCl (zb_cells G (zs_B T du pd)) H) (hPm : va_P D vwCl (zm_cells K T Y) H) (hS : va_S (zl_A s) s.heap H locs) (hl : lv_has ls 4 (zl_l b G K i)) (hcs : cells ≤ 600000 ∧ slots ≤ 7302250)
    (kk : ∀ (T1 : zm_S) (Y1 : zm_Y) (du1 pd1 : Nat → Int32) (H1 : Heap) (locs1 : List Loc), zs_J T1 (31 * (i + 1)) → va_P D vwCl (zb_cells G (zs_B T1 du1 pd1)) H1 → va_P D vwCl (zm_cells K T1 Y1) H1 → va_S (zl_A s) s.heap H1 locs1 → W p l e room_1 s m #[Value.ref b] below meth c H1 locs1 cells slots Q (F0 m 692 ls [])) : W p l e room_1 s m #[Value.ref b] below meth c H locs cells slots Q (F0 m 679 ls []) := by
  have hx := F.1
  have hb := F.2.1
  refine lv_aload_n hx hb nd_L_law_679 rfl (zv_at hl 1 rfl) ?_
  refine zw_vR (As := []) (rest := []) F (c_B_lines l D G (zs_B T du pd) ) (zw_preV hPb hF.2.2.2.2.2.1 (q0 := 0) (ci := 0) rfl rfl rfl) nk_B_lines nw_457 ⟨rfl, rfl, Nat.le_of_ble_eq_true rfl, Nat.le_of_ble_eq_true rfl⟩ rfl hl.1 rfl (Nat.le_of_ble_eq_true rfl) hcs nd_L_law_680 ?_
  rw [zs_linesC]
  refine lv_aload_n hx hb nd_L_law_683 rfl (zv_at hl 2 rfl) ?_
  refine zw_vR (As := []) F (c_M_lines l D K T Y ) (zw_preV hPm hF.2.2.2.2.2.2 (q0 := 0) (ci := 6) rfl rfl rfl) nk_M_lines nw_731 ⟨rfl, rfl, Nat.le_of_ble_eq_true rfl, Nat.le_of_ble_eq_true rfl⟩ rfl hl.1 rfl (Nat.le_of_ble_eq_true rfl) hcs nd_L_law_684 ?_
  exact lv_icmp_eq (tgt := 692) hx hb nd_L_law_687 (by decide) (fun _ => kk _ _ _ _ _ _ (zs_J_mono hJ (by omega)) hPb hPm hS) (fun h => absurd rfl h)
end ZLW
