/-! CONSTRUCTORS: the reference. Written by mk_minit.py. -/
theorem nx_109 : Cond.arrayClass .long ∈ zw_big := zw_mem (List.mem_append_left _ (List.mem_of_getElem? (i := 109) (by decide +kernel))) (by decide +kernel)
theorem nw_466 : Cond.methodLink "DayEndBankModel" 1 objectInit ∈ zw_big := zw_mem (List.mem_append_right _ (List.mem_append_left _ (List.mem_of_getElem? (i := 226) (by decide +kernel)))) (by decide +kernel)
def zm_new (a : Nat) : va_W := [(a, .inr (6, [.int 0, .null, .null, .null, .null, .null, .null, .null, .null, .null, .int 0, .null, .null, .null, .null, .null, .int 0, .null, .null, .null, .int 0, .int 0, .int 0, .int 0, .int 0, .int 0, .int 0, .int 0, .int 0, .int 0, .int 0]))]
set_option maxHeartbeats 8000000 in
set_option maxRecDepth 100000 in
theorem c_M_init (l : Launch) (D : va_G) (a sz : Nat) : Met l ny_M_init (Cond.code ny_M_init nc_M_init 1 none :: zw_big) ({ frames := 1, cells := 17, slots := 108, locals := 12 } : Room) (va_Pc [.ref a] (fun U => U.heap.size = sz ∧ va_P D vwCl (zm_new a) U.heap ∧ va_K D vwCl [] U ∧ va_D (fun _ => True) (zm_new a)))
    (va_Qv (fun G : zh_G => zh_mdl G = a) (fun G t => va_P D vwCl (zm_cells G zm_T0 (0, 0, 0)) t.heap ∧ va_K D vwCl (zm_tys G) t ∧ va_D (va_A (zm_new a) sz) (zm_cells G zm_T0 (0, 0, 0))) (va_A (zm_new a) sz)) 17 108 (va_A (zm_new a) sz) := by
  refine Met.ofW (cc := nc_M_init) (maxL := 1) (ret := none) (by decide) rfl ?_
  intro p e s m args below meth c s₁ B hml hv
  obtain ⟨rfl, hsz, hP, hK, hD0⟩ := hv
  have hx := B.exec
  have hb := B.bytes
  have hr := B.returns
  have hts0 := atoms_spec (ws := Cond.code ny_M_init nc_M_init 1 none :: zw_big) B.pre
  have hts : ∀ w ∈ zw_big, w.before [.ref a].toArray s = true := fun w h => hts0 w (List.mem_cons_of_mem _ h)
  have hown : s.vm.findClass "DayEndBankModel" = some m.cls := findClass_of_methodNamed B.named
  have hlk := B.notSynchronized
  have hin : meth.name = "<init>" := (name_of_methodNamed B.named B.method).1
  subst hsz
  have hD := hD0.self (sz := s.heap.size)
  generalize hAe : va_A (zm_new a) s.heap.size = A at hD ⊢
  have hA : ∀ q : Nat, s.heap.size ≤ q → A q := fun q h => by rw [← hAe]; exact Or.inr h
  have hS : va_S A s.heap s.heap [] := va_S.rf
  have hl := lv_entry ([.ref a]) (n := 1) (Nat.le_of_ble_eq_true rfl)
  rw [lg_entry_eq]
  generalize (lg_sl ([.ref a]) ++ List.replicate (1 - (lg_sl ([.ref a])).length) Slot.unset).toArray = ls at hl ⊢
  have hl : lv_has ls 1 [(0, .ref a)] := hl
  refine lv_aload_n hx hb nd_M_init_0 rfl (zv_at hl 0 rfl) ?_
  refine W.objInit hx hb hown (hts _ nw_466) (hts _ nw_17) (hts _ nw_18) rfl (by rw [hml]; exact hl.1) rfl nd_M_init_1 (Nat.le_of_ble_eq_true rfl) (Nat.le_of_ble_eq_true rfl) ?_
  refine W.eq (g2 := F0 m 4 ls []) rfl ?_
  refine lv_aload_n hx hb nd_M_init_4 rfl (zv_at hl 0 rfl) ?_
  refine lv_bipush (v := 6) hx hb nd_M_init_5 (by decide) ?_
  refine va_newa (atype := .int) (ty := .int) (N' := 6) (a0 := (6, .inl zs_z)) hx hb (hts _ nx_38) rfl hK hP hD hS hA (fun _ => rfl) (by decide) (by decide) (by decide) (Nat.le_of_ble_eq_true rfl) (Nat.le_of_ble_eq_true rfl) nd_M_init_7 (fun q1 c1 H1 hK hP hD hS => ?_)
  refine va_putF (ci := 6) (C := nR_M) (T := nT_M) (N := 31) (ty := .array .int) hx hb hts zw_inM nt_M zw_tyM zw_nmM hown hK hP hD hS 0 rfl rfl 1 (by decide) (hts _ nw_468) (fun _ h => h) rfl hin rfl (by decide +kernel) rfl rfl (Nat.le_of_ble_eq_true rfl) nd_M_init_9 (fun H2 locs2 hP hD hS => ?_)
  refine lv_aload_n hx hb nd_M_init_12 rfl (zv_at hl 0 rfl) ?_
  refine lv_bipush (v := 6) hx hb nd_M_init_13 (by decide) ?_
  refine va_newa (atype := .int) (ty := .int) (N' := 6) (a0 := (6, .inl zs_z)) hx hb (hts _ nx_38) rfl hK hP hD hS hA (fun _ => rfl) (by decide) (by decide) (by decide) (Nat.le_of_ble_eq_true rfl) (Nat.le_of_ble_eq_true rfl) nd_M_init_15 (fun q2 c2 H1 hK hP hD hS => ?_)
  obtain rfl : c2 = c1 := Option.some.inj ((hK.2 1 _ rfl).2.symm.trans (hK.2 0 _ rfl).2)
  refine va_putF (ci := 6) (C := nR_M) (T := nT_M) (N := 31) (ty := .array .int) hx hb hts zw_inM nt_M zw_tyM zw_nmM hown hK hP hD hS 0 rfl rfl 2 (by decide) (hts _ nw_469) (fun _ h => h) rfl hin rfl (by decide +kernel) rfl rfl (Nat.le_of_ble_eq_true rfl) nd_M_init_17 (fun H2 locs2 hP hD hS => ?_)
  refine lv_aload_n hx hb nd_M_init_20 rfl (zv_at hl 0 rfl) ?_
  refine lv_bipush (v := 6) hx hb nd_M_init_21 (by decide) ?_
  refine va_newa (atype := .int) (ty := .int) (N' := 6) (a0 := (6, .inl zs_z)) hx hb (hts _ nx_38) rfl hK hP hD hS hA (fun _ => rfl) (by decide) (by decide) (by decide) (Nat.le_of_ble_eq_true rfl) (Nat.le_of_ble_eq_true rfl) nd_M_init_23 (fun q3 c3 H1 hK hP hD hS => ?_)
  obtain rfl : c3 = c1 := Option.some.inj ((hK.2 2 _ rfl).2.symm.trans (hK.2 0 _ rfl).2)
  refine va_putF (ci := 6) (C := nR_M) (T := nT_M) (N := 31) (ty := .array .int) hx hb hts zw_inM nt_M zw_tyM zw_nmM hown hK hP hD hS 0 rfl rfl 3 (by decide) (hts _ nw_470) (fun _ h => h) rfl hin rfl (by decide +kernel) rfl rfl (Nat.le_of_ble_eq_true rfl) nd_M_init_25 (fun H2 locs2 hP hD hS => ?_)
  refine lv_aload_n hx hb nd_M_init_28 rfl (zv_at hl 0 rfl) ?_
  refine lv_bipush (v := 6) hx hb nd_M_init_29 (by decide) ?_
  refine va_newa (atype := .int) (ty := .int) (N' := 6) (a0 := (6, .inl zs_z)) hx hb (hts _ nx_38) rfl hK hP hD hS hA (fun _ => rfl) (by decide) (by decide) (by decide) (Nat.le_of_ble_eq_true rfl) (Nat.le_of_ble_eq_true rfl) nd_M_init_31 (fun q4 c4 H1 hK hP hD hS => ?_)
  obtain rfl : c4 = c1 := Option.some.inj ((hK.2 3 _ rfl).2.symm.trans (hK.2 0 _ rfl).2)
  refine va_putF (ci := 6) (C := nR_M) (T := nT_M) (N := 31) (ty := .array .int) hx hb hts zw_inM nt_M zw_tyM zw_nmM hown hK hP hD hS 0 rfl rfl 4 (by decide) (hts _ nw_471) (fun _ h => h) rfl hin rfl (by decide +kernel) rfl rfl (Nat.le_of_ble_eq_true rfl) nd_M_init_33 (fun H2 locs2 hP hD hS => ?_)
  refine lv_aload_n hx hb nd_M_init_36 rfl (zv_at hl 0 rfl) ?_
  refine lv_bipush (v := 6) hx hb nd_M_init_37 (by decide) ?_
  refine va_newa (atype := .int) (ty := .int) (N' := 6) (a0 := (6, .inl zs_z)) hx hb (hts _ nx_38) rfl hK hP hD hS hA (fun _ => rfl) (by decide) (by decide) (by decide) (Nat.le_of_ble_eq_true rfl) (Nat.le_of_ble_eq_true rfl) nd_M_init_39 (fun q5 c5 H1 hK hP hD hS => ?_)
  obtain rfl : c5 = c1 := Option.some.inj ((hK.2 4 _ rfl).2.symm.trans (hK.2 0 _ rfl).2)
  refine va_putF (ci := 6) (C := nR_M) (T := nT_M) (N := 31) (ty := .array .int) hx hb hts zw_inM nt_M zw_tyM zw_nmM hown hK hP hD hS 0 rfl rfl 5 (by decide) (hts _ nw_472) (fun _ h => h) rfl hin rfl (by decide +kernel) rfl rfl (Nat.le_of_ble_eq_true rfl) nd_M_init_41 (fun H2 locs2 hP hD hS => ?_)
  refine lv_aload_n hx hb nd_M_init_44 rfl (zv_at hl 0 rfl) ?_
  refine lv_bipush (v := 6) hx hb nd_M_init_45 (by decide) ?_
  refine va_newa (atype := .long) (ty := .long) (N' := 6) (a0 := (6, .inr (.inl zs_zL))) hx hb (hts _ nx_109) rfl hK hP hD hS hA (fun _ => rfl) (by decide) (by decide) (by decide) (Nat.le_of_ble_eq_true rfl) (Nat.le_of_ble_eq_true rfl) nd_M_init_47 (fun q6 c6 H1 hK hP hD hS => ?_)
  refine va_putF (ci := 6) (C := nR_M) (T := nT_M) (N := 31) (ty := .array .long) hx hb hts zw_inM nt_M zw_tyM zw_nmM hown hK hP hD hS 0 rfl rfl 6 (by decide) (hts _ nw_473) (fun _ h => h) rfl hin rfl (by decide +kernel) rfl rfl (Nat.le_of_ble_eq_true rfl) nd_M_init_49 (fun H2 locs2 hP hD hS => ?_)
  refine lv_aload_n hx hb nd_M_init_52 rfl (zv_at hl 0 rfl) ?_
  refine lv_bipush (v := 6) hx hb nd_M_init_53 (by decide) ?_
  refine va_newa (atype := .long) (ty := .long) (N' := 6) (a0 := (6, .inr (.inl zs_zL))) hx hb (hts _ nx_109) rfl hK hP hD hS hA (fun _ => rfl) (by decide) (by decide) (by decide) (Nat.le_of_ble_eq_true rfl) (Nat.le_of_ble_eq_true rfl) nd_M_init_55 (fun q7 c7 H1 hK hP hD hS => ?_)
  obtain rfl : c7 = c6 := Option.some.inj ((hK.2 6 _ rfl).2.symm.trans (hK.2 5 _ rfl).2)
  refine va_putF (ci := 6) (C := nR_M) (T := nT_M) (N := 31) (ty := .array .long) hx hb hts zw_inM nt_M zw_tyM zw_nmM hown hK hP hD hS 0 rfl rfl 7 (by decide) (hts _ nw_474) (fun _ h => h) rfl hin rfl (by decide +kernel) rfl rfl (Nat.le_of_ble_eq_true rfl) nd_M_init_57 (fun H2 locs2 hP hD hS => ?_)
  refine lv_aload_n hx hb nd_M_init_60 rfl (zv_at hl 0 rfl) ?_
  refine lv_bipush (v := 8) hx hb nd_M_init_61 (by decide) ?_
  refine va_newa (atype := .int) (ty := .int) (N' := 8) (a0 := (8, .inl zs_z)) hx hb (hts _ nx_38) rfl hK hP hD hS hA (fun _ => rfl) (by decide) (by decide) (by decide) (Nat.le_of_ble_eq_true rfl) (Nat.le_of_ble_eq_true rfl) nd_M_init_63 (fun q8 c8 H1 hK hP hD hS => ?_)
  obtain rfl : c8 = c1 := Option.some.inj ((hK.2 7 _ rfl).2.symm.trans (hK.2 0 _ rfl).2)
  refine va_putF (ci := 6) (C := nR_M) (T := nT_M) (N := 31) (ty := .array .int) hx hb hts zw_inM nt_M zw_tyM zw_nmM hown hK hP hD hS 0 rfl rfl 8 (by decide) (hts _ nw_475) (fun _ h => h) rfl hin rfl (by decide +kernel) rfl rfl (Nat.le_of_ble_eq_true rfl) nd_M_init_65 (fun H2 locs2 hP hD hS => ?_)
  refine lv_aload_n hx hb nd_M_init_68 rfl (zv_at hl 0 rfl) ?_
  refine lv_bipush (v := 8) hx hb nd_M_init_69 (by decide) ?_
  refine va_newa (atype := .int) (ty := .int) (N' := 8) (a0 := (8, .inl zs_z)) hx hb (hts _ nx_38) rfl hK hP hD hS hA (fun _ => rfl) (by decide) (by decide) (by decide) (Nat.le_of_ble_eq_true rfl) (Nat.le_of_ble_eq_true rfl) nd_M_init_71 (fun q9 c9 H1 hK hP hD hS => ?_)
  obtain rfl : c9 = c1 := Option.some.inj ((hK.2 8 _ rfl).2.symm.trans (hK.2 0 _ rfl).2)
  refine va_putF (ci := 6) (C := nR_M) (T := nT_M) (N := 31) (ty := .array .int) hx hb hts zw_inM nt_M zw_tyM zw_nmM hown hK hP hD hS 0 rfl rfl 9 (by decide) (hts _ nw_476) (fun _ h => h) rfl hin rfl (by decide +kernel) rfl rfl (Nat.le_of_ble_eq_true rfl) nd_M_init_73 (fun H2 locs2 hP hD hS => ?_)
  refine lv_aload_n hx hb nd_M_init_76 rfl (zv_at hl 0 rfl) ?_
  refine lv_bipush (v := 6) hx hb nd_M_init_77 (by decide) ?_
  refine va_newa (atype := .int) (ty := .int) (N' := 6) (a0 := (6, .inl zs_z)) hx hb (hts _ nx_38) rfl hK hP hD hS hA (fun _ => rfl) (by decide) (by decide) (by decide) (Nat.le_of_ble_eq_true rfl) (Nat.le_of_ble_eq_true rfl) nd_M_init_79 (fun q10 c10 H1 hK hP hD hS => ?_)
  obtain rfl : c10 = c1 := Option.some.inj ((hK.2 9 _ rfl).2.symm.trans (hK.2 0 _ rfl).2)
  refine va_putF (ci := 6) (C := nR_M) (T := nT_M) (N := 31) (ty := .array .int) hx hb hts zw_inM nt_M zw_tyM zw_nmM hown hK hP hD hS 0 rfl rfl 11 (by decide) (hts _ nw_478) (fun _ h => h) rfl hin rfl (by decide +kernel) rfl rfl (Nat.le_of_ble_eq_true rfl) nd_M_init_81 (fun H2 locs2 hP hD hS => ?_)
  refine lv_aload_n hx hb nd_M_init_84 rfl (zv_at hl 0 rfl) ?_
  refine lv_bipush (v := 6) hx hb nd_M_init_85 (by decide) ?_
  refine va_newa (atype := .int) (ty := .int) (N' := 6) (a0 := (6, .inl zs_z)) hx hb (hts _ nx_38) rfl hK hP hD hS hA (fun _ => rfl) (by decide) (by decide) (by decide) (Nat.le_of_ble_eq_true rfl) (Nat.le_of_ble_eq_true rfl) nd_M_init_87 (fun q11 c11 H1 hK hP hD hS => ?_)
  obtain rfl : c11 = c1 := Option.some.inj ((hK.2 10 _ rfl).2.symm.trans (hK.2 0 _ rfl).2)
  refine va_putF (ci := 6) (C := nR_M) (T := nT_M) (N := 31) (ty := .array .int) hx hb hts zw_inM nt_M zw_tyM zw_nmM hown hK hP hD hS 0 rfl rfl 12 (by decide) (hts _ nw_479) (fun _ h => h) rfl hin rfl (by decide +kernel) rfl rfl (Nat.le_of_ble_eq_true rfl) nd_M_init_89 (fun H2 locs2 hP hD hS => ?_)
  refine lv_aload_n hx hb nd_M_init_92 rfl (zv_at hl 0 rfl) ?_
  refine lv_bipush (v := 6) hx hb nd_M_init_93 (by decide) ?_
  refine va_newa (atype := .int) (ty := .int) (N' := 6) (a0 := (6, .inl zs_z)) hx hb (hts _ nx_38) rfl hK hP hD hS hA (fun _ => rfl) (by decide) (by decide) (by decide) (Nat.le_of_ble_eq_true rfl) (Nat.le_of_ble_eq_true rfl) nd_M_init_95 (fun q12 c12 H1 hK hP hD hS => ?_)
  obtain rfl : c12 = c1 := Option.some.inj ((hK.2 11 _ rfl).2.symm.trans (hK.2 0 _ rfl).2)
  refine va_putF (ci := 6) (C := nR_M) (T := nT_M) (N := 31) (ty := .array .int) hx hb hts zw_inM nt_M zw_tyM zw_nmM hown hK hP hD hS 0 rfl rfl 13 (by decide) (hts _ nw_480) (fun _ h => h) rfl hin rfl (by decide +kernel) rfl rfl (Nat.le_of_ble_eq_true rfl) nd_M_init_97 (fun H2 locs2 hP hD hS => ?_)
  refine lv_aload_n hx hb nd_M_init_100 rfl (zv_at hl 0 rfl) ?_
  refine lv_bipush (v := 6) hx hb nd_M_init_101 (by decide) ?_
  refine va_newa (atype := .int) (ty := .int) (N' := 6) (a0 := (6, .inl zs_z)) hx hb (hts _ nx_38) rfl hK hP hD hS hA (fun _ => rfl) (by decide) (by decide) (by decide) (Nat.le_of_ble_eq_true rfl) (Nat.le_of_ble_eq_true rfl) nd_M_init_103 (fun q13 c13 H1 hK hP hD hS => ?_)
  obtain rfl : c13 = c1 := Option.some.inj ((hK.2 12 _ rfl).2.symm.trans (hK.2 0 _ rfl).2)
  refine va_putF (ci := 6) (C := nR_M) (T := nT_M) (N := 31) (ty := .array .int) hx hb hts zw_inM nt_M zw_tyM zw_nmM hown hK hP hD hS 0 rfl rfl 14 (by decide) (hts _ nw_481) (fun _ h => h) rfl hin rfl (by decide +kernel) rfl rfl (Nat.le_of_ble_eq_true rfl) nd_M_init_105 (fun H2 locs2 hP hD hS => ?_)
  refine lv_aload_n hx hb nd_M_init_108 rfl (zv_at hl 0 rfl) ?_
  refine lv_bipush (v := 6) hx hb nd_M_init_109 (by decide) ?_
  refine va_newa (atype := .int) (ty := .int) (N' := 6) (a0 := (6, .inl zs_z)) hx hb (hts _ nx_38) rfl hK hP hD hS hA (fun _ => rfl) (by decide) (by decide) (by decide) (Nat.le_of_ble_eq_true rfl) (Nat.le_of_ble_eq_true rfl) nd_M_init_111 (fun q14 c14 H1 hK hP hD hS => ?_)
  obtain rfl : c14 = c1 := Option.some.inj ((hK.2 13 _ rfl).2.symm.trans (hK.2 0 _ rfl).2)
  refine va_putF (ci := 6) (C := nR_M) (T := nT_M) (N := 31) (ty := .array .int) hx hb hts zw_inM nt_M zw_tyM zw_nmM hown hK hP hD hS 0 rfl rfl 15 (by decide) (hts _ nw_482) (fun _ h => h) rfl hin rfl (by decide +kernel) rfl rfl (Nat.le_of_ble_eq_true rfl) nd_M_init_113 (fun H2 locs2 hP hD hS => ?_)
  refine lv_aload_n hx hb nd_M_init_116 rfl (zv_at hl 0 rfl) ?_
  refine lv_bipush (v := 8) hx hb nd_M_init_117 (by decide) ?_
  refine va_newa (atype := .int) (ty := .int) (N' := 8) (a0 := (8, .inl zs_z)) hx hb (hts _ nx_38) rfl hK hP hD hS hA (fun _ => rfl) (by decide) (by decide) (by decide) (Nat.le_of_ble_eq_true rfl) (Nat.le_of_ble_eq_true rfl) nd_M_init_119 (fun q15 c15 H1 hK hP hD hS => ?_)
  obtain rfl : c15 = c1 := Option.some.inj ((hK.2 14 _ rfl).2.symm.trans (hK.2 0 _ rfl).2)
  refine va_putF (ci := 6) (C := nR_M) (T := nT_M) (N := 31) (ty := .array .int) hx hb hts zw_inM nt_M zw_tyM zw_nmM hown hK hP hD hS 0 rfl rfl 17 (by decide) (hts _ nw_484) (fun _ h => h) rfl hin rfl (by decide +kernel) rfl rfl (Nat.le_of_ble_eq_true rfl) nd_M_init_121 (fun H2 locs2 hP hD hS => ?_)
  refine lv_aload_n hx hb nd_M_init_124 rfl (zv_at hl 0 rfl) ?_
  refine lv_iconst (v := 3) hx hb nd_M_init_125 (by decide) ?_
  refine va_newa (atype := .long) (ty := .long) (N' := 3) (a0 := (3, .inr (.inl zs_zL))) hx hb (hts _ nx_109) rfl hK hP hD hS hA (fun _ => rfl) (by decide) (by decide) (by decide) (Nat.le_of_ble_eq_true rfl) (Nat.le_of_ble_eq_true rfl) nd_M_init_126 (fun q16 c16 H1 hK hP hD hS => ?_)
  obtain rfl : c16 = c6 := Option.some.inj ((hK.2 15 _ rfl).2.symm.trans (hK.2 5 _ rfl).2)
  refine va_putF (ci := 6) (C := nR_M) (T := nT_M) (N := 31) (ty := .array .long) hx hb hts zw_inM nt_M zw_tyM zw_nmM hown hK hP hD hS 0 rfl rfl 18 (by decide) (hts _ nw_485) (fun _ h => h) rfl hin rfl (by decide +kernel) rfl rfl (Nat.le_of_ble_eq_true rfl) nd_M_init_128 (fun H2 locs2 hP hD hS => ?_)
  refine lv_aload_n hx hb nd_M_init_131 rfl (zv_at hl 0 rfl) ?_
  refine lv_iconst (v := 3) hx hb nd_M_init_132 (by decide) ?_
  refine va_newa (atype := .long) (ty := .long) (N' := 3) (a0 := (3, .inr (.inl zs_zL))) hx hb (hts _ nx_109) rfl hK hP hD hS hA (fun _ => rfl) (by decide) (by decide) (by decide) (Nat.le_of_ble_eq_true rfl) (Nat.le_of_ble_eq_true rfl) nd_M_init_133 (fun q17 c17 H1 hK hP hD hS => ?_)
  obtain rfl : c17 = c6 := Option.some.inj ((hK.2 16 _ rfl).2.symm.trans (hK.2 5 _ rfl).2)
  refine va_putF (ci := 6) (C := nR_M) (T := nT_M) (N := 31) (ty := .array .long) hx hb hts zw_inM nt_M zw_tyM zw_nmM hown hK hP hD hS 0 rfl rfl 19 (by decide) (hts _ nw_486) (fun _ h => h) rfl hin rfl (by decide +kernel) rfl rfl (Nat.le_of_ble_eq_true rfl) nd_M_init_135 (fun H2 locs2 hP hD hS => ?_)
  refine lv_aload_n hx hb nd_M_init_138 rfl (zv_at hl 0 rfl) ?_
  refine lv_iconst (v := -1) hx hb nd_M_init_139 (by decide) ?_
  refine va_put (ci := 6) (C := nR_M) (T := nT_M) (N := 31) (ty := .int) hx hb hts zw_inM nt_M zw_tyM zw_nmM hown hK hP hD hS 0 rfl rfl 23 (by decide) (hts _ nw_490) (fun _ h => h) rfl (by decide +kernel) rfl rfl (Nat.le_of_ble_eq_true rfl) nd_M_init_140 (fun H2 locs2 hP hD hS => ?_)
  exact W.vret hx hb hr (fun t ht hW => ⟨⟨((a, q1, q2, q3, q4, q5, q6, q7, q8, q9, q10, q11, q12, q13, q14, q15, q16, q17), (c1, c6)), rfl, rfl, by rw [ht]; exact hP, va_K.moved hW.alike (hK.sub [0, 5] rfl), hD⟩, hS.F ht⟩) hS.2.2 nd_M_init_143 hlk
