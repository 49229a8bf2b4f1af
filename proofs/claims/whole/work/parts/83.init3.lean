/-! CONSTRUCTORS: RestDays. -/
theorem nw_30 : Cond.methodLink "DayEndBank$RestDays" 1 objectInit ∈ zw_big := zw_mem (List.mem_append_left _ (List.mem_of_getElem? (i := 30) (by decide +kernel))) (by decide +kernel)
theorem nx_38 : Cond.arrayClass .int ∈ zw_big := zw_mem (List.mem_append_left _ (List.mem_of_getElem? (i := 38) (by decide +kernel))) (by decide +kernel)
set_option maxHeartbeats 4000000 in
set_option maxRecDepth 100000 in
theorem c_R_init (l : Launch) (D : va_G) (a sz : Nat) : Met l ny_R_init (Cond.code ny_R_init nc_R_init 1 none :: zw_big) ({ frames := 1, cells := 1, slots := 8, locals := 12 } : Room) (va_Pc [.ref a] (fun U => U.heap.size = sz ∧ va_P D vwCl [(a, .inr (4, [.null, .int 0]))] U.heap ∧ va_K D vwCl [] U ∧ va_D (fun _ => True) [(a, .inr (4, [.null, .int 0]))]))
    (va_Qv (fun _ : Nat × ClassId => True) (fun u t => va_P D vwCl [(a, .inr (4, [.ref u.1, .int 0])), (u.1, .inl (u.2, 8, .inl zs_z))] t.heap ∧ va_K D vwCl [(u.2, .int)] t ∧ va_D (va_A [(a, .inr (4, [.null, .int 0]))] sz) [(a, .inr (4, [.ref u.1, .int 0])), (u.1, .inl (u.2, 8, .inl zs_z))]) (va_A [(a, .inr (4, [.null, .int 0]))] sz)) 1 8 (va_A [(a, .inr (4, [.null, .int 0]))] sz) := by
  refine Met.ofW (cc := nc_R_init) (maxL := 1) (ret := none) (by decide) rfl ?_
  intro p e s m args below meth c s₁ B hml hv
  obtain ⟨rfl, hsz, hP, hK, hD0⟩ := hv
  have hx := B.exec
  have hb := B.bytes
  have hr := B.returns
  have hts0 := atoms_spec (ws := Cond.code ny_R_init nc_R_init 1 none :: zw_big) B.pre
  have hts : ∀ w ∈ zw_big, w.before [.ref a].toArray s = true := fun w h => hts0 w (List.mem_cons_of_mem _ h)
  have hown : s.vm.findClass "DayEndBank$RestDays" = some m.cls := findClass_of_methodNamed B.named
  have hlk := B.notSynchronized
  have hin : meth.name = "<init>" := (name_of_methodNamed B.named B.method).1
  subst hsz
  have hD := hD0.self (sz := s.heap.size)
  generalize hAe : va_A [(a, .inr (4, [.null, .int 0]))] s.heap.size = A at hD ⊢
  have hA : ∀ q : Nat, s.heap.size ≤ q → A q := fun q h => by rw [← hAe]; exact Or.inr h
  have hS : va_S A s.heap s.heap [] := va_S.rf
  have hl := lv_entry ([.ref a]) (n := 1) (Nat.le_of_ble_eq_true rfl)
  rw [lg_entry_eq]
  generalize (lg_sl ([.ref a]) ++ List.replicate (1 - (lg_sl ([.ref a])).length) Slot.unset).toArray = ls at hl ⊢
  have hl : lv_has ls 1 [(0, .ref a)] := hl
  refine lv_aload_n hx hb nd_R_init_0 rfl (zv_at hl 0 rfl) ?_
  refine W.objInit hx hb hown (hts _ nw_30) (hts _ nw_17) (hts _ nw_18) rfl (by rw [hml]; exact hl.1) rfl nd_R_init_1 (Nat.le_of_ble_eq_true rfl) (Nat.le_of_ble_eq_true rfl) ?_
  refine W.eq (g2 := F0 m 4 ls []) rfl ?_
  refine lv_aload_n hx hb nd_R_init_4 rfl (zv_at hl 0 rfl) ?_
  refine lv_bipush (v := 8) hx hb nd_R_init_5 (by decide) ?_
  refine va_newa (atype := .int) (ty := .int) (N' := 8) (a0 := (8, .inl zs_z)) hx hb (hts _ nx_38) rfl hK hP hD hS hA (fun _ => rfl) (by decide) (by decide) (by decide) (Nat.le_of_ble_eq_true rfl) (Nat.le_of_ble_eq_true rfl) nd_R_init_7 (fun q cA H1 hK hP hD hS => ?_)
  refine va_putF (ci := 4) (C := nR_R) (T := nT_R) (N := 2) (ty := .array .int) hx hb hts zw_inR nt_R zw_tyR zw_nmR hown hK hP hD hS 0 rfl rfl 0 (by decide) (hts _ nw_31) (fun _ h => h) rfl hin rfl (by decide +kernel) rfl rfl (Nat.le_of_ble_eq_true rfl) nd_R_init_9 (fun H2 locs2 hP2 hD2 hS2 => ?_)
  exact W.vret hx hb hr (fun t ht hW => ⟨⟨(q, cA), rfl, trivial, by rw [ht]; exact hP2, va_K.moved hW.alike hK, hD2⟩, hS2.F ht⟩) hS2.2.2 nd_R_init_12 hlk
