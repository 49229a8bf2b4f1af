/-! CONSTRUCTORS: Order, Disk. -/
set_option maxHeartbeats 4000000 in
set_option maxRecDepth 100000 in
theorem c_O_init (l : Launch) (a : Nat) : Met l ny_O_init (Cond.code ny_O_init nc_O_init 1 none :: zw_big) ({ frames := 1, cells := 0, slots := 0, locals := 12 } : Room) (zw_N [.ref a]) zw_Rn 0 0 (fun _ => False) := by
  refine Met.ofW (cc := nc_O_init) (maxL := 1) (ret := none) (by decide) rfl ?_
  intro p e s m args below meth c s₁ B hml hv
  obtain rfl := hv
  have hx := B.exec
  have hb := B.bytes
  have hr := B.returns
  have hts0 := atoms_spec (ws := Cond.code ny_O_init nc_O_init 1 none :: zw_big) B.pre
  have hts : ∀ w ∈ zw_big, w.before [.ref a].toArray s = true := fun w h => hts0 w (List.mem_cons_of_mem _ h)
  have hown : s.vm.findClass "DayEndBank$Order" = some m.cls := findClass_of_methodNamed B.named
  have hlk := B.notSynchronized
  have hS : va_S (fun _ => False) s.heap s.heap [] := va_S.rf
  have hl := lv_entry ([.ref a]) (n := 1) (Nat.le_of_ble_eq_true rfl)
  rw [lg_entry_eq]
  generalize (lg_sl ([.ref a]) ++ List.replicate (1 - (lg_sl ([.ref a])).length) Slot.unset).toArray = ls at hl ⊢
  have hl : lv_has ls 1 [(0, .ref a)] := hl
  refine lv_aload_n hx hb nd_O_init_0 rfl (zv_at hl 0 rfl) ?_
  refine W.objInit hx hb hown (hts _ nw_128) (hts _ nw_17) (hts _ nw_18) rfl (by rw [hml]; exact hl.1) rfl nd_O_init_1 (Nat.le_of_ble_eq_true rfl) (Nat.le_of_ble_eq_true rfl) ?_
  refine W.eq (g2 := F0 m 4 ls []) rfl ?_
  exact W.vret hx hb hr (fun t ht _ => ⟨rfl, ht⟩) hS.2.2 nd_O_init_4 hlk
theorem nw_44 : Cond.methodLink "DayEndBank$Disk" 1 objectInit ∈ zw_big := zw_mem (List.mem_append_left _ (List.mem_of_getElem? (i := 44) (by decide +kernel))) (by decide +kernel)
theorem zw_apart1 (a : Nat) : zw_apart [a] := by
  intro i j x hi hj
  have h1 : i < 1 := (List.getElem?_eq_some_iff.mp hi).1
  have h2 : j < 1 := (List.getElem?_eq_some_iff.mp hj).1
  omega
set_option maxHeartbeats 4000000 in
set_option maxRecDepth 100000 in
theorem c_D_init (l : Launch) (D : va_G) (a : Nat) : Met l ny_D_init (Cond.code ny_D_init nc_D_init 1 none :: zw_big) ({ frames := 1, cells := 0, slots := 0, locals := 12 } : Room) (zw_P [.ref a] D [] [(a, .inr (5, [.int 0, .int 0, .int 0, .int 0, .int 0, .int 0]))]) (zw_Q none (va_P D vwCl [(a, .inr (5, [.int 0, .int 0, .int (-1), .int 0, .int 0, .int 0]))]) (fun q => q ∈ [a])) 0 0 (fun q => q ∈ [a]) := by
  refine Met.ofW (cc := nc_D_init) (maxL := 1) (ret := none) (by decide) rfl ?_
  intro p e s m args below meth c s₁ B hml hv
  obtain ⟨rfl, hP, hK⟩ := hv
  have hx := B.exec
  have hb := B.bytes
  have hr := B.returns
  have hts0 := atoms_spec (ws := Cond.code ny_D_init nc_D_init 1 none :: zw_big) B.pre
  have hts : ∀ w ∈ zw_big, w.before [.ref a].toArray s = true := fun w h => hts0 w (List.mem_cons_of_mem _ h)
  have hown : s.vm.findClass "DayEndBank$Disk" = some m.cls := findClass_of_methodNamed B.named
  have hlk := B.notSynchronized
  have hS : va_S (fun q => q ∈ [a]) s.heap s.heap [] := va_S.rf
  have hD : va_D (fun q => q ∈ [a]) [(a, .inr (5, [.int 0, .int 0, .int 0, .int 0, .int 0, .int 0]))] := zw_D_of (ws := [(a, .inr (5, [.int 0, .int 0, .int 0, .int 0, .int 0, .int 0]))]) (zw_apart1 a)
  have hl := lv_entry ([.ref a]) (n := 1) (Nat.le_of_ble_eq_true rfl)
  rw [lg_entry_eq]
  generalize (lg_sl ([.ref a]) ++ List.replicate (1 - (lg_sl ([.ref a])).length) Slot.unset).toArray = ls at hl ⊢
  have hl : lv_has ls 1 [(0, .ref a)] := hl
  refine lv_aload_n hx hb nd_D_init_0 rfl (zv_at hl 0 rfl) ?_
  refine W.objInit hx hb hown (hts _ nw_44) (hts _ nw_17) (hts _ nw_18) rfl (by rw [hml]; exact hl.1) rfl nd_D_init_1 (Nat.le_of_ble_eq_true rfl) (Nat.le_of_ble_eq_true rfl) ?_
  refine W.eq (g2 := F0 m 4 ls []) rfl ?_
  refine lv_aload_n hx hb nd_D_init_4 rfl (zv_at hl 0 rfl) ?_
  refine lv_iconst hx hb nd_D_init_5 rfl ?_
  refine va_put (ci := 5) (C := nR_D) (T := nT_D) (N := 6) (ty := .int) hx hb hts zw_inD nt_D zw_tyD zw_nmD hown hK hP hD hS 0 rfl rfl 2 (by decide) (hts _ nw_49) (fun _ h => h) rfl (by decide +kernel) rfl rfl (Nat.le_of_ble_eq_true rfl) nd_D_init_6 (fun H1 locs1 hP1 _ hS1 => ?_)
  exact W.vret hx hb hr (fun t ht _ => ⟨rfl, by rw [ht]; exact hP1, hS1.F ht⟩) hS1.2.2 nd_D_init_9 hlk
