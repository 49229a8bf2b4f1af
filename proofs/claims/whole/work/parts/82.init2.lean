/-! CONSTRUCTORS: Account. -/
theorem nw_73 : Cond.methodLink "DayEndBank$Account" 1 objectInit ∈ zw_big := zw_mem (List.mem_append_left _ (List.mem_of_getElem? (i := 73) (by decide +kernel))) (by decide +kernel)
set_option maxHeartbeats 4000000 in
set_option maxRecDepth 100000 in
theorem c_A_init (l : Launch) (D : va_G) (a : Nat) (n : Int32) : Met l ny_A_init (Cond.code ny_A_init nc_A_init 2 none :: zw_big) ({ frames := 1, cells := 0, slots := 0, locals := 12 } : Room) (zw_P [.ref a, .int n] D [] [(a, .inr (1, [.int 0, .int 0, .int 0, .int 0, .int 0, .long 0, .long 0, .long 0, .int 0]))]) (zw_Q none (va_P D vwCl [(a, .inr (1, [.int n, .int 0, .int 0, .int 0, .int 0, .long 0, .long 0, .long 0, .int 0]))]) (fun q => q ∈ [a])) 0 0 (fun q => q ∈ [a]) := by
  refine Met.ofW (cc := nc_A_init) (maxL := 2) (ret := none) (by decide) rfl ?_
  intro p e s m args below meth c s₁ B hml hv
  obtain ⟨rfl, hP, hK⟩ := hv
  have hx := B.exec
  have hb := B.bytes
  have hr := B.returns
  have hts0 := atoms_spec (ws := Cond.code ny_A_init nc_A_init 2 none :: zw_big) B.pre
  have hts : ∀ w ∈ zw_big, w.before [.ref a, .int n].toArray s = true := fun w h => hts0 w (List.mem_cons_of_mem _ h)
  have hown : s.vm.findClass "DayEndBank$Account" = some m.cls := findClass_of_methodNamed B.named
  have hlk := B.notSynchronized
  have hin : meth.name = "<init>" := (name_of_methodNamed B.named B.method).1
  have hS : va_S (fun q => q ∈ [a]) s.heap s.heap [] := va_S.rf
  have hD : va_D (fun q => q ∈ [a]) [(a, .inr (1, [.int 0, .int 0, .int 0, .int 0, .int 0, .long 0, .long 0, .long 0, .int 0]))] := zw_D_of (ws := [(a, .inr (1, [.int 0, .int 0, .int 0, .int 0, .int 0, .long 0, .long 0, .long 0, .int 0]))]) (zw_apart1 a)
  have hl := lv_entry ([.ref a, .int n]) (n := 2) (Nat.le_of_ble_eq_true rfl)
  rw [lg_entry_eq]
  generalize (lg_sl ([.ref a, .int n]) ++ List.replicate (2 - (lg_sl ([.ref a, .int n])).length) Slot.unset).toArray = ls at hl ⊢
  have hl : lv_has ls 2 [(0, .ref a), (1, .int n)] := hl
  refine lv_aload_n hx hb nd_A_init_0 rfl (zv_at hl 0 rfl) ?_
  refine W.objInit hx hb hown (hts _ nw_73) (hts _ nw_17) (hts _ nw_18) rfl (by rw [hml]; exact hl.1) rfl nd_A_init_1 (Nat.le_of_ble_eq_true rfl) (Nat.le_of_ble_eq_true rfl) ?_
  refine W.eq (g2 := F0 m 4 ls []) rfl ?_
  refine lv_aload_n hx hb nd_A_init_4 rfl (zv_at hl 0 rfl) ?_
  refine lv_iload_n hx hb nd_A_init_5 rfl (zv_at hl 1 rfl) ?_
  refine va_putF (ci := 1) (C := nR_A) (T := nT_A) (N := 9) (ty := .int) hx hb hts zw_inA nt_A zw_tyA zw_nmA hown hK hP hD hS 0 rfl rfl 0 (by decide) (hts _ nw_74) (fun _ h => h) rfl hin rfl (by decide +kernel) rfl rfl (Nat.le_of_ble_eq_true rfl) nd_A_init_6 (fun H1 locs1 hP1 _ hS1 => ?_)
  exact W.vret hx hb hr (fun t ht _ => ⟨rfl, by rw [ht]; exact hP1, hS1.F ht⟩) hS1.2.2 nd_A_init_9 hlk
