/-! CONSTRUCTORS: Hold, Order. -/
theorem nw_17 : Cond.instanceMethod objectInit ∈ zw_big := zw_mem (List.mem_append_left _ (List.mem_of_getElem? (i := 17) (by decide +kernel))) (by decide +kernel)
theorem nw_18 : Cond.code objectInit object_method_1_code 1 none ∈ zw_big := zw_mem (List.mem_append_left _ (List.mem_of_getElem? (i := 18) (by decide +kernel))) (by decide +kernel)
theorem nw_114 : Cond.methodLink "DayEndBank$Hold" 1 objectInit ∈ zw_big := zw_mem (List.mem_append_left _ (List.mem_of_getElem? (i := 114) (by decide +kernel))) (by decide +kernel)
theorem nw_128 : Cond.methodLink "DayEndBank$Order" 1 objectInit ∈ zw_big := zw_mem (List.mem_append_left _ (List.mem_of_getElem? (i := 128) (by decide +kernel))) (by decide +kernel)
def zw_Rn : Array Value → State → Outcome → State → Prop := fun _ st o t => o = .returned none ∧ t.heap = st.heap
set_option maxHeartbeats 4000000 in
set_option maxRecDepth 100000 in
theorem c_H_init (l : Launch) (a : Nat) : Met l ny_H_init (Cond.code ny_H_init nc_H_init 1 none :: zw_big) ({ frames := 1, cells := 0, slots := 0, locals := 12 } : Room) (zw_N [.ref a]) zw_Rn 0 0 (fun _ => False) := by
  refine Met.ofW (cc := nc_H_init) (maxL := 1) (ret := none) (by decide) rfl ?_
  intro p e s m args below meth c s₁ B hml hv
  obtain rfl := hv
  have hx := B.exec
  have hb := B.bytes
  have hr := B.returns
  have hts0 := atoms_spec (ws := Cond.code ny_H_init nc_H_init 1 none :: zw_big) B.pre
  have hts : ∀ w ∈ zw_big, w.before [.ref a].toArray s = true := fun w h => hts0 w (List.mem_cons_of_mem _ h)
  have hown : s.vm.findClass "DayEndBank$Hold" = some m.cls := findClass_of_methodNamed B.named
  have hlk := B.notSynchronized
  have hS : va_S (fun _ => False) s.heap s.heap [] := va_S.rf
  have hl := lv_entry ([.ref a]) (n := 1) (Nat.le_of_ble_eq_true rfl)
  rw [lg_entry_eq]
  generalize (lg_sl ([.ref a]) ++ List.replicate (1 - (lg_sl ([.ref a])).length) Slot.unset).toArray = ls at hl ⊢
  have hl : lv_has ls 1 [(0, .ref a)] := hl
  refine lv_aload_n hx hb nd_H_init_0 rfl (zv_at hl 0 rfl) ?_
  refine W.objInit hx hb hown (hts _ nw_114) (hts _ nw_17) (hts _ nw_18) rfl (by rw [hml]; exact hl.1) rfl nd_H_init_1 (Nat.le_of_ble_eq_true rfl) (Nat.le_of_ble_eq_true rfl) ?_
  refine W.eq (g2 := F0 m 4 ls []) rfl ?_
  exact W.vret hx hb hr (fun t ht _ => ⟨rfl, ht⟩) hS.2.2 nd_H_init_4 hlk
