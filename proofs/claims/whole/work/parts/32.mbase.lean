set_option maxHeartbeats 4000000 in
set_option maxRecDepth 100000 in
theorem c_M_shut (l : Launch) (D : va_G) (G : zh_G) (T : zm_S) (Y : zm_Y) : Met l ny_M_shut (Cond.code ny_M_shut nc_M_shut 1 (some .int) :: zw_big) ({ frames := 0, cells := 0, slots := 0, locals := 0 } : Room) (zw_P [.ref (zh_mdl G)] D (zm_tys G) (zm_cells G T Y)) (zw_R (.int (zm_shut T))) 0 0 (fun _ => False) := by
  refine Met.ofW (cc := nc_M_shut) (maxL := 1) (ret := (some .int)) (by decide) rfl ?_
  intro p e s m args below meth c s₁ B hml hv
  obtain ⟨rfl, hP, hK⟩ := hv
  have hx := B.exec
  have hb := B.bytes
  have hr := B.returns
  have hts0 := atoms_spec (ws := Cond.code ny_M_shut nc_M_shut 1 (some .int) :: zw_big) B.pre
  have hts : ∀ w ∈ zw_big, w.before [.ref (zh_mdl G)].toArray s = true := fun w h => hts0 w (List.mem_cons_of_mem _ h)
  have hown : s.vm.findClass nR_M = some m.cls := findClass_of_methodNamed B.named
  have hlk := B.notSynchronized
  have hl := lv_entry ([.ref (zh_mdl G)]) (n := 1) (Nat.le_of_ble_eq_true rfl)
  rw [lg_entry_eq]
  generalize (lg_sl ([.ref (zh_mdl G)]) ++ List.replicate (1 - (lg_sl ([.ref (zh_mdl G)])).length) Slot.unset).toArray = ls at hl ⊢
  have hl : lv_has ls 1 [(0, .ref (zh_mdl G))] := hl
  have hF : CallFix p m c nc_M_shut 1 s [.ref (zh_mdl G)].toArray zw_big nR_M := ⟨hx, hb, hml, hown, hts⟩
  refine lv_aload_n hx hb nd_M_shut_0 rfl (zv_at hl 0 rfl) ?_
  refine zm_get hx hb hts hown hK hP 22 (by decide) (hts _ nw_489) rfl nd_M_shut_1 ?_
  refine lv_if_eq (tgt := 11) hx hb nd_M_shut_4 (by decide) (fun h_4 => ?_) (fun h_4 => ?_)
  · skip
    refine lv_aload_n hx hb nd_M_shut_11 rfl (zv_at hl 0 rfl) ?_
    refine zm_get hx hb hts hown hK hP 21 (by decide) (hts _ nw_488) rfl nd_M_shut_12 ?_
    refine lv_if_eq (tgt := 23) hx hb nd_M_shut_15 (by decide) (fun h_15 => ?_) (fun h_15 => ?_)
    · skip
      refine lv_iconst (v := 0) hx hb nd_M_shut_23 (by decide) ?_
      refine zw_iret hx hb hr hlk nd_M_shut_24 ?_
      unfold zm_shut
      all_goals (try dsimp only)
      all_goals (try rw [if_pos h_4])
      all_goals (try rw [if_pos h_15])
      all_goals rfl
    · skip
      refine lv_bipush (v := -2) hx hb nd_M_shut_18 (by decide) ?_
      refine lv_goto (tgt := 24) hx hb nd_M_shut_20 (by decide) ?_
      refine zw_iret hx hb hr hlk nd_M_shut_24 ?_
      unfold zm_shut
      all_goals (try dsimp only)
      all_goals (try rw [if_pos h_4])
      all_goals (try rw [if_neg h_15])
      all_goals rfl
  · skip
    refine lv_iconst (v := -1) hx hb nd_M_shut_7 (by decide) ?_
    refine lv_goto (tgt := 24) hx hb nd_M_shut_8 (by decide) ?_
    refine zw_iret hx hb hr hlk nd_M_shut_24 ?_
    unfold zm_shut
    all_goals (try dsimp only)
    all_goals (try rw [if_neg h_4])
    all_goals rfl

set_option maxHeartbeats 4000000 in
set_option maxRecDepth 100000 in
theorem c_M_is (l : Launch) (D : va_G) (G : zh_G) (T : zm_S) (Y : zm_Y) (x : Int32) : Met l ny_M_is (Cond.code ny_M_is nc_M_is 2 (some .boolean) :: zw_big) ({ frames := 0, cells := 0, slots := 0, locals := 0 } : Room) (zw_P [.ref (zh_mdl G), .int x] D (zm_tys G) (zm_cells G T Y)) (zw_R (.int (zm_is T x))) 0 0 (fun _ => False) := by
  refine Met.ofW (cc := nc_M_is) (maxL := 2) (ret := (some .boolean)) (by decide) rfl ?_
  intro p e s m args below meth c s₁ B hml hv
  obtain ⟨rfl, hP, hK⟩ := hv
  have hx := B.exec
  have hb := B.bytes
  have hr := B.returns
  have hts0 := atoms_spec (ws := Cond.code ny_M_is nc_M_is 2 (some .boolean) :: zw_big) B.pre
  have hts : ∀ w ∈ zw_big, w.before [.ref (zh_mdl G), .int x].toArray s = true := fun w h => hts0 w (List.mem_cons_of_mem _ h)
  have hown : s.vm.findClass nR_M = some m.cls := findClass_of_methodNamed B.named
  have hlk := B.notSynchronized
  have hl := lv_entry ([.ref (zh_mdl G), .int x]) (n := 2) (Nat.le_of_ble_eq_true rfl)
  rw [lg_entry_eq]
  generalize (lg_sl ([.ref (zh_mdl G), .int x]) ++ List.replicate (2 - (lg_sl ([.ref (zh_mdl G), .int x])).length) Slot.unset).toArray = ls at hl ⊢
  have hl : lv_has ls 2 [(0, .ref (zh_mdl G)), (1, .int x)] := hl
  have hF : CallFix p m c nc_M_is 2 s [.ref (zh_mdl G), .int x].toArray zw_big nR_M := ⟨hx, hb, hml, hown, hts⟩
  refine lv_iload_n hx hb nd_M_is_0 rfl (zv_at hl 1 rfl) ?_
  refine lv_if_lt (tgt := 16) hx hb nd_M_is_1 (by decide) (fun h_1 => ?_) (fun h_1 => ?_)
  · skip
    refine lv_iconst (v := 0) hx hb nd_M_is_16 (by decide) ?_
    refine zw_zret hx hb hr hlk nd_M_is_17 (by decide) ?_
    unfold zm_is
    all_goals (try dsimp only)
    all_goals (try rw [if_pos h_1])
    all_goals rfl
  · skip
    refine lv_iload_n hx hb nd_M_is_4 rfl (zv_at hl 1 rfl) ?_
    refine lv_aload_n hx hb nd_M_is_5 rfl (zv_at hl 0 rfl) ?_
    refine zm_get hx hb hts hown hK hP 0 (by decide) (hts _ nw_467) rfl nd_M_is_6 ?_
    refine lv_icmp_ge (tgt := 16) hx hb nd_M_is_9 (by decide) (fun h_9 => ?_) (fun h_9 => ?_)
    · skip
      refine lv_iconst (v := 0) hx hb nd_M_is_16 (by decide) ?_
      refine zw_zret hx hb hr hlk nd_M_is_17 (by decide) ?_
      unfold zm_is
      all_goals (try dsimp only)
      all_goals (try rw [if_neg h_1])
      all_goals (try rw [if_pos h_9])
      all_goals rfl
    · skip
      refine lv_iconst (v := 1) hx hb nd_M_is_12 (by decide) ?_
      refine lv_goto (tgt := 17) hx hb nd_M_is_13 (by decide) ?_
      refine zw_zret hx hb hr hlk nd_M_is_17 (by decide) ?_
      unfold zm_is
      all_goals (try dsimp only)
      all_goals (try rw [if_neg h_1])
      all_goals (try rw [if_neg h_9])
      all_goals rfl

set_option maxHeartbeats 4000000 in
set_option maxRecDepth 100000 in
theorem c_M_amountOk (l : Launch) (D : va_G) (G : zh_G) (T : zm_S) (Y : zm_Y) (x : Int32) : Met l ny_M_amountOk (Cond.code ny_M_amountOk nc_M_amountOk 2 (some .boolean) :: zw_big) ({ frames := 0, cells := 0, slots := 0, locals := 0 } : Room) (zw_P [.ref (zh_mdl G), .int x] D (zm_tys G) (zm_cells G T Y)) (zw_R (.int (zm_amt x))) 0 0 (fun _ => False) := by
  refine Met.ofW (cc := nc_M_amountOk) (maxL := 2) (ret := (some .boolean)) (by decide) rfl ?_
  intro p e s m args below meth c s₁ B hml hv
  obtain ⟨rfl, hP, hK⟩ := hv
  have hx := B.exec
  have hb := B.bytes
  have hr := B.returns
  have hts0 := atoms_spec (ws := Cond.code ny_M_amountOk nc_M_amountOk 2 (some .boolean) :: zw_big) B.pre
  have hts : ∀ w ∈ zw_big, w.before [.ref (zh_mdl G), .int x].toArray s = true := fun w h => hts0 w (List.mem_cons_of_mem _ h)
  have hown : s.vm.findClass nR_M = some m.cls := findClass_of_methodNamed B.named
  have hlk := B.notSynchronized
  have hl := lv_entry ([.ref (zh_mdl G), .int x]) (n := 2) (Nat.le_of_ble_eq_true rfl)
  rw [lg_entry_eq]
  generalize (lg_sl ([.ref (zh_mdl G), .int x]) ++ List.replicate (2 - (lg_sl ([.ref (zh_mdl G), .int x])).length) Slot.unset).toArray = ls at hl ⊢
  have hl : lv_has ls 2 [(0, .ref (zh_mdl G)), (1, .int x)] := hl
  have hF : CallFix p m c nc_M_amountOk 2 s [.ref (zh_mdl G), .int x].toArray zw_big nR_M := ⟨hx, hb, hml, hown, hts⟩
  refine lv_iload_n hx hb nd_M_amountOk_0 rfl (zv_at hl 1 rfl) ?_
  refine lv_iconst (v := 1) hx hb nd_M_amountOk_1 (by decide) ?_
  refine lv_icmp_lt (tgt := 15) hx hb nd_M_amountOk_2 (by decide) (fun h_2 => ?_) (fun h_2 => ?_)
  · skip
    refine lv_iconst (v := 0) hx hb nd_M_amountOk_15 (by decide) ?_
    refine zw_zret hx hb hr hlk nd_M_amountOk_16 (by decide) ?_
    unfold zm_amt
    all_goals (try dsimp only)
    all_goals (try rw [if_pos h_2])
    all_goals rfl
  · skip
    refine lv_iload_n hx hb nd_M_amountOk_5 rfl (zv_at hl 1 rfl) ?_
    refine lv_ldc (v := 1000000) hx hb hown (hts _ nw_569) nd_M_amountOk_6 ?_
    refine lv_icmp_gt (tgt := 15) hx hb nd_M_amountOk_8 (by decide) (fun h_8 => ?_) (fun h_8 => ?_)
    · skip
      refine lv_iconst (v := 0) hx hb nd_M_amountOk_15 (by decide) ?_
      refine zw_zret hx hb hr hlk nd_M_amountOk_16 (by decide) ?_
      unfold zm_amt
      all_goals (try dsimp only)
      all_goals (try rw [if_neg h_2])
      all_goals (try rw [if_pos h_8])
      all_goals rfl
    · skip
      refine lv_iconst (v := 1) hx hb nd_M_amountOk_11 (by decide) ?_
      refine lv_goto (tgt := 16) hx hb nd_M_amountOk_12 (by decide) ?_
      refine zw_zret hx hb hr hlk nd_M_amountOk_16 (by decide) ?_
      unfold zm_amt
      all_goals (try dsimp only)
      all_goals (try rw [if_neg h_2])
      all_goals (try rw [if_neg h_8])
      all_goals rfl

/-- what holds of a state of the reference -/
def zm_I (T : zm_S) : Prop := (∃ n, n ≤ 6 ∧ zm_acs T = nI n) ∧ (∃ o, o ≤ 6 ∧ zm_ors T = nI o) ∧ (∃ r, r ≤ 8 ∧ zm_rst T = nI r) ∧ (∀ i, ∃ c, c < 3 ∧ zm_cur T i = nI c)
theorem zm_is_nat {T : zm_S} {x : Int32} (hI : zm_I T) (h : ¬ zm_is T x = 0) : ∃ j, j < 6 ∧ x = nI j := by
  obtain ⟨n, hn, en⟩ := hI.1
  unfold zm_is at h
  by_cases h1 : x < 0
  · rw [if_pos h1] at h; exact absurd rfl h
  · rw [if_neg h1] at h
    by_cases h2 : zm_acs T ≤ x
    · rw [if_pos h2] at h; exact absurd rfl h
    · obtain ⟨j, hj, rfl⟩ := nI_of h1
      refine ⟨j, ?_, rfl⟩
      refine Nat.lt_of_lt_of_le (Nat.lt_of_not_le fun q => h2 ?_) hn
      rw [en]
      exact nI_le q hj
theorem zm_in_of {x : Int32} (h : ∃ j, j < 6 ∧ x = nI j) : vp_in x 6 := by
  obtain ⟨j, hj, rfl⟩ := h
  exact vp_in_nI hj (by decide)
theorem zm_cur_in {T : zm_S} (hI : zm_I T) (i : Nat) : vp_in (zm_cur T i) 3 := by
  obtain ⟨c, hc, e⟩ := hI.2.2.2 i
  rw [e]; exact vp_in_nI hc (by decide)

set_option maxHeartbeats 4000000 in
set_option maxRecDepth 100000 in
theorem c_M_spend (l : Launch) (D : va_G) (G : zh_G) (hG : zw_apart (zm_adr G)) (T : zm_S) (Y : zm_Y) (n : Int32) : Met l ny_M_spend (Cond.code ny_M_spend nc_M_spend 2 none :: zw_big) ({ frames := 0, cells := 0, slots := 0, locals := 0 } : Room) (zw_P [.ref (zh_mdl G), .int n] D (zm_tys G) (zm_cells G T Y)) (zm_Qv D G (zm_sD T (zm_spend (zm_D T) n))) 0 0 (zm_Ad G) := by
  refine Met.ofW (cc := nc_M_spend) (maxL := 2) (ret := none) (by decide) rfl ?_
  intro p e s m args below meth c s₁ B hml hv
  obtain ⟨rfl, hP, hK⟩ := hv
  have hx := B.exec
  have hb := B.bytes
  have hr := B.returns
  have hts0 := atoms_spec (ws := Cond.code ny_M_spend nc_M_spend 2 none :: zw_big) B.pre
  have hts : ∀ w ∈ zw_big, w.before [.ref (zh_mdl G), .int n].toArray s = true := fun w h => hts0 w (List.mem_cons_of_mem _ h)
  have hown : s.vm.findClass nR_M = some m.cls := findClass_of_methodNamed B.named
  have hlk := B.notSynchronized
  have hS : va_S (zm_Ad G) s.heap s.heap [] := va_S.rf
  have hl := lv_entry ([.ref (zh_mdl G), .int n]) (n := 2) (Nat.le_of_ble_eq_true rfl)
  rw [lg_entry_eq]
  generalize (lg_sl ([.ref (zh_mdl G), .int n]) ++ List.replicate (2 - (lg_sl ([.ref (zh_mdl G), .int n])).length) Slot.unset).toArray = ls at hl ⊢
  have hl : lv_has ls 2 [(0, .ref (zh_mdl G)), (1, .int n)] := hl
  have hF : CallFix p m c nc_M_spend 2 s [.ref (zh_mdl G), .int n].toArray zw_big nR_M := ⟨hx, hb, hml, hown, hts⟩
  refine lv_aload_n hx hb nd_M_spend_0 rfl (zv_at hl 0 rfl) ?_
  refine lv_dup hx hb nd_M_spend_1 rfl ?_
  refine zm_get hx hb hts hown hK hP 24 (by decide) (hts _ nw_491) rfl nd_M_spend_2 ?_
  refine lv_iload_n hx hb nd_M_spend_5 rfl (zv_at hl 1 rfl) ?_
  refine lv_iadd hx hb nd_M_spend_6 ?_
  refine zm_put_wri hx hb hts hown hK hG hP hS (hts _ nw_491) nd_M_spend_7 (fun H locs hP hS => ?_)
  refine lv_aload_n hx hb nd_M_spend_10 rfl (zv_at hl 0 rfl) ?_
  refine lv_aload_n hx hb nd_M_spend_11 rfl (zv_at hl 0 rfl) ?_
  refine zm_get hx hb hts hown hK hP 23 (by decide) (hts _ nw_490) rfl nd_M_spend_12 ?_
  refine lv_if_ge (tgt := 25) hx hb nd_M_spend_15 (by decide) (fun h_15 => ?_) (fun h_15 => ?_)
  · skip
    refine lv_aload_n hx hb nd_M_spend_25 rfl (zv_at hl 0 rfl) ?_
    refine zm_get hx hb hts hown hK hP 23 (by decide) (hts _ nw_490) rfl nd_M_spend_26 ?_
    refine lv_iload_n hx hb nd_M_spend_29 rfl (zv_at hl 1 rfl) ?_
    refine lv_isub hx hb nd_M_spend_30 ?_
    refine zm_put_lft hx hb hts hown hK hG hP hS (hts _ nw_490) nd_M_spend_31 (fun H locs hP hS => ?_)
    refine zm_vret hx hb hr hlk nd_M_spend_34 hP hS ?_
    unfold zm_spend
    rw [if_pos (show (0 : Int32) ≤ zmD_lft (zm_D T) from h_15)]
    all_goals rfl
  · skip
    refine lv_aload_n hx hb nd_M_spend_18 rfl (zv_at hl 0 rfl) ?_
    refine zm_get hx hb hts hown hK hP 23 (by decide) (hts _ nw_490) rfl nd_M_spend_19 ?_
    refine lv_goto (tgt := 31) hx hb nd_M_spend_22 (by decide) ?_
    refine zm_put_lft hx hb hts hown hK hG hP hS (hts _ nw_490) nd_M_spend_31 (fun H locs hP hS => ?_)
    refine zm_vret hx hb hr hlk nd_M_spend_34 hP hS ?_
    unfold zm_spend
    rw [if_neg (show ¬ (0 : Int32) ≤ zmD_lft (zm_D T) from h_15)]
    all_goals rfl

set_option maxHeartbeats 4000000 in
set_option maxRecDepth 100000 in
theorem c_M_afford (l : Launch) (D : va_G) (G : zh_G) (hG : zw_apart (zm_adr G)) (T : zm_S) (Y : zm_Y) (n : Int32) : Met l ny_M_afford (Cond.code ny_M_afford nc_M_afford 2 (some .boolean) :: zw_big) ({ frames := 1, cells := 0, slots := 0, locals := 21 } : Room) (zw_P [.ref (zh_mdl G), .int n] D (zm_tys G) (zm_cells G T Y)) (zm_Qi D G ((zm_afford (zm_D T) n).1, zm_sD T (zm_afford (zm_D T) n).2)) 0 0 (zm_Ad G) := by
  refine Met.ofW (cc := nc_M_afford) (maxL := 2) (ret := (some .boolean)) (by decide) rfl ?_
  intro p e s m args below meth c s₁ B hml hv
  obtain ⟨rfl, hP, hK⟩ := hv
  have hx := B.exec
  have hb := B.bytes
  have hr := B.returns
  have hts0 := atoms_spec (ws := Cond.code ny_M_afford nc_M_afford 2 (some .boolean) :: zw_big) B.pre
  have hts : ∀ w ∈ zw_big, w.before [.ref (zh_mdl G), .int n].toArray s = true := fun w h => hts0 w (List.mem_cons_of_mem _ h)
  have hown : s.vm.findClass nR_M = some m.cls := findClass_of_methodNamed B.named
  have hlk := B.notSynchronized
  have hS : va_S (zm_Ad G) s.heap s.heap [] := va_S.rf
  have hl := lv_entry ([.ref (zh_mdl G), .int n]) (n := 2) (Nat.le_of_ble_eq_true rfl)
  rw [lg_entry_eq]
  generalize (lg_sl ([.ref (zh_mdl G), .int n]) ++ List.replicate (2 - (lg_sl ([.ref (zh_mdl G), .int n])).length) Slot.unset).toArray = ls at hl ⊢
  have hl : lv_has ls 2 [(0, .ref (zh_mdl G)), (1, .int n)] := hl
  have hF : CallFix p m c nc_M_afford 2 s [.ref (zh_mdl G), .int n].toArray zw_big nR_M := ⟨hx, hb, hml, hown, hts⟩
  refine lv_aload_n hx hb nd_M_afford_0 rfl (zv_at hl 0 rfl) ?_
  refine zm_get hx hb hts hown hK hP 23 (by decide) (hts _ nw_490) rfl nd_M_afford_1 ?_
  refine lv_if_lt (tgt := 15) hx hb nd_M_afford_4 (by decide) (fun h_4 => ?_) (fun h_4 => ?_)
  · skip
    refine lv_aload_n hx hb nd_M_afford_15 rfl (zv_at hl 0 rfl) ?_
    refine lv_iload_n hx hb nd_M_afford_16 rfl (zv_at hl 1 rfl) ?_
    refine zm_vWv (As := [_]) (rest := _) hF (c_M_spend l D G hG _ _ _) (zw_preV hP hK (q0 := 0) (ci := 6) rfl rfl rfl) nk_M_spend nw_578 ⟨rfl, rfl, Nat.le_of_ble_eq_true rfl, Nat.le_of_ble_eq_true rfl⟩ rfl hl.1 rfl (Nat.le_of_ble_eq_true rfl) ⟨Nat.zero_le _, Nat.zero_le _⟩ nd_M_afford_17 hS (fun Y H locs hP hS => ?_)
    refine lv_iconst (v := 1) hx hb nd_M_afford_20 (by decide) ?_
    refine zm_zret hx hb hr hlk nd_M_afford_21 hP hS (by decide) ?_
    unfold zm_afford
    rw [if_pos (show zmD_lft (zm_D T) < 0 from h_4)]
    all_goals rfl
  · skip
    refine lv_aload_n hx hb nd_M_afford_7 rfl (zv_at hl 0 rfl) ?_
    refine zm_get hx hb hts hown hK hP 23 (by decide) (hts _ nw_490) rfl nd_M_afford_8 ?_
    refine lv_iload_n hx hb nd_M_afford_11 rfl (zv_at hl 1 rfl) ?_
    refine lv_icmp_lt (tgt := 22) hx hb nd_M_afford_12 (by decide) (fun h_12 => ?_) (fun h_12 => ?_)
    · skip
      refine lv_aload_n hx hb nd_M_afford_22 rfl (zv_at hl 0 rfl) ?_
      refine lv_aload_n hx hb nd_M_afford_23 rfl (zv_at hl 0 rfl) ?_
      refine zm_get hx hb hts hown hK hP 23 (by decide) (hts _ nw_490) rfl nd_M_afford_24 ?_
      refine zm_vWv (As := [_]) (rest := _) hF (c_M_spend l D G hG _ _ _) (zw_preV hP hK (q0 := 0) (ci := 6) rfl rfl rfl) nk_M_spend nw_578 ⟨rfl, rfl, Nat.le_of_ble_eq_true rfl, Nat.le_of_ble_eq_true rfl⟩ rfl hl.1 rfl (Nat.le_of_ble_eq_true rfl) ⟨Nat.zero_le _, Nat.zero_le _⟩ nd_M_afford_27 hS (fun Y H locs hP hS => ?_)
      refine lv_aload_n hx hb nd_M_afford_30 rfl (zv_at hl 0 rfl) ?_
      refine lv_iconst (v := 1) hx hb nd_M_afford_31 (by decide) ?_
      refine zm_put_stp hx hb hts hown hK hG hP hS (by decide) (hts _ nw_489) nd_M_afford_32 (fun H locs hP hS => ?_)
      refine lv_iconst (v := 0) hx hb nd_M_afford_35 (by decide) ?_
      refine zm_zret hx hb hr hlk nd_M_afford_36 hP hS (by decide) ?_
      unfold zm_afford
      rw [if_neg (show ¬ zmD_lft (zm_D T) < 0 from h_4), if_pos (show zmD_lft (zm_D T) < n from h_12)]
      all_goals rfl
    · skip
      refine lv_aload_n hx hb nd_M_afford_15 rfl (zv_at hl 0 rfl) ?_
      refine lv_iload_n hx hb nd_M_afford_16 rfl (zv_at hl 1 rfl) ?_
      refine zm_vWv (As := [_]) (rest := _) hF (c_M_spend l D G hG _ _ _) (zw_preV hP hK (q0 := 0) (ci := 6) rfl rfl rfl) nk_M_spend nw_578 ⟨rfl, rfl, Nat.le_of_ble_eq_true rfl, Nat.le_of_ble_eq_true rfl⟩ rfl hl.1 rfl (Nat.le_of_ble_eq_true rfl) ⟨Nat.zero_le _, Nat.zero_le _⟩ nd_M_afford_17 hS (fun Y H locs hP hS => ?_)
      refine lv_iconst (v := 1) hx hb nd_M_afford_20 (by decide) ?_
      refine zm_zret hx hb hr hlk nd_M_afford_21 hP hS (by decide) ?_
      unfold zm_afford
      rw [if_neg (show ¬ zmD_lft (zm_D T) < 0 from h_4), if_neg (show ¬ zmD_lft (zm_D T) < n from h_12)]
      all_goals rfl

theorem zm_cnt_next {t n : Int32} {f k : Nat} (h : ¬ f = 0) : zm_cnt t f k n = zm_cnt t (f - 1) (k + 1) (n + (t >>> (nI k &&& 31) &&& 1)) := by
  obtain ⟨j, rfl⟩ : ∃ j, f = j + 1 := ⟨f - 1, by omega⟩
  rw [zm_cnt]; rfl

set_option maxHeartbeats 4000000 in
set_option maxRecDepth 100000 in
theorem c_M_comes (l : Launch) (D : va_G) (G : zh_G) (hG : zw_apart (zm_adr G)) (T : zm_S) (Y : zm_Y) (b set : Int32) : Met l ny_M_comes (Cond.code ny_M_comes nc_M_comes 5 (some .boolean) :: zw_big) ({ frames := 2, cells := 0, slots := 0, locals := 42 } : Room) (zw_P [.ref (zh_mdl G), .int b, .int set] D (zm_tys G) (zm_cells G T Y)) (zm_Qi D G (zm_cm T b set)) 0 0 (zm_Ad G) := by
  refine Met.ofW (cc := nc_M_comes) (maxL := 5) (ret := (some .boolean)) (by decide) rfl ?_
  intro p e s m args below meth c s₁ B hml hv
  obtain ⟨rfl, hP, hK⟩ := hv
  have hx := B.exec
  have hb := B.bytes
  have hr := B.returns
  have hts0 := atoms_spec (ws := Cond.code ny_M_comes nc_M_comes 5 (some .boolean) :: zw_big) B.pre
  have hts : ∀ w ∈ zw_big, w.before [.ref (zh_mdl G), .int b, .int set].toArray s = true := fun w h => hts0 w (List.mem_cons_of_mem _ h)
  have hown : s.vm.findClass nR_M = some m.cls := findClass_of_methodNamed B.named
  have hlk := B.notSynchronized
  have hS : va_S (zm_Ad G) s.heap s.heap [] := va_S.rf
  have hl := lv_entry ([.ref (zh_mdl G), .int b, .int set]) (n := 5) (Nat.le_of_ble_eq_true rfl)
  rw [lg_entry_eq]
  generalize (lg_sl ([.ref (zh_mdl G), .int b, .int set]) ++ List.replicate (5 - (lg_sl ([.ref (zh_mdl G), .int b, .int set])).length) Slot.unset).toArray = ls at hl ⊢
  have hl : lv_has ls 5 [(0, .ref (zh_mdl G)), (1, .int b), (2, .int set)] := hl
  have hF : CallFix p m c nc_M_comes 5 s [.ref (zh_mdl G), .int b, .int set].toArray zw_big nR_M := ⟨hx, hb, hml, hown, hts⟩
  refine zw_cut (σ := zm_TD × zm_Y) 68 (fun x => []) (fun x H locs ls => zm_comes (zm_D T) b set = zm_comes2 x.1 b set ∧ va_P D vwCl (zm_cells G (zm_sD T x.1) x.2) H ∧ va_S (zm_Ad G) s.heap H locs ∧ lv_has ls 5 [(0, .ref (zh_mdl G)), (1, .int b), (2, .int set)]) (fun x H locs ls hI => ?_) (fun hJ68 => ?_)
  · skip
    obtain ⟨d, Y1⟩ := x
    obtain ⟨hJ, hP, hS, hl⟩ := hI
    dsimp only at hJ hP
    refine lv_aload_n hx hb nd_M_comes_68 rfl (zv_at hl 0 rfl) ?_
    refine lv_iload_n hx hb nd_M_comes_69 rfl (zv_at hl 1 rfl) ?_
    refine lv_iconst (v := 1) hx hb nd_M_comes_70 (by decide) ?_
    refine lv_iadd hx hb nd_M_comes_71 ?_
    refine zm_vWi (As := [_]) (rest := _) hF (c_M_afford l D G hG _ _ _) (zw_preV hP hK (q0 := 0) (ci := 6) rfl rfl rfl) nk_M_afford nw_574 ⟨rfl, rfl, Nat.le_of_ble_eq_true rfl, Nat.le_of_ble_eq_true rfl⟩ rfl hl.1 rfl (Nat.le_of_ble_eq_true rfl) ⟨Nat.zero_le _, Nat.zero_le _⟩ nd_M_comes_72 hS (fun Y H locs hP hS => ?_)
    refine lv_if_ne (tgt := 80) hx hb nd_M_comes_75 (by decide) (fun h_75 => ?_) (fun h_75 => ?_)
    · skip
      refine lv_aload_n hx hb nd_M_comes_80 rfl (zv_at hl 0 rfl) ?_
      refine lv_dup hx hb nd_M_comes_81 rfl ?_
      refine zm_get hx hb hts hown hK hP 25 (by decide) (hts _ nw_492) rfl nd_M_comes_82 ?_
      refine lv_iload_n hx hb nd_M_comes_85 rfl (zv_at hl 1 rfl) ?_
      refine lv_iconst (v := 1) hx hb nd_M_comes_86 (by decide) ?_
      refine lv_iadd hx hb nd_M_comes_87 ?_
      refine lv_iadd hx hb nd_M_comes_88 ?_
      refine zm_put_inl hx hb hts hown hK hG hP hS (hts _ nw_492) nd_M_comes_89 (fun H locs hP hS => ?_)
      refine lv_aload_n hx hb nd_M_comes_92 rfl (zv_at hl 0 rfl) ?_
      refine lv_dup hx hb nd_M_comes_93 rfl ?_
      refine zm_get hx hb hts hown hK hP 26 (by decide) (hts _ nw_493) rfl nd_M_comes_94 ?_
      refine lv_iconst (v := 1) hx hb nd_M_comes_97 (by decide) ?_
      refine lv_iadd hx hb nd_M_comes_98 ?_
      refine zm_put_edd hx hb hts hown hK hG hP hS (hts _ nw_493) nd_M_comes_99 (fun H locs hP hS => ?_)
      refine lv_aload_n hx hb nd_M_comes_102 rfl (zv_at hl 0 rfl) ?_
      refine lv_dup hx hb nd_M_comes_103 rfl ?_
      refine zm_get hx hb hts hown hK hP 27 (by decide) (hts _ nw_494) rfl nd_M_comes_104 ?_
      refine lv_iload_n hx hb nd_M_comes_107 rfl (zv_at hl 2 rfl) ?_
      refine lv_ior hx hb nd_M_comes_108 ?_
      refine zm_put_tch hx hb hts hown hK hG hP hS (hts _ nw_494) nd_M_comes_109 (fun H locs hP hS => ?_)
      refine lv_iconst (v := 1) hx hb nd_M_comes_112 (by decide) ?_
      refine zm_zret hx hb hr hlk nd_M_comes_113 hP hS (by decide) ?_
      unfold zm_cm
      rw [hJ]
      unfold zm_comes2
      rw [if_neg (show ¬ (zm_afford d (b + 1)).1 = 0 from h_75)]
      all_goals rfl
    · skip
      refine lv_iconst (v := 0) hx hb nd_M_comes_78 (by decide) ?_
      refine zm_zret hx hb hr hlk nd_M_comes_79 hP hS (by decide) ?_
      unfold zm_cm
      rw [hJ]
      unfold zm_comes2
      rw [if_pos (show (zm_afford d (b + 1)).1 = 0 from h_75)]
      all_goals rfl
  refine lv_aload_n hx hb nd_M_comes_0 rfl (zv_at hl 0 rfl) ?_
  refine zm_get hx hb hts hown hK hP 25 (by decide) (hts _ nw_492) rfl nd_M_comes_1 ?_
  refine lv_iload_n hx hb nd_M_comes_4 rfl (zv_at hl 1 rfl) ?_
  refine lv_iadd hx hb nd_M_comes_5 ?_
  refine lv_iconst (v := 1) hx hb nd_M_comes_6 (by decide) ?_
  refine lv_iadd hx hb nd_M_comes_7 ?_
  refine lv_bipush (v := 24) hx hb nd_M_comes_8 (by decide) ?_
  refine lv_icmp_le (tgt := 68) hx hb nd_M_comes_10 (by decide) (fun h_10 => ?_) (fun h_10 => ?_)
  · skip
    exact hJ68 (zm_D T, Y) _ _ _ ⟨by unfold zm_comes; rw [if_pos (show zmD_inl (zm_D T) + b + 1 ≤ 24 from h_10)], hP, hS, zv_sub hl (by intro q hq; simp only [List.mem_cons, List.not_mem_nil, or_false] at hq; rcases hq with rfl | rfl | rfl <;> rfl)⟩
  · skip
    refine lv_iconst (v := 1) hx hb nd_M_comes_13 (by decide) ?_
    refine lv_istore_n hx hb nd_M_comes_14 rfl hl (by decide) rfl (fun ls hl => ?_)
    refine lv_iconst (v := 0) hx hb nd_M_comes_15 (by decide) ?_
    refine lv_istore hx hb nd_M_comes_16 hl (by decide) rfl (fun ls hl => ?_)
    refine zw_loop (σ := Nat × Int32) (fun f x H locs ls => H = s.heap ∧ locs = [] ∧ x.1 + f = 6 ∧ zm_cnt (zm_tch T) 6 0 1 = zm_cnt (zm_tch T) f x.1 x.2 ∧ lv_has ls 5 [(0, .ref (zh_mdl G)), (1, .int b), (2, .int set), (3, .int x.2), (4, .int (nI x.1))]) ?_ 6 (0, 1) ⟨rfl, rfl, by simp, rfl, zv_sub hl (by intro q hq; simp only [List.mem_cons, List.not_mem_nil, or_false] at hq; rcases hq with rfl | rfl | rfl | rfl | rfl <;> rfl)⟩
    rintro f ⟨k, n⟩ H locs ls hI9 ih
    obtain ⟨hH, hL, hik, hE, hl⟩ := hI9
    dsimp only at hik hE hl
    subst hH
    subst hL
    refine lv_iload hx hb nd_M_comes_18 (zv_at hl 4 rfl) ?_
    refine lv_bipush (v := 6) hx hb nd_M_comes_20 (by decide) ?_
    refine lv_icmp_ge (tgt := 43) hx hb nd_M_comes_22 (by decide) (fun h_22 => ?_) (fun h_22 => ?_)
    · skip
      have hk0 : f = 0 := by
        have := (nI_leI (a := 6) (b := k) (by omega) (by omega)).mp h_22
        omega
      subst hk0
      have hE : zm_cnt (zm_tch T) 6 0 1 = n := hE
      subst hE
      refine lv_aload_n hx hb nd_M_comes_43 rfl (zv_at hl 0 rfl) ?_
      refine lv_iload_n hx hb nd_M_comes_44 rfl (zv_at hl 3 rfl) ?_
      refine zm_vWi (As := [_]) (rest := _) hF (c_M_afford l D G hG _ _ _) (zw_preV hP hK (q0 := 0) (ci := 6) rfl rfl rfl) nk_M_afford nw_574 ⟨rfl, rfl, Nat.le_of_ble_eq_true rfl, Nat.le_of_ble_eq_true rfl⟩ rfl hl.1 rfl (Nat.le_of_ble_eq_true rfl) ⟨Nat.zero_le _, Nat.zero_le _⟩ nd_M_comes_45 hS (fun Y H locs hP hS => ?_)
      refine lv_if_ne (tgt := 53) hx hb nd_M_comes_48 (by decide) (fun h_48 => ?_) (fun h_48 => ?_)
      · skip
        refine lv_aload_n hx hb nd_M_comes_53 rfl (zv_at hl 0 rfl) ?_
        refine lv_iconst (v := 0) hx hb nd_M_comes_54 (by decide) ?_
        refine zm_put_inl hx hb hts hown hK hG hP hS (hts _ nw_492) nd_M_comes_55 (fun H locs hP hS => ?_)
        refine lv_aload_n hx hb nd_M_comes_58 rfl (zv_at hl 0 rfl) ?_
        refine lv_iconst (v := 0) hx hb nd_M_comes_59 (by decide) ?_
        refine zm_put_edd hx hb hts hown hK hG hP hS (hts _ nw_493) nd_M_comes_60 (fun H locs hP hS => ?_)
        refine lv_aload_n hx hb nd_M_comes_63 rfl (zv_at hl 0 rfl) ?_
        refine lv_iconst (v := 0) hx hb nd_M_comes_64 (by decide) ?_
        refine zm_put_tch hx hb hts hown hK hG hP hS (hts _ nw_494) nd_M_comes_65 (fun H locs hP hS => ?_)
        exact hJ68 (zmD_stch (zmD_sedd (zmD_sinl (zm_afford (zm_D T) (zm_cnt (zmD_tch (zm_D T)) 6 0 1)).2 0) 0) 0, _) _ _ _ ⟨by unfold zm_comes; rw [if_neg (show ¬ zmD_inl (zm_D T) + b + 1 ≤ 24 from h_10), if_neg (show ¬ (zm_afford (zm_D T) (zm_cnt (zmD_tch (zm_D T)) 6 0 1)).1 = 0 from h_48)], hP, hS, zv_sub hl (by intro q hq; simp only [List.mem_cons, List.not_mem_nil, or_false] at hq; rcases hq with rfl | rfl | rfl <;> rfl)⟩
      · skip
        refine lv_iconst (v := 0) hx hb nd_M_comes_51 (by decide) ?_
        refine zm_zret hx hb hr hlk nd_M_comes_52 hP hS (by decide) ?_
        unfold zm_cm zm_comes
        rw [if_neg (show ¬ zmD_inl (zm_D T) + b + 1 ≤ 24 from h_10), if_pos (show (zm_afford (zm_D T) (zm_cnt (zmD_tch (zm_D T)) 6 0 1)).1 = 0 from h_48)]
        all_goals rfl
    · skip
      have hk6 : k < 6 := Nat.lt_of_not_le fun q => h_22 (nI_le (a := 6) q (by omega))
      refine lv_iload_n hx hb nd_M_comes_25 rfl (zv_at hl 3 rfl) ?_
      refine lv_aload_n hx hb nd_M_comes_26 rfl (zv_at hl 0 rfl) ?_
      refine zm_get hx hb hts hown hK hP 27 (by decide) (hts _ nw_494) rfl nd_M_comes_27 ?_
      refine lv_iload hx hb nd_M_comes_30 (zv_at hl 4 rfl) ?_
      refine lv_ishr hx hb nd_M_comes_32 ?_
      refine lv_iconst (v := 1) hx hb nd_M_comes_33 (by decide) ?_
      refine lv_iand hx hb nd_M_comes_34 ?_
      refine lv_iadd hx hb nd_M_comes_35 ?_
      refine lv_istore_n hx hb nd_M_comes_36 rfl hl (by decide) rfl (fun ls hl => ?_)
      refine zv_iinc (v := nI (k + 1)) hx hb nd_M_comes_37 hl rfl ((nI_succ k).symm) (by decide) rfl (fun ls hl => ?_)
      refine lv_goto (tgt := 18) hx hb nd_M_comes_40 (by decide) ?_
      exact ih (f - 1) (k + 1, n + (zm_tch T >>> (nI k &&& 31) &&& 1)) _ _ _ (by omega) ⟨rfl, rfl, by show k + 1 + (f - 1) = 6; omega, by rw [hE, zm_cnt_next (by omega)], zv_sub hl (by intro q hq; simp only [List.mem_cons, List.not_mem_nil, or_false] at hq; rcases hq with rfl | rfl | rfl | rfl | rfl <;> rfl)⟩

theorem zm_freeL_next {T : zm_S} {a : Int32} {f k : Nat} {n : Int64} (h : ¬ f = 0) : zm_freeL T a f k n = zm_freeL T a (f - 1) (k + 1) (n - zm_held1 T a k) := by
  obtain ⟨j, rfl⟩ : ∃ j, f = j + 1 := ⟨f - 1, by omega⟩
  rw [zm_freeL]; rfl

set_option maxHeartbeats 4000000 in
set_option maxRecDepth 100000 in
theorem c_M_free (l : Launch) (D : va_G) (G : zh_G) (T : zm_S) (Y : zm_Y) (x : Int32) (hx6 : vp_in x 6) : Met l ny_M_free (Cond.code ny_M_free nc_M_free 5 (some .long) :: zw_big) ({ frames := 0, cells := 0, slots := 0, locals := 0 } : Room) (zw_P [.ref (zh_mdl G), .int x] D (zm_tys G) (zm_cells G T Y)) (zw_R (.long (zm_free T x))) 0 0 (fun _ => False) := by
  refine Met.ofW (cc := nc_M_free) (maxL := 5) (ret := (some .long)) (by decide) rfl ?_
  intro p e s m args below meth c s₁ B hml hv
  obtain ⟨rfl, hP, hK⟩ := hv
  have hx := B.exec
  have hb := B.bytes
  have hr := B.returns
  have hts0 := atoms_spec (ws := Cond.code ny_M_free nc_M_free 5 (some .long) :: zw_big) B.pre
  have hts : ∀ w ∈ zw_big, w.before [.ref (zh_mdl G), .int x].toArray s = true := fun w h => hts0 w (List.mem_cons_of_mem _ h)
  have hown : s.vm.findClass nR_M = some m.cls := findClass_of_methodNamed B.named
  have hlk := B.notSynchronized
  have hl := lv_entry ([.ref (zh_mdl G), .int x]) (n := 5) (Nat.le_of_ble_eq_true rfl)
  rw [lg_entry_eq]
  generalize (lg_sl ([.ref (zh_mdl G), .int x]) ++ List.replicate (5 - (lg_sl ([.ref (zh_mdl G), .int x])).length) Slot.unset).toArray = ls at hl ⊢
  have hl : lv_has ls 5 [(0, .ref (zh_mdl G)), (1, .int x)] := hl
  have hF : CallFix p m c nc_M_free 5 s [.ref (zh_mdl G), .int x].toArray zw_big nR_M := ⟨hx, hb, hml, hown, hts⟩
  refine lv_aload_n hx hb nd_M_free_0 rfl (zv_at hl 0 rfl) ?_
  refine zm_get hx hb hts hown hK hP 6 (by decide) (hts _ nw_473) rfl nd_M_free_1 ?_
  refine lv_iload_n hx hb nd_M_free_4 rfl (zv_at hl 1 rfl) ?_
  refine zm_ald_mon hx hb hK hP (by assumption) nd_M_free_5 ?_
  refine lv_aload_n hx hb nd_M_free_6 rfl (zv_at hl 0 rfl) ?_
  refine zm_get hx hb hts hown hK hP 3 (by decide) (hts _ nw_470) rfl nd_M_free_7 ?_
  refine lv_iload_n hx hb nd_M_free_10 rfl (zv_at hl 1 rfl) ?_
  refine zm_ald_lim hx hb hK hP (by assumption) nd_M_free_11 ?_
  refine lv_i2l (v := _) hx hb nd_M_free_12 rfl ?_
  refine lv_ladd hx hb nd_M_free_13 ?_
  refine lv_lstore_n hx hb nd_M_free_14 rfl hl (by decide) rfl (fun ls hl => ?_)
  refine lv_iconst (v := 0) hx hb nd_M_free_15 (by decide) ?_
  refine lv_istore hx hb nd_M_free_16 hl (by decide) rfl (fun ls hl => ?_)
  refine zw_loop (σ := Nat × Int64) (fun f y H locs ls => H = s.heap ∧ locs = [] ∧ y.1 + f = 8 ∧ zm_free T x = zm_freeL T x f y.1 y.2 ∧ lv_has ls 5 [(0, .ref (zh_mdl G)), (1, .int x), (2, .long y.2), (4, .int (nI y.1))]) ?_ 8 (0, zm_mon T x.toNatClampNeg + (zm_lim T x.toNatClampNeg).toInt64) ⟨rfl, rfl, by simp, rfl, zv_sub hl (by intro q hq; simp only [List.mem_cons, List.not_mem_nil, or_false] at hq; rcases hq with rfl | rfl | rfl | rfl <;> rfl)⟩
  rintro f ⟨k, n⟩ H locs ls hI9 ih
  obtain ⟨hH, hL, hik, hE, hl⟩ := hI9
  dsimp only at hik hE hl
  subst hH
  subst hL
  refine lv_iload hx hb nd_M_free_18 (zv_at hl 4 rfl) ?_
  refine lv_bipush (v := 8) hx hb nd_M_free_20 (by decide) ?_
  refine lv_icmp_ge (tgt := 67) hx hb nd_M_free_22 (by decide) (fun h_22 => ?_) (fun h_22 => ?_)
  · skip
    have hk0 : f = 0 := by
      have := (nI_leI (a := 8) (b := k) (by omega) (by omega)).mp h_22
      omega
    subst hk0
    refine lv_lload_n hx hb nd_M_free_67 rfl (zv_at hl 2 rfl) ?_
    refine zw_lret hx hb hr hlk nd_M_free_68 ?_
    rw [hE]
    all_goals rfl
  · skip
    have hk8 : k < 8 := Nat.lt_of_not_le fun q => h_22 (nI_le (a := 8) q (by omega))
    refine zw_cut (σ := Int64) 59 (fun z => [.long z, .long n]) (fun z H locs ls => H = s.heap ∧ locs = [] ∧ z = zm_held1 T x k ∧ lv_has ls 5 [(0, .ref (zh_mdl G)), (1, .int x), (2, .long n), (4, .int (nI k))]) (fun v H locs ls hI9 => ?_) (fun hJ59 => ?_)
    · skip
      obtain ⟨hH, hL, hv, hl⟩ := hI9
      subst hH
      subst hL
      subst hv
      refine lv_lsub hx hb nd_M_free_59 ?_
      refine lv_lstore_n hx hb nd_M_free_60 rfl hl (by decide) rfl (fun ls hl => ?_)
      refine zv_iinc (v := nI (k + 1)) hx hb nd_M_free_61 hl rfl ((nI_succ k).symm) (by decide) rfl (fun ls hl => ?_)
      refine lv_goto (tgt := 18) hx hb nd_M_free_64 (by decide) ?_
      exact ih (f - 1) (k + 1, n - zm_held1 T x k) _ _ _ (by omega) ⟨rfl, rfl, by show k + 1 + (f - 1) = 8; omega, by rw [hE, zm_freeL_next (by omega)], zv_sub hl (by intro q hq; simp only [List.mem_cons, List.not_mem_nil, or_false] at hq; rcases hq with rfl | rfl | rfl | rfl <;> rfl)⟩
    refine lv_lload_n hx hb nd_M_free_25 rfl (zv_at hl 2 rfl) ?_
    refine lv_aload_n hx hb nd_M_free_26 rfl (zv_at hl 0 rfl) ?_
    refine zm_get hx hb hts hown hK hP 9 (by decide) (hts _ nw_476) rfl nd_M_free_27 ?_
    refine lv_iload hx hb nd_M_free_30 (zv_at hl 4 rfl) ?_
    refine zm_aldN_ham hx hb hK hP hk8 nd_M_free_32 ?_
    refine lv_if_le (tgt := 58) hx hb nd_M_free_33 (by decide) (fun h_33 => ?_) (fun h_33 => ?_)
    · skip
      refine lv_lconst (v := 0) hx hb nd_M_free_58 (by decide) ?_
      exact hJ59 (0) _ _ _ ⟨rfl, rfl, by unfold zm_held1; rw [if_pos h_33], zv_sub hl (by intro q hq; simp only [List.mem_cons, List.not_mem_nil, or_false] at hq; rcases hq with rfl | rfl | rfl | rfl <;> rfl)⟩
    · skip
      refine lv_aload_n hx hb nd_M_free_36 rfl (zv_at hl 0 rfl) ?_
      refine zm_get hx hb hts hown hK hP 8 (by decide) (hts _ nw_475) rfl nd_M_free_37 ?_
      refine lv_iload hx hb nd_M_free_40 (zv_at hl 4 rfl) ?_
      refine zm_aldN_hof hx hb hK hP hk8 nd_M_free_42 ?_
      refine lv_iload_n hx hb nd_M_free_43 rfl (zv_at hl 1 rfl) ?_
      refine lv_icmp_ne (tgt := 58) hx hb nd_M_free_44 (by decide) (fun h_44 => ?_) (fun h_44 => ?_)
      · skip
        refine lv_lconst (v := 0) hx hb nd_M_free_58 (by decide) ?_
        exact hJ59 (0) _ _ _ ⟨rfl, rfl, by unfold zm_held1; rw [if_neg h_33, if_neg h_44], zv_sub hl (by intro q hq; simp only [List.mem_cons, List.not_mem_nil, or_false] at hq; rcases hq with rfl | rfl | rfl | rfl <;> rfl)⟩
      · skip
        refine lv_aload_n hx hb nd_M_free_47 rfl (zv_at hl 0 rfl) ?_
        refine zm_get hx hb hts hown hK hP 9 (by decide) (hts _ nw_476) rfl nd_M_free_48 ?_
        refine lv_iload hx hb nd_M_free_51 (zv_at hl 4 rfl) ?_
        refine zm_aldN_ham hx hb hK hP hk8 nd_M_free_53 ?_
        refine lv_i2l (v := _) hx hb nd_M_free_54 rfl ?_
        refine lv_goto (tgt := 59) hx hb nd_M_free_55 (by decide) ?_
        exact hJ59 ((zm_ham T k).toInt64) _ _ _ ⟨rfl, rfl, by unfold zm_held1; rw [if_neg h_33, if_pos h_44], zv_sub hl (by intro q hq; simp only [List.mem_cons, List.not_mem_nil, or_false] at hq; rcases hq with rfl | rfl | rfl | rfl <;> rfl)⟩

theorem zm_known_spec {T : zm_S} {x y : Int32} (hI : zm_I T) (h : ¬ zm_known T x y = 0) : (x = -1 ∨ ∃ j, j < 6 ∧ x = nI j) ∧ (y = -1 ∨ ∃ j, j < 6 ∧ y = nI j) ∧ ¬ x = y := by
  unfold zm_known at h
  dsimp only at h
  by_cases h1 : (if x = -1 then 1 else zm_is T x) = 0
  · rw [if_pos h1] at h; exact absurd rfl h
  · rw [if_neg h1] at h
    by_cases h2 : (if y = -1 then 1 else zm_is T y) = 0
    · rw [if_pos h2] at h; exact absurd rfl h
    · rw [if_neg h2] at h
      by_cases h3 : x = y
      · rw [if_pos h3] at h; exact absurd rfl h
      · refine ⟨?_, ?_, h3⟩
        · by_cases q : x = -1
          · exact Or.inl q
          · rw [if_neg q] at h1; exact Or.inr (zm_is_nat hI h1)
        · by_cases q : y = -1
          · exact Or.inl q
          · rw [if_neg q] at h2; exact Or.inr (zm_is_nat hI h2)
theorem zm_pair_known {T : zm_S} {x y : Int32} (h : ¬ zm_pair T x y = 0) : ¬ zm_known T x y = 0 := by
  intro q
  unfold zm_pair at h
  rw [if_pos q] at h
  exact h rfl

set_option maxHeartbeats 4000000 in
set_option maxRecDepth 100000 in
theorem c_M_pair (l : Launch) (D : va_G) (G : zh_G) (T : zm_S) (Y : zm_Y) (x y : Int32) (hI : zm_I T) : Met l ny_M_pair (Cond.code ny_M_pair nc_M_pair 4 (some .boolean) :: zw_big) ({ frames := 1, cells := 0, slots := 0, locals := 21 } : Room) (zw_P [.ref (zh_mdl G), .int x, .int y] D (zm_tys G) (zm_cells G T Y)) (zw_R (.int (zm_pair T x y))) 0 0 (fun _ => False) := by
  refine Met.ofW (cc := nc_M_pair) (maxL := 4) (ret := (some .boolean)) (by decide) rfl ?_
  intro p e s m args below meth c s₁ B hml hv
  obtain ⟨rfl, hP, hK⟩ := hv
  have hx := B.exec
  have hb := B.bytes
  have hr := B.returns
  have hts0 := atoms_spec (ws := Cond.code ny_M_pair nc_M_pair 4 (some .boolean) :: zw_big) B.pre
  have hts : ∀ w ∈ zw_big, w.before [.ref (zh_mdl G), .int x, .int y].toArray s = true := fun w h => hts0 w (List.mem_cons_of_mem _ h)
  have hown : s.vm.findClass nR_M = some m.cls := findClass_of_methodNamed B.named
  have hlk := B.notSynchronized
  have hl := lv_entry ([.ref (zh_mdl G), .int x, .int y]) (n := 4) (Nat.le_of_ble_eq_true rfl)
  rw [lg_entry_eq]
  generalize (lg_sl ([.ref (zh_mdl G), .int x, .int y]) ++ List.replicate (4 - (lg_sl ([.ref (zh_mdl G), .int x, .int y])).length) Slot.unset).toArray = ls at hl ⊢
  have hl : lv_has ls 4 [(0, .ref (zh_mdl G)), (1, .int x), (2, .int y)] := hl
  have hF : CallFix p m c nc_M_pair 4 s [.ref (zh_mdl G), .int x, .int y].toArray zw_big nR_M := ⟨hx, hb, hml, hown, hts⟩
  have hI00 := hI
  refine zw_cut (σ := Int32) 36 (fun z => [.int z]) (fun z H locs ls => H = s.heap ∧ locs = [] ∧ z = zm_known T x y ∧ lv_has ls 4 [(0, .ref (zh_mdl G)), (1, .int x), (2, .int y)]) (fun z H locs ls hI => ?_) (fun hJ36 => ?_)
  · skip
    obtain ⟨hH, hL, hv, hl⟩ := hI
    subst hH
    subst hL
    subst hv
    have hI := hI00
    refine lv_istore_n hx hb nd_M_pair_36 rfl hl (by decide) rfl (fun ls hl => ?_)
    refine lv_iload_n hx hb nd_M_pair_37 rfl (zv_at hl 3 rfl) ?_
    refine lv_if_eq (tgt := 70) hx hb nd_M_pair_38 (by decide) (fun h_38 => ?_) (fun h_38 => ?_)
    · skip
      refine lv_iconst (v := 0) hx hb nd_M_pair_70 (by decide) ?_
      refine zw_zret hx hb hr hlk nd_M_pair_71 (by decide) ?_
      unfold zm_pair
      all_goals (try unfold zm_pair2)
      all_goals (try dsimp only)
      all_goals (try rw [if_pos h_38])
      all_goals rfl
    · skip
      refine lv_iload_n hx hb nd_M_pair_41 rfl (zv_at hl 1 rfl) ?_
      refine lv_iconst (v := -1) hx hb nd_M_pair_42 (by decide) ?_
      refine lv_icmp_eq (tgt := 66) hx hb nd_M_pair_43 (by decide) (fun h_43 => ?_) (fun h_43 => ?_)
      · skip
        refine lv_iconst (v := 1) hx hb nd_M_pair_66 (by decide) ?_
        refine lv_goto (tgt := 71) hx hb nd_M_pair_67 (by decide) ?_
        refine zw_zret hx hb hr hlk nd_M_pair_71 (by decide) ?_
        unfold zm_pair
        all_goals (try unfold zm_pair2)
        all_goals (try dsimp only)
        all_goals (try rw [if_neg h_38])
        all_goals (try rw [if_pos h_43])
        all_goals rfl
      · skip
        refine lv_iload_n hx hb nd_M_pair_46 rfl (zv_at hl 2 rfl) ?_
        refine lv_iconst (v := -1) hx hb nd_M_pair_47 (by decide) ?_
        refine lv_icmp_eq (tgt := 66) hx hb nd_M_pair_48 (by decide) (fun h_48 => ?_) (fun h_48 => ?_)
        · skip
          refine lv_iconst (v := 1) hx hb nd_M_pair_66 (by decide) ?_
          refine lv_goto (tgt := 71) hx hb nd_M_pair_67 (by decide) ?_
          refine zw_zret hx hb hr hlk nd_M_pair_71 (by decide) ?_
          unfold zm_pair
          all_goals (try unfold zm_pair2)
          all_goals (try dsimp only)
          all_goals (try rw [if_neg h_38])
          all_goals (try rw [if_neg h_43])
          all_goals (try rw [if_pos h_48])
          all_goals rfl
        · skip
          obtain ⟨hkx, hky, -⟩ := zm_known_spec hI h_38
          have hx6 : vp_in x 6 := zm_in_of (hkx.resolve_left h_43)
          have hy6 : vp_in y 6 := zm_in_of (hky.resolve_left h_48)
          refine lv_aload_n hx hb nd_M_pair_51 rfl (zv_at hl 0 rfl) ?_
          refine zm_get hx hb hts hown hK hP 1 (by decide) (hts _ nw_468) rfl nd_M_pair_52 ?_
          refine lv_iload_n hx hb nd_M_pair_55 rfl (zv_at hl 1 rfl) ?_
          refine zm_ald_cur hx hb hK hP (by assumption) nd_M_pair_56 ?_
          refine lv_aload_n hx hb nd_M_pair_57 rfl (zv_at hl 0 rfl) ?_
          refine zm_get hx hb hts hown hK hP 1 (by decide) (hts _ nw_468) rfl nd_M_pair_58 ?_
          refine lv_iload_n hx hb nd_M_pair_61 rfl (zv_at hl 2 rfl) ?_
          refine zm_ald_cur hx hb hK hP (by assumption) nd_M_pair_62 ?_
          refine lv_icmp_ne (tgt := 70) hx hb nd_M_pair_63 (by decide) (fun h_63 => ?_) (fun h_63 => ?_)
          · skip
            refine lv_iconst (v := 0) hx hb nd_M_pair_70 (by decide) ?_
            refine zw_zret hx hb hr hlk nd_M_pair_71 (by decide) ?_
            unfold zm_pair
            all_goals (try unfold zm_pair2)
            all_goals (try dsimp only)
            all_goals (try rw [if_neg h_38])
            all_goals (try rw [if_neg h_43])
            all_goals (try rw [if_neg h_48])
            all_goals (try rw [if_neg h_63])
            all_goals rfl
          · skip
            refine lv_iconst (v := 1) hx hb nd_M_pair_66 (by decide) ?_
            refine lv_goto (tgt := 71) hx hb nd_M_pair_67 (by decide) ?_
            refine zw_zret hx hb hr hlk nd_M_pair_71 (by decide) ?_
            unfold zm_pair
            all_goals (try unfold zm_pair2)
            all_goals (try dsimp only)
            all_goals (try rw [if_neg h_38])
            all_goals (try rw [if_neg h_43])
            all_goals (try rw [if_neg h_48])
            all_goals (try rw [if_pos h_63])
            all_goals rfl
  refine lv_iload_n hx hb nd_M_pair_0 rfl (zv_at hl 1 rfl) ?_
  refine lv_iconst (v := -1) hx hb nd_M_pair_1 (by decide) ?_
  refine lv_icmp_eq (tgt := 13) hx hb nd_M_pair_2 (by decide) (fun h_2 => ?_) (fun h_2 => ?_)
  · skip
    refine lv_iload_n hx hb nd_M_pair_13 rfl (zv_at hl 2 rfl) ?_
    refine lv_iconst (v := -1) hx hb nd_M_pair_14 (by decide) ?_
    refine lv_icmp_eq (tgt := 26) hx hb nd_M_pair_15 (by decide) (fun h_15 => ?_) (fun h_15 => ?_)
    · skip
      refine lv_iload_n hx hb nd_M_pair_26 rfl (zv_at hl 1 rfl) ?_
      refine lv_iload_n hx hb nd_M_pair_27 rfl (zv_at hl 2 rfl) ?_
      refine lv_icmp_eq (tgt := 35) hx hb nd_M_pair_28 (by decide) (fun h_28 => ?_) (fun h_28 => ?_)
      · skip
        refine lv_iconst (v := 0) hx hb nd_M_pair_35 (by decide) ?_
        exact hJ36 0 _ _ _ ⟨rfl, rfl, Eq.symm (by unfold zm_known; dsimp only; rw [if_pos h_2, if_neg (show ¬ (1 : Int32) = 0 by decide)]; rw [if_pos h_15, if_neg (show ¬ (1 : Int32) = 0 by decide)]; rw [if_pos h_28]), hl⟩
      · skip
        refine lv_iconst (v := 1) hx hb nd_M_pair_31 (by decide) ?_
        refine lv_goto (tgt := 36) hx hb nd_M_pair_32 (by decide) ?_
        exact hJ36 1 _ _ _ ⟨rfl, rfl, Eq.symm (by unfold zm_known; dsimp only; rw [if_pos h_2, if_neg (show ¬ (1 : Int32) = 0 by decide)]; rw [if_pos h_15, if_neg (show ¬ (1 : Int32) = 0 by decide)]; rw [if_neg h_28]), hl⟩
    · skip
      refine lv_aload_n hx hb nd_M_pair_18 rfl (zv_at hl 0 rfl) ?_
      refine lv_iload_n hx hb nd_M_pair_19 rfl (zv_at hl 2 rfl) ?_
      refine zw_vR (As := [_]) (rest := _) hF (c_M_is l D G _ _ _) (zw_preV hP hK (q0 := 0) (ci := 6) rfl rfl rfl) nk_M_is nw_590 ⟨rfl, rfl, Nat.le_of_ble_eq_true rfl, Nat.le_of_ble_eq_true rfl⟩ rfl hl.1 rfl (Nat.le_of_ble_eq_true rfl) ⟨Nat.zero_le _, Nat.zero_le _⟩ nd_M_pair_20 ?_
      refine lv_if_eq (tgt := 35) hx hb nd_M_pair_23 (by decide) (fun h_23 => ?_) (fun h_23 => ?_)
      · skip
        refine lv_iconst (v := 0) hx hb nd_M_pair_35 (by decide) ?_
        exact hJ36 0 _ _ _ ⟨rfl, rfl, Eq.symm (by unfold zm_known; dsimp only; rw [if_pos h_2, if_neg (show ¬ (1 : Int32) = 0 by decide)]; rw [if_neg h_15, if_pos h_23]), hl⟩
      · skip
        refine lv_iload_n hx hb nd_M_pair_26 rfl (zv_at hl 1 rfl) ?_
        refine lv_iload_n hx hb nd_M_pair_27 rfl (zv_at hl 2 rfl) ?_
        refine lv_icmp_eq (tgt := 35) hx hb nd_M_pair_28 (by decide) (fun h_28 => ?_) (fun h_28 => ?_)
        · skip
          refine lv_iconst (v := 0) hx hb nd_M_pair_35 (by decide) ?_
          exact hJ36 0 _ _ _ ⟨rfl, rfl, Eq.symm (by unfold zm_known; dsimp only; rw [if_pos h_2, if_neg (show ¬ (1 : Int32) = 0 by decide)]; rw [if_neg h_15, if_neg h_23]; rw [if_pos h_28]), hl⟩
        · skip
          refine lv_iconst (v := 1) hx hb nd_M_pair_31 (by decide) ?_
          refine lv_goto (tgt := 36) hx hb nd_M_pair_32 (by decide) ?_
          exact hJ36 1 _ _ _ ⟨rfl, rfl, Eq.symm (by unfold zm_known; dsimp only; rw [if_pos h_2, if_neg (show ¬ (1 : Int32) = 0 by decide)]; rw [if_neg h_15, if_neg h_23]; rw [if_neg h_28]), hl⟩
  · skip
    refine lv_aload_n hx hb nd_M_pair_5 rfl (zv_at hl 0 rfl) ?_
    refine lv_iload_n hx hb nd_M_pair_6 rfl (zv_at hl 1 rfl) ?_
    refine zw_vR (As := [_]) (rest := _) hF (c_M_is l D G _ _ _) (zw_preV hP hK (q0 := 0) (ci := 6) rfl rfl rfl) nk_M_is nw_590 ⟨rfl, rfl, Nat.le_of_ble_eq_true rfl, Nat.le_of_ble_eq_true rfl⟩ rfl hl.1 rfl (Nat.le_of_ble_eq_true rfl) ⟨Nat.zero_le _, Nat.zero_le _⟩ nd_M_pair_7 ?_
    refine lv_if_eq (tgt := 35) hx hb nd_M_pair_10 (by decide) (fun h_10 => ?_) (fun h_10 => ?_)
    · skip
      refine lv_iconst (v := 0) hx hb nd_M_pair_35 (by decide) ?_
      exact hJ36 0 _ _ _ ⟨rfl, rfl, Eq.symm (by unfold zm_known; dsimp only; rw [if_neg h_2, if_pos h_10]), hl⟩
    · skip
      refine lv_iload_n hx hb nd_M_pair_13 rfl (zv_at hl 2 rfl) ?_
      refine lv_iconst (v := -1) hx hb nd_M_pair_14 (by decide) ?_
      refine lv_icmp_eq (tgt := 26) hx hb nd_M_pair_15 (by decide) (fun h_15 => ?_) (fun h_15 => ?_)
      · skip
        refine lv_iload_n hx hb nd_M_pair_26 rfl (zv_at hl 1 rfl) ?_
        refine lv_iload_n hx hb nd_M_pair_27 rfl (zv_at hl 2 rfl) ?_
        refine lv_icmp_eq (tgt := 35) hx hb nd_M_pair_28 (by decide) (fun h_28 => ?_) (fun h_28 => ?_)
        · skip
          refine lv_iconst (v := 0) hx hb nd_M_pair_35 (by decide) ?_
          exact hJ36 0 _ _ _ ⟨rfl, rfl, Eq.symm (by unfold zm_known; dsimp only; rw [if_neg h_2, if_neg h_10]; rw [if_pos h_15, if_neg (show ¬ (1 : Int32) = 0 by decide)]; rw [if_pos h_28]), hl⟩
        · skip
          refine lv_iconst (v := 1) hx hb nd_M_pair_31 (by decide) ?_
          refine lv_goto (tgt := 36) hx hb nd_M_pair_32 (by decide) ?_
          exact hJ36 1 _ _ _ ⟨rfl, rfl, Eq.symm (by unfold zm_known; dsimp only; rw [if_neg h_2, if_neg h_10]; rw [if_pos h_15, if_neg (show ¬ (1 : Int32) = 0 by decide)]; rw [if_neg h_28]), hl⟩
      · skip
        refine lv_aload_n hx hb nd_M_pair_18 rfl (zv_at hl 0 rfl) ?_
        refine lv_iload_n hx hb nd_M_pair_19 rfl (zv_at hl 2 rfl) ?_
        refine zw_vR (As := [_]) (rest := _) hF (c_M_is l D G _ _ _) (zw_preV hP hK (q0 := 0) (ci := 6) rfl rfl rfl) nk_M_is nw_590 ⟨rfl, rfl, Nat.le_of_ble_eq_true rfl, Nat.le_of_ble_eq_true rfl⟩ rfl hl.1 rfl (Nat.le_of_ble_eq_true rfl) ⟨Nat.zero_le _, Nat.zero_le _⟩ nd_M_pair_20 ?_
        refine lv_if_eq (tgt := 35) hx hb nd_M_pair_23 (by decide) (fun h_23 => ?_) (fun h_23 => ?_)
        · skip
          refine lv_iconst (v := 0) hx hb nd_M_pair_35 (by decide) ?_
          exact hJ36 0 _ _ _ ⟨rfl, rfl, Eq.symm (by unfold zm_known; dsimp only; rw [if_neg h_2, if_neg h_10]; rw [if_neg h_15, if_pos h_23]), hl⟩
        · skip
          refine lv_iload_n hx hb nd_M_pair_26 rfl (zv_at hl 1 rfl) ?_
          refine lv_iload_n hx hb nd_M_pair_27 rfl (zv_at hl 2 rfl) ?_
          refine lv_icmp_eq (tgt := 35) hx hb nd_M_pair_28 (by decide) (fun h_28 => ?_) (fun h_28 => ?_)
          · skip
            refine lv_iconst (v := 0) hx hb nd_M_pair_35 (by decide) ?_
            exact hJ36 0 _ _ _ ⟨rfl, rfl, Eq.symm (by unfold zm_known; dsimp only; rw [if_neg h_2, if_neg h_10]; rw [if_neg h_15, if_neg h_23]; rw [if_pos h_28]), hl⟩
          · skip
            refine lv_iconst (v := 1) hx hb nd_M_pair_31 (by decide) ?_
            refine lv_goto (tgt := 36) hx hb nd_M_pair_32 (by decide) ?_
            exact hJ36 1 _ _ _ ⟨rfl, rfl, Eq.symm (by unfold zm_known; dsimp only; rw [if_neg h_2, if_neg h_10]; rw [if_neg h_15, if_neg h_23]; rw [if_neg h_28]), hl⟩

set_option maxHeartbeats 4000000 in
set_option maxRecDepth 100000 in
theorem c_M_linesOf (l : Launch) (D : va_G) (G : zh_G) (T : zm_S) (Y : zm_Y) (x y : Int32) : Met l ny_M_linesOf (Cond.code ny_M_linesOf nc_M_linesOf 3 (some .int) :: zw_big) ({ frames := 0, cells := 0, slots := 0, locals := 0 } : Room) (zw_P [.ref (zh_mdl G), .int x, .int y] D (zm_tys G) (zm_cells G T Y)) (zw_R (.int (zm_lof x y))) 0 0 (fun _ => False) := by
  refine Met.ofW (cc := nc_M_linesOf) (maxL := 3) (ret := (some .int)) (by decide) rfl ?_
  intro p e s m args below meth c s₁ B hml hv
  obtain ⟨rfl, hP, hK⟩ := hv
  have hx := B.exec
  have hb := B.bytes
  have hr := B.returns
  have hts0 := atoms_spec (ws := Cond.code ny_M_linesOf nc_M_linesOf 3 (some .int) :: zw_big) B.pre
  have hts : ∀ w ∈ zw_big, w.before [.ref (zh_mdl G), .int x, .int y].toArray s = true := fun w h => hts0 w (List.mem_cons_of_mem _ h)
  have hown : s.vm.findClass nR_M = some m.cls := findClass_of_methodNamed B.named
  have hlk := B.notSynchronized
  have hl := lv_entry ([.ref (zh_mdl G), .int x, .int y]) (n := 3) (Nat.le_of_ble_eq_true rfl)
  rw [lg_entry_eq]
  generalize (lg_sl ([.ref (zh_mdl G), .int x, .int y]) ++ List.replicate (3 - (lg_sl ([.ref (zh_mdl G), .int x, .int y])).length) Slot.unset).toArray = ls at hl ⊢
  have hl : lv_has ls 3 [(0, .ref (zh_mdl G)), (1, .int x), (2, .int y)] := hl
  have hF : CallFix p m c nc_M_linesOf 3 s [.ref (zh_mdl G), .int x, .int y].toArray zw_big nR_M := ⟨hx, hb, hml, hown, hts⟩
  refine lv_iload_n hx hb nd_M_linesOf_0 rfl (zv_at hl 1 rfl) ?_
  refine lv_if_lt (tgt := 8) hx hb nd_M_linesOf_1 (by decide) (fun h_1 => ?_) (fun h_1 => ?_)
  · skip
    refine lv_iconst (v := 0) hx hb nd_M_linesOf_8 (by decide) ?_
    refine lv_iload_n hx hb nd_M_linesOf_9 rfl (zv_at hl 2 rfl) ?_
    refine lv_if_lt (tgt := 17) hx hb nd_M_linesOf_10 (by decide) (fun h_10 => ?_) (fun h_10 => ?_)
    · skip
      refine lv_iconst (v := 0) hx hb nd_M_linesOf_17 (by decide) ?_
      refine lv_iadd hx hb nd_M_linesOf_18 ?_
      refine zw_iret hx hb hr hlk nd_M_linesOf_19 ?_
      unfold zm_lof
      rw [if_pos h_1, if_pos h_10]
    · skip
      refine lv_iconst (v := 1) hx hb nd_M_linesOf_13 (by decide) ?_
      refine lv_goto (tgt := 18) hx hb nd_M_linesOf_14 (by decide) ?_
      refine lv_iadd hx hb nd_M_linesOf_18 ?_
      refine zw_iret hx hb hr hlk nd_M_linesOf_19 ?_
      unfold zm_lof
      rw [if_pos h_1, if_neg h_10]
  · skip
    refine lv_iconst (v := 1) hx hb nd_M_linesOf_4 (by decide) ?_
    refine lv_goto (tgt := 9) hx hb nd_M_linesOf_5 (by decide) ?_
    refine lv_iload_n hx hb nd_M_linesOf_9 rfl (zv_at hl 2 rfl) ?_
    refine lv_if_lt (tgt := 17) hx hb nd_M_linesOf_10 (by decide) (fun h_10 => ?_) (fun h_10 => ?_)
    · skip
      refine lv_iconst (v := 0) hx hb nd_M_linesOf_17 (by decide) ?_
      refine lv_iadd hx hb nd_M_linesOf_18 ?_
      refine zw_iret hx hb hr hlk nd_M_linesOf_19 ?_
      unfold zm_lof
      rw [if_neg h_1, if_pos h_10]
    · skip
      refine lv_iconst (v := 1) hx hb nd_M_linesOf_13 (by decide) ?_
      refine lv_goto (tgt := 18) hx hb nd_M_linesOf_14 (by decide) ?_
      refine lv_iadd hx hb nd_M_linesOf_18 ?_
      refine zw_iret hx hb hr hlk nd_M_linesOf_19 ?_
      unfold zm_lof
      rw [if_neg h_1, if_neg h_10]

set_option maxHeartbeats 4000000 in
set_option maxRecDepth 100000 in
theorem c_M_setOf (l : Launch) (D : va_G) (G : zh_G) (T : zm_S) (Y : zm_Y) (x y : Int32) : Met l ny_M_setOf (Cond.code ny_M_setOf nc_M_setOf 3 (some .int) :: zw_big) ({ frames := 0, cells := 0, slots := 0, locals := 0 } : Room) (zw_P [.ref (zh_mdl G), .int x, .int y] D (zm_tys G) (zm_cells G T Y)) (zw_R (.int (zm_sof x y))) 0 0 (fun _ => False) := by
  refine Met.ofW (cc := nc_M_setOf) (maxL := 3) (ret := (some .int)) (by decide) rfl ?_
  intro p e s m args below meth c s₁ B hml hv
  obtain ⟨rfl, hP, hK⟩ := hv
  have hx := B.exec
  have hb := B.bytes
  have hr := B.returns
  have hts0 := atoms_spec (ws := Cond.code ny_M_setOf nc_M_setOf 3 (some .int) :: zw_big) B.pre
  have hts : ∀ w ∈ zw_big, w.before [.ref (zh_mdl G), .int x, .int y].toArray s = true := fun w h => hts0 w (List.mem_cons_of_mem _ h)
  have hown : s.vm.findClass nR_M = some m.cls := findClass_of_methodNamed B.named
  have hlk := B.notSynchronized
  have hl := lv_entry ([.ref (zh_mdl G), .int x, .int y]) (n := 3) (Nat.le_of_ble_eq_true rfl)
  rw [lg_entry_eq]
  generalize (lg_sl ([.ref (zh_mdl G), .int x, .int y]) ++ List.replicate (3 - (lg_sl ([.ref (zh_mdl G), .int x, .int y])).length) Slot.unset).toArray = ls at hl ⊢
  have hl : lv_has ls 3 [(0, .ref (zh_mdl G)), (1, .int x), (2, .int y)] := hl
  have hF : CallFix p m c nc_M_setOf 3 s [.ref (zh_mdl G), .int x, .int y].toArray zw_big nR_M := ⟨hx, hb, hml, hown, hts⟩
  refine lv_iload_n hx hb nd_M_setOf_0 rfl (zv_at hl 1 rfl) ?_
  refine lv_if_lt (tgt := 10) hx hb nd_M_setOf_1 (by decide) (fun h_1 => ?_) (fun h_1 => ?_)
  · skip
    refine lv_iconst (v := 0) hx hb nd_M_setOf_10 (by decide) ?_
    refine lv_iload_n hx hb nd_M_setOf_11 rfl (zv_at hl 2 rfl) ?_
    refine lv_if_lt (tgt := 21) hx hb nd_M_setOf_12 (by decide) (fun h_12 => ?_) (fun h_12 => ?_)
    · skip
      refine lv_iconst (v := 0) hx hb nd_M_setOf_21 (by decide) ?_
      refine lv_ior hx hb nd_M_setOf_22 ?_
      refine zw_iret hx hb hr hlk nd_M_setOf_23 ?_
      unfold zm_sof
      rw [if_pos h_1, if_pos h_12]
    · skip
      refine lv_iconst (v := 1) hx hb nd_M_setOf_15 (by decide) ?_
      refine lv_iload_n hx hb nd_M_setOf_16 rfl (zv_at hl 2 rfl) ?_
      refine lv_ishl hx hb nd_M_setOf_17 ?_
      refine lv_goto (tgt := 22) hx hb nd_M_setOf_18 (by decide) ?_
      refine lv_ior hx hb nd_M_setOf_22 ?_
      refine zw_iret hx hb hr hlk nd_M_setOf_23 ?_
      unfold zm_sof
      rw [if_pos h_1, if_neg h_12]
  · skip
    refine lv_iconst (v := 1) hx hb nd_M_setOf_4 (by decide) ?_
    refine lv_iload_n hx hb nd_M_setOf_5 rfl (zv_at hl 1 rfl) ?_
    refine lv_ishl hx hb nd_M_setOf_6 ?_
    refine lv_goto (tgt := 11) hx hb nd_M_setOf_7 (by decide) ?_
    refine lv_iload_n hx hb nd_M_setOf_11 rfl (zv_at hl 2 rfl) ?_
    refine lv_if_lt (tgt := 21) hx hb nd_M_setOf_12 (by decide) (fun h_12 => ?_) (fun h_12 => ?_)
    · skip
      refine lv_iconst (v := 0) hx hb nd_M_setOf_21 (by decide) ?_
      refine lv_ior hx hb nd_M_setOf_22 ?_
      refine zw_iret hx hb hr hlk nd_M_setOf_23 ?_
      unfold zm_sof
      rw [if_neg h_1, if_pos h_12]
    · skip
      refine lv_iconst (v := 1) hx hb nd_M_setOf_15 (by decide) ?_
      refine lv_iload_n hx hb nd_M_setOf_16 rfl (zv_at hl 2 rfl) ?_
      refine lv_ishl hx hb nd_M_setOf_17 ?_
      refine lv_goto (tgt := 22) hx hb nd_M_setOf_18 (by decide) ?_
      refine lv_ior hx hb nd_M_setOf_22 ?_
      refine zw_iret hx hb hr hlk nd_M_setOf_23 ?_
      unfold zm_sof
      rw [if_neg h_1, if_neg h_12]

set_option maxHeartbeats 4000000 in
set_option maxRecDepth 100000 in
theorem c_M_transfer (l : Launch) (D : va_G) (G : zh_G) (hG : zw_apart (zm_adr G)) (T : zm_S) (Y : zm_Y) (x y a : Int32) (hI : zm_I T) (hkx : x = -1 ∨ ∃ j, j < 6 ∧ x = nI j) (hky : y = -1 ∨ ∃ j, j < 6 ∧ y = nI j) (hne : ¬ x = y) : Met l ny_M_transfer (Cond.code ny_M_transfer nc_M_transfer 4 none :: zw_big) ({ frames := 0, cells := 0, slots := 0, locals := 0 } : Room) (zw_P [.ref (zh_mdl G), .int x, .int y, .int a] D (zm_tys G) (zm_cells G T Y)) (zm_Qv D G (zm_transfer T x y a)) 0 0 (zm_Ad G) := by
  refine Met.ofW (cc := nc_M_transfer) (maxL := 4) (ret := none) (by decide) rfl ?_
  intro p e s m args below meth c s₁ B hml hv
  obtain ⟨rfl, hP, hK⟩ := hv
  have hx := B.exec
  have hb := B.bytes
  have hr := B.returns
  have hts0 := atoms_spec (ws := Cond.code ny_M_transfer nc_M_transfer 4 none :: zw_big) B.pre
  have hts : ∀ w ∈ zw_big, w.before [.ref (zh_mdl G), .int x, .int y, .int a].toArray s = true := fun w h => hts0 w (List.mem_cons_of_mem _ h)
  have hown : s.vm.findClass nR_M = some m.cls := findClass_of_methodNamed B.named
  have hlk := B.notSynchronized
  have hS : va_S (zm_Ad G) s.heap s.heap [] := va_S.rf
  have hl := lv_entry ([.ref (zh_mdl G), .int x, .int y, .int a]) (n := 4) (Nat.le_of_ble_eq_true rfl)
  rw [lg_entry_eq]
  generalize (lg_sl ([.ref (zh_mdl G), .int x, .int y, .int a]) ++ List.replicate (4 - (lg_sl ([.ref (zh_mdl G), .int x, .int y, .int a])).length) Slot.unset).toArray = ls at hl ⊢
  have hl : lv_has ls 4 [(0, .ref (zh_mdl G)), (1, .int x), (2, .int y), (3, .int a)] := hl
  have hF : CallFix p m c nc_M_transfer 4 s [.ref (zh_mdl G), .int x, .int y, .int a].toArray zw_big nR_M := ⟨hx, hb, hml, hown, hts⟩
  refine lv_iload_n hx hb nd_M_transfer_0 rfl (zv_at hl 1 rfl) ?_
  refine lv_if_lt (tgt := 18) hx hb nd_M_transfer_1 (by decide) (fun h_1 => ?_) (fun h_1 => ?_)
  · skip
    have hx1 : x = -1 := hkx.resolve_right (fun ⟨j, hj, q⟩ => nI_pos (show j < 2 ^ 31 by omega) (by rw [← q]; exact h_1))
    have hy6 : vp_in y 6 := zm_in_of (hky.resolve_left (fun q => hne (by rw [hx1, q])))
    refine lv_aload_n hx hb nd_M_transfer_18 rfl (zv_at hl 0 rfl) ?_
    refine zm_get hx hb hts hown hK hP 18 (by decide) (hts _ nw_485) rfl nd_M_transfer_19 ?_
    refine lv_aload_n hx hb nd_M_transfer_22 rfl (zv_at hl 0 rfl) ?_
    refine zm_get hx hb hts hown hK hP 1 (by decide) (hts _ nw_468) rfl nd_M_transfer_23 ?_
    refine lv_iload_n hx hb nd_M_transfer_26 rfl (zv_at hl 2 rfl) ?_
    refine zm_ald_cur hx hb hK hP (by assumption) nd_M_transfer_27 ?_
    refine lv_dup2_11 hx hb nd_M_transfer_28 rfl rfl ?_
    refine zm_ald_csh hx hb hK hP (zm_cur_in hI _) nd_M_transfer_29 ?_
    refine lv_iload_n hx hb nd_M_transfer_30 rfl (zv_at hl 3 rfl) ?_
    refine lv_i2l (v := _) hx hb nd_M_transfer_31 rfl ?_
    refine lv_ladd hx hb nd_M_transfer_32 ?_
    refine zm_ast_csh hx hb hK hG hP hS (zm_cur_in hI _) nd_M_transfer_33 (fun H locs hP hS => ?_)
    refine lv_iload_n hx hb nd_M_transfer_34 rfl (zv_at hl 2 rfl) ?_
    refine lv_if_lt (tgt := 52) hx hb nd_M_transfer_35 (by decide) (fun h_35 => ?_) (fun h_35 => ?_)
    · skip
      have hy1 : y = -1 := hky.resolve_right (fun ⟨j, hj, q⟩ => nI_pos (show j < 2 ^ 31 by omega) (by rw [← q]; exact h_35))
      have hx6b : vp_in x 6 := zm_in_of (hkx.resolve_left (fun q => hne (by rw [hy1, q])))
      refine lv_aload_n hx hb nd_M_transfer_52 rfl (zv_at hl 0 rfl) ?_
      refine zm_get hx hb hts hown hK hP 18 (by decide) (hts _ nw_485) rfl nd_M_transfer_53 ?_
      refine lv_aload_n hx hb nd_M_transfer_56 rfl (zv_at hl 0 rfl) ?_
      refine zm_get hx hb hts hown hK hP 1 (by decide) (hts _ nw_468) rfl nd_M_transfer_57 ?_
      refine lv_iload_n hx hb nd_M_transfer_60 rfl (zv_at hl 1 rfl) ?_
      refine zm_ald_cur hx hb hK hP (by assumption) nd_M_transfer_61 ?_
      refine lv_dup2_11 hx hb nd_M_transfer_62 rfl rfl ?_
      refine zm_ald_csh hx hb hK hP (zm_cur_in hI _) nd_M_transfer_63 ?_
      refine lv_iload_n hx hb nd_M_transfer_64 rfl (zv_at hl 3 rfl) ?_
      refine lv_i2l (v := _) hx hb nd_M_transfer_65 rfl ?_
      refine lv_lsub hx hb nd_M_transfer_66 ?_
      refine zm_ast_csh hx hb hK hG hP hS (zm_cur_in hI _) nd_M_transfer_67 (fun H locs hP hS => ?_)
      refine zm_vret hx hb hr hlk nd_M_transfer_68 hP hS ?_
      unfold zm_transfer zm_gets zm_pays
      rw [if_pos h_35, if_pos h_1]
      all_goals rfl
    · skip
      have hy6b : vp_in y 6 := zm_in_of (hky.resolve_left (fun q => h_35 (by rw [q]; decide)))
      refine lv_aload_n hx hb nd_M_transfer_38 rfl (zv_at hl 0 rfl) ?_
      refine zm_get hx hb hts hown hK hP 6 (by decide) (hts _ nw_473) rfl nd_M_transfer_39 ?_
      refine lv_iload_n hx hb nd_M_transfer_42 rfl (zv_at hl 2 rfl) ?_
      refine lv_dup2_11 hx hb nd_M_transfer_43 rfl rfl ?_
      refine zm_ald_mon hx hb hK hP (by assumption) nd_M_transfer_44 ?_
      refine lv_iload_n hx hb nd_M_transfer_45 rfl (zv_at hl 3 rfl) ?_
      refine lv_i2l (v := _) hx hb nd_M_transfer_46 rfl ?_
      refine lv_ladd hx hb nd_M_transfer_47 ?_
      refine zm_ast_mon hx hb hK hG hP hS (by assumption) nd_M_transfer_48 (fun H locs hP hS => ?_)
      refine lv_goto (tgt := 68) hx hb nd_M_transfer_49 (by decide) ?_
      refine zm_vret hx hb hr hlk nd_M_transfer_68 hP hS ?_
      unfold zm_transfer zm_gets zm_pays
      rw [if_neg h_35, if_pos h_1]
      all_goals rfl
  · skip
    have hx6 : vp_in x 6 := zm_in_of (hkx.resolve_left (fun q => h_1 (by rw [q]; decide)))
    refine lv_aload_n hx hb nd_M_transfer_4 rfl (zv_at hl 0 rfl) ?_
    refine zm_get hx hb hts hown hK hP 6 (by decide) (hts _ nw_473) rfl nd_M_transfer_5 ?_
    refine lv_iload_n hx hb nd_M_transfer_8 rfl (zv_at hl 1 rfl) ?_
    refine lv_dup2_11 hx hb nd_M_transfer_9 rfl rfl ?_
    refine zm_ald_mon hx hb hK hP (by assumption) nd_M_transfer_10 ?_
    refine lv_iload_n hx hb nd_M_transfer_11 rfl (zv_at hl 3 rfl) ?_
    refine lv_i2l (v := _) hx hb nd_M_transfer_12 rfl ?_
    refine lv_lsub hx hb nd_M_transfer_13 ?_
    refine zm_ast_mon hx hb hK hG hP hS (by assumption) nd_M_transfer_14 (fun H locs hP hS => ?_)
    refine lv_goto (tgt := 34) hx hb nd_M_transfer_15 (by decide) ?_
    refine lv_iload_n hx hb nd_M_transfer_34 rfl (zv_at hl 2 rfl) ?_
    refine lv_if_lt (tgt := 52) hx hb nd_M_transfer_35 (by decide) (fun h_35 => ?_) (fun h_35 => ?_)
    · skip
      have hy1 : y = -1 := hky.resolve_right (fun ⟨j, hj, q⟩ => nI_pos (show j < 2 ^ 31 by omega) (by rw [← q]; exact h_35))
      have hx6b : vp_in x 6 := zm_in_of (hkx.resolve_left (fun q => hne (by rw [hy1, q])))
      refine lv_aload_n hx hb nd_M_transfer_52 rfl (zv_at hl 0 rfl) ?_
      refine zm_get hx hb hts hown hK hP 18 (by decide) (hts _ nw_485) rfl nd_M_transfer_53 ?_
      refine lv_aload_n hx hb nd_M_transfer_56 rfl (zv_at hl 0 rfl) ?_
      refine zm_get hx hb hts hown hK hP 1 (by decide) (hts _ nw_468) rfl nd_M_transfer_57 ?_
      refine lv_iload_n hx hb nd_M_transfer_60 rfl (zv_at hl 1 rfl) ?_
      refine zm_ald_cur hx hb hK hP (by assumption) nd_M_transfer_61 ?_
      refine lv_dup2_11 hx hb nd_M_transfer_62 rfl rfl ?_
      refine zm_ald_csh hx hb hK hP (zm_cur_in hI _) nd_M_transfer_63 ?_
      refine lv_iload_n hx hb nd_M_transfer_64 rfl (zv_at hl 3 rfl) ?_
      refine lv_i2l (v := _) hx hb nd_M_transfer_65 rfl ?_
      refine lv_lsub hx hb nd_M_transfer_66 ?_
      refine zm_ast_csh hx hb hK hG hP hS (zm_cur_in hI _) nd_M_transfer_67 (fun H locs hP hS => ?_)
      refine zm_vret hx hb hr hlk nd_M_transfer_68 hP hS ?_
      unfold zm_transfer zm_gets zm_pays
      rw [if_pos h_35, if_neg h_1]
      all_goals rfl
    · skip
      have hy6b : vp_in y 6 := zm_in_of (hky.resolve_left (fun q => h_35 (by rw [q]; decide)))
      refine lv_aload_n hx hb nd_M_transfer_38 rfl (zv_at hl 0 rfl) ?_
      refine zm_get hx hb hts hown hK hP 6 (by decide) (hts _ nw_473) rfl nd_M_transfer_39 ?_
      refine lv_iload_n hx hb nd_M_transfer_42 rfl (zv_at hl 2 rfl) ?_
      refine lv_dup2_11 hx hb nd_M_transfer_43 rfl rfl ?_
      refine zm_ald_mon hx hb hK hP (by assumption) nd_M_transfer_44 ?_
      refine lv_iload_n hx hb nd_M_transfer_45 rfl (zv_at hl 3 rfl) ?_
      refine lv_i2l (v := _) hx hb nd_M_transfer_46 rfl ?_
      refine lv_ladd hx hb nd_M_transfer_47 ?_
      refine zm_ast_mon hx hb hK hG hP hS (by assumption) nd_M_transfer_48 (fun H locs hP hS => ?_)
      refine lv_goto (tgt := 68) hx hb nd_M_transfer_49 (by decide) ?_
      refine zm_vret hx hb hr hlk nd_M_transfer_68 hP hS ?_
      unfold zm_transfer zm_gets zm_pays
      rw [if_neg h_35, if_neg h_1]
      all_goals rfl

set_option maxHeartbeats 4000000 in
set_option maxRecDepth 100000 in
theorem c_M_stands (l : Launch) (D : va_G) (G : zh_G) (T : zm_S) (Y : zm_Y) (x : Int32) : Met l ny_M_stands (Cond.code ny_M_stands nc_M_stands 2 (some .boolean) :: zw_big) ({ frames := 0, cells := 0, slots := 0, locals := 0 } : Room) (zw_P [.ref (zh_mdl G), .int x] D (zm_tys G) (zm_cells G T Y)) (zw_R (.int (zm_stands T x))) 0 0 (fun _ => False) := by
  refine Met.ofW (cc := nc_M_stands) (maxL := 2) (ret := (some .boolean)) (by decide) rfl ?_
  intro p e s m args below meth c s₁ B hml hv
  obtain ⟨rfl, hP, hK⟩ := hv
  have hx := B.exec
  have hb := B.bytes
  have hr := B.returns
  have hts0 := atoms_spec (ws := Cond.code ny_M_stands nc_M_stands 2 (some .boolean) :: zw_big) B.pre
  have hts : ∀ w ∈ zw_big, w.before [.ref (zh_mdl G), .int x].toArray s = true := fun w h => hts0 w (List.mem_cons_of_mem _ h)
  have hown : s.vm.findClass nR_M = some m.cls := findClass_of_methodNamed B.named
  have hlk := B.notSynchronized
  have hl := lv_entry ([.ref (zh_mdl G), .int x]) (n := 2) (Nat.le_of_ble_eq_true rfl)
  rw [lg_entry_eq]
  generalize (lg_sl ([.ref (zh_mdl G), .int x]) ++ List.replicate (2 - (lg_sl ([.ref (zh_mdl G), .int x])).length) Slot.unset).toArray = ls at hl ⊢
  have hl : lv_has ls 2 [(0, .ref (zh_mdl G)), (1, .int x)] := hl
  have hF : CallFix p m c nc_M_stands 2 s [.ref (zh_mdl G), .int x].toArray zw_big nR_M := ⟨hx, hb, hml, hown, hts⟩
  refine lv_iload_n hx hb nd_M_stands_0 rfl (zv_at hl 1 rfl) ?_
  refine lv_if_lt (tgt := 23) hx hb nd_M_stands_1 (by decide) (fun h_1 => ?_) (fun h_1 => ?_)
  · skip
    refine lv_iconst (v := 0) hx hb nd_M_stands_23 (by decide) ?_
    refine zw_zret hx hb hr hlk nd_M_stands_24 (by decide) ?_
    unfold zm_stands
    all_goals (try dsimp only)
    all_goals (try rw [if_pos h_1])
    all_goals rfl
  · skip
    refine lv_iload_n hx hb nd_M_stands_4 rfl (zv_at hl 1 rfl) ?_
    refine lv_bipush (v := 8) hx hb nd_M_stands_5 (by decide) ?_
    refine lv_icmp_ge (tgt := 23) hx hb nd_M_stands_7 (by decide) (fun h_7 => ?_) (fun h_7 => ?_)
    · skip
      refine lv_iconst (v := 0) hx hb nd_M_stands_23 (by decide) ?_
      refine zw_zret hx hb hr hlk nd_M_stands_24 (by decide) ?_
      unfold zm_stands
      all_goals (try dsimp only)
      all_goals (try rw [if_neg h_1])
      all_goals (try rw [if_pos h_7])
      all_goals rfl
    · skip
      have hx8 : vp_in x 8 := by
        obtain ⟨j, hj, rfl⟩ := nI_of h_1
        exact vp_in_nI (Nat.lt_of_not_le fun q => h_7 (nI_le (a := 8) q hj)) (by decide)
      refine lv_aload_n hx hb nd_M_stands_10 rfl (zv_at hl 0 rfl) ?_
      refine zm_get hx hb hts hown hK hP 9 (by decide) (hts _ nw_476) rfl nd_M_stands_11 ?_
      refine lv_iload_n hx hb nd_M_stands_14 rfl (zv_at hl 1 rfl) ?_
      refine zm_ald_ham hx hb hK hP (by assumption) nd_M_stands_15 ?_
      refine lv_if_le (tgt := 23) hx hb nd_M_stands_16 (by decide) (fun h_16 => ?_) (fun h_16 => ?_)
      · skip
        refine lv_iconst (v := 0) hx hb nd_M_stands_23 (by decide) ?_
        refine zw_zret hx hb hr hlk nd_M_stands_24 (by decide) ?_
        unfold zm_stands
        all_goals (try dsimp only)
        all_goals (try rw [if_neg h_1])
        all_goals (try rw [if_neg h_7])
        all_goals (try rw [if_pos h_16])
        all_goals rfl
      · skip
        refine lv_iconst (v := 1) hx hb nd_M_stands_19 (by decide) ?_
        refine lv_goto (tgt := 24) hx hb nd_M_stands_20 (by decide) ?_
        refine zw_zret hx hb hr hlk nd_M_stands_24 (by decide) ?_
        unfold zm_stands
        all_goals (try dsimp only)
        all_goals (try rw [if_neg h_1])
        all_goals (try rw [if_neg h_7])
        all_goals (try rw [if_neg h_16])
        all_goals rfl
