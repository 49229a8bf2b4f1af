set_option maxHeartbeats 4000000 in
set_option maxRecDepth 100000 in
theorem c_B_isWithin (l : Launch) (x a b : Int32) : Met l ny_B_isWithin (Cond.code ny_B_isWithin nc_B_isWithin 3 (some .boolean) :: zw_big) ({ frames := 0, cells := 0, slots := 0, locals := 0 } : Room) (zw_N [.int x, .int a, .int b]) (zw_R (.int (zb_within x a b))) 0 0 (fun _ => False) := by
  refine Met.ofW (cc := nc_B_isWithin) (maxL := 3) (ret := (some .boolean)) (by decide) rfl ?_
  intro p e s m args below meth c s₁ B hml hv
  have hv : args = [.int x, .int a, .int b].toArray := hv
  subst hv
  have hx := B.exec
  have hb := B.bytes
  have hr := B.returns
  have hts0 := atoms_spec (ws := Cond.code ny_B_isWithin nc_B_isWithin 3 (some .boolean) :: zw_big) B.pre
  have hts : ∀ w ∈ zw_big, w.before [.int x, .int a, .int b].toArray s = true := fun w h => hts0 w (List.mem_cons_of_mem _ h)
  have hown : s.vm.findClass nR_B = some m.cls := findClass_of_methodNamed B.named
  have hlk := B.notSynchronized
  have hl := lv_entry ([.int x, .int a, .int b]) (n := 3) (Nat.le_of_ble_eq_true rfl)
  rw [lg_entry_eq]
  generalize (lg_sl ([.int x, .int a, .int b]) ++ List.replicate (3 - (lg_sl ([.int x, .int a, .int b])).length) Slot.unset).toArray = ls at hl ⊢
  have hl : lv_has ls 3 [(0, .int x), (1, .int a), (2, .int b)] := hl
  have hF : CallFix p m c nc_B_isWithin 3 s [.int x, .int a, .int b].toArray zw_big nR_B := ⟨hx, hb, hml, hown, hts⟩
  refine lv_iload_n hx hb nd_B_isWithin_0 rfl (zv_at hl 1 rfl) ?_
  refine lv_iload_n hx hb nd_B_isWithin_1 rfl (zv_at hl 0 rfl) ?_
  refine lv_icmp_gt (tgt := 14) hx hb nd_B_isWithin_2 (by decide) (fun h_2 => ?_) (fun h_2 => ?_)
  · skip
    refine lv_iconst (v := 0) hx hb nd_B_isWithin_14 (by decide) ?_
    refine zw_zret hx hb hr hlk nd_B_isWithin_15 (by decide) ?_
    unfold zb_within
    all_goals (try dsimp only)
    all_goals (try rw [if_pos h_2])
    all_goals rfl
  · skip
    refine lv_iload_n hx hb nd_B_isWithin_5 rfl (zv_at hl 0 rfl) ?_
    refine lv_iload_n hx hb nd_B_isWithin_6 rfl (zv_at hl 2 rfl) ?_
    refine lv_icmp_gt (tgt := 14) hx hb nd_B_isWithin_7 (by decide) (fun h_7 => ?_) (fun h_7 => ?_)
    · skip
      refine lv_iconst (v := 0) hx hb nd_B_isWithin_14 (by decide) ?_
      refine zw_zret hx hb hr hlk nd_B_isWithin_15 (by decide) ?_
      unfold zb_within
      all_goals (try dsimp only)
      all_goals (try rw [if_neg h_2])
      all_goals (try rw [if_pos h_7])
      all_goals rfl
    · skip
      refine lv_iconst (v := 1) hx hb nd_B_isWithin_10 (by decide) ?_
      refine lv_goto (tgt := 15) hx hb nd_B_isWithin_11 (by decide) ?_
      refine zw_zret hx hb hr hlk nd_B_isWithin_15 (by decide) ?_
      unfold zb_within
      all_goals (try dsimp only)
      all_goals (try rw [if_neg h_2])
      all_goals (try rw [if_neg h_7])
      all_goals rfl

theorem zb_within_01 (x a b : Int32) : zb_within x a b = 0 ∨ zb_within x a b = 1 := by
  unfold zb_within
  split
  · exact Or.inl rfl
  · split
    · exact Or.inl rfl
    · exact Or.inr rfl
theorem zb_within_spec {x a b : Int32} (h : ¬ zb_within x a b = 0) : ¬ x < a ∧ ¬ b < x := by
  unfold zb_within at h
  by_cases h1 : x < a
  · rw [if_pos h1] at h; exact absurd rfl h
  · rw [if_neg h1] at h
    by_cases h2 : b < x
    · rw [if_pos h2] at h; exact absurd rfl h
    · exact ⟨h1, h2⟩
theorem zb_within_nat {x N : Int32} {n : Nat} (hN : N = nI n) (hn : n < 1000) (h : ¬ zb_within x 0 (N - 1) = 0) : ∃ j, j < n ∧ x = nI j := by
  obtain ⟨h1, h2⟩ := zb_within_spec h
  obtain ⟨j, hj, rfl⟩ := nI_of h1
  refine ⟨j, ?_, rfl⟩
  subst hN
  refine Nat.lt_of_not_le fun q => h2 ?_
  by_cases h0 : n = 0
  · subst h0
    have : ¬ nI j < 0 := nI_pos hj
    show nI 0 - 1 < nI j
    rw [Int32.lt_iff_toInt_lt, nI_toInt hj]
    show (-1 : Int) < _
    omega
  · have e : nI n - 1 = nI (n - 1) := by
      have := nI_pred (n - 1)
      rw [show n - 1 + 1 = n by omega] at this
      exact this
    rw [e]
    exact nI_lt (by omega) hj
theorem zb_accOf_nat {S : zb_S} {x : Int32} {j : Nat} {n : Nat} (hN : zb_n S = nI n) (hn : n < 1000) (h : zb_accOf S x = some j) : j < n ∧ x = nI j := by
  unfold zb_accOf at h
  by_cases q : zb_within x 0 (zb_n S - 1) = 0
  · rw [if_pos q] at h; cases h
  · rw [if_neg q] at h
    obtain ⟨i, hi, rfl⟩ := zb_within_nat hN hn q
    have e := Option.some.inj h
    rw [nI_clamp (by omega)] at e
    subst e
    exact ⟨hi, rfl⟩
theorem zb_accOf_lt {S : zb_S} {x : Int32} {j : Nat} (hI : zb_I S) (h : zb_accOf S x = some j) : j < 6 := by
  obtain ⟨n, hn, en⟩ := hI.1
  have := (zb_accOf_nat en (by omega) h).1
  omega
theorem zb_shown_lt {S : zb_S} {x : Int32} {j : Nat} (hI : zb_I S) (h : zb_shown S x = some j) : j < 6 := by
  unfold zb_shown at h
  split at h
  · exact zb_accOf_lt hI h
  · cases h
theorem zb_stand_spec {S : zb_S} {x : Int32} {k : Nat} (h : zb_stand S x = some k) : k < 8 ∧ x = nI k ∧ ∃ j, zb_hol S k = some j := by
  unfold zb_stand at h
  by_cases q : zb_within x 0 7 = 0
  · rw [if_pos q] at h; cases h
  · rw [if_neg q] at h
    obtain ⟨i, hi, rfl⟩ := zb_within_nat (N := 8) (n := 8) rfl (by decide) q
    rw [nI_clamp (by omega)] at h
    cases hh : zb_hol S i with
    | none => rw [hh] at h; cases h
    | some j =>
      rw [hh] at h
      have e := Option.some.inj h
      subst e
      exact ⟨hi, rfl, j, hh⟩

set_option maxHeartbeats 4000000 in
set_option maxRecDepth 100000 in
theorem c_B_isCurrency (l : Launch) (x : Int32) : Met l ny_B_isCurrency (Cond.code ny_B_isCurrency nc_B_isCurrency 1 (some .boolean) :: zw_big) ({ frames := 1, cells := 0, slots := 0, locals := 22 } : Room) (zw_N [.int x]) (zw_R (.int (zb_within x 0 2))) 0 0 (fun _ => False) := by
  refine Met.ofW (cc := nc_B_isCurrency) (maxL := 1) (ret := (some .boolean)) (by decide) rfl ?_
  intro p e s m args below meth c s₁ B hml hv
  have hv : args = [.int x].toArray := hv
  subst hv
  have hx := B.exec
  have hb := B.bytes
  have hr := B.returns
  have hts0 := atoms_spec (ws := Cond.code ny_B_isCurrency nc_B_isCurrency 1 (some .boolean) :: zw_big) B.pre
  have hts : ∀ w ∈ zw_big, w.before [.int x].toArray s = true := fun w h => hts0 w (List.mem_cons_of_mem _ h)
  have hown : s.vm.findClass nR_B = some m.cls := findClass_of_methodNamed B.named
  have hlk := B.notSynchronized
  have hl := lv_entry ([.int x]) (n := 1) (Nat.le_of_ble_eq_true rfl)
  rw [lg_entry_eq]
  generalize (lg_sl ([.int x]) ++ List.replicate (1 - (lg_sl ([.int x])).length) Slot.unset).toArray = ls at hl ⊢
  have hl : lv_has ls 1 [(0, .int x)] := hl
  have hF : CallFix p m c nc_B_isCurrency 1 s [.int x].toArray zw_big nR_B := ⟨hx, hb, hml, hown, hts⟩
  refine lv_iload_n hx hb nd_B_isCurrency_0 rfl (zv_at hl 0 rfl) ?_
  refine lv_iconst (v := 0) hx hb nd_B_isCurrency_1 (by decide) ?_
  refine lv_iconst (v := 2) hx hb nd_B_isCurrency_2 (by decide) ?_
  refine zw_sR (As := [_, _, _]) (rest := _) hF (c_B_isWithin l _ _ _) zw_preN nk_B_isWithin nw_200 ⟨rfl, rfl, Nat.le_of_ble_eq_true rfl, Nat.le_of_ble_eq_true rfl⟩ rfl hl.1 rfl (Nat.le_of_ble_eq_true rfl) ⟨Nat.zero_le _, Nat.zero_le _⟩ nd_B_isCurrency_3 ?_
  refine zw_zret hx hb hr hlk nd_B_isCurrency_6 (zb_within_01 _ _ _) ?_
  all_goals rfl

set_option maxHeartbeats 4000000 in
set_option maxRecDepth 100000 in
theorem c_B_isAmount (l : Launch) (x : Int32) : Met l ny_B_isAmount (Cond.code ny_B_isAmount nc_B_isAmount 1 (some .boolean) :: zw_big) ({ frames := 1, cells := 0, slots := 0, locals := 22 } : Room) (zw_N [.int x]) (zw_R (.int (zb_within x 1 1000000))) 0 0 (fun _ => False) := by
  refine Met.ofW (cc := nc_B_isAmount) (maxL := 1) (ret := (some .boolean)) (by decide) rfl ?_
  intro p e s m args below meth c s₁ B hml hv
  have hv : args = [.int x].toArray := hv
  subst hv
  have hx := B.exec
  have hb := B.bytes
  have hr := B.returns
  have hts0 := atoms_spec (ws := Cond.code ny_B_isAmount nc_B_isAmount 1 (some .boolean) :: zw_big) B.pre
  have hts : ∀ w ∈ zw_big, w.before [.int x].toArray s = true := fun w h => hts0 w (List.mem_cons_of_mem _ h)
  have hown : s.vm.findClass nR_B = some m.cls := findClass_of_methodNamed B.named
  have hlk := B.notSynchronized
  have hl := lv_entry ([.int x]) (n := 1) (Nat.le_of_ble_eq_true rfl)
  rw [lg_entry_eq]
  generalize (lg_sl ([.int x]) ++ List.replicate (1 - (lg_sl ([.int x])).length) Slot.unset).toArray = ls at hl ⊢
  have hl : lv_has ls 1 [(0, .int x)] := hl
  have hF : CallFix p m c nc_B_isAmount 1 s [.int x].toArray zw_big nR_B := ⟨hx, hb, hml, hown, hts⟩
  refine lv_iload_n hx hb nd_B_isAmount_0 rfl (zv_at hl 0 rfl) ?_
  refine lv_iconst (v := 1) hx hb nd_B_isAmount_1 (by decide) ?_
  refine lv_ldc (v := 1000000) hx hb hown (hts _ nw_206) nd_B_isAmount_2 ?_
  refine zw_sR (As := [_, _, _]) (rest := _) hF (c_B_isWithin l _ _ _) zw_preN nk_B_isWithin nw_200 ⟨rfl, rfl, Nat.le_of_ble_eq_true rfl, Nat.le_of_ble_eq_true rfl⟩ rfl hl.1 rfl (Nat.le_of_ble_eq_true rfl) ⟨Nat.zero_le _, Nat.zero_le _⟩ nd_B_isAmount_4 ?_
  refine zw_zret hx hb hr hlk nd_B_isAmount_7 (zb_within_01 _ _ _) ?_
  all_goals rfl

set_option maxHeartbeats 4000000 in
set_option maxRecDepth 100000 in
theorem c_B_bitOf (l : Launch) (D : va_G) (G : zg_G) (S : zb_S) (i : Nat) (hi : i < 6) : Met l ny_B_bitOf (Cond.code ny_B_bitOf nc_B_bitOf 1 (some .int) :: zw_big) ({ frames := 0, cells := 0, slots := 0, locals := 0 } : Room) (zw_P [.ref (zg_acc G i)] D (zb_tys G) (zb_cells G S)) (zw_R (.int (zb_bit (some i)))) 0 0 (fun _ => False) := by
  refine Met.ofW (cc := nc_B_bitOf) (maxL := 1) (ret := (some .int)) (by decide) rfl ?_
  intro p e s m args below meth c s₁ B hml hv
  obtain ⟨rfl, hP, hK⟩ := hv
  have hx := B.exec
  have hb := B.bytes
  have hr := B.returns
  have hts0 := atoms_spec (ws := Cond.code ny_B_bitOf nc_B_bitOf 1 (some .int) :: zw_big) B.pre
  have hts : ∀ w ∈ zw_big, w.before [.ref (zg_acc G i)].toArray s = true := fun w h => hts0 w (List.mem_cons_of_mem _ h)
  have hown : s.vm.findClass nR_B = some m.cls := findClass_of_methodNamed B.named
  have hlk := B.notSynchronized
  have hl := lv_entry ([.ref (zg_acc G i)]) (n := 1) (Nat.le_of_ble_eq_true rfl)
  rw [lg_entry_eq]
  generalize (lg_sl ([.ref (zg_acc G i)]) ++ List.replicate (1 - (lg_sl ([.ref (zg_acc G i)])).length) Slot.unset).toArray = ls at hl ⊢
  have hl : lv_has ls 1 [(0, .ref (zg_acc G i))] := hl
  have hF : CallFix p m c nc_B_bitOf 1 s [.ref (zg_acc G i)].toArray zw_big nR_B := ⟨hx, hb, hml, hown, hts⟩
  refine lv_aload_n hx hb nd_B_bitOf_0 rfl (zv_at hl 0 rfl) ?_
  refine lv_ifnonnull (tgt := 8) hx hb nd_B_bitOf_1 (by decide) ?_
  refine lv_iconst (v := 1) hx hb nd_B_bitOf_8 (by decide) ?_
  refine lv_aload_n hx hb nd_B_bitOf_9 rfl (zv_at hl 0 rfl) ?_
  refine zb_getA hx hb hts hown hK hP (by assumption) 0 (by decide) (hts _ nw_75) rfl nd_B_bitOf_10 ?_
  refine lv_ishl hx hb nd_B_bitOf_13 ?_
  refine zw_iret hx hb hr hlk nd_B_bitOf_14 ?_
  all_goals rfl

set_option maxHeartbeats 4000000 in
set_option maxRecDepth 100000 in
theorem c_B_bitOfN (l : Launch) (D : va_G) (G : zg_G) (S : zb_S) : Met l ny_B_bitOf (Cond.code ny_B_bitOf nc_B_bitOf 1 (some .int) :: zw_big) ({ frames := 0, cells := 0, slots := 0, locals := 0 } : Room) (zw_P [.null] D (zb_tys G) (zb_cells G S)) (zw_R (.int (zb_bit none))) 0 0 (fun _ => False) := by
  refine Met.ofW (cc := nc_B_bitOf) (maxL := 1) (ret := (some .int)) (by decide) rfl ?_
  intro p e s m args below meth c s₁ B hml hv
  obtain ⟨rfl, hP, hK⟩ := hv
  have hx := B.exec
  have hb := B.bytes
  have hr := B.returns
  have hts0 := atoms_spec (ws := Cond.code ny_B_bitOf nc_B_bitOf 1 (some .int) :: zw_big) B.pre
  have hts : ∀ w ∈ zw_big, w.before [.null].toArray s = true := fun w h => hts0 w (List.mem_cons_of_mem _ h)
  have hown : s.vm.findClass nR_B = some m.cls := findClass_of_methodNamed B.named
  have hlk := B.notSynchronized
  have hl := lv_entry ([.null]) (n := 1) (Nat.le_of_ble_eq_true rfl)
  rw [lg_entry_eq]
  generalize (lg_sl ([.null]) ++ List.replicate (1 - (lg_sl ([.null])).length) Slot.unset).toArray = ls at hl ⊢
  have hl : lv_has ls 1 [(0, .null)] := hl
  have hF : CallFix p m c nc_B_bitOf 1 s [.null].toArray zw_big nR_B := ⟨hx, hb, hml, hown, hts⟩
  refine lv_aload_nN hx hb nd_B_bitOf_0 rfl (zv_at hl 0 rfl) ?_
  refine lv_ifnonnullN hx hb nd_B_bitOf_1 ?_
  refine lv_iconst (v := 0) hx hb nd_B_bitOf_4 (by decide) ?_
  refine lv_goto (tgt := 14) hx hb nd_B_bitOf_5 (by decide) ?_
  refine zw_iret hx hb hr hlk nd_B_bitOf_14 ?_
  all_goals rfl

set_option maxHeartbeats 4000000 in
set_option maxRecDepth 100000 in
theorem c_B_refusalOfChange (l : Launch) (D : va_G) (G : zg_G) (S : zb_S) : Met l ny_B_refusalOfChange (Cond.code ny_B_refusalOfChange nc_B_refusalOfChange 1 (some .int) :: zw_big) ({ frames := 0, cells := 0, slots := 0, locals := 0 } : Room) (zw_P [.ref (zg_bnk G)] D (zb_tys G) (zb_cells G S)) (zw_R (.int (zb_refuse S))) 0 0 (fun _ => False) := by
  refine Met.ofW (cc := nc_B_refusalOfChange) (maxL := 1) (ret := (some .int)) (by decide) rfl ?_
  intro p e s m args below meth c s₁ B hml hv
  obtain ⟨rfl, hP, hK⟩ := hv
  have hx := B.exec
  have hb := B.bytes
  have hr := B.returns
  have hts0 := atoms_spec (ws := Cond.code ny_B_refusalOfChange nc_B_refusalOfChange 1 (some .int) :: zw_big) B.pre
  have hts : ∀ w ∈ zw_big, w.before [.ref (zg_bnk G)].toArray s = true := fun w h => hts0 w (List.mem_cons_of_mem _ h)
  have hown : s.vm.findClass nR_B = some m.cls := findClass_of_methodNamed B.named
  have hlk := B.notSynchronized
  have hl := lv_entry ([.ref (zg_bnk G)]) (n := 1) (Nat.le_of_ble_eq_true rfl)
  rw [lg_entry_eq]
  generalize (lg_sl ([.ref (zg_bnk G)]) ++ List.replicate (1 - (lg_sl ([.ref (zg_bnk G)])).length) Slot.unset).toArray = ls at hl ⊢
  have hl : lv_has ls 1 [(0, .ref (zg_bnk G))] := hl
  have hF : CallFix p m c nc_B_refusalOfChange 1 s [.ref (zg_bnk G)].toArray zw_big nR_B := ⟨hx, hb, hml, hown, hts⟩
  refine lv_aload_n hx hb nd_B_refusalOfChange_0 rfl (zv_at hl 0 rfl) ?_
  refine zb_getB hx hb hts hown hK hP 4 (by decide) (hts _ nw_159) rfl nd_B_refusalOfChange_1 ?_
  refine zb_getD hx hb hts hown hK hP 0 (by decide) (hts _ nw_46) rfl nd_B_refusalOfChange_4 ?_
  refine lv_if_eq (tgt := 12) hx hb nd_B_refusalOfChange_7 (by decide) (fun h_7 => ?_) (fun h_7 => ?_)
  · skip
    refine lv_aload_n hx hb nd_B_refusalOfChange_12 rfl (zv_at hl 0 rfl) ?_
    refine zb_getB hx hb hts hown hK hP 10 (by decide) (hts _ nw_165) rfl nd_B_refusalOfChange_13 ?_
    refine lv_if_eq (tgt := 24) hx hb nd_B_refusalOfChange_16 (by decide) (fun h_16 => ?_) (fun h_16 => ?_)
    · skip
      refine lv_iconst (v := 0) hx hb nd_B_refusalOfChange_24 (by decide) ?_
      refine zw_iret hx hb hr hlk nd_B_refusalOfChange_25 ?_
      unfold zb_refuse
      all_goals (try dsimp only)
      all_goals (try rw [if_pos h_7])
      all_goals (try rw [if_pos h_16])
      all_goals rfl
    · skip
      refine lv_bipush (v := -2) hx hb nd_B_refusalOfChange_19 (by decide) ?_
      refine lv_goto (tgt := 25) hx hb nd_B_refusalOfChange_21 (by decide) ?_
      refine zw_iret hx hb hr hlk nd_B_refusalOfChange_25 ?_
      unfold zb_refuse
      all_goals (try dsimp only)
      all_goals (try rw [if_pos h_7])
      all_goals (try rw [if_neg h_16])
      all_goals rfl
  · skip
    refine lv_iconst (v := -1) hx hb nd_B_refusalOfChange_10 (by decide) ?_
    refine zw_iret hx hb hr hlk nd_B_refusalOfChange_11 ?_
    unfold zb_refuse
    all_goals (try dsimp only)
    all_goals (try rw [if_neg h_7])
    all_goals rfl

set_option maxHeartbeats 4000000 in
set_option maxRecDepth 100000 in
theorem c_B_accountOf (l : Launch) (D : va_G) (G : zg_G) (S : zb_S) (hI : zb_I S) (x : Int32) : Met l ny_B_accountOf (Cond.code ny_B_accountOf nc_B_accountOf 2 (some (.object "DayEndBank$Account")) :: zw_big) ({ frames := 1, cells := 0, slots := 0, locals := 22 } : Room) (zw_P [.ref (zg_bnk G), .int x] D (zb_tys G) (zb_cells G S)) (zw_R (va_re (zg_acc G) (zb_accOf S x))) 0 0 (fun _ => False) := by
  refine Met.ofW (cc := nc_B_accountOf) (maxL := 2) (ret := (some (.object "DayEndBank$Account"))) (by decide) rfl ?_
  intro p e s m args below meth c s₁ B hml hv
  obtain ⟨rfl, hP, hK⟩ := hv
  have hx := B.exec
  have hb := B.bytes
  have hr := B.returns
  have hts0 := atoms_spec (ws := Cond.code ny_B_accountOf nc_B_accountOf 2 (some (.object "DayEndBank$Account")) :: zw_big) B.pre
  have hts : ∀ w ∈ zw_big, w.before [.ref (zg_bnk G), .int x].toArray s = true := fun w h => hts0 w (List.mem_cons_of_mem _ h)
  have hown : s.vm.findClass nR_B = some m.cls := findClass_of_methodNamed B.named
  have hlk := B.notSynchronized
  have hl := lv_entry ([.ref (zg_bnk G), .int x]) (n := 2) (Nat.le_of_ble_eq_true rfl)
  rw [lg_entry_eq]
  generalize (lg_sl ([.ref (zg_bnk G), .int x]) ++ List.replicate (2 - (lg_sl ([.ref (zg_bnk G), .int x])).length) Slot.unset).toArray = ls at hl ⊢
  have hl : lv_has ls 2 [(0, .ref (zg_bnk G)), (1, .int x)] := hl
  have hF : CallFix p m c nc_B_accountOf 2 s [.ref (zg_bnk G), .int x].toArray zw_big nR_B := ⟨hx, hb, hml, hown, hts⟩
  refine lv_iload_n hx hb nd_B_accountOf_0 rfl (zv_at hl 1 rfl) ?_
  refine lv_iconst (v := 0) hx hb nd_B_accountOf_1 (by decide) ?_
  refine lv_aload_n hx hb nd_B_accountOf_2 rfl (zv_at hl 0 rfl) ?_
  refine zb_getB hx hb hts hown hK hP 7 (by decide) (hts _ nw_162) rfl nd_B_accountOf_3 ?_
  refine lv_iconst (v := 1) hx hb nd_B_accountOf_6 (by decide) ?_
  refine lv_isub hx hb nd_B_accountOf_7 ?_
  refine zw_sR (As := [_, _, _]) (rest := _) hF (c_B_isWithin l _ _ _) zw_preN nk_B_isWithin nw_200 ⟨rfl, rfl, Nat.le_of_ble_eq_true rfl, Nat.le_of_ble_eq_true rfl⟩ rfl hl.1 rfl (Nat.le_of_ble_eq_true rfl) ⟨Nat.zero_le _, Nat.zero_le _⟩ nd_B_accountOf_8 ?_
  refine lv_if_eq (tgt := 23) hx hb nd_B_accountOf_11 (by decide) (fun h_11 => ?_) (fun h_11 => ?_)
  · skip
    refine lv_null hx hb nd_B_accountOf_23 ?_
    refine zw_aret (C := "DayEndBank$Account") (r2 := none) hx hb hr hlk nd_B_accountOf_24 rfl ?_
    unfold zb_accOf
    all_goals (try dsimp only)
    all_goals (try rw [if_pos h_11])
    all_goals rfl
  · skip
    obtain ⟨n, hn6, en⟩ := hI.1
    obtain ⟨j0, hj0, ej0⟩ := zb_within_nat en (by omega) h_11
    refine lv_aload_n hx hb nd_B_accountOf_14 rfl (zv_at hl 0 rfl) ?_
    refine zb_getB hx hb hts hown hK hP 0 (by decide) (hts _ nw_155) rfl nd_B_accountOf_15 ?_
    refine lv_iload_n hx hb nd_B_accountOf_18 rfl (zv_at hl 1 rfl) ?_
    refine zb_ald_acc hx hb hK hP (by rw [ej0]; exact vp_in_nI (by omega) (by decide)) nd_B_accountOf_19 ?_
    refine lv_goto (tgt := 24) hx hb nd_B_accountOf_20 (by decide) ?_
    refine zw_aret (C := "DayEndBank$Account") (r2 := some _) hx hb hr hlk nd_B_accountOf_24 rfl ?_
    unfold zb_accOf
    all_goals (try dsimp only)
    all_goals (try rw [if_neg h_11])
    all_goals rfl

set_option maxHeartbeats 4000000 in
set_option maxRecDepth 100000 in
theorem c_B_shownAccount (l : Launch) (D : va_G) (G : zg_G) (S : zb_S) (hI : zb_I S) (x : Int32) : Met l ny_B_shownAccount (Cond.code ny_B_shownAccount nc_B_shownAccount 2 (some (.object "DayEndBank$Account")) :: zw_big) ({ frames := 2, cells := 0, slots := 0, locals := 43 } : Room) (zw_P [.ref (zg_bnk G), .int x] D (zb_tys G) (zb_cells G S)) (zw_R (va_re (zg_acc G) (zb_shown S x))) 0 0 (fun _ => False) := by
  refine Met.ofW (cc := nc_B_shownAccount) (maxL := 2) (ret := (some (.object "DayEndBank$Account"))) (by decide) rfl ?_
  intro p e s m args below meth c s₁ B hml hv
  obtain ⟨rfl, hP, hK⟩ := hv
  have hx := B.exec
  have hb := B.bytes
  have hr := B.returns
  have hts0 := atoms_spec (ws := Cond.code ny_B_shownAccount nc_B_shownAccount 2 (some (.object "DayEndBank$Account")) :: zw_big) B.pre
  have hts : ∀ w ∈ zw_big, w.before [.ref (zg_bnk G), .int x].toArray s = true := fun w h => hts0 w (List.mem_cons_of_mem _ h)
  have hown : s.vm.findClass nR_B = some m.cls := findClass_of_methodNamed B.named
  have hlk := B.notSynchronized
  have hl := lv_entry ([.ref (zg_bnk G), .int x]) (n := 2) (Nat.le_of_ble_eq_true rfl)
  rw [lg_entry_eq]
  generalize (lg_sl ([.ref (zg_bnk G), .int x]) ++ List.replicate (2 - (lg_sl ([.ref (zg_bnk G), .int x])).length) Slot.unset).toArray = ls at hl ⊢
  have hl : lv_has ls 2 [(0, .ref (zg_bnk G)), (1, .int x)] := hl
  have hF : CallFix p m c nc_B_shownAccount 2 s [.ref (zg_bnk G), .int x].toArray zw_big nR_B := ⟨hx, hb, hml, hown, hts⟩
  refine lv_aload_n hx hb nd_B_shownAccount_0 rfl (zv_at hl 0 rfl) ?_
  refine zb_getB hx hb hts hown hK hP 4 (by decide) (hts _ nw_159) rfl nd_B_shownAccount_1 ?_
  refine zb_getD hx hb hts hown hK hP 0 (by decide) (hts _ nw_46) rfl nd_B_shownAccount_4 ?_
  refine lv_if_eq (tgt := 14) hx hb nd_B_shownAccount_7 (by decide) (fun h_7 => ?_) (fun h_7 => ?_)
  · skip
    refine lv_aload_n hx hb nd_B_shownAccount_14 rfl (zv_at hl 0 rfl) ?_
    refine lv_iload_n hx hb nd_B_shownAccount_15 rfl (zv_at hl 1 rfl) ?_
    refine zw_vR (As := [_]) (rest := _) hF (c_B_accountOf l D G _ (by exact hI) _) (zw_preV hP hK (q0 := 0) (ci := 0) rfl rfl rfl) nk_B_accountOf nw_244 ⟨rfl, rfl, Nat.le_of_ble_eq_true rfl, Nat.le_of_ble_eq_true rfl⟩ rfl hl.1 rfl (Nat.le_of_ble_eq_true rfl) ⟨Nat.zero_le _, Nat.zero_le _⟩ nd_B_shownAccount_16 ?_
    refine zw_split (fun hj_16 => ?_) (fun j_16 hj_16 => ?_)
    · skip
      refine zw_aret (C := "DayEndBank$Account") (r2 := none) hx hb hr hlk nd_B_shownAccount_19 rfl ?_
      unfold zb_shown
      first | rw [if_neg h_7] | (rw [if_pos h_7]; first | exact hj_16)
    · skip
      refine zw_aret (C := "DayEndBank$Account") (r2 := some _) hx hb hr hlk nd_B_shownAccount_19 rfl ?_
      unfold zb_shown
      first | rw [if_neg h_7] | (rw [if_pos h_7]; first | exact hj_16)
  · skip
    refine lv_null hx hb nd_B_shownAccount_10 ?_
    refine lv_goto (tgt := 19) hx hb nd_B_shownAccount_11 (by decide) ?_
    refine zw_aret (C := "DayEndBank$Account") (r2 := none) hx hb hr hlk nd_B_shownAccount_19 rfl ?_
    unfold zb_shown
    first | rw [if_neg h_7] | (rw [if_pos h_7]; first | exact hj_16)

set_option maxHeartbeats 4000000 in
set_option maxRecDepth 100000 in
theorem c_B_balance (l : Launch) (D : va_G) (G : zg_G) (S : zb_S) (hI : zb_I S) (x : Int32) : Met l ny_B_balance (Cond.code ny_B_balance nc_B_balance 3 (some .long) :: zw_big) ({ frames := 3, cells := 0, slots := 0, locals := 64 } : Room) (zw_P [.ref (zg_bnk G), .int x] D (zb_tys G) (zb_cells G S)) (zw_R (.long (zb_balance S x))) 0 0 (fun _ => False) := by
  refine Met.ofW (cc := nc_B_balance) (maxL := 3) (ret := (some .long)) (by decide) rfl ?_
  intro p e s m args below meth c s₁ B hml hv
  obtain ⟨rfl, hP, hK⟩ := hv
  have hx := B.exec
  have hb := B.bytes
  have hr := B.returns
  have hts0 := atoms_spec (ws := Cond.code ny_B_balance nc_B_balance 3 (some .long) :: zw_big) B.pre
  have hts : ∀ w ∈ zw_big, w.before [.ref (zg_bnk G), .int x].toArray s = true := fun w h => hts0 w (List.mem_cons_of_mem _ h)
  have hown : s.vm.findClass nR_B = some m.cls := findClass_of_methodNamed B.named
  have hlk := B.notSynchronized
  have hl := lv_entry ([.ref (zg_bnk G), .int x]) (n := 3) (Nat.le_of_ble_eq_true rfl)
  rw [lg_entry_eq]
  generalize (lg_sl ([.ref (zg_bnk G), .int x]) ++ List.replicate (3 - (lg_sl ([.ref (zg_bnk G), .int x])).length) Slot.unset).toArray = ls at hl ⊢
  have hl : lv_has ls 3 [(0, .ref (zg_bnk G)), (1, .int x)] := hl
  have hF : CallFix p m c nc_B_balance 3 s [.ref (zg_bnk G), .int x].toArray zw_big nR_B := ⟨hx, hb, hml, hown, hts⟩
  refine lv_aload_n hx hb nd_B_balance_0 rfl (zv_at hl 0 rfl) ?_
  refine lv_iload_n hx hb nd_B_balance_1 rfl (zv_at hl 1 rfl) ?_
  refine zw_vR (As := [_]) (rest := _) hF (c_B_shownAccount l D G _ (by exact hI) _) (zw_preV hP hK (q0 := 0) (ci := 0) rfl rfl rfl) nk_B_shownAccount nw_416 ⟨rfl, rfl, Nat.le_of_ble_eq_true rfl, Nat.le_of_ble_eq_true rfl⟩ rfl hl.1 rfl (Nat.le_of_ble_eq_true rfl) ⟨Nat.zero_le _, Nat.zero_le _⟩ nd_B_balance_2 ?_
  refine zw_split (fun hj_2 => ?_) (fun j_2 hj_2 => ?_)
  · skip
    refine lv_astore_nN hx hb nd_B_balance_5 rfl hl (by decide) rfl (fun ls hl => ?_)
    refine lv_aload_nN hx hb nd_B_balance_6 rfl (zv_at hl 2 rfl) ?_
    refine lv_ifnonnullN hx hb nd_B_balance_7 ?_
    refine lv_lconst (v := 0) hx hb nd_B_balance_10 (by decide) ?_
    refine lv_goto (tgt := 18) hx hb nd_B_balance_11 (by decide) ?_
    refine zw_lret hx hb hr hlk nd_B_balance_18 ?_
    unfold zb_balance
    all_goals (try dsimp only)
    all_goals (try rw [hj_2])
    all_goals (try dsimp only)
    all_goals rfl
  · skip
    have hj6 : j_2 < 6 := zb_shown_lt hI hj_2
    refine lv_astore_n hx hb nd_B_balance_5 rfl hl (by decide) rfl (fun ls hl => ?_)
    refine lv_aload_n hx hb nd_B_balance_6 rfl (zv_at hl 2 rfl) ?_
    refine lv_ifnonnull (tgt := 14) hx hb nd_B_balance_7 (by decide) ?_
    refine lv_aload_n hx hb nd_B_balance_14 rfl (zv_at hl 2 rfl) ?_
    refine zb_getA hx hb hts hown hK hP (by assumption) 5 (by decide) (hts _ nw_84) rfl nd_B_balance_15 ?_
    refine zw_lret hx hb hr hlk nd_B_balance_18 ?_
    unfold zb_balance
    all_goals (try dsimp only)
    all_goals (try rw [hj_2])
    all_goals (try dsimp only)
    all_goals rfl

set_option maxHeartbeats 4000000 in
set_option maxRecDepth 100000 in
theorem c_B_available (l : Launch) (D : va_G) (G : zg_G) (S : zb_S) (hI : zb_I S) (x : Int32) : Met l ny_B_available (Cond.code ny_B_available nc_B_available 3 (some .long) :: zw_big) ({ frames := 3, cells := 0, slots := 0, locals := 64 } : Room) (zw_P [.ref (zg_bnk G), .int x] D (zb_tys G) (zb_cells G S)) (zw_R (.long (zb_avail S x))) 0 0 (fun _ => False) := by
  refine Met.ofW (cc := nc_B_available) (maxL := 3) (ret := (some .long)) (by decide) rfl ?_
  intro p e s m args below meth c s₁ B hml hv
  obtain ⟨rfl, hP, hK⟩ := hv
  have hx := B.exec
  have hb := B.bytes
  have hr := B.returns
  have hts0 := atoms_spec (ws := Cond.code ny_B_available nc_B_available 3 (some .long) :: zw_big) B.pre
  have hts : ∀ w ∈ zw_big, w.before [.ref (zg_bnk G), .int x].toArray s = true := fun w h => hts0 w (List.mem_cons_of_mem _ h)
  have hown : s.vm.findClass nR_B = some m.cls := findClass_of_methodNamed B.named
  have hlk := B.notSynchronized
  have hl := lv_entry ([.ref (zg_bnk G), .int x]) (n := 3) (Nat.le_of_ble_eq_true rfl)
  rw [lg_entry_eq]
  generalize (lg_sl ([.ref (zg_bnk G), .int x]) ++ List.replicate (3 - (lg_sl ([.ref (zg_bnk G), .int x])).length) Slot.unset).toArray = ls at hl ⊢
  have hl : lv_has ls 3 [(0, .ref (zg_bnk G)), (1, .int x)] := hl
  have hF : CallFix p m c nc_B_available 3 s [.ref (zg_bnk G), .int x].toArray zw_big nR_B := ⟨hx, hb, hml, hown, hts⟩
  refine lv_aload_n hx hb nd_B_available_0 rfl (zv_at hl 0 rfl) ?_
  refine lv_iload_n hx hb nd_B_available_1 rfl (zv_at hl 1 rfl) ?_
  refine zw_vR (As := [_]) (rest := _) hF (c_B_shownAccount l D G _ (by exact hI) _) (zw_preV hP hK (q0 := 0) (ci := 0) rfl rfl rfl) nk_B_shownAccount nw_416 ⟨rfl, rfl, Nat.le_of_ble_eq_true rfl, Nat.le_of_ble_eq_true rfl⟩ rfl hl.1 rfl (Nat.le_of_ble_eq_true rfl) ⟨Nat.zero_le _, Nat.zero_le _⟩ nd_B_available_2 ?_
  refine zw_split (fun hj_2 => ?_) (fun j_2 hj_2 => ?_)
  · skip
    refine lv_astore_nN hx hb nd_B_available_5 rfl hl (by decide) rfl (fun ls hl => ?_)
    refine lv_aload_nN hx hb nd_B_available_6 rfl (zv_at hl 2 rfl) ?_
    refine lv_ifnonnullN hx hb nd_B_available_7 ?_
    refine lv_lconst (v := 0) hx hb nd_B_available_10 (by decide) ?_
    refine lv_goto (tgt := 18) hx hb nd_B_available_11 (by decide) ?_
    refine zw_lret hx hb hr hlk nd_B_available_18 ?_
    unfold zb_avail
    all_goals (try dsimp only)
    all_goals (try rw [hj_2])
    all_goals (try dsimp only)
    all_goals rfl
  · skip
    have hj6 : j_2 < 6 := zb_shown_lt hI hj_2
    refine lv_astore_n hx hb nd_B_available_5 rfl hl (by decide) rfl (fun ls hl => ?_)
    refine lv_aload_n hx hb nd_B_available_6 rfl (zv_at hl 2 rfl) ?_
    refine lv_ifnonnull (tgt := 14) hx hb nd_B_available_7 (by decide) ?_
    refine lv_aload_n hx hb nd_B_available_14 rfl (zv_at hl 2 rfl) ?_
    refine zw_vR (As := []) (rest := _) hF (c_A_spendable l D G _ _ (by assumption)) (zw_preV hP hK (ci := 1) rfl (zb_atA (by assumption)) rfl) nk_A_spendable nw_251 ⟨rfl, rfl, Nat.le_of_ble_eq_true rfl, Nat.le_of_ble_eq_true rfl⟩ rfl hl.1 rfl (Nat.le_of_ble_eq_true rfl) ⟨Nat.zero_le _, Nat.zero_le _⟩ nd_B_available_15 ?_
    refine zw_lret hx hb hr hlk nd_B_available_18 ?_
    unfold zb_avail
    all_goals (try dsimp only)
    all_goals (try rw [hj_2])
    all_goals (try dsimp only)
    all_goals rfl

set_option maxHeartbeats 4000000 in
set_option maxRecDepth 100000 in
theorem c_B_accrued (l : Launch) (D : va_G) (G : zg_G) (S : zb_S) (hI : zb_I S) (x : Int32) : Met l ny_B_accrued (Cond.code ny_B_accrued nc_B_accrued 3 (some .long) :: zw_big) ({ frames := 3, cells := 0, slots := 0, locals := 64 } : Room) (zw_P [.ref (zg_bnk G), .int x] D (zb_tys G) (zb_cells G S)) (zw_R (.long (zb_accrd S x))) 0 0 (fun _ => False) := by
  refine Met.ofW (cc := nc_B_accrued) (maxL := 3) (ret := (some .long)) (by decide) rfl ?_
  intro p e s m args below meth c s₁ B hml hv
  obtain ⟨rfl, hP, hK⟩ := hv
  have hx := B.exec
  have hb := B.bytes
  have hr := B.returns
  have hts0 := atoms_spec (ws := Cond.code ny_B_accrued nc_B_accrued 3 (some .long) :: zw_big) B.pre
  have hts : ∀ w ∈ zw_big, w.before [.ref (zg_bnk G), .int x].toArray s = true := fun w h => hts0 w (List.mem_cons_of_mem _ h)
  have hown : s.vm.findClass nR_B = some m.cls := findClass_of_methodNamed B.named
  have hlk := B.notSynchronized
  have hl := lv_entry ([.ref (zg_bnk G), .int x]) (n := 3) (Nat.le_of_ble_eq_true rfl)
  rw [lg_entry_eq]
  generalize (lg_sl ([.ref (zg_bnk G), .int x]) ++ List.replicate (3 - (lg_sl ([.ref (zg_bnk G), .int x])).length) Slot.unset).toArray = ls at hl ⊢
  have hl : lv_has ls 3 [(0, .ref (zg_bnk G)), (1, .int x)] := hl
  have hF : CallFix p m c nc_B_accrued 3 s [.ref (zg_bnk G), .int x].toArray zw_big nR_B := ⟨hx, hb, hml, hown, hts⟩
  refine lv_aload_n hx hb nd_B_accrued_0 rfl (zv_at hl 0 rfl) ?_
  refine lv_iload_n hx hb nd_B_accrued_1 rfl (zv_at hl 1 rfl) ?_
  refine zw_vR (As := [_]) (rest := _) hF (c_B_shownAccount l D G _ (by exact hI) _) (zw_preV hP hK (q0 := 0) (ci := 0) rfl rfl rfl) nk_B_shownAccount nw_416 ⟨rfl, rfl, Nat.le_of_ble_eq_true rfl, Nat.le_of_ble_eq_true rfl⟩ rfl hl.1 rfl (Nat.le_of_ble_eq_true rfl) ⟨Nat.zero_le _, Nat.zero_le _⟩ nd_B_accrued_2 ?_
  refine zw_split (fun hj_2 => ?_) (fun j_2 hj_2 => ?_)
  · skip
    refine lv_astore_nN hx hb nd_B_accrued_5 rfl hl (by decide) rfl (fun ls hl => ?_)
    refine lv_aload_nN hx hb nd_B_accrued_6 rfl (zv_at hl 2 rfl) ?_
    refine lv_ifnonnullN hx hb nd_B_accrued_7 ?_
    refine lv_lconst (v := 0) hx hb nd_B_accrued_10 (by decide) ?_
    refine lv_goto (tgt := 18) hx hb nd_B_accrued_11 (by decide) ?_
    refine zw_lret hx hb hr hlk nd_B_accrued_18 ?_
    unfold zb_accrd
    all_goals (try dsimp only)
    all_goals (try rw [hj_2])
    all_goals (try dsimp only)
    all_goals rfl
  · skip
    have hj6 : j_2 < 6 := zb_shown_lt hI hj_2
    refine lv_astore_n hx hb nd_B_accrued_5 rfl hl (by decide) rfl (fun ls hl => ?_)
    refine lv_aload_n hx hb nd_B_accrued_6 rfl (zv_at hl 2 rfl) ?_
    refine lv_ifnonnull (tgt := 14) hx hb nd_B_accrued_7 (by decide) ?_
    refine lv_aload_n hx hb nd_B_accrued_14 rfl (zv_at hl 2 rfl) ?_
    refine zb_getA hx hb hts hown hK hP (by assumption) 7 (by decide) (hts _ nw_88) rfl nd_B_accrued_15 ?_
    refine zw_lret hx hb hr hlk nd_B_accrued_18 ?_
    unfold zb_accrd
    all_goals (try dsimp only)
    all_goals (try rw [hj_2])
    all_goals (try dsimp only)
    all_goals rfl

set_option maxHeartbeats 4000000 in
set_option maxRecDepth 100000 in
theorem c_B_mark (l : Launch) (D : va_G) (G : zg_G) (S : zb_S) (hI : zb_I S) (x : Int32) : Met l ny_B_mark (Cond.code ny_B_mark nc_B_mark 3 (some .int) :: zw_big) ({ frames := 3, cells := 0, slots := 0, locals := 64 } : Room) (zw_P [.ref (zg_bnk G), .int x] D (zb_tys G) (zb_cells G S)) (zw_R (.int (zb_markC S x))) 0 0 (fun _ => False) := by
  refine Met.ofW (cc := nc_B_mark) (maxL := 3) (ret := (some .int)) (by decide) rfl ?_
  intro p e s m args below meth c s₁ B hml hv
  obtain ⟨rfl, hP, hK⟩ := hv
  have hx := B.exec
  have hb := B.bytes
  have hr := B.returns
  have hts0 := atoms_spec (ws := Cond.code ny_B_mark nc_B_mark 3 (some .int) :: zw_big) B.pre
  have hts : ∀ w ∈ zw_big, w.before [.ref (zg_bnk G), .int x].toArray s = true := fun w h => hts0 w (List.mem_cons_of_mem _ h)
  have hown : s.vm.findClass nR_B = some m.cls := findClass_of_methodNamed B.named
  have hlk := B.notSynchronized
  have hl := lv_entry ([.ref (zg_bnk G), .int x]) (n := 3) (Nat.le_of_ble_eq_true rfl)
  rw [lg_entry_eq]
  generalize (lg_sl ([.ref (zg_bnk G), .int x]) ++ List.replicate (3 - (lg_sl ([.ref (zg_bnk G), .int x])).length) Slot.unset).toArray = ls at hl ⊢
  have hl : lv_has ls 3 [(0, .ref (zg_bnk G)), (1, .int x)] := hl
  have hF : CallFix p m c nc_B_mark 3 s [.ref (zg_bnk G), .int x].toArray zw_big nR_B := ⟨hx, hb, hml, hown, hts⟩
  refine lv_aload_n hx hb nd_B_mark_0 rfl (zv_at hl 0 rfl) ?_
  refine lv_iload_n hx hb nd_B_mark_1 rfl (zv_at hl 1 rfl) ?_
  refine zw_vR (As := [_]) (rest := _) hF (c_B_shownAccount l D G _ (by exact hI) _) (zw_preV hP hK (q0 := 0) (ci := 0) rfl rfl rfl) nk_B_shownAccount nw_416 ⟨rfl, rfl, Nat.le_of_ble_eq_true rfl, Nat.le_of_ble_eq_true rfl⟩ rfl hl.1 rfl (Nat.le_of_ble_eq_true rfl) ⟨Nat.zero_le _, Nat.zero_le _⟩ nd_B_mark_2 ?_
  refine zw_split (fun hj_2 => ?_) (fun j_2 hj_2 => ?_)
  · skip
    refine lv_astore_nN hx hb nd_B_mark_5 rfl hl (by decide) rfl (fun ls hl => ?_)
    refine lv_aload_nN hx hb nd_B_mark_6 rfl (zv_at hl 2 rfl) ?_
    refine lv_ifnonnullN hx hb nd_B_mark_7 ?_
    refine lv_iconst (v := 0) hx hb nd_B_mark_10 (by decide) ?_
    refine lv_goto (tgt := 18) hx hb nd_B_mark_11 (by decide) ?_
    refine zw_iret hx hb hr hlk nd_B_mark_18 ?_
    unfold zb_markC
    all_goals (try dsimp only)
    all_goals (try rw [hj_2])
    all_goals (try dsimp only)
    all_goals rfl
  · skip
    have hj6 : j_2 < 6 := zb_shown_lt hI hj_2
    refine lv_astore_n hx hb nd_B_mark_5 rfl hl (by decide) rfl (fun ls hl => ?_)
    refine lv_aload_n hx hb nd_B_mark_6 rfl (zv_at hl 2 rfl) ?_
    refine lv_ifnonnull (tgt := 14) hx hb nd_B_mark_7 (by decide) ?_
    refine lv_aload_n hx hb nd_B_mark_14 rfl (zv_at hl 2 rfl) ?_
    refine zb_getA hx hb hts hown hK hP (by assumption) 8 (by decide) (hts _ nw_89) rfl nd_B_mark_15 ?_
    refine zw_iret hx hb hr hlk nd_B_mark_18 ?_
    unfold zb_markC
    all_goals (try dsimp only)
    all_goals (try rw [hj_2])
    all_goals (try dsimp only)
    all_goals rfl

set_option maxHeartbeats 4000000 in
set_option maxRecDepth 100000 in
theorem c_B_today (l : Launch) (D : va_G) (G : zg_G) (S : zb_S) : Met l ny_B_today (Cond.code ny_B_today nc_B_today 1 (some .int) :: zw_big) ({ frames := 0, cells := 0, slots := 0, locals := 0 } : Room) (zw_P [.ref (zg_bnk G)] D (zb_tys G) (zb_cells G S)) (zw_R (.int (zb_today S))) 0 0 (fun _ => False) := by
  refine Met.ofW (cc := nc_B_today) (maxL := 1) (ret := (some .int)) (by decide) rfl ?_
  intro p e s m args below meth c s₁ B hml hv
  obtain ⟨rfl, hP, hK⟩ := hv
  have hx := B.exec
  have hb := B.bytes
  have hr := B.returns
  have hts0 := atoms_spec (ws := Cond.code ny_B_today nc_B_today 1 (some .int) :: zw_big) B.pre
  have hts : ∀ w ∈ zw_big, w.before [.ref (zg_bnk G)].toArray s = true := fun w h => hts0 w (List.mem_cons_of_mem _ h)
  have hown : s.vm.findClass nR_B = some m.cls := findClass_of_methodNamed B.named
  have hlk := B.notSynchronized
  have hl := lv_entry ([.ref (zg_bnk G)]) (n := 1) (Nat.le_of_ble_eq_true rfl)
  rw [lg_entry_eq]
  generalize (lg_sl ([.ref (zg_bnk G)]) ++ List.replicate (1 - (lg_sl ([.ref (zg_bnk G)])).length) Slot.unset).toArray = ls at hl ⊢
  have hl : lv_has ls 1 [(0, .ref (zg_bnk G))] := hl
  have hF : CallFix p m c nc_B_today 1 s [.ref (zg_bnk G)].toArray zw_big nR_B := ⟨hx, hb, hml, hown, hts⟩
  refine lv_aload_n hx hb nd_B_today_0 rfl (zv_at hl 0 rfl) ?_
  refine zb_getB hx hb hts hown hK hP 4 (by decide) (hts _ nw_159) rfl nd_B_today_1 ?_
  refine zb_getD hx hb hts hown hK hP 0 (by decide) (hts _ nw_46) rfl nd_B_today_4 ?_
  refine lv_if_eq (tgt := 14) hx hb nd_B_today_7 (by decide) (fun h_7 => ?_) (fun h_7 => ?_)
  · skip
    refine lv_aload_n hx hb nd_B_today_14 rfl (zv_at hl 0 rfl) ?_
    refine zb_getB hx hb hts hown hK hP 9 (by decide) (hts _ nw_164) rfl nd_B_today_15 ?_
    refine zw_iret hx hb hr hlk nd_B_today_18 ?_
    unfold zb_today
    all_goals (try dsimp only)
    all_goals (try rw [if_pos h_7])
    all_goals rfl
  · skip
    refine lv_iconst (v := 0) hx hb nd_B_today_10 (by decide) ?_
    refine lv_goto (tgt := 18) hx hb nd_B_today_11 (by decide) ?_
    refine zw_iret hx hb hr hlk nd_B_today_18 ?_
    unfold zb_today
    all_goals (try dsimp only)
    all_goals (try rw [if_neg h_7])
    all_goals rfl

set_option maxHeartbeats 4000000 in
set_option maxRecDepth 100000 in
theorem c_B_writes (l : Launch) (D : va_G) (G : zg_G) (S : zb_S) : Met l ny_B_writes (Cond.code ny_B_writes nc_B_writes 1 (some .int) :: zw_big) ({ frames := 0, cells := 0, slots := 0, locals := 0 } : Room) (zw_P [.ref (zg_bnk G)] D (zb_tys G) (zb_cells G S)) (zw_R (.int (zb_writes S))) 0 0 (fun _ => False) := by
  refine Met.ofW (cc := nc_B_writes) (maxL := 1) (ret := (some .int)) (by decide) rfl ?_
  intro p e s m args below meth c s₁ B hml hv
  obtain ⟨rfl, hP, hK⟩ := hv
  have hx := B.exec
  have hb := B.bytes
  have hr := B.returns
  have hts0 := atoms_spec (ws := Cond.code ny_B_writes nc_B_writes 1 (some .int) :: zw_big) B.pre
  have hts : ∀ w ∈ zw_big, w.before [.ref (zg_bnk G)].toArray s = true := fun w h => hts0 w (List.mem_cons_of_mem _ h)
  have hown : s.vm.findClass nR_B = some m.cls := findClass_of_methodNamed B.named
  have hlk := B.notSynchronized
  have hl := lv_entry ([.ref (zg_bnk G)]) (n := 1) (Nat.le_of_ble_eq_true rfl)
  rw [lg_entry_eq]
  generalize (lg_sl ([.ref (zg_bnk G)]) ++ List.replicate (1 - (lg_sl ([.ref (zg_bnk G)])).length) Slot.unset).toArray = ls at hl ⊢
  have hl : lv_has ls 1 [(0, .ref (zg_bnk G))] := hl
  have hF : CallFix p m c nc_B_writes 1 s [.ref (zg_bnk G)].toArray zw_big nR_B := ⟨hx, hb, hml, hown, hts⟩
  refine lv_aload_n hx hb nd_B_writes_0 rfl (zv_at hl 0 rfl) ?_
  refine zb_getB hx hb hts hown hK hP 4 (by decide) (hts _ nw_159) rfl nd_B_writes_1 ?_
  refine zb_getD hx hb hts hown hK hP 1 (by decide) (hts _ nw_48) rfl nd_B_writes_4 ?_
  refine zw_iret hx hb hr hlk nd_B_writes_7 ?_
  all_goals rfl

set_option maxHeartbeats 4000000 in
set_option maxRecDepth 100000 in
theorem c_B_lines (l : Launch) (D : va_G) (G : zg_G) (S : zb_S) : Met l ny_B_lines (Cond.code ny_B_lines nc_B_lines 1 (some .int) :: zw_big) ({ frames := 0, cells := 0, slots := 0, locals := 0 } : Room) (zw_P [.ref (zg_bnk G)] D (zb_tys G) (zb_cells G S)) (zw_R (.int (zb_linesC S))) 0 0 (fun _ => False) := by
  refine Met.ofW (cc := nc_B_lines) (maxL := 1) (ret := (some .int)) (by decide) rfl ?_
  intro p e s m args below meth c s₁ B hml hv
  obtain ⟨rfl, hP, hK⟩ := hv
  have hx := B.exec
  have hb := B.bytes
  have hr := B.returns
  have hts0 := atoms_spec (ws := Cond.code ny_B_lines nc_B_lines 1 (some .int) :: zw_big) B.pre
  have hts : ∀ w ∈ zw_big, w.before [.ref (zg_bnk G)].toArray s = true := fun w h => hts0 w (List.mem_cons_of_mem _ h)
  have hown : s.vm.findClass nR_B = some m.cls := findClass_of_methodNamed B.named
  have hlk := B.notSynchronized
  have hl := lv_entry ([.ref (zg_bnk G)]) (n := 1) (Nat.le_of_ble_eq_true rfl)
  rw [lg_entry_eq]
  generalize (lg_sl ([.ref (zg_bnk G)]) ++ List.replicate (1 - (lg_sl ([.ref (zg_bnk G)])).length) Slot.unset).toArray = ls at hl ⊢
  have hl : lv_has ls 1 [(0, .ref (zg_bnk G))] := hl
  have hF : CallFix p m c nc_B_lines 1 s [.ref (zg_bnk G)].toArray zw_big nR_B := ⟨hx, hb, hml, hown, hts⟩
  refine lv_aload_n hx hb nd_B_lines_0 rfl (zv_at hl 0 rfl) ?_
  refine zb_getB hx hb hts hown hK hP 4 (by decide) (hts _ nw_159) rfl nd_B_lines_1 ?_
  refine zb_getD hx hb hts hown hK hP 0 (by decide) (hts _ nw_46) rfl nd_B_lines_4 ?_
  refine lv_if_eq (tgt := 14) hx hb nd_B_lines_7 (by decide) (fun h_7 => ?_) (fun h_7 => ?_)
  · skip
    refine lv_aload_n hx hb nd_B_lines_14 rfl (zv_at hl 0 rfl) ?_
    refine zb_getB hx hb hts hown hK hP 4 (by decide) (hts _ nw_159) rfl nd_B_lines_15 ?_
    refine zb_getD hx hb hts hown hK hP 3 (by decide) (hts _ nw_52) rfl nd_B_lines_18 ?_
    refine zw_iret hx hb hr hlk nd_B_lines_21 ?_
    unfold zb_linesC
    all_goals (try dsimp only)
    all_goals (try rw [if_pos h_7])
    all_goals rfl
  · skip
    refine lv_iconst (v := 0) hx hb nd_B_lines_10 (by decide) ?_
    refine lv_goto (tgt := 21) hx hb nd_B_lines_11 (by decide) ?_
    refine zw_iret hx hb hr hlk nd_B_lines_21 ?_
    unfold zb_linesC
    all_goals (try dsimp only)
    all_goals (try rw [if_neg h_7])
    all_goals rfl

set_option maxHeartbeats 4000000 in
set_option maxRecDepth 100000 in
theorem c_B_count (l : Launch) (D : va_G) (G : zg_G) (S : zb_S) (b x y : Int32) : Met l ny_B_count (Cond.code ny_B_count nc_B_count 4 (some .int) :: zw_big) ({ frames := 4, cells := 0, slots := 0, locals := 98 } : Room) (zw_P [.ref (zg_bnk G), .int b, .int x, .int y] D (zb_tys G) (zb_cells G S)) (zw_R (.int (zb_count b x y))) 0 0 (fun _ => False) := by
  refine Met.ofW (cc := nc_B_count) (maxL := 4) (ret := (some .int)) (by decide) rfl ?_
  intro p e s m args below meth c s₁ B hml hv
  obtain ⟨rfl, hP, hK⟩ := hv
  have hx := B.exec
  have hb := B.bytes
  have hr := B.returns
  have hts0 := atoms_spec (ws := Cond.code ny_B_count nc_B_count 4 (some .int) :: zw_big) B.pre
  have hts : ∀ w ∈ zw_big, w.before [.ref (zg_bnk G), .int b, .int x, .int y].toArray s = true := fun w h => hts0 w (List.mem_cons_of_mem _ h)
  have hown : s.vm.findClass nR_B = some m.cls := findClass_of_methodNamed B.named
  have hlk := B.notSynchronized
  have hl := lv_entry ([.ref (zg_bnk G), .int b, .int x, .int y]) (n := 4) (Nat.le_of_ble_eq_true rfl)
  rw [lg_entry_eq]
  generalize (lg_sl ([.ref (zg_bnk G), .int b, .int x, .int y]) ++ List.replicate (4 - (lg_sl ([.ref (zg_bnk G), .int b, .int x, .int y])).length) Slot.unset).toArray = ls at hl ⊢
  have hl : lv_has ls 4 [(0, .ref (zg_bnk G)), (1, .int b), (2, .int x), (3, .int y)] := hl
  have hF : CallFix p m c nc_B_count 4 s [.ref (zg_bnk G), .int b, .int x, .int y].toArray zw_big nR_B := ⟨hx, hb, hml, hown, hts⟩
  refine lv_iload_n hx hb nd_B_count_0 rfl (zv_at hl 1 rfl) ?_
  refine zw_sR (As := [_]) (rest := _) hF (c_C_isBasis l _) zw_preN nk_C_isBasis nw_203 ⟨rfl, rfl, Nat.le_of_ble_eq_true rfl, Nat.le_of_ble_eq_true rfl⟩ rfl hl.1 rfl (Nat.le_of_ble_eq_true rfl) ⟨Nat.zero_le _, Nat.zero_le _⟩ nd_B_count_1 ?_
  refine lv_if_eq (tgt := 22) hx hb nd_B_count_4 (by decide) (fun h_4 => ?_) (fun h_4 => ?_)
  · skip
    refine lv_iconst (v := -1) hx hb nd_B_count_22 (by decide) ?_
    refine zw_iret hx hb hr hlk nd_B_count_23 ?_
    unfold zb_count
    all_goals (try dsimp only)
    all_goals (try rw [if_pos h_4])
    all_goals rfl
  · skip
    refine lv_iload_n hx hb nd_B_count_7 rfl (zv_at hl 2 rfl) ?_
    refine lv_if_lt (tgt := 22) hx hb nd_B_count_8 (by decide) (fun h_8 => ?_) (fun h_8 => ?_)
    · skip
      refine lv_iconst (v := -1) hx hb nd_B_count_22 (by decide) ?_
      refine zw_iret hx hb hr hlk nd_B_count_23 ?_
      unfold zb_count
      all_goals (try dsimp only)
      all_goals (try rw [if_neg h_4])
      all_goals (try rw [if_pos h_8])
      all_goals rfl
    · skip
      refine lv_iload_n hx hb nd_B_count_11 rfl (zv_at hl 2 rfl) ?_
      refine lv_iload_n hx hb nd_B_count_12 rfl (zv_at hl 3 rfl) ?_
      refine lv_icmp_gt (tgt := 22) hx hb nd_B_count_13 (by decide) (fun h_13 => ?_) (fun h_13 => ?_)
      · skip
        refine lv_iconst (v := -1) hx hb nd_B_count_22 (by decide) ?_
        refine zw_iret hx hb hr hlk nd_B_count_23 ?_
        unfold zb_count
        all_goals (try dsimp only)
        all_goals (try rw [if_neg h_4])
        all_goals (try rw [if_neg h_8])
        all_goals (try rw [if_pos h_13])
        all_goals rfl
      · skip
        refine lv_iload_n hx hb nd_B_count_16 rfl (zv_at hl 3 rfl) ?_
        refine lv_ldc (v := 99999) hx hb hown (hts _ nw_452) nd_B_count_17 ?_
        refine lv_icmp_le (tgt := 24) hx hb nd_B_count_19 (by decide) (fun h_19 => ?_) (fun h_19 => ?_)
        · skip
          refine lv_iload_n hx hb nd_B_count_24 rfl (zv_at hl 1 rfl) ?_
          refine lv_iload_n hx hb nd_B_count_25 rfl (zv_at hl 2 rfl) ?_
          refine lv_iload_n hx hb nd_B_count_26 rfl (zv_at hl 3 rfl) ?_
          refine zw_sR (As := [_, _, _]) (rest := _) hF (c_C_dayCount l _ _ _) zw_preN nk_C_dayCount nw_372 ⟨rfl, rfl, Nat.le_of_ble_eq_true rfl, Nat.le_of_ble_eq_true rfl⟩ rfl hl.1 rfl (Nat.le_of_ble_eq_true rfl) ⟨Nat.zero_le _, Nat.zero_le _⟩ nd_B_count_27 ?_
          refine zw_iret hx hb hr hlk nd_B_count_30 ?_
          unfold zb_count
          all_goals (try dsimp only)
          all_goals (try rw [if_neg h_4])
          all_goals (try rw [if_neg h_8])
          all_goals (try rw [if_neg h_13])
          all_goals (try rw [if_pos h_19])
          all_goals rfl
        · skip
          refine lv_iconst (v := -1) hx hb nd_B_count_22 (by decide) ?_
          refine zw_iret hx hb hr hlk nd_B_count_23 ?_
          unfold zb_count
          all_goals (try dsimp only)
          all_goals (try rw [if_neg h_4])
          all_goals (try rw [if_neg h_8])
          all_goals (try rw [if_neg h_13])
          all_goals (try rw [if_neg h_19])
          all_goals rfl

set_option maxHeartbeats 4000000 in
set_option maxRecDepth 100000 in
theorem c_B_missed (l : Launch) (D : va_G) (G : zg_G) (S : zb_S) (hI : zb_I S) (x : Int32) : Met l ny_B_missed (Cond.code ny_B_missed nc_B_missed 2 (some .int) :: zw_big) ({ frames := 1, cells := 0, slots := 0, locals := 22 } : Room) (zw_P [.ref (zg_bnk G), .int x] D (zb_tys G) (zb_cells G S)) (zw_R (.int (zb_missed S x))) 0 0 (fun _ => False) := by
  refine Met.ofW (cc := nc_B_missed) (maxL := 2) (ret := (some .int)) (by decide) rfl ?_
  intro p e s m args below meth c s₁ B hml hv
  obtain ⟨rfl, hP, hK⟩ := hv
  have hx := B.exec
  have hb := B.bytes
  have hr := B.returns
  have hts0 := atoms_spec (ws := Cond.code ny_B_missed nc_B_missed 2 (some .int) :: zw_big) B.pre
  have hts : ∀ w ∈ zw_big, w.before [.ref (zg_bnk G), .int x].toArray s = true := fun w h => hts0 w (List.mem_cons_of_mem _ h)
  have hown : s.vm.findClass nR_B = some m.cls := findClass_of_methodNamed B.named
  have hlk := B.notSynchronized
  have hl := lv_entry ([.ref (zg_bnk G), .int x]) (n := 2) (Nat.le_of_ble_eq_true rfl)
  rw [lg_entry_eq]
  generalize (lg_sl ([.ref (zg_bnk G), .int x]) ++ List.replicate (2 - (lg_sl ([.ref (zg_bnk G), .int x])).length) Slot.unset).toArray = ls at hl ⊢
  have hl : lv_has ls 2 [(0, .ref (zg_bnk G)), (1, .int x)] := hl
  have hF : CallFix p m c nc_B_missed 2 s [.ref (zg_bnk G), .int x].toArray zw_big nR_B := ⟨hx, hb, hml, hown, hts⟩
  refine lv_aload_n hx hb nd_B_missed_0 rfl (zv_at hl 0 rfl) ?_
  refine zb_getB hx hb hts hown hK hP 4 (by decide) (hts _ nw_159) rfl nd_B_missed_1 ?_
  refine zb_getD hx hb hts hown hK hP 0 (by decide) (hts _ nw_46) rfl nd_B_missed_4 ?_
  refine lv_if_ne (tgt := 24) hx hb nd_B_missed_7 (by decide) (fun h_7 => ?_) (fun h_7 => ?_)
  · skip
    refine lv_iconst (v := 0) hx hb nd_B_missed_24 (by decide) ?_
    refine zw_iret hx hb hr hlk nd_B_missed_25 ?_
    unfold zb_missed
    all_goals (try dsimp only)
    all_goals (try rw [if_neg h_7])
    all_goals rfl
  · skip
    refine lv_iload_n hx hb nd_B_missed_10 rfl (zv_at hl 1 rfl) ?_
    refine lv_iconst (v := 0) hx hb nd_B_missed_11 (by decide) ?_
    refine lv_aload_n hx hb nd_B_missed_12 rfl (zv_at hl 0 rfl) ?_
    refine zb_getB hx hb hts hown hK hP 8 (by decide) (hts _ nw_163) rfl nd_B_missed_13 ?_
    refine lv_iconst (v := 1) hx hb nd_B_missed_16 (by decide) ?_
    refine lv_isub hx hb nd_B_missed_17 ?_
    refine zw_sR (As := [_, _, _]) (rest := _) hF (c_B_isWithin l _ _ _) zw_preN nk_B_isWithin nw_200 ⟨rfl, rfl, Nat.le_of_ble_eq_true rfl, Nat.le_of_ble_eq_true rfl⟩ rfl hl.1 rfl (Nat.le_of_ble_eq_true rfl) ⟨Nat.zero_le _, Nat.zero_le _⟩ nd_B_missed_18 ?_
    refine lv_if_ne (tgt := 26) hx hb nd_B_missed_21 (by decide) (fun h_21 => ?_) (fun h_21 => ?_)
    · skip
      obtain ⟨o, ho6, eo⟩ := hI.2.1
      obtain ⟨j0, hj0, ej0⟩ := zb_within_nat eo (by omega) h_21
      have hx6 : x.toNatClampNeg < 6 := by rw [ej0, nI_clamp (by omega)]; omega
      refine lv_aload_n hx hb nd_B_missed_26 rfl (zv_at hl 0 rfl) ?_
      refine zb_getB hx hb hts hown hK hP 2 (by decide) (hts _ nw_157) rfl nd_B_missed_27 ?_
      refine lv_iload_n hx hb nd_B_missed_30 rfl (zv_at hl 1 rfl) ?_
      refine zb_ald_ord hx hb hK hP (by rw [ej0]; exact vp_in_nI (by omega) (by decide)) nd_B_missed_31 ?_
      refine zb_getO hx hb hts hown hK hP (by assumption) 4 (by decide) (hts _ nw_137) rfl nd_B_missed_32 ?_
      refine zw_iret hx hb hr hlk nd_B_missed_35 ?_
      unfold zb_missed
      all_goals (try dsimp only)
      all_goals (try rw [if_pos h_7])
      all_goals (try rw [if_neg h_21])
      all_goals rfl
    · skip
      refine lv_iconst (v := 0) hx hb nd_B_missed_24 (by decide) ?_
      refine zw_iret hx hb hr hlk nd_B_missed_25 ?_
      unfold zb_missed
      all_goals (try dsimp only)
      all_goals (try rw [if_pos h_7])
      all_goals (try rw [if_pos h_21])
      all_goals rfl

set_option maxHeartbeats 4000000 in
set_option maxRecDepth 100000 in
theorem c_B_isParty (l : Launch) (D : va_G) (G : zg_G) (S : zb_S) (hI : zb_I S) (x : Int32) : Met l ny_B_isParty (Cond.code ny_B_isParty nc_B_isParty 2 (some .boolean) :: zw_big) ({ frames := 2, cells := 0, slots := 0, locals := 43 } : Room) (zw_P [.ref (zg_bnk G), .int x] D (zb_tys G) (zb_cells G S)) (zw_R (.int (zb_party S x))) 0 0 (fun _ => False) := by
  refine Met.ofW (cc := nc_B_isParty) (maxL := 2) (ret := (some .boolean)) (by decide) rfl ?_
  intro p e s m args below meth c s₁ B hml hv
  obtain ⟨rfl, hP, hK⟩ := hv
  have hx := B.exec
  have hb := B.bytes
  have hr := B.returns
  have hts0 := atoms_spec (ws := Cond.code ny_B_isParty nc_B_isParty 2 (some .boolean) :: zw_big) B.pre
  have hts : ∀ w ∈ zw_big, w.before [.ref (zg_bnk G), .int x].toArray s = true := fun w h => hts0 w (List.mem_cons_of_mem _ h)
  have hown : s.vm.findClass nR_B = some m.cls := findClass_of_methodNamed B.named
  have hlk := B.notSynchronized
  have hl := lv_entry ([.ref (zg_bnk G), .int x]) (n := 2) (Nat.le_of_ble_eq_true rfl)
  rw [lg_entry_eq]
  generalize (lg_sl ([.ref (zg_bnk G), .int x]) ++ List.replicate (2 - (lg_sl ([.ref (zg_bnk G), .int x])).length) Slot.unset).toArray = ls at hl ⊢
  have hl : lv_has ls 2 [(0, .ref (zg_bnk G)), (1, .int x)] := hl
  have hF : CallFix p m c nc_B_isParty 2 s [.ref (zg_bnk G), .int x].toArray zw_big nR_B := ⟨hx, hb, hml, hown, hts⟩
  refine lv_iload_n hx hb nd_B_isParty_0 rfl (zv_at hl 1 rfl) ?_
  refine lv_iconst (v := -1) hx hb nd_B_isParty_1 (by decide) ?_
  refine lv_icmp_eq (tgt := 13) hx hb nd_B_isParty_2 (by decide) (fun h_2 => ?_) (fun h_2 => ?_)
  · skip
    refine lv_iconst (v := 1) hx hb nd_B_isParty_13 (by decide) ?_
    refine lv_goto (tgt := 18) hx hb nd_B_isParty_14 (by decide) ?_
    refine zw_zret hx hb hr hlk nd_B_isParty_18 (by decide) ?_
    unfold zb_party
    all_goals (try dsimp only)
    all_goals (try rw [if_pos h_2])
    all_goals rfl
  · skip
    refine lv_aload_n hx hb nd_B_isParty_5 rfl (zv_at hl 0 rfl) ?_
    refine lv_iload_n hx hb nd_B_isParty_6 rfl (zv_at hl 1 rfl) ?_
    refine zw_vR (As := [_]) (rest := _) hF (c_B_accountOf l D G _ (by exact hI) _) (zw_preV hP hK (q0 := 0) (ci := 0) rfl rfl rfl) nk_B_accountOf nw_244 ⟨rfl, rfl, Nat.le_of_ble_eq_true rfl, Nat.le_of_ble_eq_true rfl⟩ rfl hl.1 rfl (Nat.le_of_ble_eq_true rfl) ⟨Nat.zero_le _, Nat.zero_le _⟩ nd_B_isParty_7 ?_
    refine zw_split (fun hj_7 => ?_) (fun j_7 hj_7 => ?_)
    · skip
      refine lv_ifnullN (tgt := 17) hx hb nd_B_isParty_10 (by decide) ?_
      refine lv_iconst (v := 0) hx hb nd_B_isParty_17 (by decide) ?_
      refine zw_zret hx hb hr hlk nd_B_isParty_18 (by decide) ?_
      unfold zb_party
      all_goals (try dsimp only)
      all_goals (try rw [if_neg h_2])
      all_goals (try rw [hj_7])
      all_goals (try dsimp only)
      all_goals rfl
    · skip
      refine lv_ifnull hx hb nd_B_isParty_10 ?_
      refine lv_iconst (v := 1) hx hb nd_B_isParty_13 (by decide) ?_
      refine lv_goto (tgt := 18) hx hb nd_B_isParty_14 (by decide) ?_
      refine zw_zret hx hb hr hlk nd_B_isParty_18 (by decide) ?_
      unfold zb_party
      all_goals (try dsimp only)
      all_goals (try rw [if_neg h_2])
      all_goals (try rw [hj_7])
      all_goals (try dsimp only)
      all_goals rfl

set_option maxHeartbeats 4000000 in
set_option maxRecDepth 100000 in
theorem c_B_isPayable (l : Launch) (D : va_G) (G : zg_G) (S : zb_S) (hI : zb_I S) (x y : Int32) : Met l ny_B_isPayable (Cond.code ny_B_isPayable nc_B_isPayable 5 (some .boolean) :: zw_big) ({ frames := 3, cells := 0, slots := 0, locals := 64 } : Room) (zw_P [.ref (zg_bnk G), .int x, .int y] D (zb_tys G) (zb_cells G S)) (zw_R (.int (zb_payable S x y))) 0 0 (fun _ => False) := by
  refine Met.ofW (cc := nc_B_isPayable) (maxL := 5) (ret := (some .boolean)) (by decide) rfl ?_
  intro p e s m args below meth c s₁ B hml hv
  obtain ⟨rfl, hP, hK⟩ := hv
  have hx := B.exec
  have hb := B.bytes
  have hr := B.returns
  have hts0 := atoms_spec (ws := Cond.code ny_B_isPayable nc_B_isPayable 5 (some .boolean) :: zw_big) B.pre
  have hts : ∀ w ∈ zw_big, w.before [.ref (zg_bnk G), .int x, .int y].toArray s = true := fun w h => hts0 w (List.mem_cons_of_mem _ h)
  have hown : s.vm.findClass nR_B = some m.cls := findClass_of_methodNamed B.named
  have hlk := B.notSynchronized
  have hl := lv_entry ([.ref (zg_bnk G), .int x, .int y]) (n := 5) (Nat.le_of_ble_eq_true rfl)
  rw [lg_entry_eq]
  generalize (lg_sl ([.ref (zg_bnk G), .int x, .int y]) ++ List.replicate (5 - (lg_sl ([.ref (zg_bnk G), .int x, .int y])).length) Slot.unset).toArray = ls at hl ⊢
  have hl : lv_has ls 5 [(0, .ref (zg_bnk G)), (1, .int x), (2, .int y)] := hl
  have hF : CallFix p m c nc_B_isPayable 5 s [.ref (zg_bnk G), .int x, .int y].toArray zw_big nR_B := ⟨hx, hb, hml, hown, hts⟩
  refine lv_iload_n hx hb nd_B_isPayable_0 rfl (zv_at hl 1 rfl) ?_
  refine lv_iload_n hx hb nd_B_isPayable_1 rfl (zv_at hl 2 rfl) ?_
  refine lv_icmp_eq (tgt := 21) hx hb nd_B_isPayable_2 (by decide) (fun h_2 => ?_) (fun h_2 => ?_)
  · skip
    refine lv_iconst (v := 0) hx hb nd_B_isPayable_21 (by decide) ?_
    refine zw_zret hx hb hr hlk nd_B_isPayable_22 (by decide) ?_
    unfold zb_payable
    all_goals (try unfold zb_payable2)
    all_goals (try dsimp only)
    all_goals (try rw [if_pos h_2])
    all_goals rfl
  · skip
    refine lv_aload_n hx hb nd_B_isPayable_5 rfl (zv_at hl 0 rfl) ?_
    refine lv_iload_n hx hb nd_B_isPayable_6 rfl (zv_at hl 1 rfl) ?_
    refine zw_vR (As := [_]) (rest := _) hF (c_B_isParty l D G _ (by exact hI) _) (zw_preV hP hK (q0 := 0) (ci := 0) rfl rfl rfl) nk_B_isParty nw_240 ⟨rfl, rfl, Nat.le_of_ble_eq_true rfl, Nat.le_of_ble_eq_true rfl⟩ rfl hl.1 rfl (Nat.le_of_ble_eq_true rfl) ⟨Nat.zero_le _, Nat.zero_le _⟩ nd_B_isPayable_7 ?_
    refine lv_if_eq (tgt := 21) hx hb nd_B_isPayable_10 (by decide) (fun h_10 => ?_) (fun h_10 => ?_)
    · skip
      refine lv_iconst (v := 0) hx hb nd_B_isPayable_21 (by decide) ?_
      refine zw_zret hx hb hr hlk nd_B_isPayable_22 (by decide) ?_
      unfold zb_payable
      all_goals (try unfold zb_payable2)
      all_goals (try dsimp only)
      all_goals (try rw [if_neg h_2])
      all_goals (try rw [if_pos h_10])
      all_goals rfl
    · skip
      refine lv_aload_n hx hb nd_B_isPayable_13 rfl (zv_at hl 0 rfl) ?_
      refine lv_iload_n hx hb nd_B_isPayable_14 rfl (zv_at hl 2 rfl) ?_
      refine zw_vR (As := [_]) (rest := _) hF (c_B_isParty l D G _ (by exact hI) _) (zw_preV hP hK (q0 := 0) (ci := 0) rfl rfl rfl) nk_B_isParty nw_240 ⟨rfl, rfl, Nat.le_of_ble_eq_true rfl, Nat.le_of_ble_eq_true rfl⟩ rfl hl.1 rfl (Nat.le_of_ble_eq_true rfl) ⟨Nat.zero_le _, Nat.zero_le _⟩ nd_B_isPayable_15 ?_
      refine lv_if_ne (tgt := 23) hx hb nd_B_isPayable_18 (by decide) (fun h_18 => ?_) (fun h_18 => ?_)
      · skip
        refine lv_aload_n hx hb nd_B_isPayable_23 rfl (zv_at hl 0 rfl) ?_
        refine lv_iload_n hx hb nd_B_isPayable_24 rfl (zv_at hl 1 rfl) ?_
        refine zw_vR (As := [_]) (rest := _) hF (c_B_accountOf l D G _ (by exact hI) _) (zw_preV hP hK (q0 := 0) (ci := 0) rfl rfl rfl) nk_B_accountOf nw_244 ⟨rfl, rfl, Nat.le_of_ble_eq_true rfl, Nat.le_of_ble_eq_true rfl⟩ rfl hl.1 rfl (Nat.le_of_ble_eq_true rfl) ⟨Nat.zero_le _, Nat.zero_le _⟩ nd_B_isPayable_25 ?_
        refine zw_split (fun hj_25 => ?_) (fun j_25 hj_25 => ?_)
        · skip
          refine lv_astore_nN hx hb nd_B_isPayable_28 rfl hl (by decide) rfl (fun ls hl => ?_)
          refine lv_aload_n hx hb nd_B_isPayable_29 rfl (zv_at hl 0 rfl) ?_
          refine lv_iload_n hx hb nd_B_isPayable_30 rfl (zv_at hl 2 rfl) ?_
          refine zw_vR (As := [_]) (rest := _) hF (c_B_accountOf l D G _ (by exact hI) _) (zw_preV hP hK (q0 := 0) (ci := 0) rfl rfl rfl) nk_B_accountOf nw_244 ⟨rfl, rfl, Nat.le_of_ble_eq_true rfl, Nat.le_of_ble_eq_true rfl⟩ rfl hl.1 rfl (Nat.le_of_ble_eq_true rfl) ⟨Nat.zero_le _, Nat.zero_le _⟩ nd_B_isPayable_31 ?_
          refine zw_split (fun hj_31 => ?_) (fun j_31 hj_31 => ?_)
          · skip
            refine lv_astoreN hx hb nd_B_isPayable_34 hl (by decide) rfl (fun ls hl => ?_)
            refine lv_aload_nN hx hb nd_B_isPayable_36 rfl (zv_at hl 3 rfl) ?_
            refine lv_ifnullN (tgt := 57) hx hb nd_B_isPayable_37 (by decide) ?_
            refine lv_iconst (v := 1) hx hb nd_B_isPayable_57 (by decide) ?_
            refine lv_goto (tgt := 62) hx hb nd_B_isPayable_58 (by decide) ?_
            refine zw_zret hx hb hr hlk nd_B_isPayable_62 (by decide) ?_
            unfold zb_payable
            all_goals (try unfold zb_payable2)
            all_goals (try dsimp only)
            all_goals (try rw [if_neg h_2])
            all_goals (try rw [if_neg h_10])
            all_goals (try rw [if_neg h_18])
            all_goals (try rw [hj_25])
            all_goals (try dsimp only)
            all_goals (try rw [hj_31])
            all_goals (try dsimp only)
            all_goals rfl
          · skip
            have hj6b : j_31 < 6 := zb_accOf_lt hI hj_31
            refine lv_astore hx hb nd_B_isPayable_34 hl (by decide) rfl (fun ls hl => ?_)
            refine lv_aload_nN hx hb nd_B_isPayable_36 rfl (zv_at hl 3 rfl) ?_
            refine lv_ifnullN (tgt := 57) hx hb nd_B_isPayable_37 (by decide) ?_
            refine lv_iconst (v := 1) hx hb nd_B_isPayable_57 (by decide) ?_
            refine lv_goto (tgt := 62) hx hb nd_B_isPayable_58 (by decide) ?_
            refine zw_zret hx hb hr hlk nd_B_isPayable_62 (by decide) ?_
            unfold zb_payable
            all_goals (try unfold zb_payable2)
            all_goals (try dsimp only)
            all_goals (try rw [if_neg h_2])
            all_goals (try rw [if_neg h_10])
            all_goals (try rw [if_neg h_18])
            all_goals (try rw [hj_25])
            all_goals (try dsimp only)
            all_goals (try rw [hj_31])
            all_goals (try dsimp only)
            all_goals rfl
        · skip
          have hj6a : j_25 < 6 := zb_accOf_lt hI hj_25
          refine lv_astore_n hx hb nd_B_isPayable_28 rfl hl (by decide) rfl (fun ls hl => ?_)
          refine lv_aload_n hx hb nd_B_isPayable_29 rfl (zv_at hl 0 rfl) ?_
          refine lv_iload_n hx hb nd_B_isPayable_30 rfl (zv_at hl 2 rfl) ?_
          refine zw_vR (As := [_]) (rest := _) hF (c_B_accountOf l D G _ (by exact hI) _) (zw_preV hP hK (q0 := 0) (ci := 0) rfl rfl rfl) nk_B_accountOf nw_244 ⟨rfl, rfl, Nat.le_of_ble_eq_true rfl, Nat.le_of_ble_eq_true rfl⟩ rfl hl.1 rfl (Nat.le_of_ble_eq_true rfl) ⟨Nat.zero_le _, Nat.zero_le _⟩ nd_B_isPayable_31 ?_
          refine zw_split (fun hj_31 => ?_) (fun j_31 hj_31 => ?_)
          · skip
            refine lv_astoreN hx hb nd_B_isPayable_34 hl (by decide) rfl (fun ls hl => ?_)
            refine lv_aload_n hx hb nd_B_isPayable_36 rfl (zv_at hl 3 rfl) ?_
            refine lv_ifnull hx hb nd_B_isPayable_37 ?_
            refine lv_aloadN hx hb nd_B_isPayable_40 (zv_at hl 4 rfl) ?_
            refine lv_ifnullN (tgt := 57) hx hb nd_B_isPayable_42 (by decide) ?_
            refine lv_iconst (v := 1) hx hb nd_B_isPayable_57 (by decide) ?_
            refine lv_goto (tgt := 62) hx hb nd_B_isPayable_58 (by decide) ?_
            refine zw_zret hx hb hr hlk nd_B_isPayable_62 (by decide) ?_
            unfold zb_payable
            all_goals (try unfold zb_payable2)
            all_goals (try dsimp only)
            all_goals (try rw [if_neg h_2])
            all_goals (try rw [if_neg h_10])
            all_goals (try rw [if_neg h_18])
            all_goals (try rw [hj_25])
            all_goals (try dsimp only)
            all_goals (try rw [hj_31])
            all_goals (try dsimp only)
            all_goals rfl
          · skip
            have hj6b : j_31 < 6 := zb_accOf_lt hI hj_31
            refine lv_astore hx hb nd_B_isPayable_34 hl (by decide) rfl (fun ls hl => ?_)
            refine lv_aload_n hx hb nd_B_isPayable_36 rfl (zv_at hl 3 rfl) ?_
            refine lv_ifnull hx hb nd_B_isPayable_37 ?_
            refine lv_aload hx hb nd_B_isPayable_40 (zv_at hl 4 rfl) ?_
            refine lv_ifnull hx hb nd_B_isPayable_42 ?_
            refine lv_aload_n hx hb nd_B_isPayable_45 rfl (zv_at hl 3 rfl) ?_
            refine zb_getA hx hb hts hown hK hP (by assumption) 1 (by decide) (hts _ nw_76) rfl nd_B_isPayable_46 ?_
            refine lv_aload hx hb nd_B_isPayable_49 (zv_at hl 4 rfl) ?_
            refine zb_getA hx hb hts hown hK hP (by assumption) 1 (by decide) (hts _ nw_76) rfl nd_B_isPayable_51 ?_
            refine lv_icmp_ne (tgt := 61) hx hb nd_B_isPayable_54 (by decide) (fun h_54 => ?_) (fun h_54 => ?_)
            · skip
              refine lv_iconst (v := 0) hx hb nd_B_isPayable_61 (by decide) ?_
              refine zw_zret hx hb hr hlk nd_B_isPayable_62 (by decide) ?_
              unfold zb_payable
              all_goals (try unfold zb_payable2)
              all_goals (try dsimp only)
              all_goals (try rw [if_neg h_2])
              all_goals (try rw [if_neg h_10])
              all_goals (try rw [if_neg h_18])
              all_goals (try rw [hj_25])
              all_goals (try dsimp only)
              all_goals (try rw [hj_31])
              all_goals (try dsimp only)
              all_goals (try rw [if_neg h_54])
              all_goals rfl
            · skip
              refine lv_iconst (v := 1) hx hb nd_B_isPayable_57 (by decide) ?_
              refine lv_goto (tgt := 62) hx hb nd_B_isPayable_58 (by decide) ?_
              refine zw_zret hx hb hr hlk nd_B_isPayable_62 (by decide) ?_
              unfold zb_payable
              all_goals (try unfold zb_payable2)
              all_goals (try dsimp only)
              all_goals (try rw [if_neg h_2])
              all_goals (try rw [if_neg h_10])
              all_goals (try rw [if_neg h_18])
              all_goals (try rw [hj_25])
              all_goals (try dsimp only)
              all_goals (try rw [hj_31])
              all_goals (try dsimp only)
              all_goals (try rw [if_pos h_54])
              all_goals rfl
      · skip
        refine lv_iconst (v := 0) hx hb nd_B_isPayable_21 (by decide) ?_
        refine zw_zret hx hb hr hlk nd_B_isPayable_22 (by decide) ?_
        unfold zb_payable
        all_goals (try unfold zb_payable2)
        all_goals (try dsimp only)
        all_goals (try rw [if_neg h_2])
        all_goals (try rw [if_neg h_10])
        all_goals (try rw [if_pos h_18])
        all_goals rfl

set_option maxHeartbeats 4000000 in
set_option maxRecDepth 100000 in
theorem c_B_isInLaterMonth (l : Launch) (D : va_G) (G : zg_G) (S : zb_S) (x : Int32) : Met l ny_B_isInLaterMonth (Cond.code ny_B_isInLaterMonth nc_B_isInLaterMonth 3 (some .boolean) :: zw_big) ({ frames := 2, cells := 0, slots := 0, locals := 51 } : Room) (zw_P [.ref (zg_bnk G), .int x] D (zb_tys G) (zb_cells G S)) (zw_R (.int (zb_later S x))) 0 0 (fun _ => False) := by
  refine Met.ofW (cc := nc_B_isInLaterMonth) (maxL := 3) (ret := (some .boolean)) (by decide) rfl ?_
  intro p e s m args below meth c s₁ B hml hv
  obtain ⟨rfl, hP, hK⟩ := hv
  have hx := B.exec
  have hb := B.bytes
  have hr := B.returns
  have hts0 := atoms_spec (ws := Cond.code ny_B_isInLaterMonth nc_B_isInLaterMonth 3 (some .boolean) :: zw_big) B.pre
  have hts : ∀ w ∈ zw_big, w.before [.ref (zg_bnk G), .int x].toArray s = true := fun w h => hts0 w (List.mem_cons_of_mem _ h)
  have hown : s.vm.findClass nR_B = some m.cls := findClass_of_methodNamed B.named
  have hlk := B.notSynchronized
  have hl := lv_entry ([.ref (zg_bnk G), .int x]) (n := 3) (Nat.le_of_ble_eq_true rfl)
  rw [lg_entry_eq]
  generalize (lg_sl ([.ref (zg_bnk G), .int x]) ++ List.replicate (3 - (lg_sl ([.ref (zg_bnk G), .int x])).length) Slot.unset).toArray = ls at hl ⊢
  have hl : lv_has ls 3 [(0, .ref (zg_bnk G)), (1, .int x)] := hl
  have hF : CallFix p m c nc_B_isInLaterMonth 3 s [.ref (zg_bnk G), .int x].toArray zw_big nR_B := ⟨hx, hb, hml, hown, hts⟩
  refine lv_iload_n hx hb nd_B_isInLaterMonth_0 rfl (zv_at hl 1 rfl) ?_
  refine zw_sR (As := [_]) (rest := _) hF (c_C_monthAndDay l _) zw_preN nk_C_monthAndDay nw_311 ⟨rfl, rfl, Nat.le_of_ble_eq_true rfl, Nat.le_of_ble_eq_true rfl⟩ rfl hl.1 rfl (Nat.le_of_ble_eq_true rfl) ⟨Nat.zero_le _, Nat.zero_le _⟩ nd_B_isInLaterMonth_1 ?_
  refine zw_sR (As := [_]) (rest := _) hF (c_C_monthIn l _) zw_preN nk_C_monthIn nw_323 ⟨rfl, rfl, Nat.le_of_ble_eq_true rfl, Nat.le_of_ble_eq_true rfl⟩ rfl hl.1 rfl (Nat.le_of_ble_eq_true rfl) ⟨Nat.zero_le _, Nat.zero_le _⟩ nd_B_isInLaterMonth_4 ?_
  refine lv_istore_n hx hb nd_B_isInLaterMonth_7 rfl hl (by decide) rfl (fun ls hl => ?_)
  refine lv_iload_n hx hb nd_B_isInLaterMonth_8 rfl (zv_at hl 2 rfl) ?_
  refine lv_aload_n hx hb nd_B_isInLaterMonth_9 rfl (zv_at hl 0 rfl) ?_
  refine zb_getB hx hb hts hown hK hP 9 (by decide) (hts _ nw_164) rfl nd_B_isInLaterMonth_10 ?_
  refine zw_sR (As := [_]) (rest := _) hF (c_C_monthAndDay l _) zw_preN nk_C_monthAndDay nw_311 ⟨rfl, rfl, Nat.le_of_ble_eq_true rfl, Nat.le_of_ble_eq_true rfl⟩ rfl hl.1 rfl (Nat.le_of_ble_eq_true rfl) ⟨Nat.zero_le _, Nat.zero_le _⟩ nd_B_isInLaterMonth_13 ?_
  refine zw_sR (As := [_]) (rest := _) hF (c_C_monthIn l _) zw_preN nk_C_monthIn nw_323 ⟨rfl, rfl, Nat.le_of_ble_eq_true rfl, Nat.le_of_ble_eq_true rfl⟩ rfl hl.1 rfl (Nat.le_of_ble_eq_true rfl) ⟨Nat.zero_le _, Nat.zero_le _⟩ nd_B_isInLaterMonth_16 ?_
  refine lv_icmp_le (tgt := 26) hx hb nd_B_isInLaterMonth_19 (by decide) (fun h_19 => ?_) (fun h_19 => ?_)
  · skip
    refine lv_iconst (v := 0) hx hb nd_B_isInLaterMonth_26 (by decide) ?_
    refine zw_zret hx hb hr hlk nd_B_isInLaterMonth_27 (by decide) ?_
    unfold zb_later
    all_goals (try dsimp only)
    all_goals (try rw [if_pos h_19])
    all_goals rfl
  · skip
    refine lv_iconst (v := 1) hx hb nd_B_isInLaterMonth_22 (by decide) ?_
    refine lv_goto (tgt := 27) hx hb nd_B_isInLaterMonth_23 (by decide) ?_
    refine zw_zret hx hb hr hlk nd_B_isInLaterMonth_27 (by decide) ?_
    unfold zb_later
    all_goals (try dsimp only)
    all_goals (try rw [if_neg h_19])
    all_goals rfl

set_option maxHeartbeats 4000000 in
set_option maxRecDepth 100000 in
theorem c_B_standingHold (l : Launch) (D : va_G) (G : zg_G) (S : zb_S) (x : Int32) : Met l ny_B_standingHold (Cond.code ny_B_standingHold nc_B_standingHold 2 (some (.object "DayEndBank$Hold")) :: zw_big) ({ frames := 1, cells := 0, slots := 0, locals := 22 } : Room) (zw_P [.ref (zg_bnk G), .int x] D (zb_tys G) (zb_cells G S)) (zw_R (va_re (zg_hld G) (zb_stand S x))) 0 0 (fun _ => False) := by
  refine Met.ofW (cc := nc_B_standingHold) (maxL := 2) (ret := (some (.object "DayEndBank$Hold"))) (by decide) rfl ?_
  intro p e s m args below meth c s₁ B hml hv
  obtain ⟨rfl, hP, hK⟩ := hv
  have hx := B.exec
  have hb := B.bytes
  have hr := B.returns
  have hts0 := atoms_spec (ws := Cond.code ny_B_standingHold nc_B_standingHold 2 (some (.object "DayEndBank$Hold")) :: zw_big) B.pre
  have hts : ∀ w ∈ zw_big, w.before [.ref (zg_bnk G), .int x].toArray s = true := fun w h => hts0 w (List.mem_cons_of_mem _ h)
  have hown : s.vm.findClass nR_B = some m.cls := findClass_of_methodNamed B.named
  have hlk := B.notSynchronized
  have hl := lv_entry ([.ref (zg_bnk G), .int x]) (n := 2) (Nat.le_of_ble_eq_true rfl)
  rw [lg_entry_eq]
  generalize (lg_sl ([.ref (zg_bnk G), .int x]) ++ List.replicate (2 - (lg_sl ([.ref (zg_bnk G), .int x])).length) Slot.unset).toArray = ls at hl ⊢
  have hl : lv_has ls 2 [(0, .ref (zg_bnk G)), (1, .int x)] := hl
  have hF : CallFix p m c nc_B_standingHold 2 s [.ref (zg_bnk G), .int x].toArray zw_big nR_B := ⟨hx, hb, hml, hown, hts⟩
  refine lv_iload_n hx hb nd_B_standingHold_0 rfl (zv_at hl 1 rfl) ?_
  refine lv_iconst (v := 0) hx hb nd_B_standingHold_1 (by decide) ?_
  refine lv_bipush (v := 7) hx hb nd_B_standingHold_2 (by decide) ?_
  refine zw_sR (As := [_, _, _]) (rest := _) hF (c_B_isWithin l _ _ _) zw_preN nk_B_isWithin nw_200 ⟨rfl, rfl, Nat.le_of_ble_eq_true rfl, Nat.le_of_ble_eq_true rfl⟩ rfl hl.1 rfl (Nat.le_of_ble_eq_true rfl) ⟨Nat.zero_le _, Nat.zero_le _⟩ nd_B_standingHold_4 ?_
  refine lv_if_ne (tgt := 12) hx hb nd_B_standingHold_7 (by decide) (fun h_7 => ?_) (fun h_7 => ?_)
  · skip
    obtain ⟨j0, hj0, ej0⟩ := zb_within_nat (N := 8) (n := 8) rfl (by decide) h_7
    have hx8 : x.toNatClampNeg < 8 := by rw [ej0, nI_clamp (by omega)]; exact hj0
    refine lv_aload_n hx hb nd_B_standingHold_12 rfl (zv_at hl 0 rfl) ?_
    refine zb_getB hx hb hts hown hK hP 1 (by decide) (hts _ nw_156) rfl nd_B_standingHold_13 ?_
    refine lv_iload_n hx hb nd_B_standingHold_16 rfl (zv_at hl 1 rfl) ?_
    refine zb_ald_hld hx hb hK hP (by rw [ej0]; exact vp_in_nI (by omega) (by decide)) nd_B_standingHold_17 ?_
    refine zb_getH hx hb hts hown hK hP (by assumption) 0 (by decide) (hts _ nw_116) rfl nd_B_standingHold_18 ?_
    refine zw_split (fun hj_18 => ?_) (fun j_18 hj_18 => ?_)
    · skip
      refine lv_ifnonnullN hx hb nd_B_standingHold_21 ?_
      refine lv_null hx hb nd_B_standingHold_24 ?_
      refine lv_goto (tgt := 34) hx hb nd_B_standingHold_25 (by decide) ?_
      refine zw_aret (C := "DayEndBank$Hold") (r2 := none) hx hb hr hlk nd_B_standingHold_34 rfl ?_
      unfold zb_stand
      all_goals (try dsimp only)
      all_goals (try rw [if_neg h_7])
      all_goals (try rw [hj_18])
      all_goals (try dsimp only)
      all_goals rfl
    · skip
      refine lv_ifnonnull (tgt := 28) hx hb nd_B_standingHold_21 (by decide) ?_
      refine lv_aload_n hx hb nd_B_standingHold_28 rfl (zv_at hl 0 rfl) ?_
      refine zb_getB hx hb hts hown hK hP 1 (by decide) (hts _ nw_156) rfl nd_B_standingHold_29 ?_
      refine lv_iload_n hx hb nd_B_standingHold_32 rfl (zv_at hl 1 rfl) ?_
      refine zb_ald_hld hx hb hK hP (by rw [ej0]; exact vp_in_nI (by omega) (by decide)) nd_B_standingHold_33 ?_
      refine zw_aret (C := "DayEndBank$Hold") (r2 := some _) hx hb hr hlk nd_B_standingHold_34 rfl ?_
      unfold zb_stand
      all_goals (try dsimp only)
      all_goals (try rw [if_neg h_7])
      all_goals (try rw [hj_18])
      all_goals (try dsimp only)
      all_goals rfl
  · skip
    refine lv_null hx hb nd_B_standingHold_10 ?_
    refine zw_aret (C := "DayEndBank$Hold") (r2 := none) hx hb hr hlk nd_B_standingHold_11 rfl ?_
    unfold zb_stand
    all_goals (try dsimp only)
    all_goals (try rw [if_pos h_7])
    all_goals rfl

theorem zb_free_stop {f : Nat → Option Nat} {n k : Nat} (hn : ¬ n = 0) (h : f k = none) : zb_free f n k = k := by
  obtain ⟨j, rfl⟩ : ∃ j, n = j + 1 := ⟨n - 1, by omega⟩
  rw [zb_free, h]
theorem zb_free_next {f : Nat → Option Nat} {n k j : Nat} (hn : ¬ n = 0) (h : f k = some j) : zb_free f n k = zb_free f (n - 1) (k + 1) := by
  obtain ⟨i, rfl⟩ : ∃ i, n = i + 1 := ⟨n - 1, by omega⟩
  rw [zb_free, h]; rfl

set_option maxHeartbeats 4000000 in
set_option maxRecDepth 100000 in
theorem c_B_leastFreeHold (l : Launch) (D : va_G) (G : zg_G) (S : zb_S) : Met l ny_B_leastFreeHold (Cond.code ny_B_leastFreeHold nc_B_leastFreeHold 2 (some .int) :: zw_big) ({ frames := 0, cells := 0, slots := 0, locals := 0 } : Room) (zw_P [.ref (zg_bnk G)] D (zb_tys G) (zb_cells G S)) (zw_R (.int (nI (zb_free (zb_hol S) 8 0)))) 0 0 (fun _ => False) := by
  refine Met.ofW (cc := nc_B_leastFreeHold) (maxL := 2) (ret := (some .int)) (by decide) rfl ?_
  intro p e s m args below meth c s₁ B hml hv
  obtain ⟨rfl, hP, hK⟩ := hv
  have hx := B.exec
  have hb := B.bytes
  have hr := B.returns
  have hts0 := atoms_spec (ws := Cond.code ny_B_leastFreeHold nc_B_leastFreeHold 2 (some .int) :: zw_big) B.pre
  have hts : ∀ w ∈ zw_big, w.before [.ref (zg_bnk G)].toArray s = true := fun w h => hts0 w (List.mem_cons_of_mem _ h)
  have hown : s.vm.findClass nR_B = some m.cls := findClass_of_methodNamed B.named
  have hlk := B.notSynchronized
  have hl := lv_entry ([.ref (zg_bnk G)]) (n := 2) (Nat.le_of_ble_eq_true rfl)
  rw [lg_entry_eq]
  generalize (lg_sl ([.ref (zg_bnk G)]) ++ List.replicate (2 - (lg_sl ([.ref (zg_bnk G)])).length) Slot.unset).toArray = ls at hl ⊢
  have hl : lv_has ls 2 [(0, .ref (zg_bnk G))] := hl
  have hF : CallFix p m c nc_B_leastFreeHold 2 s [.ref (zg_bnk G)].toArray zw_big nR_B := ⟨hx, hb, hml, hown, hts⟩
  refine lv_iconst (v := 0) hx hb nd_B_leastFreeHold_0 (by decide) ?_
  refine lv_istore_n hx hb nd_B_leastFreeHold_1 rfl hl (by decide) rfl (fun ls hl => ?_)
  refine zw_loop (σ := Nat) (fun k i H locs ls => H = s.heap ∧ locs = [] ∧ i + k = 8 ∧ zb_free (zb_hol S) 8 0 = zb_free (zb_hol S) k i ∧ lv_has ls 2 [(0, .ref (zg_bnk G)), (1, .int (nI i))]) ?_ 8 0 ⟨rfl, rfl, by omega, rfl, zv_sub hl (by intro q hq; simp only [List.mem_cons, List.not_mem_nil, or_false] at hq; rcases hq with rfl | rfl <;> rfl)⟩
  intro k i H locs ls hI9 ih
  obtain ⟨hH, hL, hik, hE, hl⟩ := hI9
  subst hH
  subst hL
  refine lv_iload_n hx hb nd_B_leastFreeHold_2 rfl (zv_at hl 1 rfl) ?_
  refine lv_bipush (v := 8) hx hb nd_B_leastFreeHold_3 (by decide) ?_
  refine lv_icmp_ge (tgt := 26) hx hb nd_B_leastFreeHold_5 (by decide) (fun h_5 => ?_) (fun h_5 => ?_)
  · skip
    have hk0 : k = 0 := by
      have h : 8 ≤ i := (nI_leI (a := 8) (b := i) (by omega) (by omega)).mp h_5
      omega
    subst hk0
    refine lv_iload_n hx hb nd_B_leastFreeHold_26 rfl (zv_at hl 1 rfl) ?_
    refine zw_iret hx hb hr hlk nd_B_leastFreeHold_27 ?_
    rw [hE]
    first
      | rfl
      | rw [zb_free_stop (by omega) hj_14]
  · skip
    have hi8 : i < 8 := Nat.lt_of_not_le fun q => h_5 (nI_le (a := 8) q (by omega))
    refine lv_aload_n hx hb nd_B_leastFreeHold_8 rfl (zv_at hl 0 rfl) ?_
    refine zb_getB hx hb hts hown hK hP 1 (by decide) (hts _ nw_156) rfl nd_B_leastFreeHold_9 ?_
    refine lv_iload_n hx hb nd_B_leastFreeHold_12 rfl (zv_at hl 1 rfl) ?_
    refine zb_ald_hld hx hb hK hP (vp_in_nI hi8 (by decide)) nd_B_leastFreeHold_13 ?_
    rw [nI_clamp (show i < 2 ^ 31 by omega)]
    refine zb_getH hx hb hts hown hK hP (by assumption) 0 (by decide) (hts _ nw_116) rfl nd_B_leastFreeHold_14 ?_
    refine zw_split (fun hj_14 => ?_) (fun j_14 hj_14 => ?_)
    · skip
      refine lv_ifnullN (tgt := 26) hx hb nd_B_leastFreeHold_17 (by decide) ?_
      refine lv_iload_n hx hb nd_B_leastFreeHold_26 rfl (zv_at hl 1 rfl) ?_
      refine zw_iret hx hb hr hlk nd_B_leastFreeHold_27 ?_
      rw [hE]
      first
        | rfl
        | rw [zb_free_stop (by omega) hj_14]
    · skip
      refine lv_ifnull hx hb nd_B_leastFreeHold_17 ?_
      refine zv_iinc (v := nI (i + 1)) hx hb nd_B_leastFreeHold_20 hl rfl ((nI_succ i).symm) (by decide) rfl (fun ls hl => ?_)
      refine lv_goto (tgt := 2) hx hb nd_B_leastFreeHold_23 (by decide) ?_
      exact ih (k - 1) (i + 1) _ _ _ (by omega) ⟨rfl, rfl, by omega, hE.trans (zb_free_next (by omega) hj_14), zv_sub hl (by intro q hq; simp only [List.mem_cons, List.not_mem_nil, or_false] at hq; rcases hq with rfl | rfl <;> rfl)⟩

theorem zb_sumB_next {S : zb_S} {c : Int32} {k i : Nat} {z : Int64} (hk : ¬ k = 0) : zb_sumB S c k i z = zb_sumB S c (k - 1) (i + 1) (if zb_cur S i = c then z + zb_bal S i else z) := by
  obtain ⟨j, rfl⟩ : ∃ j, k = j + 1 := ⟨k - 1, by omega⟩
  rw [zb_sumB]; rfl

set_option maxHeartbeats 4000000 in
set_option maxRecDepth 100000 in
theorem c_B_sumOfBalances (l : Launch) (D : va_G) (G : zg_G) (S : zb_S) (hI : zb_I S) (cu : Int32) : Met l ny_B_sumOfBalances (Cond.code ny_B_sumOfBalances nc_B_sumOfBalances 5 (some .long) :: zw_big) ({ frames := 0, cells := 0, slots := 0, locals := 0 } : Room) (zw_P [.ref (zg_bnk G), .int cu] D (zb_tys G) (zb_cells G S)) (zw_R (.long (zb_sumB S cu (zb_n S).toNatClampNeg 0 0))) 0 0 (fun _ => False) := by
  refine Met.ofW (cc := nc_B_sumOfBalances) (maxL := 5) (ret := (some .long)) (by decide) rfl ?_
  intro p e s m args below meth c s₁ B hml hv
  obtain ⟨rfl, hP, hK⟩ := hv
  have hx := B.exec
  have hb := B.bytes
  have hr := B.returns
  have hts0 := atoms_spec (ws := Cond.code ny_B_sumOfBalances nc_B_sumOfBalances 5 (some .long) :: zw_big) B.pre
  have hts : ∀ w ∈ zw_big, w.before [.ref (zg_bnk G), .int cu].toArray s = true := fun w h => hts0 w (List.mem_cons_of_mem _ h)
  have hown : s.vm.findClass nR_B = some m.cls := findClass_of_methodNamed B.named
  have hlk := B.notSynchronized
  have hl := lv_entry ([.ref (zg_bnk G), .int cu]) (n := 5) (Nat.le_of_ble_eq_true rfl)
  rw [lg_entry_eq]
  generalize (lg_sl ([.ref (zg_bnk G), .int cu]) ++ List.replicate (5 - (lg_sl ([.ref (zg_bnk G), .int cu])).length) Slot.unset).toArray = ls at hl ⊢
  have hl : lv_has ls 5 [(0, .ref (zg_bnk G)), (1, .int cu)] := hl
  have hF : CallFix p m c nc_B_sumOfBalances 5 s [.ref (zg_bnk G), .int cu].toArray zw_big nR_B := ⟨hx, hb, hml, hown, hts⟩
  obtain ⟨n, hn6, en⟩ := hI.1
  have en2 : (zb_n S).toNatClampNeg = n := by rw [en]; exact nI_clamp (by omega)
  refine lv_lconst (v := 0) hx hb nd_B_sumOfBalances_0 (by decide) ?_
  refine lv_lstore_n hx hb nd_B_sumOfBalances_1 rfl hl (by decide) rfl (fun ls hl => ?_)
  refine lv_iconst (v := 0) hx hb nd_B_sumOfBalances_2 (by decide) ?_
  refine lv_istore hx hb nd_B_sumOfBalances_3 hl (by decide) rfl (fun ls hl => ?_)
  refine zw_loop (σ := Nat × Int64) (fun k x H locs ls => H = s.heap ∧ locs = [] ∧ x.1 + k = n ∧ zb_sumB S cu n 0 0 = zb_sumB S cu k x.1 x.2 ∧ lv_has ls 5 [(0, .ref (zg_bnk G)), (1, .int cu), (2, .long x.2), (4, .int (nI x.1))]) ?_ n (0, 0) ⟨rfl, rfl, by simp, rfl, zv_sub hl (by intro q hq; simp only [List.mem_cons, List.not_mem_nil, or_false] at hq; rcases hq with rfl | rfl | rfl | rfl <;> rfl)⟩
  rintro k ⟨i, z⟩ H locs ls hI9 ih
  obtain ⟨hH, hL, hik, hE, hl⟩ := hI9
  dsimp only at hik hE hl
  subst hH
  subst hL
  refine lv_iload hx hb nd_B_sumOfBalances_5 (zv_at hl 4 rfl) ?_
  refine lv_aload_n hx hb nd_B_sumOfBalances_7 rfl (zv_at hl 0 rfl) ?_
  refine zb_getB hx hb hts hown hK hP 7 (by decide) (hts _ nw_162) rfl nd_B_sumOfBalances_8 ?_
  refine lv_icmp_ge (tgt := 47) hx hb nd_B_sumOfBalances_11 (by decide) (fun h_11 => ?_) (fun h_11 => ?_)
  · skip
    have hk0 : k = 0 := by
      have h : nI n ≤ nI i := by rw [← en]; exact h_11
      have := (nI_leI (a := n) (b := i) (by omega) (by omega)).mp h
      omega
    subst hk0
    refine lv_lload_n hx hb nd_B_sumOfBalances_47 rfl (zv_at hl 2 rfl) ?_
    refine zw_lret hx hb hr hlk nd_B_sumOfBalances_48 ?_
    rw [en2, hE]
    all_goals rfl
  · skip
    have hin : i < n := by
      refine Nat.lt_of_not_le fun q => h_11 ?_
      show zb_n S ≤ nI i
      rw [en]; exact nI_le q (by omega)
    have hi6 : i < 6 := by omega
    refine lv_aload_n hx hb nd_B_sumOfBalances_14 rfl (zv_at hl 0 rfl) ?_
    refine zb_getB hx hb hts hown hK hP 0 (by decide) (hts _ nw_155) rfl nd_B_sumOfBalances_15 ?_
    refine lv_iload hx hb nd_B_sumOfBalances_18 (zv_at hl 4 rfl) ?_
    refine zb_ald_acc hx hb hK hP (vp_in_nI hi6 (by decide)) nd_B_sumOfBalances_20 ?_
    rw [nI_clamp (show i < 2 ^ 31 by omega)]
    refine zb_getA hx hb hts hown hK hP (by assumption) 1 (by decide) (hts _ nw_76) rfl nd_B_sumOfBalances_21 ?_
    refine lv_iload_n hx hb nd_B_sumOfBalances_24 rfl (zv_at hl 1 rfl) ?_
    refine lv_icmp_ne (tgt := 41) hx hb nd_B_sumOfBalances_25 (by decide) (fun h_25 => ?_) (fun h_25 => ?_)
    · skip
      refine zv_iinc (v := nI (i + 1)) hx hb nd_B_sumOfBalances_41 hl rfl ((nI_succ i).symm) (by decide) rfl (fun ls hl => ?_)
      refine lv_goto (tgt := 5) hx hb nd_B_sumOfBalances_44 (by decide) ?_
      first
        | exact ih (k - 1) (i + 1, z + zb_bal S i) _ _ _ (by omega) ⟨rfl, rfl, by show i + 1 + (k - 1) = n; omega, by rw [hE, zb_sumB_next (by omega), if_pos h_25], zv_sub hl (by intro q hq; simp only [List.mem_cons, List.not_mem_nil, or_false] at hq; rcases hq with rfl | rfl | rfl | rfl <;> rfl)⟩
        | exact ih (k - 1) (i + 1, z) _ _ _ (by omega) ⟨rfl, rfl, by show i + 1 + (k - 1) = n; omega, by rw [hE, zb_sumB_next (by omega), if_neg h_25], zv_sub hl (by intro q hq; simp only [List.mem_cons, List.not_mem_nil, or_false] at hq; rcases hq with rfl | rfl | rfl | rfl <;> rfl)⟩
    · skip
      refine lv_lload_n hx hb nd_B_sumOfBalances_28 rfl (zv_at hl 2 rfl) ?_
      refine lv_aload_n hx hb nd_B_sumOfBalances_29 rfl (zv_at hl 0 rfl) ?_
      refine zb_getB hx hb hts hown hK hP 0 (by decide) (hts _ nw_155) rfl nd_B_sumOfBalances_30 ?_
      refine lv_iload hx hb nd_B_sumOfBalances_33 (zv_at hl 4 rfl) ?_
      refine zb_ald_acc hx hb hK hP (vp_in_nI hi6 (by decide)) nd_B_sumOfBalances_35 ?_
      rw [nI_clamp (show i < 2 ^ 31 by omega)]
      refine zb_getA hx hb hts hown hK hP (by assumption) 5 (by decide) (hts _ nw_84) rfl nd_B_sumOfBalances_36 ?_
      refine lv_ladd hx hb nd_B_sumOfBalances_39 ?_
      refine lv_lstore_n hx hb nd_B_sumOfBalances_40 rfl hl (by decide) rfl (fun ls hl => ?_)
      refine zv_iinc (v := nI (i + 1)) hx hb nd_B_sumOfBalances_41 hl rfl ((nI_succ i).symm) (by decide) rfl (fun ls hl => ?_)
      refine lv_goto (tgt := 5) hx hb nd_B_sumOfBalances_44 (by decide) ?_
      first
        | exact ih (k - 1) (i + 1, z + zb_bal S i) _ _ _ (by omega) ⟨rfl, rfl, by show i + 1 + (k - 1) = n; omega, by rw [hE, zb_sumB_next (by omega), if_pos h_25], zv_sub hl (by intro q hq; simp only [List.mem_cons, List.not_mem_nil, or_false] at hq; rcases hq with rfl | rfl | rfl | rfl <;> rfl)⟩
        | exact ih (k - 1) (i + 1, z) _ _ _ (by omega) ⟨rfl, rfl, by show i + 1 + (k - 1) = n; omega, by rw [hE, zb_sumB_next (by omega), if_neg h_25], zv_sub hl (by intro q hq; simp only [List.mem_cons, List.not_mem_nil, or_false] at hq; rcases hq with rfl | rfl | rfl | rfl <;> rfl)⟩
