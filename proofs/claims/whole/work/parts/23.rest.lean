theorem zb_was_iff (f : Nat → Int32) (x : Int32) (k : Nat) : zb_was f x k = true ↔ ∃ j, j < k ∧ f j = x := by
  induction k with
  | zero => simp [zb_was]
  | succ k ih =>
    unfold zb_was
    simp only [Bool.or_eq_true, decide_eq_true_eq, ih]
    constructor
    · rintro (h | ⟨j, hj, h⟩)
      · exact ⟨k, by omega, h⟩
      · exact ⟨j, by omega, h⟩
    · rintro ⟨j, hj, h⟩
      by_cases e : j = k
      · subst e; exact Or.inl h
      · exact Or.inr ⟨j, by omega, h⟩
theorem zb_wasI_01 (r : zb_TR) (x : Int32) : zb_wasI r x = 0 ∨ zb_wasI r x = 1 := by
  unfold zb_wasI; split
  · exact Or.inr rfl
  · exact Or.inl rfl

set_option maxHeartbeats 4000000 in
set_option maxRecDepth 100000 in
theorem c_R_isFull (l : Launch) (D : va_G) (G : zg_G) (S : zb_S) : Met l ny_R_isFull (Cond.code ny_R_isFull nc_R_isFull 1 (some .boolean) :: zw_big) ({ frames := 0, cells := 0, slots := 0, locals := 0 } : Room) (zw_P [.ref (zg_rst G)] D (zb_tys G) (zb_cells G S)) (zw_R (.int (zb_full (zb_R S)))) 0 0 (fun _ => False) := by
  refine Met.ofW (cc := nc_R_isFull) (maxL := 1) (ret := (some .boolean)) (by decide) rfl ?_
  intro p e s m args below meth c s₁ B hml hv
  obtain ⟨rfl, hP, hK⟩ := hv
  have hx := B.exec
  have hb := B.bytes
  have hr := B.returns
  have hts0 := atoms_spec (ws := Cond.code ny_R_isFull nc_R_isFull 1 (some .boolean) :: zw_big) B.pre
  have hts : ∀ w ∈ zw_big, w.before [.ref (zg_rst G)].toArray s = true := fun w h => hts0 w (List.mem_cons_of_mem _ h)
  have hown : s.vm.findClass nR_R = some m.cls := findClass_of_methodNamed B.named
  have hlk := B.notSynchronized
  have hl := lv_entry ([.ref (zg_rst G)]) (n := 1) (Nat.le_of_ble_eq_true rfl)
  rw [lg_entry_eq]
  generalize (lg_sl ([.ref (zg_rst G)]) ++ List.replicate (1 - (lg_sl ([.ref (zg_rst G)])).length) Slot.unset).toArray = ls at hl ⊢
  have hl : lv_has ls 1 [(0, .ref (zg_rst G))] := hl
  have hF : CallFix p m c nc_R_isFull 1 s [.ref (zg_rst G)].toArray zw_big nR_R := ⟨hx, hb, hml, hown, hts⟩
  refine lv_aload_n hx hb nd_R_isFull_0 rfl (zv_at hl 0 rfl) ?_
  refine zb_getR hx hb hts hown hK hP 1 (by decide) (hts _ nw_32) rfl nd_R_isFull_1 ?_
  refine lv_bipush (v := 8) hx hb nd_R_isFull_4 (by decide) ?_
  refine lv_icmp_lt (tgt := 13) hx hb nd_R_isFull_6 (by decide) (fun h_6 => ?_) (fun h_6 => ?_)
  · skip
    refine lv_iconst (v := 0) hx hb nd_R_isFull_13 (by decide) ?_
    refine zw_zret hx hb hr hlk nd_R_isFull_14 (by decide) ?_
    unfold zb_full
    first | rw [if_pos (show zbR_dm (zb_R S) < 8 from h_6)] | rw [if_neg (show ¬ zbR_dm (zb_R S) < 8 from h_6)]
  · skip
    refine lv_iconst (v := 1) hx hb nd_R_isFull_9 (by decide) ?_
    refine lv_goto (tgt := 14) hx hb nd_R_isFull_10 (by decide) ?_
    refine zw_zret hx hb hr hlk nd_R_isFull_14 (by decide) ?_
    unfold zb_full
    first | rw [if_pos (show zbR_dm (zb_R S) < 8 from h_6)] | rw [if_neg (show ¬ zbR_dm (zb_R S) < 8 from h_6)]

set_option maxHeartbeats 4000000 in
set_option maxRecDepth 100000 in
theorem c_R_add (l : Launch) (D : va_G) (G : zg_G) (hG : zw_apart (zb_adr G)) (S : zb_S) (hdm : ∃ r, r ≤ 8 ∧ zb_dm S = nI r) (x : Int32) : Met l ny_R_add (Cond.code ny_R_add nc_R_add 2 none :: zw_big) ({ frames := 1, cells := 0, slots := 0, locals := 20 } : Room) (zw_P [.ref (zg_rst G), .int x] D (zb_tys G) (zb_cells G S)) (zb_Qv D G (zb_sR S (zb_add (zb_R S) x))) 0 0 (zb_Ad G) := by
  refine Met.ofW (cc := nc_R_add) (maxL := 2) (ret := none) (by decide) rfl ?_
  intro p e s m args below meth c s₁ B hml hv
  obtain ⟨rfl, hP, hK⟩ := hv
  have hx := B.exec
  have hb := B.bytes
  have hr := B.returns
  have hts0 := atoms_spec (ws := Cond.code ny_R_add nc_R_add 2 none :: zw_big) B.pre
  have hts : ∀ w ∈ zw_big, w.before [.ref (zg_rst G), .int x].toArray s = true := fun w h => hts0 w (List.mem_cons_of_mem _ h)
  have hown : s.vm.findClass nR_R = some m.cls := findClass_of_methodNamed B.named
  have hlk := B.notSynchronized
  have hS : va_S (zb_Ad G) s.heap s.heap [] := va_S.rf
  have hl := lv_entry ([.ref (zg_rst G), .int x]) (n := 2) (Nat.le_of_ble_eq_true rfl)
  rw [lg_entry_eq]
  generalize (lg_sl ([.ref (zg_rst G), .int x]) ++ List.replicate (2 - (lg_sl ([.ref (zg_rst G), .int x])).length) Slot.unset).toArray = ls at hl ⊢
  have hl : lv_has ls 2 [(0, .ref (zg_rst G)), (1, .int x)] := hl
  have hF : CallFix p m c nc_R_add 2 s [.ref (zg_rst G), .int x].toArray zw_big nR_R := ⟨hx, hb, hml, hown, hts⟩
  obtain ⟨r, hr8, er⟩ := hdm
  refine lv_aload_n hx hb nd_R_add_0 rfl (zv_at hl 0 rfl) ?_
  refine zw_vR (As := []) (rest := _) hF (c_R_isFull l D G _) (zw_preV hP hK (q0 := 4) (ci := 4) rfl rfl rfl) nk_R_isFull nw_334 ⟨rfl, rfl, Nat.le_of_ble_eq_true rfl, Nat.le_of_ble_eq_true rfl⟩ rfl hl.1 rfl (Nat.le_of_ble_eq_true rfl) ⟨Nat.zero_le _, Nat.zero_le _⟩ nd_R_add_1 ?_
  refine lv_if_ne (tgt := 27) hx hb nd_R_add_4 (by decide) (fun h_4 => ?_) (fun h_4 => ?_)
  · skip
    refine zb_vret hx hb hr hlk nd_R_add_27 hP hS ?_
    unfold zb_add
    first
      | (rw [if_pos (show zb_full (zb_R S) = 0 from h_4)]; rfl)
      | (rw [if_neg (show ¬ zb_full (zb_R S) = 0 from h_4)]; rfl)
  · skip
    have hlt : r < 8 := by
      have h := h_4
      unfold zb_full at h
      by_cases q : zbR_dm (zb_R S) < 8
      · have q2 : nI r < nI 8 := by rw [← er]; exact q
        exact (nI_ltI (by omega) (by decide)).mp q2
      · rw [if_neg q] at h; exact absurd h (by decide)
    refine lv_aload_n hx hb nd_R_add_7 rfl (zv_at hl 0 rfl) ?_
    refine zb_getR hx hb hts hown hK hP 0 (by decide) (hts _ nw_31) rfl nd_R_add_8 ?_
    refine lv_aload_n hx hb nd_R_add_11 rfl (zv_at hl 0 rfl) ?_
    refine zb_getR hx hb hts hown hK hP 1 (by decide) (hts _ nw_32) rfl nd_R_add_12 ?_
    refine lv_iload_n hx hb nd_R_add_15 rfl (zv_at hl 1 rfl) ?_
    refine zb_ast_dat hx hb hK hG hP hS (by show vp_in (zb_dm S) 8; rw [er]; exact vp_in_nI hlt (by decide)) nd_R_add_16 (fun H locs hP hS => ?_)
    refine lv_aload_n hx hb nd_R_add_17 rfl (zv_at hl 0 rfl) ?_
    refine lv_dup hx hb nd_R_add_18 rfl ?_
    refine zb_getR hx hb hts hown hK hP 1 (by decide) (hts _ nw_32) rfl nd_R_add_19 ?_
    refine lv_iconst (v := 1) hx hb nd_R_add_22 (by decide) ?_
    refine lv_iadd hx hb nd_R_add_23 ?_
    refine zb_put_dm hx hb hts hown hK hG hP hS (hts _ nw_32) nd_R_add_24 (fun H locs hP hS => ?_)
    refine zb_vret hx hb hr hlk nd_R_add_27 hP hS ?_
    unfold zb_add
    first
      | (rw [if_pos (show zb_full (zb_R S) = 0 from h_4)]; rfl)
      | (rw [if_neg (show ¬ zb_full (zb_R S) = 0 from h_4)]; rfl)

set_option maxHeartbeats 4000000 in
set_option maxRecDepth 100000 in
theorem c_R_wasMade (l : Launch) (D : va_G) (G : zg_G) (S : zb_S) (hdm : ∃ r, r ≤ 8 ∧ zb_dm S = nI r) (x : Int32) : Met l ny_R_wasMade (Cond.code ny_R_wasMade nc_R_wasMade 3 (some .boolean) :: zw_big) ({ frames := 0, cells := 0, slots := 0, locals := 0 } : Room) (zw_P [.ref (zg_rst G), .int x] D (zb_tys G) (zb_cells G S)) (zw_R (.int (zb_wasI (zb_R S) x))) 0 0 (fun _ => False) := by
  refine Met.ofW (cc := nc_R_wasMade) (maxL := 3) (ret := (some .boolean)) (by decide) rfl ?_
  intro p e s m args below meth c s₁ B hml hv
  obtain ⟨rfl, hP, hK⟩ := hv
  have hx := B.exec
  have hb := B.bytes
  have hr := B.returns
  have hts0 := atoms_spec (ws := Cond.code ny_R_wasMade nc_R_wasMade 3 (some .boolean) :: zw_big) B.pre
  have hts : ∀ w ∈ zw_big, w.before [.ref (zg_rst G), .int x].toArray s = true := fun w h => hts0 w (List.mem_cons_of_mem _ h)
  have hown : s.vm.findClass nR_R = some m.cls := findClass_of_methodNamed B.named
  have hlk := B.notSynchronized
  have hl := lv_entry ([.ref (zg_rst G), .int x]) (n := 3) (Nat.le_of_ble_eq_true rfl)
  rw [lg_entry_eq]
  generalize (lg_sl ([.ref (zg_rst G), .int x]) ++ List.replicate (3 - (lg_sl ([.ref (zg_rst G), .int x])).length) Slot.unset).toArray = ls at hl ⊢
  have hl : lv_has ls 3 [(0, .ref (zg_rst G)), (1, .int x)] := hl
  have hF : CallFix p m c nc_R_wasMade 3 s [.ref (zg_rst G), .int x].toArray zw_big nR_R := ⟨hx, hb, hml, hown, hts⟩
  obtain ⟨r, hr8, er⟩ := hdm
  have er2 : (zbR_dm (zb_R S)).toNatClampNeg = r := by show (zb_dm S).toNatClampNeg = r; rw [er]; exact nI_clamp (by omega)
  refine lv_iconst (v := 0) hx hb nd_R_wasMade_0 (by decide) ?_
  refine lv_istore_n hx hb nd_R_wasMade_1 rfl hl (by decide) rfl (fun ls hl => ?_)
  refine zw_loop (σ := Nat) (fun k i H locs ls => H = s.heap ∧ locs = [] ∧ i + k = r ∧ (∀ j, j < i → ¬ zb_dat S j = x) ∧ lv_has ls 3 [(0, .ref (zg_rst G)), (1, .int x), (2, .int (nI i))]) ?_ r 0 ⟨rfl, rfl, by omega, fun j hj => absurd hj (by omega), zv_sub hl (by intro q hq; simp only [List.mem_cons, List.not_mem_nil, or_false] at hq; rcases hq with rfl | rfl | rfl <;> rfl)⟩
  intro k i H locs ls hI ih
  obtain ⟨hH, hL, hik, hno, hl⟩ := hI
  subst hH
  subst hL
  refine lv_iload_n hx hb nd_R_wasMade_2 rfl (zv_at hl 2 rfl) ?_
  refine lv_aload_n hx hb nd_R_wasMade_3 rfl (zv_at hl 0 rfl) ?_
  refine zb_getR hx hb hts hown hK hP 1 (by decide) (hts _ nw_32) rfl nd_R_wasMade_4 ?_
  refine lv_icmp_ge (tgt := 28) hx hb nd_R_wasMade_7 (by decide) (fun h_7 => ?_) (fun h_7 => ?_)
  · skip
    have hk0 : r ≤ i := by
      have h : nI r ≤ nI i := by rw [← er]; exact h_7
      exact (nI_leI (by omega) (by omega)).mp h
    refine lv_iconst (v := 0) hx hb nd_R_wasMade_28 (by decide) ?_
    refine zw_zret hx hb hr hlk nd_R_wasMade_29 (by decide) ?_
    unfold zb_wasI
    rw [er2, if_neg (show ¬ zb_was (zbR_dat (zb_R S)) x r = true from fun q => by
      obtain ⟨j, hj, e⟩ := (zb_was_iff _ _ _).mp q
      exact hno j (by omega) e)]
  · skip
    have hk0 : i < r := by
      refine Nat.lt_of_not_le fun q => h_7 ?_
      show zb_dm S ≤ nI i
      rw [er]
      exact nI_le q (by omega)
    refine lv_aload_n hx hb nd_R_wasMade_10 rfl (zv_at hl 0 rfl) ?_
    refine zb_getR hx hb hts hown hK hP 0 (by decide) (hts _ nw_31) rfl nd_R_wasMade_11 ?_
    refine lv_iload_n hx hb nd_R_wasMade_14 rfl (zv_at hl 2 rfl) ?_
    refine zb_ald_dat hx hb hK hP (vp_in_nI (by omega) (by decide)) nd_R_wasMade_15 ?_
    refine lv_iload_n hx hb nd_R_wasMade_16 rfl (zv_at hl 1 rfl) ?_
    refine lv_icmp_ne (tgt := 22) hx hb nd_R_wasMade_17 (by decide) (fun h_17 => ?_) (fun h_17 => ?_)
    · skip
      have h_17 : ¬ zb_dat S i = x := by rw [nI_clamp (by omega)] at h_17; exact h_17
      refine zv_iinc (v := nI (i + 1)) hx hb nd_R_wasMade_22 hl rfl ((nI_succ i).symm) (by decide) rfl (fun ls hl => ?_)
      refine lv_goto (tgt := 2) hx hb nd_R_wasMade_25 (by decide) ?_
      exact ih (k - 1) (i + 1) _ _ _ (by omega) ⟨rfl, rfl, by omega, fun j hj => by
        by_cases e : j = i
        · subst e; exact h_17
        · exact hno j (by omega), zv_sub hl (by intro q hq; simp only [List.mem_cons, List.not_mem_nil, or_false] at hq; rcases hq with rfl | rfl | rfl <;> rfl)⟩
    · skip
      have h_17 : zb_dat S i = x := by rw [← h_17, nI_clamp (by omega)]
      refine lv_iconst (v := 1) hx hb nd_R_wasMade_20 (by decide) ?_
      refine zw_zret hx hb hr hlk nd_R_wasMade_21 (by decide) ?_
      unfold zb_wasI
      rw [er2, if_pos (show zb_was (zbR_dat (zb_R S)) x r = true from (zb_was_iff _ _ _).mpr ⟨i, hk0, h_17⟩)]

set_option maxHeartbeats 4000000 in
set_option maxRecDepth 100000 in
theorem c_R_isRest (l : Launch) (D : va_G) (G : zg_G) (S : zb_S) (hdm : ∃ r, r ≤ 8 ∧ zb_dm S = nI r) (x : Int32) : Met l ny_R_isRest (Cond.code ny_R_isRest nc_R_isRest 3 (some .boolean) :: zw_big) ({ frames := 1, cells := 0, slots := 0, locals := 22 } : Room) (zw_P [.ref (zg_rst G), .int x] D (zb_tys G) (zb_cells G S)) (zw_R (.int (zb_isRest (zb_R S) x))) 0 0 (fun _ => False) := by
  refine Met.ofW (cc := nc_R_isRest) (maxL := 3) (ret := (some .boolean)) (by decide) rfl ?_
  intro p e s m args below meth c s₁ B hml hv
  obtain ⟨rfl, hP, hK⟩ := hv
  have hx := B.exec
  have hb := B.bytes
  have hr := B.returns
  have hts0 := atoms_spec (ws := Cond.code ny_R_isRest nc_R_isRest 3 (some .boolean) :: zw_big) B.pre
  have hts : ∀ w ∈ zw_big, w.before [.ref (zg_rst G), .int x].toArray s = true := fun w h => hts0 w (List.mem_cons_of_mem _ h)
  have hown : s.vm.findClass nR_R = some m.cls := findClass_of_methodNamed B.named
  have hlk := B.notSynchronized
  have hl := lv_entry ([.ref (zg_rst G), .int x]) (n := 3) (Nat.le_of_ble_eq_true rfl)
  rw [lg_entry_eq]
  generalize (lg_sl ([.ref (zg_rst G), .int x]) ++ List.replicate (3 - (lg_sl ([.ref (zg_rst G), .int x])).length) Slot.unset).toArray = ls at hl ⊢
  have hl : lv_has ls 3 [(0, .ref (zg_rst G)), (1, .int x)] := hl
  have hF : CallFix p m c nc_R_isRest 3 s [.ref (zg_rst G), .int x].toArray zw_big nR_R := ⟨hx, hb, hml, hown, hts⟩
  refine lv_iload_n hx hb nd_R_isRest_0 rfl (zv_at hl 1 rfl) ?_
  refine lv_bipush (v := 7) hx hb nd_R_isRest_1 (by decide) ?_
  refine lv_irem hx hb nd_R_isRest_3 (by decide) ?_
  refine lv_istore_n hx hb nd_R_isRest_4 rfl hl (by decide) rfl (fun ls hl => ?_)
  refine lv_iload_n hx hb nd_R_isRest_5 rfl (zv_at hl 2 rfl) ?_
  refine lv_if_eq (tgt := 22) hx hb nd_R_isRest_6 (by decide) (fun h_6 => ?_) (fun h_6 => ?_)
  · skip
    refine lv_iconst (v := 1) hx hb nd_R_isRest_22 (by decide) ?_
    refine lv_goto (tgt := 27) hx hb nd_R_isRest_23 (by decide) ?_
    refine zw_zret hx hb hr hlk nd_R_isRest_27 (by decide) ?_
    unfold zb_isRest
    first | rw [if_pos h_6] | rw [if_neg h_6, if_pos h_11] | rw [if_neg h_6, if_neg h_11, if_pos h_19] | rw [if_neg h_6, if_neg h_11, if_neg h_19]
  · skip
    refine lv_iload_n hx hb nd_R_isRest_9 rfl (zv_at hl 2 rfl) ?_
    refine lv_iconst (v := 1) hx hb nd_R_isRest_10 (by decide) ?_
    refine lv_icmp_eq (tgt := 22) hx hb nd_R_isRest_11 (by decide) (fun h_11 => ?_) (fun h_11 => ?_)
    · skip
      refine lv_iconst (v := 1) hx hb nd_R_isRest_22 (by decide) ?_
      refine lv_goto (tgt := 27) hx hb nd_R_isRest_23 (by decide) ?_
      refine zw_zret hx hb hr hlk nd_R_isRest_27 (by decide) ?_
      unfold zb_isRest
      first | rw [if_pos h_6] | rw [if_neg h_6, if_pos h_11] | rw [if_neg h_6, if_neg h_11, if_pos h_19] | rw [if_neg h_6, if_neg h_11, if_neg h_19]
    · skip
      refine lv_aload_n hx hb nd_R_isRest_14 rfl (zv_at hl 0 rfl) ?_
      refine lv_iload_n hx hb nd_R_isRest_15 rfl (zv_at hl 1 rfl) ?_
      refine zw_vR (As := [_]) (rest := _) hF (c_R_wasMade l D G _ (by assumption) _) (zw_preV hP hK (q0 := 4) (ci := 4) rfl rfl rfl) nk_R_wasMade nw_303 ⟨rfl, rfl, Nat.le_of_ble_eq_true rfl, Nat.le_of_ble_eq_true rfl⟩ rfl hl.1 rfl (Nat.le_of_ble_eq_true rfl) ⟨Nat.zero_le _, Nat.zero_le _⟩ nd_R_isRest_16 ?_
      refine lv_if_eq (tgt := 26) hx hb nd_R_isRest_19 (by decide) (fun h_19 => ?_) (fun h_19 => ?_)
      · skip
        refine lv_iconst (v := 0) hx hb nd_R_isRest_26 (by decide) ?_
        refine zw_zret hx hb hr hlk nd_R_isRest_27 (by decide) ?_
        unfold zb_isRest
        first | rw [if_pos h_6] | rw [if_neg h_6, if_pos h_11] | rw [if_neg h_6, if_neg h_11, if_pos h_19] | rw [if_neg h_6, if_neg h_11, if_neg h_19]
      · skip
        refine lv_iconst (v := 1) hx hb nd_R_isRest_22 (by decide) ?_
        refine lv_goto (tgt := 27) hx hb nd_R_isRest_23 (by decide) ?_
        refine zw_zret hx hb hr hlk nd_R_isRest_27 (by decide) ?_
        unfold zb_isRest
        first | rw [if_pos h_6] | rw [if_neg h_6, if_pos h_11] | rw [if_neg h_6, if_neg h_11, if_pos h_19] | rw [if_neg h_6, if_neg h_11, if_neg h_19]

theorem zb_dayIn_nat (w : Int32) : ∃ q : Nat, q < 32 ∧ zb_dayIn w = nI q := by
  unfold zb_dayIn
  exact pk_andE _ 5 (by decide)
theorem zb_up_none {r : zb_TR} {f len i : Int32} {k : Nat} (hk : ¬ k = 0) (h : len < i) : zb_up r f len k i = none := by
  obtain ⟨j, rfl⟩ : ∃ j, k = j + 1 := ⟨k - 1, by omega⟩
  rw [zb_up, if_pos h]
theorem zb_up_some {r : zb_TR} {f len i : Int32} {k : Nat} (hk : ¬ k = 0) (h : ¬ len < i) (h2 : zb_isRest r (f + i) = 0) : zb_up r f len k i = some (f + i) := by
  obtain ⟨j, rfl⟩ : ∃ j, k = j + 1 := ⟨k - 1, by omega⟩
  rw [zb_up, if_neg h, if_pos h2]
theorem zb_up_next {r : zb_TR} {f len i : Int32} {k : Nat} (hk : ¬ k = 0) (h : ¬ len < i) (h2 : ¬ zb_isRest r (f + i) = 0) : zb_up r f len k i = zb_up r f len (k - 1) (i + 1) := by
  obtain ⟨j, rfl⟩ : ∃ j, k = j + 1 := ⟨k - 1, by omega⟩
  rw [zb_up, if_neg h, if_neg h2]; rfl
theorem zb_dn_none {r : zb_TR} {f i : Int32} {k : Nat} (hk : ¬ k = 0) (h : i < 1) : zb_dn r f k i = none := by
  obtain ⟨j, rfl⟩ : ∃ j, k = j + 1 := ⟨k - 1, by omega⟩
  rw [zb_dn, if_pos h]
theorem zb_dn_some {r : zb_TR} {f i : Int32} {k : Nat} (hk : ¬ k = 0) (h : ¬ i < 1) (h2 : zb_isRest r (f + i) = 0) : zb_dn r f k i = some (f + i) := by
  obtain ⟨j, rfl⟩ : ∃ j, k = j + 1 := ⟨k - 1, by omega⟩
  rw [zb_dn, if_neg h, if_pos h2]
theorem zb_dn_next {r : zb_TR} {f i : Int32} {k : Nat} (hk : ¬ k = 0) (h : ¬ i < 1) (h2 : ¬ zb_isRest r (f + i) = 0) : zb_dn r f k i = zb_dn r f (k - 1) (i - 1) := by
  obtain ⟨j, rfl⟩ : ∃ j, k = j + 1 := ⟨k - 1, by omega⟩
  rw [zb_dn, if_neg h, if_neg h2]; rfl
theorem zb_min_nat {d q : Nat} (hd : d < 2 ^ 31) (hq : q < 2 ^ 31) : zj_min (nI d) (nI q) = nI (if q < d then q else d) := by
  unfold zj_min
  by_cases h : q < d
  · rw [if_pos h, if_pos (nI_lt h hd)]
  · rw [if_neg h, if_neg (nI_nlt (by omega) hq)]

set_option maxHeartbeats 4000000 in
set_option maxRecDepth 100000 in
theorem c_R_dueDate (l : Launch) (D : va_G) (G : zg_G) (S : zb_S) (hdm : ∃ r, r ≤ 8 ∧ zb_dm S = nI r) (day x : Int32) (hd : ∃ d, 1 ≤ d ∧ d ≤ 31 ∧ day = nI d) : Met l ny_R_dueDate (Cond.code ny_R_dueDate nc_R_dueDate 7 (some .int) :: zw_big) ({ frames := 2, cells := 0, slots := 0, locals := 51 } : Room) (zw_P [.ref (zg_rst G), .int day, .int x] D (zb_tys G) (zb_cells G S)) (zw_R (.int (zb_due (zb_R S) day x))) 0 0 (fun _ => False) := by
  refine Met.ofW (cc := nc_R_dueDate) (maxL := 7) (ret := (some .int)) (by decide) rfl ?_
  intro p e s m args below meth c s₁ B hml hv
  obtain ⟨rfl, hP, hK⟩ := hv
  have hx := B.exec
  have hb := B.bytes
  have hr := B.returns
  have hts0 := atoms_spec (ws := Cond.code ny_R_dueDate nc_R_dueDate 7 (some .int) :: zw_big) B.pre
  have hts : ∀ w ∈ zw_big, w.before [.ref (zg_rst G), .int day, .int x].toArray s = true := fun w h => hts0 w (List.mem_cons_of_mem _ h)
  have hown : s.vm.findClass nR_R = some m.cls := findClass_of_methodNamed B.named
  have hlk := B.notSynchronized
  have hl := lv_entry ([.ref (zg_rst G), .int day, .int x]) (n := 7) (Nat.le_of_ble_eq_true rfl)
  rw [lg_entry_eq]
  generalize (lg_sl ([.ref (zg_rst G), .int day, .int x]) ++ List.replicate (7 - (lg_sl ([.ref (zg_rst G), .int day, .int x])).length) Slot.unset).toArray = ls at hl ⊢
  have hl : lv_has ls 7 [(0, .ref (zg_rst G)), (1, .int day), (2, .int x)] := hl
  have hF : CallFix p m c nc_R_dueDate 7 s [.ref (zg_rst G), .int day, .int x].toArray zw_big nR_R := ⟨hx, hb, hml, hown, hts⟩
  obtain ⟨d, hd1, hd2, rfl⟩ := hd
  generalize hF0 : x - zb_dayIn (zb_md x) = F
  obtain ⟨q, hq, eq⟩ := zb_dayIn_nat (zb_md (F + 32))
  obtain ⟨L, hL1, hL2, eL⟩ : ∃ L, 1 ≤ L ∧ L ≤ 32 ∧ 32 - zb_dayIn (zb_md (F + 32)) = nI L := ⟨32 - q, by omega, by omega, by rw [eq]; exact pk_sub (a := 32) (by omega)⟩
  obtain ⟨w, hw1, hw2, ew⟩ : ∃ w, 1 ≤ w ∧ w ≤ L ∧ zj_min (nI d) (nI L) = nI w := ⟨_, by split <;> omega, by split <;> omega, zb_min_nat (by omega) (by omega)⟩
  have hdue : zb_due (zb_R S) (nI d) x = zb_due3 (zb_R S) F (nI L) (nI w) := by unfold zb_due zb_due2; rw [hF0, eL, ew]
  refine lv_iload_n hx hb nd_R_dueDate_0 rfl (zv_at hl 2 rfl) ?_
  refine lv_iload_n hx hb nd_R_dueDate_1 rfl (zv_at hl 2 rfl) ?_
  refine zw_sR (As := [_]) (rest := _) hF (c_C_monthAndDay l _) zw_preN nk_C_monthAndDay nw_355 ⟨rfl, rfl, Nat.le_of_ble_eq_true rfl, Nat.le_of_ble_eq_true rfl⟩ rfl hl.1 rfl (Nat.le_of_ble_eq_true rfl) ⟨Nat.zero_le _, Nat.zero_le _⟩ nd_R_dueDate_2 ?_
  refine zw_sR (As := [_]) (rest := _) hF (c_C_dayIn l _) zw_preN nk_C_dayIn nw_356 ⟨rfl, rfl, Nat.le_of_ble_eq_true rfl, Nat.le_of_ble_eq_true rfl⟩ rfl hl.1 rfl (Nat.le_of_ble_eq_true rfl) ⟨Nat.zero_le _, Nat.zero_le _⟩ nd_R_dueDate_5 ?_
  refine lv_isub hx hb nd_R_dueDate_8 ?_
  rw [hF0]
  refine lv_istore_n hx hb nd_R_dueDate_9 rfl hl (by decide) rfl (fun ls hl => ?_)
  refine lv_bipush (v := 32) hx hb nd_R_dueDate_10 (by decide) ?_
  refine lv_iload_n hx hb nd_R_dueDate_12 rfl (zv_at hl 3 rfl) ?_
  refine lv_bipush (v := 32) hx hb nd_R_dueDate_13 (by decide) ?_
  refine lv_iadd hx hb nd_R_dueDate_15 ?_
  refine zw_sR (As := [_]) (rest := _) hF (c_C_monthAndDay l _) zw_preN nk_C_monthAndDay nw_355 ⟨rfl, rfl, Nat.le_of_ble_eq_true rfl, Nat.le_of_ble_eq_true rfl⟩ rfl hl.1 rfl (Nat.le_of_ble_eq_true rfl) ⟨Nat.zero_le _, Nat.zero_le _⟩ nd_R_dueDate_16 ?_
  refine zw_sR (As := [_]) (rest := _) hF (c_C_dayIn l _) zw_preN nk_C_dayIn nw_356 ⟨rfl, rfl, Nat.le_of_ble_eq_true rfl, Nat.le_of_ble_eq_true rfl⟩ rfl hl.1 rfl (Nat.le_of_ble_eq_true rfl) ⟨Nat.zero_le _, Nat.zero_le _⟩ nd_R_dueDate_19 ?_
  refine lv_isub hx hb nd_R_dueDate_22 ?_
  rw [eL]
  refine lv_istore hx hb nd_R_dueDate_23 hl (by decide) rfl (fun ls hl => ?_)
  refine lv_iload_n hx hb nd_R_dueDate_25 rfl (zv_at hl 1 rfl) ?_
  refine lv_iload hx hb nd_R_dueDate_26 (zv_at hl 4 rfl) ?_
  refine zw_sR (As := [_, _]) (rest := _) hF (c_T_min l _ _) zw_preN nk_T_min nw_359 ⟨rfl, rfl, Nat.le_of_ble_eq_true rfl, Nat.le_of_ble_eq_true rfl⟩ rfl hl.1 rfl (Nat.le_of_ble_eq_true rfl) ⟨Nat.zero_le _, Nat.zero_le _⟩ nd_R_dueDate_28 ?_
  rw [ew]
  refine lv_istore hx hb nd_R_dueDate_31 hl (by decide) rfl (fun ls hl => ?_)
  refine lv_iload hx hb nd_R_dueDate_33 (zv_at hl 5 rfl) ?_
  refine lv_istore hx hb nd_R_dueDate_35 hl (by decide) rfl (fun ls hl => ?_)
  refine zw_loop (σ := Nat) (fun k a H locs ls => H = s.heap ∧ locs = [] ∧ a + k = L + 1 ∧ w ≤ a ∧ zb_up (zb_R S) F (nI L) 40 (nI w) = zb_up (zb_R S) F (nI L) (40 + w - a) (nI a) ∧ lv_has ls 7 [(0, .ref (zg_rst G)), (1, .int (nI d)), (2, .int x), (3, .int F), (4, .int (nI L)), (5, .int (nI w)), (6, .int (nI a))]) ?_ (L + 1 - w) w ⟨rfl, rfl, by omega, by omega, by rw [show 40 + w - w = 40 by omega], zv_sub hl (by intro q hq; simp only [List.mem_cons, List.not_mem_nil, or_false] at hq; rcases hq with rfl | rfl | rfl | rfl | rfl | rfl | rfl <;> rfl)⟩
  intro k a H locs ls hI ih
  obtain ⟨hH, hLo, hak, hwa, hU, hl⟩ := hI
  subst hH
  subst hLo
  refine lv_iload hx hb nd_R_dueDate_37 (zv_at hl 6 rfl) ?_
  refine lv_iload hx hb nd_R_dueDate_39 (zv_at hl 4 rfl) ?_
  refine lv_icmp_gt (tgt := 66) hx hb nd_R_dueDate_41 (by decide) (fun h_41 => ?_) (fun h_41 => ?_)
  · skip
    have hU : zb_up (zb_R S) F (nI L) 40 (nI w) = none := by rw [hU, zb_up_none (by have := (nI_ltI (a := L) (b := a) (by omega) (by omega)).mp h_41; omega) h_41]
    have hw9 : nI w - 1 = nI (w - 1) := by
      have := nI_pred (w - 1)
      rw [show w - 1 + 1 = w by omega] at this
      exact this
    have hdue4 : zb_due (zb_R S) (nI d) x = zb_due4 (zb_R S) F (nI w) := by rw [hdue]; unfold zb_due3; rw [hU]
    refine lv_iload hx hb nd_R_dueDate_66 (zv_at hl 5 rfl) ?_
    refine lv_iconst (v := 1) hx hb nd_R_dueDate_68 (by decide) ?_
    refine lv_isub hx hb nd_R_dueDate_69 ?_
    refine lv_istore hx hb nd_R_dueDate_70 hl (by decide) rfl (fun ls hl => ?_)
    refine zw_loop (σ := Unit) (fun b u H locs ls => H = s.heap ∧ locs = [] ∧ b < w ∧ zb_dn (zb_R S) F 40 (nI (w - 1)) = zb_dn (zb_R S) F (41 + b - w) (nI b) ∧ lv_has ls 7 [(0, .ref (zg_rst G)), (1, .int (nI d)), (2, .int x), (3, .int F), (4, .int (nI L)), (5, .int (nI w)), (6, .int (nI b))]) ?_ (w - 1) () ⟨rfl, rfl, by omega, by rw [show 41 + (w - 1) - w = 40 by omega], zv_sub hl (by intro q hq; simp only [List.mem_cons, List.not_mem_nil, or_false] at hq; rcases hq with rfl | rfl | rfl | rfl | rfl | rfl | rfl; rfl; rfl; rfl; rfl; rfl; rfl; exact congrArg (fun z => some (Value.int z)) hw9)⟩
    intro b u H locs ls hI ih
    obtain ⟨hH, hLo, hbw, hV, hl⟩ := hI
    subst hH
    subst hLo
    refine lv_iload hx hb nd_R_dueDate_72 (zv_at hl 6 rfl) ?_
    refine lv_iconst (v := 1) hx hb nd_R_dueDate_74 (by decide) ?_
    refine lv_icmp_lt (tgt := 100) hx hb nd_R_dueDate_75 (by decide) (fun h_75 => ?_) (fun h_75 => ?_)
    · skip
      refine lv_iload_n hx hb nd_R_dueDate_100 rfl (zv_at hl 3 rfl) ?_
      refine lv_iload hx hb nd_R_dueDate_101 (zv_at hl 5 rfl) ?_
      refine lv_iadd hx hb nd_R_dueDate_103 ?_
      refine zw_iret hx hb hr hlk nd_R_dueDate_104 ?_
      rw [hdue4]
      unfold zb_due4
      rw [hw9, hV, zb_dn_none (by omega) h_75]
    · skip
      have hb0 : ¬ b = 0 := fun q => h_75 (by subst q; decide)
      have hb9 : nI b - 1 = nI (b - 1) := by
        have := nI_pred (b - 1)
        rw [show b - 1 + 1 = b by omega] at this
        exact this
      refine lv_aload_n hx hb nd_R_dueDate_78 rfl (zv_at hl 0 rfl) ?_
      refine lv_iload_n hx hb nd_R_dueDate_79 rfl (zv_at hl 3 rfl) ?_
      refine lv_iload hx hb nd_R_dueDate_80 (zv_at hl 6 rfl) ?_
      refine lv_iadd hx hb nd_R_dueDate_82 ?_
      refine zw_vR (As := [_]) (rest := _) hF (c_R_isRest l D G _ (by assumption) _) (zw_preV hP hK (q0 := 4) (ci := 4) rfl rfl rfl) nk_R_isRest nw_362 ⟨rfl, rfl, Nat.le_of_ble_eq_true rfl, Nat.le_of_ble_eq_true rfl⟩ rfl hl.1 rfl (Nat.le_of_ble_eq_true rfl) ⟨Nat.zero_le _, Nat.zero_le _⟩ nd_R_dueDate_83 ?_
      refine lv_if_ne (tgt := 94) hx hb nd_R_dueDate_86 (by decide) (fun h_86 => ?_) (fun h_86 => ?_)
      · skip
        refine zv_iinc (v := nI (b - 1)) hx hb nd_R_dueDate_94 hl rfl (by rw [show (Int32.ofInt (-1)) = -1 by decide]; have := pk_m1 (b - 1); rw [show b - 1 + 1 = b by omega] at this; exact this) (by decide) rfl (fun ls hl => ?_)
        refine lv_goto (tgt := 72) hx hb nd_R_dueDate_97 (by decide) ?_
        exact ih (b - 1) () _ _ _ (by omega) ⟨rfl, rfl, by omega, by rw [hV, zb_dn_next (by omega) h_75 h_86, hb9, show 41 + b - w - 1 = 41 + (b - 1) - w by omega], zv_sub hl (by intro q hq; simp only [List.mem_cons, List.not_mem_nil, or_false] at hq; rcases hq with rfl | rfl | rfl | rfl | rfl | rfl | rfl <;> rfl)⟩
      · skip
        refine lv_iload_n hx hb nd_R_dueDate_89 rfl (zv_at hl 3 rfl) ?_
        refine lv_iload hx hb nd_R_dueDate_90 (zv_at hl 6 rfl) ?_
        refine lv_iadd hx hb nd_R_dueDate_92 ?_
        refine zw_iret hx hb hr hlk nd_R_dueDate_93 ?_
        rw [hdue4]
        unfold zb_due4
        rw [hw9, hV, zb_dn_some (by omega) h_75 h_86]
  · skip
    have hka : a ≤ L := Nat.le_of_not_lt fun q => h_41 (nI_lt q (by omega))
    refine lv_aload_n hx hb nd_R_dueDate_44 rfl (zv_at hl 0 rfl) ?_
    refine lv_iload_n hx hb nd_R_dueDate_45 rfl (zv_at hl 3 rfl) ?_
    refine lv_iload hx hb nd_R_dueDate_46 (zv_at hl 6 rfl) ?_
    refine lv_iadd hx hb nd_R_dueDate_48 ?_
    refine zw_vR (As := [_]) (rest := _) hF (c_R_isRest l D G _ (by assumption) _) (zw_preV hP hK (q0 := 4) (ci := 4) rfl rfl rfl) nk_R_isRest nw_362 ⟨rfl, rfl, Nat.le_of_ble_eq_true rfl, Nat.le_of_ble_eq_true rfl⟩ rfl hl.1 rfl (Nat.le_of_ble_eq_true rfl) ⟨Nat.zero_le _, Nat.zero_le _⟩ nd_R_dueDate_49 ?_
    refine lv_if_ne (tgt := 60) hx hb nd_R_dueDate_52 (by decide) (fun h_52 => ?_) (fun h_52 => ?_)
    · skip
      refine zv_iinc (v := nI (a + 1)) hx hb nd_R_dueDate_60 hl rfl ((nI_succ a).symm) (by decide) rfl (fun ls hl => ?_)
      refine lv_goto (tgt := 37) hx hb nd_R_dueDate_63 (by decide) ?_
      exact ih (k - 1) (a + 1) _ _ _ (by omega) ⟨rfl, rfl, by omega, by omega, by rw [hU, zb_up_next (by omega) h_41 h_52, nI_succ, show 40 + w - a - 1 = 40 + w - (a + 1) by omega], zv_sub hl (by intro q hq; simp only [List.mem_cons, List.not_mem_nil, or_false] at hq; rcases hq with rfl | rfl | rfl | rfl | rfl | rfl | rfl <;> rfl)⟩
    · skip
      refine lv_iload_n hx hb nd_R_dueDate_55 rfl (zv_at hl 3 rfl) ?_
      refine lv_iload hx hb nd_R_dueDate_56 (zv_at hl 6 rfl) ?_
      refine lv_iadd hx hb nd_R_dueDate_58 ?_
      refine zw_iret hx hb hr hlk nd_R_dueDate_59 ?_
      rw [hdue]
      unfold zb_due3
      rw [hU, zb_up_some (by omega) h_41 h_52]
