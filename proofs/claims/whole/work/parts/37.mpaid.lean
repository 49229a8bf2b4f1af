def zm_key (T : zm_S) : Int32 × Int32 × zm_TR × (Nat → Int32) × (Nat → Int32) × (Nat → Int32) × (Nat → Int32) × Int32 := (zm_acs T, zm_ors T, zm_R T, zm_cur T, zm_pyr T, zm_pye T, zm_ody T, zm_now T)
/-- what holds of the orders -/
def zm_IO (T : zm_S) : Prop := ∀ k, (∃ i, i < 6 ∧ zm_pyr T k = nI i) ∧ (∃ i, i < 6 ∧ zm_pye T k = nI i) ∧ (k < (zm_ors T).toNatClampNeg → ¬ zm_pyr T k = zm_pye T k)
theorem zm_key_acs {T T' : zm_S} (h : zm_key T' = zm_key T) : zm_acs T' = zm_acs T := congrArg (fun K => K.1) h
theorem zm_key_ors {T T' : zm_S} (h : zm_key T' = zm_key T) : zm_ors T' = zm_ors T := congrArg (fun K => K.2.1) h
theorem zm_key_R {T T' : zm_S} (h : zm_key T' = zm_key T) : zm_R T' = zm_R T := congrArg (fun K => K.2.2.1) h
theorem zm_key_cur {T T' : zm_S} (h : zm_key T' = zm_key T) : zm_cur T' = zm_cur T := congrArg (fun K => K.2.2.2.1) h
theorem zm_key_pyr {T T' : zm_S} (h : zm_key T' = zm_key T) : zm_pyr T' = zm_pyr T := congrArg (fun K => K.2.2.2.2.1) h
theorem zm_key_pye {T T' : zm_S} (h : zm_key T' = zm_key T) : zm_pye T' = zm_pye T := congrArg (fun K => K.2.2.2.2.2.1) h
theorem zm_key_now {T T' : zm_S} (h : zm_key T' = zm_key T) : zm_now T' = zm_now T := congrArg (fun K => K.2.2.2.2.2.2.2) h
theorem zm_I_key {T T' : zm_S} (h : zm_key T' = zm_key T) (hI : zm_I T) : zm_I T' := by
  obtain ⟨h1, h2, h3, h4⟩ := hI
  refine ⟨?_, ?_, ?_, ?_⟩
  · rw [zm_key_acs h]; exact h1
  · rw [zm_key_ors h]; exact h2
  · have e : zm_rst T' = zm_rst T := congrArg (fun R => zmR_rst R) (zm_key_R h)
    rw [e]; exact h3
  · rw [zm_key_cur h]; exact h4
theorem zm_IO_key {T T' : zm_S} (h : zm_key T' = zm_key T) (hI : zm_IO T) : zm_IO T' := by
  unfold zm_IO
  rw [zm_key_pyr h, zm_key_pye h, zm_key_ors h]; exact hI
theorem zm_transfer_key (T : zm_S) (x y a : Int32) : zm_key (zm_transfer T x y a) = zm_key T := by
  unfold zm_transfer zm_gets zm_pays
  split <;> split <;> rfl
theorem zm_carryOne_key (T : zm_S) (j : Nat) (a pd : Int32) (k : Nat) : zm_key (zm_carryOne T j a pd k) = zm_key T := by
  unfold zm_carryOne
  split
  · rw [zm_transfer_key]
  · split
    · split <;> rfl
    · rfl
theorem zm_carry_key (j : Nat) (a pd : Int32) (n : Nat) : ∀ (k : Nat) (T : zm_S), zm_key (zm_carry j a pd n k T) = zm_key T := by
  induction n with
  | zero => intro k T; rfl
  | succ n ih => intro k T; rw [zm_carry, ih, zm_carryOne_key]
theorem zm_grow_key (T : zm_S) (j i : Nat) : zm_key (zm_grow T j i) = zm_key T := by
  unfold zm_grow
  dsimp only
  split <;> rfl
theorem zm_step_key (T : zm_S) (j i : Nat) : zm_key (zm_step T j i).2 = zm_key T := by
  unfold zm_step
  dsimp only
  split
  · rfl
  · show zm_key (zm_grow _ j i) = _
    rw [zm_grow_key, zm_carry_key]; rfl
theorem zm_paidL_next {T : zm_S} {j : Nat} {a set : Int32} {n k : Nat} {has : Int64} (hn : ¬ n = 0) : zm_paidL T j a n k set has = (if zm_pyr T k = a then (if (zm_sum T k).toInt64 ≤ has then (if zm_due (zm_R T) j (zm_ody T k) = 0 then zm_paidL T j a (n - 1) (k + 1) set has
      else zm_paidL T j a (n - 1) (k + 1) (set ||| (1 : Int32) <<< (nI k &&& 31)) (has - (zm_sum T k).toInt64)) else zm_paidL T j a (n - 1) (k + 1) set has) else zm_paidL T j a (n - 1) (k + 1) set has) := by
  obtain ⟨g, rfl⟩ : ∃ g, n = g + 1 := ⟨n - 1, by omega⟩
  rw [zm_paidL]; rfl
theorem zm_stepSet_next {T : zm_S} {pd cnt set : Int32} {n k : Nat} (hn : ¬ n = 0) : zm_stepSet T pd n k cnt set = (if pd >>> (nI k &&& 31) &&& 1 = 1 then zm_stepSet T pd (n - 1) (k + 1) (cnt + 1) (set ||| (1 : Int32) <<< (zm_pye T k &&& 31)) else zm_stepSet T pd (n - 1) (k + 1) cnt set) := by
  obtain ⟨g, rfl⟩ : ∃ g, n = g + 1 := ⟨n - 1, by omega⟩
  rw [zm_stepSet]; rfl
theorem zm_carry_next {T : zm_S} {j : Nat} {a pd : Int32} {n k : Nat} (hn : ¬ n = 0) : zm_carry j a pd n k T = zm_carry j a pd (n - 1) (k + 1) (zm_carryOne T j a pd k) := by
  obtain ⟨g, rfl⟩ : ∃ g, n = g + 1 := ⟨n - 1, by omega⟩
  rw [zm_carry]; rfl

set_option maxHeartbeats 4000000 in
set_option maxRecDepth 100000 in
theorem c_M_paidOrders (l : Launch) (D : va_G) (G : zh_G) (hG : zw_apart (zm_adr G)) (T : zm_S) (Y : zm_Y) (j : Nat) (hj : j < 99999) (ej : zm_now T = nI j) (hI : zm_I T) (a : Nat) (ha : a < 6) : Met l ny_M_paidOrders (Cond.code ny_M_paidOrders nc_M_paidOrders 6 (some .int) :: zw_big) ({ frames := 4, cells := 0, slots := 0, locals := 90 } : Room) (zw_P [.ref (zh_mdl G), .int (nI a)] D (zm_tys G) (zm_cells G T Y)) (zm_Qi D G (zm_paid T j (nI a), T)) 0 0 (zm_Ad G) := by
  refine Met.ofW (cc := nc_M_paidOrders) (maxL := 6) (ret := (some .int)) (by decide) rfl ?_
  intro p e s m args below meth c s₁ B hml hv
  obtain ⟨rfl, hP, hK⟩ := hv
  have hx := B.exec
  have hb := B.bytes
  have hr := B.returns
  have hts0 := atoms_spec (ws := Cond.code ny_M_paidOrders nc_M_paidOrders 6 (some .int) :: zw_big) B.pre
  have hts : ∀ w ∈ zw_big, w.before [.ref (zh_mdl G), .int (nI a)].toArray s = true := fun w h => hts0 w (List.mem_cons_of_mem _ h)
  have hown : s.vm.findClass nR_M = some m.cls := findClass_of_methodNamed B.named
  have hlk := B.notSynchronized
  have hS : va_S (zm_Ad G) s.heap s.heap [] := va_S.rf
  have hl := lv_entry ([.ref (zh_mdl G), .int (nI a)]) (n := 6) (Nat.le_of_ble_eq_true rfl)
  rw [lg_entry_eq]
  generalize (lg_sl ([.ref (zh_mdl G), .int (nI a)]) ++ List.replicate (6 - (lg_sl ([.ref (zh_mdl G), .int (nI a)])).length) Slot.unset).toArray = ls at hl ⊢
  have hl : lv_has ls 6 [(0, .ref (zh_mdl G)), (1, .int (nI a))] := hl
  have hF : CallFix p m c nc_M_paidOrders 6 s [.ref (zh_mdl G), .int (nI a)].toArray zw_big nR_M := ⟨hx, hb, hml, hown, hts⟩
  have hdm := hI.2.2.1
  have hj0 : j < 100000 := by omega
  obtain ⟨o, ho6, eo⟩ := hI.2.1
  have eo2 : (zm_ors T).toNatClampNeg = o := by rw [eo]; exact nI_clamp (by omega)
  have hx6 : vp_in (nI a) 6 := vp_in_nI ha (by decide)
  refine lv_iconst (v := 0) hx hb nd_M_paidOrders_0 (by decide) ?_
  refine lv_istore_n hx hb nd_M_paidOrders_1 rfl hl (by decide) rfl (fun ls hl => ?_)
  refine lv_aload_n hx hb nd_M_paidOrders_2 rfl (zv_at hl 0 rfl) ?_
  refine lv_iload_n hx hb nd_M_paidOrders_3 rfl (zv_at hl 1 rfl) ?_
  refine zw_vR (As := [_]) (rest := _) hF (c_M_free l D G _ _ _ (by assumption)) (zw_preV hP hK (q0 := 0) (ci := 6) rfl rfl rfl) nk_M_free nw_598 ⟨rfl, rfl, Nat.le_of_ble_eq_true rfl, Nat.le_of_ble_eq_true rfl⟩ rfl hl.1 rfl (Nat.le_of_ble_eq_true rfl) ⟨Nat.zero_le _, Nat.zero_le _⟩ nd_M_paidOrders_4 ?_
  refine lv_lstore_n hx hb nd_M_paidOrders_7 rfl hl (by decide) rfl (fun ls hl => ?_)
  refine lv_iconst (v := 0) hx hb nd_M_paidOrders_8 (by decide) ?_
  refine lv_istore hx hb nd_M_paidOrders_9 hl (by decide) rfl (fun ls hl => ?_)
  refine zw_loop (σ := Nat × Int32 × Int64 × zm_Y) (fun n x H locs ls => x.1 + n = o ∧ zm_paidL T j (nI a) o 0 0 (zm_free T (nI a)) = zm_paidL T j (nI a) n x.1 x.2.1 x.2.2.1 ∧ va_P D vwCl (zm_cells G T x.2.2.2) H ∧ va_S (zm_Ad G) s.heap H locs ∧ lv_has ls 6 [(0, .ref (zh_mdl G)), (1, .int (nI a)), (2, .int x.2.1), (3, .long x.2.2.1), (5, .int (nI x.1))]) ?_ o (0, 0, zm_free T (nI a), Y) ⟨by simp, rfl, hP, hS, zv_sub hl (by intro q hq; simp only [List.mem_cons, List.not_mem_nil, or_false] at hq; rcases hq with rfl | rfl | rfl | rfl | rfl <;> rfl)⟩
  rintro n ⟨k, set, has, Y⟩ H locs ls hI9 ih
  obtain ⟨hik, hE, hP, hS, hl⟩ := hI9
  dsimp only at hik hE hP hl
  refine lv_iload hx hb nd_M_paidOrders_11 (zv_at hl 5 rfl) ?_
  refine lv_aload_n hx hb nd_M_paidOrders_13 rfl (zv_at hl 0 rfl) ?_
  refine zm_get hx hb hts hown hK hP 10 (by decide) (hts _ nw_477) rfl nd_M_paidOrders_14 ?_
  refine lv_icmp_ge (tgt := 82) hx hb nd_M_paidOrders_17 (by decide) (fun h_17 => ?_) (fun h_17 => ?_)
  · skip
    have hk0 : n = 0 := by
      have h : nI o ≤ nI k := by rw [← eo]; exact h_17
      have := (nI_leI (a := o) (b := k) (by omega) (by omega)).mp h
      omega
    subst hk0
    refine lv_iload_n hx hb nd_M_paidOrders_82 rfl (zv_at hl 2 rfl) ?_
    refine zm_iret hx hb hr hlk nd_M_paidOrders_83 hP hS ?_
    unfold zm_paid
    rw [eo2, hE]
    all_goals rfl
  · skip
    have hko : k < o := by
      refine Nat.lt_of_not_le fun z => h_17 ?_
      show zm_ors T ≤ nI k
      rw [eo]; exact nI_le z (by omega)
    have hk6 : k < 6 := by omega
    refine lv_aload_n hx hb nd_M_paidOrders_20 rfl (zv_at hl 0 rfl) ?_
    refine zm_get hx hb hts hown hK hP 11 (by decide) (hts _ nw_478) rfl nd_M_paidOrders_21 ?_
    refine lv_iload hx hb nd_M_paidOrders_24 (zv_at hl 5 rfl) ?_
    refine zm_aldN_pyr hx hb hK hP (by assumption) nd_M_paidOrders_26 ?_
    refine lv_iload_n hx hb nd_M_paidOrders_27 rfl (zv_at hl 1 rfl) ?_
    refine lv_icmp_ne (tgt := 76) hx hb nd_M_paidOrders_28 (by decide) (fun h_28 => ?_) (fun h_28 => ?_)
    · skip
      refine zv_iinc (v := nI (k + 1)) hx hb nd_M_paidOrders_76 hl rfl ((nI_succ k).symm) (by decide) rfl (fun ls hl => ?_)
      refine lv_goto (tgt := 11) hx hb nd_M_paidOrders_79 (by decide) ?_
      exact ih (n - 1) (k + 1, set, has, _) _ _ _ (by omega) ⟨by show k + 1 + (n - 1) = o; omega, by rw [hE, zm_paidL_next (by omega), if_neg h_28], hP, hS, zv_sub hl (by intro q hq; simp only [List.mem_cons, List.not_mem_nil, or_false] at hq; rcases hq with rfl | rfl | rfl | rfl | rfl <;> rfl)⟩
    · skip
      refine lv_aload_n hx hb nd_M_paidOrders_31 rfl (zv_at hl 0 rfl) ?_
      refine zm_get hx hb hts hown hK hP 13 (by decide) (hts _ nw_480) rfl nd_M_paidOrders_32 ?_
      refine lv_iload hx hb nd_M_paidOrders_35 (zv_at hl 5 rfl) ?_
      refine zm_aldN_sum hx hb hK hP (by assumption) nd_M_paidOrders_37 ?_
      refine lv_i2l (v := _) hx hb nd_M_paidOrders_38 rfl ?_
      refine lv_lload_n hx hb nd_M_paidOrders_39 rfl (zv_at hl 3 rfl) ?_
      refine W.lcmp hx hb nd_M_paidOrders_40 ?_
      refine lv_if_gt (tgt := 76) hx hb nd_M_paidOrders_41 (by decide) (fun h_41 => ?_) (fun h_41 => ?_)
      · skip
        have h_41 := (lg_cmp_gt _ _).mp h_41
        refine zv_iinc (v := nI (k + 1)) hx hb nd_M_paidOrders_76 hl rfl ((nI_succ k).symm) (by decide) rfl (fun ls hl => ?_)
        refine lv_goto (tgt := 11) hx hb nd_M_paidOrders_79 (by decide) ?_
        exact ih (n - 1) (k + 1, set, has, _) _ _ _ (by omega) ⟨by show k + 1 + (n - 1) = o; omega, by rw [hE, zm_paidL_next (by omega), if_pos h_28, if_neg (Int64.not_le.mpr h_41)], hP, hS, zv_sub hl (by intro q hq; simp only [List.mem_cons, List.not_mem_nil, or_false] at hq; rcases hq with rfl | rfl | rfl | rfl | rfl <;> rfl)⟩
      · skip
        have h_41 := (show ¬ _ from fun q => h_41 ((lg_cmp_gt _ _).mpr q))
        refine lv_aload_n hx hb nd_M_paidOrders_44 rfl (zv_at hl 0 rfl) ?_
        refine lv_aload_n hx hb nd_M_paidOrders_45 rfl (zv_at hl 0 rfl) ?_
        refine zm_get hx hb hts hown hK hP 14 (by decide) (hts _ nw_481) rfl nd_M_paidOrders_46 ?_
        refine lv_iload hx hb nd_M_paidOrders_49 (zv_at hl 5 rfl) ?_
        refine zm_aldN_ody hx hb hK hP (by assumption) nd_M_paidOrders_51 ?_
        refine zm_vWi (As := [_]) (rest := _) hF (c_M_due l D G hG _ _ _ j hj0 (by exact ej) (by exact hdm)) (zw_preV hP hK (q0 := 0) (ci := 6) rfl rfl rfl) nk_M_due nw_672 ⟨rfl, rfl, Nat.le_of_ble_eq_true rfl, Nat.le_of_ble_eq_true rfl⟩ rfl hl.1 rfl (Nat.le_of_ble_eq_true rfl) ⟨Nat.zero_le _, Nat.zero_le _⟩ nd_M_paidOrders_52 hS (fun Y H locs hP hS => ?_)
        refine lv_if_eq (tgt := 76) hx hb nd_M_paidOrders_55 (by decide) (fun h_55 => ?_) (fun h_55 => ?_)
        · skip
          refine zv_iinc (v := nI (k + 1)) hx hb nd_M_paidOrders_76 hl rfl ((nI_succ k).symm) (by decide) rfl (fun ls hl => ?_)
          refine lv_goto (tgt := 11) hx hb nd_M_paidOrders_79 (by decide) ?_
          exact ih (n - 1) (k + 1, set, has, _) _ _ _ (by omega) ⟨by show k + 1 + (n - 1) = o; omega, by rw [hE, zm_paidL_next (by omega), if_pos h_28, if_pos (Int64.not_lt.mp h_41), if_pos (show zm_due (zm_R T) j (zm_ody T k) = 0 from h_55)], hP, hS, zv_sub hl (by intro q hq; simp only [List.mem_cons, List.not_mem_nil, or_false] at hq; rcases hq with rfl | rfl | rfl | rfl | rfl <;> rfl)⟩
        · skip
          refine lv_iload_n hx hb nd_M_paidOrders_58 rfl (zv_at hl 2 rfl) ?_
          refine lv_iconst (v := 1) hx hb nd_M_paidOrders_59 (by decide) ?_
          refine lv_iload hx hb nd_M_paidOrders_60 (zv_at hl 5 rfl) ?_
          refine lv_ishl hx hb nd_M_paidOrders_62 ?_
          refine lv_ior hx hb nd_M_paidOrders_63 ?_
          refine lv_istore_n hx hb nd_M_paidOrders_64 rfl hl (by decide) rfl (fun ls hl => ?_)
          refine lv_lload_n hx hb nd_M_paidOrders_65 rfl (zv_at hl 3 rfl) ?_
          refine lv_aload_n hx hb nd_M_paidOrders_66 rfl (zv_at hl 0 rfl) ?_
          refine zm_get hx hb hts hown hK hP 13 (by decide) (hts _ nw_480) rfl nd_M_paidOrders_67 ?_
          refine lv_iload hx hb nd_M_paidOrders_70 (zv_at hl 5 rfl) ?_
          refine zm_aldN_sum hx hb hK hP (by assumption) nd_M_paidOrders_72 ?_
          refine lv_i2l (v := _) hx hb nd_M_paidOrders_73 rfl ?_
          refine lv_lsub hx hb nd_M_paidOrders_74 ?_
          refine lv_lstore_n hx hb nd_M_paidOrders_75 rfl hl (by decide) rfl (fun ls hl => ?_)
          refine zv_iinc (v := nI (k + 1)) hx hb nd_M_paidOrders_76 hl rfl ((nI_succ k).symm) (by decide) rfl (fun ls hl => ?_)
          refine lv_goto (tgt := 11) hx hb nd_M_paidOrders_79 (by decide) ?_
          exact ih (n - 1) (k + 1, set ||| (1 : Int32) <<< (nI k &&& 31), has - (zm_sum T k).toInt64, _) _ _ _ (by omega) ⟨by show k + 1 + (n - 1) = o; omega, by rw [hE, zm_paidL_next (by omega), if_pos h_28, if_pos (Int64.not_lt.mp h_41), if_neg (show ¬ zm_due (zm_R T) j (zm_ody T k) = 0 from h_55)], hP, hS, zv_sub hl (by intro q hq; simp only [List.mem_cons, List.not_mem_nil, or_false] at hq; rcases hq with rfl | rfl | rfl | rfl | rfl <;> rfl)⟩
