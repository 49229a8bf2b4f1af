theorem zm_up_stop {R : zm_TR} {f : Nat} {x : Int32} (h : zb_isRest R x = 0) : zm_up R f x = x := by
  cases f with
  | zero => rfl
  | succ f => rw [zm_up, if_pos h]
theorem zm_up_next {R : zm_TR} {f : Nat} {x : Int32} (hf : ¬ f = 0) (h : ¬ zb_isRest R x = 0) : zm_up R f x = zm_up R (f - 1) (x + 1) := by
  obtain ⟨g, rfl⟩ : ∃ g, f = g + 1 := ⟨f - 1, by omega⟩
  rw [zm_up, if_neg h]; rfl
theorem zm_dn_stop {R : zm_TR} {f : Nat} {x : Int32} (h : zb_isRest R x = 0) : zm_dn R f x = x := by
  cases f with
  | zero => rfl
  | succ f => rw [zm_dn, if_pos h]
theorem zm_dn_next {R : zm_TR} {f : Nat} {x : Int32} (hf : ¬ f = 0) (h : ¬ zb_isRest R x = 0) : zm_dn R f x = zm_dn R (f - 1) (x - 1) := by
  obtain ⟨g, rfl⟩ : ∃ g, f = g + 1 := ⟨f - 1, by omega⟩
  rw [zm_dn, if_neg h]; rfl

set_option maxHeartbeats 4000000 in
set_option maxRecDepth 100000 in
theorem c_M_due (l : Launch) (D : va_G) (G : zh_G) (hG : zw_apart (zm_adr G)) (T : zm_S) (Y : zm_Y) (wd : Int32) (j : Nat) (hj : j < 100000) (ej : zm_now T = nI j) (hdm : ∃ r, r ≤ 8 ∧ zm_rst T = nI r) : Met l ny_M_due (Cond.code ny_M_due nc_M_due 7 (some .boolean) :: zw_big) ({ frames := 3, cells := 0, slots := 0, locals := 64 } : Room) (zw_P [.ref (zh_mdl G), .int wd] D (zm_tys G) (zm_cells G T Y)) (zm_Qi D G (zm_due (zm_R T) j wd, T)) 0 0 (zm_Ad G) := by
  refine Met.ofW (cc := nc_M_due) (maxL := 7) (ret := (some .boolean)) (by decide) rfl ?_
  intro p e s m args below meth c s₁ B hml hv
  obtain ⟨rfl, hP, hK⟩ := hv
  have hx := B.exec
  have hb := B.bytes
  have hr := B.returns
  have hts0 := atoms_spec (ws := Cond.code ny_M_due nc_M_due 7 (some .boolean) :: zw_big) B.pre
  have hts : ∀ w ∈ zw_big, w.before [.ref (zh_mdl G), .int wd].toArray s = true := fun w h => hts0 w (List.mem_cons_of_mem _ h)
  have hown : s.vm.findClass nR_M = some m.cls := findClass_of_methodNamed B.named
  have hlk := B.notSynchronized
  have hS : va_S (zm_Ad G) s.heap s.heap [] := va_S.rf
  have hl := lv_entry ([.ref (zh_mdl G), .int wd]) (n := 7) (Nat.le_of_ble_eq_true rfl)
  rw [lg_entry_eq]
  generalize (lg_sl ([.ref (zh_mdl G), .int wd]) ++ List.replicate (7 - (lg_sl ([.ref (zh_mdl G), .int wd])).length) Slot.unset).toArray = ls at hl ⊢
  have hl : lv_has ls 7 [(0, .ref (zh_mdl G)), (1, .int wd)] := hl
  have hF : CallFix p m c nc_M_due 7 s [.ref (zh_mdl G), .int wd].toArray zw_big nR_M := ⟨hx, hb, hml, hown, hts⟩
  have hreal := zc_real (j := j) (by omega)
  refine lv_aload_n hx hb nd_M_due_0 rfl (zv_at hl 0 rfl) ?_
  refine lv_aload_n hx hb nd_M_due_1 rfl (zv_at hl 0 rfl) ?_
  refine zm_get hx hb hts hown hK hP 20 (by decide) (hts _ nw_487) rfl nd_M_due_2 ?_
  rw [ej]
  refine zm_vWy (As := [_]) (rest := _) hF (c_M_walk l D G hG _ _ j (by omega)) (zw_preV hP hK (q0 := 0) (ci := 6) rfl rfl rfl) nk_M_walk nw_646 ⟨rfl, rfl, Nat.le_of_ble_eq_true rfl, Nat.le_of_ble_eq_true rfl⟩ rfl hl.1 rfl (Nat.le_of_ble_eq_true rfl) ⟨Nat.zero_le _, Nat.zero_le _⟩ nd_M_due_5 hS (fun H locs hP hS => ?_)
  refine lv_aload_n hx hb nd_M_due_8 rfl (zv_at hl 0 rfl) ?_
  refine zm_get hx hb hts hown hK hP 20 (by decide) (hts _ nw_487) rfl nd_M_due_9 ?_
  refine lv_aload_n hx hb nd_M_due_12 rfl (zv_at hl 0 rfl) ?_
  refine zm_get hx hb hts hown hK hP 30 (by decide) (hts _ nw_497) rfl nd_M_due_13 ?_
  refine lv_isub hx hb nd_M_due_16 ?_
  refine lv_iconst (v := 1) hx hb nd_M_due_17 (by decide) ?_
  refine lv_iadd hx hb nd_M_due_18 ?_
  refine lv_topi (fun F eF => ?_)
  refine lv_istore_n hx hb nd_M_due_19 rfl hl (by decide) rfl (fun ls hl => ?_)
  refine lv_aload_n hx hb nd_M_due_20 rfl (zv_at hl 0 rfl) ?_
  refine zm_get hx hb hts hown hK hP 28 (by decide) (hts _ nw_495) rfl nd_M_due_21 ?_
  refine lv_aload_n hx hb nd_M_due_24 rfl (zv_at hl 0 rfl) ?_
  refine zm_get hx hb hts hown hK hP 29 (by decide) (hts _ nw_496) rfl nd_M_due_25 ?_
  refine zw_sR (As := [_, _]) (rest := _) hF (c_M_length l (zc_y j) (zc_m j) (by omega) (by omega)) zw_preN nk_M_length nw_653 ⟨rfl, rfl, Nat.le_of_ble_eq_true rfl, Nat.le_of_ble_eq_true rfl⟩ rfl hl.1 rfl (Nat.le_of_ble_eq_true rfl) ⟨Nat.zero_le _, Nat.zero_le _⟩ nd_M_due_28 ?_
  generalize hZ : zc_ml (zc_y j) (zc_m j) = Z
  refine lv_istore_n hx hb nd_M_due_31 rfl hl (by decide) rfl (fun ls hl => ?_)
  refine zw_cut (σ := Int32) 48 (fun x => []) (fun x H locs ls => x = F + (if nI Z ≤ wd then nI Z else wd) - 1 ∧ va_P D vwCl (zm_cells G T (zm_ymd j)) H ∧ va_S (zm_Ad G) s.heap H locs ∧ lv_has ls 7 [(0, .ref (zh_mdl G)), (2, .int F), (3, .int (nI Z)), (4, .int x)]) (fun d9 H locs ls hI9 => ?_) (fun hJ48 => ?_)
  · skip
    obtain ⟨hd9, hP, hS, hl⟩ := hI9
    have hF' : nI j - nI (zc_d j) + 1 = F := by rw [eF, ej]; rfl
    have e : zm_due (zm_R T) j wd = zm_due3 (zm_R T) (nI j) F (nI Z) d9 := by unfold zm_due zm_due2; rw [hZ, hF', ← hd9]
    refine zw_cut (σ := Int32) 131 (fun x => []) (fun x H locs ls => zm_dn (zm_R T) 40 d9 = x ∧ va_P D vwCl (zm_cells G T (zm_ymd j)) H ∧ va_S (zm_Ad G) s.heap H locs ∧ lv_has ls 7 [(0, .ref (zh_mdl G)), (4, .int x)] ∧ F + nI Z ≤ zm_up (zm_R T) 40 d9) (fun o9 H locs ls hI9 => ?_) (fun hJ131 => ?_)
    · skip
      obtain ⟨hE2, hP, hS, hl, hge⟩ := hI9
      refine lv_iload hx hb nd_M_due_131 (zv_at hl 4 rfl) ?_
      refine lv_aload_n hx hb nd_M_due_133 rfl (zv_at hl 0 rfl) ?_
      refine zm_get hx hb hts hown hK hP 20 (by decide) (hts _ nw_487) rfl nd_M_due_134 ?_
      refine lv_icmp_ne (tgt := 144) hx hb nd_M_due_137 (by decide) (fun h_137 => ?_) (fun h_137 => ?_)
      · skip
        refine lv_iconst (v := 0) hx hb nd_M_due_144 (by decide) ?_
        refine zm_zret hx hb hr hlk nd_M_due_145 hP hS (by decide) ?_
        rw [e]
        unfold zm_due3
        rw [if_pos hge, hE2, ← ej, if_neg h_137]
      · skip
        refine lv_iconst (v := 1) hx hb nd_M_due_140 (by decide) ?_
        refine lv_goto (tgt := 145) hx hb nd_M_due_141 (by decide) ?_
        refine zm_zret hx hb hr hlk nd_M_due_145 hP hS (by decide) ?_
        rw [e]
        unfold zm_due3
        rw [if_pos hge, hE2, ← ej, if_pos h_137]
    refine zw_cut (σ := Int32) 80 (fun x => []) (fun x H locs ls => zm_up (zm_R T) 40 d9 = x ∧ va_P D vwCl (zm_cells G T (zm_ymd j)) H ∧ va_S (zm_Ad G) s.heap H locs ∧ lv_has ls 7 [(0, .ref (zh_mdl G)), (2, .int F), (3, .int (nI Z)), (4, .int d9), (5, .int x)]) (fun o9 H locs ls hI9 => ?_) (fun hJ80 => ?_)
    · skip
      obtain ⟨hE, hP, hS, hl⟩ := hI9
      refine lv_iload hx hb nd_M_due_80 (zv_at hl 5 rfl) ?_
      refine lv_iload_n hx hb nd_M_due_82 rfl (zv_at hl 2 rfl) ?_
      refine lv_iload_n hx hb nd_M_due_83 rfl (zv_at hl 3 rfl) ?_
      refine lv_iadd hx hb nd_M_due_84 ?_
      refine lv_icmp_ge (tgt := 103) hx hb nd_M_due_85 (by decide) (fun h_85 => ?_) (fun h_85 => ?_)
      · skip
        have hge : F + nI Z ≤ zm_up (zm_R T) 40 d9 := by rw [hE]; exact h_85
        refine lv_iconst (v := 0) hx hb nd_M_due_103 (by decide) ?_
        refine lv_istore hx hb nd_M_due_104 hl (by decide) rfl (fun ls hl => ?_)
        refine zw_loop (σ := Int32) (fun f x H locs ls => f ≤ 40 ∧ zm_dn (zm_R T) 40 d9 = zm_dn (zm_R T) f x ∧ va_P D vwCl (zm_cells G T (zm_ymd j)) H ∧ va_S (zm_Ad G) s.heap H locs ∧ lv_has ls 7 [(0, .ref (zh_mdl G)), (2, .int F), (3, .int (nI Z)), (4, .int x), (6, .int (nI (40 - f)))]) ?_ 40 d9 ⟨by omega, rfl, hP, hS, zv_sub hl (by intro q hq; simp only [List.mem_cons, List.not_mem_nil, or_false] at hq; rcases hq with rfl | rfl | rfl | rfl | rfl <;> rfl)⟩
        intro f x9 H locs ls hI9 ih
        obtain ⟨hf40, hE2, hP, hS, hl⟩ := hI9
        refine lv_iload hx hb nd_M_due_106 (zv_at hl 6 rfl) ?_
        refine lv_bipush (v := 40) hx hb nd_M_due_108 (by decide) ?_
        refine lv_icmp_ge (tgt := 131) hx hb nd_M_due_110 (by decide) (fun h_110 => ?_) (fun h_110 => ?_)
        · skip
          have hf0 : f = 0 := by
            have := (nI_leI (a := 40) (b := 40 - f) (by omega) (by omega)).mp h_110
            omega
          exact hJ131 x9 _ _ _ ⟨by rw [hE2, hf0]; rfl, hP, hS, zv_sub hl (by intro q hq; simp only [List.mem_cons, List.not_mem_nil, or_false] at hq; rcases hq with rfl | rfl <;> rfl), hge⟩
        · skip
          have hf0 : ¬ f = 0 := fun q => h_110 (nI_le (a := 40) (b := 40 - f) (by omega) (by omega))
          refine lv_aload_n hx hb nd_M_due_113 rfl (zv_at hl 0 rfl) ?_
          refine lv_iload hx hb nd_M_due_114 (zv_at hl 4 rfl) ?_
          refine zw_vR (As := [_]) (rest := _) hF (c_M_resting l D G _ _ _ (by exact hdm)) (zw_preV hP hK (q0 := 0) (ci := 6) rfl rfl rfl) nk_M_resting nw_638 ⟨rfl, rfl, Nat.le_of_ble_eq_true rfl, Nat.le_of_ble_eq_true rfl⟩ rfl hl.1 rfl (Nat.le_of_ble_eq_true rfl) ⟨Nat.zero_le _, Nat.zero_le _⟩ nd_M_due_116 ?_
          refine lv_if_eq (tgt := 131) hx hb nd_M_due_119 (by decide) (fun h_119 => ?_) (fun h_119 => ?_)
          · skip
            exact hJ131 x9 _ _ _ ⟨by rw [hE2, zm_dn_stop h_119], hP, hS, zv_sub hl (by intro q hq; simp only [List.mem_cons, List.not_mem_nil, or_false] at hq; rcases hq with rfl | rfl <;> rfl), hge⟩
          · skip
            refine zv_iinc (v := x9 - 1) hx hb nd_M_due_122 hl rfl (by rw [show (Int32.ofInt (-1)) = -1 by decide, Int32.sub_eq_add_neg]) (by decide) rfl (fun ls hl => ?_)
            refine zv_iinc (v := nI (40 - (f - 1))) hx hb nd_M_due_125 hl rfl (by rw [show 40 - (f - 1) = 40 - f + 1 by omega]; exact (nI_succ _).symm) (by decide) rfl (fun ls hl => ?_)
            refine lv_goto (tgt := 106) hx hb nd_M_due_128 (by decide) ?_
            exact ih (f - 1) (x9 - 1) _ _ _ (by omega) ⟨by omega, hE2.trans (zm_dn_next hf0 h_119), hP, hS, zv_sub hl (by intro q hq; simp only [List.mem_cons, List.not_mem_nil, or_false] at hq; rcases hq with rfl | rfl | rfl | rfl | rfl <;> rfl)⟩
      · skip
        refine lv_iload hx hb nd_M_due_88 (zv_at hl 5 rfl) ?_
        refine lv_aload_n hx hb nd_M_due_90 rfl (zv_at hl 0 rfl) ?_
        refine zm_get hx hb hts hown hK hP 20 (by decide) (hts _ nw_487) rfl nd_M_due_91 ?_
        refine lv_icmp_ne (tgt := 101) hx hb nd_M_due_94 (by decide) (fun h_94 => ?_) (fun h_94 => ?_)
        · skip
          refine lv_iconst (v := 0) hx hb nd_M_due_101 (by decide) ?_
          refine zm_zret hx hb hr hlk nd_M_due_102 hP hS (by decide) ?_
          rw [e]
          unfold zm_due3
          rw [if_neg (show ¬ F + nI Z ≤ zm_up (zm_R T) 40 d9 by rw [hE]; exact h_85), hE, ← ej, if_neg h_94]
        · skip
          refine lv_iconst (v := 1) hx hb nd_M_due_97 (by decide) ?_
          refine lv_goto (tgt := 102) hx hb nd_M_due_98 (by decide) ?_
          refine zm_zret hx hb hr hlk nd_M_due_102 hP hS (by decide) ?_
          rw [e]
          unfold zm_due3
          rw [if_neg (show ¬ F + nI Z ≤ zm_up (zm_R T) 40 d9 by rw [hE]; exact h_85), hE, ← ej, if_pos h_94]
    refine lv_iload hx hb nd_M_due_48 (zv_at hl 4 rfl) ?_
    refine lv_istore hx hb nd_M_due_50 hl (by decide) rfl (fun ls hl => ?_)
    refine lv_iconst (v := 0) hx hb nd_M_due_52 (by decide) ?_
    refine lv_istore hx hb nd_M_due_53 hl (by decide) rfl (fun ls hl => ?_)
    refine zw_loop (σ := Int32) (fun f x H locs ls => f ≤ 40 ∧ zm_up (zm_R T) 40 d9 = zm_up (zm_R T) f x ∧ va_P D vwCl (zm_cells G T (zm_ymd j)) H ∧ va_S (zm_Ad G) s.heap H locs ∧ lv_has ls 7 [(0, .ref (zh_mdl G)), (2, .int F), (3, .int (nI Z)), (4, .int d9), (5, .int x), (6, .int (nI (40 - f)))]) ?_ 40 d9 ⟨by omega, rfl, hP, hS, zv_sub hl (by intro q hq; simp only [List.mem_cons, List.not_mem_nil, or_false] at hq; rcases hq with rfl | rfl | rfl | rfl | rfl | rfl <;> rfl)⟩
    intro f x9 H locs ls hI9 ih
    obtain ⟨hf40, hE, hP, hS, hl⟩ := hI9
    refine lv_iload hx hb nd_M_due_55 (zv_at hl 6 rfl) ?_
    refine lv_bipush (v := 40) hx hb nd_M_due_57 (by decide) ?_
    refine lv_icmp_ge (tgt := 80) hx hb nd_M_due_59 (by decide) (fun h_59 => ?_) (fun h_59 => ?_)
    · skip
      have hf0 : f = 0 := by
        have := (nI_leI (a := 40) (b := 40 - f) (by omega) (by omega)).mp h_59
        omega
      exact hJ80 x9 _ _ _ ⟨by rw [hE, hf0]; rfl, hP, hS, zv_sub hl (by intro q hq; simp only [List.mem_cons, List.not_mem_nil, or_false] at hq; rcases hq with rfl | rfl | rfl | rfl | rfl <;> rfl)⟩
    · skip
      have hf0 : ¬ f = 0 := fun q => h_59 (nI_le (a := 40) (b := 40 - f) (by omega) (by omega))
      refine lv_aload_n hx hb nd_M_due_62 rfl (zv_at hl 0 rfl) ?_
      refine lv_iload hx hb nd_M_due_63 (zv_at hl 5 rfl) ?_
      refine zw_vR (As := [_]) (rest := _) hF (c_M_resting l D G _ _ _ (by exact hdm)) (zw_preV hP hK (q0 := 0) (ci := 6) rfl rfl rfl) nk_M_resting nw_638 ⟨rfl, rfl, Nat.le_of_ble_eq_true rfl, Nat.le_of_ble_eq_true rfl⟩ rfl hl.1 rfl (Nat.le_of_ble_eq_true rfl) ⟨Nat.zero_le _, Nat.zero_le _⟩ nd_M_due_65 ?_
      refine lv_if_eq (tgt := 80) hx hb nd_M_due_68 (by decide) (fun h_68 => ?_) (fun h_68 => ?_)
      · skip
        exact hJ80 x9 _ _ _ ⟨by rw [hE, zm_up_stop h_68], hP, hS, zv_sub hl (by intro q hq; simp only [List.mem_cons, List.not_mem_nil, or_false] at hq; rcases hq with rfl | rfl | rfl | rfl | rfl <;> rfl)⟩
      · skip
        refine zv_iinc (v := x9 + 1) hx hb nd_M_due_71 hl rfl (rfl) (by decide) rfl (fun ls hl => ?_)
        refine zv_iinc (v := nI (40 - (f - 1))) hx hb nd_M_due_74 hl rfl (by rw [show 40 - (f - 1) = 40 - f + 1 by omega]; exact (nI_succ _).symm) (by decide) rfl (fun ls hl => ?_)
        refine lv_goto (tgt := 55) hx hb nd_M_due_77 (by decide) ?_
        exact ih (f - 1) (x9 + 1) _ _ _ (by omega) ⟨by omega, hE.trans (zm_up_next hf0 h_68), hP, hS, zv_sub hl (by intro q hq; simp only [List.mem_cons, List.not_mem_nil, or_false] at hq; rcases hq with rfl | rfl | rfl | rfl | rfl | rfl <;> rfl)⟩
  refine lv_iload_n hx hb nd_M_due_32 rfl (zv_at hl 2 rfl) ?_
  refine lv_iload_n hx hb nd_M_due_33 rfl (zv_at hl 1 rfl) ?_
  refine lv_iload_n hx hb nd_M_due_34 rfl (zv_at hl 3 rfl) ?_
  refine lv_icmp_ge (tgt := 42) hx hb nd_M_due_35 (by decide) (fun h_35 => ?_) (fun h_35 => ?_)
  · skip
    refine lv_iload_n hx hb nd_M_due_42 rfl (zv_at hl 3 rfl) ?_
    refine lv_iadd hx hb nd_M_due_43 ?_
    refine lv_iconst (v := 1) hx hb nd_M_due_44 (by decide) ?_
    refine lv_isub hx hb nd_M_due_45 ?_
    refine lv_istore hx hb nd_M_due_46 hl (by decide) rfl (fun ls hl => ?_)
    exact hJ48 _ _ _ _ ⟨by rw [if_pos h_35], hP, hS, zv_sub hl (by intro q hq; simp only [List.mem_cons, List.not_mem_nil, or_false] at hq; rcases hq with rfl | rfl | rfl | rfl <;> rfl)⟩
  · skip
    refine lv_iload_n hx hb nd_M_due_38 rfl (zv_at hl 1 rfl) ?_
    refine lv_goto (tgt := 43) hx hb nd_M_due_39 (by decide) ?_
    refine lv_iadd hx hb nd_M_due_43 ?_
    refine lv_iconst (v := 1) hx hb nd_M_due_44 (by decide) ?_
    refine lv_isub hx hb nd_M_due_45 ?_
    refine lv_istore hx hb nd_M_due_46 hl (by decide) rfl (fun ls hl => ?_)
    exact hJ48 _ _ _ _ ⟨by rw [if_neg h_35], hP, hS, zv_sub hl (by intro q hq; simp only [List.mem_cons, List.not_mem_nil, or_false] at hq; rcases hq with rfl | rfl | rfl | rfl <;> rfl)⟩

set_option maxHeartbeats 4000000 in
set_option maxRecDepth 100000 in
theorem c_M_later (l : Launch) (D : va_G) (G : zh_G) (hG : zw_apart (zm_adr G)) (T : zm_S) (Y : zm_Y) (j : Nat) (hj : j < 100000) (ej : zm_now T = nI j) (q : Nat) (hq : q < 100000) : Met l ny_M_later (Cond.code ny_M_later nc_M_later 3 (some .boolean) :: zw_big) ({ frames := 3, cells := 0, slots := 0, locals := 64 } : Room) (zw_P [.ref (zh_mdl G), .int (nI q)] D (zm_tys G) (zm_cells G T Y)) (zm_Qi D G (zm_later j q, T)) 0 0 (zm_Ad G) := by
  refine Met.ofW (cc := nc_M_later) (maxL := 3) (ret := (some .boolean)) (by decide) rfl ?_
  intro p e s m args below meth c s₁ B hml hv
  obtain ⟨rfl, hP, hK⟩ := hv
  have hx := B.exec
  have hb := B.bytes
  have hr := B.returns
  have hts0 := atoms_spec (ws := Cond.code ny_M_later nc_M_later 3 (some .boolean) :: zw_big) B.pre
  have hts : ∀ w ∈ zw_big, w.before [.ref (zh_mdl G), .int (nI q)].toArray s = true := fun w h => hts0 w (List.mem_cons_of_mem _ h)
  have hown : s.vm.findClass nR_M = some m.cls := findClass_of_methodNamed B.named
  have hlk := B.notSynchronized
  have hS : va_S (zm_Ad G) s.heap s.heap [] := va_S.rf
  have hl := lv_entry ([.ref (zh_mdl G), .int (nI q)]) (n := 3) (Nat.le_of_ble_eq_true rfl)
  rw [lg_entry_eq]
  generalize (lg_sl ([.ref (zh_mdl G), .int (nI q)]) ++ List.replicate (3 - (lg_sl ([.ref (zh_mdl G), .int (nI q)])).length) Slot.unset).toArray = ls at hl ⊢
  have hl : lv_has ls 3 [(0, .ref (zh_mdl G)), (1, .int (nI q))] := hl
  have hF : CallFix p m c nc_M_later 3 s [.ref (zh_mdl G), .int (nI q)].toArray zw_big nR_M := ⟨hx, hb, hml, hown, hts⟩
  refine lv_aload_n hx hb nd_M_later_0 rfl (zv_at hl 0 rfl) ?_
  refine lv_aload_n hx hb nd_M_later_1 rfl (zv_at hl 0 rfl) ?_
  refine zm_get hx hb hts hown hK hP 20 (by decide) (hts _ nw_487) rfl nd_M_later_2 ?_
  rw [ej]
  refine zm_vWy (As := [_]) (rest := _) hF (c_M_walk l D G hG _ _ j (by omega)) (zw_preV hP hK (q0 := 0) (ci := 6) rfl rfl rfl) nk_M_walk nw_646 ⟨rfl, rfl, Nat.le_of_ble_eq_true rfl, Nat.le_of_ble_eq_true rfl⟩ rfl hl.1 rfl (Nat.le_of_ble_eq_true rfl) ⟨Nat.zero_le _, Nat.zero_le _⟩ nd_M_later_5 hS (fun H locs hP hS => ?_)
  refine lv_bipush (v := 12) hx hb nd_M_later_8 (by decide) ?_
  refine lv_aload_n hx hb nd_M_later_10 rfl (zv_at hl 0 rfl) ?_
  refine zm_get hx hb hts hown hK hP 28 (by decide) (hts _ nw_495) rfl nd_M_later_11 ?_
  refine lv_imul hx hb nd_M_later_14 ?_
  refine lv_aload_n hx hb nd_M_later_15 rfl (zv_at hl 0 rfl) ?_
  refine zm_get hx hb hts hown hK hP 29 (by decide) (hts _ nw_496) rfl nd_M_later_16 ?_
  refine lv_iadd hx hb nd_M_later_19 ?_
  refine lv_istore_n hx hb nd_M_later_20 rfl hl (by decide) rfl (fun ls hl => ?_)
  refine lv_aload_n hx hb nd_M_later_21 rfl (zv_at hl 0 rfl) ?_
  refine lv_iload_n hx hb nd_M_later_22 rfl (zv_at hl 1 rfl) ?_
  refine zm_vWy (As := [_]) (rest := _) hF (c_M_walk l D G hG _ _ q (by omega)) (zw_preV hP hK (q0 := 0) (ci := 6) rfl rfl rfl) nk_M_walk nw_646 ⟨rfl, rfl, Nat.le_of_ble_eq_true rfl, Nat.le_of_ble_eq_true rfl⟩ rfl hl.1 rfl (Nat.le_of_ble_eq_true rfl) ⟨Nat.zero_le _, Nat.zero_le _⟩ nd_M_later_23 hS (fun H locs hP hS => ?_)
  refine lv_bipush (v := 12) hx hb nd_M_later_26 (by decide) ?_
  refine lv_aload_n hx hb nd_M_later_28 rfl (zv_at hl 0 rfl) ?_
  refine zm_get hx hb hts hown hK hP 28 (by decide) (hts _ nw_495) rfl nd_M_later_29 ?_
  refine lv_imul hx hb nd_M_later_32 ?_
  refine lv_aload_n hx hb nd_M_later_33 rfl (zv_at hl 0 rfl) ?_
  refine zm_get hx hb hts hown hK hP 29 (by decide) (hts _ nw_496) rfl nd_M_later_34 ?_
  refine lv_iadd hx hb nd_M_later_37 ?_
  refine lv_iload_n hx hb nd_M_later_38 rfl (zv_at hl 2 rfl) ?_
  refine lv_icmp_le (tgt := 46) hx hb nd_M_later_39 (by decide) (fun h_39 => ?_) (fun h_39 => ?_)
  · skip
    refine lv_iconst (v := 0) hx hb nd_M_later_46 (by decide) ?_
    refine zm_zret hx hb hr hlk nd_M_later_47 hP hS (by decide) ?_
    unfold zm_later
    rw [if_pos (show zm_mon12 q ≤ zm_mon12 j from h_39)]
  · skip
    refine lv_iconst (v := 1) hx hb nd_M_later_42 (by decide) ?_
    refine lv_goto (tgt := 47) hx hb nd_M_later_43 (by decide) ?_
    refine zm_zret hx hb hr hlk nd_M_later_47 hP hS (by decide) ?_
    unfold zm_later
    rw [if_neg (show ¬ zm_mon12 q ≤ zm_mon12 j from h_39)]

set_option maxHeartbeats 4000000 in
set_option maxRecDepth 100000 in
theorem c_M_rest (l : Launch) (D : va_G) (G : zh_G) (hG : zw_apart (zm_adr G)) (T : zm_S) (Y : zm_Y) (x : Int32) (j : Nat) (hj : j < 100000) (ej : zm_now T = nI j) (hI : zm_I T) : Met l ny_M_rest (Cond.code ny_M_rest nc_M_rest 2 (some .int) :: zw_big) ({ frames := 4, cells := 0, slots := 0, locals := 86 } : Room) (zw_P [.ref (zh_mdl G), .int x] D (zm_tys G) (zm_cells G T Y)) (zm_Qi D G (zm_rest T j x)) 0 0 (zm_Ad G) := by
  refine Met.ofW (cc := nc_M_rest) (maxL := 2) (ret := (some .int)) (by decide) rfl ?_
  intro p e s m args below meth c s₁ B hml hv
  obtain ⟨rfl, hP, hK⟩ := hv
  have hx := B.exec
  have hb := B.bytes
  have hr := B.returns
  have hts0 := atoms_spec (ws := Cond.code ny_M_rest nc_M_rest 2 (some .int) :: zw_big) B.pre
  have hts : ∀ w ∈ zw_big, w.before [.ref (zh_mdl G), .int x].toArray s = true := fun w h => hts0 w (List.mem_cons_of_mem _ h)
  have hown : s.vm.findClass nR_M = some m.cls := findClass_of_methodNamed B.named
  have hlk := B.notSynchronized
  have hS : va_S (zm_Ad G) s.heap s.heap [] := va_S.rf
  have hl := lv_entry ([.ref (zh_mdl G), .int x]) (n := 2) (Nat.le_of_ble_eq_true rfl)
  rw [lg_entry_eq]
  generalize (lg_sl ([.ref (zh_mdl G), .int x]) ++ List.replicate (2 - (lg_sl ([.ref (zh_mdl G), .int x])).length) Slot.unset).toArray = ls at hl ⊢
  have hl : lv_has ls 2 [(0, .ref (zh_mdl G)), (1, .int x)] := hl
  have hF : CallFix p m c nc_M_rest 2 s [.ref (zh_mdl G), .int x].toArray zw_big nR_M := ⟨hx, hb, hml, hown, hts⟩
  have hdm := hI.2.2.1
  refine lv_aload_n hx hb nd_M_rest_0 rfl (zv_at hl 0 rfl) ?_
  refine zw_vR (As := []) (rest := _) hF (c_M_shut l D G _ _) (zw_preV hP hK (q0 := 0) (ci := 6) rfl rfl rfl) nk_M_shut nw_565 ⟨rfl, rfl, Nat.le_of_ble_eq_true rfl, Nat.le_of_ble_eq_true rfl⟩ rfl hl.1 rfl (Nat.le_of_ble_eq_true rfl) ⟨Nat.zero_le _, Nat.zero_le _⟩ nd_M_rest_1 ?_
  refine lv_if_eq (tgt := 12) hx hb nd_M_rest_4 (by decide) (fun h_4 => ?_) (fun h_4 => ?_)
  · skip
    refine lv_iload_n hx hb nd_M_rest_12 rfl (zv_at hl 1 rfl) ?_
    refine lv_if_lt (tgt := 39) hx hb nd_M_rest_13 (by decide) (fun h_13 => ?_) (fun h_13 => ?_)
    · skip
      refine lv_bipush (v := -3) hx hb nd_M_rest_39 (by decide) ?_
      refine zm_iret hx hb hr hlk nd_M_rest_41 hP hS ?_
      unfold zm_rest
      rw [if_pos h_4]
      rw [if_pos h_13]
      all_goals rfl
    · skip
      refine lv_iload_n hx hb nd_M_rest_16 rfl (zv_at hl 1 rfl) ?_
      refine lv_sipush (v := 20000) hx hb nd_M_rest_17 (by decide) ?_
      refine lv_icmp_gt (tgt := 39) hx hb nd_M_rest_20 (by decide) (fun h_20 => ?_) (fun h_20 => ?_)
      · skip
        refine lv_bipush (v := -3) hx hb nd_M_rest_39 (by decide) ?_
        refine zm_iret hx hb hr hlk nd_M_rest_41 hP hS ?_
        unfold zm_rest
        rw [if_pos h_4]
        rw [if_neg h_13]
        rw [if_pos h_20]
        all_goals rfl
      · skip
        obtain ⟨q, hq, rfl⟩ : ∃ q : Nat, q ≤ 20000 ∧ x = nI q := by
          obtain ⟨q, hq, rfl⟩ := nI_of h_13
          exact ⟨q, Nat.le_of_not_lt fun z => h_20 (nI_lt (a := 20000) z hq), rfl⟩
        refine lv_aload_n hx hb nd_M_rest_23 rfl (zv_at hl 0 rfl) ?_
        refine lv_iload_n hx hb nd_M_rest_24 rfl (zv_at hl 1 rfl) ?_
        refine zw_vR (As := [_]) (rest := _) hF (c_M_resting l D G _ _ _ (by exact hdm)) (zw_preV hP hK (q0 := 0) (ci := 6) rfl rfl rfl) nk_M_resting nw_638 ⟨rfl, rfl, Nat.le_of_ble_eq_true rfl, Nat.le_of_ble_eq_true rfl⟩ rfl hl.1 rfl (Nat.le_of_ble_eq_true rfl) ⟨Nat.zero_le _, Nat.zero_le _⟩ nd_M_rest_25 ?_
        refine lv_if_ne (tgt := 39) hx hb nd_M_rest_28 (by decide) (fun h_28 => ?_) (fun h_28 => ?_)
        · skip
          refine lv_bipush (v := -3) hx hb nd_M_rest_39 (by decide) ?_
          refine zm_iret hx hb hr hlk nd_M_rest_41 hP hS ?_
          unfold zm_rest
          rw [if_pos h_4]
          rw [if_neg h_13]
          rw [if_neg h_20]
          rw [nI_clamp (by omega)]
          unfold zm_restC
          rw [if_neg h_28]
          all_goals rfl
        · skip
          refine lv_aload_n hx hb nd_M_rest_31 rfl (zv_at hl 0 rfl) ?_
          refine lv_iload_n hx hb nd_M_rest_32 rfl (zv_at hl 1 rfl) ?_
          refine zm_vWi (As := [_]) (rest := _) hF (c_M_later l D G hG _ _ j hj (by exact ej) _ (by omega)) (zw_preV hP hK (q0 := 0) (ci := 6) rfl rfl rfl) nk_M_later nw_642 ⟨rfl, rfl, Nat.le_of_ble_eq_true rfl, Nat.le_of_ble_eq_true rfl⟩ rfl hl.1 rfl (Nat.le_of_ble_eq_true rfl) ⟨Nat.zero_le _, Nat.zero_le _⟩ nd_M_rest_33 hS (fun Y H locs hP hS => ?_)
          refine lv_if_ne (tgt := 42) hx hb nd_M_rest_36 (by decide) (fun h_36 => ?_) (fun h_36 => ?_)
          · skip
            refine lv_aload_n hx hb nd_M_rest_42 rfl (zv_at hl 0 rfl) ?_
            refine zm_get hx hb hts hown hK hP 16 (by decide) (hts _ nw_483) rfl nd_M_rest_43 ?_
            refine lv_bipush (v := 8) hx hb nd_M_rest_46 (by decide) ?_
            refine lv_icmp_ne (tgt := 54) hx hb nd_M_rest_48 (by decide) (fun h_48 => ?_) (fun h_48 => ?_)
            · skip
              have hv8 : vp_in (zm_rst T) 8 := by
                obtain ⟨r, hr8, er⟩ := hI.2.2.1
                have : ¬ r = 8 := fun z => h_48 (by show zm_rst T = 8; rw [er, z]; rfl)
                rw [er]; exact vp_in_nI (by omega) (by decide)
              refine lv_aload_n hx hb nd_M_rest_54 rfl (zv_at hl 0 rfl) ?_
              refine lv_iconst (v := 0) hx hb nd_M_rest_55 (by decide) ?_
              refine lv_iconst (v := 0) hx hb nd_M_rest_56 (by decide) ?_
              refine zm_vWi (As := [_, _]) (rest := _) hF (c_M_comes l D G hG _ _ _ _) (zw_preV hP hK (q0 := 0) (ci := 6) rfl rfl rfl) nk_M_comes nw_570 ⟨rfl, rfl, Nat.le_of_ble_eq_true rfl, Nat.le_of_ble_eq_true rfl⟩ rfl hl.1 rfl (Nat.le_of_ble_eq_true rfl) ⟨Nat.zero_le _, Nat.zero_le _⟩ nd_M_rest_57 hS (fun Y H locs hP hS => ?_)
              refine lv_if_ne (tgt := 65) hx hb nd_M_rest_60 (by decide) (fun h_60 => ?_) (fun h_60 => ?_)
              · skip
                refine lv_aload_n hx hb nd_M_rest_65 rfl (zv_at hl 0 rfl) ?_
                refine zm_get hx hb hts hown hK hP 17 (by decide) (hts _ nw_484) rfl nd_M_rest_66 ?_
                refine lv_aload_n hx hb nd_M_rest_69 rfl (zv_at hl 0 rfl) ?_
                refine zm_get hx hb hts hown hK hP 16 (by decide) (hts _ nw_483) rfl nd_M_rest_70 ?_
                refine lv_iload_n hx hb nd_M_rest_73 rfl (zv_at hl 1 rfl) ?_
                refine zm_ast_dat hx hb hK hG hP hS (by exact hv8) nd_M_rest_74 (fun H locs hP hS => ?_)
                refine lv_aload_n hx hb nd_M_rest_75 rfl (zv_at hl 0 rfl) ?_
                refine lv_dup hx hb nd_M_rest_76 rfl ?_
                refine zm_get hx hb hts hown hK hP 16 (by decide) (hts _ nw_483) rfl nd_M_rest_77 ?_
                refine lv_iconst (v := 1) hx hb nd_M_rest_80 (by decide) ?_
                refine lv_iadd hx hb nd_M_rest_81 ?_
                refine zm_put_rst hx hb hts hown hK hG hP hS (hts _ nw_483) nd_M_rest_82 (fun H locs hP hS => ?_)
                refine lv_iconst (v := 0) hx hb nd_M_rest_85 (by decide) ?_
                refine zm_iret hx hb hr hlk nd_M_rest_86 hP hS ?_
                unfold zm_rest
                rw [if_pos h_4]
                rw [if_neg h_13]
                rw [if_neg h_20]
                rw [nI_clamp (by omega)]
                unfold zm_restC
                rw [if_pos h_28]
                rw [if_neg h_36]
                rw [if_neg (show ¬ zm_rst T = 8 from h_48)]
                dsimp only
                rw [if_neg h_60]
                all_goals rfl
              · skip
                refine lv_iconst (v := -1) hx hb nd_M_rest_63 (by decide) ?_
                refine zm_iret hx hb hr hlk nd_M_rest_64 hP hS ?_
                unfold zm_rest
                rw [if_pos h_4]
                rw [if_neg h_13]
                rw [if_neg h_20]
                rw [nI_clamp (by omega)]
                unfold zm_restC
                rw [if_pos h_28]
                rw [if_neg h_36]
                rw [if_neg (show ¬ zm_rst T = 8 from h_48)]
                dsimp only
                rw [if_pos h_60]
                all_goals rfl
            · skip
              refine lv_bipush (v := -4) hx hb nd_M_rest_51 (by decide) ?_
              refine zm_iret hx hb hr hlk nd_M_rest_53 hP hS ?_
              unfold zm_rest
              rw [if_pos h_4]
              rw [if_neg h_13]
              rw [if_neg h_20]
              rw [nI_clamp (by omega)]
              unfold zm_restC
              rw [if_pos h_28]
              rw [if_neg h_36]
              rw [if_pos (show zm_rst T = 8 from h_48)]
              all_goals rfl
          · skip
            refine lv_bipush (v := -3) hx hb nd_M_rest_39 (by decide) ?_
            refine zm_iret hx hb hr hlk nd_M_rest_41 hP hS ?_
            unfold zm_rest
            rw [if_pos h_4]
            rw [if_neg h_13]
            rw [if_neg h_20]
            rw [nI_clamp (by omega)]
            unfold zm_restC
            rw [if_pos h_28]
            rw [if_pos h_36]
            all_goals rfl
  · skip
    refine lv_aload_n hx hb nd_M_rest_7 rfl (zv_at hl 0 rfl) ?_
    refine zw_vR (As := []) (rest := _) hF (c_M_shut l D G _ _) (zw_preV hP hK (q0 := 0) (ci := 6) rfl rfl rfl) nk_M_shut nw_565 ⟨rfl, rfl, Nat.le_of_ble_eq_true rfl, Nat.le_of_ble_eq_true rfl⟩ rfl hl.1 rfl (Nat.le_of_ble_eq_true rfl) ⟨Nat.zero_le _, Nat.zero_le _⟩ nd_M_rest_8 ?_
    refine zm_iret hx hb hr hlk nd_M_rest_11 hP hS ?_
    unfold zm_rest
    rw [if_neg h_4]
    all_goals rfl
