theorem zm_whole_ne (T : zm_S) (i : Nat) : ¬ zm_whole T i = 0 := by
  unfold zm_whole
  split <;> decide
def zm_upV (x u : Int64) : Int32 := if 2 * zm_r0 x u ≤ u then (if 2 * zm_r0 x u = u then (if zm_q0 x u &&& 1 = 1 then 1 else 0) else 0) else 1
theorem zm_round_eq (x u : Int64) : zm_round x u = if zm_upV x u = 0 then zm_q0 x u else zm_q0 x u + 1 := by
  unfold zm_round zm_upV
  by_cases h1 : 2 * zm_r0 x u ≤ u
  · rw [if_pos h1, if_pos h1]
    by_cases h2 : 2 * zm_r0 x u = u
    · rw [if_pos h2, if_pos h2]
      by_cases h3 : zm_q0 x u &&& 1 = 1
      · rw [if_pos h3, if_pos h3, if_neg (show ¬ (1 : Int32) = 0 by decide)]
      · rw [if_neg h3, if_neg h3, if_pos rfl]
    · rw [if_neg h2, if_neg h2, if_pos rfl]
  · rw [if_neg h1, if_neg h1, if_neg (show ¬ (1 : Int32) = 0 by decide)]

set_option maxHeartbeats 4000000 in
set_option maxRecDepth 100000 in
theorem c_M_grow (l : Launch) (D : va_G) (G : zh_G) (hG : zw_apart (zm_adr G)) (T : zm_S) (Y : zm_Y) (j : Nat) (hj : j < 99999) (ej : zm_now T = nI j) (hI : zm_I T) (i : Nat) (hi : i < 6) : Met l ny_M_grow (Cond.code ny_M_grow nc_M_grow 9 none :: zw_big) ({ frames := 4, cells := 0, slots := 0, locals := 91 } : Room) (zw_P [.ref (zh_mdl G), .int (nI i)] D (zm_tys G) (zm_cells G T Y)) (zm_Qv D G (zm_grow T j i)) 0 0 (zm_Ad G) := by
  refine Met.ofW (cc := nc_M_grow) (maxL := 9) (ret := none) (by decide) rfl ?_
  intro p e s m args below meth c s₁ B hml hv
  obtain ⟨rfl, hP, hK⟩ := hv
  have hx := B.exec
  have hb := B.bytes
  have hr := B.returns
  have hts0 := atoms_spec (ws := Cond.code ny_M_grow nc_M_grow 9 none :: zw_big) B.pre
  have hts : ∀ w ∈ zw_big, w.before [.ref (zh_mdl G), .int (nI i)].toArray s = true := fun w h => hts0 w (List.mem_cons_of_mem _ h)
  have hown : s.vm.findClass nR_M = some m.cls := findClass_of_methodNamed B.named
  have hlk := B.notSynchronized
  have hS : va_S (zm_Ad G) s.heap s.heap [] := va_S.rf
  have hl := lv_entry ([.ref (zh_mdl G), .int (nI i)]) (n := 9) (Nat.le_of_ble_eq_true rfl)
  rw [lg_entry_eq]
  generalize (lg_sl ([.ref (zh_mdl G), .int (nI i)]) ++ List.replicate (9 - (lg_sl ([.ref (zh_mdl G), .int (nI i)])).length) Slot.unset).toArray = ls at hl ⊢
  have hl : lv_has ls 9 [(0, .ref (zh_mdl G)), (1, .int (nI i))] := hl
  have hF : CallFix p m c nc_M_grow 9 s [.ref (zh_mdl G), .int (nI i)].toArray zw_big nR_M := ⟨hx, hb, hml, hown, hts⟩
  have hreal := zc_real (j := j) (by omega)
  have hml := zc_ml_le (zc_y j) (zc_m j)
  refine lv_aload_n hx hb nd_M_grow_0 rfl (zv_at hl 0 rfl) ?_
  refine zm_get hx hb hts hown hK hP 7 (by decide) (hts _ nw_474) rfl nd_M_grow_1 ?_
  refine lv_iload_n hx hb nd_M_grow_4 rfl (zv_at hl 1 rfl) ?_
  refine lv_dup2_11 hx hb nd_M_grow_5 rfl rfl ?_
  refine zm_aldN_acr hx hb hK hP (by assumption) nd_M_grow_6 ?_
  refine lv_aload_n hx hb nd_M_grow_7 rfl (zv_at hl 0 rfl) ?_
  refine zm_get hx hb hts hown hK hP 6 (by decide) (hts _ nw_473) rfl nd_M_grow_8 ?_
  refine lv_iload_n hx hb nd_M_grow_11 rfl (zv_at hl 1 rfl) ?_
  refine zm_aldN_mon hx hb hK hP (by assumption) nd_M_grow_12 ?_
  refine lv_aload_n hx hb nd_M_grow_13 rfl (zv_at hl 0 rfl) ?_
  refine zm_get hx hb hts hown hK hP 4 (by decide) (hts _ nw_471) rfl nd_M_grow_14 ?_
  refine lv_iload_n hx hb nd_M_grow_17 rfl (zv_at hl 1 rfl) ?_
  refine zm_aldN_rat hx hb hK hP (by assumption) nd_M_grow_18 ?_
  refine lv_i2l (v := _) hx hb nd_M_grow_19 rfl ?_
  refine lv_lmul hx hb nd_M_grow_20 ?_
  refine lv_aload_n hx hb nd_M_grow_21 rfl (zv_at hl 0 rfl) ?_
  refine lv_aload_n hx hb nd_M_grow_22 rfl (zv_at hl 0 rfl) ?_
  refine zm_get hx hb hts hown hK hP 2 (by decide) (hts _ nw_469) rfl nd_M_grow_23 ?_
  refine lv_iload_n hx hb nd_M_grow_26 rfl (zv_at hl 1 rfl) ?_
  refine zm_aldN_bas hx hb hK hP (by assumption) nd_M_grow_27 ?_
  refine lv_aload_n hx hb nd_M_grow_28 rfl (zv_at hl 0 rfl) ?_
  refine zm_get hx hb hts hown hK hP 20 (by decide) (hts _ nw_487) rfl nd_M_grow_29 ?_
  refine lv_aload_n hx hb nd_M_grow_32 rfl (zv_at hl 0 rfl) ?_
  refine zm_get hx hb hts hown hK hP 20 (by decide) (hts _ nw_487) rfl nd_M_grow_33 ?_
  refine lv_iconst (v := 1) hx hb nd_M_grow_36 (by decide) ?_
  refine lv_iadd hx hb nd_M_grow_37 ?_
  rw [ej, show nI j + 1 = nI (j + 1) from (nI_succ j).symm]
  refine zm_vWi (As := [_, _, _]) (rest := _) hF (c_M_days l D G hG _ _ _ j (j + 1) (by omega) (by omega)) (zw_preV hP hK (q0 := 0) (ci := 6) rfl rfl rfl) nk_M_days nw_680 ⟨rfl, rfl, Nat.le_of_ble_eq_true rfl, Nat.le_of_ble_eq_true rfl⟩ rfl hl.1 rfl (Nat.le_of_ble_eq_true rfl) ⟨Nat.zero_le _, Nat.zero_le _⟩ nd_M_grow_38 hS (fun Y H locs hP hS => ?_)
  dsimp only at hP ⊢
  refine lv_i2l (v := _) hx hb nd_M_grow_41 rfl ?_
  refine lv_lmul hx hb nd_M_grow_42 ?_
  refine lv_ladd hx hb nd_M_grow_43 ?_
  refine zm_astN_acr hx hb hK hG hP hS (by assumption) nd_M_grow_44 (fun H locs hP hS => ?_)
  refine lv_aload_n hx hb nd_M_grow_45 rfl (zv_at hl 0 rfl) ?_
  refine lv_aload_n hx hb nd_M_grow_46 rfl (zv_at hl 0 rfl) ?_
  refine zm_get hx hb hts hown hK hP 20 (by decide) (hts _ nw_487) rfl nd_M_grow_47 ?_
  show W p l e _ s m _ below meth c _ _ 0 0 _ (F0 m _ _ [.int (zm_now T), .ref (zh_mdl G)])
  rw [ej]
  refine zm_vWy (As := [_]) (rest := _) hF (c_M_walk l D G hG _ _ j (by omega)) (zw_preV hP hK (q0 := 0) (ci := 6) rfl rfl rfl) nk_M_walk nw_646 ⟨rfl, rfl, Nat.le_of_ble_eq_true rfl, Nat.le_of_ble_eq_true rfl⟩ rfl hl.1 rfl (Nat.le_of_ble_eq_true rfl) ⟨Nat.zero_le _, Nat.zero_le _⟩ nd_M_grow_50 hS (fun H locs hP hS => ?_)
  refine lv_aload_n hx hb nd_M_grow_53 rfl (zv_at hl 0 rfl) ?_
  refine zm_get hx hb hts hown hK hP 30 (by decide) (hts _ nw_497) rfl nd_M_grow_54 ?_
  refine lv_aload_n hx hb nd_M_grow_57 rfl (zv_at hl 0 rfl) ?_
  refine zm_get hx hb hts hown hK hP 28 (by decide) (hts _ nw_495) rfl nd_M_grow_58 ?_
  refine lv_aload_n hx hb nd_M_grow_61 rfl (zv_at hl 0 rfl) ?_
  refine zm_get hx hb hts hown hK hP 29 (by decide) (hts _ nw_496) rfl nd_M_grow_62 ?_
  refine zw_sR (As := [_, _]) (rest := _) hF (c_M_length l (zc_y j) (zc_m j) (by omega) (by omega)) zw_preN nk_M_length nw_653 ⟨rfl, rfl, Nat.le_of_ble_eq_true rfl, Nat.le_of_ble_eq_true rfl⟩ rfl hl.1 rfl (Nat.le_of_ble_eq_true rfl) ⟨Nat.zero_le _, Nat.zero_le _⟩ nd_M_grow_65 ?_
  refine lv_icmp_eq (tgt := 72) hx hb nd_M_grow_68 (by decide) (fun h_68 => ?_) (fun h_68 => ?_)
  · skip
    have hday : zc_d j = zc_ml (zc_y j) (zc_m j) := (nI_eq (by omega) (by omega)).mp h_68
    have hgrow : zm_grow T j i = zm_grow2 (zm_sacr T (vp_updL (zm_acr T) i (zm_acr T i + zm_mon T i * (zm_rat T i).toInt64 * (zm_days (zm_bas T i) j (j + 1)).toInt64))) i := by unfold zm_grow; dsimp only; rw [if_pos hday]
    have hI1 : zm_I (zm_sacr T (vp_updL (zm_acr T) i (zm_acr T i + zm_mon T i * (zm_rat T i).toInt64 * (zm_days (zm_bas T i) j (j + 1)).toInt64))) := hI
    generalize zm_sacr T (vp_updL (zm_acr T) i (zm_acr T i + zm_mon T i * (zm_rat T i).toInt64 * (zm_days (zm_bas T i) j (j + 1)).toInt64)) = T1 at hP hgrow hI1
    refine zw_cut (σ := Int64) 192 (fun x => []) (fun x H locs ls => x = zm_round (zm_acr T1 i) (zm_whole T1 i) ∧ va_P D vwCl (zm_cells G T1 (zm_ymd j)) H ∧ va_S (zm_Ad G) s.heap H locs ∧ lv_has ls 9 [(0, .ref (zh_mdl G)), (1, .int (nI i)), (2, .long (zm_whole T1 i)), (4, .long x)]) (fun q9 H locs ls hI9 => ?_) (fun hJ192 => ?_)
    · skip
      obtain ⟨hq9, hP, hS, hl⟩ := hI9
      refine lv_aload_n hx hb nd_M_grow_192 rfl (zv_at hl 0 rfl) ?_
      refine zm_get hx hb hts hown hK hP 6 (by decide) (hts _ nw_473) rfl nd_M_grow_193 ?_
      refine lv_iload_n hx hb nd_M_grow_196 rfl (zv_at hl 1 rfl) ?_
      refine lv_dup2_11 hx hb nd_M_grow_197 rfl rfl ?_
      refine zm_aldN_mon hx hb hK hP (by assumption) nd_M_grow_198 ?_
      refine lv_lload hx hb nd_M_grow_199 (zv_at hl 4 rfl) ?_
      refine lv_ladd hx hb nd_M_grow_201 ?_
      refine zm_astN_mon hx hb hK hG hP hS (by assumption) nd_M_grow_202 (fun H locs hP hS => ?_)
      refine lv_aload_n hx hb nd_M_grow_203 rfl (zv_at hl 0 rfl) ?_
      refine zm_get hx hb hts hown hK hP 19 (by decide) (hts _ nw_486) rfl nd_M_grow_204 ?_
      refine lv_aload_n hx hb nd_M_grow_207 rfl (zv_at hl 0 rfl) ?_
      refine zm_get hx hb hts hown hK hP 1 (by decide) (hts _ nw_468) rfl nd_M_grow_208 ?_
      refine lv_iload_n hx hb nd_M_grow_211 rfl (zv_at hl 1 rfl) ?_
      refine zm_aldN_cur hx hb hK hP (by assumption) nd_M_grow_212 ?_
      refine lv_dup2_11 hx hb nd_M_grow_213 rfl rfl ?_
      refine zm_ald_itr hx hb hK hP (by exact zm_cur_in hI1 i) nd_M_grow_214 ?_
      refine lv_lload hx hb nd_M_grow_215 (zv_at hl 4 rfl) ?_
      refine lv_ladd hx hb nd_M_grow_217 ?_
      refine zm_ast_itr hx hb hK hG hP hS (by exact zm_cur_in hI1 i) nd_M_grow_218 (fun H locs hP hS => ?_)
      refine lv_aload_n hx hb nd_M_grow_219 rfl (zv_at hl 0 rfl) ?_
      refine zm_get hx hb hts hown hK hP 7 (by decide) (hts _ nw_474) rfl nd_M_grow_220 ?_
      refine lv_iload_n hx hb nd_M_grow_223 rfl (zv_at hl 1 rfl) ?_
      refine lv_dup2_11 hx hb nd_M_grow_224 rfl rfl ?_
      refine zm_aldN_acr hx hb hK hP (by assumption) nd_M_grow_225 ?_
      refine lv_lload hx hb nd_M_grow_226 (zv_at hl 4 rfl) ?_
      refine lv_lload_n hx hb nd_M_grow_228 rfl (zv_at hl 2 rfl) ?_
      refine lv_lmul hx hb nd_M_grow_229 ?_
      refine lv_lsub hx hb nd_M_grow_230 ?_
      refine zm_astN_acr hx hb hK hG hP hS (by assumption) nd_M_grow_231 (fun H locs hP hS => ?_)
      refine zm_vret hx hb hr hlk nd_M_grow_232 hP hS ?_
      rw [hgrow]
      unfold zm_grow2
      dsimp only
      rw [← hq9]
      all_goals rfl
    refine zw_cut (σ := Int32) 174 (fun x => [.int x]) (fun x H locs ls => x = zm_upV (zm_acr T1 i) (zm_whole T1 i) ∧ va_P D vwCl (zm_cells G T1 (zm_ymd j)) H ∧ va_S (zm_Ad G) s.heap H locs ∧ lv_has ls 9 [(0, .ref (zh_mdl G)), (1, .int (nI i)), (2, .long (zm_whole T1 i)), (4, .long (zm_q0 (zm_acr T1 i) (zm_whole T1 i)))]) (fun v9 H locs ls hI9 => ?_) (fun hJ174 => ?_)
    · skip
      obtain ⟨hv, hP, hS, hl⟩ := hI9
      refine lv_istore hx hb nd_M_grow_174 hl (by decide) rfl (fun ls hl => ?_)
      refine lv_iload hx hb nd_M_grow_176 (zv_at hl 8 rfl) ?_
      refine lv_if_eq (tgt := 188) hx hb nd_M_grow_178 (by decide) (fun h_178 => ?_) (fun h_178 => ?_)
      · skip
        refine lv_lload hx hb nd_M_grow_188 (zv_at hl 4 rfl) ?_
        refine lv_lstore hx hb nd_M_grow_190 hl (by decide) rfl (fun ls hl => ?_)
        exact hJ192 _ _ _ _ ⟨by rw [zm_round_eq, ← hv, if_pos h_178], hP, hS, zv_sub hl (by intro q hq; simp only [List.mem_cons, List.not_mem_nil, or_false] at hq; rcases hq with rfl | rfl | rfl | rfl <;> rfl)⟩
      · skip
        refine lv_lload hx hb nd_M_grow_181 (zv_at hl 4 rfl) ?_
        refine lv_lconst (v := 1) hx hb nd_M_grow_183 (by decide) ?_
        refine lv_ladd hx hb nd_M_grow_184 ?_
        refine lv_goto (tgt := 190) hx hb nd_M_grow_185 (by decide) ?_
        refine lv_lstore hx hb nd_M_grow_190 hl (by decide) rfl (fun ls hl => ?_)
        exact hJ192 _ _ _ _ ⟨by rw [zm_round_eq, ← hv, if_neg h_178], hP, hS, zv_sub hl (by intro q hq; simp only [List.mem_cons, List.not_mem_nil, or_false] at hq; rcases hq with rfl | rfl | rfl | rfl <;> rfl)⟩
    refine zw_cut (σ := Unit) 138 (fun x => []) (fun x H locs ls => x = () ∧ va_P D vwCl (zm_cells G T1 (zm_ymd j)) H ∧ va_S (zm_Ad G) s.heap H locs ∧ lv_has ls 9 [(0, .ref (zh_mdl G)), (1, .int (nI i)), (2, .long (zm_whole T1 i)), (4, .long (zm_q0 (zm_acr T1 i) (zm_whole T1 i))), (6, .long (zm_r0 (zm_acr T1 i) (zm_whole T1 i)))]) (fun u9 H locs ls hI9 => ?_) (fun hJ138 => ?_)
    · skip
      obtain ⟨-, hP, hS, hl⟩ := hI9
      refine lv_ldc2 (v := 2) hx hb hown (hts _ nw_685) nd_M_grow_138 ?_
      refine lv_lload hx hb nd_M_grow_141 (zv_at hl 6 rfl) ?_
      refine lv_lmul hx hb nd_M_grow_143 ?_
      refine lv_lload_n hx hb nd_M_grow_144 rfl (zv_at hl 2 rfl) ?_
      refine W.lcmp hx hb nd_M_grow_145 ?_
      refine lv_if_gt (tgt := 169) hx hb nd_M_grow_146 (by decide) (fun h_146 => ?_) (fun h_146 => ?_)
      · skip
        have h_146 := (lg_cmp_gt _ _).mp h_146
        refine lv_iconst (v := 1) hx hb nd_M_grow_169 (by decide) ?_
        refine lv_goto (tgt := 174) hx hb nd_M_grow_170 (by decide) ?_
        exact hJ174 1 _ _ _ ⟨by unfold zm_upV; rw [if_neg (Int64.not_le.mpr h_146)], hP, hS, zv_sub hl (by intro q hq; simp only [List.mem_cons, List.not_mem_nil, or_false] at hq; rcases hq with rfl | rfl | rfl | rfl <;> rfl)⟩
      · skip
        have h_146 := (show ¬ _ from fun q => h_146 ((lg_cmp_gt _ _).mpr q))
        refine lv_ldc2 (v := 2) hx hb hown (hts _ nw_685) nd_M_grow_149 ?_
        refine lv_lload hx hb nd_M_grow_152 (zv_at hl 6 rfl) ?_
        refine lv_lmul hx hb nd_M_grow_154 ?_
        refine lv_lload_n hx hb nd_M_grow_155 rfl (zv_at hl 2 rfl) ?_
        refine W.lcmp hx hb nd_M_grow_156 ?_
        refine lv_if_ne (tgt := 173) hx hb nd_M_grow_157 (by decide) (fun h_157 => ?_) (fun h_157 => ?_)
        · skip
          have h_157 := (show ¬ _ from fun q => h_157 ((lg_cmp_eq _ _).mpr q))
          refine lv_iconst (v := 0) hx hb nd_M_grow_173 (by decide) ?_
          exact hJ174 0 _ _ _ ⟨by unfold zm_upV; rw [if_pos (Int64.not_lt.mp h_146), if_neg h_157], hP, hS, zv_sub hl (by intro q hq; simp only [List.mem_cons, List.not_mem_nil, or_false] at hq; rcases hq with rfl | rfl | rfl | rfl <;> rfl)⟩
        · skip
          have h_157 := (lg_cmp_eq _ _).mp h_157
          refine lv_lload hx hb nd_M_grow_160 (zv_at hl 4 rfl) ?_
          refine lv_lconst (v := 1) hx hb nd_M_grow_162 (by decide) ?_
          refine lv_land hx hb nd_M_grow_163 ?_
          refine lv_lconst (v := 1) hx hb nd_M_grow_164 (by decide) ?_
          refine W.lcmp hx hb nd_M_grow_165 ?_
          refine lv_if_ne (tgt := 173) hx hb nd_M_grow_166 (by decide) (fun h_166 => ?_) (fun h_166 => ?_)
          · skip
            have h_166 := (show ¬ _ from fun q => h_166 ((lg_cmp_eq _ _).mpr q))
            refine lv_iconst (v := 0) hx hb nd_M_grow_173 (by decide) ?_
            exact hJ174 0 _ _ _ ⟨by unfold zm_upV; rw [if_pos (Int64.not_lt.mp h_146), if_pos h_157, if_neg h_166], hP, hS, zv_sub hl (by intro q hq; simp only [List.mem_cons, List.not_mem_nil, or_false] at hq; rcases hq with rfl | rfl | rfl | rfl <;> rfl)⟩
          · skip
            have h_166 := (lg_cmp_eq _ _).mp h_166
            refine lv_iconst (v := 1) hx hb nd_M_grow_169 (by decide) ?_
            refine lv_goto (tgt := 174) hx hb nd_M_grow_170 (by decide) ?_
            exact hJ174 1 _ _ _ ⟨by unfold zm_upV; rw [if_pos (Int64.not_lt.mp h_146), if_pos h_157, if_pos h_166], hP, hS, zv_sub hl (by intro q hq; simp only [List.mem_cons, List.not_mem_nil, or_false] at hq; rcases hq with rfl | rfl | rfl | rfl <;> rfl)⟩
    refine zw_cut (σ := Int64) 95 (fun x => [.long x]) (fun x H locs ls => x = zm_whole T1 i ∧ va_P D vwCl (zm_cells G T1 (zm_ymd j)) H ∧ va_S (zm_Ad G) s.heap H locs ∧ lv_has ls 9 [(0, .ref (zh_mdl G)), (1, .int (nI i))]) (fun U9 H locs ls hI9 => ?_) (fun hJ95 => ?_)
    · skip
      obtain ⟨hU, hP, hS, hl⟩ := hI9
      subst hU
      refine lv_lstore_n hx hb nd_M_grow_95 rfl hl (by decide) rfl (fun ls hl => ?_)
      refine lv_aload_n hx hb nd_M_grow_96 rfl (zv_at hl 0 rfl) ?_
      refine zm_get hx hb hts hown hK hP 7 (by decide) (hts _ nw_474) rfl nd_M_grow_97 ?_
      refine lv_iload_n hx hb nd_M_grow_100 rfl (zv_at hl 1 rfl) ?_
      refine zm_aldN_acr hx hb hK hP (by assumption) nd_M_grow_101 ?_
      refine lv_lload_n hx hb nd_M_grow_102 rfl (zv_at hl 2 rfl) ?_
      refine lv_ldiv hx hb nd_M_grow_103 (zm_whole_ne T1 i) ?_
      refine lv_lstore hx hb nd_M_grow_104 hl (by decide) rfl (fun ls hl => ?_)
      refine lv_aload_n hx hb nd_M_grow_106 rfl (zv_at hl 0 rfl) ?_
      refine zm_get hx hb hts hown hK hP 7 (by decide) (hts _ nw_474) rfl nd_M_grow_107 ?_
      refine lv_iload_n hx hb nd_M_grow_110 rfl (zv_at hl 1 rfl) ?_
      refine zm_aldN_acr hx hb hK hP (by assumption) nd_M_grow_111 ?_
      refine lv_lload hx hb nd_M_grow_112 (zv_at hl 4 rfl) ?_
      refine lv_lload_n hx hb nd_M_grow_114 rfl (zv_at hl 2 rfl) ?_
      refine lv_lmul hx hb nd_M_grow_115 ?_
      refine lv_lsub hx hb nd_M_grow_116 ?_
      refine lv_lstore hx hb nd_M_grow_117 hl (by decide) rfl (fun ls hl => ?_)
      refine lv_lload hx hb nd_M_grow_119 (zv_at hl 6 rfl) ?_
      refine lv_lconst (v := 0) hx hb nd_M_grow_121 (by decide) ?_
      refine W.lcmp hx hb nd_M_grow_122 ?_
      refine lv_if_ge (tgt := 138) hx hb nd_M_grow_123 (by decide) (fun h_123 => ?_) (fun h_123 => ?_)
      · skip
        have h_123 := (lg_cmp_ge _ _).mp h_123
        exact hJ138 () _ _ _ ⟨rfl, hP, hS, by unfold zm_q0 zm_r0; rw [if_pos h_123, if_pos h_123]; exact zv_sub hl (by intro q hq; simp only [List.mem_cons, List.not_mem_nil, or_false] at hq; rcases hq with rfl | rfl | rfl | rfl | rfl <;> rfl)⟩
      · skip
        have h_123 := (show ¬ _ from fun q => h_123 ((lg_cmp_ge _ _).mpr q))
        refine lv_lload hx hb nd_M_grow_126 (zv_at hl 4 rfl) ?_
        refine lv_lconst (v := 1) hx hb nd_M_grow_128 (by decide) ?_
        refine lv_lsub hx hb nd_M_grow_129 ?_
        refine lv_lstore hx hb nd_M_grow_130 hl (by decide) rfl (fun ls hl => ?_)
        refine lv_lload hx hb nd_M_grow_132 (zv_at hl 6 rfl) ?_
        refine lv_lload_n hx hb nd_M_grow_134 rfl (zv_at hl 2 rfl) ?_
        refine lv_ladd hx hb nd_M_grow_135 ?_
        refine lv_lstore hx hb nd_M_grow_136 hl (by decide) rfl (fun ls hl => ?_)
        exact hJ138 () _ _ _ ⟨rfl, hP, hS, by unfold zm_q0 zm_r0; rw [if_neg h_123, if_neg h_123]; exact zv_sub hl (by intro q hq; simp only [List.mem_cons, List.not_mem_nil, or_false] at hq; rcases hq with rfl | rfl | rfl | rfl | rfl <;> rfl)⟩
    refine lv_ldc2 (v := 10000) hx hb hown (hts _ nw_684) nd_M_grow_72 ?_
    refine lv_aload_n hx hb nd_M_grow_75 rfl (zv_at hl 0 rfl) ?_
    refine zm_get hx hb hts hown hK hP 2 (by decide) (hts _ nw_469) rfl nd_M_grow_76 ?_
    refine lv_iload_n hx hb nd_M_grow_79 rfl (zv_at hl 1 rfl) ?_
    refine zm_aldN_bas hx hb hK hP (by assumption) nd_M_grow_80 ?_
    refine lv_if_ne (tgt := 90) hx hb nd_M_grow_81 (by decide) (fun h_81 => ?_) (fun h_81 => ?_)
    · skip
      refine lv_sipush (v := 360) hx hb nd_M_grow_90 (by decide) ?_
      refine lv_i2l (v := _) hx hb nd_M_grow_93 rfl ?_
      refine lv_lmul hx hb nd_M_grow_94 ?_
      exact hJ95 _ _ _ _ ⟨by unfold zm_whole; rw [if_neg h_81], hP, hS, zv_sub hl (by intro q hq; simp only [List.mem_cons, List.not_mem_nil, or_false] at hq; rcases hq with rfl | rfl <;> rfl)⟩
    · skip
      refine lv_sipush (v := 365) hx hb nd_M_grow_84 (by decide) ?_
      refine lv_goto (tgt := 93) hx hb nd_M_grow_87 (by decide) ?_
      refine lv_i2l (v := _) hx hb nd_M_grow_93 rfl ?_
      refine lv_lmul hx hb nd_M_grow_94 ?_
      exact hJ95 _ _ _ _ ⟨by unfold zm_whole; rw [if_pos h_81], hP, hS, zv_sub hl (by intro q hq; simp only [List.mem_cons, List.not_mem_nil, or_false] at hq; rcases hq with rfl | rfl <;> rfl)⟩
  · skip
    refine zm_vret hx hb hr hlk nd_M_grow_71 hP hS ?_
    unfold zm_grow
    dsimp only
    rw [if_neg (show ¬ zc_d j = zc_ml (zc_y j) (zc_m j) from fun q => h_68 (by show nI (zc_d j) = _; rw [q]))]
    all_goals rfl
