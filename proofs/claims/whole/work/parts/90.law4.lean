/-! THE LAW: its loop and its start. Written by mk_law.py. -/
theorem zl_len {L i : Nat} (hL : L ≤ 2560) (hi : 5 * i ≤ L) : (Int32.ofNat L - 5 < nI (5 * i)) ↔ L < 5 * i + 5 := by
  by_cases h : L < 5
  · have h0 : i = 0 := by omega
    subst h0
    rcases (show L = 0 ∨ L = 1 ∨ L = 2 ∨ L = 3 ∨ L = 4 by omega) with rfl | rfl | rfl | rfl | rfl <;> decide
  · have e : Int32.ofNat L - 5 = nI (L - 5) := by
      have e1 : nI (L - 5) + 5 = nI L := by
        rw [show (5 : Int32) = nI 5 by decide, nI_add, Nat.sub_add_cancel (by omega)]
      show nI L - 5 = nI (L - 5)
      rw [← e1, Int32.add_sub_cancel]
    rw [e, nI_ltI (by omega) (by omega)]
    omega

section ZLW
variable {p : Program} {l : Launch} {e : Env} {s : State} {m : MethodId} {below : List Frame} {meth : Method} {c : Code} {H : Heap} {locs : List Loc} {cells slots : Nat} {Q : State → Prop}
variable {ls : Array Slot} {b L i : Nat} {xs : Nat → Int32} {D : va_G} {G : zg_G} {K : zh_G} {T : zm_S} {Y : zm_Y} {du pd : Nat → Int32}

set_option maxHeartbeats 4000000 in
set_option maxRecDepth 100000 in
theorem zl_loop (F : CallFix p m c nc_L_law 4 s #[Value.ref b] zw_big "DayEndBankLaw") (hr : meth.sig.returnType = ret) (hlk : meth.locks = false) (hX : va_X b L xs s s.heap) (hbl : b < s.heap.size) (hL : L ≤ 2560) (hF : zl_F D G K s) (hJ : zs_J T 0) (hPb : va_P D vwCl (zb_cells G (zs_B T du pd)) H) (hPm : va_P D vwCl (zm_cells K T Y) H) (hS : va_S (zl_A s) s.heap H locs) (hl : lv_has ls 4 (zl_l b G K 0)) (hcs : cells ≤ 600000 ∧ slots ≤ 7302250) :
    W p l e room_1 s m #[Value.ref b] below meth c H locs cells slots (lw_Z below #[Value.ref b] s) (F0 m 18 ls []) := by
  have hx := F.1
  have hb := F.2.1
  refine zw_loop (σ := Nat × zm_S × zm_Y × (Nat → Int32) × (Nat → Int32)) (fun k x H locs ls => k + x.1 = 513 ∧ 5 * x.1 ≤ L ∧ zs_J x.2.1 (31 * x.1) ∧ va_P D vwCl (zb_cells G (zs_B x.2.1 x.2.2.2.1 x.2.2.2.2)) H ∧ va_P D vwCl (zm_cells K x.2.1 x.2.2.1) H ∧ va_S (zl_A s) s.heap H locs ∧ lv_has ls 4 (zl_l b G K x.1)) ?_ 513 (0, T, Y, du, pd) ⟨rfl, Nat.zero_le _, hJ, hPb, hPm, hS, hl⟩
  intro k x H locs ls hI IH
  obtain ⟨i, T, Y, du, pd⟩ := x
  obtain ⟨hk, hi, hJ, hPb, hPm, hS, hl⟩ := hI
  dsimp only at hk hi hJ hPb hPm hl
  refine lv_iload_n hx hb nd_L_law_18 rfl (zv_at hl 3 rfl) ?_
  refine lv_aload_n hx hb nd_L_law_19 rfl (zv_at hl 0 rfl) ?_
  refine va_slen hx hb hX hbl (fun h => Nat.not_lt.mpr h hbl) hS nd_L_law_20 ?_
  refine lv_iconst (v := 5) hx hb nd_L_law_21 (by decide) ?_
  refine lv_isub hx hb nd_L_law_22 ?_
  refine lv_icmp_gt (tgt := 698) hx hb nd_L_law_23 (by decide) (fun _ => ?_) (fun h => ?_)
  · refine va_forget (fun q hq => hS.2.2 q hq) ?_
    refine W.widen (k := 600000) (n := 7302250) hcs.1 hcs.2 ?_
    refine lv_iconst (v := 1) hx hb nd_L_law_698 (by decide) ?_
    exact lw_ret hx hb hr hlk nd_L_law_699
  · have hi5 : 5 * i + 5 ≤ L := Nat.not_lt.mp (fun q => h ((zl_len hL hi).mpr q))
    have kk : ∀ (T1 : zm_S) (Y1 : zm_Y) (du1 pd1 : Nat → Int32) (H1 : Heap) (locs1 : List Loc), zs_J T1 (31 * (i + 1)) → va_P D vwCl (zb_cells G (zs_B T1 du1 pd1)) H1 → va_P D vwCl (zm_cells K T1 Y1) H1 → va_S (zl_A s) s.heap H1 locs1 → W p l e room_1 s m #[Value.ref b] below meth c H1 locs1 cells slots (lw_Z below #[Value.ref b] s) (F0 m 692 ls []) := by
      intro T1 Y1 du1 pd1 H1 locs1 hJ1 hPb1 hPm1 hS1
      refine zv_iinc (v := nI (5 * (i + 1))) hx hb nd_L_law_692 hl rfl (by rw [show Int32.ofInt 5 = nI 5 by decide, nI_add, show 5 * i + 5 = 5 * (i + 1) by omega]) (by decide) rfl (fun ls hl => ?_)
      refine lv_goto (tgt := 18) hx hb nd_L_law_695 (by decide) ?_
      exact IH (k - 1) (i + 1, T1, Y1, du1, pd1) H1 locs1 ls (by omega) ⟨by show k - 1 + (i + 1) = 513; omega, by show 5 * (i + 1) ≤ L; omega, hJ1, hPb1, hPm1, hS1, hl⟩
    refine lv_aload_n hx hb nd_L_law_26 rfl (zv_at hl 0 rfl) ?_
    refine lv_iload_n hx hb nd_L_law_27 rfl (zv_at hl 3 rfl) ?_
    refine va_sld hx hb hX hbl (fun h => Nat.not_lt.mpr h hbl) hS (nI_in (N := L) (by omega) (by omega)) nd_L_law_28 ?_
    refine lv_bipush (v := 31) hx hb nd_L_law_29 (by decide) ?_
    refine lv_iand hx hb nd_L_law_31 ?_
    refine lv_topi (fun x ex => ?_)
    clear ex
    by_cases hs_0 : x = 0
    · subst hs_0
      refine lv_tableIn (off := 96) (tgt := 128) hx hb nd_L_law_32 (by decide) (by decide) (by decide) (by decide) ?_
      exact zl_open F hX hbl hL hF hi5 hJ hPb hPm hS hl hcs kk
    by_cases hs_1 : x = 1
    · subst hs_1
      refine lv_tableIn (off := 149) (tgt := 181) hx hb nd_L_law_32 (by decide) (by decide) (by decide) (by decide) ?_
      exact zl_pay F hX hbl hL hF hi5 hJ hPb hPm hS hl hcs kk
    by_cases hs_2 : x = 2
    · subst hs_2
      refine lv_tableIn (off := 192) (tgt := 224) hx hb nd_L_law_32 (by decide) (by decide) (by decide) (by decide) ?_
      exact zl_hold F hX hbl hL hF hi5 hJ hPb hPm hS hl hcs kk
    by_cases hs_3 : x = 3
    · subst hs_3
      refine lv_tableIn (off := 225) (tgt := 257) hx hb nd_L_law_32 (by decide) (by decide) (by decide) (by decide) ?_
      exact zl_release F hX hbl hL hF hi5 hJ hPb hPm hS hl hcs kk
    by_cases hs_4 : x = 4
    · subst hs_4
      refine lv_tableIn (off := 248) (tgt := 280) hx hb nd_L_law_32 (by decide) (by decide) (by decide) (by decide) ?_
      exact zl_settle F hX hbl hL hF hi5 hJ hPb hPm hS hl hcs kk
    by_cases hs_5 : x = 5
    · subst hs_5
      refine lv_tableIn (off := 291) (tgt := 323) hx hb nd_L_law_32 (by decide) (by decide) (by decide) (by decide) ?_
      exact zl_order F hX hbl hL hF hi5 hJ hPb hPm hS hl hcs kk
    by_cases hs_6 : x = 6
    · subst hs_6
      refine lv_tableIn (off := 344) (tgt := 376) hx hb nd_L_law_32 (by decide) (by decide) (by decide) (by decide) ?_
      exact zl_rest F hX hbl hL hF hi5 hJ hPb hPm hS hl hcs kk
    by_cases hs_7 : x = 7
    · subst hs_7
      refine lv_tableIn (off := 367) (tgt := 399) hx hb nd_L_law_32 (by decide) (by decide) (by decide) (by decide) ?_
      exact zl_run F hX hbl hL hF hi5 hJ hPb hPm hS hl hcs kk
    by_cases hs_8 : x = 8
    · subst hs_8
      refine lv_tableIn (off := 390) (tgt := 422) hx hb nd_L_law_32 (by decide) (by decide) (by decide) (by decide) ?_
      exact zl_fuse F hX hbl hL hF hi5 hJ hPb hPm hS hl hcs kk
    by_cases hs_9 : x = 9
    · subst hs_9
      refine lv_tableIn (off := 413) (tgt := 445) hx hb nd_L_law_32 (by decide) (by decide) (by decide) (by decide) ?_
      exact zl_restart F hX hbl hL hF hi5 hJ hPb hPm hS hl hcs kk
    by_cases hs_10 : x = 10
    · subst hs_10
      refine lv_tableIn (off := 426) (tgt := 458) hx hb nd_L_law_32 (by decide) (by decide) (by decide) (by decide) ?_
      exact zl_balance F hX hbl hL hF hi5 hJ hPb hPm hS hl hcs kk
    by_cases hs_11 : x = 11
    · subst hs_11
      refine lv_tableIn (off := 450) (tgt := 482) hx hb nd_L_law_32 (by decide) (by decide) (by decide) (by decide) ?_
      exact zl_available F hX hbl hL hF hi5 hJ hPb hPm hS hl hcs kk
    by_cases hs_12 : x = 12
    · subst hs_12
      refine lv_tableIn (off := 474) (tgt := 506) hx hb nd_L_law_32 (by decide) (by decide) (by decide) (by decide) ?_
      exact zl_accrued F hX hbl hL hF hi5 hJ hPb hPm hS hl hcs kk
    by_cases hs_13 : x = 13
    · subst hs_13
      refine lv_tableIn (off := 498) (tgt := 530) hx hb nd_L_law_32 (by decide) (by decide) (by decide) (by decide) ?_
      exact zl_mark F hX hbl hL hF hi5 hJ hPb hPm hS hl hcs kk
    by_cases hs_14 : x = 14
    · subst hs_14
      refine lv_tableIn (off := 521) (tgt := 553) hx hb nd_L_law_32 (by decide) (by decide) (by decide) (by decide) ?_
      exact zl_ledger F hX hbl hL hF hi5 hJ hPb hPm hS hl hcs kk
    by_cases hs_15 : x = 15
    · subst hs_15
      refine lv_tableIn (off := 555) (tgt := 587) hx hb nd_L_law_32 (by decide) (by decide) (by decide) (by decide) ?_
      exact zl_missed F hX hbl hL hF hi5 hJ hPb hPm hS hl hcs kk
    by_cases hs_16 : x = 16
    · subst hs_16
      refine lv_tableIn (off := 578) (tgt := 610) hx hb nd_L_law_32 (by decide) (by decide) (by decide) (by decide) ?_
      exact zl_today F hX hbl hL hF hi5 hJ hPb hPm hS hl hcs kk
    by_cases hs_17 : x = 17
    · subst hs_17
      refine lv_tableIn (off := 591) (tgt := 623) hx hb nd_L_law_32 (by decide) (by decide) (by decide) (by decide) ?_
      exact zl_count F hX hbl hL hF hi5 hJ hPb hPm hS hl hcs kk
    by_cases hs_18 : x = 18
    · subst hs_18
      refine lv_tableIn (off := 634) (tgt := 666) hx hb nd_L_law_32 (by decide) (by decide) (by decide) (by decide) ?_
      exact zl_writes F hX hbl hL hF hi5 hJ hPb hPm hS hl hcs kk
    by_cases hs_19 : x = 19
    · subst hs_19
      refine lv_tableIn (off := 647) (tgt := 679) hx hb nd_L_law_32 (by decide) (by decide) (by decide) (by decide) ?_
      exact zl_lines F hX hbl hL hF hi5 hJ hPb hPm hS hl hcs kk
    refine lv_tableOut (tgt := 692) hx hb nd_L_law_32 (by have e0 := lv_neT (a := 0) hs_0 (by decide); have e1 := lv_neT (a := 1) hs_1 (by decide); have e2 := lv_neT (a := 2) hs_2 (by decide); have e3 := lv_neT (a := 3) hs_3 (by decide); have e4 := lv_neT (a := 4) hs_4 (by decide); have e5 := lv_neT (a := 5) hs_5 (by decide); have e6 := lv_neT (a := 6) hs_6 (by decide); have e7 := lv_neT (a := 7) hs_7 (by decide); have e8 := lv_neT (a := 8) hs_8 (by decide); have e9 := lv_neT (a := 9) hs_9 (by decide); have e10 := lv_neT (a := 10) hs_10 (by decide); have e11 := lv_neT (a := 11) hs_11 (by decide); have e12 := lv_neT (a := 12) hs_12 (by decide); have e13 := lv_neT (a := 13) hs_13 (by decide); have e14 := lv_neT (a := 14) hs_14 (by decide); have e15 := lv_neT (a := 15) hs_15 (by decide); have e16 := lv_neT (a := 16) hs_16 (by decide); have e17 := lv_neT (a := 17) hs_17 (by decide); have e18 := lv_neT (a := 18) hs_18 (by decide); have e19 := lv_neT (a := 19) hs_19 (by decide); omega) (by decide) ?_
    exact kk T Y du pd H locs (zs_J_mono hJ (by omega)) hPb hPm hS
end ZLW
theorem nx_12 : Cond.instantiable "DayEndBank" 11 ∈ zw_big := zw_mem (List.mem_append_left _ (List.mem_of_getElem? (i := 12) (by decide +kernel))) (by decide +kernel)
theorem nx_11 : Cond.classLink "DayEndBankLaw" 7 "DayEndBank" ∈ zw_big := zw_mem (List.mem_append_left _ (List.mem_of_getElem? (i := 11) (by decide +kernel))) (by decide +kernel)
theorem nx_461 : Cond.classLink "DayEndBankLaw" 10 "DayEndBankModel" ∈ zw_big := zw_mem (List.mem_append_right _ (List.mem_append_left _ (List.mem_of_getElem? (i := 221) (by decide +kernel)))) (by decide +kernel)
theorem nx_462 : Cond.instantiable "DayEndBankModel" 31 ∈ zw_big := zw_mem (List.mem_append_right _ (List.mem_append_left _ (List.mem_of_getElem? (i := 222) (by decide +kernel)))) (by decide +kernel)
theorem zl_known {s : State} {args : Array Value} (hts : ∀ w ∈ zw_big, w.before args s = true) : ∃ D : va_G, va_K D vwCl [] s := by
  obtain ⟨cB, iB, hB⟩ := u_known hts zw_inB (hts _ nx_12)
  obtain ⟨cA, iA, hA⟩ := u_known hts zw_inA (hts _ nx_69)
  obtain ⟨cH, iH, hH⟩ := u_known hts zw_inH (hts _ nx_110)
  obtain ⟨cO, iO, hO⟩ := u_known hts zw_inO (hts _ nx_124)
  obtain ⟨cR, iR, hR⟩ := u_known hts zw_inR (hts _ nx_26)
  obtain ⟨cD, iD, hD⟩ := u_known hts zw_inD (hts _ nx_40)
  obtain ⟨cM, iM, hM⟩ := u_known hts zw_inM (hts _ nx_462)
  refine ⟨(fun k => match k with | 0 => cB | 1 => cA | 2 => cH | 3 => cO | 4 => cR | 5 => cD | _ => cM, fun k => match k with | 0 => iB | 1 => iA | 2 => iH | 3 => iO | 4 => iR | 5 => iD | _ => iM), fun k q hq => ?_, fun k q hq => by simp at hq⟩
  have hk : k < 7 := (List.getElem?_eq_some_iff.mp hq).1
  rcases (show k = 0 ∨ k = 1 ∨ k = 2 ∨ k = 3 ∨ k = 4 ∨ k = 5 ∨ k = 6 by omega) with rfl | rfl | rfl | rfl | rfl | rfl | rfl
  · cases hq; exact hB
  · cases hq; exact hA
  · cases hq; exact hH
  · cases hq; exact hO
  · cases hq; exact hR
  · cases hq; exact hD
  · cases hq; exact hM
theorem zi_N.calling {U : State} (g : JFrame) (mk : MethodId) (a : Array Value) (h : zi_N U) : zi_N (U.calling g mk a) := by
  obtain ⟨h1, h2, h3, h4, h5, h6, h7⟩ := h
  exact ⟨h1.moved (Vm.Alike.refl U.vm), h2.moved (Vm.Alike.refl U.vm), h3.moved (Vm.Alike.refl U.vm), va_Nw.same rfl rfl h4, va_Nw.same rfl rfl h5, va_Nw.same rfl rfl h6, va_Nw.same rfl rfl h7⟩
theorem zi_N.warm {s U : State} (hW : s.WarmedH U.vm) (h : zi_N s) : zi_N U := by
  obtain ⟨h1, h2, h3, h4, h5, h6, h7⟩ := h
  exact ⟨h1.moved hW.alike, h2.moved hW.alike, h3.moved hW.alike, va_Nw.warmM hW h4, va_Nw.warmM hW h5, va_Nw.warmM hW h6, va_Nw.warmM hW h7⟩
theorem zl_apart {A : Nat → Prop} {ws : va_W} (h : va_D A ws) : zw_apart (ws.map (·.1)) := by
  intro i j a hi hj
  rw [List.getElem?_map] at hi hj
  cases e1 : ws[i]? with
  | none => rw [e1] at hi; cases hi
  | some x =>
    cases e2 : ws[j]? with
    | none => rw [e2] at hj; cases hj
    | some y =>
      rw [e1] at hi
      rw [e2] at hj
      exact h.1 i j x y e1 e2 ((Option.some.inj hi).trans (Option.some.inj hj).symm)
theorem zl_dis {A : Nat → Prop} {w1 w2 : va_W} (h : va_D A (w1 ++ w2)) (q : Nat) (h1 : q ∈ w1.map (·.1)) (h2 : q ∈ w2.map (·.1)) : False := by
  obtain ⟨x, hx, ex⟩ := List.mem_map.mp h1
  obtain ⟨y, hy, ey⟩ := List.mem_map.mp h2
  obtain ⟨i, hi⟩ := List.getElem?_of_mem hx
  obtain ⟨j, hj⟩ := List.getElem?_of_mem hy
  have li := (List.getElem?_eq_some_iff.mp hi).1
  have := h.1 i (w1.length + j) x y (by rw [List.getElem?_append_left li]; exact hi) (by rw [List.getElem?_append_right (Nat.le_add_right _ _), Nat.add_sub_cancel_left]; exact hj) (ex.trans ey.symm)
  omega
theorem zl_in {A : Nat → Prop} {ws : va_W} (h : va_D A ws) (q : Nat) (h1 : q ∈ ws.map (·.1)) : A q := by
  obtain ⟨x, hx, ex⟩ := List.mem_map.mp h1
  obtain ⟨i, hi⟩ := List.getElem?_of_mem hx
  rw [← ex]
  exact h.2 i x hi
theorem zl_big {b : Nat} {s : State} (h : ∀ w ∈ lw_tbl, w.before #[Value.ref b] s = true) : ∀ w ∈ zw_big, w.before #[Value.ref b] s = true := fun w hw => h w ((List.mem_append.mp hw).elim (fun h => List.mem_append_left _ h) (fun h => List.mem_append_right _ (List.mem_filter.mp h).1))
set_option maxHeartbeats 8000000 in
set_option maxRecDepth 100000 in
theorem whole_start {p : Program} {e : Env} {s : State} {m : MethodId} {below : List Frame} {meth : Method} {c : Code} (l : Launch) {b L : Nat} {xs : Nat → Int32} (hL : L ≤ 2560) (C0 : lw_At p s m meth c b L xs) : W p l e room_1 s m #[Value.ref b] below meth c s.heap [] 0 0 (lw_Z below #[Value.ref b] s) (entryFrame m ([Value.ref b] : List Value).toArray 4) := by
  obtain ⟨hx, hb, hr, hml, hown, hts0, hX, hbl, hlk, -⟩ := C0
  have hts := zl_big hts0
  have F : CallFix p m c nc_L_law 4 s #[Value.ref b] zw_big "DayEndBankLaw" := ⟨hx, hb, hml, hown, hts⟩
  obtain ⟨D, hK⟩ := zl_known hts
  have hN : zi_N s := ⟨va_AO.of (hts0 _ (List.mem_append_right _ (List.mem_append_left _ (List.mem_of_getElem? (i := 20) (by decide +kernel))))), va_AO.of (hts0 _ (List.mem_append_right _ (List.mem_append_left _ (List.mem_of_getElem? (i := 22) (by decide +kernel))))), va_AO.of (hts0 _ (List.mem_append_right _ (List.mem_append_left _ (List.mem_of_getElem? (i := 24) (by decide +kernel))))), va_Nw.of rfl (hts0 _ (List.mem_append_right _ (List.mem_append_left _ (List.mem_of_getElem? (i := 27) (by decide +kernel))))), va_Nw.of rfl (hts0 _ (List.mem_append_right _ (List.mem_append_left _ (List.mem_of_getElem? (i := 41) (by decide +kernel))))), va_Nw.of rfl (hts0 _ (List.mem_append_right _ (List.mem_append_left _ (List.mem_of_getElem? (i := 111) (by decide +kernel))))), va_Nw.of rfl (hts0 _ (List.mem_append_right _ (List.mem_append_left _ (List.mem_of_getElem? (i := 125) (by decide +kernel)))))⟩
  have hA : ∀ q : Nat, s.heap.size ≤ q → zl_A s q := fun q h => h
  have hS : va_S (zl_A s) s.heap s.heap [] := va_S.rf
  have hP : va_P D vwCl [] s.heap := fun k q h => by simp at h
  have hD : va_D (zl_A s) [] := ⟨fun i j x y h => by simp at h, fun k q h => by simp at h⟩
  have hl := lv_entry ([.ref b]) (n := 4) (Nat.le_of_ble_eq_true rfl)
  rw [lg_entry_eq]
  generalize (lg_sl ([.ref b]) ++ List.replicate (4 - (lg_sl ([.ref b])).length) Slot.unset).toArray = ls at hl ⊢
  have hl : lv_has ls 4 [(0, .ref b)] := hl
  refine va_new (ci := 0) (fs := [.null, .null, .null, .null, .null, .null, .null, .int 0, .int 0, .int 0, .int 0]) (C := nR_B) (T := nT_B) (N := 11) hx hb hts zw_inB nt_B zw_tyB hown (hts _ nx_11) (hts _ nx_12) (hts _ nw_1) hK hP hD hS hA rfl (fun j hj => by rcases (show j = 0 ∨ j = 1 ∨ j = 2 ∨ j = 3 ∨ j = 4 ∨ j = 5 ∨ j = 6 ∨ j = 7 ∨ j = 8 ∨ j = 9 ∨ j = 10 by omega) with rfl | rfl | rfl | rfl | rfl | rfl | rfl | rfl | rfl | rfl | rfl <;> rfl) (Nat.le_of_ble_eq_true rfl) (Nat.le_of_ble_eq_true rfl) nd_L_law_0 (fun q1 H1 hP hD hS => ?_)
  have hP : va_P D vwCl (zb_new q1) H1 := hP
  have hD : va_D (zl_A s) (zb_new q1) := hD
  refine lv_dup hx hb nd_L_law_3 rfl ?_
  have hFc := va_free (wc := zb_new q1) hD hS hA [0] rfl
  refine va_callv (va_runI (As := []) (b := q1) (rest := [.ref q1]) F (c_B_init l D q1 H1.size) (cwI 0 hts (zw_good nw_15) rfl rfl rfl (hts _ nw_1) (hts _ nw_13) (hts _ nw_14) rfl (by decide +kernel) ⟨Nat.le_of_ble_eq_true rfl, Nat.le_of_ble_eq_true rfl⟩) ⟨fun a U g mk q => by obtain ⟨q0, q1, qP, qK, qD, qN⟩ := q; exact ⟨q0, q1, qP, va_K.moved (u := U) (U := U.calling g mk a) (Vm.Alike.refl U.vm) qK, qD, qN.calling g mk a⟩, fun U hU hW => ⟨rfl, by rw [hU], by rw [hU]; exact hP, va_K.moved hW.alike hK, hD.weaken (fun _ _ _ _ => trivial), hN.warm hW⟩⟩ rfl rfl hl.1 rfl (lv_room (Nat.le_of_ble_eq_true rfl)) nd_L_law_4 ⟨Nat.le_of_ble_eq_true rfl, Nat.le_of_ble_eq_true rfl⟩) hS (fun q _ h => hFc q h) hFc (fun G t H2 locs ht hvm hw hB hz1 hk1 hS => ?_)
  obtain ⟨hPb, hKb, hDb⟩ := hB
  rw [ht] at hPb
  have hKb := va_K.moved hvm.symm hKb
  have hDb9 := hDb.weaken (B := zl_A s) (fun k q _ h => hFc q.1 h)
  have hw : zg_bnk G = q1 := hw
  subst hw
  refine lv_astore_n hx hb nd_L_law_7 rfl hl (by decide) rfl (fun ls hl => ?_)
  have hl : lv_has ls 4 [(1, .ref (zg_bnk G)), (0, .ref b)] := hl
  refine va_new (ci := 6) (fs := [.int 0, .null, .null, .null, .null, .null, .null, .null, .null, .null, .int 0, .null, .null, .null, .null, .null, .int 0, .null, .null, .null, .int 0, .int 0, .int 0, .int 0, .int 0, .int 0, .int 0, .int 0, .int 0, .int 0, .int 0]) (C := nR_M) (T := nT_M) (N := 31) hx hb hts zw_inM nt_M zw_tyM hown (hts _ nx_461) (hts _ nx_462) (hts _ nw_7) hK hPb hDb9 hS hA rfl (fun j hj => by rcases (show j = 0 ∨ j = 1 ∨ j = 2 ∨ j = 3 ∨ j = 4 ∨ j = 5 ∨ j = 6 ∨ j = 7 ∨ j = 8 ∨ j = 9 ∨ j = 10 ∨ j = 11 ∨ j = 12 ∨ j = 13 ∨ j = 14 ∨ j = 15 ∨ j = 16 ∨ j = 17 ∨ j = 18 ∨ j = 19 ∨ j = 20 ∨ j = 21 ∨ j = 22 ∨ j = 23 ∨ j = 24 ∨ j = 25 ∨ j = 26 ∨ j = 27 ∨ j = 28 ∨ j = 29 ∨ j = 30 by omega) with rfl | rfl | rfl | rfl | rfl | rfl | rfl | rfl | rfl | rfl | rfl | rfl | rfl | rfl | rfl | rfl | rfl | rfl | rfl | rfl | rfl | rfl | rfl | rfl | rfl | rfl | rfl | rfl | rfl | rfl | rfl <;> rfl) (Nat.le_of_ble_eq_true rfl) (Nat.le_of_ble_eq_true rfl) nd_L_law_8 (fun q2 H3 hP hD hS => ?_)
  refine lv_dup hx hb nd_L_law_11 rfl ?_
  have hPc := hP.sub (ws' := zm_new q2) [29] rfl
  have hDc := hD.sub (ws' := zm_new q2) [29] (by decide) rfl
  have hFc := va_free (wc := zm_new q2) hD hS hA [29] rfl
  refine va_callv (va_runI (As := []) (b := q2) (rest := [.ref q2]) F (c_M_init l D q2 H3.size) (cwI 0 hts (zw_good nw_465) rfl rfl rfl (hts _ nw_7) (hts _ nw_463) (hts _ nw_464) rfl (by decide +kernel) ⟨Nat.le_of_ble_eq_true rfl, Nat.le_of_ble_eq_true rfl⟩) ⟨fun a U g mk q => by obtain ⟨q0, q1, qP, qK, qD⟩ := q; exact ⟨q0, q1, qP, va_K.moved (u := U) (U := U.calling g mk a) (Vm.Alike.refl U.vm) qK, qD⟩, fun U hU hW => ⟨rfl, by rw [hU], by rw [hU]; exact hPc, va_K.moved hW.alike hK, hDc.weaken (fun _ _ _ _ => trivial)⟩⟩ rfl rfl hl.1 rfl (lv_room (Nat.le_of_ble_eq_true rfl)) nd_L_law_12 ⟨Nat.le_of_ble_eq_true rfl, Nat.le_of_ble_eq_true rfl⟩) hS (fun q _ h => hFc q h) hFc (fun K t H4 locs ht hvm hw hB hz1 hk1 hS => ?_)
  obtain ⟨hPm, hKm, hDm⟩ := hB
  rw [ht] at hPm
  have hKm := va_K.moved hvm.symm hKm
  obtain ⟨hP, hD⟩ := va_join (wr := zb_cells G zb_S0) (w1 := zm_cells K zm_T0 (0, 0, 0)) hP hD [29] [0, 1, 2, 3, 4, 5, 6, 7, 8, 9, 10, 11, 12, 13, 14, 15, 16, 17, 18, 19, 20, 21, 22, 23, 24, 25, 26, 27, 28] rfl rfl (by decide) (by decide) hk1 hFc hPm hDm
  have hPb : va_P D vwCl (zb_cells G zb_S0) H4 := hP.sub [0, 1, 2, 3, 4, 5, 6, 7, 8, 9, 10, 11, 12, 13, 14, 15, 16, 17, 18, 19, 20, 21, 22, 23, 24, 25, 26, 27, 28] rfl
  have hF : zl_F D G K s := ⟨zl_apart hDb9, zl_apart (hDm), fun q h1 h2 => zl_dis hD q h1 h2, fun q h => zl_in hDb9 q h, fun q h => hFc q (zl_in hDm q h), hKb, hKm⟩
  have hw : zh_mdl K = q2 := hw
  subst hw
  refine lv_astore_n hx hb nd_L_law_15 rfl hl (by decide) rfl (fun ls hl => ?_)
  refine lv_iconst (v := nI (5 * 0)) hx hb nd_L_law_16 (by decide) ?_
  refine lv_istore_n hx hb nd_L_law_17 rfl hl (by decide) rfl (fun ls hl => ?_)
  rw [← zs_B0] at hPb
  exact zl_loop F hr hlk hX hbl hL hF zs_J0 hPb hPm hS hl ⟨Nat.le_of_ble_eq_true rfl, Nat.le_of_ble_eq_true rfl⟩
