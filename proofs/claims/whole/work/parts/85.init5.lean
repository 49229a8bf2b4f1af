/-! CONSTRUCTORS: calls of the constructors of nest mates; a turn of each of the bank's three loops. Written by mk_binit.py. -/
theorem nx_19 : Cond.classLink "DayEndBank" 9 "DayEndBank$Account" ∈ zw_big := zw_mem (List.mem_append_left _ (List.mem_of_getElem? (i := 19) (by decide +kernel))) (by decide +kernel)
theorem nx_69 : Cond.instantiable "DayEndBank$Account" 9 ∈ zw_big := zw_mem (List.mem_append_left _ (List.mem_of_getElem? (i := 69) (by decide +kernel))) (by decide +kernel)
theorem nx_21 : Cond.classLink "DayEndBank" 15 "DayEndBank$Hold" ∈ zw_big := zw_mem (List.mem_append_left _ (List.mem_of_getElem? (i := 21) (by decide +kernel))) (by decide +kernel)
theorem nx_110 : Cond.instantiable "DayEndBank$Hold" 2 ∈ zw_big := zw_mem (List.mem_append_left _ (List.mem_of_getElem? (i := 110) (by decide +kernel))) (by decide +kernel)
theorem nx_23 : Cond.classLink "DayEndBank" 21 "DayEndBank$Order" ∈ zw_big := zw_mem (List.mem_append_left _ (List.mem_of_getElem? (i := 23) (by decide +kernel))) (by decide +kernel)
theorem nx_124 : Cond.instantiable "DayEndBank$Order" 7 ∈ zw_big := zw_mem (List.mem_append_left _ (List.mem_of_getElem? (i := 124) (by decide +kernel))) (by decide +kernel)
theorem nx_25 : Cond.classLink "DayEndBank" 27 "DayEndBank$RestDays" ∈ zw_big := zw_mem (List.mem_append_left _ (List.mem_of_getElem? (i := 25) (by decide +kernel))) (by decide +kernel)
theorem nx_26 : Cond.instantiable "DayEndBank$RestDays" 2 ∈ zw_big := zw_mem (List.mem_append_left _ (List.mem_of_getElem? (i := 26) (by decide +kernel))) (by decide +kernel)
theorem nx_39 : Cond.classLink "DayEndBank" 34 "DayEndBank$Disk" ∈ zw_big := zw_mem (List.mem_append_left _ (List.mem_of_getElem? (i := 39) (by decide +kernel))) (by decide +kernel)
theorem nx_40 : Cond.instantiable "DayEndBank$Disk" 6 ∈ zw_big := zw_mem (List.mem_append_left _ (List.mem_of_getElem? (i := 40) (by decide +kernel))) (by decide +kernel)
theorem zi_swap {D : va_G} {H : Heap} {ws : va_W} {k r n : Nat} {cA : ClassId} {f g : Nat → Option Nat} (hP : va_P D vwCl ws H) (hk : ws[k]? = some (r, .inl (cA, n, .inr (.inr (.inr (.inr f)))))) (h : ∀ j, j < n → f j = g j) : va_P D vwCl (ws.set k (r, .inl (cA, n, .inr (.inr (.inr (.inr g)))))) H := by
  intro j x hx
  by_cases hj : j = k
  · subst hj
    rw [List.getElem?_set_self (List.getElem?_eq_some_iff.mp hk).1] at hx
    cases hx
    have h1 : H[r]? = some (vp_cell cA (n, .inr (.inr (.inr (.inr f))))) := hP j _ hk
    show H[r]? = some (vp_cell cA (n, .inr (.inr (.inr (.inr g)))))
    rw [h1, vp_cell_q, vp_cell_q]
    have e : (fun t : Fin n => va_rf (f t.val)) = (fun t : Fin n => va_rf (g t.val)) := funext (fun t => by rw [h t.val t.isLt])
    show some ({ cls := cA, slots := Array.ofFn (n := n) (fun t => va_rf (f t.val)), vm := .none } : Cell) = some ({ cls := cA, slots := Array.ofFn (n := n) (fun t => va_rf (g t.val)), vm := .none } : Cell)
    rw [e]
  · rw [List.getElem?_set_ne (Ne.symm hj)] at hx
    exact hP j x hx
section ZI
variable {p : Program} {l : Launch} {e : Env} {R : Room} {s : State} {m : MethodId} {args : Array Value} {below : List Frame} {meth : Method} {c : Code} {H : Heap} {locs : List Loc} {cells slots : Nat} {Q : State → Prop}
variable {pc : Nat} {ls : Array Slot} {rest st0 : List Value} {vo : Option Value} {PX : Heap → Prop} {A A1 : Nat → Prop} {H0 : Heap} {a : Array Value} {D : va_G} {tys : List (ClassId × FieldType)} {ws : va_W}
theorem zl_cW (hr : CallRun p l e R s m args below meth c H locs cells slots 0 0 (F0 m pc ls st0) rest (zw_Q vo PX A1 a) A1) (hS : va_S A H0 H locs) (hA : ∀ q, A1 q → A q)
    (kk : ∀ (H1 : Heap) (locs1 : List Loc), PX H1 → (∀ q, q < H.size → ¬ A1 q → H1[q]? = H[q]?) → va_S A H0 H1 locs1 → W p l e R s m args below meth c H1 locs1 cells slots Q (F0 m (pc + 3) ls (vo.toList ++ rest))) : W p l e R s m args below meth c H locs cells slots Q (F0 m pc ls st0) := by
  intro T hT X
  obtain ⟨v', st₀, t, T', L, h0, X', hL, e1, ⟨hv, hp, hz, hk⟩, st⟩ := hr T hT X
  cases hv
  rw [h0] at hz hk
  obtain ⟨t2, a1, b1⟩ := kk T'.heap (locs ++ L) (by rw [e1]; exact hp) (fun q h1 h2 => by rw [e1]; exact hk q h1 h2)
    ⟨Nat.le_trans hS.1 (by rw [e1]; exact hz), fun q h1 h2 => by rw [e1, hk q (Nat.lt_of_lt_of_le h1 hS.1) (fun z => h2 (hA q z))]; exact hS.2.1 q h1 h2, fun q hq => by
      rcases List.mem_append.mp hq with h | h
      · exact hS.2.2 q h
      · exact hA _ (hL q h)⟩ T' rfl X'
  exact ⟨t2, st t2 a1, b1⟩
theorem zi_cR (hr : CallRun p l e R s m args below meth c H locs cells slots 0 0 (F0 m pc ls st0) rest (zw_Rn a) (fun _ => False)) (kk : W p l e R s m args below meth c H locs cells slots Q (F0 m (pc + 3) ls rest)) : W p l e R s m args below meth c H locs cells slots Q (F0 m pc ls st0) := by
  intro T hT X
  obtain ⟨v', st₀, t, T', L, h0, X', hL, e1, ⟨hv, hh⟩, st⟩ := hr T hT X
  cases hv
  obtain ⟨t2, a1, b1⟩ := kk T' (by rw [e1, hh, h0]) (Stand.forget X' (fun q h => (hL q h).elim))
  exact ⟨t2, st t2 a1, b1⟩
theorem zi_c1 {q k : Nat} {e0 e1 : va_E} (hr : CallRun p l e R s m args below meth c H locs cells slots 0 0 (F0 m pc ls st0) rest (zw_Q none (va_P D vwCl [(q, e1)]) (fun x => x ∈ [q]) a) (fun x => x ∈ [q])) (hP : va_P D vwCl ws H) (hD : va_D A ws) (hk : ws[k]? = some (q, e0)) (hS : va_S A H0 H locs)
    (kk : ∀ (H1 : Heap) (locs1 : List Loc), va_P D vwCl (ws.set k (q, e1)) H1 → va_D A (ws.set k (q, e1)) → va_S A H0 H1 locs1 → W p l e R s m args below meth c H1 locs1 cells slots Q (F0 m (pc + 3) ls rest)) : W p l e R s m args below meth c H locs cells slots Q (F0 m pc ls st0) := by
  refine zl_cW hr hS (fun x hx => ?_) (fun H1 locs1 hP1 hk1 hS1 => kk H1 locs1 ?_ (hD.set hk) hS1)
  · rw [List.mem_singleton.mp hx]
    exact hD.2 k _ hk
  · intro j x hx
    by_cases hj : j = k
    · subst hj
      rw [List.getElem?_set_self (List.getElem?_eq_some_iff.mp hk).1] at hx
      cases hx
      exact hP1 0 _ rfl
    · rw [List.getElem?_set_ne (Ne.symm hj)] at hx
      exact (hP j x hx).kept (hk1 x.1 ((hP j x hx).lt) (fun h => hj (hD.1 j k x (q, e0) hx hk (List.mem_singleton.mp h))))
set_option maxHeartbeats 4000000 in
set_option maxRecDepth 100000 in
theorem zi_itA {i r a : Nat} {fs : List Value} {cA : ClassId} {f : Nat → Option Nat} (hi : i < 6) (F : CallFix p m c nc_B_init 2 s args zw_big "DayEndBank") (hK : va_K D vwCl tys s) (hP : va_P D vwCl ws H) (hD : va_D A ws) (hS : va_S A H0 H locs) (hA : ∀ q, H0.size ≤ q → A q) (h0 : ws[0]? = some (a, .inr (0, fs))) (hf : fs[0]? = some (.ref r)) (h1 : ws[1]? = some (r, .inl (cA, 6, .inr (.inr (.inr (.inr (f))))))) (ht : tys[0]? = some (cA, .object "DayEndBank$Account")) (hl : lv_has ls 2 [(1, .int (nI i)), (0, .ref a)]) (hcells : cells + 1 ≤ R.cells) (hslots : slots + 9 ≤ R.slots) (hR : 2 ≤ R.frames ∧ 33 ≤ R.locals)
    (kk : ∀ (q : Nat) (H1 : Heap) (locs1 : List Loc) (ls1 : Array Slot), va_P D vwCl ((ws ++ ([(q, .inr (1, [.int (nI i), .int 0, .int 0, .int 0, .int 0, .long 0, .long 0, .long 0, .int 0]))] : va_W)).set 1 (r, .inl (cA, 6, .inr (.inr (.inr (.inr (va_up f i (some q)))))))) H1 → va_D A ((ws ++ ([(q, .inr (1, [.int (nI i), .int 0, .int 0, .int 0, .int 0, .long 0, .long 0, .long 0, .int 0]))] : va_W)).set 1 (r, .inl (cA, 6, .inr (.inr (.inr (.inr (va_up f i (some q)))))))) → va_S A H0 H1 locs1 → lv_has ls1 2 [(1, .int (nI (i + 1))), (0, .ref a)] → W p l e R s m args below meth c H1 locs1 (cells + 1) (slots + 9) Q (F0 m 69 ls1 [])) : W p l e R s m args below meth c H locs cells slots Q (F0 m 69 ls []) := by
  have hx := F.1
  have hb := F.2.1
  have hown := F.2.2.2.1
  have hts := F.2.2.2.2
  have hn : 1 < ws.length := (List.getElem?_eq_some_iff.mp h1).1
  refine lv_iload_n hx hb nd_B_init_69 rfl (zv_at hl 1 rfl) ?_
  refine lv_bipush (v := 6) hx hb nd_B_init_70 (by decide) ?_
  refine lv_icmp_ge (tgt := 95) hx hb nd_B_init_72 (by decide) (fun h => absurd h (by rw [show (6 : Int32) = nI 6 by decide]; exact nI_ge hi (by decide))) (fun _ => ?_)
  refine lv_aload_n hx hb nd_B_init_75 rfl (zv_at hl 0 rfl) ?_
  refine va_get (ci := 0) (C := nR_B) (T := nT_B) (N := 11) hx hb hts zw_inB hown hK hP 0 h0 rfl 0 (by decide) (hts _ nw_155) (fun _ h => h) hf nd_B_init_76 ?_
  refine lv_iload_n hx hb nd_B_init_79 rfl (zv_at hl 1 rfl) ?_
  refine va_new (ci := 1) (fs := [.int 0, .int 0, .int 0, .int 0, .int 0, .long 0, .long 0, .long 0, .int 0]) (C := nR_A) (T := nT_A) (N := 9) hx hb hts zw_inA nt_A zw_tyA hown (hts _ nx_19) (hts _ nx_69) (hts _ nw_4) hK hP hD hS hA rfl (fun j hj => by rcases (show j = 0 ∨ j = 1 ∨ j = 2 ∨ j = 3 ∨ j = 4 ∨ j = 5 ∨ j = 6 ∨ j = 7 ∨ j = 8 by omega) with rfl | rfl | rfl | rfl | rfl | rfl | rfl | rfl | rfl <;> rfl) hcells hslots nd_B_init_80 (fun q H1 hP hD hS => ?_)
  refine lv_dup hx hb nd_B_init_83 rfl ?_
  refine lv_iload_n hx hb nd_B_init_84 rfl (zv_at hl 1 rfl) ?_
  have hPc : va_P D vwCl [(q, .inr (1, [.int 0, .int 0, .int 0, .int 0, .int 0, .long 0, .long 0, .long 0, .int 0]))] H1 := hP.sub [ws.length] (by simp)
  have hk : (ws ++ ([(q, .inr (1, [.int 0, .int 0, .int 0, .int 0, .int 0, .long 0, .long 0, .long 0, .int 0]))] : va_W))[ws.length]? = some (q, .inr (1, [.int 0, .int 0, .int 0, .int 0, .int 0, .long 0, .long 0, .long 0, .int 0])) := by simp
  refine zi_c1 (q := q) (k := ws.length) (va_runI (As := [.int (nI i)]) (b := q) (rest := [.ref q, .int (nI i), .ref r]) F (c_A_init l D q (nI i)) (cwI 1 hts (zw_good nw_72) rfl rfl rfl (hts _ nw_4) (hts _ nw_70) (hts _ nw_71) rfl (by decide +kernel) ⟨hR.1, hR.2⟩) (zw_preS (As := [.ref q, .int (nI i)]) hPc (hK.sub [] rfl)) rfl rfl hl.1 rfl (lv_room (Nat.le_of_ble_eq_true rfl)) nd_B_init_85 ⟨hcells, hslots⟩).run hP hD hk hS (fun H2 locs2 hP hD hS => ?_)
  have hW : (ws ++ ([(q, .inr (1, [.int 0, .int 0, .int 0, .int 0, .int 0, .long 0, .long 0, .long 0, .int 0]))] : va_W)).set ws.length (q, .inr (1, [.int (nI i), .int 0, .int 0, .int 0, .int 0, .long 0, .long 0, .long 0, .int 0])) = ws ++ ([(q, .inr (1, [.int (nI i), .int 0, .int 0, .int 0, .int 0, .long 0, .long 0, .long 0, .int 0]))] : va_W) := by rw [List.set_append_right _ _ (Nat.le_refl _), Nat.sub_self, List.set_cons_zero]
  rw [hW] at hP hD
  refine va_astq (r := (nR_A, nT_A, 9)) (v := q) (vs := [.int (nI i), .int 0, .int 0, .int 0, .int 0, .long 0, .long 0, .long 0, .int 0]) hx hb hK hP hD hS 1 0 ws.length 1 (by rw [List.getElem?_append_left hn]; exact h1) ht (by simp) rfl (i := nI i) (nI_in hi (by decide)) nd_B_init_88 (fun H3 locs3 hP hD hS => ?_)
  rw [nI_clamp (by omega)] at hP hD
  refine zv_iinc (v := nI (i + 1)) hx hb nd_B_init_89 hl rfl (nI_1 i) (by decide) rfl (fun ls hl => ?_)
  refine lv_goto (tgt := 69) hx hb nd_B_init_92 (by decide) ?_
  exact kk q H3 locs3 ls hP hD hS hl
set_option maxHeartbeats 4000000 in
set_option maxRecDepth 100000 in
theorem zi_itH {i r a : Nat} {fs : List Value} {cA : ClassId} {f : Nat → Option Nat} (hi : i < 8) (F : CallFix p m c nc_B_init 2 s args zw_big "DayEndBank") (hN : va_Nw (.methodLinkNest "DayEndBank" 51 ny_H_init "DayEndBank") s) (hK : va_K D vwCl tys s) (hP : va_P D vwCl ws H) (hD : va_D A ws) (hS : va_S A H0 H locs) (hA : ∀ q, H0.size ≤ q → A q) (h0 : ws[0]? = some (a, .inr (0, fs))) (hf : fs[1]? = some (.ref r)) (h1 : ws[2]? = some (r, .inl (cA, 8, .inr (.inr (.inr (.inr (f))))))) (ht : tys[1]? = some (cA, .object "DayEndBank$Hold")) (hl : lv_has ls 2 [(1, .int (nI i)), (0, .ref a)]) (hcells : cells + 1 ≤ R.cells) (hslots : slots + 2 ≤ R.slots) (hR : 2 ≤ R.frames ∧ 33 ≤ R.locals)
    (kk : ∀ (q : Nat) (H1 : Heap) (locs1 : List Loc) (ls1 : Array Slot), va_P D vwCl ((ws ++ ([(q, .inr (2, [.null, .int 0]))] : va_W)).set 2 (r, .inl (cA, 8, .inr (.inr (.inr (.inr (va_up f i (some q)))))))) H1 → va_D A ((ws ++ ([(q, .inr (2, [.null, .int 0]))] : va_W)).set 2 (r, .inl (cA, 8, .inr (.inr (.inr (.inr (va_up f i (some q)))))))) → va_S A H0 H1 locs1 → lv_has ls1 2 [(1, .int (nI (i + 1))), (0, .ref a)] → W p l e R s m args below meth c H1 locs1 (cells + 1) (slots + 2) Q (F0 m 97 ls1 [])) : W p l e R s m args below meth c H locs cells slots Q (F0 m 97 ls []) := by
  have hx := F.1
  have hb := F.2.1
  have hown := F.2.2.2.1
  have hts := F.2.2.2.2
  have hn : 2 < ws.length := (List.getElem?_eq_some_iff.mp h1).1
  refine lv_iload_n hx hb nd_B_init_97 rfl (zv_at hl 1 rfl) ?_
  refine lv_bipush (v := 8) hx hb nd_B_init_98 (by decide) ?_
  refine lv_icmp_ge (tgt := 122) hx hb nd_B_init_100 (by decide) (fun h => absurd h (by rw [show (8 : Int32) = nI 8 by decide]; exact nI_ge hi (by decide))) (fun _ => ?_)
  refine lv_aload_n hx hb nd_B_init_103 rfl (zv_at hl 0 rfl) ?_
  refine va_get (ci := 0) (C := nR_B) (T := nT_B) (N := 11) hx hb hts zw_inB hown hK hP 0 h0 rfl 1 (by decide) (hts _ nw_156) (fun _ h => h) hf nd_B_init_104 ?_
  refine lv_iload_n hx hb nd_B_init_107 rfl (zv_at hl 1 rfl) ?_
  refine va_new (ci := 2) (fs := [.null, .int 0]) (C := nR_H) (T := nT_H) (N := 2) hx hb hts zw_inH nt_H zw_tyH hown (hts _ nx_21) (hts _ nx_110) (hts _ nw_5) hK hP hD hS hA rfl (fun j hj => by rcases (show j = 0 ∨ j = 1 by omega) with rfl | rfl <;> rfl) hcells hslots nd_B_init_108 (fun q H1 hP hD hS => ?_)
  refine lv_dup hx hb nd_B_init_111 rfl ?_
  refine zi_cR (va_runIN (As := []) (b := q) (rest := [.ref q, .int (nI i), .ref r]) F (c_H_init l q) ⟨va_cnB 0 hts (zw_good nw_113) rfl rfl rfl hN (hts _ nw_5) (by decide +kernel) ⟨hR.1, Nat.le_trans (by decide) hR.2⟩, rfl, hts _ nw_112⟩ (zw_preN (As := [.ref q])) rfl rfl hl.1 rfl (lv_room (Nat.le_of_ble_eq_true rfl)) nd_B_init_112 ⟨hcells, hslots⟩).run ?_
  refine va_astq (r := (nR_H, nT_H, 2)) (v := q) (vs := [.null, .int 0]) hx hb hK hP hD hS 2 1 ws.length 2 (by rw [List.getElem?_append_left hn]; exact h1) ht (by simp) rfl (i := nI i) (nI_in hi (by decide)) nd_B_init_115 (fun H3 locs3 hP hD hS => ?_)
  rw [nI_clamp (by omega)] at hP hD
  refine zv_iinc (v := nI (i + 1)) hx hb nd_B_init_116 hl rfl (nI_1 i) (by decide) rfl (fun ls hl => ?_)
  refine lv_goto (tgt := 97) hx hb nd_B_init_119 (by decide) ?_
  exact kk q H3 locs3 ls hP hD hS hl
set_option maxHeartbeats 4000000 in
set_option maxRecDepth 100000 in
theorem zi_itO {i r a : Nat} {fs : List Value} {cA : ClassId} {f : Nat → Option Nat} (hi : i < 6) (F : CallFix p m c nc_B_init 2 s args zw_big "DayEndBank") (hN : va_Nw (.methodLinkNest "DayEndBank" 52 ny_O_init "DayEndBank") s) (hK : va_K D vwCl tys s) (hP : va_P D vwCl ws H) (hD : va_D A ws) (hS : va_S A H0 H locs) (hA : ∀ q, H0.size ≤ q → A q) (h0 : ws[0]? = some (a, .inr (0, fs))) (hf : fs[2]? = some (.ref r)) (h1 : ws[3]? = some (r, .inl (cA, 6, .inr (.inr (.inr (.inr (f))))))) (ht : tys[2]? = some (cA, .object "DayEndBank$Order")) (hl : lv_has ls 2 [(1, .int (nI i)), (0, .ref a)]) (hcells : cells + 1 ≤ R.cells) (hslots : slots + 7 ≤ R.slots) (hR : 2 ≤ R.frames ∧ 33 ≤ R.locals)
    (kk : ∀ (q : Nat) (H1 : Heap) (locs1 : List Loc) (ls1 : Array Slot), va_P D vwCl ((ws ++ ([(q, .inr (3, [.null, .null, .int 0, .int 0, .int 0, .int 0, .int 0]))] : va_W)).set 3 (r, .inl (cA, 6, .inr (.inr (.inr (.inr (va_up f i (some q)))))))) H1 → va_D A ((ws ++ ([(q, .inr (3, [.null, .null, .int 0, .int 0, .int 0, .int 0, .int 0]))] : va_W)).set 3 (r, .inl (cA, 6, .inr (.inr (.inr (.inr (va_up f i (some q)))))))) → va_S A H0 H1 locs1 → lv_has ls1 2 [(1, .int (nI (i + 1))), (0, .ref a)] → W p l e R s m args below meth c H1 locs1 (cells + 1) (slots + 7) Q (F0 m 124 ls1 [])) : W p l e R s m args below meth c H locs cells slots Q (F0 m 124 ls []) := by
  have hx := F.1
  have hb := F.2.1
  have hown := F.2.2.2.1
  have hts := F.2.2.2.2
  have hn : 3 < ws.length := (List.getElem?_eq_some_iff.mp h1).1
  refine lv_iload_n hx hb nd_B_init_124 rfl (zv_at hl 1 rfl) ?_
  refine lv_bipush (v := 6) hx hb nd_B_init_125 (by decide) ?_
  refine lv_icmp_ge (tgt := 149) hx hb nd_B_init_127 (by decide) (fun h => absurd h (by rw [show (6 : Int32) = nI 6 by decide]; exact nI_ge hi (by decide))) (fun _ => ?_)
  refine lv_aload_n hx hb nd_B_init_130 rfl (zv_at hl 0 rfl) ?_
  refine va_get (ci := 0) (C := nR_B) (T := nT_B) (N := 11) hx hb hts zw_inB hown hK hP 0 h0 rfl 2 (by decide) (hts _ nw_157) (fun _ h => h) hf nd_B_init_131 ?_
  refine lv_iload_n hx hb nd_B_init_134 rfl (zv_at hl 1 rfl) ?_
  refine va_new (ci := 3) (fs := [.null, .null, .int 0, .int 0, .int 0, .int 0, .int 0]) (C := nR_O) (T := nT_O) (N := 7) hx hb hts zw_inO nt_O zw_tyO hown (hts _ nx_23) (hts _ nx_124) (hts _ nw_6) hK hP hD hS hA rfl (fun j hj => by rcases (show j = 0 ∨ j = 1 ∨ j = 2 ∨ j = 3 ∨ j = 4 ∨ j = 5 ∨ j = 6 by omega) with rfl | rfl | rfl | rfl | rfl | rfl | rfl <;> rfl) hcells hslots nd_B_init_135 (fun q H1 hP hD hS => ?_)
  refine lv_dup hx hb nd_B_init_138 rfl ?_
  refine zi_cR (va_runIN (As := []) (b := q) (rest := [.ref q, .int (nI i), .ref r]) F (c_O_init l q) ⟨va_cnB 0 hts (zw_good nw_127) rfl rfl rfl hN (hts _ nw_6) (by decide +kernel) ⟨hR.1, Nat.le_trans (by decide) hR.2⟩, rfl, hts _ nw_126⟩ (zw_preN (As := [.ref q])) rfl rfl hl.1 rfl (lv_room (Nat.le_of_ble_eq_true rfl)) nd_B_init_139 ⟨hcells, hslots⟩).run ?_
  refine va_astq (r := (nR_O, nT_O, 7)) (v := q) (vs := [.null, .null, .int 0, .int 0, .int 0, .int 0, .int 0]) hx hb hK hP hD hS 3 2 ws.length 3 (by rw [List.getElem?_append_left hn]; exact h1) ht (by simp) rfl (i := nI i) (nI_in hi (by decide)) nd_B_init_142 (fun H3 locs3 hP hD hS => ?_)
  rw [nI_clamp (by omega)] at hP hD
  refine zv_iinc (v := nI (i + 1)) hx hb nd_B_init_143 hl rfl (nI_1 i) (by decide) rfl (fun ls hl => ?_)
  refine lv_goto (tgt := 124) hx hb nd_B_init_146 (by decide) ?_
  exact kk q H3 locs3 ls hP hD hS hl
end ZI
