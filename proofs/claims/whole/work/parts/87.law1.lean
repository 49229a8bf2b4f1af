/-! THE CLAIM OUT OF ONE WALK OF THE LAW'S BODY. Your part is whole_start (and what it stands on); all else here is the same for every law, but numbers. -/
def R_law : String := "DayEndBankLaw"
def lw_P (b : Addr) (xs : List Int32) (args : Array Value) (s : State) : Prop := args = #[.ref b] ∧ s.IntsAt b xs ∧ xs.length ≤ 2560 ∧ (Jvm.Cond.and given_1 narrow_1).before args s = true
def lw_Q (_ : Array Value) (s : State) (o : Outcome) (t : State) : Prop := o = .returned (some (.int 1)) ∧ Framed s o t [] 600000 7302250
def lw_Z (below : List Frame) (a : Array Value) (s : State) : State → Prop := fun t => ∃ o, t.status = .running ∧ Ended t below o ∧ lw_Q a s o t
/-- the law's own end, with 1 on the stack, nothing written that was there before, its room as the claim has it -/
theorem lw_ret {p : Program} {l : Launch} {e : Env} {s : State} {m : MethodId} {below : List Frame} {meth : Method} {c : Code} {b : Nat} (hx : p.tables.exec = Jvm.exec) (hb : c.code = code) (hr : meth.sig.returnType = ret) (hlocks : meth.locks = false) {pc : Nat} {H : Heap} {ls : Array Slot} (hdg : decode code pc = .ok (.ireturn, 1)) : W p l e room_1 s m #[Value.ref b] below meth c H [] 600000 7302250 (lw_Z below #[Value.ref b] s) (F0 m pc ls [.int 1]) := by
  intro T hT X
  obtain ⟨fs, hret, hrun, hended, hW, hframe⟩ := X.leave (v := some (.int 1)) (hlocks := hlocks) (fun h => by rw [hr] at h; cases h)
  have hmeth' : T.vm.method? m = some meth := X.method'
  refine ⟨T.setFrames fs, ?_, .returned (some (.int 1)), hrun, hended, rfl, ⟨_, rfl⟩, hW, hframe⟩
  jvm_step X.here [X.here.top, hx, hb, hdg, hmeth', hr, ret, narrow_b1]
  (try refine ⟨rfl, ?_⟩); (try refine ⟨rfl, ?_⟩)
  first | (intro acts; rw [hret _ acts rfl rfl rfl]) | rw [hret _ _ rfl rfl rfl]
  exact Steps.refl _
/-- what holds at the law's entry: the machine, the code, the tables' words (any of lw_tbl by 'hts w (by decide +kernel)'), the script of L ints xs at the cell b, what the Statement gives of the start (any of its parts by flat_of_before) -/
def lw_At (p : Program) (s : State) (m : MethodId) (meth : Method) (c : Code) (b L : Nat) (xs : Nat → Int32) : Prop :=
  p.tables.exec = Jvm.exec ∧ c.code = code ∧ meth.sig.returnType = ret ∧ c.maxLocals = 4 ∧ s.vm.findClass R_law = some m.cls ∧ (∀ w ∈ lw_tbl, w.before #[Value.ref b] s = true) ∧ va_X b L xs s s.heap ∧ b < s.heap.size ∧ meth.locks = false ∧ (Jvm.Cond.and given_1 narrow_1).before #[Value.ref b] s = true
/-! THE LAW: what holds between two calls; a word of the script; calls on either side. -/
def zl_A (s : State) : Nat → Prop := fun q => s.heap.size ≤ q
/-- the class's cells and the reference's: apart, new; their classes are known -/
def zl_F (D : va_G) (G : zg_G) (K : zh_G) (s : State) : Prop := zw_apart (zb_adr G) ∧ zw_apart (zm_adr K) ∧ (∀ q, zb_Ad G q → ¬ zm_Ad K q) ∧ (∀ q, zb_Ad G q → zl_A s q) ∧ (∀ q, zm_Ad K q → zl_A s q) ∧ va_K D vwCl (zb_tys G) s ∧ va_K D vwCl (zm_tys K) s
def zl_l (b : Nat) (G : zg_G) (K : zh_G) (i : Nat) : List (Nat × Value) := [(3, .int (nI (5 * i))), (2, .ref (zh_mdl K)), (1, .ref (zg_bnk G)), (0, .ref b)]
theorem zl_keep {D : va_G} {w : va_W} {A1 : Nat → Prop} {H H1 : Heap} (hP : va_P D vwCl w H) (hk : ∀ q, q < H.size → ¬ A1 q → H1[q]? = H[q]?) (hx : ∀ q ∈ w.map (·.1), ¬ A1 q) : va_P D vwCl w H1 :=
  hP.kept (fun k q hq => hk q.1 ((hP k q hq).lt) (hx q.1 (List.mem_map.mpr ⟨q, List.mem_of_getElem? hq, rfl⟩)))
section ZLC
variable {p : Program} {l : Launch} {e : Env} {R : Room} {s : State} {m : MethodId} {args : Array Value} {below : List Frame} {meth : Method} {c : Code} {H : Heap} {locs : List Loc} {cells slots : Nat} {Q : State → Prop}
variable {cc bytes : ByteArray} {pc nL maxL index n : Nat} {ls : Array Slot} {rest st0 As : List Value} {own : String} {y : MethodName} {ret0 : Option FieldType} {rm : Room} {b : Nat} {vo : Option Value} {PX : Heap → Prop} {A A1 : Nat → Prop} {H0 : Heap} {Pc : Array Value → State → Prop} {D : va_G} {G : zg_G} {K : zh_G}
theorem zl_arg {L i j : Nat} {xs : Nat → Int32} {k : Int} (F : CallFix p m c nc_L_law 4 s args zw_big "DayEndBankLaw") (hX : va_X b L xs s s.heap) (hbl : b < s.heap.size) (hL : L ≤ 2560) (hS : va_S (zl_A s) s.heap H locs) (hl : lv_has ls 4 (zl_l b G K i)) (hj : 5 * i + j < L) (hn : Int32.ofInt k = nI j) (h0 : decode nc_L_law pc = .ok (.aload_n 0, 1)) (h1 : decode nc_L_law (pc + 1) = .ok (.iload_n 3, 1)) (h2 : decode nc_L_law (pc + 2) = .ok (.iconst k, 1)) (h3 : decode nc_L_law (pc + 3) = .ok (.iadd, 1)) (h4 : decode nc_L_law (pc + 4) = .ok (.iaload, 1))
    (kk : W p l e R s m args below meth c H locs cells slots Q (F0 m (pc + 5) ls (.int (xs (5 * i + j)) :: rest))) : W p l e R s m args below meth c H locs cells slots Q (F0 m pc ls rest) := by
  have hx := F.1
  have hb := F.2.1
  refine lv_aload_n hx hb h0 rfl (zv_at hl 0 rfl) ?_
  refine lv_iload_n hx hb h1 rfl (zv_at hl 3 rfl) ?_
  refine lv_iconst hx hb h2 hn ?_
  refine lv_iadd hx hb h3 ?_
  rw [nI_add]
  refine va_sld hx hb hX hbl (fun h => Nat.not_lt.mpr h hbl) hS (nI_in hj (by omega)) h4 ?_
  rw [nI_clamp (by omega)]
  exact kk
theorem zl_vW (F : CallFix p m c cc nL s args zw_big own) (hM : Met l y (Cond.code y bytes maxL ret0 :: zw_big) rm Pc (zw_Q vo PX A1) 0 0 A1) (hp : PreV s H y.cls b Pc As) (hY : zw_YV y bytes maxL ret0 n) (hl : Cond.methodLink own index y ∈ zw_big) (hrm : rm.cells = 0 ∧ rm.slots = 0 ∧ rm.frames + 1 ≤ R.frames ∧ 8 + (maxL + 11) + rm.locals ≤ R.locals) (hn : As.length = n) (hz : ls.size = nL) (hst : st0 = As.reverse ++ .ref b :: rest) (hW : (rest.map fun v => v.category).sum ≤ 8) (hc : cells ≤ R.cells ∧ slots ≤ R.slots) (hdg : decode cc pc = .ok (.invokevirtual index, 3)) (hS : va_S A H0 H locs) (hA : ∀ q, A1 q → A q)
    (kk : ∀ (H1 : Heap) (locs1 : List Loc), PX H1 → (∀ q, q < H.size → ¬ A1 q → H1[q]? = H[q]?) → va_S A H0 H1 locs1 → W p l e R s m args below meth c H1 locs1 cells slots Q (F0 m (pc + 3) ls (vo.toList ++ rest))) : W p l e R s m args below meth c H locs cells slots Q (F0 m pc ls st0) :=
  zl_cW (a := (Value.ref b :: As).toArray) (W.runV F hM ⟨zw_B F.2.2.2.2 hY.1 hl hrm.1 hrm.2.1 hrm.2.2, F.2.2.2.2 _ hY.2.1, F.2.2.2.2 _ hY.2.2⟩ hp rfl hn hz hst (lv_room hW) hdg hc) hS hA kk
/-- a call of the class: the reference's cells stay -/
theorem zl_bi {S S1 : zb_S} {T : zm_S} {Y : zm_Y} {v : Int32} {F1 : Int32 × zb_S} (F : CallFix p m c cc nL s args zw_big own) (hF : zl_F D G K s) (hM : Met l y (Cond.code y bytes maxL ret0 :: zw_big) rm (zw_P (.ref (zg_bnk G) :: As) D (zb_tys G) (zb_cells G S)) (zb_Qi D G F1) 0 0 (zb_Ad G)) (hE : F1 = (v, S1)) (hPb : va_P D vwCl (zb_cells G S) H) (hPm : va_P D vwCl (zm_cells K T Y) H) (hC : nR_B = y.cls) (hY : zw_YV y bytes maxL ret0 n) (hl : Cond.methodLink own index y ∈ zw_big) (hrm : rm.cells = 0 ∧ rm.slots = 0 ∧ rm.frames + 1 ≤ R.frames ∧ 8 + (maxL + 11) + rm.locals ≤ R.locals) (hn : As.length = n) (hz : ls.size = nL) (hst : st0 = As.reverse ++ .ref (zg_bnk G) :: rest) (hW : (rest.map fun v => v.category).sum ≤ 8) (hc : cells ≤ R.cells ∧ slots ≤ R.slots) (hdg : decode cc pc = .ok (.invokevirtual index, 3)) (hS : va_S (zl_A s) s.heap H locs)
    (kk : ∀ (H1 : Heap) (locs1 : List Loc), va_P D vwCl (zb_cells G S1) H1 → va_P D vwCl (zm_cells K T Y) H1 → va_S (zl_A s) s.heap H1 locs1 → W p l e R s m args below meth c H1 locs1 cells slots Q (F0 m (pc + 3) ls (.int v :: rest))) : W p l e R s m args below meth c H locs cells slots Q (F0 m pc ls st0) := by
  subst hE
  exact zl_vW F hM (zw_preV hPb hF.2.2.2.2.2.1 (q0 := 0) (ci := 0) rfl rfl hC) hY hl hrm hn hz hst hW hc hdg hS hF.2.2.2.1 (fun H1 locs1 hP1 hk hS1 => kk H1 locs1 hP1 (zl_keep hPm hk (fun q hq h => hF.2.2.1 q h hq)) hS1)
/-- a call of the reference: the class's cells stay -/
theorem zl_mi {S : zb_S} {T : zm_S} {Y : zm_Y} {F1 : Int32 × zm_S} (F : CallFix p m c cc nL s args zw_big own) (hF : zl_F D G K s) (hM : Met l y (Cond.code y bytes maxL ret0 :: zw_big) rm (zw_P (.ref (zh_mdl K) :: As) D (zm_tys K) (zm_cells K T Y)) (zm_Qi D K F1) 0 0 (zm_Ad K)) (hPb : va_P D vwCl (zb_cells G S) H) (hPm : va_P D vwCl (zm_cells K T Y) H) (hC : nR_M = y.cls) (hY : zw_YV y bytes maxL ret0 n) (hl : Cond.methodLink own index y ∈ zw_big) (hrm : rm.cells = 0 ∧ rm.slots = 0 ∧ rm.frames + 1 ≤ R.frames ∧ 8 + (maxL + 11) + rm.locals ≤ R.locals) (hn : As.length = n) (hz : ls.size = nL) (hst : st0 = As.reverse ++ .ref (zh_mdl K) :: rest) (hW : (rest.map fun v => v.category).sum ≤ 8) (hc : cells ≤ R.cells ∧ slots ≤ R.slots) (hdg : decode cc pc = .ok (.invokevirtual index, 3)) (hS : va_S (zl_A s) s.heap H locs)
    (kk : ∀ (Y1 : zm_Y) (H1 : Heap) (locs1 : List Loc), va_P D vwCl (zm_cells K F1.2 Y1) H1 → va_P D vwCl (zb_cells G S) H1 → va_S (zl_A s) s.heap H1 locs1 → W p l e R s m args below meth c H1 locs1 cells slots Q (F0 m (pc + 3) ls (.int F1.1 :: rest))) : W p l e R s m args below meth c H locs cells slots Q (F0 m pc ls st0) :=
  zl_vW F hM (zw_preV hPm hF.2.2.2.2.2.2 (q0 := 0) (ci := 6) rfl rfl hC) hY hl hrm hn hz hst hW hc hdg hS hF.2.2.2.2.1 (fun H1 locs1 hP1 hk hS1 => by
    obtain ⟨Y1, hP1⟩ := hP1
    exact kk Y1 H1 locs1 hP1 (zl_keep hPb hk (fun q hq h => hF.2.2.1 q hq h)) hS1)
end ZLC
