/-! OWN KIT: words of all methods in one list zw_big; contracts that read (zw_R) and that write (zw_Q); calls; locals by their number. -/
theorem zw_good {y : Cond} (h : y ∈ zw_big) : GoodIn zw_big (y :: zw_big) := by
  intro w hw
  rcases List.mem_cons.mp hw with rfl | hw
  · exact ⟨h, good_of_word (List.all_eq_true.mp zw_allgood _ h)⟩
  · exact ⟨hw, good_of_word (List.all_eq_true.mp zw_allgood _ hw)⟩
/-- locals, looked up by their number -/
theorem zv_mem {l : List (Nat × Value)} {i : Nat} {v : Value} (h : l.lookup i = some v) : (i, v) ∈ l := by
  induction l with
  | nil => cases h
  | cons q l ih =>
    obtain ⟨j, w⟩ := q
    by_cases e : i = j
    · subst e
      simp [List.lookup] at h
      subst h
      exact List.mem_cons_self
    · have e2 : (i == j) = false := by simp [e]
      simp [List.lookup, e2] at h
      exact List.mem_cons_of_mem _ (ih h)
theorem zv_at {ls : Array Slot} {nL : Nat} {l : List (Nat × Value)} (h : lv_has ls nL l) (i : Nat) {v : Value} (hv : l.lookup i = some v) : ls[i]? = some (.val v) := h.2.2 (i, v) (zv_mem hv)
theorem zv_sub {ls : Array Slot} {nL : Nat} {l l' : List (Nat × Value)} (h : lv_has ls nL l) (hl : ∀ q ∈ l', l.lookup q.1 = some q.2) : lv_has ls nL l' := ⟨h.1, h.2.1, fun q hq => h.2.2 q (zv_mem (hl q hq))⟩
section ZV
variable {p : Program} {l : Launch} {e : Env} {R : Room} {s : State} {m : MethodId} {args : Array Value} {below : List Frame} {meth : Method} {c : Code} {H : Heap} {locs : List Loc} {cells slots : Nat} {Q : State → Prop}
variable {cc : ByteArray} {pc : Nat} {ls : Array Slot} {rest : List Value}
theorem zv_iinc (hx : p.tables.exec = Jvm.exec) (hb : c.code = cc) {i nL : Nat} {n : Int} {x v : Int32} {lv lv' : List (Nat × Value)} (hdg : decode cc pc = .ok (.iinc i n, 3)) (h : lv_has ls nL lv) (hk : lv.lookup i = some (.int x)) (hv : x + Int32.ofInt n = v) (hn : i < nL) (hl : (i, Value.int v) :: lv.filter (fun q => !(q.1 == i) && !(q.1 + 1 == i && q.2.category == 2)) = lv')
    (kk : ∀ ls' : Array Slot, lv_has ls' nL lv' → W p l e R s m args below meth c H locs cells slots Q (F0 m (pc + 3) ls' rest)) : W p l e R s m args below meth c H locs cells slots Q (F0 m pc ls rest) := by
  obtain ⟨k, hk2⟩ := List.getElem?_of_mem (zv_mem hk)
  exact lv_iinc hx hb hdg h hk2 hv hn hl kk
end ZV
/-- the contract of a method that reads: its answer, and no cell changes -/
def zw_R (v : Value) : Array Value → State → Outcome → State → Prop := fun _ st o t => o = .returned (some v) ∧ t.heap = st.heap
/-- the contract of a method that writes: its answer, the heap behind it, no cell outside A changes -/
def zw_Q (v : Option Value) (PX : Heap → Prop) (A : Nat → Prop) : Array Value → State → Outcome → State → Prop := fun _ st o t => o = .returned v ∧ PX t.heap ∧ va_F A st t
/-- where it starts: its arguments, its world -/
def zw_P (av : List Value) (D : va_G) (tys : List (ClassId × FieldType)) (ws : va_W) : Array Value → State → Prop := fun v U => v = av.toArray ∧ va_P D vwCl ws U.heap ∧ va_K D vwCl tys U
/-- where a method starts that needs no cell -/
def zw_N (av : List Value) : Array Value → State → Prop := fun v _ => v = av.toArray
theorem zw_P_blind {av : List Value} {D : va_G} {tys : List (ClassId × FieldType)} {ws : va_W} : FrameBlind (zw_P av D tys ws) := fun a U g mk q => ⟨q.1, q.2.1, va_K.moved (u := U) (U := U.calling g mk a) (Vm.Alike.refl U.vm) q.2.2⟩
theorem zw_N_blind {av : List Value} : FrameBlind (zw_N av) := fun _ _ _ _ q => q
theorem zw_preN {s : State} {H : Heap} {As : List Value} : PreS s H (zw_N As) As := ⟨zw_N_blind, fun _ _ _ => rfl⟩
theorem zw_preS {s : State} {H : Heap} {As : List Value} {D : va_G} {tys : List (ClassId × FieldType)} {ws : va_W} (hP : va_P D vwCl ws H) (hK : va_K D vwCl tys s) : PreS s H (zw_P As D tys ws) As := ⟨zw_P_blind, fun U hU hW => ⟨rfl, by rw [hU]; exact hP, va_K.moved hW.alike hK⟩⟩
theorem zw_preV {s : State} {H : Heap} {C : String} {b : Nat} {As : List Value} {D : va_G} {tys : List (ClassId × FieldType)} {ws : va_W} (hP : va_P D vwCl ws H) (hK : va_K D vwCl tys s) {q0 ci : Nat} {q : vw_C} {fs : List Value} (hc : vwCl[ci]? = some q) (he : ws[q0]? = some (b, .inr (ci, fs))) (hC : q.1 = C) : PreV s H C b (zw_P (.ref b :: As) D tys ws) As := by
  subst hC
  exact ⟨zw_P_blind, va_recv hK hP hc he, fun U hU hW => ⟨rfl, by rw [hU]; exact hP, va_K.moved hW.alike hK⟩⟩
/-- what a callee's name must be known for -/
def zw_Y (y : MethodName) (bytes : ByteArray) (maxL : Nat) (ret : Option FieldType) (n : Nat) : Prop :=
  Cond.code y bytes maxL ret ∈ zw_big ∧ Cond.initialized y.cls ∈ zw_big ∧ (y.cls ≠ "java/lang/invoke/MethodHandle" ∧ y.cls ≠ "java/lang/invoke/VarHandle" ∧ (parseMethodDescriptor y.desc).map (fun d => d.parameters.length) = some n)
def zw_YV (y : MethodName) (bytes : ByteArray) (maxL : Nat) (ret : Option FieldType) (n : Nat) : Prop := zw_Y y bytes maxL ret n ∧ Cond.instanceMethod y ∈ zw_big ∧ Cond.selects y.cls y y ∈ zw_big
def zw_YS (y : MethodName) (bytes : ByteArray) (maxL : Nat) (ret : Option FieldType) (n : Nat) : Prop := zw_Y y bytes maxL ret n ∧ Cond.static y ∈ zw_big
section ZW
variable {p : Program} {l : Launch} {e : Env} {R : Room} {s : State} {m : MethodId} {args : Array Value} {below : List Frame} {meth : Method} {c : Code} {H : Heap} {locs : List Loc} {cells slots : Nat} {Q : State → Prop}
variable {cc bytes : ByteArray} {pc nL maxL index n : Nat} {ls : Array Slot} {rest st0 As : List Value} {own : String} {y : MethodName} {ret : Option FieldType} {rm : Room} {b : Nat} {v : Value} {vo : Option Value} {PX : Heap → Prop} {A : Nat → Prop} {H0 : Heap} {Pc : Array Value → State → Prop} {a : Array Value}
theorem zw_B (hts : ∀ w ∈ zw_big, w.before args s = true) (hY : zw_Y y bytes maxL ret n) (hl : Cond.methodLink own index y ∈ zw_big) (hrc : rm.cells = 0) (hrs : rm.slots = 0) (hR : rm.frames + 1 ≤ R.frames ∧ 8 + (maxL + 11) + rm.locals ≤ R.locals) :
    CallB R s args own index y bytes maxL ret (Cond.code y bytes maxL ret :: zw_big) rm 0 0 n :=
  callB_of n hts (zw_good hY.1) rfl hrc hrs (hts _ hY.2.1) (hts _ hl) hY.2.2 hR
theorem zw_cR (hr : CallRun p l e R s m args below meth c H locs cells slots 0 0 (F0 m pc ls st0) rest (zw_R v a) (fun _ => False)) (kk : W p l e R s m args below meth c H locs cells slots Q (F0 m (pc + 3) ls (v :: rest))) : W p l e R s m args below meth c H locs cells slots Q (F0 m pc ls st0) := by
  intro T hT X
  obtain ⟨v', st₀, t, T', L, h0, X', hL, e1, ⟨hv, hh⟩, st⟩ := hr T hT X
  cases hv
  obtain ⟨t2, a1, b1⟩ := kk T' (by rw [e1, hh, h0]) (Stand.forget X' (fun q h => (hL q h).elim))
  exact ⟨t2, st t2 a1, b1⟩
theorem zw_cW (hr : CallRun p l e R s m args below meth c H locs cells slots 0 0 (F0 m pc ls st0) rest (zw_Q vo PX A a) A) (hS : va_S A H0 H locs)
    (kk : ∀ (H1 : Heap) (locs1 : List Loc), PX H1 → va_S A H0 H1 locs1 → W p l e R s m args below meth c H1 locs1 cells slots Q (F0 m (pc + 3) ls (vo.toList ++ rest))) : W p l e R s m args below meth c H locs cells slots Q (F0 m pc ls st0) := by
  intro T hT X
  obtain ⟨v', st₀, t, T', L, h0, X', hL, e1, ⟨hv, hp, hz, hk⟩, st⟩ := hr T hT X
  cases hv
  rw [h0] at hz hk
  obtain ⟨t2, a1, b1⟩ := kk T'.heap (locs ++ L) (by rw [e1]; exact hp)
    ⟨Nat.le_trans hS.1 (by rw [e1]; exact hz), fun q h1 h2 => by rw [e1, hk q (Nat.lt_of_lt_of_le h1 hS.1) h2]; exact hS.2.1 q h1 h2, fun q hq => by
      rcases List.mem_append.mp hq with h | h
      · exact hS.2.2 q h
      · exact hL q h⟩ T' rfl X'
  exact ⟨t2, st t2 a1, b1⟩
/-- a static method that reads -/
theorem zw_sR (F : CallFix p m c cc nL s args zw_big own) (hM : Met l y (Cond.code y bytes maxL ret :: zw_big) rm Pc (zw_R v) 0 0 (fun _ => False)) (hp : PreS s H Pc As) (hY : zw_YS y bytes maxL ret n) (hl : Cond.methodLink own index y ∈ zw_big) (hrm : rm.cells = 0 ∧ rm.slots = 0 ∧ rm.frames + 1 ≤ R.frames ∧ 8 + (maxL + 11) + rm.locals ≤ R.locals) (hn : As.length = n) (hz : ls.size = nL) (hst : st0 = As.reverse ++ rest) (hW : (rest.map fun v => v.category).sum ≤ 8) (hc : cells ≤ R.cells ∧ slots ≤ R.slots) (hdg : decode cc pc = .ok (.invokestatic index, 3))
    (kk : W p l e R s m args below meth c H locs cells slots Q (F0 m (pc + 3) ls (v :: rest))) : W p l e R s m args below meth c H locs cells slots Q (F0 m pc ls st0) :=
  zw_cR (a := As.toArray) (W.runS F hM ⟨zw_B F.2.2.2.2 hY.1 hl hrm.1 hrm.2.1 hrm.2.2, F.2.2.2.2 _ hY.2⟩ hp rfl hn hz hst (lv_room hW) hdg hc) kk
/-- an instance method that reads -/
theorem zw_vR (F : CallFix p m c cc nL s args zw_big own) (hM : Met l y (Cond.code y bytes maxL ret :: zw_big) rm Pc (zw_R v) 0 0 (fun _ => False)) (hp : PreV s H y.cls b Pc As) (hY : zw_YV y bytes maxL ret n) (hl : Cond.methodLink own index y ∈ zw_big) (hrm : rm.cells = 0 ∧ rm.slots = 0 ∧ rm.frames + 1 ≤ R.frames ∧ 8 + (maxL + 11) + rm.locals ≤ R.locals) (hn : As.length = n) (hz : ls.size = nL) (hst : st0 = As.reverse ++ .ref b :: rest) (hW : (rest.map fun v => v.category).sum ≤ 8) (hc : cells ≤ R.cells ∧ slots ≤ R.slots) (hdg : decode cc pc = .ok (.invokevirtual index, 3))
    (kk : W p l e R s m args below meth c H locs cells slots Q (F0 m (pc + 3) ls (v :: rest))) : W p l e R s m args below meth c H locs cells slots Q (F0 m pc ls st0) :=
  zw_cR (a := (Value.ref b :: As).toArray) (W.runV F hM ⟨zw_B F.2.2.2.2 hY.1 hl hrm.1 hrm.2.1 hrm.2.2, F.2.2.2.2 _ hY.2.1, F.2.2.2.2 _ hY.2.2⟩ hp rfl hn hz hst (lv_room hW) hdg hc) kk
/-- an instance method that writes -/
theorem zw_vW (F : CallFix p m c cc nL s args zw_big own) (hM : Met l y (Cond.code y bytes maxL ret :: zw_big) rm Pc (zw_Q vo PX A) 0 0 A) (hp : PreV s H y.cls b Pc As) (hY : zw_YV y bytes maxL ret n) (hl : Cond.methodLink own index y ∈ zw_big) (hrm : rm.cells = 0 ∧ rm.slots = 0 ∧ rm.frames + 1 ≤ R.frames ∧ 8 + (maxL + 11) + rm.locals ≤ R.locals) (hn : As.length = n) (hz : ls.size = nL) (hst : st0 = As.reverse ++ .ref b :: rest) (hW : (rest.map fun v => v.category).sum ≤ 8) (hc : cells ≤ R.cells ∧ slots ≤ R.slots) (hdg : decode cc pc = .ok (.invokevirtual index, 3)) (hS : va_S A H0 H locs)
    (kk : ∀ (H1 : Heap) (locs1 : List Loc), PX H1 → va_S A H0 H1 locs1 → W p l e R s m args below meth c H1 locs1 cells slots Q (F0 m (pc + 3) ls (vo.toList ++ rest))) : W p l e R s m args below meth c H locs cells slots Q (F0 m pc ls st0) :=
  zw_cW (a := (Value.ref b :: As).toArray) (W.runV F hM ⟨zw_B F.2.2.2.2 hY.1 hl hrm.1 hrm.2.1 hrm.2.2, F.2.2.2.2 _ hY.2.1, F.2.2.2.2 _ hY.2.2⟩ hp rfl hn hz hst (lv_room hW) hdg hc) hS kk
-- ends of a method that reads
theorem zw_iret {v2 r : Int32} (hx : p.tables.exec = Jvm.exec) (hb : c.code = cc) (hr : meth.sig.returnType = some .int) (hlk : meth.locks = false) (hdg : decode cc pc = .ok (.ireturn, 1)) (hF : r = v2) :
    W p l e R s m args below meth c s.heap [] cells slots (MQ below (zw_R (.int r)) args s cells slots (fun _ => False)) (F0 m pc ls [.int v2]) :=
  W.iret hx hb hr (fun t ht _ => ⟨by rw [hF], ht⟩) (fun _ h => by cases h) hdg hlk
theorem zw_zret {v2 r : Int32} (hx : p.tables.exec = Jvm.exec) (hb : c.code = cc) (hr : meth.sig.returnType = some .boolean) (hlk : meth.locks = false) (hdg : decode cc pc = .ok (.ireturn, 1)) (hn : v2 = 0 ∨ v2 = 1) (hF : r = v2) :
    W p l e R s m args below meth c s.heap [] cells slots (MQ below (zw_R (.int r)) args s cells slots (fun _ => False)) (F0 m pc ls [.int v2]) :=
  W.zret hx hb hr (by rcases hn with rfl | rfl <;> rfl) (fun t ht _ => ⟨by rw [hF], ht⟩) (fun _ h => by cases h) hdg hlk
theorem zw_lret {v2 r : Int64} (hx : p.tables.exec = Jvm.exec) (hb : c.code = cc) (hr : meth.sig.returnType = some .long) (hlk : meth.locks = false) (hdg : decode cc pc = .ok (.lreturn, 1)) (hF : r = v2) :
    W p l e R s m args below meth c s.heap [] cells slots (MQ below (zw_R (.long r)) args s cells slots (fun _ => False)) (F0 m pc ls [.long v2]) :=
  W.lret hx hb hr (fun t ht _ => ⟨by rw [hF], ht⟩) (fun _ h => by cases h) hdg hlk
theorem zw_aret {ad : Nat → Nat} {r r2 : Option Nat} {C : String} {v2 : Value} (hx : p.tables.exec = Jvm.exec) (hb : c.code = cc) (hr : meth.sig.returnType = some (.object C)) (hlk : meth.locks = false) (hdg : decode cc pc = .ok (.areturn, 1)) (hv : va_re ad r2 = v2) (hF : r = r2) :
    W p l e R s m args below meth c s.heap [] cells slots (MQ below (zw_R (va_re ad r)) args s cells slots (fun _ => False)) (F0 m pc ls [v2]) :=
  W.aret hx hb hr (Or.inl ⟨C, rfl⟩) (by rw [← hv]; exact va_rf_or _) (fun t ht _ => ⟨by rw [hF, hv], ht⟩) (fun _ h => by cases h) hdg hlk
/-- a reference that may be null -/
theorem zw_split {ad : Nat → Nat} {r : Option Nat} (kn : r = none → W p l e R s m args below meth c H locs cells slots Q (F0 m pc ls (.null :: rest))) (ks : ∀ j : Nat, r = some j → W p l e R s m args below meth c H locs cells slots Q (F0 m pc ls (.ref (ad j) :: rest))) :
    W p l e R s m args below meth c H locs cells slots Q (F0 m pc ls (va_re ad r :: rest)) := by
  cases r with
  | none => exact kn rfl
  | some j => exact ks j rfl
end ZW
section ZL
variable {p : Program} {l : Launch} {e : Env} {R : Room} {s : State} {m : MethodId} {args : Array Value} {below : List Frame} {meth : Method} {c : Code} {H0 : Heap} {locs0 : List Loc} {cells slots : Nat} {Q : State → Prop} {pc : Nat} {ls0 : Array Slot} {st0 : List Value}
/-- a place to which several ways lead -/
theorem zw_cut {σ : Type} (pcJ : Nat) (st : σ → List Value) (Inv : σ → Heap → List Loc → Array Slot → Prop)
    (hj : ∀ (x : σ) (H : Heap) (locs : List Loc) (ls : Array Slot), Inv x H locs ls → W p l e R s m args below meth c H locs cells slots Q (F0 m pcJ ls (st x)))
    (k : (∀ (x : σ) (H : Heap) (locs : List Loc) (ls : Array Slot), Inv x H locs ls → W p l e R s m args below meth c H locs cells slots Q (F0 m pcJ ls (st x))) → W p l e R s m args below meth c H0 locs0 cells slots Q (F0 m pc ls0 st0)) :
    W p l e R s m args below meth c H0 locs0 cells slots Q (F0 m pc ls0 st0) := k hj
/-- a loop: a measure that falls -/
theorem zw_loop {σ : Type} (Inv : Nat → σ → Heap → List Loc → Array Slot → Prop)
    (step : ∀ (k : Nat) (x : σ) (H : Heap) (locs : List Loc) (ls : Array Slot), Inv k x H locs ls → (∀ (k' : Nat) (x' : σ) (H' : Heap) (locs' : List Loc) (ls' : Array Slot), k' < k → Inv k' x' H' locs' ls' → W p l e R s m args below meth c H' locs' cells slots Q (F0 m pc ls' [])) → W p l e R s m args below meth c H locs cells slots Q (F0 m pc ls []))
    (k0 : Nat) (x0 : σ) (h0 : Inv k0 x0 H0 locs0 ls0) : W p l e R s m args below meth c H0 locs0 cells slots Q (F0 m pc ls0 []) := by
  have key : ∀ (n k : Nat), k ≤ n → ∀ (x : σ) (H : Heap) (locs : List Loc) (ls : Array Slot), Inv k x H locs ls → W p l e R s m args below meth c H locs cells slots Q (F0 m pc ls []) := by
    intro n
    induction n with
    | zero =>
      intro k hk x H locs ls hI
      exact step k x H locs ls hI (fun k' x' H' locs' ls' hlt => absurd hlt (by omega))
    | succ n ih =>
      intro k hk x H locs ls hI
      exact step k x H locs ls hI (fun k' x' H' locs' ls' hlt hI' => ih k' (by omega) x' H' locs' ls' hI')
  exact key k0 k0 (Nat.le_refl _) x0 H0 locs0 ls0 h0
end ZL
