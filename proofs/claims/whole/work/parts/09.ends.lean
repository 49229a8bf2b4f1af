/-! ENDS of the methods that write, on either side. -/
def zb_Qi (D : va_G) (G : zg_G) (F : Int32 × zb_S) : Array Value → State → Outcome → State → Prop := zw_Q (some (.int F.1)) (va_P D vwCl (zb_cells G F.2)) (zb_Ad G)
def zb_Ql (D : va_G) (G : zg_G) (F : Int64 × zb_S) : Array Value → State → Outcome → State → Prop := zw_Q (some (.long F.1)) (va_P D vwCl (zb_cells G F.2)) (zb_Ad G)
def zb_Qv (D : va_G) (G : zg_G) (F : zb_S) : Array Value → State → Outcome → State → Prop := zw_Q none (va_P D vwCl (zb_cells G F)) (zb_Ad G)
def zm_PX (D : va_G) (G : zh_G) (T : zm_S) (H : Heap) : Prop := ∃ Y : zm_Y, va_P D vwCl (zm_cells G T Y) H
def zm_Qi (D : va_G) (G : zh_G) (F : Int32 × zm_S) : Array Value → State → Outcome → State → Prop := zw_Q (some (.int F.1)) (zm_PX D G F.2) (zm_Ad G)
def zm_Ql (D : va_G) (G : zh_G) (F : Int64 × zm_S) : Array Value → State → Outcome → State → Prop := zw_Q (some (.long F.1)) (zm_PX D G F.2) (zm_Ad G)
def zm_Qv (D : va_G) (G : zh_G) (F : zm_S) : Array Value → State → Outcome → State → Prop := zw_Q none (zm_PX D G F) (zm_Ad G)
section ZE
variable {p : Program} {l : Launch} {e : Env} {R : Room} {s : State} {m : MethodId} {args : Array Value} {below : List Frame} {meth : Method} {c : Code} {H : Heap} {locs : List Loc} {cells slots : Nat}
variable {cc : ByteArray} {pc : Nat} {ls : Array Slot} {D : va_G} {G : zg_G} {S1 : zb_S} {K : zh_G} {T1 : zm_S} {Y1 : zm_Y}
theorem zb_iret {v2 : Int32} {F : Int32 × zb_S} (hx : p.tables.exec = Jvm.exec) (hb : c.code = cc) (hr : meth.sig.returnType = some .int) (hlk : meth.locks = false) (hdg : decode cc pc = .ok (.ireturn, 1)) (hP : va_P D vwCl (zb_cells G S1) H) (hS : va_S (zb_Ad G) s.heap H locs) (hF : F = (v2, S1)) :
    W p l e R s m args below meth c H locs cells slots (MQ below (zb_Qi D G F) args s cells slots (zb_Ad G)) (F0 m pc ls [.int v2]) := by
  subst hF
  exact W.iret hx hb hr (fun t ht _ => ⟨rfl, by rw [ht]; exact hP, hS.F ht⟩) hS.2.2 hdg hlk
theorem zb_zret {v2 : Int32} {F : Int32 × zb_S} (hx : p.tables.exec = Jvm.exec) (hb : c.code = cc) (hr : meth.sig.returnType = some .boolean) (hlk : meth.locks = false) (hdg : decode cc pc = .ok (.ireturn, 1)) (hP : va_P D vwCl (zb_cells G S1) H) (hS : va_S (zb_Ad G) s.heap H locs) (hn : v2 = 0 ∨ v2 = 1) (hF : F = (v2, S1)) :
    W p l e R s m args below meth c H locs cells slots (MQ below (zb_Qi D G F) args s cells slots (zb_Ad G)) (F0 m pc ls [.int v2]) := by
  subst hF
  exact W.zret hx hb hr (by rcases hn with rfl | rfl <;> rfl) (fun t ht _ => ⟨rfl, by rw [ht]; exact hP, hS.F ht⟩) hS.2.2 hdg hlk
theorem zb_lret {v2 : Int64} {F : Int64 × zb_S} (hx : p.tables.exec = Jvm.exec) (hb : c.code = cc) (hr : meth.sig.returnType = some .long) (hlk : meth.locks = false) (hdg : decode cc pc = .ok (.lreturn, 1)) (hP : va_P D vwCl (zb_cells G S1) H) (hS : va_S (zb_Ad G) s.heap H locs) (hF : F = (v2, S1)) :
    W p l e R s m args below meth c H locs cells slots (MQ below (zb_Ql D G F) args s cells slots (zb_Ad G)) (F0 m pc ls [.long v2]) := by
  subst hF
  exact W.lret hx hb hr (fun t ht _ => ⟨rfl, by rw [ht]; exact hP, hS.F ht⟩) hS.2.2 hdg hlk
theorem zb_vret {F : zb_S} (hx : p.tables.exec = Jvm.exec) (hb : c.code = cc) (hr : meth.sig.returnType = none) (hlk : meth.locks = false) (hdg : decode cc pc = .ok (.return_, 1)) (hP : va_P D vwCl (zb_cells G S1) H) (hS : va_S (zb_Ad G) s.heap H locs) (hF : F = S1) :
    W p l e R s m args below meth c H locs cells slots (MQ below (zb_Qv D G F) args s cells slots (zb_Ad G)) (F0 m pc ls []) := by
  subst hF
  exact W.vret hx hb hr (fun t ht _ => ⟨rfl, by rw [ht]; exact hP, hS.F ht⟩) hS.2.2 hdg hlk
theorem zm_iret {v2 : Int32} {F : Int32 × zm_S} (hx : p.tables.exec = Jvm.exec) (hb : c.code = cc) (hr : meth.sig.returnType = some .int) (hlk : meth.locks = false) (hdg : decode cc pc = .ok (.ireturn, 1)) (hP : va_P D vwCl (zm_cells K T1 Y1) H) (hS : va_S (zm_Ad K) s.heap H locs) (hF : F = (v2, T1)) :
    W p l e R s m args below meth c H locs cells slots (MQ below (zm_Qi D K F) args s cells slots (zm_Ad K)) (F0 m pc ls [.int v2]) := by
  subst hF
  exact W.iret hx hb hr (fun t ht _ => ⟨rfl, ⟨Y1, by rw [ht]; exact hP⟩, hS.F ht⟩) hS.2.2 hdg hlk
theorem zm_zret {v2 : Int32} {F : Int32 × zm_S} (hx : p.tables.exec = Jvm.exec) (hb : c.code = cc) (hr : meth.sig.returnType = some .boolean) (hlk : meth.locks = false) (hdg : decode cc pc = .ok (.ireturn, 1)) (hP : va_P D vwCl (zm_cells K T1 Y1) H) (hS : va_S (zm_Ad K) s.heap H locs) (hn : v2 = 0 ∨ v2 = 1) (hF : F = (v2, T1)) :
    W p l e R s m args below meth c H locs cells slots (MQ below (zm_Qi D K F) args s cells slots (zm_Ad K)) (F0 m pc ls [.int v2]) := by
  subst hF
  exact W.zret hx hb hr (by rcases hn with rfl | rfl <;> rfl) (fun t ht _ => ⟨rfl, ⟨Y1, by rw [ht]; exact hP⟩, hS.F ht⟩) hS.2.2 hdg hlk
theorem zm_lret {v2 : Int64} {F : Int64 × zm_S} (hx : p.tables.exec = Jvm.exec) (hb : c.code = cc) (hr : meth.sig.returnType = some .long) (hlk : meth.locks = false) (hdg : decode cc pc = .ok (.lreturn, 1)) (hP : va_P D vwCl (zm_cells K T1 Y1) H) (hS : va_S (zm_Ad K) s.heap H locs) (hF : F = (v2, T1)) :
    W p l e R s m args below meth c H locs cells slots (MQ below (zm_Ql D K F) args s cells slots (zm_Ad K)) (F0 m pc ls [.long v2]) := by
  subst hF
  exact W.lret hx hb hr (fun t ht _ => ⟨rfl, ⟨Y1, by rw [ht]; exact hP⟩, hS.F ht⟩) hS.2.2 hdg hlk
theorem zm_vret {F : zm_S} (hx : p.tables.exec = Jvm.exec) (hb : c.code = cc) (hr : meth.sig.returnType = none) (hlk : meth.locks = false) (hdg : decode cc pc = .ok (.return_, 1)) (hP : va_P D vwCl (zm_cells K T1 Y1) H) (hS : va_S (zm_Ad K) s.heap H locs) (hF : F = T1) :
    W p l e R s m args below meth c H locs cells slots (MQ below (zm_Qv D K F) args s cells slots (zm_Ad K)) (F0 m pc ls []) := by
  subst hF
  exact W.vret hx hb hr (fun t ht _ => ⟨rfl, ⟨Y1, by rw [ht]; exact hP⟩, hS.F ht⟩) hS.2.2 hdg hlk
end ZE
section ZC
variable {p : Program} {l : Launch} {e : Env} {R : Room} {s : State} {m : MethodId} {args : Array Value} {below : List Frame} {meth : Method} {c : Code} {H : Heap} {locs : List Loc} {cells slots : Nat} {Q : State → Prop}
variable {cc bytes : ByteArray} {pc nL maxL index n : Nat} {ls : Array Slot} {rest st0 As : List Value} {own : String} {y : MethodName} {ret : Option FieldType} {rm : Room} {b : Nat} {H0 : Heap} {Pc : Array Value → State → Prop} {D : va_G}
theorem zb_vWi {G : zg_G} {F1 : Int32 × zb_S} (F : CallFix p m c cc nL s args zw_big own) (hM : Met l y (Cond.code y bytes maxL ret :: zw_big) rm Pc (zb_Qi D G F1) 0 0 (zb_Ad G)) (hp : PreV s H y.cls b Pc As) (hY : zw_YV y bytes maxL ret n) (hl : Cond.methodLink own index y ∈ zw_big) (hrm : rm.cells = 0 ∧ rm.slots = 0 ∧ rm.frames + 1 ≤ R.frames ∧ 8 + (maxL + 11) + rm.locals ≤ R.locals) (hn : As.length = n) (hz : ls.size = nL) (hst : st0 = As.reverse ++ .ref b :: rest) (hW : (rest.map fun v => v.category).sum ≤ 8) (hc : cells ≤ R.cells ∧ slots ≤ R.slots) (hdg : decode cc pc = .ok (.invokevirtual index, 3)) (hS : va_S (zb_Ad G) H0 H locs)
    (kk : ∀ (H1 : Heap) (locs1 : List Loc), va_P D vwCl (zb_cells G F1.2) H1 → va_S (zb_Ad G) H0 H1 locs1 → W p l e R s m args below meth c H1 locs1 cells slots Q (F0 m (pc + 3) ls (.int F1.1 :: rest))) : W p l e R s m args below meth c H locs cells slots Q (F0 m pc ls st0) :=
  zw_vW F hM hp hY hl hrm hn hz hst hW hc hdg hS kk
theorem zb_vWl {G : zg_G} {F1 : Int64 × zb_S} (F : CallFix p m c cc nL s args zw_big own) (hM : Met l y (Cond.code y bytes maxL ret :: zw_big) rm Pc (zb_Ql D G F1) 0 0 (zb_Ad G)) (hp : PreV s H y.cls b Pc As) (hY : zw_YV y bytes maxL ret n) (hl : Cond.methodLink own index y ∈ zw_big) (hrm : rm.cells = 0 ∧ rm.slots = 0 ∧ rm.frames + 1 ≤ R.frames ∧ 8 + (maxL + 11) + rm.locals ≤ R.locals) (hn : As.length = n) (hz : ls.size = nL) (hst : st0 = As.reverse ++ .ref b :: rest) (hW : (rest.map fun v => v.category).sum ≤ 8) (hc : cells ≤ R.cells ∧ slots ≤ R.slots) (hdg : decode cc pc = .ok (.invokevirtual index, 3)) (hS : va_S (zb_Ad G) H0 H locs)
    (kk : ∀ (H1 : Heap) (locs1 : List Loc), va_P D vwCl (zb_cells G F1.2) H1 → va_S (zb_Ad G) H0 H1 locs1 → W p l e R s m args below meth c H1 locs1 cells slots Q (F0 m (pc + 3) ls (.long F1.1 :: rest))) : W p l e R s m args below meth c H locs cells slots Q (F0 m pc ls st0) :=
  zw_vW F hM hp hY hl hrm hn hz hst hW hc hdg hS kk
theorem zb_vWv {G : zg_G} {F1 : zb_S} (F : CallFix p m c cc nL s args zw_big own) (hM : Met l y (Cond.code y bytes maxL ret :: zw_big) rm Pc (zb_Qv D G F1) 0 0 (zb_Ad G)) (hp : PreV s H y.cls b Pc As) (hY : zw_YV y bytes maxL ret n) (hl : Cond.methodLink own index y ∈ zw_big) (hrm : rm.cells = 0 ∧ rm.slots = 0 ∧ rm.frames + 1 ≤ R.frames ∧ 8 + (maxL + 11) + rm.locals ≤ R.locals) (hn : As.length = n) (hz : ls.size = nL) (hst : st0 = As.reverse ++ .ref b :: rest) (hW : (rest.map fun v => v.category).sum ≤ 8) (hc : cells ≤ R.cells ∧ slots ≤ R.slots) (hdg : decode cc pc = .ok (.invokevirtual index, 3)) (hS : va_S (zb_Ad G) H0 H locs)
    (kk : ∀ (H1 : Heap) (locs1 : List Loc), va_P D vwCl (zb_cells G F1) H1 → va_S (zb_Ad G) H0 H1 locs1 → W p l e R s m args below meth c H1 locs1 cells slots Q (F0 m (pc + 3) ls (rest))) : W p l e R s m args below meth c H locs cells slots Q (F0 m pc ls st0) :=
  zw_vW F hM hp hY hl hrm hn hz hst hW hc hdg hS kk
theorem zm_vWi {G : zh_G} {F1 : Int32 × zm_S} (F : CallFix p m c cc nL s args zw_big own) (hM : Met l y (Cond.code y bytes maxL ret :: zw_big) rm Pc (zm_Qi D G F1) 0 0 (zm_Ad G)) (hp : PreV s H y.cls b Pc As) (hY : zw_YV y bytes maxL ret n) (hl : Cond.methodLink own index y ∈ zw_big) (hrm : rm.cells = 0 ∧ rm.slots = 0 ∧ rm.frames + 1 ≤ R.frames ∧ 8 + (maxL + 11) + rm.locals ≤ R.locals) (hn : As.length = n) (hz : ls.size = nL) (hst : st0 = As.reverse ++ .ref b :: rest) (hW : (rest.map fun v => v.category).sum ≤ 8) (hc : cells ≤ R.cells ∧ slots ≤ R.slots) (hdg : decode cc pc = .ok (.invokevirtual index, 3)) (hS : va_S (zm_Ad G) H0 H locs)
    (kk : ∀ (Y1 : zm_Y) (H1 : Heap) (locs1 : List Loc), va_P D vwCl (zm_cells G F1.2 Y1) H1 → va_S (zm_Ad G) H0 H1 locs1 → W p l e R s m args below meth c H1 locs1 cells slots Q (F0 m (pc + 3) ls (.int F1.1 :: rest))) : W p l e R s m args below meth c H locs cells slots Q (F0 m pc ls st0) :=
  zw_vW F hM hp hY hl hrm hn hz hst hW hc hdg hS (fun H1 locs1 hP1 hS1 => by obtain ⟨Y1, hP1⟩ := hP1; exact kk Y1 H1 locs1 hP1 hS1)
theorem zm_vWl {G : zh_G} {F1 : Int64 × zm_S} (F : CallFix p m c cc nL s args zw_big own) (hM : Met l y (Cond.code y bytes maxL ret :: zw_big) rm Pc (zm_Ql D G F1) 0 0 (zm_Ad G)) (hp : PreV s H y.cls b Pc As) (hY : zw_YV y bytes maxL ret n) (hl : Cond.methodLink own index y ∈ zw_big) (hrm : rm.cells = 0 ∧ rm.slots = 0 ∧ rm.frames + 1 ≤ R.frames ∧ 8 + (maxL + 11) + rm.locals ≤ R.locals) (hn : As.length = n) (hz : ls.size = nL) (hst : st0 = As.reverse ++ .ref b :: rest) (hW : (rest.map fun v => v.category).sum ≤ 8) (hc : cells ≤ R.cells ∧ slots ≤ R.slots) (hdg : decode cc pc = .ok (.invokevirtual index, 3)) (hS : va_S (zm_Ad G) H0 H locs)
    (kk : ∀ (Y1 : zm_Y) (H1 : Heap) (locs1 : List Loc), va_P D vwCl (zm_cells G F1.2 Y1) H1 → va_S (zm_Ad G) H0 H1 locs1 → W p l e R s m args below meth c H1 locs1 cells slots Q (F0 m (pc + 3) ls (.long F1.1 :: rest))) : W p l e R s m args below meth c H locs cells slots Q (F0 m pc ls st0) :=
  zw_vW F hM hp hY hl hrm hn hz hst hW hc hdg hS (fun H1 locs1 hP1 hS1 => by obtain ⟨Y1, hP1⟩ := hP1; exact kk Y1 H1 locs1 hP1 hS1)
theorem zm_vWv {G : zh_G} {F1 : zm_S} (F : CallFix p m c cc nL s args zw_big own) (hM : Met l y (Cond.code y bytes maxL ret :: zw_big) rm Pc (zm_Qv D G F1) 0 0 (zm_Ad G)) (hp : PreV s H y.cls b Pc As) (hY : zw_YV y bytes maxL ret n) (hl : Cond.methodLink own index y ∈ zw_big) (hrm : rm.cells = 0 ∧ rm.slots = 0 ∧ rm.frames + 1 ≤ R.frames ∧ 8 + (maxL + 11) + rm.locals ≤ R.locals) (hn : As.length = n) (hz : ls.size = nL) (hst : st0 = As.reverse ++ .ref b :: rest) (hW : (rest.map fun v => v.category).sum ≤ 8) (hc : cells ≤ R.cells ∧ slots ≤ R.slots) (hdg : decode cc pc = .ok (.invokevirtual index, 3)) (hS : va_S (zm_Ad G) H0 H locs)
    (kk : ∀ (Y1 : zm_Y) (H1 : Heap) (locs1 : List Loc), va_P D vwCl (zm_cells G F1 Y1) H1 → va_S (zm_Ad G) H0 H1 locs1 → W p l e R s m args below meth c H1 locs1 cells slots Q (F0 m (pc + 3) ls (rest))) : W p l e R s m args below meth c H locs cells slots Q (F0 m pc ls st0) :=
  zw_vW F hM hp hY hl hrm hn hz hst hW hc hdg hS (fun H1 locs1 hP1 hS1 => by obtain ⟨Y1, hP1⟩ := hP1; exact kk Y1 H1 locs1 hP1 hS1)
end ZC
