/-! the reference's calendar: words, ends -/
def zm_ymd (j : Nat) : zm_Y := (nI (zc_y j), nI (zc_m j), nI (zc_d j))
def zm_Qy (D : va_G) (G : zh_G) (T : zm_S) (Y1 : zm_Y) : Array Value → State → Outcome → State → Prop := zw_Q none (va_P D vwCl (zm_cells G T Y1)) (zm_Ad G)
section ZY
variable {p : Program} {l : Launch} {e : Env} {R : Room} {s : State} {m : MethodId} {args : Array Value} {below : List Frame} {meth : Method} {c : Code} {H : Heap} {locs : List Loc} {cells slots : Nat} {Q : State → Prop}
variable {cc bytes : ByteArray} {pc nL maxL index n : Nat} {ls : Array Slot} {rest st0 As : List Value} {own : String} {y : MethodName} {ret : Option FieldType} {rm : Room} {b : Nat} {H0 : Heap} {Pc : Array Value → State → Prop} {D : va_G} {G : zh_G} {T : zm_S} {Y1 Y2 : zm_Y}
theorem zm_yret (hx : p.tables.exec = Jvm.exec) (hb : c.code = cc) (hr : meth.sig.returnType = none) (hlk : meth.locks = false) (hdg : decode cc pc = .ok (.return_, 1)) (hP : va_P D vwCl (zm_cells G T Y1) H) (hS : va_S (zm_Ad G) s.heap H locs) (hF : Y2 = Y1) :
    W p l e R s m args below meth c H locs cells slots (MQ below (zm_Qy D G T Y2) args s cells slots (zm_Ad G)) (F0 m pc ls []) := by
  subst hF
  exact W.vret hx hb hr (fun t ht _ => ⟨rfl, by rw [ht]; exact hP, hS.F ht⟩) hS.2.2 hdg hlk
theorem zm_vWy (F : CallFix p m c cc nL s args zw_big own) (hM : Met l y (Cond.code y bytes maxL ret :: zw_big) rm Pc (zm_Qy D G T Y1) 0 0 (zm_Ad G)) (hp : PreV s H y.cls b Pc As) (hY : zw_YV y bytes maxL ret n) (hl : Cond.methodLink own index y ∈ zw_big) (hrm : rm.cells = 0 ∧ rm.slots = 0 ∧ rm.frames + 1 ≤ R.frames ∧ 8 + (maxL + 11) + rm.locals ≤ R.locals) (hn : As.length = n) (hz : ls.size = nL) (hst : st0 = As.reverse ++ .ref b :: rest) (hW : (rest.map fun v => v.category).sum ≤ 8) (hc : cells ≤ R.cells ∧ slots ≤ R.slots) (hdg : decode cc pc = .ok (.invokevirtual index, 3)) (hS : va_S (zm_Ad G) H0 H locs)
    (kk : ∀ (H1 : Heap) (locs1 : List Loc), va_P D vwCl (zm_cells G T Y1) H1 → va_S (zm_Ad G) H0 H1 locs1 → W p l e R s m args below meth c H1 locs1 cells slots Q (F0 m (pc + 3) ls rest)) : W p l e R s m args below meth c H locs cells slots Q (F0 m pc ls st0) :=
  zw_vW F hM hp hY hl hrm hn hz hst hW hc hdg hS kk
end ZY
theorem zm_n0 {a : Nat} (h : a < 2 ^ 31) : nI a = 0 ↔ a = 0 := nI_eq (b := 0) h (by decide)
theorem zc_beq (a b : Nat) : Nat.beq a b = decide (a = b) := by
  by_cases h : a = b
  · subst h; simp [Nat.beq_refl]
  · have : ¬ Nat.beq a b = true := fun q => h (Nat.eq_of_beq_eq_true q)
    simp [h, this]
theorem zc_wy_stop {f y r : Nat} (h : r < zc_yl y) : zc_wy f y r = (y, r) := by
  cases f with
  | zero => rfl
  | succ f =>
    unfold zc_wy
    have : Nat.blt r (zc_yl y) = true := by rw [Nat.blt_eq]; exact h
    rw [this]; rfl
theorem zc_wy_next {f y r : Nat} (hf : ¬ f = 0) (h : zc_yl y ≤ r) : zc_wy f y r = zc_wy (f - 1) (y + 1) (r - zc_yl y) := by
  obtain ⟨g, rfl⟩ : ∃ g, f = g + 1 := ⟨f - 1, by omega⟩
  have : Nat.blt r (zc_yl y) = false := by
    cases hb : Nat.blt r (zc_yl y) with
    | false => rfl
    | true => rw [Nat.blt_eq] at hb; omega
  rw [zc_wy, this]; rfl
theorem zc_wm_stop {f y m r : Nat} (h : r < zc_ml y m) : zc_wm f y m r = (m, r) := by
  cases f with
  | zero => rfl
  | succ f =>
    unfold zc_wm
    have : Nat.blt r (zc_ml y m) = true := by rw [Nat.blt_eq]; exact h
    rw [this]; rfl
theorem zc_wm_next {f y m r : Nat} (hf : ¬ f = 0) (h : zc_ml y m ≤ r) : zc_wm f y m r = zc_wm (f - 1) y (m + 1) (r - zc_ml y m) := by
  obtain ⟨g, rfl⟩ : ∃ g, f = g + 1 := ⟨f - 1, by omega⟩
  have : Nat.blt r (zc_ml y m) = false := by
    cases hb : Nat.blt r (zc_ml y m) with
    | false => rfl
    | true => rw [Nat.blt_eq] at hb; omega
  rw [zc_wm, this]; rfl
theorem zc_ml_le (y m : Nat) : zc_ml y m ≤ 31 := by
  unfold zc_ml
  cases Nat.beq m 2 <;> cases zc_leap y <;> cases (or (Nat.beq m 4) (or (Nat.beq m 6) (or (Nat.beq m 9) (Nat.beq m 11)))) <;> decide
def zm_lp (y : Nat) : Int32 := cond (zc_leap y) 1 0
theorem zm_lp_0 {y : Nat} (h : zm_lp y = 0) : zc_leap y = false := by
  unfold zm_lp at h
  cases q : zc_leap y with
  | false => rfl
  | true => rw [q] at h; exact absurd h (by decide)
theorem zm_lp_1 {y : Nat} (h : ¬ zm_lp y = 0) : zc_leap y = true := by
  unfold zm_lp at h
  cases q : zc_leap y with
  | true => rfl
  | false => rw [q] at h; exact absurd rfl h
theorem zm_yl_0 {y : Nat} (h : zm_lp y = 0) : zc_yl y = 365 := by unfold zc_yl; rw [zm_lp_0 h]; rfl
theorem zm_yl_1 {y : Nat} (h : ¬ zm_lp y = 0) : zc_yl y = 366 := by unfold zc_yl; rw [zm_lp_1 h]; rfl
/-- found so far: by the week, or among the first i rest dates -/
def zm_fnd (w : Int32) (f : Nat → Int32) (x : Int32) (i : Nat) : Int32 := if w = 0 then (if zb_was f x i = true then 1 else 0) else 1
theorem zm_fnd_01 (w : Int32) (f : Nat → Int32) (x : Int32) (i : Nat) : zm_fnd w f x i = 0 ∨ zm_fnd w f x i = 1 := by
  unfold zm_fnd
  split
  · split
    · exact Or.inr rfl
    · exact Or.inl rfl
  · exact Or.inr rfl
theorem zm_fnd_next (w : Int32) (f : Nat → Int32) (x : Int32) (i : Nat) : zm_fnd w f x (i + 1) = if zm_fnd w f x i = 0 then (if f i = x then 1 else 0) else 1 := by
  unfold zm_fnd
  by_cases hw : w = 0
  · rw [if_pos hw, if_pos hw]
    rw [zb_was]
    by_cases hi : f i = x
    · simp [hi]
    · cases zb_was f x i <;> simp [hi]
  · rw [if_neg hw, if_neg hw, if_neg (show ¬ (1 : Int32) = 0 by decide)]
def zm_wk (x : Int32) : Int32 := if x - x / 7 * 7 = 0 then 1 else if x - x / 7 * 7 = 1 then 1 else 0
theorem zm_isRest_fnd (R : zb_TR) (x : Int32) : zb_isRest R x = zm_fnd (zm_wk x) (zbR_dat R) x (zbR_dm R).toNatClampNeg := by
  unfold zb_isRest zm_fnd zm_wk zb_wasI
  by_cases h1 : x - x / 7 * 7 = 0
  · rw [if_pos h1, if_pos h1, if_neg (show ¬ (1 : Int32) = 0 by decide)]
  · rw [if_neg h1, if_neg h1]
    by_cases h2 : x - x / 7 * 7 = 1
    · rw [if_pos h2, if_pos h2, if_neg (show ¬ (1 : Int32) = 0 by decide)]
    · rw [if_neg h2, if_neg h2, if_pos rfl]
      cases zb_was (zbR_dat R) x (zbR_dm R).toNatClampNeg <;> rfl
