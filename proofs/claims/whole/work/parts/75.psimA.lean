/-! PURE: what is kept; interest; a step. -/
def zs_W (x : Int32) : Prop := ∃ u, u < 64 ∧ x = nI u
theorem zs_W_or2 : ∀ u, u < 64 → ∀ v, v < 64 → nI u ||| nI v = nI (u ||| v) ∧ u ||| v < 64 := by decide +kernel
theorem zs_W_or {x y : Int32} (h : zs_W x) (g : zs_W y) : zs_W (x ||| y) := by
  obtain ⟨u, hu, rfl⟩ := h
  obtain ⟨v, hv, rfl⟩ := g
  obtain ⟨a, b⟩ := zs_W_or2 u hu v hv
  exact ⟨_, b, a⟩
theorem zs_W_0 : zs_W 0 := ⟨0, by decide, rfl⟩
theorem zs_W_bit2 : ∀ k, k < 6 → (1 : Int32) <<< (nI k &&& 31) = nI (2 ^ k) ∧ 2 ^ k < 64 := by decide +kernel
theorem zs_W_bit {k : Nat} (h : k < 6) : zs_W ((1 : Int32) <<< (nI k &&& 31)) := ⟨_, (zs_W_bit2 k h).2, (zs_W_bit2 k h).1⟩
theorem zs_tch_afford (d : zm_TD) (n : Int32) : zmD_tch (zm_afford d n).2 = zmD_tch d := by
  unfold zm_afford
  split
  · rfl
  · split
    · rfl
    · rfl
theorem zs_tch_comes2 {d : zm_TD} {b set : Int32} (h : zs_W (zmD_tch d)) (g : zs_W set) : zs_W (zmD_tch (zm_comes2 d b set).2) := by
  unfold zm_comes2
  split
  · dsimp only
    rw [zs_tch_afford]; exact h
  · show zs_W (zmD_tch (zm_afford d (b + 1)).2 ||| set)
    rw [zs_tch_afford]; exact zs_W_or h g
theorem zs_tch_comes {d : zm_TD} {b set : Int32} (h : zs_W (zmD_tch d)) (g : zs_W set) : zs_W (zmD_tch (zm_comes d b set).2) := by
  unfold zm_comes
  split
  · exact zs_tch_comes2 h g
  · split
    · dsimp only
      rw [zs_tch_afford]; exact h
    · exact zs_tch_comes2 zs_W_0 g
theorem zs_I_D {T : zm_S} {B : Nat} {d : zm_TD} (h : zs_I T B) (g : zs_W (zmD_tch d)) : zs_I (zm_sD T d) B := by
  obtain ⟨a1, a2, a3, a4, a5, a6, a7, -⟩ := h
  exact ⟨a1, a2, a3, a4, a5, a6, a7, g⟩
theorem zs_I_cm {T : zm_S} {B : Nat} {b set : Int32} (h : zs_I T B) (g : zs_W set) : zs_I (zm_cm T b set).2 B := zs_I_D h (zs_tch_comes h.2.2.2.2.2.2.2 g)
theorem zs_I_K {T T' : zm_S} {B : Nat} (k : zs_K T T') (h : zs_I T B) : zs_I T' B := by
  obtain ⟨k1, k2, k3, k4, k5, k6, k7, k8, k9, k10, k11, k12, k13⟩ := k
  have e1 : zm_rst T' = zm_rst T := by unfold zm_rst; rw [k4]
  have e2 : zm_tch T' = zm_tch T := by unfold zm_tch; rw [k12]
  unfold zs_I
  rw [k1, k2, k3, k5, k6, k7, k8, k9, k10, k11, e1, e2]
  exact h
theorem zs_W_stepSet {T : zm_S} (hp : ∀ k, ∃ p, p < 6 ∧ zm_pye T k = nI p) (paid : Int32) : ∀ n i cnt chg, zs_W chg → zs_W (zm_stepSet T paid n i cnt chg).2 := by
  intro n
  induction n with
  | zero => intro i cnt chg h; exact h
  | succ n ih =>
    intro i cnt chg h
    rw [zm_stepSet]
    split
    · obtain ⟨p, hp, ep⟩ := hp i
      rw [ep]
      exact ih _ _ _ (zs_W_or h (zs_W_bit hp))
    · exact ih _ _ _ h
theorem zs_K_grow (T : zm_S) (j i : Nat) : zs_K T (zm_grow T j i) := by
  unfold zm_grow
  dsimp only
  split
  · exact zs_K_refl T
  · exact zs_K_refl T
theorem zs_unit (b : Int32) : 0 < (10000 * (if b = 0 then (365 : Int32) else 360).toInt64).toInt ∧ (10000 * (if b = 0 then (365 : Int32) else 360).toInt64).toInt < 2 ^ 40 := by
  by_cases h : b = 0
  · rw [if_pos h]; decide
  · rw [if_neg h]; decide
theorem zs_grow {T : zm_S} {j i c : Nat} (du pd : Nat → Int32) (hc : c < 3) (eb : zm_bas T i = nI c) (hj : zm_now T = nI j) (hjb : j + 1 < 100077) :
    zb_step3 (zb_accrue (zs_B T du pd) i (zb_dayCount (zb_bas (zs_B T du pd) i) (zb_bd (zs_B T du pd)) (zb_bd (zs_B T du pd) + 1))) i = zs_B (zm_grow T j i) du pd := by
  have e1 : zb_bas (zs_B T du pd) i = nI c := eb
  have e2 : zb_bd (zs_B T du pd) = nI j := hj
  rw [e1, e2, nI_1, zq_dayCount hc (by omega) hjb, ← eb]
  unfold zm_grow
  generalize zm_days (zm_bas T i) j (j + 1) = v
  have e3 : zb_accrue (zs_B T du pd) i v = zs_B (zm_sacr T (vp_updL (zm_acr T) i (zm_acr T i + zm_mon T i * (zm_rat T i).toInt64 * v.toInt64))) du pd := rfl
  rw [e3]
  dsimp only
  have hj1 : zm_now (zm_sacr T (vp_updL (zm_acr T) i (zm_acr T i + zm_mon T i * (zm_rat T i).toInt64 * v.toInt64))) = nI j := hj
  generalize zm_sacr T (vp_updL (zm_acr T) i (zm_acr T i + zm_mon T i * (zm_rat T i).toInt64 * v.toInt64)) = T1 at hj1 ⊢
  unfold zb_step3
  have e4 : zb_bd (zs_B T1 du pd) = nI j := hj1
  rw [e4, zq_isLast hjb]
  by_cases l : zc_d j = zc_ml (zc_y j) (zc_m j)
  · rw [if_pos l, if_pos l, if_neg (show ¬ (1 : Int32) = 0 by decide)]
    have ew : zb_whole (zs_B T1 du pd) i = zm_round (zm_acr T1 i) (zm_whole T1 i) := zq_near (zs_unit (zm_bas T1 i)).1 (zs_unit (zm_bas T1 i)).2
    unfold zb_take zm_grow2
    rw [ew]
    dsimp only
    generalize zm_round (zm_acr T1 i) (zm_whole T1 i) = q
    rfl
  · rw [if_neg l, if_neg l, if_pos rfl]
theorem zs_step {T : zm_S} {B j i : Nat} (hI : zs_I T B) (hj : zm_now T = nI j) (hjb : j + 64 < 100077) (hi : i < 6) (du pd : Nat → Int32) :
    ∃ du' pd', zb_step (zs_B T du pd) i = ((zm_step T j i).1, zs_B (zm_step T j i).2 du' pd') ∧ zs_I (zm_step T j i).2 B ∧ zm_now (zm_step T j i).2 = nI j ∧ zm_acs (zm_step T j i).2 = zm_acs T := by
  obtain ⟨o, ho, eo⟩ := hI.2.1
  obtain ⟨t, ht, et⟩ := hI.2.2.2.2.2.2.2
  obtain ⟨du', pd', s, e1, e2, hs, -, hF⟩ := zs_plan hI hj hjb hi ho eo o 0 du pd (zm_free T (nI i)) 0 (by omega) (by decide)
  have hF := fun k h => hF k (Nat.zero_le k) h
  obtain ⟨c', set, hc, e3, e4⟩ := zs_stepSet hI du' pd' hs ho eo hF o 0 1 ((1 : Int32) <<< (nI i &&& 31)) (by omega)
  have hset : zs_W set := by
    have := zs_W_stepSet (T := T) (fun k => (hI.2.2.2.2.2.1 k).2) (nI s) o 0 (nI 1) _ (zs_W_bit hi)
    rw [e4] at this
    exact this
  have eS1 : zb_plan i (zb_o (zs_B T du pd)).toNatClampNeg 0 (zs_B T du pd) (zb_spend (zs_B T du pd) i) = zs_B T du' pd' := by
    have e0 : zb_o (zs_B T du pd) = nI o := eo
    rw [e0, nI_clamp (by omega), zs_spend hI du pd hi]
    exact e1
  have eW : zb_wStep (zs_B T du' pd') i = ((zm_cm T (nI c') set).1, zs_B (zm_cm T (nI c') set).2 du' pd') := by
    have e0 : zb_o (zs_B T du' pd') = nI o := eo
    have e5 : zb_stepSet (zs_B T du' pd') o 0 (zb_bit (some i)) 2 = (set, nI (c' + 1)) := e3
    unfold zb_wStep
    rw [e0, nI_clamp (by omega), e5]
    dsimp only
    have e6 : zb_lines (zb_D (zs_B T du' pd')) set (nI (c' + 1)) = zm_comes (zm_D T) (nI c') set := zq_lines (by omega) et ht
    rw [e6]
    rfl
  have eM : zm_step T j i = if (zm_cm T (nI c') set).1 = 0 then (0, (zm_cm T (nI c') set).2) else (1, zm_smrk (zm_grow (zm_carry j (nI i) (nI s) o 0 (zm_cm T (nI c') set).2) j i) (upd (zm_mrk (zm_grow (zm_carry j (nI i) (nI s) o 0 (zm_cm T (nI c') set).2) j i)) i (nI j))) := by
    have e5 : zm_paid T j (nI i) = nI s := by
      unfold zm_paid
      rw [eo, nI_clamp (by omega)]
      exact e2
    have e6 : zm_stepSet T (nI s) o 0 1 ((1 : Int32) <<< (nI i &&& 31)) = (nI c', set) := e4
    unfold zm_step
    rw [e5, eo, nI_clamp (by omega)]
    dsimp only
    rw [e6]
  refine ⟨du', pd', ?_⟩
  unfold zb_step
  dsimp only
  rw [eS1, eW, eM]
  have hI1 : zs_I (zm_cm T (nI c') set).2 B := zs_I_cm hI hset
  have f1 : zm_ors (zm_cm T (nI c') set).2 = nI o := eo
  have f2 : zm_now (zm_cm T (nI c') set).2 = nI j := hj
  have f3 : zm_acs (zm_cm T (nI c') set).2 = zm_acs T := rfl
  have f4 : ∀ k, k < o → zs_F (zm_cm T (nI c') set).2 j i k (du' k) (pd' k) (s.testBit k) := hF
  generalize zm_cm T (nI c') set = w at hI1 f1 f2 f3 f4 ⊢
  obtain ⟨v, T1⟩ := w
  dsimp only at hI1 f1 f2 f3 f4 ⊢
  by_cases h0 : v = 0
  · rw [if_pos h0, if_pos h0]
    exact ⟨rfl, hI1, f2, f3⟩
  · rw [if_neg h0, if_neg h0]
    dsimp only
    have kc := zs_K_carry j (nI i) (nI s) o 0 T1
    have ec : zb_carry o 0 (zs_B T1 du' pd') = zs_B (zm_carry j (nI i) (nI s) o 0 T1) du' pd' := by
      refine zs_carry du' pd' hs ho hi o 0 T1 (by omega) f1 (fun k hk => ⟨f4 k hk, (hI1.2.2.2.2.2.1 k).2, ?_⟩)
      obtain ⟨⟨m, hm, em, -, h6⟩, -⟩ := hI1
      exact (h6 k (by rw [f1, nI_clamp (by omega)]; exact hk)).2.2.1
    generalize zm_carry j (nI i) (nI s) o 0 T1 = T2 at kc ec ⊢
    have hI2 := zs_I_K kc hI1
    have g2 : zm_now T2 = nI j := kc.2.2.2.2.2.1.trans f2
    have g3 : zm_acs T2 = zm_acs T := kc.2.2.2.2.2.2.1.trans f3
    obtain ⟨c, hc3, eb⟩ := hI2.2.2.2.2.1 i
    have eg := zs_grow (i := i) du' pd' hc3 eb g2 (by omega)
    have kg := zs_K_grow T2 j i
    have e7 : zb_step2 (zs_B T1 du' pd') i = zs_B (zm_smrk (zm_grow T2 j i) (upd (zm_mrk (zm_grow T2 j i)) i (nI j))) du' pd' := by
      unfold zb_step2
      have e0 : zb_o (zs_B T1 du' pd') = nI o := f1
      rw [e0, nI_clamp (by omega), ec]
      dsimp only
      rw [eg]
      have g4 : zm_now (zm_grow T2 j i) = nI j := kg.2.2.2.2.2.1.trans g2
      generalize zm_grow T2 j i = T3 at g4 ⊢
      have e8 : zb_bd (zs_B T3 du' pd') = nI j := g4
      rw [e8]
      rfl
    refine ⟨Prod.ext rfl e7, ?_, ?_, ?_⟩
    · have := zs_I_K kg hI2
      generalize zm_grow T2 j i = T3 at this ⊢
      exact this
    · exact kg.2.2.2.2.2.1.trans g2
    · exact kg.2.2.2.2.2.2.1.trans g3
