/-! PURE: what holds between calls is kept. -/
def zs_J (T : zm_S) (B : Nat) : Prop := zs_I T B ∧ zs_E T
theorem zs_J_mono {T : zm_S} {B B' : Nat} (h : zs_J T B) (hb : B ≤ B') : zs_J T B' := ⟨zs_I_mono h.1 hb, h.2⟩
theorem zs_J_cm {T : zm_S} {B : Nat} {b set : Int32} (h : zs_J T B) (g : zs_W set) : zs_J (zm_cm T b set).2 B := ⟨zs_I_cm h.1 g, h.2⟩
theorem zs_J_K {T T' : zm_S} {B : Nat} (k : zs_K T T') (h : zs_J T B) : zs_J T' B := by
  refine ⟨zs_I_K k h.1, ?_⟩
  unfold zs_E
  rw [k.2.2.2.2.2.2.2.2.2.2.2.2]
  exact h.2
theorem zs_W_P {x : Int32} {p : Option Nat} (h : zs_P x p) : zs_W (zb_bit p) := by
  rcases h with ⟨-, rfl⟩ | ⟨i, hi, -, rfl⟩
  · exact zs_W_0
  · exact zs_W_bit hi
theorem zs_W_sof {x y : Int32} {p q : Option Nat} (hp : zs_P x p) (hq : zs_P y q) (hne : ¬ x = y) : zs_W (zm_sof x y) := by
  rw [← (zs_bits2 hp hq hne).1]
  exact zs_W_or (zs_W_P hp) (zs_W_P hq)
theorem zs_J_pay2 {T : zm_S} {B : Nat} {x y a : Int32} (h : zs_J T B) (hk : ¬ zm_known T x y = 0) : zs_J (zm_pay2 T x y a).2 B := by
  obtain ⟨hP, hQ, hne⟩ := zs_known_P h.1 (fun _ => 0) (fun _ => 0) hk
  have h1 := zs_J_cm (b := zm_lof x y) h (zs_W_sof hP hQ hne)
  unfold zm_pay2
  generalize zm_cm T (zm_lof x y) (zm_sof x y) = w at h1 ⊢
  split
  · exact h1
  · exact zs_J_K (zs_K_transfer w.2 x y a) h1
theorem zs_J_pay {T : zm_S} {B : Nat} (h : zs_J T B) (x y a : Int32) : zs_J (zm_pay T x y a).2 B := by
  unfold zm_pay
  split
  · by_cases h1 : zm_pair T x y = 0
    · rw [if_pos h1]; exact h
    rw [if_neg h1]
    have hk := zm_pair_known h1
    split
    · exact h
    · split
      · exact zs_J_pay2 h hk
      · split
        · exact zs_J_pay2 h hk
        · exact h
  · exact h
theorem zs_is_lt {T : zm_S} {n : Nat} {x : Int32} (en : zm_acs T = nI n) (hn : n ≤ 6) (h : ¬ zm_is T x = 0) : ∃ i, i < n ∧ x = nI i := by
  unfold zm_is at h
  by_cases h1 : x < 0
  · rw [if_pos h1] at h; exact absurd rfl h
  · rw [if_neg h1] at h
    obtain ⟨j, hj, rfl⟩ := nI_of h1
    by_cases h2 : zm_acs T ≤ nI j
    · rw [if_pos h2] at h; exact absurd rfl h
    · refine ⟨j, ?_, rfl⟩
      rw [en] at h2
      have := mt (nI_le (a := n) (b := j) · hj) h2
      omega
theorem zs_J_begin {T : zm_S} {B k : Nat} {x a : Int32} (h : zs_J T B) (hk : k < 8) (hx : ¬ zm_is T x = 0) : zs_J (zm_sham (zm_shof T (upd (zm_hof T) k x)) (upd (zm_ham T) k a)) B := by
  refine ⟨?_, h.2⟩
  obtain ⟨⟨⟨n, hn, en, h5, h6⟩, a2, a3, a4, a5, a6, a7, a8⟩, -⟩ := h
  refine ⟨⟨n, hn, en, ?_, h6⟩, a2, a3, a4, a5, a6, a7, a8⟩
  intro k'
  show ¬ upd (zm_ham T) k a k' ≤ 0 → k' < 8 ∧ ∃ i, i < n ∧ upd (zm_hof T) k x k' = nI i
  by_cases e : k' = k
  · subst e
    rw [pk_us, pk_us]
    exact fun _ => ⟨hk, zs_is_lt en hn hx⟩
  · rw [pk_un e, pk_un e]
    exact h5 k'
theorem zs_J_end {T : zm_S} {B k : Nat} (h : zs_J T B) : zs_J (zm_sham T (upd (zm_ham T) k 0)) B := by
  refine ⟨?_, h.2⟩
  obtain ⟨⟨⟨n, hn, en, h5, h6⟩, a2, a3, a4, a5, a6, a7, a8⟩, -⟩ := h
  refine ⟨⟨n, hn, en, ?_, h6⟩, a2, a3, a4, a5, a6, a7, a8⟩
  intro k'
  show ¬ upd (zm_ham T) k 0 k' ≤ 0 → k' < 8 ∧ ∃ i, i < n ∧ zm_hof T k' = nI i
  by_cases e : k' = k
  · subst e
    rw [pk_us]
    exact fun z => absurd (by decide) z
  · rw [pk_un e]
    exact h5 k'
theorem zs_J_hold {T : zm_S} {B : Nat} (h : zs_J T B) (x a : Int32) : zs_J (zm_hold T x a).2 B := by
  unfold zm_hold
  split
  · by_cases hx : zm_is T x = 0
    · rw [if_pos hx]; exact h
    rw [if_neg hx]
    split
    · exact h
    · unfold zm_hold2
      dsimp only
      have hle := zs_slot_le (f := zm_ham T) 8 0
      generalize zm_slot (zm_ham T) 8 0 = k at hle ⊢
      by_cases h8 : nI k = 8
      · rw [if_pos h8]; exact h
      · rw [if_neg h8]
        have hk : ¬ k = 8 := fun e => h8 (by rw [e]; rfl)
        split
        · obtain ⟨i, hi, ei⟩ := zm_is_nat (zs_I_m h.1) hx
          have h1 : zs_J (zm_cm T 1 ((1 : Int32) <<< (x &&& 31))).2 B := zs_J_cm h (by rw [ei]; exact zs_W_bit hi)
          have h2 : ¬ zm_is (zm_cm T 1 ((1 : Int32) <<< (x &&& 31))).2 x = 0 := hx
          generalize zm_cm T 1 ((1 : Int32) <<< (x &&& 31)) = w at h1 h2 ⊢
          split
          · exact h1
          · exact zs_J_begin h1 (by omega) h2
        · exact h
  · exact h
theorem zs_J_release {T : zm_S} {B : Nat} (h : zs_J T B) (x : Int32) : zs_J (zm_release T x).2 B := by
  unfold zm_release
  split
  · by_cases hx : zm_stands T x = 0
    · rw [if_pos hx]; exact h
    rw [if_neg hx]
    obtain ⟨hk, hf, i, hi, ei⟩ := zs_stands_on h.1 hx
    dsimp only
    rw [ei]
    have h1 : zs_J (zm_cm T 1 ((1 : Int32) <<< (nI i &&& 31))).2 B := zs_J_cm h (zs_W_bit hi)
    generalize zm_cm T 1 ((1 : Int32) <<< (nI i &&& 31)) = w at h1 ⊢
    split
    · exact h1
    · exact zs_J_end h1
  · exact h
theorem zs_J_settle {T : zm_S} {B : Nat} (h : zs_J T B) (x y a : Int32) : zs_J (zm_settle T x y a).2 B := by
  unfold zm_settle
  split
  · split
    · exact h
    · by_cases h1 : zm_pair T (zm_hof T x.toNatClampNeg) y = 0
      · rw [if_pos h1]; exact h
      rw [if_neg h1]
      obtain ⟨hP, hQ, hne⟩ := zs_known_P h.1 (fun _ => 0) (fun _ => 0) (zm_pair_known h1)
      split
      · exact h
      · split
        · unfold zm_settle2
          have h2 := zs_J_cm (b := zm_lof (zm_hof T x.toNatClampNeg) y) h (zs_W_sof hP hQ hne)
          generalize zm_hof T x.toNatClampNeg = f at h2 ⊢
          generalize zm_cm T (zm_lof f y) (zm_sof f y) = w at h2 ⊢
          split
          · exact h2
          · exact zs_J_K (zs_K_transfer _ f y a) (zs_J_end h2)
        · exact h
  · exact h
theorem zs_J_fuse {T : zm_S} {B : Nat} (h : zs_J T B) (n : Int32) : zs_J (zm_fuse T n).2 B := by
  unfold zm_fuse
  split
  · split
    · exact h
    · split
      · exact h
      · exact h
  · exact h
theorem zs_J_restart {T : zm_S} {B : Nat} (h : zs_J T B) : zs_J (zm_restart T).2 B := by
  unfold zm_restart
  split
  · exact h
  · exact h
