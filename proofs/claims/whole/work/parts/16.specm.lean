/-! SPEC OF THE REFERENCE: a function for each method, mirroring its code; the fields year, month, day are scratch and stand beside the state. -/
def zm_dOf (j : Nat) : Int32 := if nI (zc_d j) = 31 then 30 else nI (zc_d j)
def zm_eOf (d : Int32) (j : Nat) : Int32 := if d = 30 then (if nI (zc_d j) = 31 then 30 else nI (zc_d j)) else nI (zc_d j)
def zm_days (how : Int32) (a b : Nat) : Int32 := if how < 2 then nI b - nI a
  else 360 * (nI (zc_y b) - nI (zc_y a)) + 30 * (nI (zc_m b) - nI (zc_m a)) + zm_eOf (zm_dOf a) b - zm_dOf a
def zm_up (R : zm_TR) : Nat → Int32 → Int32
  | 0, x => x
  | k + 1, x => if zb_isRest R x = 0 then x else zm_up R k (x + 1)
def zm_dn (R : zm_TR) : Nat → Int32 → Int32
  | 0, x => x
  | k + 1, x => if zb_isRest R x = 0 then x else zm_dn R k (x - 1)
def zm_due3 (R : zm_TR) (now first size date : Int32) : Int32 :=
  if first + size ≤ zm_up R 40 date then (if zm_dn R 40 date = now then 1 else 0) else (if zm_up R 40 date = now then 1 else 0)
def zm_due2 (R : zm_TR) (now first size w : Int32) : Int32 := zm_due3 R now first size (first + (if size ≤ w then size else w) - 1)
def zm_due (R : zm_TR) (j : Nat) (w : Int32) : Int32 := zm_due2 R (nI j) (nI j - nI (zc_d j) + 1) (nI (zc_ml (zc_y j) (zc_m j))) w
def zm_spend (d : zm_TD) (n : Int32) : zm_TD := zmD_slft (zmD_swri d (zmD_wri d + n)) (if 0 ≤ zmD_lft d then zmD_lft d - n else zmD_lft d)
def zm_afford (d : zm_TD) (n : Int32) : Int32 × zm_TD :=
  if zmD_lft d < 0 then (1, zm_spend d n) else if zmD_lft d < n then (0, zmD_sstp (zm_spend d (zmD_lft d)) 1) else (1, zm_spend d n)
def zm_cnt (t : Int32) : Nat → Nat → Int32 → Int32
  | 0, _, n => n
  | f + 1, k, n => zm_cnt t f (k + 1) (n + (t >>> (nI k &&& 31) &&& 1))
def zm_comes2 (d : zm_TD) (b set : Int32) : Int32 × zm_TD :=
  if (zm_afford d (b + 1)).1 = 0 then (0, (zm_afford d (b + 1)).2)
  else (1, let e := (zm_afford d (b + 1)).2; zmD_stch (zmD_sedd (zmD_sinl e (zmD_inl e + (b + 1))) (zmD_edd e + 1)) (zmD_tch e ||| set))
def zm_comes (d : zm_TD) (b set : Int32) : Int32 × zm_TD :=
  if zmD_inl d + b + 1 ≤ 24 then zm_comes2 d b set
  else if (zm_afford d (zm_cnt (zmD_tch d) 6 0 1)).1 = 0 then (0, (zm_afford d (zm_cnt (zmD_tch d) 6 0 1)).2)
  else zm_comes2 (zmD_stch (zmD_sedd (zmD_sinl (zm_afford d (zm_cnt (zmD_tch d) 6 0 1)).2 0) 0) 0) b set
def zm_cm (T : zm_S) (b set : Int32) : Int32 × zm_S := ((zm_comes (zm_D T) b set).1, zm_sD T (zm_comes (zm_D T) b set).2)
def zm_shut (T : zm_S) : Int32 := if zm_stp T = 0 then (if zm_end T = 0 then 0 else -2) else -1
def zm_is (T : zm_S) (x : Int32) : Int32 := if x < 0 then 0 else if zm_acs T ≤ x then 0 else 1
def zm_amt (x : Int32) : Int32 := if x < 1 then 0 else if 1000000 < x then 0 else 1
def zm_held1 (T : zm_S) (a : Int32) (k : Nat) : Int64 := if zm_ham T k ≤ 0 then 0 else if zm_hof T k = a then (zm_ham T k).toInt64 else 0
def zm_freeL (T : zm_S) (a : Int32) : Nat → Nat → Int64 → Int64
  | 0, _, n => n
  | f + 1, k, n => zm_freeL T a f (k + 1) (n - zm_held1 T a k)
def zm_free (T : zm_S) (a : Int32) : Int64 := zm_freeL T a 8 0 (zm_mon T a.toNatClampNeg + (zm_lim T a.toNatClampNeg).toInt64)
def zm_open2 (T : zm_S) (c b l r : Int32) : Int32 × zm_S :=
  let q := zm_cm T 1 ((1 : Int32) <<< (zm_acs T &&& 31))
  if q.1 = 0 then (-1, q.2)
  else let T1 := q.2; let i := (zm_acs T1).toNatClampNeg
    (zm_acs T1 + 1 - 1, zm_sacs (zm_smrk (zm_srat (zm_slim (zm_sbas (zm_scur T1 (upd (zm_cur T1) i c)) (upd (zm_bas T1) i b)) (upd (zm_lim T1) i l)) (upd (zm_rat T1) i r)) (upd (zm_mrk T1) i (zm_now T1 - 1))) (zm_acs T1 + 1))
def zm_open (T : zm_S) (c b l r : Int32) : Int32 × zm_S :=
  if zm_shut T = 0 then
    (if c < 0 then (-3, T) else if 2 < c then (-3, T) else if b < 0 then (-3, T) else if 2 < b then (-3, T) else if l < 0 then (-3, T) else if 1000000 < l then (-3, T) else if r < 0 then (-3, T) else if r ≤ 1000 then (if zm_acs T = 6 then (-4, T) else zm_open2 T c b l r) else (-3, T))
  else (zm_shut T, T)
def zm_pair2 (T : zm_S) (x y : Int32) : Int32 := if x = -1 then 1 else if y = -1 then 1 else if zm_cur T x.toNatClampNeg = zm_cur T y.toNatClampNeg then 1 else 0
def zm_known (T : zm_S) (x y : Int32) : Int32 :=
  let fx : Int32 := if x = -1 then 1 else zm_is T x
  let fy : Int32 := if y = -1 then 1 else zm_is T y
  if fx = 0 then 0 else if fy = 0 then 0 else if x = y then 0 else 1
def zm_pair (T : zm_S) (x y : Int32) : Int32 := if zm_known T x y = 0 then 0 else zm_pair2 T x y
def zm_lof (x y : Int32) : Int32 := (if x < 0 then 0 else 1) + (if y < 0 then 0 else 1)
def zm_sof (x y : Int32) : Int32 := (if x < 0 then 0 else (1 : Int32) <<< (x &&& 31)) ||| (if y < 0 then 0 else (1 : Int32) <<< (y &&& 31))
def zm_pays (T : zm_S) (x y a : Int32) : zm_S := if x < 0 then zm_scsh T (vp_updL (zm_csh T) (zm_cur T y.toNatClampNeg).toNatClampNeg (zm_csh T (zm_cur T y.toNatClampNeg).toNatClampNeg + a.toInt64))
  else zm_smon T (vp_updL (zm_mon T) x.toNatClampNeg (zm_mon T x.toNatClampNeg - a.toInt64))
def zm_gets (T : zm_S) (x y a : Int32) : zm_S := if y < 0 then zm_scsh T (vp_updL (zm_csh T) (zm_cur T x.toNatClampNeg).toNatClampNeg (zm_csh T (zm_cur T x.toNatClampNeg).toNatClampNeg - a.toInt64))
  else zm_smon T (vp_updL (zm_mon T) y.toNatClampNeg (zm_mon T y.toNatClampNeg + a.toInt64))
def zm_transfer (T : zm_S) (x y a : Int32) : zm_S := zm_gets (zm_pays T x y a) x y a
def zm_pay2 (T : zm_S) (x y a : Int32) : Int32 × zm_S :=
  if (zm_cm T (zm_lof x y) (zm_sof x y)).1 = 0 then (-1, (zm_cm T (zm_lof x y) (zm_sof x y)).2) else (0, zm_transfer (zm_cm T (zm_lof x y) (zm_sof x y)).2 x y a)
def zm_pay (T : zm_S) (x y a : Int32) : Int32 × zm_S :=
  if zm_shut T = 0 then
    (if zm_pair T x y = 0 then (-3, T) else if zm_amt a = 0 then (-3, T) else if x < 0 then zm_pay2 T x y a else if a.toInt64 ≤ zm_free T x then zm_pay2 T x y a else (-5, T))
  else (zm_shut T, T)
def zm_slot (f : Nat → Int32) : Nat → Nat → Nat
  | 0, k => k
  | n + 1, k => if f k ≤ 0 then k else zm_slot f n (k + 1)
def zm_hold2 (T : zm_S) (x a : Int32) : Int32 × zm_S :=
  let k := zm_slot (zm_ham T) 8 0
  let q := zm_cm T 1 ((1 : Int32) <<< (x &&& 31))
  if nI k = 8 then (-4, T) else if a.toInt64 ≤ zm_free T x then (if q.1 = 0 then (-1, q.2) else (nI k, zm_sham (zm_shof q.2 (upd (zm_hof q.2) k x)) (upd (zm_ham q.2) k a))) else (-5, T)
def zm_hold (T : zm_S) (x a : Int32) : Int32 × zm_S :=
  if zm_shut T = 0 then (if zm_is T x = 0 then (-3, T) else if zm_amt a = 0 then (-3, T) else zm_hold2 T x a) else (zm_shut T, T)
def zm_stands (T : zm_S) (x : Int32) : Int32 := if x < 0 then 0 else if 8 ≤ x then 0 else if zm_ham T x.toNatClampNeg ≤ 0 then 0 else 1
def zm_release (T : zm_S) (x : Int32) : Int32 × zm_S :=
  if zm_shut T = 0 then
    (if zm_stands T x = 0 then (-3, T)
     else let q := zm_cm T 1 ((1 : Int32) <<< (zm_hof T x.toNatClampNeg &&& 31))
       if q.1 = 0 then (-1, q.2) else (0, zm_sham q.2 (upd (zm_ham q.2) x.toNatClampNeg 0)))
  else (zm_shut T, T)
def zm_settle2 (T : zm_S) (x f y a : Int32) : Int32 × zm_S :=
  if (zm_cm T (zm_lof f y) (zm_sof f y)).1 = 0 then (-1, (zm_cm T (zm_lof f y) (zm_sof f y)).2)
  else let T1 := (zm_cm T (zm_lof f y) (zm_sof f y)).2
    (0, zm_transfer (zm_sham T1 (upd (zm_ham T1) x.toNatClampNeg 0)) f y a)
def zm_settle (T : zm_S) (x y a : Int32) : Int32 × zm_S :=
  if zm_shut T = 0 then
    (if zm_stands T x = 0 then (-3, T) else if zm_pair T (zm_hof T x.toNatClampNeg) y = 0 then (-3, T) else if a < 1 then (-3, T) else if a ≤ zm_ham T x.toNatClampNeg then zm_settle2 T x (zm_hof T x.toNatClampNeg) y a else (-3, T))
  else (zm_shut T, T)
def zm_order2 (T : zm_S) (x y a d : Int32) : Int32 × zm_S :=
  let q := zm_cm T 1 ((1 : Int32) <<< (x &&& 31))
  if q.1 = 0 then (-1, q.2)
  else let T1 := q.2; let k := (zm_ors T1).toNatClampNeg
    (zm_ors T1 + 1 - 1, zm_sors (zm_sody (zm_ssum (zm_spye (zm_spyr T1 (upd (zm_pyr T1) k x)) (upd (zm_pye T1) k y)) (upd (zm_sum T1) k a)) (upd (zm_ody T1) k d)) (zm_ors T1 + 1))
def zm_order (T : zm_S) (x y a d : Int32) : Int32 × zm_S :=
  if zm_shut T = 0 then
    (if zm_is T x = 0 then (-3, T) else if zm_is T y = 0 then (-3, T) else if zm_pair T x y = 0 then (-3, T) else if zm_amt a = 0 then (-3, T) else if d < 1 then (-3, T) else if d ≤ 31 then (if zm_ors T = 6 then (-4, T) else zm_order2 T x y a d) else (-3, T))
  else (zm_shut T, T)
def zm_mon12 (j : Nat) : Int32 := 12 * nI (zc_y j) + nI (zc_m j)
def zm_later (now j : Nat) : Int32 := if zm_mon12 j ≤ zm_mon12 now then 0 else 1
def zm_restC (T : zm_S) (now j : Nat) : Int32 × zm_S :=
  if zb_isRest (zm_R T) (nI j) = 0 then (if zm_later now j = 0 then (-3, T) else if zm_rst T = 8 then (-4, T)
    else let q := zm_cm T 0 0
      if q.1 = 0 then (-1, q.2) else (0, zm_srst (zm_sdat q.2 (upd (zm_dat q.2) (zm_rst q.2).toNatClampNeg (nI j))) (zm_rst q.2 + 1))) else (-3, T)
-- day end: now is nI j
def zm_paidL (T : zm_S) (j : Nat) (a : Int32) : Nat → Nat → Int32 → Int64 → Int32
  | 0, _, set, _ => set
  | n + 1, k, set, has => if zm_pyr T k = a then (if (zm_sum T k).toInt64 ≤ has then (if zm_due (zm_R T) j (zm_ody T k) = 0 then zm_paidL T j a n (k + 1) set has
      else zm_paidL T j a n (k + 1) (set ||| (1 : Int32) <<< (nI k &&& 31)) (has - (zm_sum T k).toInt64)) else zm_paidL T j a n (k + 1) set has) else zm_paidL T j a n (k + 1) set has
def zm_paid (T : zm_S) (j : Nat) (a : Int32) : Int32 := zm_paidL T j a (zm_ors T).toNatClampNeg 0 0 (zm_free T a)
def zm_stepSet (T : zm_S) (paid : Int32) : Nat → Nat → Int32 → Int32 → Int32 × Int32
  | 0, _, cnt, set => (cnt, set)
  | n + 1, k, cnt, set => if paid >>> (nI k &&& 31) &&& 1 = 1 then zm_stepSet T paid n (k + 1) (cnt + 1) (set ||| (1 : Int32) <<< (zm_pye T k &&& 31)) else zm_stepSet T paid n (k + 1) cnt set
def zm_carryOne (T : zm_S) (j : Nat) (a paid : Int32) (k : Nat) : zm_S :=
  if paid >>> (nI k &&& 31) &&& 1 = 1 then zm_transfer T a (zm_pye T k) (zm_sum T k)
  else if zm_pyr T k = a then (if zm_due (zm_R T) j (zm_ody T k) = 0 then T else zm_smis T (upd (zm_mis T) k (zm_mis T k + 1))) else T
def zm_carry (j : Nat) (a paid : Int32) : Nat → Nat → zm_S → zm_S
  | 0, _, T => T
  | n + 1, k, T => zm_carry j a paid n (k + 1) (zm_carryOne T j a paid k)
def zm_whole (T : zm_S) (i : Nat) : Int64 := 10000 * (if zm_bas T i = 0 then (365 : Int32) else 360).toInt64
def zm_q0 (x u : Int64) : Int64 := if 0 ≤ x - x / u * u then x / u else x / u - 1
def zm_r0 (x u : Int64) : Int64 := if 0 ≤ x - x / u * u then x - x / u * u else x - x / u * u + u
def zm_round (x u : Int64) : Int64 := if 2 * zm_r0 x u ≤ u then (if 2 * zm_r0 x u = u then (if zm_q0 x u &&& 1 = 1 then zm_q0 x u + 1 else zm_q0 x u) else zm_q0 x u) else zm_q0 x u + 1
def zm_grow2 (T : zm_S) (i : Nat) : zm_S :=
  let q := zm_round (zm_acr T i) (zm_whole T i)
  let T1 := zm_smon T (vp_updL (zm_mon T) i (zm_mon T i + q))
  let T2 := zm_sitr T1 (vp_updL (zm_itr T1) (zm_cur T1 i).toNatClampNeg (zm_itr T1 (zm_cur T1 i).toNatClampNeg + q))
  zm_sacr T2 (vp_updL (zm_acr T2) i (zm_acr T2 i - q * zm_whole T i))
def zm_grow (T : zm_S) (j i : Nat) : zm_S :=
  let T1 := zm_sacr T (vp_updL (zm_acr T) i (zm_acr T i + zm_mon T i * (zm_rat T i).toInt64 * (zm_days (zm_bas T i) j (j + 1)).toInt64))
  if zc_d j = zc_ml (zc_y j) (zc_m j) then zm_grow2 T1 i else T1
def zm_step (T : zm_S) (j i : Nat) : Int32 × zm_S :=
  let paid := zm_paid T j (nI i)
  let n := (zm_ors T).toNatClampNeg
  let q := zm_stepSet T paid n 0 1 ((1 : Int32) <<< (nI i &&& 31))
  let w := zm_cm T q.1 q.2
  if w.1 = 0 then (0, w.2)
  else let T1 := zm_grow (zm_carry j (nI i) paid n 0 w.2) j i
    (1, zm_smrk T1 (upd (zm_mrk T1) i (nI j)))
def zm_steps (j : Nat) : Nat → Nat → zm_S → Int32 × zm_S
  | 0, _, T => (1, T)
  | n + 1, i, T => if nI j ≤ zm_mrk T i then zm_steps j n (i + 1) T else if (zm_step T j i).1 = 0 then (0, (zm_step T j i).2) else zm_steps j n (i + 1) (zm_step T j i).2
def zm_dayEnd3 (T : zm_S) : Int32 × zm_S := if (zm_cm T 0 0).1 = 0 then (0, (zm_cm T 0 0).2) else (1, zm_snow (zm_send (zm_cm T 0 0).2 0) (zm_now (zm_cm T 0 0).2 + 1))
def zm_dayEnd2 (T : zm_S) (j : Nat) : Int32 × zm_S :=
  if (zm_steps j (zm_acs T).toNatClampNeg 0 T).1 = 0 then (0, (zm_steps j (zm_acs T).toNatClampNeg 0 T).2) else zm_dayEnd3 (zm_steps j (zm_acs T).toNatClampNeg 0 T).2
def zm_dayEnd (T : zm_S) (j : Nat) : Int32 × zm_S :=
  if zm_end T = 0 then (if (zm_cm T 0 0).1 = 0 then (0, (zm_cm T 0 0).2) else zm_dayEnd2 (zm_send (zm_cm T 0 0).2 1) j) else zm_dayEnd2 T j
def zm_days2 (j : Nat) : Nat → zm_S → Int32 × zm_S
  | 0, T => (1, T)
  | k + 1, T => if (zm_dayEnd T j).1 = 0 then (0, (zm_dayEnd T j).2) else zm_days2 (j + 1) k (zm_dayEnd T j).2
def zm_run (T : zm_S) (j : Nat) (n : Int32) : Int32 × zm_S :=
  if zm_stp T = 0 then (if n < 1 then (-3, T) else if n ≤ 31 then (if (zm_days2 j n.toNatClampNeg T).1 = 0 then (-1, (zm_days2 j n.toNatClampNeg T).2) else (n, (zm_days2 j n.toNatClampNeg T).2)) else (-3, T)) else (-1, T)
def zm_rest (T : zm_S) (now : Nat) (x : Int32) : Int32 × zm_S :=
  if zm_shut T = 0 then (if x < 0 then (-3, T) else if 20000 < x then (-3, T) else zm_restC T now x.toNatClampNeg) else (zm_shut T, T)
def zm_fuse (T : zm_S) (n : Int32) : Int32 × zm_S := if zm_stp T = 0 then (if n < -1 then (0, T) else if n ≤ 500 then (1, zm_slft T n) else (0, T)) else (0, T)
def zm_restart (T : zm_S) : Int32 × zm_S := if zm_stp T = 0 then (-3, T) else (zm_edd T, zm_slft (zm_sstp T 0) (-1))
def zm_balance (T : zm_S) (x : Int32) : Int64 := if zm_stp T = 0 then (if zm_is T x = 0 then 0 else zm_mon T x.toNatClampNeg) else 0
def zm_avail (T : zm_S) (x : Int32) : Int64 := if zm_stp T = 0 then (if zm_is T x = 0 then 0 else zm_free T x) else 0
def zm_accrd (T : zm_S) (x : Int32) : Int64 := if zm_stp T = 0 then (if zm_is T x = 0 then 0 else zm_acr T x.toNatClampNeg) else 0
def zm_markC (T : zm_S) (x : Int32) : Int32 := if zm_stp T = 0 then (if zm_is T x = 0 then 0 else zm_mrk T x.toNatClampNeg) else 0
def zm_sumB (T : zm_S) (c : Int32) : Nat → Nat → Int64 → Int64
  | 0, _, z => z
  | k + 1, i, z => zm_sumB T c k (i + 1) (z + if zm_cur T i = c then zm_mon T i else 0)
def zm_ledger (T : zm_S) (c w : Int32) : Int64 :=
  if zm_stp T = 0 then (if c < 0 then 0 else if 2 < c then 0 else if w < 0 then 0 else if w ≤ 2 then (if 2 ≤ w then zm_sumB T c (zm_acs T).toNatClampNeg 0 0 else if w = 0 then zm_csh T c.toNatClampNeg else zm_itr T c.toNatClampNeg) else 0) else 0
def zm_missed (T : zm_S) (x : Int32) : Int32 := if zm_stp T = 0 then (if x < 0 then 0 else if zm_ors T ≤ x then 0 else zm_mis T x.toNatClampNeg) else 0
def zm_today (T : zm_S) : Int32 := if zm_stp T = 0 then zm_now T else 0
def zm_count (b x y : Int32) : Int32 := if b < 0 then -1 else if 2 < b then -1 else if x < 0 then -1 else if 99999 < y then -1 else if x ≤ y then zm_days b x.toNatClampNeg y.toNatClampNeg else -1
def zm_writes (T : zm_S) : Int32 := zm_wri T
def zm_linesC (T : zm_S) : Int32 := if zm_stp T = 0 then zm_inl T else 0
