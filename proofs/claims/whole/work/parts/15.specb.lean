/-! SPEC OF THE CLASS: a function for each method, mirroring its code. 'zj_' are JDK methods. -/
def zj_fdiv (x y : Int32) : Int32 := if 0 ≤ x ^^^ y then x / y else if x / y * y = x then x / y else x / y - 1
def zj_fmod (x y : Int32) : Int32 := if 0 ≤ x ^^^ y then x - x / y * y else if x - x / y * y = 0 then x - x / y * y else x - x / y * y + y
def zj_ldiv (x y : Int64) : Int64 := if 0 ≤ x ^^^ y then x / y else if x / y * y = x then x / y else x / y - 1
def zj_ush (x y : Int32) : Int32 := (x.toUInt32 >>> (y.toUInt32 &&& Int32.toUInt32 31)).toInt32
def zj_bc1 (i : Int32) : Int32 := i - (zj_ush i 1 &&& 1431655765)
def zj_bc2 (i : Int32) : Int32 := (i &&& 858993459) + (zj_ush i 2 &&& 858993459)
def zj_bc3 (i : Int32) : Int32 := (i + zj_ush i 4) &&& 252645135
def zj_bc (i : Int32) : Int32 :=
  let a := zj_bc3 (zj_bc2 (zj_bc1 i))
  let b := a + zj_ush a 8
  (b + zj_ush b 16) &&& 63
def zj_min (x y : Int32) : Int32 := if y < x then y else x
-- Disk
def zb_wOnce (d : zb_TD) : Int32 × zb_TD :=
  if zbD_wl d = 0 then (0, zbD_sstp d 1)
  else if zbD_wl d ≤ 0 then (1, zbD_swm d (zbD_wm d + 1))
  else (1, zbD_swm (zbD_swl d (zbD_wl d - 1)) (zbD_wm d + 1))
def zb_wMany : Nat → zb_TD → Int32 × zb_TD
  | 0, d => (1, d)
  | k + 1, d => if (zb_wOnce d).1 = 0 then (0, (zb_wOnce d).2) else zb_wMany k (zb_wOnce d).2
def zb_check2 (d : zb_TD) : Int32 × zb_TD :=
  if (zb_wOnce d).1 = 0 then (0, (zb_wOnce d).2) else (1, zbD_schg (zbD_strn (zbD_slin (zb_wOnce d).2 0) 0) 0)
def zb_check (d : zb_TD) : Int32 × zb_TD :=
  if (zb_wMany (zj_bc (zbD_chg d)).toNatClampNeg d).1 = 0 then (0, (zb_wMany (zj_bc (zbD_chg d)).toNatClampNeg d).2)
  else zb_check2 (zb_wMany (zj_bc (zbD_chg d)).toNatClampNeg d).2
def zb_lend (d : zb_TD) (chg cnt : Int32) : zb_TD := zbD_schg (zbD_strn (zbD_slin d (zbD_lin d + cnt)) (zbD_trn d + 1)) (zbD_chg d ||| chg)
def zb_lines2 (d : zb_TD) (chg cnt : Int32) : Int32 × zb_TD :=
  if (zb_wMany cnt.toNatClampNeg d).1 = 0 then (0, (zb_wMany cnt.toNatClampNeg d).2)
  else (1, zb_lend (zb_wMany cnt.toNatClampNeg d).2 chg cnt)
def zb_lines (d : zb_TD) (chg cnt : Int32) : Int32 × zb_TD :=
  if zbD_lin d + cnt ≤ 24 then zb_lines2 d chg cnt
  else if (zb_check d).1 = 0 then (0, (zb_check d).2)
  else zb_lines2 (zb_check d).2 chg cnt
def zb_trans (d : zb_TD) (chg : Int32) : Int32 × zb_TD := zb_lines d chg (zj_bc chg + 1)
-- RestDays
def zb_full (r : zb_TR) : Int32 := if zbR_dm r < 8 then 0 else 1
def zb_add (r : zb_TR) (x : Int32) : zb_TR := if zb_full r = 0 then zbR_sdm (zbR_sdat r (upd (zbR_dat r) (zbR_dm r).toNatClampNeg x)) (zbR_dm r + 1) else r
def zb_was (f : Nat → Int32) (x : Int32) : Nat → Bool
  | 0 => false
  | k + 1 => or (decide (f k = x)) (zb_was f x k)
def zb_wasI (r : zb_TR) (x : Int32) : Int32 := if zb_was (zbR_dat r) x (zbR_dm r).toNatClampNeg = true then 1 else 0
def zb_isRest (r : zb_TR) (x : Int32) : Int32 :=
  if x - x / 7 * 7 = 0 then 1 else if x - x / 7 * 7 = 1 then 1 else if zb_wasI r x = 0 then 0 else 1
-- Calendar
def zb_isBas (b : Int32) : Int32 := if b < 0 then 0 else if 3 ≤ b then 0 else 1
def zb_yearOf (b : Int32) : Int32 := if b = 0 then 365 else 360
def zb_mdY (c : Int32) : Int32 := (c - (c / 1460 - c / 36524 + c / 146096)) / 365
def zb_mdD (c y : Int32) : Int32 := c - (365 * y + y / 4 - y / 100)
def zb_mdM (d : Int32) : Int32 := (5 * d + 2) / 153
def zb_mdT (d m : Int32) : Int32 := d - (153 * m + 2) / 5 + 1
def zb_md3 (cy y m t : Int32) : Int32 := ((4800 * cy + 12 * y + m) <<< ((5 : Int32) &&& 31)) + t
def zb_md2 (cy c : Int32) : Int32 := zb_md3 cy (zb_mdY c) (zb_mdM (zb_mdD c (zb_mdY c))) (zb_mdT (zb_mdD c (zb_mdY c)) (zb_mdM (zb_mdD c (zb_mdY c))))
def zb_md (x : Int32) : Int32 := zb_md2 (zj_fdiv (x - 60) 146097) (zj_fmod (x - 60) 146097)
def zb_monthIn (w : Int32) : Int32 := w >>> ((5 : Int32) &&& 31)
def zb_dayIn (w : Int32) : Int32 := w &&& 31
def zb_lastDay (a b : Int32) : Int32 := if a = 30 then (if b = 31 then 30 else b) else b
def zb_byMonths (x y : Int32) : Int32 :=
  30 * (zb_monthIn (zb_md y) - zb_monthIn (zb_md x)) + zb_lastDay (zj_min (zb_dayIn (zb_md x)) 30) (zb_dayIn (zb_md y)) - zj_min (zb_dayIn (zb_md x)) 30
def zb_dayCount (b x y : Int32) : Int32 := if b = 2 then zb_byMonths x y else y - x
def zb_isLast (x : Int32) : Int32 := if zb_dayIn (zb_md (x + 1)) = 1 then 1 else 0
def zb_up (r : zb_TR) (f len : Int32) : Nat → Int32 → Option Int32
  | 0, _ => none
  | k + 1, i => if len < i then none else if zb_isRest r (f + i) = 0 then some (f + i) else zb_up r f len k (i + 1)
def zb_dn (r : zb_TR) (f : Int32) : Nat → Int32 → Option Int32
  | 0, _ => none
  | k + 1, i => if i < 1 then none else if zb_isRest r (f + i) = 0 then some (f + i) else zb_dn r f k (i - 1)
def zb_due4 (r : zb_TR) (f w : Int32) : Int32 := match zb_dn r f 40 (w - 1) with
  | some x => x
  | none => f + w
def zb_due3 (r : zb_TR) (f len w : Int32) : Int32 := match zb_up r f len 40 w with
  | some x => x
  | none => zb_due4 r f w
def zb_due2 (r : zb_TR) (day f : Int32) : Int32 := zb_due3 r f (32 - zb_dayIn (zb_md (f + 32))) (zj_min day (32 - zb_dayIn (zb_md (f + 32))))
def zb_due (r : zb_TR) (day x : Int32) : Int32 := zb_due2 r day (x - zb_dayIn (zb_md x))
-- Account (of a state, by its number)
def zb_spend (S : zb_S) (i : Nat) : Int64 := zb_bal S i + (zb_lim S i).toInt64 - zb_hel S i
def zb_accrue (S : zb_S) (i : Nat) (k : Int32) : zb_S := zb_sacr S (vp_updL (zb_acr S) i (zb_acr S i + zb_bal S i * (zb_rat S i).toInt64 * k.toInt64))
def zb_near2 (u q t : Int64) : Int64 := if t ≤ u then (if t = u then (if q &&& 1 = 1 then q + 1 else q) else q) else q + 1
def zb_near (x u : Int64) : Int64 := zb_near2 u (zj_ldiv x u) (2 * (x - zj_ldiv x u * u))
def zb_unit (S : zb_S) (i : Nat) : Int64 := 10000 * (zb_yearOf (zb_bas S i)).toInt64
def zb_whole (S : zb_S) (i : Nat) : Int64 := zb_near (zb_acr S i) (zb_unit S i)
def zb_take (S : zb_S) (i : Nat) : zb_S :=
  zb_sacr (zb_sbal S (vp_updL (zb_bal S) i (zb_bal S i + zb_whole S i))) (vp_updL (zb_acr S) i (zb_acr S i - zb_whole S i * zb_unit S i))
-- Hold
def zb_begin (S : zb_S) (k i : Nat) (a : Int32) : zb_S :=
  zb_shel (zb_sham (zb_shol S (va_up (zb_hol S) k (some i))) (upd (zb_ham S) k a)) (vp_updL (zb_hel S) i (zb_hel S i + a.toInt64))
def zb_end (S : zb_S) (k : Nat) : zb_S := match zb_hol S k with
  | none => zb_sham (zb_shol S (va_up (zb_hol S) k none)) (upd (zb_ham S) k 0)
  | some i => zb_sham (zb_shol (zb_shel S (vp_updL (zb_hel S) i (zb_hel S i - (zb_ham S k).toInt64))) (va_up (zb_hol S) k none)) (upd (zb_ham S) k 0)
-- Order
def zb_make (S : zb_S) (k : Nat) (p q : Option Nat) (a d : Int32) : zb_S :=
  zb_sody (zb_soam (zb_spye (zb_spyr S (va_up (zb_pyr S) k p)) (va_up (zb_pye S) k q)) (upd (zb_oam S) k a)) (upd (zb_ody S) k d)
-- the bank
def zb_within (x a b : Int32) : Int32 := if x < a then 0 else if b < x then 0 else 1
def zb_bit (r : Option Nat) : Int32 := match r with
  | none => 0
  | some i => (1 : Int32) <<< (nI i &&& 31)
def zb_refuse (S : zb_S) : Int32 := if zb_stp S = 0 then (if zb_de S = 0 then 0 else -2) else -1
def zb_accOf (S : zb_S) (x : Int32) : Option Nat := if zb_within x 0 (zb_n S - 1) = 0 then none else some x.toNatClampNeg
def zb_shown (S : zb_S) (x : Int32) : Option Nat := if zb_stp S = 0 then zb_accOf S x else none
def zb_stand (S : zb_S) (x : Int32) : Option Nat := if zb_within x 0 7 = 0 then none else match zb_hol S x.toNatClampNeg with
  | none => none
  | some _ => some x.toNatClampNeg
def zb_free (f : Nat → Option Nat) : Nat → Nat → Nat
  | 0, k => k
  | n + 1, k => match f k with
    | none => k
    | some _ => zb_free f n (k + 1)
def zb_party (S : zb_S) (x : Int32) : Int32 := if x = -1 then 1 else match zb_accOf S x with
  | none => 0
  | some _ => 1
def zb_payable2 (S : zb_S) (p q : Option Nat) : Int32 := match p, q with
  | none, _ => 1
  | some _, none => 1
  | some i, some j => if zb_cur S i = zb_cur S j then 1 else 0
def zb_payable (S : zb_S) (x y : Int32) : Int32 :=
  if x = y then 0 else if zb_party S x = 0 then 0 else if zb_party S y = 0 then 0 else zb_payable2 S (zb_accOf S x) (zb_accOf S y)
def zb_later (S : zb_S) (x : Int32) : Int32 := if zb_monthIn (zb_md x) ≤ zb_monthIn (zb_md (zb_bd S)) then 0 else 1
def zb_pays (S : zb_S) (p q : Option Nat) (a : Int32) : zb_S := match p, q with
  | some i, _ => zb_sbal S (vp_updL (zb_bal S) i (zb_bal S i - a.toInt64))
  | none, some j => zb_scsh S (vp_updL (zb_csh S) (zb_cur S j).toNatClampNeg (zb_csh S (zb_cur S j).toNatClampNeg + a.toInt64))
  | none, none => S
def zb_gets (S : zb_S) (p q : Option Nat) (a : Int32) : zb_S := match p, q with
  | _, some j => zb_sbal S (vp_updL (zb_bal S) j (zb_bal S j + a.toInt64))
  | some i, none => zb_scsh S (vp_updL (zb_csh S) (zb_cur S i).toNatClampNeg (zb_csh S (zb_cur S i).toNatClampNeg - a.toInt64))
  | none, none => S
def zb_transfer (S : zb_S) (p q : Option Nat) (a : Int32) : zb_S := zb_gets (zb_pays S p q a) p q a
def zb_sumB (S : zb_S) (c : Int32) : Nat → Nat → Int64 → Int64
  | 0, _, z => z
  | k + 1, i, z => zb_sumB S c k (i + 1) (if zb_cur S i = c then z + zb_bal S i else z)
-- day end
def zb_planOne (S : zb_S) (a i : Nat) (left : Int64) : zb_S × Int64 :=
  let due : Int32 := if zb_pyr S i = some a then (if zb_due (zb_R S) (zb_ody S i) (zb_bd S) = zb_bd S then 1 else 0) else 0
  let paid : Int32 := if due = 0 then 0 else if (zb_oam S i).toInt64 ≤ left then 1 else 0
  (zb_sopd (zb_sodu S (upd (zb_odu S) i due)) (upd (zb_opd S) i paid), if paid = 0 then left else left - (zb_oam S i).toInt64)
def zb_plan (a : Nat) : Nat → Nat → zb_S → Int64 → zb_S
  | 0, _, S, _ => S
  | k + 1, i, S, left => zb_plan a k (i + 1) (zb_planOne S a i left).1 (zb_planOne S a i left).2
def zb_stepSet (S : zb_S) : Nat → Nat → Int32 → Int32 → Int32 × Int32
  | 0, _, chg, cnt => (chg, cnt)
  | k + 1, i, chg, cnt => if zb_opd S i = 0 then zb_stepSet S k (i + 1) chg cnt else zb_stepSet S k (i + 1) (chg ||| zb_bit (zb_pye S i)) (cnt + 1)
def zb_carryOne (S : zb_S) (i : Nat) : zb_S :=
  if zb_opd S i = 0 then (if zb_odu S i = 0 then S else zb_soms S (upd (zb_oms S) i (zb_oms S i + 1))) else zb_transfer S (zb_pyr S i) (zb_pye S i) (zb_oam S i)
def zb_carry : Nat → Nat → zb_S → zb_S
  | 0, _, S => S
  | k + 1, i, S => zb_carry k (i + 1) (zb_carryOne S i)
def zb_step3 (S : zb_S) (a : Nat) : zb_S :=
  if zb_isLast (zb_bd S) = 0 then S
  else zb_sitr (zb_take S a) (vp_updL (zb_itr S) (zb_cur S a).toNatClampNeg (zb_itr S (zb_cur S a).toNatClampNeg + zb_whole S a))
def zb_step2 (S : zb_S) (a : Nat) : zb_S :=
  let S1 := zb_carry (zb_o S).toNatClampNeg 0 S
  let S2 := zb_accrue S1 a (zb_dayCount (zb_bas S1 a) (zb_bd S1) (zb_bd S1 + 1))
  let S3 := zb_step3 S2 a
  zb_smrk S3 (upd (zb_mrk S3) a (zb_bd S3))
def zb_wStep (S : zb_S) (a : Nat) : Int32 × zb_S :=
  let q := zb_stepSet S (zb_o S).toNatClampNeg 0 (zb_bit (some a)) 2
  ((zb_lines (zb_D S) q.1 q.2).1, zb_sD S (zb_lines (zb_D S) q.1 q.2).2)
def zb_step (S : zb_S) (a : Nat) : Int32 × zb_S :=
  let S1 := zb_plan a (zb_o S).toNatClampNeg 0 S (zb_spend S a)
  if (zb_wStep S1 a).1 = 0 then (0, (zb_wStep S1 a).2) else (1, zb_step2 (zb_wStep S1 a).2 a)
def zb_steps : Nat → Nat → zb_S → Int32 × zb_S
  | 0, _, S => (1, S)
  | k + 1, i, S => if zb_bd S ≤ zb_mrk S i then zb_steps k (i + 1) S
    else if (zb_step S i).1 = 0 then (0, (zb_step S i).2) else zb_steps k (i + 1) (zb_step S i).2
def zb_tr (S : zb_S) (chg : Int32) : Int32 × zb_S := ((zb_trans (zb_D S) chg).1, zb_sD S (zb_trans (zb_D S) chg).2)
def zb_dayEnd3 (S : zb_S) : Int32 × zb_S :=
  if (zb_tr S 0).1 = 0 then (0, (zb_tr S 0).2) else (1, zb_sde (zb_sbd (zb_tr S 0).2 (zb_bd (zb_tr S 0).2 + 1)) 0)
def zb_dayEnd2 (S : zb_S) : Int32 × zb_S :=
  if (zb_steps (zb_n S).toNatClampNeg 0 (zb_sde S 1)).1 = 0 then (0, (zb_steps (zb_n S).toNatClampNeg 0 (zb_sde S 1)).2)
  else zb_dayEnd3 (zb_steps (zb_n S).toNatClampNeg 0 (zb_sde S 1)).2
def zb_dayEnd (S : zb_S) : Int32 × zb_S :=
  if zb_de S = 0 then (if (zb_tr S 0).1 = 0 then (0, (zb_tr S 0).2) else zb_dayEnd2 (zb_tr S 0).2) else zb_dayEnd2 S
def zb_days : Nat → zb_S → Int32 × zb_S
  | 0, S => (1, S)
  | k + 1, S => if (zb_dayEnd S).1 = 0 then (0, (zb_dayEnd S).2) else zb_days k (zb_dayEnd S).2
-- the public calls
def zb_open2 (S : zb_S) (c b l r : Int32) : Int32 × zb_S :=
  let i := (zb_n S).toNatClampNeg
  let S1 := (zb_tr S (zb_bit (some i))).2
  if (zb_tr S (zb_bit (some i))).1 = 0 then (-1, S1)
  else (nI i, zb_sn (zb_smrk (zb_srat (zb_slim (zb_sbas (zb_scur S1 (upd (zb_cur S1) i c)) (upd (zb_bas S1) i b)) (upd (zb_lim S1) i l)) (upd (zb_rat S1) i r)) (upd (zb_mrk S1) i (zb_bd S1 - 1))) (zb_n S1 + 1))
def zb_open (S : zb_S) (c b l r : Int32) : Int32 × zb_S :=
  if zb_refuse S = 0 then
    (if zb_within c 0 2 = 0 then (-3, S) else if zb_isBas b = 0 then (-3, S) else if zb_within l 0 1000000 = 0 then (-3, S) else if zb_within r 0 1000 = 0 then (-3, S)
     else if zb_n S < 6 then zb_open2 S c b l r else (-4, S))
  else (zb_refuse S, S)
def zb_pay3 (S : zb_S) (p q : Option Nat) (a : Int32) : Int32 × zb_S :=
  if (zb_tr S (zb_bit p ||| zb_bit q)).1 = 0 then (-1, (zb_tr S (zb_bit p ||| zb_bit q)).2) else (0, zb_transfer (zb_tr S (zb_bit p ||| zb_bit q)).2 p q a)
def zb_pay2 (S : zb_S) (p q : Option Nat) (a : Int32) : Int32 × zb_S := match p with
  | none => zb_pay3 S p q a
  | some i => if a.toInt64 ≤ zb_spend S i then zb_pay3 S p q a else (-5, S)
def zb_pay (S : zb_S) (x y a : Int32) : Int32 × zb_S :=
  if zb_refuse S = 0 then
    (if zb_payable S x y = 0 then (-3, S) else if zb_within a 1 1000000 = 0 then (-3, S) else zb_pay2 S (zb_accOf S x) (zb_accOf S y) a)
  else (zb_refuse S, S)
def zb_hold2 (S : zb_S) (i : Nat) (a : Int32) : Int32 × zb_S :=
  let k := zb_free (zb_hol S) 8 0
  if nI k < 8 then (if a.toInt64 ≤ zb_spend S i then (if (zb_tr S (zb_bit (some i))).1 = 0 then (-1, (zb_tr S (zb_bit (some i))).2) else (nI k, zb_begin (zb_tr S (zb_bit (some i))).2 k i a)) else (-5, S)) else (-4, S)
def zb_hold (S : zb_S) (x a : Int32) : Int32 × zb_S :=
  if zb_refuse S = 0 then (match zb_accOf S x with
    | none => (-3, S)
    | some i => if zb_within a 1 1000000 = 0 then (-3, S) else zb_hold2 S i a)
  else (zb_refuse S, S)
def zb_release (S : zb_S) (x : Int32) : Int32 × zb_S :=
  if zb_refuse S = 0 then (match zb_stand S x with
    | none => (-3, S)
    | some k => if (zb_tr S (zb_bit (zb_hol S k))).1 = 0 then (-1, (zb_tr S (zb_bit (zb_hol S k))).2) else (0, zb_end (zb_tr S (zb_bit (zb_hol S k))).2 k))
  else (zb_refuse S, S)
def zb_settle2 (S : zb_S) (k i : Nat) (y a : Int32) : Int32 × zb_S :=
  if zb_payable S (nI i) y = 0 then (-3, S)
  else if (zb_tr S (zb_bit (some i) ||| zb_bit (zb_accOf S y))).1 = 0 then (-1, (zb_tr S (zb_bit (some i) ||| zb_bit (zb_accOf S y))).2)
  else (0, zb_transfer (zb_end (zb_tr S (zb_bit (some i) ||| zb_bit (zb_accOf S y))).2 k) (some i) (zb_accOf S y) a)
def zb_settle (S : zb_S) (x y a : Int32) : Int32 × zb_S :=
  if zb_refuse S = 0 then (match zb_stand S x with
    | none => (-3, S)
    | some k => if zb_within a 1 (zb_ham S k) = 0 then (-3, S) else match zb_hol S k with
      | none => (-3, S)
      | some i => zb_settle2 S k i y a)
  else (zb_refuse S, S)
def zb_order2 (S : zb_S) (i j : Nat) (a d : Int32) : Int32 × zb_S :=
  if (zb_tr S (zb_bit (some i))).1 = 0 then (-1, (zb_tr S (zb_bit (some i))).2)
  else let S1 := (zb_tr S (zb_bit (some i))).2
    (zb_o S1 + 1 - 1, zb_so (zb_make S1 (zb_o S1).toNatClampNeg (some i) (some j) a d) (zb_o S1 + 1))
def zb_order (S : zb_S) (x y a d : Int32) : Int32 × zb_S :=
  if zb_refuse S = 0 then (match zb_accOf S x, zb_accOf S y with
    | none, _ => (-3, S)
    | some _, none => (-3, S)
    | some i, some j => if zb_payable S x y = 0 then (-3, S) else if zb_within a 1 1000000 = 0 then (-3, S) else if zb_within d 1 31 = 0 then (-3, S)
      else if zb_o S < 6 then zb_order2 S i j a d else (-4, S))
  else (zb_refuse S, S)
def zb_restC (S : zb_S) (x : Int32) : Int32 × zb_S :=
  if zb_refuse S = 0 then
    (if zb_within x 0 20000 = 0 then (-3, S) else if zb_isRest (zb_R S) x = 0 then
      (if zb_later S x = 0 then (-3, S) else if zb_full (zb_R S) = 0 then
        (if (zb_tr S 0).1 = 0 then (-1, (zb_tr S 0).2) else (0, zb_sR (zb_tr S 0).2 (zb_add (zb_R (zb_tr S 0).2) x))) else (-4, S)) else (-3, S))
  else (zb_refuse S, S)
def zb_run (S : zb_S) (n : Int32) : Int32 × zb_S :=
  if zb_stp S = 0 then (if zb_within n 1 31 = 0 then (-3, S) else if (zb_days n.toNatClampNeg S).1 = 0 then (-1, (zb_days n.toNatClampNeg S).2) else (n, (zb_days n.toNatClampNeg S).2)) else (-1, S)
def zb_fuse (S : zb_S) (n : Int32) : Int32 × zb_S :=
  if zb_stp S = 0 then (if zb_within n (-1) 500 = 0 then (0, S) else (1, zb_swl S n)) else (0, S)
def zb_restart (S : zb_S) : Int32 × zb_S := if zb_stp S = 0 then (-3, S) else (zb_trn S, zb_swl (zb_sstp S 0) (-1))
def zb_balance (S : zb_S) (x : Int32) : Int64 := match zb_shown S x with
  | none => 0
  | some i => zb_bal S i
def zb_avail (S : zb_S) (x : Int32) : Int64 := match zb_shown S x with
  | none => 0
  | some i => zb_spend S i
def zb_accrd (S : zb_S) (x : Int32) : Int64 := match zb_shown S x with
  | none => 0
  | some i => zb_acr S i
def zb_markC (S : zb_S) (x : Int32) : Int32 := match zb_shown S x with
  | none => 0
  | some i => zb_mrk S i
def zb_ledger (S : zb_S) (c w : Int32) : Int64 :=
  if zb_stp S = 0 then (if zb_within c 0 2 = 0 then 0 else if w = 0 then zb_csh S c.toNatClampNeg else if w = 1 then zb_itr S c.toNatClampNeg else if w = 2 then zb_sumB S c (zb_n S).toNatClampNeg 0 0 else 0) else 0
def zb_missed (S : zb_S) (x : Int32) : Int32 :=
  if zb_stp S = 0 then (if zb_within x 0 (zb_o S - 1) = 0 then 0 else zb_oms S x.toNatClampNeg) else 0
def zb_today (S : zb_S) : Int32 := if zb_stp S = 0 then zb_bd S else 0
def zb_count (b x y : Int32) : Int32 := if zb_isBas b = 0 then -1 else if x < 0 then -1 else if y < x then -1 else if y ≤ 99999 then zb_dayCount b x y else -1
def zb_writes (S : zb_S) : Int32 := zb_wm S
def zb_linesC (S : zb_S) : Int32 := if zb_stp S = 0 then zb_lin S else 0
