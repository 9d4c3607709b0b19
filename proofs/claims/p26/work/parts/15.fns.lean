/-! what each method answers, as a function of what its world holds (written by wip/whole/gen) -/
def fn_X2_newRack_2  : Nat → Int32 → kF → kF → Int32 → Option (Int32 × kF × kF)
  | 0, _, _, _, _ => none
  | q + 1, told, le, sh, x1 =>
    if (10 : Int32) ≤ x1 then some ((1023 : Int32), le, sh) else if x1 < 0 ∨ 10 ≤ x1.toNatClampNeg then none else if x1 < 0 ∨ 10 ≤ x1.toNatClampNeg then none else fn_X2_newRack_2 q told (upd le (x1.toNatClampNeg) (0 : Int32)) (upd sh (x1.toNatClampNeg) (0 : Int32)) (x1 + 1)
def fn_X2_newRack (told : Int32) (le : kF) (sh : kF) : Option (Int32 × kF × kF) :=
  fn_X2_newRack_2 4096 told le sh (0 : Int32)
def fn_X2_copyFrom_2  : Nat → Int32 → kF → kF → Int32 → kF → kF → Int32 → Option (Int32 × kF × kF)
  | 0, _, _, _, _, _, _, _ => none
  | q + 1, told, le, sh, ztold, zle, zsh, x2 =>
    if (10 : Int32) ≤ x2 then some (ztold, le, sh) else if x2 < 0 ∨ 10 ≤ x2.toNatClampNeg then none else if x2 < 0 ∨ 10 ≤ x2.toNatClampNeg then none else if x2 < 0 ∨ 10 ≤ x2.toNatClampNeg then none else if x2 < 0 ∨ 10 ≤ x2.toNatClampNeg then none else fn_X2_copyFrom_2 q told (upd le (x2.toNatClampNeg) (zle (x2.toNatClampNeg))) (upd sh (x2.toNatClampNeg) (zsh (x2.toNatClampNeg))) ztold zle zsh (x2 + 1)
def fn_X2_copyFrom (told : Int32) (le : kF) (sh : kF) (ztold : Int32) (zle : kF) (zsh : kF) : Option (Int32 × kF × kF) :=
  fn_X2_copyFrom_2 4096 told le sh ztold zle zsh (0 : Int32)
def fn_X2_isUp_25 (le : kF) (k0 : Int32) : Option (Int32) :=
  if k0 = 0 ∨ k0 = 1 then some (k0) else none
def fn_X2_isUp_24 (le : kF) : Option (Int32) :=
  fn_X2_isUp_25 le (0 : Int32)
def fn_X2_isUp (le : kF) (x1 : Int32) : Option (Int32) :=
  if x1 < 0 then fn_X2_isUp_24 le else if (10 : Int32) ≤ x1 then fn_X2_isUp_24 le else if x1 < 0 ∨ 10 ≤ x1.toNatClampNeg then none else if (4 : Int32) ≤ (le (x1.toNatClampNeg)) then fn_X2_isUp_24 le else fn_X2_isUp_25 le (1 : Int32)
def fn_X7_isPin_15 (k0 : Int32) : Option (Int32) :=
  if k0 = 0 ∨ k0 = 1 then some (k0) else none
def fn_X7_isPin_14  : Option (Int32) :=
  fn_X7_isPin_15 (0 : Int32)
def fn_X7_isPin (x0 : Int32) : Option (Int32) :=
  if x0 < 0 then fn_X7_isPin_14 else if (10 : Int32) ≤ x0 then fn_X7_isPin_14 else fn_X7_isPin_15 (1 : Int32)
def fn_X2_leaningOf_17 (le : kF) (k0 : Int32) : Option (Int32) :=
  some (k0)
def fn_X2_leaningOf (le : kF) (x1 : Int32) : Option (Int32) :=
  (fn_X7_isPin x1).bind fun o1 => if o1 = 0 then fn_X2_leaningOf_17 le (4 : Int32) else if x1 < 0 ∨ 10 ≤ x1.toNatClampNeg then none else fn_X2_leaningOf_17 le (le (x1.toNatClampNeg))
def fn_X2_shiftOf_17 (sh : kF) (k0 : Int32) : Option (Int32) :=
  some (k0)
def fn_X2_shiftOf (sh : kF) (x1 : Int32) : Option (Int32) :=
  (fn_X7_isPin x1).bind fun o1 => if o1 = 0 then fn_X2_shiftOf_17 sh (0 : Int32) else if x1 < 0 ∨ 10 ≤ x1.toNatClampNeg then none else fn_X2_shiftOf_17 sh (sh (x1.toNatClampNeg))
def fn_X2_boardOf_26 (sh : kF) (k0 : Int32) : Option (Int32) :=
  some (k0)
def fn_X2_boardOf_25 (sh : kF) : Option (Int32) :=
  fn_X2_boardOf_26 sh (0 : Int32)
def fn_X2_boardOf (sh : kF) (x1 : Int32) : Option (Int32) :=
  if x1 < 0 then fn_X2_boardOf_25 sh else if (10 : Int32) ≤ x1 then fn_X2_boardOf_25 sh else if x1 < 0 ∨ 10 ≤ x1.toNatClampNeg then none else if x1 < 0 ∨ 10 ≤ x1.toNatClampNeg then none else fn_X2_boardOf_26 sh ((kHB x1.toNatClampNeg) + (sh (x1.toNatClampNeg)))
def fn_X2_makeLean_21 (le : kF) (x3 : Int32) : Option (Int32 × kF) :=
  some (x3, le)
def fn_X2_makeLean (le : kF) (x1 : Int32) (x2 : Int32) : Option (Int32 × kF) :=
  (fn_X2_leaningOf le x1).bind fun o2 => (fn_X2_isUp le x1).bind fun o8 => if o8 = 0 then fn_X2_makeLean_21 le o2 else if x1 < 0 ∨ 10 ≤ x1.toNatClampNeg then none else fn_X2_makeLean_21 (upd le (x1.toNatClampNeg) x2) o2
def fn_X2_leanMore_20 (wl : Int32) (wr : Int32) (le : kF) : Option (Int32 × Int32 × kF) :=
  some (wl, wr, le)
def fn_X2_leanMore_83 (wl : Int32) (wr : Int32) (le : kF) : Option (Int32 × Int32 × kF) :=
  some (wl, wr, le)
def fn_X2_leanMore_67 (wl : Int32) (wr : Int32) (le : kF) (x1 : Int32) (x3 : Int32) : Option (Int32 × Int32 × kF) :=
  if x3 < 0 then fn_X2_leanMore_83 wl wr le else fn_X2_leanMore_83 wl (wr ||| ((1 : Int32) <<< (x1 &&& 31))) le
def fn_X2_leanMore (wl : Int32) (wr : Int32) (le : kF) (x1 : Int32) (x2 : Int32) (x3 : Int32) : Option (Int32 × Int32 × kF) :=
  if x1 < 0 then fn_X2_leanMore_20 wl wr le else if (10 : Int32) ≤ x1 then fn_X2_leanMore_20 wl wr le else if x1 < 0 ∨ 10 ≤ x1.toNatClampNeg then none else if (le (x1.toNatClampNeg)) < (4 : Int32) then if x1 < 0 ∨ 10 ≤ x1.toNatClampNeg then none else if (3 : Int32) < ((le (x1.toNatClampNeg)) + x2) then if x1 < 0 ∨ 10 ≤ x1.toNatClampNeg then none else if 0 < x3 then fn_X2_leanMore_67 wl wr (upd le (x1.toNatClampNeg) (4 : Int32)) x1 x3 else fn_X2_leanMore_67 (wl ||| ((1 : Int32) <<< (x1 &&& 31))) wr (upd le (x1.toNatClampNeg) (4 : Int32)) x1 x3 else if x1 < 0 ∨ 10 ≤ x1.toNatClampNeg then none else if x1 < 0 ∨ 10 ≤ x1.toNatClampNeg then none else some (wl, wr, (upd le (x1.toNatClampNeg) ((le (x1.toNatClampNeg)) + x2))) else fn_X2_leanMore_20 wl wr le
def fn_J6_compare_7cf53_19 (k0 : Int32) : Option (Int32) :=
  some (k0)
def fn_J6_compare_7cf53 (x0 : Int32) (x1 : Int32) : Option (Int32) :=
  if x1 ≤ x0 then if x0 = x1 then fn_J6_compare_7cf53_19 (0 : Int32) else fn_J6_compare_7cf53_19 (1 : Int32) else fn_J6_compare_7cf53_19 (-1 : Int32)
def fn_X2_meet_102 (wl : Int32) (wr : Int32) (le : kF) (sh : kF) : Option (Int32 × Int32 × Int32 × kF × kF) :=
  some ((0 : Int32), wl, wr, le, sh)
def fn_X2_meet_95 (wl : Int32) (wr : Int32) (le : kF) (sh : kF) (x1 : Int32) (x3 : Int32) : Option (Int32 × Int32 × Int32 × kF × kF) :=
  (fn_X2_leanMore wl wr le x1 (1 : Int32) x3).bind fun o99 => fn_X2_meet_102 o99.1 o99.2.1 o99.2.2 sh
def fn_X2_meet_76 (wl : Int32) (wr : Int32) (le : kF) (sh : kF) (x1 : Int32) (x3 : Int32) (k0 : Int32) : Option (Int32 × Int32 × Int32 × kF × kF) :=
  if x1 < 0 ∨ 10 ≤ x1.toNatClampNeg then none else fn_X2_meet_95 wl wr le (upd sh (x1.toNatClampNeg) (if (-2 : Int32) < (if k0 < (2 : Int32) then k0 else (2 : Int32)) then (if k0 < (2 : Int32) then k0 else (2 : Int32)) else (-2 : Int32))) x1 x3
def fn_X2_meet_53 (wl : Int32) (wr : Int32) (le : kF) (sh : kF) (x1 : Int32) (x3 : Int32) : Option (Int32 × Int32 × Int32 × kF × kF) :=
  if x3 ≤ 0 then if x1 < 0 ∨ 10 ≤ x1.toNatClampNeg then none else fn_X2_meet_76 wl wr le sh x1 x3 ((sh (x1.toNatClampNeg)) - (1 : Int32)) else if x1 < 0 ∨ 10 ≤ x1.toNatClampNeg then none else fn_X2_meet_76 wl wr le sh x1 x3 ((sh (x1.toNatClampNeg)) + (1 : Int32))
def fn_X2_meet_42 (wl : Int32) (wr : Int32) (le : kF) (sh : kF) (x1 : Int32) (x3 : Int32) : Option (Int32 × Int32 × Int32 × kF × kF) :=
  if x3 = (4 : Int32) then fn_X2_meet_53 wl wr le sh x1 x3 else if x3 = (-4 : Int32) then fn_X2_meet_53 wl wr le sh x1 x3 else fn_X2_meet_102 wl wr le sh
def fn_X2_meet (wl : Int32) (wr : Int32) (le : kF) (sh : kF) (x1 : Int32) (x2 : Int32) : Option (Int32 × Int32 × Int32 × kF × kF) :=
  (fn_X2_isUp le x1).bind fun o2 => if o2 = 0 then some ((0 : Int32), wl, wr, le, sh) else (fn_X2_boardOf sh x1).bind fun o12 => if (o12 - x2) < (-3 : Int32) then fn_X2_meet_42 wl wr le sh x1 (o12 - x2) else if (3 : Int32) < (o12 - x2) then fn_X2_meet_42 wl wr le sh x1 (o12 - x2) else (fn_X2_leanMore wl wr le x1 (4 : Int32) (o12 - x2)).bind fun o33 => (fn_J6_compare_7cf53 (0 : Int32) (o12 - x2)).bind fun o38 => some (o38, o33.1, o33.2.1, o33.2.2, sh)
def fn_X2_pushBehind_38 (wl : Int32) (wr : Int32) (le : kF) : Option (Int32 × Int32 × kF) :=
  some (wl, wr, le)
def fn_X2_pushBehind_18 (wl : Int32) (wr : Int32) (le : kF) (x1 : Int32) (x2 : Int32) : Option (Int32 × Int32 × kF) :=
  if ((wr >>> (x1 &&& 31)) &&& (1 : Int32)) = 0 then fn_X2_pushBehind_38 wl wr le else (fn_X2_leanMore wl wr le (x2 + (1 : Int32)) (2 : Int32) (1 : Int32)).bind fun o35 => fn_X2_pushBehind_38 o35.1 o35.2.1 o35.2.2
def fn_X2_pushBehind (wl : Int32) (wr : Int32) (le : kF) (x1 : Int32) (x2 : Int32) : Option (Int32 × Int32 × kF) :=
  if ((wl >>> (x1 &&& 31)) &&& (1 : Int32)) = 0 then fn_X2_pushBehind_18 wl wr le x1 x2 else (fn_X2_leanMore wl wr le x2 (2 : Int32) (-1 : Int32)).bind fun o15 => fn_X2_pushBehind_18 o15.1 o15.2.1 o15.2.2 x1 x2
def fn_X2_meetBall_75 (q18 : Int32 → Int32 → kF → kF → Int32 → Int32 → Int32 → Int32 → Int32 → Option (Int32 × Int32 × kF × kF)) : Nat → Int32 → Int32 → kF → kF → Int32 → Int32 → Int32 → Int32 → Int32 → Int32 → Option (Int32 × Int32 × kF × kF)
  | 0, _, _, _, _, _, _, _, _, _, _ => none
  | q + 1, wl, wr, le, sh, x1, x2, x3, x5, x7, x8 =>
    if x7 ≤ x8 then q18 wl wr le sh x1 x2 x3 x7 (x5 + 1) else (fn_X2_pushBehind wl wr le x8 ((x8 + x5) + (1 : Int32))).bind fun o92 => fn_X2_meetBall_75 q18 q o92.1 o92.2.1 o92.2.2 sh x1 x2 x3 x5 x7 (x8 + 1)
def fn_X2_meetBall_47 (q18 : Int32 → Int32 → kF → kF → Int32 → Int32 → Int32 → Int32 → Int32 → Option (Int32 × Int32 × kF × kF)) : Nat → Int32 → Int32 → kF → kF → Int32 → Int32 → Int32 → Int32 → Int32 → Int32 → Int32 → Int32 → Option (Int32 × Int32 × kF × kF)
  | 0, _, _, _, _, _, _, _, _, _, _, _, _ => none
  | q + 1, wl, wr, le, sh, x1, x2, x3, x4, x5, x6, x7, x8 =>
    if x7 ≤ x8 then fn_X2_meetBall_75 q18 4096 wl wr le sh x1 x2 x3 x5 x7 x4 else (fn_X2_meet wl wr le sh x8 x6).bind fun o60 => fn_X2_meetBall_47 q18 q o60.2.1 o60.2.2.1 o60.2.2.2.1 o60.2.2.2.2 x1 x2 (x3 + o60.1) x4 x5 x6 x7 (x8 + 1)
def fn_X2_meetBall_18  : Nat → Int32 → Int32 → kF → kF → Int32 → Int32 → Int32 → Int32 → Int32 → Option (Int32 × Int32 × kF × kF)
  | 0, _, _, _, _, _, _, _, _, _ => none
  | q + 1, wl, wr, le, sh, x1, x2, x3, x4, x5 =>
    if (4 : Int32) ≤ x5 then some (wl, wr, le, sh) else fn_X2_meetBall_47 (fn_X2_meetBall_18 q) 4096 wl wr le sh x1 x2 x3 x4 x5 ((x1 + (x2 * x5)) + x3) ((x4 + x5) + (1 : Int32)) x4
def fn_X2_meetBall (wl : Int32) (wr : Int32) (le : kF) (sh : kF) (x1 : Int32) (x2 : Int32) : Option (Int32 × Int32 × kF × kF) :=
  fn_X2_meetBall_18 4096 (0 : Int32) (0 : Int32) le sh x1 x2 (0 : Int32) (0 : Int32) (0 : Int32)
def fn_X2_moreThan_26 (q4 : kF → Int32 → Int32 → Int32 → Option (Int32)) (le : kF) (x1 : Int32) (x2 : Int32) (x3 : Int32) : Option (Int32) :=
  q4 le x1 x2 (x3 + 1)
def fn_X2_moreThan_4  : Nat → kF → Int32 → Int32 → Int32 → Option (Int32)
  | 0, _, _, _, _ => none
  | q + 1, le, x1, x2, x3 =>
    if (10 : Int32) ≤ x3 then some (x2) else if x3 < 0 ∨ 10 ≤ x3.toNatClampNeg then none else if (le (x3.toNatClampNeg)) ≤ x1 then fn_X2_moreThan_26 (fn_X2_moreThan_4 q) le x1 x2 x3 else fn_X2_moreThan_26 (fn_X2_moreThan_4 q) le x1 (x2 ||| ((1 : Int32) <<< (x3 &&& 31))) x3
def fn_X2_moreThan (le : kF) (x1 : Int32) : Option (Int32) :=
  fn_X2_moreThan_4 4096 le x1 (0 : Int32) (0 : Int32)
def fn_X2_tell (told : Int32) (le : kF) (x1 : Int32) : Option (Int32 × Int32) :=
  (fn_X2_moreThan le x1).bind fun o6 => some ((told &&& o6), (told &&& ((told &&& o6) ^^^ (-1 : Int32))))
def fn_X2_dropSet (told : Int32) (le : kF) (x1 : Int32) : Option (Int32) :=
  (fn_X2_moreThan le x1).bind fun o6 => some ((told &&& o6))
def fn_J6_bitCount_0f7a4_41 (x0 : Int32) : Option (Int32) :=
  some (((x0 + (((x0).toUInt32 >>> (((16 : Int32)).toUInt32 &&& Int32.toUInt32 31)).toInt32)) &&& (63 : Int32)))
def fn_J6_bitCount_0f7a4_24 (x0 : Int32) : Option (Int32) :=
  fn_J6_bitCount_0f7a4_41 (((x0 + (((x0).toUInt32 >>> (((4 : Int32)).toUInt32 &&& Int32.toUInt32 31)).toInt32)) &&& (252645135 : Int32)) + (((((x0 + (((x0).toUInt32 >>> (((4 : Int32)).toUInt32 &&& Int32.toUInt32 31)).toInt32)) &&& (252645135 : Int32))).toUInt32 >>> (((8 : Int32)).toUInt32 &&& Int32.toUInt32 31)).toInt32))
def fn_J6_bitCount_0f7a4 (x0 : Int32) : Option (Int32) :=
  fn_J6_bitCount_0f7a4_24 (((x0 - ((((x0).toUInt32 >>> (((1 : Int32)).toUInt32 &&& Int32.toUInt32 31)).toInt32) &&& (1431655765 : Int32))) &&& (858993459 : Int32)) + (((((x0 - ((((x0).toUInt32 >>> (((1 : Int32)).toUInt32 &&& Int32.toUInt32 31)).toInt32) &&& (1431655765 : Int32)))).toUInt32 >>> (((2 : Int32)).toUInt32 &&& Int32.toUInt32 31)).toInt32) &&& (858993459 : Int32)))
def fn_X2_setAgain_47 (q20 : Int32 → kF → Int32 → Int32 → Option (Int32 × Int32 × kF)) (told : Int32) (le : kF) (x2 : Int32) (x3 : Int32) (k1 : Int32) (k2 : Int32) : Option (Int32 × Int32 × kF) :=
  if k1 < 0 ∨ 10 ≤ k1.toNatClampNeg then none else q20 told (upd le (k1.toNatClampNeg) k2) x2 (x3 + 1)
def fn_X2_setAgain_20  : Nat → Int32 → kF → Int32 → Int32 → Option (Int32 × Int32 × kF)
  | 0, _, _, _, _ => none
  | q + 1, told, le, x2, x3 =>
    if (10 : Int32) ≤ x3 then (fn_J6_bitCount_0f7a4 x2).bind fun o55 => some (o55, told, le) else if ((told >>> (x3 &&& 31)) &&& (1 : Int32)) = 0 then fn_X2_setAgain_47 (fn_X2_setAgain_20 q) told le x2 x3 x3 (4 : Int32) else fn_X2_setAgain_47 (fn_X2_setAgain_20 q) told le x2 x3 x3 (0 : Int32)
def fn_X2_setAgain (told : Int32) (le : kF) (x1 : Int32) : Option (Int32 × Int32 × kF) :=
  (fn_X2_dropSet told le x1).bind fun o2 => fn_X2_setAgain_20 4096 (told &&& (o2 ^^^ (-1 : Int32))) le o2 (0 : Int32)
def fn_X2_toldSet (told : Int32) : Option (Int32) :=
  some (told)
def fn_X2_fellSet (wl : Int32) (wr : Int32) : Option (Int32) :=
  some ((wl ||| wr))
def fn_X2_upSet (le : kF) : Option (Int32) :=
  (fn_X2_moreThan le (3 : Int32)).bind fun o5 => some (((1023 : Int32) &&& (o5 ^^^ (-1 : Int32))))
def fn_X2_leaningSet (le : kF) : Option (Int32) :=
  (fn_X2_upSet le).bind fun o1 => (fn_X2_moreThan le (0 : Int32)).bind fun o6 => some ((o1 &&& o6))
def fn_X4_clear (rolls : Int32) (frm : Int32) : Option (Int32 × Int32) :=
  some ((0 : Int32), (0 : Int32))
def fn_X4_copyFrom_28  : Nat → Int32 → Int32 → kF → kF → Int32 → Int32 → kF → kF → Int32 → Option (Int32 × Int32 × kF × kF)
  | 0, _, _, _, _, _, _, _, _, _ => none
  | q + 1, rolls, frm, tk, sr, zrolls, zfrm, ztk, zsr, x2 =>
    if (10 : Int32) < x2 then some (zrolls, zfrm, tk, sr) else if x2 < 0 ∨ 11 ≤ x2.toNatClampNeg then none else if x2 < 0 ∨ 11 ≤ x2.toNatClampNeg then none else fn_X4_copyFrom_28 q rolls frm tk (upd sr (x2.toNatClampNeg) (zsr (x2.toNatClampNeg))) zrolls zfrm ztk zsr (x2 + 1)
def fn_X4_copyFrom_2  : Nat → Int32 → Int32 → kF → kF → Int32 → Int32 → kF → kF → Int32 → Option (Int32 × Int32 × kF × kF)
  | 0, _, _, _, _, _, _, _, _, _ => none
  | q + 1, rolls, frm, tk, sr, zrolls, zfrm, ztk, zsr, x2 =>
    if (21 : Int32) ≤ x2 then fn_X4_copyFrom_28 4096 rolls frm tk sr zrolls zfrm ztk zsr (0 : Int32) else if x2 < 0 ∨ 21 ≤ x2.toNatClampNeg then none else if x2 < 0 ∨ 21 ≤ x2.toNatClampNeg then none else fn_X4_copyFrom_2 q rolls frm (upd tk (x2.toNatClampNeg) (ztk (x2.toNatClampNeg))) sr zrolls zfrm ztk zsr (x2 + 1)
def fn_X4_copyFrom (rolls : Int32) (frm : Int32) (tk : kF) (sr : kF) (zrolls : Int32) (zfrm : Int32) (ztk : kF) (zsr : kF) : Option (Int32 × Int32 × kF × kF) :=
  fn_X4_copyFrom_2 4096 rolls frm tk sr zrolls zfrm ztk zsr (0 : Int32)
def fn_X4_rolls (rolls : Int32) : Option (Int32) :=
  some (rolls)
def fn_X4_frameNow (frm : Int32) : Option (Int32) :=
  some (frm)
def fn_X4_isOver_14 (frm : Int32) (k0 : Int32) : Option (Int32) :=
  if k0 = 0 ∨ k0 = 1 then some (k0) else none
def fn_X4_isOver (frm : Int32) : Option (Int32) :=
  if frm < (10 : Int32) then fn_X4_isOver_14 frm (0 : Int32) else fn_X4_isOver_14 frm (1 : Int32)
def fn_X4_takenBy_28 (rolls : Int32) (tk : kF) (k0 : Int32) : Option (Int32) :=
  some (k0)
def fn_X4_takenBy_27 (rolls : Int32) (tk : kF) : Option (Int32) :=
  fn_X4_takenBy_28 rolls tk (0 : Int32)
def fn_X4_takenBy (rolls : Int32) (tk : kF) (x1 : Int32) : Option (Int32) :=
  if x1 < 0 then fn_X4_takenBy_27 rolls tk else if rolls ≤ x1 then fn_X4_takenBy_27 rolls tk else if (21 : Int32) ≤ x1 then fn_X4_takenBy_27 rolls tk else if x1 < 0 ∨ 21 ≤ x1.toNatClampNeg then none else fn_X4_takenBy_28 rolls tk (tk (x1.toNatClampNeg))
def fn_X4_startOf_31 (rolls : Int32) (frm : Int32) (sr : kF) (k0 : Int32) : Option (Int32) :=
  some (k0)
def fn_X4_startOf_27 (rolls : Int32) (frm : Int32) (sr : kF) : Option (Int32) :=
  fn_X4_startOf_31 rolls frm sr rolls
def fn_X4_startOf (rolls : Int32) (frm : Int32) (sr : kF) (x1 : Int32) : Option (Int32) :=
  if x1 < 0 then fn_X4_startOf_27 rolls frm sr else if (10 : Int32) < x1 then fn_X4_startOf_27 rolls frm sr else if frm < x1 then fn_X4_startOf_27 rolls frm sr else if x1 < 0 ∨ 11 ≤ x1.toNatClampNeg then none else fn_X4_startOf_31 rolls frm sr (sr (x1.toNatClampNeg))
def fn_X4_rollsIn (rolls : Int32) (frm : Int32) (sr : kF) (x1 : Int32) : Option (Int32) :=
  (fn_X4_startOf rolls frm sr (x1 + (1 : Int32))).bind fun o4 => (fn_X4_startOf rolls frm sr x1).bind fun o9 => some ((o4 - o9))
def fn_X4_markOf_41 (rolls : Int32) (frm : Int32) (tk : kF) (sr : kF) (k0 : Int32) : Option (Int32) :=
  some (k0)
def fn_X4_markOf (rolls : Int32) (frm : Int32) (tk : kF) (sr : kF) (x1 : Int32) : Option (Int32) :=
  (fn_X4_startOf rolls frm sr x1).bind fun o2 => (fn_X4_takenBy rolls tk o2).bind fun o8 => if o8 = (10 : Int32) then some ((1 : Int32)) else (fn_X4_takenBy rolls tk o2).bind fun o20 => (fn_X4_takenBy rolls tk (o2 + (1 : Int32))).bind fun o27 => if (o20 + o27) = (10 : Int32) then fn_X4_markOf_41 rolls frm tk sr (2 : Int32) else fn_X4_markOf_41 rolls frm tk sr (0 : Int32)
def fn_X4_pointsOf_41 (rolls : Int32) (frm : Int32) (tk : kF) (sr : kF) (k0 : Int32) : Option (Int32) :=
  some (k0)
def fn_X4_pointsOf (rolls : Int32) (frm : Int32) (tk : kF) (sr : kF) (x1 : Int32) : Option (Int32) :=
  (fn_X4_startOf rolls frm sr x1).bind fun o2 => (fn_X4_takenBy rolls tk o2).bind fun o8 => (fn_X4_takenBy rolls tk (o2 + (1 : Int32))).bind fun o15 => (fn_X4_markOf rolls frm tk sr x1).bind fun o22 => if o22 = 0 then fn_X4_pointsOf_41 rolls frm tk sr (o8 + o15) else (fn_X4_takenBy rolls tk (o2 + (2 : Int32))).bind fun o37 => fn_X4_pointsOf_41 rolls frm tk sr ((o8 + o15) + o37)
def fn_X4_allPoints_4  : Nat → Int32 → Int32 → kF → kF → Int32 → Int32 → Option (Int32)
  | 0, _, _, _, _, _, _ => none
  | q + 1, rolls, frm, tk, sr, x1, x2 =>
    if (10 : Int32) ≤ x2 then some (x1) else (fn_X4_pointsOf rolls frm tk sr x2).bind fun o13 => fn_X4_allPoints_4 q rolls frm tk sr (x1 + o13) (x2 + 1)
def fn_X4_allPoints (rolls : Int32) (frm : Int32) (tk : kF) (sr : kF) : Option (Int32) :=
  fn_X4_allPoints_4 4096 rolls frm tk sr (0 : Int32) (0 : Int32)
def fn_X4_add_32 (rolls : Int32) (frm : Int32) (tk : kF) (sr : kF) : Option (Int32 × Int32 × kF × kF) :=
  some (rolls, frm, tk, sr)
def fn_X4_add_129 (rolls : Int32) (frm : Int32) (tk : kF) (sr : kF) : Option (Int32 × Int32 × kF × kF) :=
  some (rolls, frm, tk, sr)
def fn_X4_add_93 (rolls : Int32) (frm : Int32) (tk : kF) (sr : kF) (k0 : Int32) : Option (Int32 × Int32 × kF × kF) :=
  (fn_X4_rollsIn rolls frm sr frm).bind fun o99 => if o99 < k0 then fn_X4_add_129 rolls frm tk sr else if (frm + (1 : Int32)) < 0 ∨ 11 ≤ (frm + (1 : Int32)).toNatClampNeg then none else fn_X4_add_129 rolls (frm + (1 : Int32)) tk (upd sr ((frm + (1 : Int32)).toNatClampNeg) rolls)
def fn_X4_add (rolls : Int32) (frm : Int32) (tk : kF) (sr : kF) (x1 : Int32) : Option (Int32 × Int32 × kF × kF) :=
  if frm < 0 then fn_X4_add_32 rolls frm tk sr else if (10 : Int32) ≤ frm then fn_X4_add_32 rolls frm tk sr else if rolls < 0 then fn_X4_add_32 rolls frm tk sr else if rolls < (21 : Int32) then if rolls < 0 ∨ 21 ≤ rolls.toNatClampNeg then none else (fn_X4_markOf (rolls + (1 : Int32)) frm (upd tk (rolls.toNatClampNeg) x1) sr frm).bind fun o58 => if frm = (9 : Int32) then if o58 = 0 then fn_X4_add_93 (rolls + (1 : Int32)) frm (upd tk (rolls.toNatClampNeg) x1) sr (2 : Int32) else fn_X4_add_93 (rolls + (1 : Int32)) frm (upd tk (rolls.toNatClampNeg) x1) sr (3 : Int32) else if o58 = (1 : Int32) then fn_X4_add_93 (rolls + (1 : Int32)) frm (upd tk (rolls.toNatClampNeg) x1) sr (1 : Int32) else fn_X4_add_93 (rolls + (1 : Int32)) frm (upd tk (rolls.toNatClampNeg) x1) sr (2 : Int32) else fn_X4_add_32 rolls frm tk sr
def fn_X4_wantsNewRack_50 (rolls : Int32) (frm : Int32) (tk : kF) (sr : kF) (k0 : Int32) : Option (Int32) :=
  if k0 = 0 ∨ k0 = 1 then some (k0) else none
def fn_X4_wantsNewRack_49 (rolls : Int32) (frm : Int32) (tk : kF) (sr : kF) : Option (Int32) :=
  fn_X4_wantsNewRack_50 rolls frm tk sr (0 : Int32)
def fn_X4_wantsNewRack_45 (rolls : Int32) (frm : Int32) (tk : kF) (sr : kF) : Option (Int32) :=
  fn_X4_wantsNewRack_50 rolls frm tk sr (1 : Int32)
def fn_X4_wantsNewRack (rolls : Int32) (frm : Int32) (tk : kF) (sr : kF) : Option (Int32) :=
  (fn_X4_isOver frm).bind fun o1 => if o1 = 0 then (fn_X4_rollsIn rolls frm sr frm).bind fun o12 => if o12 = 0 then fn_X4_wantsNewRack_45 rolls frm tk sr else (fn_X4_takenBy rolls tk (rolls - (1 : Int32))).bind fun o25 => if o25 = (10 : Int32) then fn_X4_wantsNewRack_45 rolls frm tk sr else (fn_X4_markOf rolls frm tk sr frm).bind fun o38 => if o38 = (2 : Int32) then fn_X4_wantsNewRack_45 rolls frm tk sr else fn_X4_wantsNewRack_49 rolls frm tk sr else fn_X4_wantsNewRack_49 rolls frm tk sr
def fn_X6_firstSettings (se : kF) : Option (kF) :=
  some ((upd (upd (upd se 0 (18 : Int32)) 1 (2 : Int32)) 2 (1 : Int32)))
def fn_X6_renew (sto : Int32) (dro : Int32) (fou : Int32) (told : Int32) (le : kF) (sh : kF) (rolls : Int32) (frm : Int32) (se : kF) : Option (Int32 × Int32 × Int32 × Int32 × kF × kF × Int32 × Int32 × kF) :=
  (fn_X2_newRack told le sh).bind fun o4 => (fn_X4_clear rolls frm).bind fun o11 => (fn_X6_firstSettings se).bind fun o15 => some ((0 : Int32), (0 : Int32), (0 : Int32), o4.1, o4.2.1, o4.2.2, o11.1, o11.2, o15)
def fn_X6_copyFrom_24  : Nat → Int32 → Int32 → Int32 → Int32 → kF → kF → Int32 → Int32 → kF → kF → kF → Int32 → Int32 → Int32 → Int32 → kF → kF → Int32 → Int32 → kF → kF → kF → Int32 → Option (Int32 × Int32 × Int32 × Int32 × kF × kF × Int32 × Int32 × kF × kF × kF)
  | 0, _, _, _, _, _, _, _, _, _, _, _, _, _, _, _, _, _, _, _, _, _, _, _ => none
  | q + 1, sto, dro, fou, told, le, sh, rolls, frm, tk, sr, se, zsto, zdro, zfou, ztold, zle, zsh, zrolls, zfrm, ztk, zsr, zse, x2 =>
    if (3 : Int32) ≤ x2 then some (zsto, zdro, zfou, told, le, sh, rolls, frm, tk, sr, se) else if x2 < 0 ∨ 3 ≤ x2.toNatClampNeg then none else if x2 < 0 ∨ 3 ≤ x2.toNatClampNeg then none else fn_X6_copyFrom_24 q sto dro fou told le sh rolls frm tk sr (upd se (x2.toNatClampNeg) (zse (x2.toNatClampNeg))) zsto zdro zfou ztold zle zsh zrolls zfrm ztk zsr zse (x2 + 1)
def fn_X6_copyFrom (sto : Int32) (dro : Int32) (fou : Int32) (told : Int32) (le : kF) (sh : kF) (rolls : Int32) (frm : Int32) (tk : kF) (sr : kF) (se : kF) (zsto : Int32) (zdro : Int32) (zfou : Int32) (ztold : Int32) (zle : kF) (zsh : kF) (zrolls : Int32) (zfrm : Int32) (ztk : kF) (zsr : kF) (zse : kF) : Option (Int32 × Int32 × Int32 × Int32 × kF × kF × Int32 × Int32 × kF × kF × kF) :=
  (fn_X2_copyFrom told le sh ztold zle zsh).bind fun o8 => (fn_X4_copyFrom rolls frm tk sr zrolls zfrm ztk zsr).bind fun o19 => fn_X6_copyFrom_24 4096 sto dro fou o8.1 o8.2.1 o8.2.2 o19.1 o19.2.1 o19.2.2.1 o19.2.2.2 se zsto zdro zfou ztold zle zsh zrolls zfrm ztk zsr zse (0 : Int32)
def fn_X7_isSetting_14 (k0 : Int32) : Option (Int32) :=
  if k0 = 0 ∨ k0 = 1 then some (k0) else none
def fn_X7_isSetting_13  : Option (Int32) :=
  fn_X7_isSetting_14 (0 : Int32)
def fn_X7_isSetting (x0 : Int32) : Option (Int32) :=
  if x0 < 0 then fn_X7_isSetting_13 else if (3 : Int32) ≤ x0 then fn_X7_isSetting_13 else fn_X7_isSetting_14 (1 : Int32)
def fn_X6_settingAt_17 (se : kF) (k0 : Int32) : Option (Int32) :=
  some (k0)
def fn_X6_settingAt (se : kF) (x1 : Int32) : Option (Int32) :=
  (fn_X7_isSetting x1).bind fun o1 => if o1 = 0 then fn_X6_settingAt_17 se (0 : Int32) else if x1 < 0 ∨ 3 ≤ x1.toNatClampNeg then none else fn_X6_settingAt_17 se (se (x1.toNatClampNeg))
def fn_X6_change_20 (se : kF) (x3 : Int32) : Option (Int32 × kF) :=
  some (x3, se)
def fn_X6_change (se : kF) (x1 : Int32) (x2 : Int32) : Option (Int32 × kF) :=
  (fn_X6_settingAt se x1).bind fun o2 => (fn_X7_isSetting x1).bind fun o7 => if o7 = 0 then fn_X6_change_20 se o2 else if x1 < 0 ∨ 3 ≤ x1.toNatClampNeg then none else fn_X6_change_20 (upd se (x1.toNatClampNeg) x2) o2
def fn_X6_beginGame (told : Int32) (le : kF) (sh : kF) (rolls : Int32) (frm : Int32) (tk : kF) (sr : kF) : Option (Int32 × Int32 × kF × kF × Int32 × Int32) :=
  (fn_X4_allPoints rolls frm tk sr).bind fun o4 => (fn_X2_newRack told le sh).bind fun o12 => (fn_X4_clear rolls frm).bind fun o19 => some (o4, o12.1, o12.2.1, o12.2.2, o19.1, o19.2)
def fn_X6_stops_23 (se : kF) (k0 : Int32) : Option (Int32) :=
  if k0 = 0 ∨ k0 = 1 then some (k0) else none
def fn_X6_stops_18 (se : kF) : Option (Int32) :=
  fn_X6_stops_23 se (1 : Int32)
def fn_X6_stops (se : kF) (x1 : Int32) : Option (Int32) :=
  if x1 < (1 : Int32) then fn_X6_stops_18 se else if x1 = 0 then none else if ((90 : Int32) / x1) ≤ (se 0) then fn_X6_stops_23 se (0 : Int32) else fn_X6_stops_18 se
def fn_X6_bowl_129 (sto : Int32) (dro : Int32) (fou : Int32) (told : Int32) (wl : Int32) (wr : Int32) (le : kF) (sh : kF) (rolls : Int32) (frm : Int32) (tk : kF) (sr : kF) (se : kF) (x5 : Int32) : Option (Int32 × Int32 × Int32 × Int32 × Int32 × Int32 × Int32 × kF × kF × Int32 × Int32 × kF × kF) :=
  some (x5, sto, dro, fou, told, wl, wr, le, sh, rolls, frm, tk, sr)
def fn_X6_bowl_68 (sto : Int32) (dro : Int32) (fou : Int32) (told : Int32) (wl : Int32) (wr : Int32) (le : kF) (sh : kF) (rolls : Int32) (frm : Int32) (tk : kF) (sr : kF) (se : kF) (x5 : Int32) : Option (Int32 × Int32 × Int32 × Int32 × Int32 × Int32 × Int32 × kF × kF × Int32 × Int32 × kF × kF) :=
  (fn_X4_add rolls frm tk sr x5).bind fun o74 => (fn_X4_wantsNewRack o74.1 o74.2.1 o74.2.2.1 o74.2.2.2).bind fun o81 => if o81 = 0 then (fn_X4_isOver o74.2.1).bind fun o101 => if o101 = 0 then (fn_X2_setAgain told le (se 2)).bind fun o122 => fn_X6_bowl_129 sto (dro + o122.1) fou o122.2.1 wl wr o122.2.2 sh o74.1 o74.2.1 o74.2.2.1 o74.2.2.2 se x5 else fn_X6_bowl_129 sto dro fou told wl wr le sh o74.1 o74.2.1 o74.2.2.1 o74.2.2.2 se x5 else (fn_X2_newRack told le sh).bind fun o91 => fn_X6_bowl_129 sto dro fou o91.1 wl wr o91.2.1 o91.2.2 o74.1 o74.2.1 o74.2.2.1 o74.2.2.2 se x5
def fn_X6_bowl (sto : Int32) (dro : Int32) (fou : Int32) (told : Int32) (wl : Int32) (wr : Int32) (le : kF) (sh : kF) (rolls : Int32) (frm : Int32) (tk : kF) (sr : kF) (se : kF) (x1 : Int32) (x2 : Int32) (x3 : Int32) (x4 : Int32) : Option (Int32 × Int32 × Int32 × Int32 × Int32 × Int32 × Int32 × kF × kF × Int32 × Int32 × kF × kF) :=
  (fn_X6_stops se x3).bind fun o2 => if o2 = 0 then if x4 = 0 then (fn_X2_meetBall wl wr le sh x1 x2).bind fun o47 => (fn_X2_tell told o47.2.2.1 (se 1)).bind fun o60 => (fn_J6_bitCount_0f7a4 o60.1).bind fun o63 => fn_X6_bowl_68 sto dro fou o60.2 o47.1 o47.2.1 o47.2.2.1 o47.2.2.2 rolls frm tk sr se o63 else fn_X6_bowl_68 sto dro (fou + (1 : Int32)) told wl wr le sh rolls frm tk sr se (0 : Int32) else some ((-1 : Int32), (sto + (1 : Int32)), dro, fou, told, wl, wr, le, sh, rolls, frm, tk, sr)
def fn_X7_isBall_26 (k0 : Int32) : Option (Int32) :=
  if k0 = 0 ∨ k0 = 1 then some (k0) else none
def fn_X7_isBall_25  : Option (Int32) :=
  fn_X7_isBall_26 (0 : Int32)
def fn_X7_isBall (x0 : Int32) (x1 : Int32) : Option (Int32) :=
  if x0 < 0 then fn_X7_isBall_25 else if (40 : Int32) < x0 then fn_X7_isBall_25 else if x1 < (-2 : Int32) then fn_X7_isBall_25 else if (2 : Int32) < x1 then fn_X7_isBall_25 else fn_X7_isBall_26 (1 : Int32)
def fn_X7_isSpeed_16 (k0 : Int32) : Option (Int32) :=
  if k0 = 0 ∨ k0 = 1 then some (k0) else none
def fn_X7_isSpeed_15  : Option (Int32) :=
  fn_X7_isSpeed_16 (0 : Int32)
def fn_X7_isSpeed (x0 : Int32) : Option (Int32) :=
  if x0 < (1 : Int32) then fn_X7_isSpeed_15 else if (30 : Int32) < x0 then fn_X7_isSpeed_15 else fn_X7_isSpeed_16 (1 : Int32)
def fn_X6_tryRoll_47 (sto : Int32) (dro : Int32) (fou : Int32) (told : Int32) (wl : Int32) (wr : Int32) (le : kF) (sh : kF) (rolls : Int32) (frm : Int32) (tk : kF) (sr : kF) (se : kF) (x5 : Int32) : Option (Int32 × Int32 × Int32 × Int32 × Int32 × Int32 × Int32 × kF × kF × Int32 × Int32 × kF × kF) :=
  if x5 = 0 ∨ x5 = 1 then some (x5, sto, dro, fou, told, wl, wr, le, sh, rolls, frm, tk, sr) else none
def fn_X6_tryRoll_30 (sto : Int32) (dro : Int32) (fou : Int32) (told : Int32) (wl : Int32) (wr : Int32) (le : kF) (sh : kF) (rolls : Int32) (frm : Int32) (tk : kF) (sr : kF) (se : kF) (x1 : Int32) (x2 : Int32) (x3 : Int32) (x4 : Int32) (k0 : Int32) : Option (Int32 × Int32 × Int32 × Int32 × Int32 × Int32 × Int32 × kF × kF × Int32 × Int32 × kF × kF) :=
  if k0 = 0 then fn_X6_tryRoll_47 sto dro fou told wl wr le sh rolls frm tk sr se k0 else (fn_X6_bowl sto dro fou told wl wr le sh rolls frm tk sr se x1 x2 x3 x4).bind fun o43 => fn_X6_tryRoll_47 o43.2.1 o43.2.2.1 o43.2.2.2.1 o43.2.2.2.2.1 o43.2.2.2.2.2.1 o43.2.2.2.2.2.2.1 o43.2.2.2.2.2.2.2.1 o43.2.2.2.2.2.2.2.2.1 o43.2.2.2.2.2.2.2.2.2.1 o43.2.2.2.2.2.2.2.2.2.2.1 o43.2.2.2.2.2.2.2.2.2.2.2.1 o43.2.2.2.2.2.2.2.2.2.2.2.2 se k0
def fn_X6_tryRoll_29 (sto : Int32) (dro : Int32) (fou : Int32) (told : Int32) (wl : Int32) (wr : Int32) (le : kF) (sh : kF) (rolls : Int32) (frm : Int32) (tk : kF) (sr : kF) (se : kF) (x1 : Int32) (x2 : Int32) (x3 : Int32) (x4 : Int32) : Option (Int32 × Int32 × Int32 × Int32 × Int32 × Int32 × Int32 × kF × kF × Int32 × Int32 × kF × kF) :=
  fn_X6_tryRoll_30 sto dro fou told wl wr le sh rolls frm tk sr se x1 x2 x3 x4 (0 : Int32)
def fn_X6_tryRoll (sto : Int32) (dro : Int32) (fou : Int32) (told : Int32) (wl : Int32) (wr : Int32) (le : kF) (sh : kF) (rolls : Int32) (frm : Int32) (tk : kF) (sr : kF) (se : kF) (x1 : Int32) (x2 : Int32) (x3 : Int32) (x4 : Int32) : Option (Int32 × Int32 × Int32 × Int32 × Int32 × Int32 × Int32 × kF × kF × Int32 × Int32 × kF × kF) :=
  (fn_X7_isBall x1 x2).bind fun o2 => if o2 = 0 then fn_X6_tryRoll_29 sto dro fou told wl wr le sh rolls frm tk sr se x1 x2 x3 x4 else (fn_X7_isSpeed x3).bind fun o9 => if o9 = 0 then fn_X6_tryRoll_29 sto dro fou told wl wr le sh rolls frm tk sr se x1 x2 x3 x4 else (fn_X4_isOver frm).bind fun o19 => if o19 = 0 then fn_X6_tryRoll_30 sto dro fou told wl wr le sh rolls frm tk sr se x1 x2 x3 x4 (1 : Int32) else fn_X6_tryRoll_29 sto dro fou told wl wr le sh rolls frm tk sr se x1 x2 x3 x4
def fn_X7_isLeaning_14 (k0 : Int32) : Option (Int32) :=
  if k0 = 0 ∨ k0 = 1 then some (k0) else none
def fn_X7_isLeaning_13  : Option (Int32) :=
  fn_X7_isLeaning_14 (0 : Int32)
def fn_X7_isLeaning (x0 : Int32) : Option (Int32) :=
  if x0 < 0 then fn_X7_isLeaning_13 else if (3 : Int32) < x0 then fn_X7_isLeaning_13 else fn_X7_isLeaning_14 (1 : Int32)
def fn_X6_tryTouch_38 (le : kF) (x3 : Int32) : Option (Int32 × kF) :=
  if x3 = 0 ∨ x3 = 1 then some (x3, le) else none
def fn_X6_tryTouch_23 (le : kF) (x1 : Int32) (x2 : Int32) (k0 : Int32) : Option (Int32 × kF) :=
  if k0 = 0 then fn_X6_tryTouch_38 le k0 else (fn_X2_makeLean le x1 x2).bind fun o34 => fn_X6_tryTouch_38 o34.2 k0
def fn_X6_tryTouch_22 (le : kF) (x1 : Int32) (x2 : Int32) : Option (Int32 × kF) :=
  fn_X6_tryTouch_23 le x1 x2 (0 : Int32)
def fn_X6_tryTouch (le : kF) (x1 : Int32) (x2 : Int32) : Option (Int32 × kF) :=
  (fn_X7_isLeaning x2).bind fun o1 => if o1 = 0 then fn_X6_tryTouch_22 le x1 x2 else (fn_X2_isUp le x1).bind fun o12 => if o12 = 0 then fn_X6_tryTouch_22 le x1 x2 else fn_X6_tryTouch_23 le x1 x2 (1 : Int32)
def fn_X7_isValue_27 (k0 : Int32) : Option (Int32) :=
  if k0 = 0 ∨ k0 = 1 then some (k0) else none
def fn_X7_isValue_19  : Option (Int32) :=
  fn_X7_isValue_27 (0 : Int32)
def fn_X7_isValue (x0 : Int32) (x1 : Int32) : Option (Int32) :=
  if x0 = 0 then if x1 < (3 : Int32) then fn_X7_isValue_19 else if (90 : Int32) < x1 then fn_X7_isValue_19 else fn_X7_isValue_27 (1 : Int32) else (fn_X7_isLeaning x1).bind fun o24 => fn_X7_isValue_27 o24
def fn_X6_trySet_32 (se : kF) (x3 : Int32) : Option (Int32 × kF) :=
  if x3 = 0 ∨ x3 = 1 then some (x3, se) else none
def fn_X6_trySet_20 (se : kF) (x1 : Int32) (x2 : Int32) (k0 : Int32) : Option (Int32 × kF) :=
  if k0 = 0 then fn_X6_trySet_32 se k0 else (fn_X6_change se x1 x2).bind fun o28 => fn_X6_trySet_32 o28.2 k0
def fn_X6_trySet_19 (se : kF) (x1 : Int32) (x2 : Int32) : Option (Int32 × kF) :=
  fn_X6_trySet_20 se x1 x2 (0 : Int32)
def fn_X6_trySet (se : kF) (x1 : Int32) (x2 : Int32) : Option (Int32 × kF) :=
  (fn_X7_isSetting x1).bind fun o1 => if o1 = 0 then fn_X6_trySet_19 se x1 x2 else (fn_X7_isValue x1 x2).bind fun o9 => if o9 = 0 then fn_X6_trySet_19 se x1 x2 else fn_X6_trySet_20 se x1 x2 (1 : Int32)
def fn_X0_isFull_14 (len : Int32) (k0 : Int32) : Option (Int32) :=
  if k0 = 0 ∨ k0 = 1 then some (k0) else none
def fn_X0_isFull (len : Int32) : Option (Int32) :=
  if len < (120 : Int32) then fn_X0_isFull_14 len (0 : Int32) else fn_X0_isFull_14 len (1 : Int32)
def fn_X0_add_36 (len : Int32) (sg : kF) : Option (Int32 × Int32 × kF) :=
  some (len, len, sg)
def fn_X0_add (len : Int32) (sg : kF) (x1 : Int32) : Option (Int32 × Int32 × kF) :=
  if len < 0 then fn_X0_add_36 len sg else if (120 : Int32) ≤ len then fn_X0_add_36 len sg else if len < 0 ∨ 120 ≤ len.toNatClampNeg then none else fn_X0_add_36 (len + (1 : Int32)) (upd sg (len.toNatClampNeg) x1)
def fn_X0_empty (len : Int32) : Option (Int32 × Int32) :=
  some (len, (0 : Int32))
def fn_X0_signAt_28 (len : Int32) (sg : kF) (k0 : Int32) : Option (Int32) :=
  some (k0)
def fn_X0_signAt_27 (len : Int32) (sg : kF) : Option (Int32) :=
  fn_X0_signAt_28 len sg (-1 : Int32)
def fn_X0_signAt (len : Int32) (sg : kF) (x1 : Int32) : Option (Int32) :=
  if x1 < 0 then fn_X0_signAt_27 len sg else if len ≤ x1 then fn_X0_signAt_27 len sg else if (120 : Int32) ≤ x1 then fn_X0_signAt_27 len sg else if x1 < 0 ∨ 120 ≤ x1.toNatClampNeg then none else fn_X0_signAt_28 len sg (sg (x1.toNatClampNeg))
def fn_X0_isBetween_15 (k0 : Int32) : Option (Int32) :=
  if k0 = 0 ∨ k0 = 1 then some (k0) else none
def fn_X0_isBetween_14  : Option (Int32) :=
  fn_X0_isBetween_15 (0 : Int32)
def fn_X0_isBetween (x0 : Int32) (x1 : Int32) (x2 : Int32) : Option (Int32) :=
  if x0 < x1 then fn_X0_isBetween_14 else if x2 < x0 then fn_X0_isBetween_14 else fn_X0_isBetween_15 (1 : Int32)
def fn_X0_isFoulAt_32 (len : Int32) (sg : kF) (k0 : Int32) : Option (Int32) :=
  if k0 = 0 ∨ k0 = 1 then some (k0) else none
def fn_X0_isFoulAt_31 (len : Int32) (sg : kF) : Option (Int32) :=
  fn_X0_isFoulAt_32 len sg (0 : Int32)
def fn_X0_isFoulAt (len : Int32) (sg : kF) (x1 : Int32) : Option (Int32) :=
  (fn_X0_signAt len sg x1).bind fun o2 => if o2 = (102 : Int32) then (fn_X0_signAt len sg (x1 - (1 : Int32))).bind fun o14 => (fn_X0_isBetween o14 (48 : Int32) (57 : Int32)).bind fun o21 => if o21 = 0 then fn_X0_isFoulAt_31 len sg else fn_X0_isFoulAt_32 len sg (1 : Int32) else fn_X0_isFoulAt_31 len sg
def fn_X0_driftOf (x0 : Int32) : Option (Int32) :=
  if x0 = 107 then some ((-1 : Int32)) else if x0 = 108 then some ((-2 : Int32)) else if x0 = 109 then some ((0 : Int32)) else if x0 = 110 then some ((3 : Int32)) else if x0 = 111 then some ((3 : Int32)) else if x0 = 112 then some ((3 : Int32)) else if x0 = 113 then some ((3 : Int32)) else if x0 = 114 then some ((1 : Int32)) else if x0 = 115 then some ((2 : Int32)) else some ((3 : Int32))
def fn_X0_isAllowed_57 (k0 : Int32) (k1 : Int32) (k2 : Int32) : Option (Int32) :=
  (fn_X0_isBetween k0 k1 k2).bind fun o57 => if o57 = 0 ∨ o57 = 1 then some (o57) else none
def fn_X0_isAllowed_74 (k0 : Int32) : Option (Int32) :=
  if k0 = 0 ∨ k0 = 1 then some (k0) else none
def fn_X0_isAllowed_111 (k0 : Int32) (k1 : Int32) (k2 : Int32) : Option (Int32) :=
  (fn_X0_isBetween k0 k1 k2).bind fun o111 => if o111 = 0 ∨ o111 = 1 then some (o111) else none
def fn_X0_isAllowed_98 (x2 : Int32) (k0 : Int32) (k1 : Int32) : Option (Int32) :=
  if x2 = (51 : Int32) then fn_X0_isAllowed_111 k0 k1 (48 : Int32) else fn_X0_isAllowed_111 k0 k1 (57 : Int32)
def fn_X0_isAllowed (x0 : Int32) (x1 : Int32) (x2 : Int32) : Option (Int32) :=
  if x0 = 0 then (fn_X0_isBetween x1 (48 : Int32) (52 : Int32)).bind fun o37 => if o37 = 0 ∨ o37 = 1 then some (o37) else none else if x0 = 1 then if x2 = (52 : Int32) then fn_X0_isAllowed_57 x1 (48 : Int32) (48 : Int32) else fn_X0_isAllowed_57 x1 (48 : Int32) (57 : Int32) else if x0 = 2 then (fn_X0_driftOf x1).bind fun o62 => if o62 = (3 : Int32) then fn_X0_isAllowed_74 (0 : Int32) else fn_X0_isAllowed_74 (1 : Int32) else if x0 = 3 then (fn_X0_isBetween x1 (48 : Int32) (51 : Int32)).bind fun o80 => if o80 = 0 ∨ o80 = 1 then some (o80) else none else if x2 = (48 : Int32) then fn_X0_isAllowed_98 x2 x1 (49 : Int32) else fn_X0_isAllowed_98 x2 x1 (48 : Int32)
def fn_X0_firstError_91 (len : Int32) (sg : kF) (k0 : Int32) : Option (Int32) :=
  some (k0)
def fn_X0_firstError_73 (q16 : Int32 → kF → Int32 → Int32 → Option (Int32)) (len : Int32) (sg : kF) (x1 : Int32) (x2 : Int32) : Option (Int32) :=
  q16 len sg x1 (x2 + 1)
def fn_X0_firstError_72 (q16 : Int32 → kF → Int32 → Int32 → Option (Int32)) (len : Int32) (sg : kF) (x2 : Int32) (k0 : Int32) : Option (Int32) :=
  fn_X0_firstError_73 q16 len sg k0 x2
def fn_X0_firstError_39 (q16 : Int32 → kF → Int32 → Int32 → Option (Int32)) (len : Int32) (sg : kF) (x1 : Int32) (x2 : Int32) : Option (Int32) :=
  (fn_X0_signAt len sg x2).bind fun o42 => (fn_X0_signAt len sg (x2 - (1 : Int32))).bind fun o49 => (fn_X0_isAllowed x1 o42 o49).bind fun o52 => if o52 = 0 then some (x2) else if x1 = (4 : Int32) then fn_X0_firstError_72 q16 len sg x2 (0 : Int32) else fn_X0_firstError_72 q16 len sg x2 (x1 + (1 : Int32))
def fn_X0_firstError_16  : Nat → Int32 → kF → Int32 → Int32 → Option (Int32)
  | 0, _, _, _, _ => none
  | q + 1, len, sg, x1, x2 =>
    if len ≤ x2 then if x1 = 0 then fn_X0_firstError_91 len sg (-1 : Int32) else fn_X0_firstError_91 len sg len else (fn_X0_isFoulAt len sg x2).bind fun o26 => if o26 = 0 then fn_X0_firstError_39 (fn_X0_firstError_16 q) len sg x1 x2 else if x1 = 0 then fn_X0_firstError_73 (fn_X0_firstError_16 q) len sg x1 x2 else fn_X0_firstError_39 (fn_X0_firstError_16 q) len sg x1 x2
def fn_X0_firstError (len : Int32) (sg : kF) : Option (Int32) :=
  (fn_X0_signAt len sg (0 : Int32)).bind fun o2 => if o2 = (80 : Int32) then fn_X0_firstError_16 4096 len sg (0 : Int32) (1 : Int32) else some ((0 : Int32))
def fn_X0_numberAt (len : Int32) (sg : kF) (x1 : Int32) : Option (Int32) :=
  (fn_X0_signAt len sg x1).bind fun o4 => (fn_X0_signAt len sg (x1 + (1 : Int32))).bind fun o15 => some (((((10 : Int32) * (o4 - (48 : Int32))) + o15) - (48 : Int32)))
def fn_X0_playOn_76 (q4 : Int32 → kF → Int32 → Int32 → Int32 → Int32 → Int32 → Int32 → kF → kF → Int32 → Int32 → kF → kF → kF → Int32 → Int32 → Option (Int32 × Int32 × Int32 × Int32 × Int32 × Int32 × Int32 × kF × kF × Int32 × Int32 × kF × kF)) (len : Int32) (sg : kF) (zsto : Int32) (zdro : Int32) (zfou : Int32) (ztold : Int32) (zwl : Int32) (zwr : Int32) (zle : kF) (zsh : kF) (zrolls : Int32) (zfrm : Int32) (ztk : kF) (zsr : kF) (zse : kF) (x2 : Int32) (x3 : Int32) : Option (Int32 × Int32 × Int32 × Int32 × Int32 × Int32 × Int32 × kF × kF × Int32 × Int32 × kF × kF) :=
  q4 len sg zsto zdro zfou ztold zwl zwr zle zsh zrolls zfrm ztk zsr zse x2 x3
def fn_X0_playOn_58 (q4 : Int32 → kF → Int32 → Int32 → Int32 → Int32 → Int32 → Int32 → kF → kF → Int32 → Int32 → kF → kF → kF → Int32 → Int32 → Option (Int32 × Int32 × Int32 × Int32 × Int32 × Int32 × Int32 × kF × kF × Int32 × Int32 × kF × kF)) (len : Int32) (sg : kF) (zsto : Int32) (zdro : Int32) (zfou : Int32) (ztold : Int32) (zwl : Int32) (zwr : Int32) (zle : kF) (zsh : kF) (zrolls : Int32) (zfrm : Int32) (ztk : kF) (zsr : kF) (zse : kF) (x2 : Int32) (x3 : Int32) (x4 : Int32) (x5 : Int32) (x6 : Int32) (x7 : Int32) : Option (Int32 × Int32 × Int32 × Int32 × Int32 × Int32 × Int32 × kF × kF × Int32 × Int32 × kF × kF) :=
  (fn_X6_tryRoll zsto zdro zfou ztold zwl zwr zle zsh zrolls zfrm ztk zsr zse x4 x5 x6 x7).bind fun o67 => if o67.1 = 0 then fn_X0_playOn_76 q4 len sg o67.2.1 o67.2.2.1 o67.2.2.2.1 o67.2.2.2.2.1 o67.2.2.2.2.2.1 o67.2.2.2.2.2.2.1 o67.2.2.2.2.2.2.2.1 o67.2.2.2.2.2.2.2.2.1 o67.2.2.2.2.2.2.2.2.2.1 o67.2.2.2.2.2.2.2.2.2.2.1 o67.2.2.2.2.2.2.2.2.2.2.2.1 o67.2.2.2.2.2.2.2.2.2.2.2.2 zse (x2 + 1) x3 else fn_X0_playOn_76 q4 len sg o67.2.1 o67.2.2.1 o67.2.2.2.1 o67.2.2.2.2.1 o67.2.2.2.2.2.1 o67.2.2.2.2.2.2.1 o67.2.2.2.2.2.2.2.1 o67.2.2.2.2.2.2.2.2.1 o67.2.2.2.2.2.2.2.2.2.1 o67.2.2.2.2.2.2.2.2.2.2.1 o67.2.2.2.2.2.2.2.2.2.2.2.1 o67.2.2.2.2.2.2.2.2.2.2.2.2 zse x2 x3
def fn_X0_playOn_4  : Nat → Int32 → kF → Int32 → Int32 → Int32 → Int32 → Int32 → Int32 → kF → kF → Int32 → Int32 → kF → kF → kF → Int32 → Int32 → Option (Int32 × Int32 × Int32 × Int32 × Int32 × Int32 × Int32 × kF × kF × Int32 × Int32 × kF × kF)
  | 0, _, _, _, _, _, _, _, _, _, _, _, _, _, _, _, _, _ => none
  | q + 1, len, sg, zsto, zdro, zfou, ztold, zwl, zwr, zle, zsh, zrolls, zfrm, ztk, zsr, zse, x2, x3 =>
    if len ≤ x3 then some (x2, zsto, zdro, zfou, ztold, zwl, zwr, zle, zsh, zrolls, zfrm, ztk, zsr) else (fn_X0_numberAt len sg x3).bind fun o14 => (fn_X0_signAt len sg (x3 + (2 : Int32))).bind fun o23 => (fn_X0_driftOf o23).bind fun o26 => (fn_X0_numberAt len sg (x3 + (3 : Int32))).bind fun o35 => (fn_X0_isFoulAt len sg (x3 + 5)).bind fun o45 => if o45 = 0 then fn_X0_playOn_58 (fn_X0_playOn_4 q) len sg zsto zdro zfou ztold zwl zwr zle zsh zrolls zfrm ztk zsr zse x2 (x3 + 5) o14 o26 o35 o45 else fn_X0_playOn_58 (fn_X0_playOn_4 q) len sg zsto zdro zfou ztold zwl zwr zle zsh zrolls zfrm ztk zsr zse x2 ((x3 + 5) + 1) o14 o26 o35 o45
def fn_X0_playOn (len : Int32) (sg : kF) (zsto : Int32) (zdro : Int32) (zfou : Int32) (ztold : Int32) (zwl : Int32) (zwr : Int32) (zle : kF) (zsh : kF) (zrolls : Int32) (zfrm : Int32) (ztk : kF) (zsr : kF) (zse : kF) : Option (Int32 × Int32 × Int32 × Int32 × Int32 × Int32 × Int32 × kF × kF × Int32 × Int32 × kF × kF) :=
  fn_X0_playOn_4 4096 len sg zsto zdro zfou ztold zwl zwr zle zsh zrolls zfrm ztk zsr zse (0 : Int32) (1 : Int32)
def fn_X3_unitOf_33 (k0 : Int64) : Option (Int64) :=
  some (k0)
def fn_X3_unitOf (x0 : Int32) : Option (Int64) :=
  if 0 < x0 then if x0 = (1 : Int32) then fn_X3_unitOf_33 (100000 : Int64) else if x0 = (2 : Int32) then fn_X3_unitOf_33 (10000000000 : Int64) else fn_X3_unitOf_33 (1000000000000000 : Int64) else fn_X3_unitOf_33 (1 : Int64)
def fn_X3_begins (ztold : Int32) (zle : kF) (zsh : kF) (zrolls : Int32) (zfrm : Int32) (ztk : kF) (zsr : kF) : Option (Int32 × Int32 × kF × kF × Int32 × Int32) :=
  (fn_X6_beginGame ztold zle zsh zrolls zfrm ztk zsr).bind fun o1 => some ((1 : Int32), o1.2.1, o1.2.2.1, o1.2.2.2.1, o1.2.2.2.2.1, o1.2.2.2.2.2)
def fn_X3_succeeds_118 (zsto : Int32) (zdro : Int32) (zfou : Int32) (ztold : Int32) (zwl : Int32) (zwr : Int32) (zle : kF) (zsh : kF) (zrolls : Int32) (zfrm : Int32) (ztk : kF) (zsr : kF) (zse : kF) (k0 : Int32) : Option (Int32 × Int32 × Int32 × Int32 × Int32 × Int32 × Int32 × kF × kF × Int32 × Int32 × kF × kF × kF) :=
  if k0 = 0 ∨ k0 = 1 then some (k0, zsto, zdro, zfou, ztold, zwl, zwr, zle, zsh, zrolls, zfrm, ztk, zsr, zse) else none
def fn_X3_succeeds_117 (zsto : Int32) (zdro : Int32) (zfou : Int32) (ztold : Int32) (zwl : Int32) (zwr : Int32) (zle : kF) (zsh : kF) (zrolls : Int32) (zfrm : Int32) (ztk : kF) (zsr : kF) (zse : kF) : Option (Int32 × Int32 × Int32 × Int32 × Int32 × Int32 × Int32 × kF × kF × Int32 × Int32 × kF × kF × kF) :=
  fn_X3_succeeds_118 zsto zdro zfou ztold zwl zwr zle zsh zrolls zfrm ztk zsr zse (0 : Int32)
def fn_X3_succeeds_149 (zsto : Int32) (zdro : Int32) (zfou : Int32) (ztold : Int32) (zwl : Int32) (zwr : Int32) (zle : kF) (zsh : kF) (zrolls : Int32) (zfrm : Int32) (ztk : kF) (zsr : kF) (zse : kF) (k0 : Int32) : Option (Int32 × Int32 × Int32 × Int32 × Int32 × Int32 × Int32 × kF × kF × Int32 × Int32 × kF × kF × kF) :=
  if k0 = 0 ∨ k0 = 1 then some (k0, zsto, zdro, zfou, ztold, zwl, zwr, zle, zsh, zrolls, zfrm, ztk, zsr, zse) else none
def fn_X3_succeeds_148 (zsto : Int32) (zdro : Int32) (zfou : Int32) (ztold : Int32) (zwl : Int32) (zwr : Int32) (zle : kF) (zsh : kF) (zrolls : Int32) (zfrm : Int32) (ztk : kF) (zsr : kF) (zse : kF) : Option (Int32 × Int32 × Int32 × Int32 × Int32 × Int32 × Int32 × kF × kF × Int32 × Int32 × kF × kF × kF) :=
  fn_X3_succeeds_149 zsto zdro zfou ztold zwl zwr zle zsh zrolls zfrm ztk zsr zse (0 : Int32)
def fn_X3_succeeds_174 (zsto : Int32) (zdro : Int32) (zfou : Int32) (ztold : Int32) (zwl : Int32) (zwr : Int32) (zle : kF) (zsh : kF) (zrolls : Int32) (zfrm : Int32) (ztk : kF) (zsr : kF) (zse : kF) (k0 : Int32) : Option (Int32 × Int32 × Int32 × Int32 × Int32 × Int32 × Int32 × kF × kF × Int32 × Int32 × kF × kF × kF) :=
  if k0 = 0 ∨ k0 = 1 then some (k0, zsto, zdro, zfou, ztold, zwl, zwr, zle, zsh, zrolls, zfrm, ztk, zsr, zse) else none
def fn_X3_succeeds_173 (zsto : Int32) (zdro : Int32) (zfou : Int32) (ztold : Int32) (zwl : Int32) (zwr : Int32) (zle : kF) (zsh : kF) (zrolls : Int32) (zfrm : Int32) (ztk : kF) (zsr : kF) (zse : kF) : Option (Int32 × Int32 × Int32 × Int32 × Int32 × Int32 × Int32 × kF × kF × Int32 × Int32 × kF × kF × kF) :=
  fn_X3_succeeds_174 zsto zdro zfou ztold zwl zwr zle zsh zrolls zfrm ztk zsr zse (0 : Int32)
def fn_X3_succeeds_200 (zsto : Int32) (zdro : Int32) (zfou : Int32) (ztold : Int32) (zwl : Int32) (zwr : Int32) (zle : kF) (zsh : kF) (zrolls : Int32) (zfrm : Int32) (ztk : kF) (zsr : kF) (zse : kF) (k0 : Int32) : Option (Int32 × Int32 × Int32 × Int32 × Int32 × Int32 × Int32 × kF × kF × Int32 × Int32 × kF × kF × kF) :=
  if k0 = 0 ∨ k0 = 1 then some (k0, zsto, zdro, zfou, ztold, zwl, zwr, zle, zsh, zrolls, zfrm, ztk, zsr, zse) else none
def fn_X3_succeeds_199 (zsto : Int32) (zdro : Int32) (zfou : Int32) (ztold : Int32) (zwl : Int32) (zwr : Int32) (zle : kF) (zsh : kF) (zrolls : Int32) (zfrm : Int32) (ztk : kF) (zsr : kF) (zse : kF) : Option (Int32 × Int32 × Int32 × Int32 × Int32 × Int32 × Int32 × kF × kF × Int32 × Int32 × kF × kF × kF) :=
  fn_X3_succeeds_200 zsto zdro zfou ztold zwl zwr zle zsh zrolls zfrm ztk zsr zse (0 : Int32)
def fn_X3_succeeds_219 (zsto : Int32) (zdro : Int32) (zfou : Int32) (ztold : Int32) (zwl : Int32) (zwr : Int32) (zle : kF) (zsh : kF) (zrolls : Int32) (zfrm : Int32) (ztk : kF) (zsr : kF) (zse : kF) (k0 : Int32) : Option (Int32 × Int32 × Int32 × Int32 × Int32 × Int32 × Int32 × kF × kF × Int32 × Int32 × kF × kF × kF) :=
  if k0 = 0 ∨ k0 = 1 then some (k0, zsto, zdro, zfou, ztold, zwl, zwr, zle, zsh, zrolls, zfrm, ztk, zsr, zse) else none
def fn_X3_succeeds_218 (zsto : Int32) (zdro : Int32) (zfou : Int32) (ztold : Int32) (zwl : Int32) (zwr : Int32) (zle : kF) (zsh : kF) (zrolls : Int32) (zfrm : Int32) (ztk : kF) (zsr : kF) (zse : kF) : Option (Int32 × Int32 × Int32 × Int32 × Int32 × Int32 × Int32 × kF × kF × Int32 × Int32 × kF × kF × kF) :=
  fn_X3_succeeds_219 zsto zdro zfou ztold zwl zwr zle zsh zrolls zfrm ztk zsr zse (0 : Int32)
def fn_X3_succeeds_254 (zsto : Int32) (zdro : Int32) (zfou : Int32) (ztold : Int32) (zwl : Int32) (zwr : Int32) (zle : kF) (zsh : kF) (zrolls : Int32) (zfrm : Int32) (ztk : kF) (zsr : kF) (zse : kF) (k0 : Int32) : Option (Int32 × Int32 × Int32 × Int32 × Int32 × Int32 × Int32 × kF × kF × Int32 × Int32 × kF × kF × kF) :=
  if k0 = 0 ∨ k0 = 1 then some (k0, zsto, zdro, zfou, ztold, zwl, zwr, zle, zsh, zrolls, zfrm, ztk, zsr, zse) else none
def fn_X3_succeeds_253 (zsto : Int32) (zdro : Int32) (zfou : Int32) (ztold : Int32) (zwl : Int32) (zwr : Int32) (zle : kF) (zsh : kF) (zrolls : Int32) (zfrm : Int32) (ztk : kF) (zsr : kF) (zse : kF) : Option (Int32 × Int32 × Int32 × Int32 × Int32 × Int32 × Int32 × kF × kF × Int32 × Int32 × kF × kF × kF) :=
  fn_X3_succeeds_254 zsto zdro zfou ztold zwl zwr zle zsh zrolls zfrm ztk zsr zse (0 : Int32)
def fn_X3_succeeds_282 (zsto : Int32) (zdro : Int32) (zfou : Int32) (ztold : Int32) (zwl : Int32) (zwr : Int32) (zle : kF) (zsh : kF) (zrolls : Int32) (zfrm : Int32) (ztk : kF) (zsr : kF) (zse : kF) (k0 : Int32) : Option (Int32 × Int32 × Int32 × Int32 × Int32 × Int32 × Int32 × kF × kF × Int32 × Int32 × kF × kF × kF) :=
  if k0 = 0 ∨ k0 = 1 then some (k0, zsto, zdro, zfou, ztold, zwl, zwr, zle, zsh, zrolls, zfrm, ztk, zsr, zse) else none
def fn_X3_succeeds_281 (zsto : Int32) (zdro : Int32) (zfou : Int32) (ztold : Int32) (zwl : Int32) (zwr : Int32) (zle : kF) (zsh : kF) (zrolls : Int32) (zfrm : Int32) (ztk : kF) (zsr : kF) (zse : kF) : Option (Int32 × Int32 × Int32 × Int32 × Int32 × Int32 × Int32 × kF × kF × Int32 × Int32 × kF × kF × kF) :=
  fn_X3_succeeds_282 zsto zdro zfou ztold zwl zwr zle zsh zrolls zfrm ztk zsr zse (0 : Int32)
def fn_X3_succeeds_315 (zsto : Int32) (zdro : Int32) (zfou : Int32) (ztold : Int32) (zwl : Int32) (zwr : Int32) (zle : kF) (zsh : kF) (zrolls : Int32) (zfrm : Int32) (ztk : kF) (zsr : kF) (zse : kF) (k0 : Int32) : Option (Int32 × Int32 × Int32 × Int32 × Int32 × Int32 × Int32 × kF × kF × Int32 × Int32 × kF × kF × kF) :=
  if k0 = 0 ∨ k0 = 1 then some (k0, zsto, zdro, zfou, ztold, zwl, zwr, zle, zsh, zrolls, zfrm, ztk, zsr, zse) else none
def fn_X3_succeeds_314 (zsto : Int32) (zdro : Int32) (zfou : Int32) (ztold : Int32) (zwl : Int32) (zwr : Int32) (zle : kF) (zsh : kF) (zrolls : Int32) (zfrm : Int32) (ztk : kF) (zsr : kF) (zse : kF) : Option (Int32 × Int32 × Int32 × Int32 × Int32 × Int32 × Int32 × kF × kF × Int32 × Int32 × kF × kF × kF) :=
  fn_X3_succeeds_315 zsto zdro zfou ztold zwl zwr zle zsh zrolls zfrm ztk zsr zse (0 : Int32)
def fn_X3_succeeds_343 (zsto : Int32) (zdro : Int32) (zfou : Int32) (ztold : Int32) (zwl : Int32) (zwr : Int32) (zle : kF) (zsh : kF) (zrolls : Int32) (zfrm : Int32) (ztk : kF) (zsr : kF) (zse : kF) (k0 : Int32) : Option (Int32 × Int32 × Int32 × Int32 × Int32 × Int32 × Int32 × kF × kF × Int32 × Int32 × kF × kF × kF) :=
  if k0 = 0 ∨ k0 = 1 then some (k0, zsto, zdro, zfou, ztold, zwl, zwr, zle, zsh, zrolls, zfrm, ztk, zsr, zse) else none
def fn_X3_succeeds_342 (zsto : Int32) (zdro : Int32) (zfou : Int32) (ztold : Int32) (zwl : Int32) (zwr : Int32) (zle : kF) (zsh : kF) (zrolls : Int32) (zfrm : Int32) (ztk : kF) (zsr : kF) (zse : kF) : Option (Int32 × Int32 × Int32 × Int32 × Int32 × Int32 × Int32 × kF × kF × Int32 × Int32 × kF × kF × kF) :=
  fn_X3_succeeds_343 zsto zdro zfou ztold zwl zwr zle zsh zrolls zfrm ztk zsr zse (0 : Int32)
def fn_X3_succeeds (zsto : Int32) (zdro : Int32) (zfou : Int32) (ztold : Int32) (zwl : Int32) (zwr : Int32) (zle : kF) (zsh : kF) (zrolls : Int32) (zfrm : Int32) (ztk : kF) (zsr : kF) (zse : kF) (x1 : Int32) : Option (Int32 × Int32 × Int32 × Int32 × Int32 × Int32 × Int32 × kF × kF × Int32 × Int32 × kF × kF × kF) :=
  if (x1 / (10000 : Int32)) = 1 then if (x1 - x1 / (10 : Int32) * (10 : Int32)) = 0 then (fn_X6_tryRoll zsto zdro zfou ztold zwl zwr zle zsh zrolls zfrm ztk zsr zse (((10 : Int32) * ((x1 / (1000 : Int32)) - (x1 / (1000 : Int32)) / (10 : Int32) * (10 : Int32))) + ((x1 / (100 : Int32)) - (x1 / (100 : Int32)) / (10 : Int32) * (10 : Int32))) (((x1 / (10 : Int32)) - (x1 / (10 : Int32)) / (10 : Int32) * (10 : Int32)) - (2 : Int32)) (30 : Int32) (0 : Int32)).bind fun o107 => if o107.1 = 0 then fn_X3_succeeds_117 o107.2.1 o107.2.2.1 o107.2.2.2.1 o107.2.2.2.2.1 o107.2.2.2.2.2.1 o107.2.2.2.2.2.2.1 o107.2.2.2.2.2.2.2.1 o107.2.2.2.2.2.2.2.2.1 o107.2.2.2.2.2.2.2.2.2.1 o107.2.2.2.2.2.2.2.2.2.2.1 o107.2.2.2.2.2.2.2.2.2.2.2.1 o107.2.2.2.2.2.2.2.2.2.2.2.2 zse else fn_X3_succeeds_118 o107.2.1 o107.2.2.1 o107.2.2.2.1 o107.2.2.2.2.1 o107.2.2.2.2.2.1 o107.2.2.2.2.2.2.1 o107.2.2.2.2.2.2.2.1 o107.2.2.2.2.2.2.2.2.1 o107.2.2.2.2.2.2.2.2.2.1 o107.2.2.2.2.2.2.2.2.2.2.1 o107.2.2.2.2.2.2.2.2.2.2.2.1 o107.2.2.2.2.2.2.2.2.2.2.2.2 zse (1 : Int32) else fn_X3_succeeds_117 zsto zdro zfou ztold zwl zwr zle zsh zrolls zfrm ztk zsr zse else if (x1 / (10000 : Int32)) = 2 then if (x1 - x1 / (10 : Int32) * (10 : Int32)) = 0 then (fn_X6_tryRoll zsto zdro zfou ztold zwl zwr zle zsh zrolls zfrm ztk zsr zse (((10 : Int32) * ((x1 / (1000 : Int32)) - (x1 / (1000 : Int32)) / (10 : Int32) * (10 : Int32))) + ((x1 / (100 : Int32)) - (x1 / (100 : Int32)) / (10 : Int32) * (10 : Int32))) (((x1 / (10 : Int32)) - (x1 / (10 : Int32)) / (10 : Int32) * (10 : Int32)) - (2 : Int32)) (30 : Int32) (1 : Int32)).bind fun o138 => if o138.1 = 0 then fn_X3_succeeds_148 o138.2.1 o138.2.2.1 o138.2.2.2.1 o138.2.2.2.2.1 o138.2.2.2.2.2.1 o138.2.2.2.2.2.2.1 o138.2.2.2.2.2.2.2.1 o138.2.2.2.2.2.2.2.2.1 o138.2.2.2.2.2.2.2.2.2.1 o138.2.2.2.2.2.2.2.2.2.2.1 o138.2.2.2.2.2.2.2.2.2.2.2.1 o138.2.2.2.2.2.2.2.2.2.2.2.2 zse else fn_X3_succeeds_149 o138.2.1 o138.2.2.1 o138.2.2.2.1 o138.2.2.2.2.1 o138.2.2.2.2.2.1 o138.2.2.2.2.2.2.1 o138.2.2.2.2.2.2.2.1 o138.2.2.2.2.2.2.2.2.1 o138.2.2.2.2.2.2.2.2.2.1 o138.2.2.2.2.2.2.2.2.2.2.1 o138.2.2.2.2.2.2.2.2.2.2.2.1 o138.2.2.2.2.2.2.2.2.2.2.2.2 zse (1 : Int32) else fn_X3_succeeds_148 zsto zdro zfou ztold zwl zwr zle zsh zrolls zfrm ztk zsr zse else if (x1 / (10000 : Int32)) = 3 then if ((x1 / (10 : Int32)) - (x1 / (10 : Int32)) / (10 : Int32) * (10 : Int32)) = 0 then if (x1 - x1 / (10 : Int32) * (10 : Int32)) = 0 then (fn_X6_tryTouch zle ((x1 / (1000 : Int32)) - (x1 / (1000 : Int32)) / (10 : Int32) * (10 : Int32)) ((x1 / (100 : Int32)) - (x1 / (100 : Int32)) / (10 : Int32) * (10 : Int32))).bind fun o163 => if o163.1 = 0 then fn_X3_succeeds_173 zsto zdro zfou ztold zwl zwr o163.2 zsh zrolls zfrm ztk zsr zse else fn_X3_succeeds_174 zsto zdro zfou ztold zwl zwr o163.2 zsh zrolls zfrm ztk zsr zse (1 : Int32) else fn_X3_succeeds_173 zsto zdro zfou ztold zwl zwr zle zsh zrolls zfrm ztk zsr zse else fn_X3_succeeds_173 zsto zdro zfou ztold zwl zwr zle zsh zrolls zfrm ztk zsr zse else if (x1 / (10000 : Int32)) = 4 then if (x1 - x1 / (10 : Int32) * (10 : Int32)) = 0 then (fn_X6_trySet zse ((x1 / (1000 : Int32)) - (x1 / (1000 : Int32)) / (10 : Int32) * (10 : Int32)) (((10 : Int32) * ((x1 / (100 : Int32)) - (x1 / (100 : Int32)) / (10 : Int32) * (10 : Int32))) + ((x1 / (10 : Int32)) - (x1 / (10 : Int32)) / (10 : Int32) * (10 : Int32)))).bind fun o189 => if o189.1 = 0 then fn_X3_succeeds_199 zsto zdro zfou ztold zwl zwr zle zsh zrolls zfrm ztk zsr o189.2 else fn_X3_succeeds_200 zsto zdro zfou ztold zwl zwr zle zsh zrolls zfrm ztk zsr o189.2 (1 : Int32) else fn_X3_succeeds_199 zsto zdro zfou ztold zwl zwr zle zsh zrolls zfrm ztk zsr zse else if (x1 / (10000 : Int32)) = 5 then if x1 = (50000 : Int32) then (fn_X3_begins ztold zle zsh zrolls zfrm ztk zsr).bind fun o208 => if o208.1 = 0 then fn_X3_succeeds_218 zsto zdro zfou o208.2.1 zwl zwr o208.2.2.1 o208.2.2.2.1 o208.2.2.2.2.1 o208.2.2.2.2.2 ztk zsr zse else fn_X3_succeeds_219 zsto zdro zfou o208.2.1 zwl zwr o208.2.2.1 o208.2.2.2.1 o208.2.2.2.2.1 o208.2.2.2.2.2 ztk zsr zse (1 : Int32) else fn_X3_succeeds_218 zsto zdro zfou ztold zwl zwr zle zsh zrolls zfrm ztk zsr zse else if (x1 / (10000 : Int32)) = 6 then if ((x1 / (1000 : Int32)) - (x1 / (1000 : Int32)) / (10 : Int32) * (10 : Int32)) = 0 then if ((x1 / (100 : Int32)) - (x1 / (100 : Int32)) / (10 : Int32) * (10 : Int32)) = 0 then (fn_X2_toldSet ztold).bind fun o232 => (fn_J6_bitCount_0f7a4 o232).bind fun o235 => if (((10 : Int32) * ((x1 / (10 : Int32)) - (x1 / (10 : Int32)) / (10 : Int32) * (10 : Int32))) + (x1 - x1 / (10 : Int32) * (10 : Int32))) < o235 then fn_X3_succeeds_253 zsto zdro zfou ztold zwl zwr zle zsh zrolls zfrm ztk zsr zse else fn_X3_succeeds_254 zsto zdro zfou ztold zwl zwr zle zsh zrolls zfrm ztk zsr zse (1 : Int32) else fn_X3_succeeds_253 zsto zdro zfou ztold zwl zwr zle zsh zrolls zfrm ztk zsr zse else fn_X3_succeeds_253 zsto zdro zfou ztold zwl zwr zle zsh zrolls zfrm ztk zsr zse else if (x1 / (10000 : Int32)) = 7 then if ((x1 / (10 : Int32)) - (x1 / (10 : Int32)) / (10 : Int32) * (10 : Int32)) = 0 then if (x1 - x1 / (10 : Int32) * (10 : Int32)) = 0 then (fn_X2_leaningOf zle ((x1 / (1000 : Int32)) - (x1 / (1000 : Int32)) / (10 : Int32) * (10 : Int32))).bind fun o270 => if o270 = ((x1 / (100 : Int32)) - (x1 / (100 : Int32)) / (10 : Int32) * (10 : Int32)) then fn_X3_succeeds_282 zsto zdro zfou ztold zwl zwr zle zsh zrolls zfrm ztk zsr zse (1 : Int32) else fn_X3_succeeds_281 zsto zdro zfou ztold zwl zwr zle zsh zrolls zfrm ztk zsr zse else fn_X3_succeeds_281 zsto zdro zfou ztold zwl zwr zle zsh zrolls zfrm ztk zsr zse else fn_X3_succeeds_281 zsto zdro zfou ztold zwl zwr zle zsh zrolls zfrm ztk zsr zse else if (x1 / (10000 : Int32)) = 8 then if ((x1 / (1000 : Int32)) - (x1 / (1000 : Int32)) / (10 : Int32) * (10 : Int32)) = 0 then (fn_X4_allPoints zrolls zfrm ztk zsr).bind fun o291 => if o291 < ((((100 : Int32) * ((x1 / (100 : Int32)) - (x1 / (100 : Int32)) / (10 : Int32) * (10 : Int32))) + ((10 : Int32) * ((x1 / (10 : Int32)) - (x1 / (10 : Int32)) / (10 : Int32) * (10 : Int32)))) + (x1 - x1 / (10 : Int32) * (10 : Int32))) then fn_X3_succeeds_314 zsto zdro zfou ztold zwl zwr zle zsh zrolls zfrm ztk zsr zse else fn_X3_succeeds_315 zsto zdro zfou ztold zwl zwr zle zsh zrolls zfrm ztk zsr zse (1 : Int32) else fn_X3_succeeds_314 zsto zdro zfou ztold zwl zwr zle zsh zrolls zfrm ztk zsr zse else if (x1 / (10000 : Int32)) = 9 then if ((x1 / (100 : Int32)) - (x1 / (100 : Int32)) / (10 : Int32) * (10 : Int32)) = 0 then if ((x1 / (10 : Int32)) - (x1 / (10 : Int32)) / (10 : Int32) * (10 : Int32)) = 0 then (fn_X4_markOf zrolls zfrm ztk zsr ((x1 / (1000 : Int32)) - (x1 / (1000 : Int32)) / (10 : Int32) * (10 : Int32))).bind fun o330 => if o330 = (x1 - x1 / (10 : Int32) * (10 : Int32)) then fn_X3_succeeds_343 zsto zdro zfou ztold zwl zwr zle zsh zrolls zfrm ztk zsr zse (1 : Int32) else fn_X3_succeeds_342 zsto zdro zfou ztold zwl zwr zle zsh zrolls zfrm ztk zsr zse else fn_X3_succeeds_342 zsto zdro zfou ztold zwl zwr zle zsh zrolls zfrm ztk zsr zse else fn_X3_succeeds_342 zsto zdro zfou ztold zwl zwr zle zsh zrolls zfrm ztk zsr zse else some ((0 : Int32), zsto, zdro, zfou, ztold, zwl, zwr, zle, zsh, zrolls, zfrm, ztk, zsr, zse)
def fn_X1_isEmpty_12 (hsz : Int32) (k0 : Int32) : Option (Int32) :=
  if k0 = 0 ∨ k0 = 1 then some (k0) else none
def fn_X1_isEmpty (hsz : Int32) : Option (Int32) :=
  if hsz = 0 then fn_X1_isEmpty_12 hsz (1 : Int32) else fn_X1_isEmpty_12 hsz (0 : Int32)
def fn_X1_forget (hsz : Int32) : Option (Int32) :=
  some ((0 : Int32))
def fn_J9_floorMod_7cf53_18 (x2 : Int32) : Option (Int32) :=
  some (x2)
def fn_J9_floorMod_7cf53 (x0 : Int32) (x1 : Int32) : Option (Int32) :=
  if x1 = 0 then none else if 0 ≤ (x0 ^^^ x1) then fn_J9_floorMod_7cf53_18 (x0 - x0 / x1 * x1) else if (x0 - x0 / x1 * x1) = 0 then fn_J9_floorMod_7cf53_18 (x0 - x0 / x1 * x1) else some (((x0 - x0 / x1 * x1) + x1))
def fn_X1_remember (hsz : Int32) (hnx : Int32) (zsto : Int32) (zdro : Int32) (zfou : Int32) (ztold : Int32) (zle : kF) (zsh : kF) (zrolls : Int32) (zfrm : Int32) (ztk : kF) (zsr : kF) (zse : kF) (hs : Nat → kSt) : Option (Int32 × Int32 × (Nat → kSt)) :=
  (fn_J9_floorMod_7cf53 hnx (14 : Int32)).bind fun o10 => if o10 < 0 ∨ 14 ≤ o10.toNatClampNeg then none else (fn_X6_copyFrom ((hs (o10.toNatClampNeg)).1) ((hs (o10.toNatClampNeg)).2.1) ((hs (o10.toNatClampNeg)).2.2.1) ((hs (o10.toNatClampNeg)).2.2.2.1) ((hs (o10.toNatClampNeg)).2.2.2.2.2.2.1) ((hs (o10.toNatClampNeg)).2.2.2.2.2.2.2.1) ((hs (o10.toNatClampNeg)).2.2.2.2.2.2.2.2.1) ((hs (o10.toNatClampNeg)).2.2.2.2.2.2.2.2.2.1) ((hs (o10.toNatClampNeg)).2.2.2.2.2.2.2.2.2.2.1) ((hs (o10.toNatClampNeg)).2.2.2.2.2.2.2.2.2.2.2.1) ((hs (o10.toNatClampNeg)).2.2.2.2.2.2.2.2.2.2.2.2) zsto zdro zfou ztold zle zsh zrolls zfrm ztk zsr zse).bind fun o15 => (fn_J9_floorMod_7cf53 (hnx + (1 : Int32)) (14 : Int32)).bind fun o27 => some ((if (14 : Int32) < (hsz + (1 : Int32)) then (14 : Int32) else (hsz + (1 : Int32))), o27, (kup hs (o10.toNatClampNeg) (o15.1, o15.2.1, o15.2.2.1, o15.2.2.2.1, (hs (o10.toNatClampNeg)).2.2.2.2.1, (hs (o10.toNatClampNeg)).2.2.2.2.2.1, o15.2.2.2.2.1, o15.2.2.2.2.2.1, o15.2.2.2.2.2.2.1, o15.2.2.2.2.2.2.2.1, o15.2.2.2.2.2.2.2.2.1, o15.2.2.2.2.2.2.2.2.2.1, o15.2.2.2.2.2.2.2.2.2.2)))
def fn_X1_takeBack (hsz : Int32) (hnx : Int32) (zsto : Int32) (zdro : Int32) (zfou : Int32) (ztold : Int32) (zle : kF) (zsh : kF) (zrolls : Int32) (zfrm : Int32) (ztk : kF) (zsr : kF) (zse : kF) (hs : Nat → kSt) : Option (Int32 × Int32 × Int32 × Int32 × Int32 × Int32 × Int32 × kF × kF × Int32 × Int32 × kF × kF × kF) :=
  (fn_J9_floorMod_7cf53 (hnx - (1 : Int32)) (14 : Int32)).bind fun o9 => if o9 < 0 ∨ 14 ≤ o9.toNatClampNeg then none else (fn_X6_copyFrom zsto zdro zfou ztold zle zsh zrolls zfrm ztk zsr zse ((hs (o9.toNatClampNeg)).1) ((hs (o9.toNatClampNeg)).2.1) ((hs (o9.toNatClampNeg)).2.2.1) ((hs (o9.toNatClampNeg)).2.2.2.1) ((hs (o9.toNatClampNeg)).2.2.2.2.2.2.1) ((hs (o9.toNatClampNeg)).2.2.2.2.2.2.2.1) ((hs (o9.toNatClampNeg)).2.2.2.2.2.2.2.2.1) ((hs (o9.toNatClampNeg)).2.2.2.2.2.2.2.2.2.1) ((hs (o9.toNatClampNeg)).2.2.2.2.2.2.2.2.2.2.1) ((hs (o9.toNatClampNeg)).2.2.2.2.2.2.2.2.2.2.2.1) ((hs (o9.toNatClampNeg)).2.2.2.2.2.2.2.2.2.2.2.2)).bind fun o39 => some ((if (hsz - (1 : Int32)) < (0 : Int32) then (0 : Int32) else (hsz - (1 : Int32))), (if (hsz - (1 : Int32)) < (0 : Int32) then (0 : Int32) else (hsz - (1 : Int32))), o9, o39.1, o39.2.1, o39.2.2.1, o39.2.2.2.1, o39.2.2.2.2.1, o39.2.2.2.2.2.1, o39.2.2.2.2.2.2.1, o39.2.2.2.2.2.2.2.1, o39.2.2.2.2.2.2.2.2.1, o39.2.2.2.2.2.2.2.2.2.1, o39.2.2.2.2.2.2.2.2.2.2)
def fn_X5_forget_2  : Nat → kF → Int32 → Option (kF)
  | 0, _, _ => none
  | q + 1, lk, x1 =>
    if (2 : Int32) ≤ x1 then some (lk) else if x1 < 0 ∨ 2 ≤ x1.toNatClampNeg then none else fn_X5_forget_2 q (upd lk (x1.toNatClampNeg) (vp_nar .boolean (0 : Int32))) (x1 + 1)
def fn_X5_forget (lk : kF) : Option (kF) :=
  fn_X5_forget_2 4096 lk (0 : Int32)
def fn_X7_isSlot_14 (k0 : Int32) : Option (Int32) :=
  if k0 = 0 ∨ k0 = 1 then some (k0) else none
def fn_X7_isSlot_13  : Option (Int32) :=
  fn_X7_isSlot_14 (0 : Int32)
def fn_X7_isSlot (x0 : Int32) : Option (Int32) :=
  if x0 < 0 then fn_X7_isSlot_13 else if (2 : Int32) ≤ x0 then fn_X7_isSlot_13 else fn_X7_isSlot_14 (1 : Int32)
def fn_X5_isKept_21 (lk : kF) (k0 : Int32) : Option (Int32) :=
  if k0 = 0 ∨ k0 = 1 then some (k0) else none
def fn_X5_isKept_20 (lk : kF) : Option (Int32) :=
  fn_X5_isKept_21 lk (0 : Int32)
def fn_X5_isKept (lk : kF) (x1 : Int32) : Option (Int32) :=
  (fn_X7_isSlot x1).bind fun o1 => if o1 = 0 then fn_X5_isKept_20 lk else if x1 < 0 ∨ 2 ≤ x1.toNatClampNeg then none else if (lk (x1.toNatClampNeg)) = 0 then fn_X5_isKept_20 lk else fn_X5_isKept_21 lk (1 : Int32)
def fn_X5_keep_24 (lk : kF) (zsto : Int32) (zdro : Int32) (zfou : Int32) (ztold : Int32) (zle : kF) (zsh : kF) (zrolls : Int32) (zfrm : Int32) (ztk : kF) (zsr : kF) (zse : kF) (gs : Nat → kSt) : Option (kF × (Nat → kSt)) :=
  some (lk, gs)
def fn_X5_keep (lk : kF) (zsto : Int32) (zdro : Int32) (zfou : Int32) (ztold : Int32) (zle : kF) (zsh : kF) (zrolls : Int32) (zfrm : Int32) (ztk : kF) (zsr : kF) (zse : kF) (gs : Nat → kSt) (x1 : Int32) : Option (kF × (Nat → kSt)) :=
  (fn_X7_isSlot x1).bind fun o1 => if o1 = 0 then fn_X5_keep_24 lk zsto zdro zfou ztold zle zsh zrolls zfrm ztk zsr zse gs else if x1 < 0 ∨ 2 ≤ x1.toNatClampNeg then none else (fn_X6_copyFrom ((gs (x1.toNatClampNeg)).1) ((gs (x1.toNatClampNeg)).2.1) ((gs (x1.toNatClampNeg)).2.2.1) ((gs (x1.toNatClampNeg)).2.2.2.1) ((gs (x1.toNatClampNeg)).2.2.2.2.2.2.1) ((gs (x1.toNatClampNeg)).2.2.2.2.2.2.2.1) ((gs (x1.toNatClampNeg)).2.2.2.2.2.2.2.2.1) ((gs (x1.toNatClampNeg)).2.2.2.2.2.2.2.2.2.1) ((gs (x1.toNatClampNeg)).2.2.2.2.2.2.2.2.2.2.1) ((gs (x1.toNatClampNeg)).2.2.2.2.2.2.2.2.2.2.2.1) ((gs (x1.toNatClampNeg)).2.2.2.2.2.2.2.2.2.2.2.2) zsto zdro zfou ztold zle zsh zrolls zfrm ztk zsr zse).bind fun o14 => if x1 < 0 ∨ 2 ≤ x1.toNatClampNeg then none else fn_X5_keep_24 (upd lk (x1.toNatClampNeg) (vp_nar .boolean (1 : Int32))) zsto zdro zfou ztold zle zsh zrolls zfrm ztk zsr zse (kup gs (x1.toNatClampNeg) (o14.1, o14.2.1, o14.2.2.1, o14.2.2.2.1, (gs (x1.toNatClampNeg)).2.2.2.2.1, (gs (x1.toNatClampNeg)).2.2.2.2.2.1, o14.2.2.2.2.1, o14.2.2.2.2.2.1, o14.2.2.2.2.2.2.1, o14.2.2.2.2.2.2.2.1, o14.2.2.2.2.2.2.2.2.1, o14.2.2.2.2.2.2.2.2.2.1, o14.2.2.2.2.2.2.2.2.2.2))
def fn_X5_giveBack_18 (lk : kF) (zsto : Int32) (zdro : Int32) (zfou : Int32) (ztold : Int32) (zle : kF) (zsh : kF) (zrolls : Int32) (zfrm : Int32) (ztk : kF) (zsr : kF) (zse : kF) (gs : Nat → kSt) : Option (Int32 × Int32 × Int32 × Int32 × kF × kF × Int32 × Int32 × kF × kF × kF) :=
  some (zsto, zdro, zfou, ztold, zle, zsh, zrolls, zfrm, ztk, zsr, zse)
def fn_X5_giveBack (lk : kF) (zsto : Int32) (zdro : Int32) (zfou : Int32) (ztold : Int32) (zle : kF) (zsh : kF) (zrolls : Int32) (zfrm : Int32) (ztk : kF) (zsr : kF) (zse : kF) (gs : Nat → kSt) (x1 : Int32) : Option (Int32 × Int32 × Int32 × Int32 × kF × kF × Int32 × Int32 × kF × kF × kF) :=
  (fn_X5_isKept lk x1).bind fun o2 => if o2 = 0 then fn_X5_giveBack_18 lk zsto zdro zfou ztold zle zsh zrolls zfrm ztk zsr zse gs else if x1 < 0 ∨ 2 ≤ x1.toNatClampNeg then none else (fn_X6_copyFrom zsto zdro zfou ztold zle zsh zrolls zfrm ztk zsr zse ((gs (x1.toNatClampNeg)).1) ((gs (x1.toNatClampNeg)).2.1) ((gs (x1.toNatClampNeg)).2.2.1) ((gs (x1.toNatClampNeg)).2.2.2.1) ((gs (x1.toNatClampNeg)).2.2.2.2.2.2.1) ((gs (x1.toNatClampNeg)).2.2.2.2.2.2.2.1) ((gs (x1.toNatClampNeg)).2.2.2.2.2.2.2.2.1) ((gs (x1.toNatClampNeg)).2.2.2.2.2.2.2.2.2.1) ((gs (x1.toNatClampNeg)).2.2.2.2.2.2.2.2.2.2.1) ((gs (x1.toNatClampNeg)).2.2.2.2.2.2.2.2.2.2.2.1) ((gs (x1.toNatClampNeg)).2.2.2.2.2.2.2.2.2.2.2.2)).bind fun o15 => fn_X5_giveBack_18 lk o15.1 o15.2.1 o15.2.2.1 o15.2.2.2.1 o15.2.2.2.2.1 o15.2.2.2.2.2.1 o15.2.2.2.2.2.2.1 o15.2.2.2.2.2.2.2.1 o15.2.2.2.2.2.2.2.2.1 o15.2.2.2.2.2.2.2.2.2.1 o15.2.2.2.2.2.2.2.2.2.2 gs
def fn_X7_append_11 (len : Int32) (sg : kF) : Option (Int32 × Int32 × Int32 × kF) :=
  some ((1 : Int32), (0 : Int32), len, sg)
def fn_X7_append (len : Int32) (sg : kF) (x1 : Int32) : Option (Int32 × Int32 × Int32 × kF) :=
  if x1 < 0 then fn_X7_append_11 len sg else if x1 ≤ (255 : Int32) then (fn_X0_isFull len).bind fun o25 => if o25 = 0 then (fn_X0_add len sg x1).bind fun o46 => some ((0 : Int32), o46.1, o46.2.1, o46.2.2) else some ((2 : Int32), (0 : Int32), len, sg) else fn_X7_append_11 len sg
def fn_X7_clearText (len : Int32) : Option (Int32 × Int32) :=
  (fn_X0_empty len).bind fun o4 => some (o4.1, o4.2)
def fn_X7_errorPosition (len : Int32) (sg : kF) : Option (Int32) :=
  (fn_X0_firstError len sg).bind fun o4 => some (o4)
def fn_X7_load (len : Int32) (sg : kF) (nsto : Int32) (ndro : Int32) (nfou : Int32) (ntold : Int32) (nwl : Int32) (nwr : Int32) (nle : kF) (nsh : kF) (nrolls : Int32) (nfrm : Int32) (ntk : kF) (nsr : kF) (nse : kF) (hsz : Int32) (lk : kF) : Option (Int32 × Int32 × Int32 × Int32 × Int32 × Int32 × Int32 × Int32 × kF × kF × Int32 × Int32 × kF × kF × kF × Int32 × kF) :=
  (fn_X0_firstError len sg).bind fun o4 => if o4 = (-1 : Int32) then (fn_X6_renew nsto ndro nfou ntold nle nsh nrolls nfrm nse).bind fun o25 => (fn_X1_forget hsz).bind fun o32 => (fn_X5_forget lk).bind fun o39 => (fn_X0_playOn len sg o25.1 o25.2.1 o25.2.2.1 o25.2.2.2.1 nwl nwr o25.2.2.2.2.1 o25.2.2.2.2.2.1 o25.2.2.2.2.2.2.1 o25.2.2.2.2.2.2.2.1 ntk nsr o25.2.2.2.2.2.2.2.2).bind fun o50 => some ((0 : Int32), o50.1, o50.2.1, o50.2.2.1, o50.2.2.2.1, o50.2.2.2.2.1, o50.2.2.2.2.2.1, o50.2.2.2.2.2.2.1, o50.2.2.2.2.2.2.2.1, o50.2.2.2.2.2.2.2.2.1, o50.2.2.2.2.2.2.2.2.2.1, o50.2.2.2.2.2.2.2.2.2.2.1, o50.2.2.2.2.2.2.2.2.2.2.2.1, o50.2.2.2.2.2.2.2.2.2.2.2.2, o25.2.2.2.2.2.2.2.2, o32, o39) else some ((2 : Int32), (0 : Int32), nsto, ndro, nfou, ntold, nwl, nwr, nle, nsh, nrolls, nfrm, ntk, nsr, nse, hsz, lk)
def fn_X7_about_180 (nsto : Int32) (ndro : Int32) (nfou : Int32) (ntold : Int32) (nle : kF) (nrolls : Int32) (nfrm : Int32) (ntk : kF) (nsr : kF) (k0 : Int32) : Option (Int32 × Int32) :=
  some ((0 : Int32), k0)
def fn_X7_about (nsto : Int32) (ndro : Int32) (nfou : Int32) (ntold : Int32) (nle : kF) (nrolls : Int32) (nfrm : Int32) (ntk : kF) (nsr : kF) (x1 : Int32) : Option (Int32 × Int32) :=
  if x1 = 0 then (fn_X4_frameNow nfrm).bind fun o63 => some ((0 : Int32), o63) else if x1 = 1 then (fn_X4_frameNow nfrm).bind fun o81 => (fn_X4_rollsIn nrolls nfrm nsr o81).bind fun o84 => some ((0 : Int32), o84) else if x1 = 2 then (fn_X4_rolls nrolls).bind fun o95 => some ((0 : Int32), o95) else if x1 = 3 then (fn_X4_allPoints nrolls nfrm ntk nsr).bind fun o106 => some ((0 : Int32), o106) else if x1 = 4 then some ((0 : Int32), nsto) else if x1 = 5 then some ((0 : Int32), ndro) else if x1 = 6 then some ((0 : Int32), nfou) else if x1 = 7 then (fn_X2_toldSet ntold).bind fun o141 => (fn_J6_bitCount_0f7a4 o141).bind fun o144 => some ((0 : Int32), o144) else if x1 = 8 then (fn_X2_upSet nle).bind fun o155 => (fn_J6_bitCount_0f7a4 o155).bind fun o158 => some ((0 : Int32), o158) else if x1 = 9 then (fn_X4_isOver nfrm).bind fun o169 => if o169 = 0 then fn_X7_about_180 nsto ndro nfou ntold nle nrolls nfrm ntk nsr (0 : Int32) else fn_X7_about_180 nsto ndro nfou ntold nle nrolls nfrm ntk nsr (1 : Int32) else some ((1 : Int32), (0 : Int32))
def fn_X7_pin (ntold : Int32) (nle : kF) (nsh : kF) (x1 : Int32) (x2 : Int32) : Option (Int32 × Int32) :=
  (fn_X7_isPin x1).bind fun o1 => if o1 = 0 then some ((3 : Int32), (0 : Int32)) else if x2 = 0 then (fn_X2_leaningOf nle x1).bind fun o56 => some ((0 : Int32), o56) else if x2 = 1 then (fn_X2_shiftOf nsh x1).bind fun o68 => some ((0 : Int32), o68) else if x2 = 2 then (fn_X2_boardOf nsh x1).bind fun o80 => some ((0 : Int32), o80) else if x2 = 3 then (fn_X2_toldSet ntold).bind fun o91 => some ((0 : Int32), ((o91 >>> (x1 &&& 31)) &&& (1 : Int32))) else some ((1 : Int32), (0 : Int32))
def fn_X7_isFrame_15 (k0 : Int32) : Option (Int32) :=
  if k0 = 0 ∨ k0 = 1 then some (k0) else none
def fn_X7_isFrame_14  : Option (Int32) :=
  fn_X7_isFrame_15 (0 : Int32)
def fn_X7_isFrame (x0 : Int32) : Option (Int32) :=
  if x0 < 0 then fn_X7_isFrame_14 else if (10 : Int32) ≤ x0 then fn_X7_isFrame_14 else fn_X7_isFrame_15 (1 : Int32)
def fn_X7_frame (nrolls : Int32) (nfrm : Int32) (ntk : kF) (nsr : kF) (x1 : Int32) (x2 : Int32) : Option (Int32 × Int32) :=
  (fn_X7_isFrame x1).bind fun o1 => if o1 = 0 then some ((3 : Int32), (0 : Int32)) else if x2 = 0 then (fn_X4_rollsIn nrolls nfrm nsr x1).bind fun o52 => some ((0 : Int32), o52) else if x2 = 1 then (fn_X4_pointsOf nrolls nfrm ntk nsr x1).bind fun o64 => some ((0 : Int32), o64) else if x2 = 2 then (fn_X4_markOf nrolls nfrm ntk nsr x1).bind fun o76 => some ((0 : Int32), o76) else some ((1 : Int32), (0 : Int32))
def fn_X7_taken_18 (nrolls : Int32) (ntk : kF) : Option (Int32 × Int32) :=
  some ((3 : Int32), (0 : Int32))
def fn_X7_taken (nrolls : Int32) (ntk : kF) (x1 : Int32) : Option (Int32 × Int32) :=
  if x1 < 0 then fn_X7_taken_18 nrolls ntk else (fn_X4_rolls nrolls).bind fun o12 => if x1 < o12 then (fn_X4_takenBy nrolls ntk x1).bind fun o36 => some ((0 : Int32), o36) else fn_X7_taken_18 nrolls ntk
def fn_X7_setting (nse : kF) (x1 : Int32) : Option (Int32 × Int32) :=
  (fn_X7_isSetting x1).bind fun o1 => if o1 = 0 then some ((1 : Int32), (0 : Int32)) else (fn_X6_settingAt nse x1).bind fun o22 => some ((0 : Int32), o22)
def fn_X7_begin (nsto : Int32) (ndro : Int32) (nfou : Int32) (ntold : Int32) (nle : kF) (nsh : kF) (nrolls : Int32) (nfrm : Int32) (ntk : kF) (nsr : kF) (nse : kF) (hsz : Int32) (hnx : Int32) (hs : Nat → kSt) : Option (Int32 × Int32 × kF × kF × Int32 × Int32 × Int32 × Int32 × (Nat → kSt)) :=
  (fn_X1_remember hsz hnx nsto ndro nfou ntold nle nsh nrolls nfrm ntk nsr nse hs).bind fun o8 => (fn_X6_beginGame ntold nle nsh nrolls nfrm ntk nsr).bind fun o15 => some (o15.1, o15.2.1, o15.2.2.1, o15.2.2.2.1, o15.2.2.2.2.1, o15.2.2.2.2.2, o8.1, o8.2.1, o8.2.2)
def fn_X7_roll_15 (nsto : Int32) (ndro : Int32) (nfou : Int32) (ntold : Int32) (nwl : Int32) (nwr : Int32) (nle : kF) (nsh : kF) (nrolls : Int32) (nfrm : Int32) (ntk : kF) (nsr : kF) (nse : kF) (hsz : Int32) (hnx : Int32) (hs : Nat → kSt) : Option (Int32 × Int32 × Int32 × Int32 × Int32 × Int32 × Int32 × Int32 × kF × kF × Int32 × Int32 × kF × kF × Int32 × Int32 × (Nat → kSt)) :=
  some ((1 : Int32), (0 : Int32), nsto, ndro, nfou, ntold, nwl, nwr, nle, nsh, nrolls, nfrm, ntk, nsr, hsz, hnx, hs)
def fn_X7_roll (nsto : Int32) (ndro : Int32) (nfou : Int32) (ntold : Int32) (nwl : Int32) (nwr : Int32) (nle : kF) (nsh : kF) (nrolls : Int32) (nfrm : Int32) (ntk : kF) (nsr : kF) (nse : kF) (hsz : Int32) (hnx : Int32) (hs : Nat → kSt) (x1 : Int32) (x2 : Int32) (x3 : Int32) (x4 : Int32) : Option (Int32 × Int32 × Int32 × Int32 × Int32 × Int32 × Int32 × Int32 × kF × kF × Int32 × Int32 × kF × kF × Int32 × Int32 × (Nat → kSt)) :=
  (fn_X7_isBall x1 x2).bind fun o2 => if o2 = 0 then fn_X7_roll_15 nsto ndro nfou ntold nwl nwr nle nsh nrolls nfrm ntk nsr nse hsz hnx hs else (fn_X7_isSpeed x3).bind fun o9 => if o9 = 0 then fn_X7_roll_15 nsto ndro nfou ntold nwl nwr nle nsh nrolls nfrm ntk nsr nse hsz hnx hs else (fn_X4_isOver nfrm).bind fun o32 => if o32 = 0 then (fn_X1_remember hsz hnx nsto ndro nfou ntold nle nsh nrolls nfrm ntk nsr nse hs).bind fun o56 => (fn_X6_bowl nsto ndro nfou ntold nwl nwr nle nsh nrolls nfrm ntk nsr nse x1 x2 x3 x4).bind fun o68 => some ((0 : Int32), o68.1, o68.2.1, o68.2.2.1, o68.2.2.2.1, o68.2.2.2.2.1, o68.2.2.2.2.2.1, o68.2.2.2.2.2.2.1, o68.2.2.2.2.2.2.2.1, o68.2.2.2.2.2.2.2.2.1, o68.2.2.2.2.2.2.2.2.2.1, o68.2.2.2.2.2.2.2.2.2.2.1, o68.2.2.2.2.2.2.2.2.2.2.2.1, o68.2.2.2.2.2.2.2.2.2.2.2.2, o56.1, o56.2.1, o56.2.2) else some ((2 : Int32), (0 : Int32), nsto, ndro, nfou, ntold, nwl, nwr, nle, nsh, nrolls, nfrm, ntk, nsr, hsz, hnx, hs)
def fn_X7_touch (nsto : Int32) (ndro : Int32) (nfou : Int32) (ntold : Int32) (nle : kF) (nsh : kF) (nrolls : Int32) (nfrm : Int32) (ntk : kF) (nsr : kF) (nse : kF) (hsz : Int32) (hnx : Int32) (hs : Nat → kSt) (x1 : Int32) (x2 : Int32) : Option (Int32 × Int32 × kF × Int32 × Int32 × (Nat → kSt)) :=
  (fn_X7_isPin x1).bind fun o1 => if o1 = 0 then some ((3 : Int32), (0 : Int32), nle, hsz, hnx, hs) else (fn_X7_isLeaning x2).bind fun o18 => if o18 = 0 then some ((1 : Int32), (0 : Int32), nle, hsz, hnx, hs) else (fn_X2_isUp nle x1).bind fun o42 => if o42 = 0 then some ((2 : Int32), (0 : Int32), nle, hsz, hnx, hs) else (fn_X1_remember hsz hnx nsto ndro nfou ntold nle nsh nrolls nfrm ntk nsr nse hs).bind fun o66 => (fn_X2_makeLean nle x1 x2).bind fun o78 => some ((0 : Int32), o78.1, o78.2, o66.1, o66.2.1, o66.2.2)
def fn_X7_set_15 (nsto : Int32) (ndro : Int32) (nfou : Int32) (ntold : Int32) (nle : kF) (nsh : kF) (nrolls : Int32) (nfrm : Int32) (ntk : kF) (nsr : kF) (nse : kF) (hsz : Int32) (hnx : Int32) (hs : Nat → kSt) : Option (Int32 × Int32 × kF × Int32 × Int32 × (Nat → kSt)) :=
  some ((1 : Int32), (0 : Int32), nse, hsz, hnx, hs)
def fn_X7_set (nsto : Int32) (ndro : Int32) (nfou : Int32) (ntold : Int32) (nle : kF) (nsh : kF) (nrolls : Int32) (nfrm : Int32) (ntk : kF) (nsr : kF) (nse : kF) (hsz : Int32) (hnx : Int32) (hs : Nat → kSt) (x1 : Int32) (x2 : Int32) : Option (Int32 × Int32 × kF × Int32 × Int32 × (Nat → kSt)) :=
  (fn_X7_isSetting x1).bind fun o1 => if o1 = 0 then fn_X7_set_15 nsto ndro nfou ntold nle nsh nrolls nfrm ntk nsr nse hsz hnx hs else (fn_X7_isValue x1 x2).bind fun o9 => if o9 = 0 then fn_X7_set_15 nsto ndro nfou ntold nle nsh nrolls nfrm ntk nsr nse hsz hnx hs else (fn_X1_remember hsz hnx nsto ndro nfou ntold nle nsh nrolls nfrm ntk nsr nse hs).bind fun o33 => (fn_X6_change nse x1 x2).bind fun o42 => some ((0 : Int32), o42.1, o42.2, o33.1, o33.2.1, o33.2.2)
def fn_X7_undo (nsto : Int32) (ndro : Int32) (nfou : Int32) (ntold : Int32) (nle : kF) (nsh : kF) (nrolls : Int32) (nfrm : Int32) (ntk : kF) (nsr : kF) (nse : kF) (hsz : Int32) (hnx : Int32) (hs : Nat → kSt) : Option (Int32 × Int32 × Int32 × Int32 × Int32 × Int32 × kF × kF × Int32 × Int32 × kF × kF × kF × Int32 × Int32) :=
  (fn_X1_isEmpty hsz).bind fun o4 => if o4 = 0 then (fn_X1_takeBack hsz hnx nsto ndro nfou ntold nle nsh nrolls nfrm ntk nsr nse hs).bind fun o28 => some ((0 : Int32), o28.1, o28.2.2.2.1, o28.2.2.2.2.1, o28.2.2.2.2.2.1, o28.2.2.2.2.2.2.1, o28.2.2.2.2.2.2.2.1, o28.2.2.2.2.2.2.2.2.1, o28.2.2.2.2.2.2.2.2.2.1, o28.2.2.2.2.2.2.2.2.2.2.1, o28.2.2.2.2.2.2.2.2.2.2.2.1, o28.2.2.2.2.2.2.2.2.2.2.2.2.1, o28.2.2.2.2.2.2.2.2.2.2.2.2.2, o28.2.1, o28.2.2.1) else some ((2 : Int32), (0 : Int32), nsto, ndro, nfou, ntold, nle, nsh, nrolls, nfrm, ntk, nsr, nse, hsz, hnx)
def fn_X7_takesOnTrial (ntold : Int32) (nle : kF) (nsh : kF) (nse : kF) (ttold : Int32) (twl : Int32) (twr : Int32) (tle : kF) (tsh : kF) (x1 : Int32) (x2 : Int32) : Option (Int32 × Int32 × Int32 × Int32 × kF × kF) :=
  (fn_X2_copyFrom ttold tle tsh ntold nle nsh).bind fun o14 => (fn_X2_meetBall twl twr o14.2.1 o14.2.2 x1 x2).bind fun o26 => (fn_X6_settingAt nse (1 : Int32)).bind fun o41 => (fn_X2_tell o14.1 o26.2.2.1 o41).bind fun o44 => some (o44.1, o44.2, o26.1, o26.2.1, o26.2.2.1, o26.2.2.2)
def fn_X7_would (ntold : Int32) (nle : kF) (nsh : kF) (nse : kF) (ttold : Int32) (twl : Int32) (twr : Int32) (tle : kF) (tsh : kF) (x1 : Int32) (x2 : Int32) (x3 : Int32) : Option (Int32 × Int32 × Int32 × Int32 × Int32 × kF × kF) :=
  (fn_X7_isBall x1 x2).bind fun o2 => if o2 = 0 then some ((1 : Int32), (0 : Int32), ttold, twl, twr, tle, tsh) else (fn_X7_takesOnTrial ntold nle nsh nse ttold twl twr tle tsh x1 x2).bind fun o21 => if x3 = 0 then (fn_X2_fellSet o21.2.2.1 o21.2.2.2.1).bind fun o63 => some ((0 : Int32), o63, o21.2.1, o21.2.2.1, o21.2.2.2.1, o21.2.2.2.2.1, o21.2.2.2.2.2) else if x3 = 1 then (fn_X2_leaningSet o21.2.2.2.2.1).bind fun o74 => some ((0 : Int32), o74, o21.2.1, o21.2.2.1, o21.2.2.2.1, o21.2.2.2.2.1, o21.2.2.2.2.2) else if x3 = 2 then (fn_J6_bitCount_0f7a4 o21.1).bind fun o80 => some ((0 : Int32), o80, o21.2.1, o21.2.2.1, o21.2.2.2.1, o21.2.2.2.2.1, o21.2.2.2.2.2) else if x3 = 3 then (fn_X2_upSet o21.2.2.2.2.1).bind fun o93 => (fn_J6_bitCount_0f7a4 (o21.1 &&& o93)).bind fun o97 => some ((0 : Int32), o97, o21.2.1, o21.2.2.1, o21.2.2.2.1, o21.2.2.2.2.1, o21.2.2.2.2.2) else some ((1 : Int32), (0 : Int32), o21.2.1, o21.2.2.1, o21.2.2.2.1, o21.2.2.2.2.1, o21.2.2.2.2.2)
def fn_X7_bestBoard_56 (q25 : Int32 → kF → kF → kF → Int32 → Int32 → Int32 → kF → kF → Int32 → Int32 → Int32 → Int32 → Option (Int32 × Int32 × Int32 × Int32 × Int32 × kF × kF)) (ntold : Int32) (nle : kF) (nsh : kF) (nse : kF) (ttold : Int32) (twl : Int32) (twr : Int32) (tle : kF) (tsh : kF) (x1 : Int32) (x2 : Int32) (x3 : Int32) (x4 : Int32) : Option (Int32 × Int32 × Int32 × Int32 × Int32 × kF × kF) :=
  q25 ntold nle nsh nse ttold twl twr tle tsh x1 x2 x3 (x4 + 1)
def fn_X7_bestBoard_25  : Nat → Int32 → kF → kF → kF → Int32 → Int32 → Int32 → kF → kF → Int32 → Int32 → Int32 → Int32 → Option (Int32 × Int32 × Int32 × Int32 × Int32 × kF × kF)
  | 0, _, _, _, _, _, _, _, _, _, _, _, _, _ => none
  | q + 1, ntold, nle, nsh, nse, ttold, twl, twr, tle, tsh, x1, x2, x3, x4 =>
    if (40 : Int32) < x4 then some ((0 : Int32), x2, ttold, twl, twr, tle, tsh) else (fn_X7_takesOnTrial ntold nle nsh nse ttold twl twr tle tsh x4 x1).bind fun o36 => (fn_J6_bitCount_0f7a4 o36.1).bind fun o39 => if o39 ≤ x3 then fn_X7_bestBoard_56 (fn_X7_bestBoard_25 q) ntold nle nsh nse o36.2.1 o36.2.2.1 o36.2.2.2.1 o36.2.2.2.2.1 o36.2.2.2.2.2 x1 x2 x3 x4 else fn_X7_bestBoard_56 (fn_X7_bestBoard_25 q) ntold nle nsh nse o36.2.1 o36.2.2.1 o36.2.2.2.1 o36.2.2.2.2.1 o36.2.2.2.2.2 x1 x4 o39 x4
def fn_X7_bestBoard (ntold : Int32) (nle : kF) (nsh : kF) (nse : kF) (ttold : Int32) (twl : Int32) (twr : Int32) (tle : kF) (tsh : kF) (x1 : Int32) : Option (Int32 × Int32 × Int32 × Int32 × Int32 × kF × kF) :=
  (fn_X7_isBall (0 : Int32) x1).bind fun o2 => if o2 = 0 then some ((1 : Int32), (0 : Int32), ttold, twl, twr, tle, tsh) else fn_X7_bestBoard_25 4096 ntold nle nsh nse ttold twl twr tle tsh x1 (0 : Int32) (-1 : Int32) (0 : Int32)
def fn_X7_slowest_25 (nse : kF) (x1 : Int32) : Option (Int32) :=
  some (x1)
def fn_X7_slowest_2  : Nat → kF → Int32 → Option (Int32)
  | 0, _, _ => none
  | q + 1, nse, x1 =>
    if (30 : Int32) ≤ x1 then fn_X7_slowest_25 nse x1 else (fn_X6_stops nse x1).bind fun o13 => if o13 = 0 then fn_X7_slowest_25 nse x1 else fn_X7_slowest_2 q nse (x1 + 1)
def fn_X7_slowest (nse : kF) : Option (Int32) :=
  fn_X7_slowest_2 4096 nse (1 : Int32)
def fn_X7_goesOn_69 (nsto : Int32) (ndro : Int32) (nfou : Int32) (ntold : Int32) (nle : kF) (nsh : kF) (nrolls : Int32) (nfrm : Int32) (ntk : kF) (nsr : kF) (nse : kF) (tsto : Int32) (tdro : Int32) (tfou : Int32) (ttold : Int32) (twl : Int32) (twr : Int32) (tle : kF) (tsh : kF) (trolls : Int32) (tfrm : Int32) (ttk : kF) (tsr : kF) (tse : kF) : Option (Int32 × Int32 × Int32 × Int32 × Int32 × Int32 × Int32 × Int32 × kF × kF × Int32 × Int32 × kF × kF × kF) :=
  (fn_X4_allPoints trolls tfrm ttk tsr).bind fun o76 => some ((0 : Int32), o76, tsto, tdro, tfou, ttold, twl, twr, tle, tsh, trolls, tfrm, ttk, tsr, tse)
def fn_X7_goesOn_31  : Nat → Int32 → Int32 → Int32 → Int32 → kF → kF → Int32 → Int32 → kF → kF → kF → Int32 → Int32 → Int32 → Int32 → Int32 → Int32 → kF → kF → Int32 → Int32 → kF → kF → kF → Int32 → Int32 → Int32 → Option (Int32 × Int32 × Int32 × Int32 × Int32 × Int32 × Int32 × Int32 × kF × kF × Int32 × Int32 × kF × kF × kF)
  | 0, _, _, _, _, _, _, _, _, _, _, _, _, _, _, _, _, _, _, _, _, _, _, _, _, _, _, _ => none
  | q + 1, nsto, ndro, nfou, ntold, nle, nsh, nrolls, nfrm, ntk, nsr, nse, tsto, tdro, tfou, ttold, twl, twr, tle, tsh, trolls, tfrm, ttk, tsr, tse, x1, x2, x3 =>
    if (21 : Int32) ≤ x3 then fn_X7_goesOn_69 nsto ndro nfou ntold nle nsh nrolls nfrm ntk nsr nse tsto tdro tfou ttold twl twr tle tsh trolls tfrm ttk tsr tse else (fn_X4_isOver tfrm).bind fun o44 => if o44 = 0 then (fn_X6_bowl tsto tdro tfou ttold twl twr tle tsh trolls tfrm ttk tsr tse x1 x2 (30 : Int32) (0 : Int32)).bind fun o59 => fn_X7_goesOn_31 q nsto ndro nfou ntold nle nsh nrolls nfrm ntk nsr nse o59.2.1 o59.2.2.1 o59.2.2.2.1 o59.2.2.2.2.1 o59.2.2.2.2.2.1 o59.2.2.2.2.2.2.1 o59.2.2.2.2.2.2.2.1 o59.2.2.2.2.2.2.2.2.1 o59.2.2.2.2.2.2.2.2.2.1 o59.2.2.2.2.2.2.2.2.2.2.1 o59.2.2.2.2.2.2.2.2.2.2.2.1 o59.2.2.2.2.2.2.2.2.2.2.2.2 tse x1 x2 (x3 + 1) else fn_X7_goesOn_69 nsto ndro nfou ntold nle nsh nrolls nfrm ntk nsr nse tsto tdro tfou ttold twl twr tle tsh trolls tfrm ttk tsr tse
def fn_X7_goesOn (nsto : Int32) (ndro : Int32) (nfou : Int32) (ntold : Int32) (nle : kF) (nsh : kF) (nrolls : Int32) (nfrm : Int32) (ntk : kF) (nsr : kF) (nse : kF) (tsto : Int32) (tdro : Int32) (tfou : Int32) (ttold : Int32) (twl : Int32) (twr : Int32) (tle : kF) (tsh : kF) (trolls : Int32) (tfrm : Int32) (ttk : kF) (tsr : kF) (tse : kF) (x1 : Int32) (x2 : Int32) : Option (Int32 × Int32 × Int32 × Int32 × Int32 × Int32 × Int32 × Int32 × kF × kF × Int32 × Int32 × kF × kF × kF) :=
  (fn_X7_isBall x1 x2).bind fun o2 => if o2 = 0 then some ((1 : Int32), (0 : Int32), tsto, tdro, tfou, ttold, twl, twr, tle, tsh, trolls, tfrm, ttk, tsr, tse) else (fn_X6_copyFrom tsto tdro tfou ttold tle tsh trolls tfrm ttk tsr tse nsto ndro nfou ntold nle nsh nrolls nfrm ntk nsr nse).bind fun o26 => fn_X7_goesOn_31 4096 nsto ndro nfou ntold nle nsh nrolls nfrm ntk nsr nse o26.1 o26.2.1 o26.2.2.1 o26.2.2.2.1 twl twr o26.2.2.2.2.1 o26.2.2.2.2.2.1 o26.2.2.2.2.2.2.1 o26.2.2.2.2.2.2.2.1 o26.2.2.2.2.2.2.2.2.1 o26.2.2.2.2.2.2.2.2.2.1 o26.2.2.2.2.2.2.2.2.2.2 x1 x2 (0 : Int32)
def fn_X7_drops (ntold : Int32) (nle : kF) (nse : kF) : Option (Int32) :=
  (fn_X6_settingAt nse (2 : Int32)).bind fun o12 => (fn_X2_dropSet ntold nle o12).bind fun o15 => some (o15)
def fn_X7_runScript_10 (nsto : Int32) (ndro : Int32) (nfou : Int32) (ntold : Int32) (nle : kF) (nsh : kF) (nrolls : Int32) (nfrm : Int32) (ntk : kF) (nsr : kF) (nse : kF) (tsto : Int32) (tdro : Int32) (tfou : Int32) (ttold : Int32) (twl : Int32) (twr : Int32) (tle : kF) (tsh : kF) (trolls : Int32) (tfrm : Int32) (ttk : kF) (tsr : kF) (tse : kF) : Option (Int32 × Int32 × Int32 × Int32 × Int32 × Int32 × Int32 × Int32 × kF × kF × Int32 × Int32 × kF × kF × kF) :=
  some ((1 : Int32), (0 : Int32), tsto, tdro, tfou, ttold, twl, twr, tle, tsh, trolls, tfrm, ttk, tsr, tse)
def fn_X7_runScript_36 (nsto : Int32) (ndro : Int32) (nfou : Int32) (ntold : Int32) (nle : kF) (nsh : kF) (nrolls : Int32) (nfrm : Int32) (ntk : kF) (nsr : kF) (nse : kF) (tsto : Int32) (tdro : Int32) (tfou : Int32) (ttold : Int32) (twl : Int32) (twr : Int32) (tle : kF) (tsh : kF) (trolls : Int32) (tfrm : Int32) (ttk : kF) (tsr : kF) (tse : kF) : Option (Int32 × Int32 × Int32 × Int32 × Int32 × Int32 × Int32 × Int32 × kF × kF × Int32 × Int32 × kF × kF × kF) :=
  some ((1 : Int32), (0 : Int32), tsto, tdro, tfou, ttold, twl, twr, tle, tsh, trolls, tfrm, ttk, tsr, tse)
def fn_X7_runScript_61  : Nat → Int32 → Int32 → Int32 → Int32 → kF → kF → Int32 → Int32 → kF → kF → kF → Int32 → Int32 → Int32 → Int32 → Int32 → Int32 → kF → kF → Int32 → Int32 → kF → kF → kF → Int32 → Int64 → Int32 → Option (Int32 × Int32 × Int32 × Int32 × Int32 × Int32 × Int32 × Int32 × kF × kF × Int32 × Int32 × kF × kF × kF)
  | 0, _, _, _, _, _, _, _, _, _, _, _, _, _, _, _, _, _, _, _, _, _, _, _, _, _, _, _ => none
  | q + 1, nsto, ndro, nfou, ntold, nle, nsh, nrolls, nfrm, ntk, nsr, nse, tsto, tdro, tfou, ttold, twl, twr, tle, tsh, trolls, tfrm, ttk, tsr, tse, x1, x2, x4 =>
    if x1 ≤ x4 then some ((0 : Int32), (-1 : Int32), tsto, tdro, tfou, ttold, twl, twr, tle, tsh, trolls, tfrm, ttk, tsr, tse) else (fn_X3_unitOf ((x1 - (1 : Int32)) - x4)).bind fun o74 => if o74 = 0 then none else (fn_X3_succeeds tsto tdro tfou ttold twl twr tle tsh trolls tfrm ttk tsr tse ((((x2 / o74) - (x2 / o74) / (100000 : Int64) * (100000 : Int64))).toInt32)).bind fun o91 => if o91.1 = 0 then some ((0 : Int32), x4, o91.2.1, o91.2.2.1, o91.2.2.2.1, o91.2.2.2.2.1, o91.2.2.2.2.2.1, o91.2.2.2.2.2.2.1, o91.2.2.2.2.2.2.2.1, o91.2.2.2.2.2.2.2.2.1, o91.2.2.2.2.2.2.2.2.2.1, o91.2.2.2.2.2.2.2.2.2.2.1, o91.2.2.2.2.2.2.2.2.2.2.2.1, o91.2.2.2.2.2.2.2.2.2.2.2.2.1, o91.2.2.2.2.2.2.2.2.2.2.2.2.2) else fn_X7_runScript_61 q nsto ndro nfou ntold nle nsh nrolls nfrm ntk nsr nse o91.2.1 o91.2.2.1 o91.2.2.2.1 o91.2.2.2.2.1 o91.2.2.2.2.2.1 o91.2.2.2.2.2.2.1 o91.2.2.2.2.2.2.2.1 o91.2.2.2.2.2.2.2.2.1 o91.2.2.2.2.2.2.2.2.2.1 o91.2.2.2.2.2.2.2.2.2.2.1 o91.2.2.2.2.2.2.2.2.2.2.2.1 o91.2.2.2.2.2.2.2.2.2.2.2.2.1 o91.2.2.2.2.2.2.2.2.2.2.2.2.2 x1 x2 (x4 + 1)
def fn_X7_runScript (nsto : Int32) (ndro : Int32) (nfou : Int32) (ntold : Int32) (nle : kF) (nsh : kF) (nrolls : Int32) (nfrm : Int32) (ntk : kF) (nsr : kF) (nse : kF) (tsto : Int32) (tdro : Int32) (tfou : Int32) (ttold : Int32) (twl : Int32) (twr : Int32) (tle : kF) (tsh : kF) (trolls : Int32) (tfrm : Int32) (ttk : kF) (tsr : kF) (tse : kF) (x1 : Int32) (x2 : Int64) : Option (Int32 × Int32 × Int32 × Int32 × Int32 × Int32 × Int32 × Int32 × kF × kF × Int32 × Int32 × kF × kF × kF) :=
  if x1 < (1 : Int32) then fn_X7_runScript_10 nsto ndro nfou ntold nle nsh nrolls nfrm ntk nsr nse tsto tdro tfou ttold twl twr tle tsh trolls tfrm ttk tsr tse else if x1 ≤ (3 : Int32) then if (lg_cmp x2 (0 : Int64)) < 0 then fn_X7_runScript_36 nsto ndro nfou ntold nle nsh nrolls nfrm ntk nsr nse tsto tdro tfou ttold twl twr tle tsh trolls tfrm ttk tsr tse else (fn_X3_unitOf x1).bind fun o29 => if (lg_cmp x2 o29) < 0 then (fn_X6_copyFrom tsto tdro tfou ttold tle tsh trolls tfrm ttk tsr tse nsto ndro nfou ntold nle nsh nrolls nfrm ntk nsr nse).bind fun o55 => fn_X7_runScript_61 4096 nsto ndro nfou ntold nle nsh nrolls nfrm ntk nsr nse o55.1 o55.2.1 o55.2.2.1 o55.2.2.2.1 twl twr o55.2.2.2.2.1 o55.2.2.2.2.2.1 o55.2.2.2.2.2.2.1 o55.2.2.2.2.2.2.2.1 o55.2.2.2.2.2.2.2.2.1 o55.2.2.2.2.2.2.2.2.2.1 o55.2.2.2.2.2.2.2.2.2.2 x1 x2 (0 : Int32) else fn_X7_runScript_36 nsto ndro nfou ntold nle nsh nrolls nfrm ntk nsr nse tsto tdro tfou ttold twl twr tle tsh trolls tfrm ttk tsr tse else fn_X7_runScript_10 nsto ndro nfou ntold nle nsh nrolls nfrm ntk nsr nse tsto tdro tfou ttold twl twr tle tsh trolls tfrm ttk tsr tse
def fn_X7_takeTurn_127 (tsto : Int32) (tdro : Int32) (tfou : Int32) (ttold : Int32) (twl : Int32) (twr : Int32) (tle : kF) (tsh : kF) (trolls : Int32) (tfrm : Int32) (ttk : kF) (tsr : kF) (tse : kF) : Option (Int32 × Int32 × Int32 × Int32 × Int32 × Int32 × kF × kF × Int32 × Int32 × kF × kF × kF) :=
  some (tsto, tdro, tfou, ttold, twl, twr, tle, tsh, trolls, tfrm, ttk, tsr, tse)
def fn_X7_takeTurn_123 (tsto : Int32) (tdro : Int32) (tfou : Int32) (ttold : Int32) (twl : Int32) (twr : Int32) (tle : kF) (tsh : kF) (trolls : Int32) (tfrm : Int32) (ttk : kF) (tsr : kF) (tse : kF) (k1 : Int32) (k2 : Int32) (k3 : Int32) (k4 : Int32) : Option (Int32 × Int32 × Int32 × Int32 × Int32 × Int32 × kF × kF × Int32 × Int32 × kF × kF × kF) :=
  (fn_X6_tryRoll tsto tdro tfou ttold twl twr tle tsh trolls tfrm ttk tsr tse k1 k2 k3 k4).bind fun o123 => fn_X7_takeTurn_127 o123.2.1 o123.2.2.1 o123.2.2.2.1 o123.2.2.2.2.1 o123.2.2.2.2.2.1 o123.2.2.2.2.2.2.1 o123.2.2.2.2.2.2.2.1 o123.2.2.2.2.2.2.2.2.1 o123.2.2.2.2.2.2.2.2.2.1 o123.2.2.2.2.2.2.2.2.2.2.1 o123.2.2.2.2.2.2.2.2.2.2.2.1 o123.2.2.2.2.2.2.2.2.2.2.2.2 tse
def fn_X7_takeTurn (tsto : Int32) (tdro : Int32) (tfou : Int32) (ttold : Int32) (twl : Int32) (twr : Int32) (tle : kF) (tsh : kF) (trolls : Int32) (tfrm : Int32) (ttk : kF) (tsr : kF) (tse : kF) (x1 : Int32) : Option (Int32 × Int32 × Int32 × Int32 × Int32 × Int32 × kF × kF × Int32 × Int32 × kF × kF × kF) :=
  if (x1 - x1 / (8 : Int32) * (8 : Int32)) = 0 then (fn_X6_tryTouch tle ((x1 / (8 : Int32)) - (x1 / (8 : Int32)) / (10 : Int32) * (10 : Int32)) (((x1 / (8 : Int32)) / (16 : Int32)) - ((x1 / (8 : Int32)) / (16 : Int32)) / (4 : Int32) * (4 : Int32))).bind fun o50 => fn_X7_takeTurn_127 tsto tdro tfou ttold twl twr o50.2 tsh trolls tfrm ttk tsr tse else if (x1 - x1 / (8 : Int32) * (8 : Int32)) = 1 then (fn_X6_trySet tse ((1 : Int32) + ((x1 / (8 : Int32)) - (x1 / (8 : Int32)) / (2 : Int32) * (2 : Int32))) (((x1 / (8 : Int32)) / (2 : Int32)) - ((x1 / (8 : Int32)) / (2 : Int32)) / (4 : Int32) * (4 : Int32))).bind fun o71 => fn_X7_takeTurn_127 tsto tdro tfou ttold twl twr tle tsh trolls tfrm ttk tsr o71.2 else if (((x1 / (8 : Int32)) / (8192 : Int32)) - ((x1 / (8 : Int32)) / (8192 : Int32)) / (16 : Int32) * (16 : Int32)) = 0 then fn_X7_takeTurn_123 tsto tdro tfou ttold twl twr tle tsh trolls tfrm ttk tsr tse ((10 : Int32) + ((x1 / (8 : Int32)) - (x1 / (8 : Int32)) / (21 : Int32) * (21 : Int32))) ((((x1 / (8 : Int32)) / (32 : Int32)) - ((x1 / (8 : Int32)) / (32 : Int32)) / (5 : Int32) * (5 : Int32)) - (2 : Int32)) ((1 : Int32) + (((x1 / (8 : Int32)) / (256 : Int32)) - ((x1 / (8 : Int32)) / (256 : Int32)) / (30 : Int32) * (30 : Int32))) (1 : Int32) else fn_X7_takeTurn_123 tsto tdro tfou ttold twl twr tle tsh trolls tfrm ttk tsr tse ((10 : Int32) + ((x1 / (8 : Int32)) - (x1 / (8 : Int32)) / (21 : Int32) * (21 : Int32))) ((((x1 / (8 : Int32)) / (32 : Int32)) - ((x1 / (8 : Int32)) / (32 : Int32)) / (5 : Int32) * (5 : Int32)) - (2 : Int32)) ((1 : Int32) + (((x1 / (8 : Int32)) / (256 : Int32)) - ((x1 / (8 : Int32)) / (256 : Int32)) / (30 : Int32) * (30 : Int32))) (0 : Int32)
def fn_X7_simulate_11 (nsto : Int32) (ndro : Int32) (nfou : Int32) (ntold : Int32) (nle : kF) (nsh : kF) (nrolls : Int32) (nfrm : Int32) (ntk : kF) (nsr : kF) (nse : kF) (tsto : Int32) (tdro : Int32) (tfou : Int32) (ttold : Int32) (twl : Int32) (twr : Int32) (tle : kF) (tsh : kF) (trolls : Int32) (tfrm : Int32) (ttk : kF) (tsr : kF) (tse : kF) : Option (Int32 × Int32 × Int32 × Int32 × Int32 × Int32 × Int32 × Int32 × kF × kF × Int32 × Int32 × kF × kF × kF) :=
  some ((1 : Int32), (0 : Int32), tsto, tdro, tfou, ttold, twl, twr, tle, tsh, trolls, tfrm, ttk, tsr, tse)
def fn_X7_simulate_39  : Nat → Int32 → Int32 → Int32 → Int32 → kF → kF → Int32 → Int32 → kF → kF → kF → Int32 → Int32 → Int32 → Int32 → Int32 → Int32 → kF → kF → Int32 → Int32 → kF → kF → kF → Int32 → Int64 → Int32 → Option (Int32 × Int32 × Int32 × Int32 × Int32 × Int32 × Int32 × Int32 × kF × kF × Int32 × Int32 × kF × kF × kF)
  | 0, _, _, _, _, _, _, _, _, _, _, _, _, _, _, _, _, _, _, _, _, _, _, _, _, _, _, _ => none
  | q + 1, nsto, ndro, nfou, ntold, nle, nsh, nrolls, nfrm, ntk, nsr, nse, tsto, tdro, tfou, ttold, twl, twr, tle, tsh, trolls, tfrm, ttk, tsr, tse, x3, x4, x6 =>
    if x3 ≤ x6 then (fn_X4_rolls trolls).bind fun o83 => (fn_X4_allPoints trolls tfrm ttk tsr).bind fun o94 => some ((0 : Int32), (((1000 : Int32) * o83) + o94), tsto, tdro, tfou, ttold, twl, twr, tle, tsh, trolls, tfrm, ttk, tsr, tse) else (fn_X7_takeTurn tsto tdro tfou ttold twl twr tle tsh trolls tfrm ttk tsr tse (((((((x4 * (6364136223846793005 : Int64)) + (1442695040888963407 : Int64))).toUInt64 >>> (((33 : Int32)).toInt64.toUInt64 &&& Int64.toUInt64 63)).toInt64)).toInt32)).bind fun o64 => fn_X7_simulate_39 q nsto ndro nfou ntold nle nsh nrolls nfrm ntk nsr nse o64.1 o64.2.1 o64.2.2.1 o64.2.2.2.1 o64.2.2.2.2.1 o64.2.2.2.2.2.1 o64.2.2.2.2.2.2.1 o64.2.2.2.2.2.2.2.1 o64.2.2.2.2.2.2.2.2.1 o64.2.2.2.2.2.2.2.2.2.1 o64.2.2.2.2.2.2.2.2.2.2.1 o64.2.2.2.2.2.2.2.2.2.2.2.1 o64.2.2.2.2.2.2.2.2.2.2.2.2 x3 ((x4 * (6364136223846793005 : Int64)) + (1442695040888963407 : Int64)) (x6 + 1)
def fn_X7_simulate (nsto : Int32) (ndro : Int32) (nfou : Int32) (ntold : Int32) (nle : kF) (nsh : kF) (nrolls : Int32) (nfrm : Int32) (ntk : kF) (nsr : kF) (nse : kF) (tsto : Int32) (tdro : Int32) (tfou : Int32) (ttold : Int32) (twl : Int32) (twr : Int32) (tle : kF) (tsh : kF) (trolls : Int32) (tfrm : Int32) (ttk : kF) (tsr : kF) (tse : kF) (x1 : Int64) (x3 : Int32) : Option (Int32 × Int32 × Int32 × Int32 × Int32 × Int32 × Int32 × Int32 × kF × kF × Int32 × Int32 × kF × kF × kF) :=
  if x3 < (1 : Int32) then fn_X7_simulate_11 nsto ndro nfou ntold nle nsh nrolls nfrm ntk nsr nse tsto tdro tfou ttold twl twr tle tsh trolls tfrm ttk tsr tse else if x3 ≤ (60 : Int32) then (fn_X6_copyFrom tsto tdro tfou ttold tle tsh trolls tfrm ttk tsr tse nsto ndro nfou ntold nle nsh nrolls nfrm ntk nsr nse).bind fun o30 => fn_X7_simulate_39 4096 nsto ndro nfou ntold nle nsh nrolls nfrm ntk nsr nse o30.1 o30.2.1 o30.2.2.1 o30.2.2.2.1 twl twr o30.2.2.2.2.1 o30.2.2.2.2.2.1 o30.2.2.2.2.2.2.1 o30.2.2.2.2.2.2.2.1 o30.2.2.2.2.2.2.2.2.1 o30.2.2.2.2.2.2.2.2.2.1 o30.2.2.2.2.2.2.2.2.2.2 x3 x1 (0 : Int32) else fn_X7_simulate_11 nsto ndro nfou ntold nle nsh nrolls nfrm ntk nsr nse tsto tdro tfou ttold twl twr tle tsh trolls tfrm ttk tsr tse
def fn_X7_save (nsto : Int32) (ndro : Int32) (nfou : Int32) (ntold : Int32) (nle : kF) (nsh : kF) (nrolls : Int32) (nfrm : Int32) (ntk : kF) (nsr : kF) (nse : kF) (lk : kF) (gs : Nat → kSt) (x1 : Int32) : Option (Int32 × Int32 × kF × (Nat → kSt)) :=
  (fn_X7_isSlot x1).bind fun o1 => if o1 = 0 then some ((3 : Int32), (0 : Int32), lk, gs) else (fn_X5_keep lk nsto ndro nfou ntold nle nsh nrolls nfrm ntk nsr nse gs x1).bind fun o27 => (fn_X4_rolls nrolls).bind fun o37 => some ((0 : Int32), o37, o27.1, o27.2)
def fn_X7_restore (nsto : Int32) (ndro : Int32) (nfou : Int32) (ntold : Int32) (nle : kF) (nsh : kF) (nrolls : Int32) (nfrm : Int32) (ntk : kF) (nsr : kF) (nse : kF) (hsz : Int32) (lk : kF) (gs : Nat → kSt) (x1 : Int32) : Option (Int32 × Int32 × Int32 × Int32 × Int32 × Int32 × kF × kF × Int32 × Int32 × kF × kF × kF × Int32) :=
  (fn_X7_isSlot x1).bind fun o1 => if o1 = 0 then some ((3 : Int32), (0 : Int32), nsto, ndro, nfou, ntold, nle, nsh, nrolls, nfrm, ntk, nsr, nse, hsz) else (fn_X5_isKept lk x1).bind fun o23 => if o23 = 0 then some ((2 : Int32), (0 : Int32), nsto, ndro, nfou, ntold, nle, nsh, nrolls, nfrm, ntk, nsr, nse, hsz) else (fn_X5_giveBack lk nsto ndro nfou ntold nle nsh nrolls nfrm ntk nsr nse gs x1).bind fun o49 => (fn_X1_forget hsz).bind fun o56 => (fn_X4_rolls o49.2.2.2.2.2.2.1).bind fun o66 => some ((0 : Int32), o66, o49.1, o49.2.1, o49.2.2.1, o49.2.2.2.1, o49.2.2.2.2.1, o49.2.2.2.2.2.1, o49.2.2.2.2.2.2.1, o49.2.2.2.2.2.2.2.1, o49.2.2.2.2.2.2.2.2.1, o49.2.2.2.2.2.2.2.2.2.1, o49.2.2.2.2.2.2.2.2.2.2, o56)
def fn_X8_thrown (mref : Int32) : Option (Int32) :=
  some (mref)
def fn_X8_refused_14 (mref : Int32) (k0 : Int32) : Option (Int32 × Int32) :=
  if k0 = 0 ∨ k0 = 1 then some (k0, mref) else none
def fn_X8_refused (mref : Int32) (x1 : Int32) : Option (Int32 × Int32) :=
  if x1 ≤ 0 then fn_X8_refused_14 x1 (0 : Int32) else fn_X8_refused_14 x1 (1 : Int32)
def fn_X8_in_18 (k0 : Int32) : Option (Int32) :=
  if k0 = 0 ∨ k0 = 1 then some (k0) else none
def fn_X8_in_17  : Option (Int32) :=
  fn_X8_in_18 (0 : Int32)
def fn_X8_in (x0 : Int64) (x2 : Int64) (x4 : Int64) : Option (Int32) :=
  if (lg_cmp x0 x2) < 0 then fn_X8_in_17 else if 0 < (lg_cmp x0 x4) then fn_X8_in_17 else fn_X8_in_18 (1 : Int32)
def fn_X8_copyState_3 (nf ng : Nat)  : Nat → kF → kF → Int32 → Int32 → Int32 → Option (kF)
  | 0, _, _, _, _, _ => none
  | q + 1, f, g, x1, x3, x4 =>
    if (79 : Int32) ≤ x4 then some (g) else if (x1 + x4) < 0 ∨ nf ≤ (x1 + x4).toNatClampNeg then none else if (x3 + x4) < 0 ∨ ng ≤ (x3 + x4).toNatClampNeg then none else fn_X8_copyState_3 nf ng q f (upd g ((x3 + x4).toNatClampNeg) (f ((x1 + x4).toNatClampNeg))) x1 x3 (x4 + 1)
def fn_X8_copyState (nf ng : Nat) (f : kF) (g : kF) (x1 : Int32) (x3 : Int32) : Option (kF) :=
  fn_X8_copyState_3 nf ng 4096 f g x1 x3 (0 : Int32)
def fn_X8_rack_28 (q2 : kF → Int32 → Option (kF)) (r : kF) (x1 : Int32) : Option (kF) :=
  q2 r (x1 + 1)
def fn_X8_rack_2  : Nat → kF → Int32 → Option (kF)
  | 0, _, _ => none
  | q + 1, r, x1 =>
    if (10 : Int32) ≤ x1 then some (r) else if ((0 : Int32) + x1) < 0 ∨ 79 ≤ ((0 : Int32) + x1).toNatClampNeg then none else if ((10 : Int32) + x1) < 0 ∨ 79 ≤ ((10 : Int32) + x1).toNatClampNeg then none else if ((20 : Int32) + x1) < 0 ∨ 79 ≤ ((20 : Int32) + x1).toNatClampNeg then none else fn_X8_rack_28 (fn_X8_rack_2 q) (upd (upd (upd r (((0 : Int32) + x1).toNatClampNeg) (0 : Int32)) (((10 : Int32) + x1).toNatClampNeg) (0 : Int32)) (((20 : Int32) + x1).toNatClampNeg) (1 : Int32)) x1
def fn_X8_rack (r : kF) : Option (kF) :=
  fn_X8_rack_2 4096 r (0 : Int32)
def fn_X8_clear_2  : Nat → kF → Int32 → Option (kF)
  | 0, _, _ => none
  | q + 1, r, x1 =>
    if (79 : Int32) ≤ x1 then (fn_X8_rack (upd (upd (upd r 76 (18 : Int32)) 77 (2 : Int32)) 78 (1 : Int32))).bind fun o35 => some (o35) else if x1 < 0 ∨ 79 ≤ x1.toNatClampNeg then none else fn_X8_clear_2 q (upd r (x1.toNatClampNeg) (0 : Int32)) (x1 + 1)
def fn_X8_clear (r : kF) : Option (kF) :=
  fn_X8_clear_2 4096 r (0 : Int32)
def fn_X8_isPin (x0 : Int32) : Option (Int32) :=
  (fn_X8_in ((x0).toInt64) (0 : Int64) (9 : Int64)).bind fun o6 => if o6 = 0 ∨ o6 = 1 then some (o6) else none
def fn_X8_isBall_31 (k0 : Int32) : Option (Int32) :=
  if k0 = 0 ∨ k0 = 1 then some (k0) else none
def fn_X8_isBall_30  : Option (Int32) :=
  fn_X8_isBall_31 (0 : Int32)
def fn_X8_isBall (x0 : Int32) (x1 : Int32) : Option (Int32) :=
  (fn_X8_in ((x0).toInt64) (0 : Int64) (40 : Int64)).bind fun o6 => if o6 = 0 then fn_X8_isBall_30 else (fn_X8_in ((x1).toInt64) (-2 : Int64) (2 : Int64)).bind fun o20 => if o20 = 0 then fn_X8_isBall_30 else fn_X8_isBall_31 (1 : Int32)
def fn_X8_firstOf (x0 : Int32) : Option (Int32) :=
  some (((x0 * (x0 + (1 : Int32))) / (2 : Int32)))
def fn_X8_rowOf_28 (k0 : Int32) : Option (Int32) :=
  some (k0)
def fn_X8_rowOf (x0 : Int32) : Option (Int32) :=
  if x0 = 0 then fn_X8_rowOf_28 (0 : Int32) else if (3 : Int32) ≤ x0 then if (6 : Int32) ≤ x0 then fn_X8_rowOf_28 (3 : Int32) else fn_X8_rowOf_28 (2 : Int32) else fn_X8_rowOf_28 (1 : Int32)
def fn_X8_boardOf (r : kF) (x1 : Int32) : Option (Int32) :=
  (fn_X8_rowOf x1).bind fun o1 => (fn_X8_firstOf o1).bind fun o15 => if ((10 : Int32) + x1) < 0 ∨ 79 ≤ ((10 : Int32) + x1).toNatClampNeg then none else some (((((20 : Int32) - ((3 : Int32) * o1)) + ((6 : Int32) * (x1 - o15))) + (r (((10 : Int32) + x1).toNatClampNeg))))
def fn_X8_toldOf_4  : Nat → kF → Int32 → Int32 → Option (Int32)
  | 0, _, _, _ => none
  | q + 1, r, x1, x2 =>
    if (10 : Int32) ≤ x2 then some (x1) else if ((20 : Int32) + x2) < 0 ∨ 79 ≤ ((20 : Int32) + x2).toNatClampNeg then none else fn_X8_toldOf_4 q r (x1 + (r (((20 : Int32) + x2).toNatClampNeg))) (x2 + 1)
def fn_X8_toldOf (r : kF) : Option (Int32) :=
  fn_X8_toldOf_4 4096 r (0 : Int32) (0 : Int32)
def fn_X8_standing_25 (q4 : kF → Int32 → Int32 → Option (Int32)) (r : kF) (x2 : Int32) (k0 : Int32) (k1 : Int32) : Option (Int32) :=
  q4 r (k0 + k1) (x2 + 1)
def fn_X8_standing_4  : Nat → kF → Int32 → Int32 → Option (Int32)
  | 0, _, _, _ => none
  | q + 1, r, x1, x2 =>
    if (10 : Int32) ≤ x2 then some (x1) else if ((0 : Int32) + x2) < 0 ∨ 79 ≤ ((0 : Int32) + x2).toNatClampNeg then none else if (r (((0 : Int32) + x2).toNatClampNeg)) = (4 : Int32) then fn_X8_standing_25 (fn_X8_standing_4 q) r x2 x1 (0 : Int32) else fn_X8_standing_25 (fn_X8_standing_4 q) r x2 x1 (1 : Int32)
def fn_X8_standing (r : kF) : Option (Int32) :=
  fn_X8_standing_4 4096 r (0 : Int32) (0 : Int32)
def fn_X8_leanMore_37 (mside : kF) (r : kF) : Option (kF × kF) :=
  some (mside, r)
def fn_X8_leanMore (mside : kF) (r : kF) (x2 : Int32) (x3 : Int32) (x4 : Int32) : Option (kF × kF) :=
  if ((0 : Int32) + x2) < 0 ∨ 79 ≤ ((0 : Int32) + x2).toNatClampNeg then none else if ((r (((0 : Int32) + x2).toNatClampNeg)) + x3) ≤ (3 : Int32) then if ((0 : Int32) + x2) < 0 ∨ 79 ≤ ((0 : Int32) + x2).toNatClampNeg then none else if ((0 : Int32) + x2) < 0 ∨ 79 ≤ ((0 : Int32) + x2).toNatClampNeg then none else fn_X8_leanMore_37 mside (upd r (((0 : Int32) + x2).toNatClampNeg) ((r (((0 : Int32) + x2).toNatClampNeg)) + x3)) else if ((0 : Int32) + x2) < 0 ∨ 79 ≤ ((0 : Int32) + x2).toNatClampNeg then none else if x2 < 0 ∨ 10 ≤ x2.toNatClampNeg then none else fn_X8_leanMore_37 (upd mside (x2.toNatClampNeg) x4) (upd r (((0 : Int32) + x2).toNatClampNeg) (4 : Int32))
def fn_X8_meet_156 (mside : kF) (r : kF) : Option (Int32 × kF × kF) :=
  some ((0 : Int32), mside, r)
def fn_X8_meet_153 (mside : kF) (r : kF) (k2 : Int32) (k3 : Int32) (k4 : Int32) : Option (Int32 × kF × kF) :=
  (fn_X8_leanMore mside r k2 k3 k4).bind fun o153 => fn_X8_meet_156 o153.1 o153.2
def fn_X8_meet_138 (mside : kF) (r : kF) (x2 : Int32) (x4 : Int32) (k1 : Int32) (k2 : Int32) : Option (Int32 × kF × kF) :=
  if k1 < 0 ∨ 79 ≤ k1.toNatClampNeg then none else if x4 ≤ 0 then fn_X8_meet_153 mside (upd r (k1.toNatClampNeg) k2) x2 (1 : Int32) (1 : Int32) else fn_X8_meet_153 mside (upd r (k1.toNatClampNeg) k2) x2 (1 : Int32) (2 : Int32)
def fn_X8_meet_104 (mside : kF) (r : kF) (x2 : Int32) (x4 : Int32) (k0 : Int32) (k1 : Int32) : Option (Int32 × kF × kF) :=
  (fn_X8_in (((k0 + k1)).toInt64) (-2 : Int64) (2 : Int64)).bind fun o121 => if o121 = 0 then if ((10 : Int32) + x2) < 0 ∨ 79 ≤ ((10 : Int32) + x2).toNatClampNeg then none else fn_X8_meet_138 mside r x2 x4 ((10 : Int32) + x2) (r (((10 : Int32) + x2).toNatClampNeg)) else fn_X8_meet_138 mside r x2 x4 ((10 : Int32) + x2) (k0 + k1)
def fn_X8_meet_88 (mside : kF) (r : kF) (x2 : Int32) (x4 : Int32) : Option (Int32 × kF × kF) :=
  if ((10 : Int32) + x2) < 0 ∨ 79 ≤ ((10 : Int32) + x2).toNatClampNeg then none else if x4 ≤ 0 then fn_X8_meet_104 mside r x2 x4 (r (((10 : Int32) + x2).toNatClampNeg)) (-1 : Int32) else fn_X8_meet_104 mside r x2 x4 (r (((10 : Int32) + x2).toNatClampNeg)) (1 : Int32)
def fn_X8_meet_74 (mside : kF) (r : kF) (k0 : Int32) : Option (Int32 × kF × kF) :=
  some (k0, mside, r)
def fn_X8_meet_54 (mside : kF) (r : kF) (x4 : Int32) (k1 : Int32) (k2 : Int32) : Option (Int32 × kF × kF) :=
  if k1 < 0 ∨ 10 ≤ k1.toNatClampNeg then none else if x4 ≤ 0 then if 0 ≤ x4 then fn_X8_meet_74 (upd mside (k1.toNatClampNeg) k2) r (0 : Int32) else fn_X8_meet_74 (upd mside (k1.toNatClampNeg) k2) r (1 : Int32) else fn_X8_meet_74 (upd mside (k1.toNatClampNeg) k2) r (-1 : Int32)
def fn_X8_meet (mside : kF) (r : kF) (x2 : Int32) (x3 : Int32) : Option (Int32 × kF × kF) :=
  (fn_X8_boardOf r x2).bind fun o2 => (fn_X8_in (((o2 - x3)).toInt64) (-3 : Int64) (3 : Int64)).bind fun o18 => if o18 = 0 then if (o2 - x3) = (4 : Int32) then fn_X8_meet_88 mside r x2 (o2 - x3) else if (o2 - x3) = (-4 : Int32) then fn_X8_meet_88 mside r x2 (o2 - x3) else fn_X8_meet_156 mside r else if ((0 : Int32) + x2) < 0 ∨ 79 ≤ ((0 : Int32) + x2).toNatClampNeg then none else if (o2 - x3) ≤ 0 then if 0 ≤ (o2 - x3) then fn_X8_meet_54 mside (upd r (((0 : Int32) + x2).toNatClampNeg) (4 : Int32)) (o2 - x3) x2 (3 : Int32) else fn_X8_meet_54 mside (upd r (((0 : Int32) + x2).toNatClampNeg) (4 : Int32)) (o2 - x3) x2 (1 : Int32) else fn_X8_meet_54 mside (upd r (((0 : Int32) + x2).toNatClampNeg) (4 : Int32)) (o2 - x3) x2 (2 : Int32)
def fn_X8_pushFrom_84 (mside : kF) (r : kF) : Option (kF × kF) :=
  some (mside, r)
def fn_X8_pushFrom_50 (mside : kF) (r : kF) (x2 : Int32) (x4 : Int32) : Option (kF × kF) :=
  if x2 < 0 ∨ 10 ≤ x2.toNatClampNeg then none else if ((mside (x2.toNatClampNeg)) &&& (2 : Int32)) ≤ 0 then fn_X8_pushFrom_84 mside r else if (((0 : Int32) + x4) + (1 : Int32)) < 0 ∨ 79 ≤ (((0 : Int32) + x4) + (1 : Int32)).toNatClampNeg then none else if (r ((((0 : Int32) + x4) + (1 : Int32)).toNatClampNeg)) = (4 : Int32) then fn_X8_pushFrom_84 mside r else (fn_X8_leanMore mside r (x4 + (1 : Int32)) (2 : Int32) (2 : Int32)).bind fun o81 => fn_X8_pushFrom_84 o81.1 o81.2
def fn_X8_pushFrom (mside : kF) (r : kF) (x2 : Int32) : Option (kF × kF) :=
  (fn_X8_rowOf x2).bind fun o1 => (fn_X8_firstOf (o1 + (1 : Int32))).bind fun o8 => (fn_X8_firstOf o1).bind fun o14 => if x2 < 0 ∨ 10 ≤ x2.toNatClampNeg then none else if ((mside (x2.toNatClampNeg)) &&& (1 : Int32)) ≤ 0 then fn_X8_pushFrom_50 mside r x2 ((o8 + x2) - o14) else if ((0 : Int32) + ((o8 + x2) - o14)) < 0 ∨ 79 ≤ ((0 : Int32) + ((o8 + x2) - o14)).toNatClampNeg then none else if (r (((0 : Int32) + ((o8 + x2) - o14)).toNatClampNeg)) = (4 : Int32) then fn_X8_pushFrom_50 mside r x2 ((o8 + x2) - o14) else (fn_X8_leanMore mside r ((o8 + x2) - o14) (2 : Int32) (1 : Int32)).bind fun o47 => fn_X8_pushFrom_50 o47.1 o47.2 x2 ((o8 + x2) - o14)
def fn_X8_ball_134 (q30 : kF → kF → Int32 → Int32 → Int32 → Int32 → Option (kF × kF)) (mside : kF) (r : kF) (x2 : Int32) (x3 : Int32) (x4 : Int32) (x5 : Int32) : Option (kF × kF) :=
  q30 mside r x2 x3 x4 (x5 + 1)
def fn_X8_ball_103 (q30 : kF → kF → Int32 → Int32 → Int32 → Int32 → Option (kF × kF)) : Nat → kF → kF → Int32 → Int32 → Int32 → Int32 → Int32 → Option (kF × kF)
  | 0, _, _, _, _, _, _, _ => none
  | q + 1, mside, r, x2, x3, x4, x5, x7 =>
    (fn_X8_firstOf (x5 + (1 : Int32))).bind fun o109 => if o109 ≤ x7 then fn_X8_ball_134 q30 mside r x2 x3 x4 x5 else if (3 : Int32) ≤ x5 then fn_X8_ball_134 q30 mside r x2 x3 x4 x5 else (fn_X8_pushFrom mside r x7).bind fun o125 => fn_X8_ball_103 q30 q o125.1 o125.2 x2 x3 x4 x5 (x7 + 1)
def fn_X8_ball_90 (q30 : kF → kF → Int32 → Int32 → Int32 → Int32 → Option (kF × kF)) (q54 : kF → kF → Int32 → Int32 → Int32 → Int32 → Int32 → Int32 → Option (kF × kF)) (mside : kF) (r : kF) (x2 : Int32) (x3 : Int32) (x4 : Int32) (x5 : Int32) (x6 : Int32) (x7 : Int32) : Option (kF × kF) :=
  q54 mside r x2 x3 x4 x5 x6 (x7 + 1)
def fn_X8_ball_54 (q30 : kF → kF → Int32 → Int32 → Int32 → Int32 → Option (kF × kF)) : Nat → kF → kF → Int32 → Int32 → Int32 → Int32 → Int32 → Int32 → Option (kF × kF)
  | 0, _, _, _, _, _, _, _, _ => none
  | q + 1, mside, r, x2, x3, x4, x5, x6, x7 =>
    (fn_X8_firstOf (x5 + (1 : Int32))).bind fun o60 => if o60 ≤ x7 then (fn_X8_firstOf x5).bind fun o98 => fn_X8_ball_103 q30 4096 mside r x2 x3 x4 x5 o98 else if ((0 : Int32) + x7) < 0 ∨ 79 ≤ ((0 : Int32) + x7).toNatClampNeg then none else if (r (((0 : Int32) + x7).toNatClampNeg)) = (4 : Int32) then fn_X8_ball_90 q30 (fn_X8_ball_54 q30 q) mside r x2 x3 x4 x5 x6 x7 else (fn_X8_meet mside r x7 x6).bind fun o84 => fn_X8_ball_90 q30 (fn_X8_ball_54 q30 q) o84.2.1 o84.2.2 x2 x3 (x4 + o84.1) x5 x6 x7
def fn_X8_ball_30  : Nat → kF → kF → Int32 → Int32 → Int32 → Int32 → Option (kF × kF)
  | 0, _, _, _, _, _, _ => none
  | q + 1, mside, r, x2, x3, x4, x5 =>
    if (4 : Int32) ≤ x5 then some (mside, r) else (fn_X8_firstOf x5).bind fun o49 => fn_X8_ball_54 (fn_X8_ball_30 q) 4096 mside r x2 x3 x4 x5 ((x2 + (x3 * x5)) + x4) o49
def fn_X8_ball_3  : Nat → kF → kF → Int32 → Int32 → Int32 → Option (kF × kF)
  | 0, _, _, _, _, _ => none
  | q + 1, mside, r, x2, x3, x4 =>
    if (10 : Int32) ≤ x4 then fn_X8_ball_30 4096 mside r x2 x3 (0 : Int32) (0 : Int32) else if x4 < 0 ∨ 10 ≤ x4.toNatClampNeg then none else fn_X8_ball_3 q (upd mside (x4.toNatClampNeg) (0 : Int32)) r x2 x3 (x4 + 1)
def fn_X8_ball (mside : kF) (r : kF) (x2 : Int32) (x3 : Int32) : Option (kF × kF) :=
  fn_X8_ball_3 4096 mside r x2 x3 (0 : Int32)
def fn_X8_tell_49 (q2 : kF → Int32 → Option (kF)) (r : kF) (x1 : Int32) (k1 : Int32) (k2 : Int32) : Option (kF) :=
  if k1 < 0 ∨ 79 ≤ k1.toNatClampNeg then none else q2 (upd r (k1.toNatClampNeg) k2) (x1 + 1)
def fn_X8_tell_48 (q2 : kF → Int32 → Option (kF)) (r : kF) (x1 : Int32) (k1 : Int32) : Option (kF) :=
  fn_X8_tell_49 q2 r x1 k1 (0 : Int32)
def fn_X8_tell_2  : Nat → kF → Int32 → Option (kF)
  | 0, _, _ => none
  | q + 1, r, x1 =>
    if (10 : Int32) ≤ x1 then some (r) else if ((20 : Int32) + x1) < 0 ∨ 79 ≤ ((20 : Int32) + x1).toNatClampNeg then none else if (r (((20 : Int32) + x1).toNatClampNeg)) = (1 : Int32) then if ((0 : Int32) + x1) < 0 ∨ 79 ≤ ((0 : Int32) + x1).toNatClampNeg then none else if (r (((0 : Int32) + x1).toNatClampNeg)) = (4 : Int32) then fn_X8_tell_48 (fn_X8_tell_2 q) r x1 ((20 : Int32) + x1) else if ((0 : Int32) + x1) < 0 ∨ 79 ≤ ((0 : Int32) + x1).toNatClampNeg then none else if (r 77) < (r (((0 : Int32) + x1).toNatClampNeg)) then fn_X8_tell_48 (fn_X8_tell_2 q) r x1 ((20 : Int32) + x1) else fn_X8_tell_49 (fn_X8_tell_2 q) r x1 ((20 : Int32) + x1) (1 : Int32) else fn_X8_tell_48 (fn_X8_tell_2 q) r x1 ((20 : Int32) + x1)
def fn_X8_tell (r : kF) : Option (kF) :=
  fn_X8_tell_2 4096 r (0 : Int32)
def fn_X8_slips_36 (r : kF) (k0 : Int32) : Option (Int32) :=
  if k0 = 0 ∨ k0 = 1 then some (k0) else none
def fn_X8_slips_35 (r : kF) : Option (Int32) :=
  fn_X8_slips_36 r (0 : Int32)
def fn_X8_slips (r : kF) (x1 : Int32) : Option (Int32) :=
  if ((20 : Int32) + x1) < 0 ∨ 79 ≤ ((20 : Int32) + x1).toNatClampNeg then none else if (r (((20 : Int32) + x1).toNatClampNeg)) = (1 : Int32) then if ((0 : Int32) + x1) < 0 ∨ 79 ≤ ((0 : Int32) + x1).toNatClampNeg then none else if (r (((0 : Int32) + x1).toNatClampNeg)) = (4 : Int32) then fn_X8_slips_35 r else if ((0 : Int32) + x1) < 0 ∨ 79 ≤ ((0 : Int32) + x1).toNatClampNeg then none else if (r (((0 : Int32) + x1).toNatClampNeg)) ≤ (r 78) then fn_X8_slips_35 r else fn_X8_slips_36 r (1 : Int32) else fn_X8_slips_35 r
def fn_X8_setAgain_50 (q2 : kF → Int32 → Option (kF)) (r : kF) (x1 : Int32) (k1 : Int32) (k2 : Int32) : Option (kF) :=
  if k1 < 0 ∨ 79 ≤ k1.toNatClampNeg then none else q2 (upd r (k1.toNatClampNeg) k2) (x1 + 1)
def fn_X8_setAgain_31 (q2 : kF → Int32 → Option (kF)) (r : kF) (x1 : Int32) : Option (kF) :=
  if ((20 : Int32) + x1) < 0 ∨ 79 ≤ ((20 : Int32) + x1).toNatClampNeg then none else if (r (((20 : Int32) + x1).toNatClampNeg)) = (1 : Int32) then fn_X8_setAgain_50 q2 r x1 ((0 : Int32) + x1) (0 : Int32) else fn_X8_setAgain_50 q2 r x1 ((0 : Int32) + x1) (4 : Int32)
def fn_X8_setAgain_2  : Nat → kF → Int32 → Option (kF)
  | 0, _, _ => none
  | q + 1, r, x1 =>
    if (10 : Int32) ≤ x1 then some (r) else (fn_X8_slips r x1).bind fun o10 => if o10 = 0 then fn_X8_setAgain_31 (fn_X8_setAgain_2 q) r x1 else if ((20 : Int32) + x1) < 0 ∨ 79 ≤ ((20 : Int32) + x1).toNatClampNeg then none else fn_X8_setAgain_31 (fn_X8_setAgain_2 q) (upd (upd r 74 ((r 74) + (1 : Int32))) (((20 : Int32) + x1).toNatClampNeg) (0 : Int32)) x1
def fn_X8_setAgain (r : kF) : Option (kF) :=
  fn_X8_setAgain_2 4096 r (0 : Int32)
def fn_X8_isOver_14 (r : kF) (k0 : Int32) : Option (Int32) :=
  if k0 = 0 ∨ k0 = 1 then some (k0) else none
def fn_X8_isOver (r : kF) : Option (Int32) :=
  if (r 52) = (10 : Int32) then fn_X8_isOver_14 r (1 : Int32) else fn_X8_isOver_14 r (0 : Int32)
def fn_X8_rollOf_27 (r : kF) (k0 : Int32) : Option (Int32) :=
  some (k0)
def fn_X8_rollOf (r : kF) (x1 : Int32) (x2 : Int32) : Option (Int32) :=
  if ((63 : Int32) + x1) < 0 ∨ 79 ≤ ((63 : Int32) + x1).toNatClampNeg then none else if (r (((63 : Int32) + x1).toNatClampNeg)) ≤ x2 then fn_X8_rollOf_27 r (0 : Int32) else if ((53 : Int32) + x1) < 0 ∨ 79 ≤ ((53 : Int32) + x1).toNatClampNeg then none else if (((30 : Int32) + (r (((53 : Int32) + x1).toNatClampNeg))) + x2) < 0 ∨ 79 ≤ (((30 : Int32) + (r (((53 : Int32) + x1).toNatClampNeg))) + x2).toNatClampNeg then none else fn_X8_rollOf_27 r (r ((((30 : Int32) + (r (((53 : Int32) + x1).toNatClampNeg))) + x2).toNatClampNeg))
def fn_X8_markOf_38 (r : kF) (k0 : Int32) : Option (Int32) :=
  some (k0)
def fn_X8_markOf (r : kF) (x1 : Int32) : Option (Int32) :=
  (fn_X8_rollOf r x1 (0 : Int32)).bind fun o3 => if o3 = (10 : Int32) then fn_X8_markOf_38 r (1 : Int32) else (fn_X8_rollOf r x1 (0 : Int32)).bind fun o18 => (fn_X8_rollOf r x1 (1 : Int32)).bind fun o24 => if (o18 + o24) = (10 : Int32) then fn_X8_markOf_38 r (2 : Int32) else fn_X8_markOf_38 r (0 : Int32)
def fn_X8_later_18 (r : kF) (k0 : Int32) : Option (Int32) :=
  some (k0)
def fn_X8_later (r : kF) (x1 : Int32) : Option (Int32) :=
  if (r 51) ≤ x1 then fn_X8_later_18 r (0 : Int32) else if ((30 : Int32) + x1) < 0 ∨ 79 ≤ ((30 : Int32) + x1).toNatClampNeg then none else fn_X8_later_18 r (r (((30 : Int32) + x1).toNatClampNeg))
def fn_X8_pointsOf_79 (r : kF) (x2 : Int32) : Option (Int32) :=
  some (x2)
def fn_X8_pointsOf_76 (r : kF) (k0 : Int32) (k1 : Int32) (k2 : Int32) : Option (Int32) :=
  fn_X8_pointsOf_79 r (k0 + (k1 + k2))
def fn_X8_pointsOf (r : kF) (x1 : Int32) : Option (Int32) :=
  (fn_X8_rollOf r x1 (0 : Int32)).bind fun o3 => (fn_X8_rollOf r x1 (1 : Int32)).bind fun o9 => (fn_X8_rollOf r x1 (2 : Int32)).bind fun o16 => (fn_X8_markOf r x1).bind fun o23 => if ((53 : Int32) + x1) < 0 ∨ 79 ≤ ((53 : Int32) + x1).toNatClampNeg then none else if ((63 : Int32) + x1) < 0 ∨ 79 ≤ ((63 : Int32) + x1).toNatClampNeg then none else if (9 : Int32) ≤ x1 then fn_X8_pointsOf_79 r ((o3 + o9) + o16) else if o23 ≤ 0 then fn_X8_pointsOf_79 r ((o3 + o9) + o16) else (fn_X8_later r ((r (((53 : Int32) + x1).toNatClampNeg)) + (r (((63 : Int32) + x1).toNatClampNeg)))).bind fun o56 => if o23 = (1 : Int32) then (fn_X8_later r (((r (((53 : Int32) + x1).toNatClampNeg)) + (r (((63 : Int32) + x1).toNatClampNeg))) + (1 : Int32))).bind fun o69 => fn_X8_pointsOf_76 r ((o3 + o9) + o16) o56 o69 else fn_X8_pointsOf_76 r ((o3 + o9) + o16) o56 (0 : Int32)
def fn_X8_points_4  : Nat → kF → Int32 → Int32 → Option (Int32)
  | 0, _, _, _ => none
  | q + 1, r, x1, x2 =>
    if (10 : Int32) ≤ x2 then some (x1) else (fn_X8_pointsOf r x2).bind fun o13 => fn_X8_points_4 q r (x1 + o13) (x2 + 1)
def fn_X8_points (r : kF) : Option (Int32) :=
  fn_X8_points_4 4096 r (0 : Int32) (0 : Int32)
def fn_X8_goOn_134 (r : kF) : Option (kF) :=
  some (r)
def fn_X8_goOn_83 (r : kF) : Option (kF) :=
  fn_X8_goOn_134 (upd r 52 ((r 52) + (1 : Int32)))
def fn_X8_goOn_123 (r : kF) : Option (kF) :=
  (fn_X8_rack r).bind fun o124 => fn_X8_goOn_134 o124
def fn_X8_goOn_130 (r : kF) : Option (kF) :=
  (fn_X8_setAgain r).bind fun o131 => fn_X8_goOn_134 o131
def fn_X8_goOn_94 (r : kF) (x1 : Int32) (x2 : Int32) (x3 : Int32) : Option (kF) :=
  if x2 = (1 : Int32) then if x3 = (1 : Int32) then fn_X8_goOn_123 r else fn_X8_goOn_130 r else if x3 = (2 : Int32) then fn_X8_goOn_123 r else (fn_X8_rollOf r x1 (1 : Int32)).bind fun o115 => if o115 = (10 : Int32) then fn_X8_goOn_123 r else fn_X8_goOn_130 r
def fn_X8_goOn_34 (r : kF) : Option (kF) :=
  if ((53 : Int32) + ((upd r 52 ((r 52) + (1 : Int32))) 52)) < 0 ∨ 79 ≤ ((53 : Int32) + ((upd r 52 ((r 52) + (1 : Int32))) 52)).toNatClampNeg then none else (fn_X8_rack (upd (upd r 52 ((r 52) + (1 : Int32))) (((53 : Int32) + ((upd r 52 ((r 52) + (1 : Int32))) 52)).toNatClampNeg) ((upd r 52 ((r 52) + (1 : Int32))) 51))).bind fun o56 => fn_X8_goOn_134 o56
def fn_X8_goOn (r : kF) : Option (kF) :=
  if ((63 : Int32) + (r 52)) < 0 ∨ 79 ≤ ((63 : Int32) + (r 52)).toNatClampNeg then none else (fn_X8_markOf r (r 52)).bind fun o14 => if (9 : Int32) ≤ (r 52) then if (r (((63 : Int32) + (r 52)).toNatClampNeg)) = (3 : Int32) then fn_X8_goOn_83 r else if (r (((63 : Int32) + (r 52)).toNatClampNeg)) = (2 : Int32) then if o14 = 0 then fn_X8_goOn_83 r else fn_X8_goOn_94 r (r 52) (r (((63 : Int32) + (r 52)).toNatClampNeg)) o14 else fn_X8_goOn_94 r (r 52) (r (((63 : Int32) + (r 52)).toNatClampNeg)) o14 else if (r (((63 : Int32) + (r 52)).toNatClampNeg)) = (2 : Int32) then fn_X8_goOn_34 r else if o14 = (1 : Int32) then fn_X8_goOn_34 r else (fn_X8_setAgain r).bind fun o63 => fn_X8_goOn_134 o63
def fn_X8_rollOn_130 (mside : kF) (mwas : kF) (r : kF) (x6 : Int32) : Option (Int32 × kF × kF × kF) :=
  if ((63 : Int32) + (r 52)) < 0 ∨ 79 ≤ ((63 : Int32) + (r 52)).toNatClampNeg then none else if ((63 : Int32) + (r 52)) < 0 ∨ 79 ≤ ((63 : Int32) + (r 52)).toNatClampNeg then none else (fn_X8_goOn (upd r (((63 : Int32) + (r 52)).toNatClampNeg) ((r (((63 : Int32) + (r 52)).toNatClampNeg)) + (1 : Int32)))).bind fun o144 => some (x6, mside, mwas, o144)
def fn_X8_rollOn_109 (mside : kF) (mwas : kF) (r : kF) (x6 : Int32) (k1 : Int32) (k2 : Int32) (k3 : Int32) : Option (Int32 × kF × kF × kF) :=
  if k1 < 0 ∨ 79 ≤ k1.toNatClampNeg then none else if ((30 : Int32) + ((upd r (k1.toNatClampNeg) (k2 + k3)) 51)) < 0 ∨ 79 ≤ ((30 : Int32) + ((upd r (k1.toNatClampNeg) (k2 + k3)) 51)).toNatClampNeg then none else fn_X8_rollOn_130 mside mwas (upd (upd (upd r (k1.toNatClampNeg) (k2 + k3)) (((30 : Int32) + ((upd r (k1.toNatClampNeg) (k2 + k3)) 51)).toNatClampNeg) x6) 51 (((upd (upd r (k1.toNatClampNeg) (k2 + k3)) (((30 : Int32) + ((upd r (k1.toNatClampNeg) (k2 + k3)) 51)).toNatClampNeg) x6) 51) + (1 : Int32))) x6
def fn_X8_rollOn_94 (mside : kF) (mwas : kF) (r : kF) (x4 : Int32) (x6 : Int32) : Option (Int32 × kF × kF × kF) :=
  if x4 = 0 then fn_X8_rollOn_109 mside mwas r x6 (75 : Int32) (r 75) (0 : Int32) else fn_X8_rollOn_109 mside mwas r x6 (75 : Int32) (r 75) (1 : Int32)
def fn_X8_rollOn_65  : Nat → kF → kF → kF → Int32 → Int32 → Int32 → Option (Int32 × kF × kF × kF)
  | 0, _, _, _, _, _, _ => none
  | q + 1, mside, mwas, r, x4, x6, x7 =>
    if (30 : Int32) ≤ x7 then fn_X8_rollOn_94 mside mwas r x4 x6 else if x4 = 0 then fn_X8_rollOn_94 mside mwas r x4 x6 else if x7 < 0 ∨ 30 ≤ x7.toNatClampNeg then none else if x7 < 0 ∨ 79 ≤ x7.toNatClampNeg then none else fn_X8_rollOn_65 q mside mwas (upd r (x7.toNatClampNeg) (mwas (x7.toNatClampNeg))) x4 x6 (x7 + 1)
def fn_X8_rollOn_60 (mside : kF) (mwas : kF) (r : kF) (x4 : Int32) (k0 : Int32) : Option (Int32 × kF × kF × kF) :=
  fn_X8_rollOn_65 4096 mside mwas r x4 k0 (0 : Int32)
def fn_X8_rollOn_9  : Nat → kF → kF → kF → Int32 → Int32 → Int32 → Int32 → Int32 → Option (Int32 × kF × kF × kF)
  | 0, _, _, _, _, _, _, _, _ => none
  | q + 1, mside, mwas, r, x2, x3, x4, x5, x6 =>
    if (30 : Int32) ≤ x6 then (fn_X8_ball mside r x2 x3).bind fun o37 => (fn_X8_tell o37.2).bind fun o41 => if x4 = 0 then (fn_X8_toldOf o41).bind fun o56 => fn_X8_rollOn_60 o37.1 mwas o41 x4 (x5 - o56) else fn_X8_rollOn_60 o37.1 mwas o41 x4 (0 : Int32) else if x6 < 0 ∨ 79 ≤ x6.toNatClampNeg then none else if x6 < 0 ∨ 30 ≤ x6.toNatClampNeg then none else fn_X8_rollOn_9 q mside (upd mwas (x6.toNatClampNeg) (r (x6.toNatClampNeg))) r x2 x3 x4 x5 (x6 + 1)
def fn_X8_rollOn (mside : kF) (mwas : kF) (r : kF) (x2 : Int32) (x3 : Int32) (x4 : Int32) : Option (Int32 × kF × kF × kF) :=
  (fn_X8_toldOf r).bind fun o1 => fn_X8_rollOn_9 4096 mside mwas r x2 x3 x4 o1 (0 : Int32)
def fn_X8_isStopped_16 (r : kF) (k0 : Int32) : Option (Int32) :=
  if k0 = 0 ∨ k0 = 1 then some (k0) else none
def fn_X8_isStopped (r : kF) (x1 : Int32) : Option (Int32) :=
  if x1 = 0 then none else if ((90 : Int32) / x1) ≤ (r 76) then fn_X8_isStopped_16 r (0 : Int32) else fn_X8_isStopped_16 r (1 : Int32)
def fn_X8_throwOn (mside : kF) (mwas : kF) (r : kF) (x2 : Int32) (x3 : Int32) (x4 : Int32) (x5 : Int32) : Option (Int32 × kF × kF × kF) :=
  (fn_X8_isStopped r x4).bind fun o3 => if o3 = 0 then (fn_X8_rollOn mside mwas r x2 x3 x5).bind fun o25 => some (o25.1, o25.2.1, o25.2.2.1, o25.2.2.2) else some ((-1 : Int32), mside, mwas, (upd r 73 ((r 73) + (1 : Int32))))
def fn_X8_beginOn_8  : Nat → kF → Int32 → Int32 → Option (Int32 × kF)
  | 0, _, _, _ => none
  | q + 1, r, x1, x2 =>
    if (73 : Int32) ≤ x2 then (fn_X8_rack r).bind fun o25 => some (x1, o25) else if x2 < 0 ∨ 79 ≤ x2.toNatClampNeg then none else fn_X8_beginOn_8 q (upd r (x2.toNatClampNeg) (0 : Int32)) x1 (x2 + 1)
def fn_X8_beginOn (r : kF) : Option (Int32 × kF) :=
  (fn_X8_points r).bind fun o1 => fn_X8_beginOn_8 4096 r o1 (30 : Int32)
def fn_X8_isSetting_45 (k0 : Int32) : Option (Int32) :=
  if k0 = 0 ∨ k0 = 1 then some (k0) else none
def fn_X8_isSetting_44  : Option (Int32) :=
  fn_X8_isSetting_45 (0 : Int32)
def fn_X8_isSetting_28 (x1 : Int32) : Option (Int32) :=
  (fn_X8_in ((x1).toInt64) (0 : Int64) (3 : Int64)).bind fun o34 => if o34 = 0 then fn_X8_isSetting_44 else fn_X8_isSetting_45 (1 : Int32)
def fn_X8_isSetting (x0 : Int32) (x1 : Int32) : Option (Int32) :=
  if x0 = 0 then (fn_X8_in ((x1).toInt64) (3 : Int64) (90 : Int64)).bind fun o12 => fn_X8_isSetting_45 o12 else if x0 = (1 : Int32) then fn_X8_isSetting_28 x1 else if x0 = (2 : Int32) then fn_X8_isSetting_28 x1 else fn_X8_isSetting_44
def fn_X8_append_31 (mref : Int32) (msize : Int32) (mtext : kF) (x1 : Int32) (k1 : Int32) : Option (Int32 × Int32 × Int32 × kF) :=
  (fn_X8_refused mref k1).bind fun o31 => if o31.1 = 0 then if msize < 0 ∨ 120 ≤ msize.toNatClampNeg then none else some ((msize + (1 : Int32)), o31.2, (msize + (1 : Int32)), (upd mtext (msize.toNatClampNeg) x1)) else some ((0 : Int32), o31.2, msize, mtext)
def fn_X8_append (mref : Int32) (msize : Int32) (mtext : kF) (x1 : Int32) : Option (Int32 × Int32 × Int32 × kF) :=
  (fn_X8_in ((x1).toInt64) (0 : Int64) (255 : Int64)).bind fun o7 => if o7 = 0 then fn_X8_append_31 mref msize mtext x1 (1 : Int32) else if msize = (120 : Int32) then fn_X8_append_31 mref msize mtext x1 (2 : Int32) else fn_X8_append_31 mref msize mtext x1 (0 : Int32)
def fn_X8_clearText (mref : Int32) (msize : Int32) : Option (Int32 × Int32 × Int32) :=
  some (msize, (0 : Int32), (0 : Int32))
def fn_X8_at_18 (msize : Int32) (mtext : kF) (k0 : Int32) : Option (Int32) :=
  some (k0)
def fn_X8_at (msize : Int32) (mtext : kF) (x1 : Int32) : Option (Int32) :=
  if msize ≤ x1 then fn_X8_at_18 msize mtext (-1 : Int32) else if x1 < 0 ∨ 120 ≤ x1.toNatClampNeg then none else fn_X8_at_18 msize mtext (mtext (x1.toNatClampNeg))
def fn_X8_figures_63 (msize : Int32) (mspot : Int32) (mtext : kF) : Option (Int32 × Int32) :=
  some ((-1 : Int32), mspot)
def fn_X8_figures_6  : Nat → Int32 → Int32 → kF → Int32 → Int32 → Int32 → Int32 → Option (Int32 × Int32)
  | 0, _, _, _, _, _, _, _ => none
  | q + 1, msize, mspot, mtext, x1, x2, x3, x4 =>
    if x4 ≤ 0 then some (x3, mspot) else (fn_X8_at msize mtext mspot).bind fun o16 => (fn_X8_in (((o16 - (48 : Int32))).toInt64) (0 : Int64) (9 : Int64)).bind fun o40 => if o40 = 0 then fn_X8_figures_63 msize mspot mtext else if x2 < (x3 + ((o16 - (48 : Int32)) * x4)) then fn_X8_figures_63 msize mspot mtext else if x1 ≤ (((x3 + ((o16 - (48 : Int32)) * x4)) + x4) - (1 : Int32)) then fn_X8_figures_6 q msize (mspot + (1 : Int32)) mtext x1 x2 (x3 + ((o16 - (48 : Int32)) * x4)) (x4 / (10 : Int32)) else fn_X8_figures_63 msize mspot mtext
def fn_X8_figures (msize : Int32) (mspot : Int32) (mtext : kF) (x1 : Int32) (x2 : Int32) : Option (Int32 × Int32) :=
  fn_X8_figures_6 4096 msize mspot mtext x1 x2 (0 : Int32) (10 : Int32)
def fn_X8_readRoll_187 (msize : Int32) (mspot : Int32) (mout : Int32) (mtext : kF) (mside : kF) (mwas : kF) (r : kF) : Option (Int32 × Int32 × Int32 × kF × kF × kF) :=
  some ((1 : Int32), mspot, mout, mside, mwas, r)
def fn_X8_readRoll_150 (msize : Int32) (mspot : Int32) (mout : Int32) (mtext : kF) (mside : kF) (mwas : kF) (r : kF) (x2 : Int32) (x4 : Int32) (x5 : Int32) (x6 : Int32) (k1 : Int32) (k2 : Int32) : Option (Int32 × Int32 × Int32 × kF × kF × kF) :=
  (fn_X8_isOver r).bind fun o155 => if o155 = 0 then (fn_X8_throwOn mside mwas r x2 x4 x5 x6).bind fun o183 => fn_X8_readRoll_187 msize (k1 + k2) mout mtext o183.2.1 o183.2.2.1 o183.2.2.2 else fn_X8_readRoll_187 msize (k1 + k2) (mout + (1 : Int32)) mtext mside mwas r
def fn_X8_readRoll_133 (msize : Int32) (mspot : Int32) (mout : Int32) (mtext : kF) (mside : kF) (mwas : kF) (r : kF) (x2 : Int32) (x4 : Int32) (x5 : Int32) (k0 : Int32) : Option (Int32 × Int32 × Int32 × kF × kF × kF) :=
  if k0 = 0 then fn_X8_readRoll_150 msize mspot mout mtext mside mwas r x2 x4 x5 k0 mspot (0 : Int32) else fn_X8_readRoll_150 msize mspot mout mtext mside mwas r x2 x4 x5 k0 mspot (1 : Int32)
def fn_X8_readRoll_77 (msize : Int32) (mspot : Int32) (mout : Int32) (mtext : kF) (mside : kF) (mwas : kF) (r : kF) (x2 : Int32) (k0 : Int32) : Option (Int32 × Int32 × Int32 × kF × kF × kF) :=
  if k0 = (9 : Int32) then some ((0 : Int32), mspot, mout, mside, mwas, r) else (fn_X8_figures msize (mspot + (1 : Int32)) mtext (1 : Int32) (30 : Int32)).bind fun o102 => if o102.1 = (-1 : Int32) then some ((0 : Int32), o102.2, mout, mside, mwas, r) else (fn_X8_at msize mtext o102.2).bind fun o120 => if o120 = (102 : Int32) then fn_X8_readRoll_133 msize o102.2 mout mtext mside mwas r x2 k0 o102.1 (1 : Int32) else fn_X8_readRoll_133 msize o102.2 mout mtext mside mwas r x2 k0 o102.1 (0 : Int32)
def fn_X8_readRoll (msize : Int32) (mspot : Int32) (mout : Int32) (mtext : kF) (mside : kF) (mwas : kF) (r : kF) : Option (Int32 × Int32 × Int32 × kF × kF × kF) :=
  (fn_X8_figures msize mspot mtext (0 : Int32) (40 : Int32)).bind fun o4 => if o4.1 = (-1 : Int32) then some ((0 : Int32), o4.2, mout, mside, mwas, r) else (fn_X8_at msize mtext o4.2).bind fun o20 => if o20 = (108 : Int32) then fn_X8_readRoll_77 msize o4.2 mout mtext mside mwas r o4.1 (-2 : Int32) else if o20 = (107 : Int32) then fn_X8_readRoll_77 msize o4.2 mout mtext mside mwas r o4.1 (-1 : Int32) else if o20 = (109 : Int32) then fn_X8_readRoll_77 msize o4.2 mout mtext mside mwas r o4.1 (0 : Int32) else if o20 = (114 : Int32) then fn_X8_readRoll_77 msize o4.2 mout mtext mside mwas r o4.1 (1 : Int32) else if o20 = (115 : Int32) then fn_X8_readRoll_77 msize o4.2 mout mtext mside mwas r o4.1 (2 : Int32) else fn_X8_readRoll_77 msize o4.2 mout mtext mside mwas r o4.1 (9 : Int32)
def fn_X8_readText_31  : Nat → Int32 → Int32 → Int32 → kF → kF → kF → kF → Option (Int32 × Int32 × Int32 × kF × kF × kF)
  | 0, _, _, _, _, _, _, _ => none
  | q + 1, msize, mspot, mout, mtext, mside, mwas, r =>
    if msize ≤ mspot then some ((-1 : Int32), mspot, mout, mside, mwas, r) else (fn_X8_readRoll msize mspot mout mtext mside mwas r).bind fun o44 => if o44.1 = 0 then some (o44.2.1, o44.2.1, o44.2.2.1, o44.2.2.2.1, o44.2.2.2.2.1, o44.2.2.2.2.2) else fn_X8_readText_31 q msize o44.2.1 o44.2.2.1 mtext o44.2.2.2.1 o44.2.2.2.2.1 o44.2.2.2.2.2
def fn_X8_readText (msize : Int32) (mspot : Int32) (mout : Int32) (mtext : kF) (mside : kF) (mwas : kF) (r : kF) : Option (Int32 × Int32 × Int32 × kF × kF × kF) :=
  (fn_X8_clear r).bind fun o1 => (fn_X8_at msize mtext (0 : Int32)).bind fun o16 => if o16 = (80 : Int32) then fn_X8_readText_31 4096 msize (1 : Int32) (0 : Int32) mtext mside mwas o1 else some ((0 : Int32), (0 : Int32), (0 : Int32), mside, mwas, o1)
def fn_X8_errorPosition (mref : Int32) (msize : Int32) (mspot : Int32) (mout : Int32) (mtext : kF) (mtrial : kF) (mside : kF) (mwas : kF) : Option (Int32 × Int32 × Int32 × Int32 × kF × kF × kF) :=
  (fn_X8_readText msize mspot mout mtext mside mwas mtrial).bind fun o10 => some (o10.1, (0 : Int32), o10.2.1, o10.2.2.1, o10.2.2.2.2.2, o10.2.2.2.1, o10.2.2.2.2.1)
def fn_X8_load_18 (mref : Int32) (msize : Int32) (macts : Int32) (mspot : Int32) (mout : Int32) (mtext : kF) (mnow : kF) (mtrial : kF) (misk : kF) (mside : kF) (mwas : kF) (k1 : Int32) : Option (Int32 × Int32 × Int32 × Int32 × Int32 × kF × kF × kF × kF × kF) :=
  (fn_X8_refused mref k1).bind fun o18 => if o18.1 = 0 then (fn_X8_copyState 79 79 mtrial mnow (0 : Int32) (0 : Int32)).bind fun o36 => some (mout, o18.2, (0 : Int32), mspot, mout, o36, mtrial, (upd (upd misk 0 (vp_nar .boolean (0 : Int32))) 1 (vp_nar .boolean (0 : Int32))), mside, mwas) else some ((0 : Int32), o18.2, macts, mspot, mout, mnow, mtrial, misk, mside, mwas)
def fn_X8_load (mref : Int32) (msize : Int32) (macts : Int32) (mspot : Int32) (mout : Int32) (mtext : kF) (mnow : kF) (mtrial : kF) (misk : kF) (mside : kF) (mwas : kF) : Option (Int32 × Int32 × Int32 × Int32 × Int32 × kF × kF × kF × kF × kF) :=
  (fn_X8_readText msize mspot mout mtext mside mwas mtrial).bind fun o6 => if o6.1 = (-1 : Int32) then fn_X8_load_18 mref msize macts o6.2.1 o6.2.2.1 mtext mnow o6.2.2.2.2.2 misk o6.2.2.2.1 o6.2.2.2.2.1 (0 : Int32) else fn_X8_load_18 mref msize macts o6.2.1 o6.2.2.1 mtext mnow o6.2.2.2.2.2 misk o6.2.2.2.1 o6.2.2.2.2.1 (1 : Int32)
def fn_X8_about_117 (mref : Int32) (mnow : kF) (k0 : Int32) : Option (Int32 × Int32) :=
  some (k0, mref)
def fn_X8_about_165 (mref : Int32) (mnow : kF) (k0 : Int32) : Option (Int32 × Int32) :=
  some (k0, mref)
def fn_X8_about_18 (mref : Int32) (mnow : kF) (x1 : Int32) (k1 : Int32) : Option (Int32 × Int32) :=
  (fn_X8_refused mref k1).bind fun o18 => if o18.1 = 0 then if x1 = 0 then some ((mnow 52), o18.2) else if x1 = 1 then (fn_X8_isOver mnow).bind fun o92 => if o92 = 0 then if ((63 : Int32) + (mnow 52)) < 0 ∨ 79 ≤ ((63 : Int32) + (mnow 52)).toNatClampNeg then none else fn_X8_about_117 o18.2 mnow (mnow (((63 : Int32) + (mnow 52)).toNatClampNeg)) else fn_X8_about_117 o18.2 mnow (0 : Int32) else if x1 = 2 then some ((mnow 51), o18.2) else if x1 = 3 then (fn_X8_points mnow).bind fun o130 => some (o130, o18.2) else if x1 = 4 then if (((73 : Int32) + x1) - (4 : Int32)) < 0 ∨ 79 ≤ (((73 : Int32) + x1) - (4 : Int32)).toNatClampNeg then none else some ((mnow ((((73 : Int32) + x1) - (4 : Int32)).toNatClampNeg)), o18.2) else if x1 = 5 then if (((73 : Int32) + x1) - (4 : Int32)) < 0 ∨ 79 ≤ (((73 : Int32) + x1) - (4 : Int32)).toNatClampNeg then none else some ((mnow ((((73 : Int32) + x1) - (4 : Int32)).toNatClampNeg)), o18.2) else if x1 = 6 then if (((73 : Int32) + x1) - (4 : Int32)) < 0 ∨ 79 ≤ (((73 : Int32) + x1) - (4 : Int32)).toNatClampNeg then none else some ((mnow ((((73 : Int32) + x1) - (4 : Int32)).toNatClampNeg)), o18.2) else if x1 = 7 then (fn_X8_toldOf mnow).bind fun o138 => some (o138, o18.2) else if x1 = 8 then (fn_X8_standing mnow).bind fun o146 => some (o146, o18.2) else if x1 = 9 then (fn_X8_isOver mnow).bind fun o154 => if o154 = 0 then fn_X8_about_165 o18.2 mnow (0 : Int32) else fn_X8_about_165 o18.2 mnow (1 : Int32) else if (((73 : Int32) + x1) - (4 : Int32)) < 0 ∨ 79 ≤ (((73 : Int32) + x1) - (4 : Int32)).toNatClampNeg then none else some ((mnow ((((73 : Int32) + x1) - (4 : Int32)).toNatClampNeg)), o18.2) else some ((0 : Int32), o18.2)
def fn_X8_about (mref : Int32) (mnow : kF) (x1 : Int32) : Option (Int32 × Int32) :=
  (fn_X8_in ((x1).toInt64) (0 : Int64) (9 : Int64)).bind fun o7 => if o7 = 0 then fn_X8_about_18 mref mnow x1 (1 : Int32) else fn_X8_about_18 mref mnow x1 (0 : Int32)
def fn_X8_pin_94 (mref : Int32) (mnow : kF) (k0 : Int32) : Option (Int32 × Int32) :=
  some (k0, mref)
def fn_X8_pin_29 (mref : Int32) (mnow : kF) (x1 : Int32) (x2 : Int32) (k1 : Int32) : Option (Int32 × Int32) :=
  (fn_X8_refused mref k1).bind fun o29 => if o29.1 = 0 then if x2 = 0 then if ((0 : Int32) + x1) < 0 ∨ 79 ≤ ((0 : Int32) + x1).toNatClampNeg then none else fn_X8_pin_94 o29.2 mnow (mnow (((0 : Int32) + x1).toNatClampNeg)) else if x2 = (1 : Int32) then if ((10 : Int32) + x1) < 0 ∨ 79 ≤ ((10 : Int32) + x1).toNatClampNeg then none else fn_X8_pin_94 o29.2 mnow (mnow (((10 : Int32) + x1).toNatClampNeg)) else if x2 = (2 : Int32) then (fn_X8_boardOf mnow x1).bind fun o79 => fn_X8_pin_94 o29.2 mnow o79 else if ((20 : Int32) + x1) < 0 ∨ 79 ≤ ((20 : Int32) + x1).toNatClampNeg then none else fn_X8_pin_94 o29.2 mnow (mnow (((20 : Int32) + x1).toNatClampNeg)) else some ((0 : Int32), o29.2)
def fn_X8_pin (mref : Int32) (mnow : kF) (x1 : Int32) (x2 : Int32) : Option (Int32 × Int32) :=
  (fn_X8_isPin x1).bind fun o2 => if o2 = 0 then fn_X8_pin_29 mref mnow x1 x2 (1 : Int32) else (fn_X8_in ((x2).toInt64) (0 : Int64) (3 : Int64)).bind fun o18 => if o18 = 0 then fn_X8_pin_29 mref mnow x1 x2 (2 : Int32) else fn_X8_pin_29 mref mnow x1 x2 (0 : Int32)
def fn_X8_frame_82 (mref : Int32) (mnow : kF) (k0 : Int32) : Option (Int32 × Int32) :=
  some (k0, mref)
def fn_X8_frame_34 (mref : Int32) (mnow : kF) (x1 : Int32) (x2 : Int32) (k1 : Int32) : Option (Int32 × Int32) :=
  (fn_X8_refused mref k1).bind fun o34 => if o34.1 = 0 then if x2 = 0 then if ((63 : Int32) + x1) < 0 ∨ 79 ≤ ((63 : Int32) + x1).toNatClampNeg then none else fn_X8_frame_82 o34.2 mnow (mnow (((63 : Int32) + x1).toNatClampNeg)) else if x2 = (1 : Int32) then (fn_X8_pointsOf mnow x1).bind fun o68 => fn_X8_frame_82 o34.2 mnow o68 else (fn_X8_markOf mnow x1).bind fun o79 => fn_X8_frame_82 o34.2 mnow o79 else some ((0 : Int32), o34.2)
def fn_X8_frame (mref : Int32) (mnow : kF) (x1 : Int32) (x2 : Int32) : Option (Int32 × Int32) :=
  (fn_X8_in ((x1).toInt64) (0 : Int64) (9 : Int64)).bind fun o7 => if o7 = 0 then fn_X8_frame_34 mref mnow x1 x2 (1 : Int32) else (fn_X8_in ((x2).toInt64) (0 : Int64) (2 : Int64)).bind fun o23 => if o23 = 0 then fn_X8_frame_34 mref mnow x1 x2 (2 : Int32) else fn_X8_frame_34 mref mnow x1 x2 (0 : Int32)
def fn_X8_taken_25 (mref : Int32) (mnow : kF) (x1 : Int32) (k1 : Int32) : Option (Int32 × Int32) :=
  (fn_X8_refused mref k1).bind fun o25 => if o25.1 = 0 then if ((30 : Int32) + x1) < 0 ∨ 79 ≤ ((30 : Int32) + x1).toNatClampNeg then none else some ((mnow (((30 : Int32) + x1).toNatClampNeg)), o25.2) else some ((0 : Int32), o25.2)
def fn_X8_taken (mref : Int32) (mnow : kF) (x1 : Int32) : Option (Int32 × Int32) :=
  (fn_X8_in ((x1).toInt64) (0 : Int64) ((((mnow 51) - (1 : Int32))).toInt64)).bind fun o14 => if o14 = 0 then fn_X8_taken_25 mref mnow x1 (1 : Int32) else fn_X8_taken_25 mref mnow x1 (0 : Int32)
def fn_X8_setting_18 (mref : Int32) (mnow : kF) (x1 : Int32) (k1 : Int32) : Option (Int32 × Int32) :=
  (fn_X8_refused mref k1).bind fun o18 => if o18.1 = 0 then if ((76 : Int32) + x1) < 0 ∨ 79 ≤ ((76 : Int32) + x1).toNatClampNeg then none else some ((mnow (((76 : Int32) + x1).toNatClampNeg)), o18.2) else some ((0 : Int32), o18.2)
def fn_X8_setting (mref : Int32) (mnow : kF) (x1 : Int32) : Option (Int32 × Int32) :=
  (fn_X8_in ((x1).toInt64) (0 : Int64) (2 : Int64)).bind fun o7 => if o7 = 0 then fn_X8_setting_18 mref mnow x1 (1 : Int32) else fn_X8_setting_18 mref mnow x1 (0 : Int32)
def fn_X8_remember_49 (macts : Int32) (mnow : kF) (mdiary : kF) : Option (Int32 × kF) :=
  (fn_X8_copyState 79 1106 mnow mdiary (0 : Int32) ((79 : Int32) * macts)).bind fun o65 => some ((macts + (1 : Int32)), o65)
def fn_X8_remember_11  : Nat → Int32 → kF → kF → Int32 → Option (Int32 × kF)
  | 0, _, _, _, _ => none
  | q + 1, macts, mnow, mdiary, x1 =>
    if (1027 : Int32) ≤ x1 then fn_X8_remember_49 (macts - (1 : Int32)) mnow mdiary else if (x1 + (79 : Int32)) < 0 ∨ 1106 ≤ (x1 + (79 : Int32)).toNatClampNeg then none else if x1 < 0 ∨ 1106 ≤ x1.toNatClampNeg then none else fn_X8_remember_11 q macts mnow (upd mdiary (x1.toNatClampNeg) (mdiary ((x1 + (79 : Int32)).toNatClampNeg))) (x1 + 1)
def fn_X8_remember (macts : Int32) (mnow : kF) (mdiary : kF) : Option (Int32 × kF) :=
  if macts = (14 : Int32) then fn_X8_remember_11 4096 macts mnow mdiary (0 : Int32) else fn_X8_remember_49 macts mnow mdiary
def fn_X8_begin (mref : Int32) (macts : Int32) (mnow : kF) (mdiary : kF) : Option (Int32 × Int32 × Int32 × kF × kF) :=
  (fn_X8_remember macts mnow mdiary).bind fun o6 => (fn_X8_beginOn mnow).bind fun o13 => some (o13.1, (0 : Int32), o6.1, o13.2, o6.2)
def fn_X8_roll_40 (mref : Int32) (macts : Int32) (mnow : kF) (mdiary : kF) (mside : kF) (mwas : kF) (x1 : Int32) (x2 : Int32) (x3 : Int32) (x4 : Int32) (k1 : Int32) : Option (Int32 × Int32 × Int32 × kF × kF × kF × kF) :=
  (fn_X8_refused mref k1).bind fun o40 => if o40.1 = 0 then (fn_X8_remember macts mnow mdiary).bind fun o49 => (fn_X8_throwOn mside mwas mnow x1 x2 x3 x4).bind fun o62 => some (o62.1, o40.2, o49.1, o62.2.2.2, o49.2, o62.2.1, o62.2.2.1) else some ((0 : Int32), o40.2, macts, mnow, mdiary, mside, mwas)
def fn_X8_roll_21 (mref : Int32) (macts : Int32) (mnow : kF) (mdiary : kF) (mside : kF) (mwas : kF) (x1 : Int32) (x2 : Int32) (x3 : Int32) (x4 : Int32) : Option (Int32 × Int32 × Int32 × kF × kF × kF × kF) :=
  fn_X8_roll_40 mref macts mnow mdiary mside mwas x1 x2 x3 x4 (1 : Int32)
def fn_X8_roll (mref : Int32) (macts : Int32) (mnow : kF) (mdiary : kF) (mside : kF) (mwas : kF) (x1 : Int32) (x2 : Int32) (x3 : Int32) (x4 : Int32) : Option (Int32 × Int32 × Int32 × kF × kF × kF × kF) :=
  (fn_X8_isBall x1 x2).bind fun o3 => if o3 = 0 then fn_X8_roll_21 mref macts mnow mdiary mside mwas x1 x2 x3 x4 else (fn_X8_in ((x3).toInt64) (1 : Int64) (30 : Int64)).bind fun o15 => if o15 = 0 then fn_X8_roll_21 mref macts mnow mdiary mside mwas x1 x2 x3 x4 else (fn_X8_isOver mnow).bind fun o29 => if o29 = 0 then fn_X8_roll_40 mref macts mnow mdiary mside mwas x1 x2 x3 x4 (0 : Int32) else fn_X8_roll_40 mref macts mnow mdiary mside mwas x1 x2 x3 x4 (2 : Int32)
def fn_X8_touchOn (r : kF) (x1 : Int32) (x2 : Int32) : Option (Int32 × kF) :=
  if ((0 : Int32) + x1) < 0 ∨ 79 ≤ ((0 : Int32) + x1).toNatClampNeg then none else if ((0 : Int32) + x1) < 0 ∨ 79 ≤ ((0 : Int32) + x1).toNatClampNeg then none else some ((r (((0 : Int32) + x1).toNatClampNeg)), (upd r (((0 : Int32) + x1).toNatClampNeg) x2))
def fn_X8_touch_45 (mref : Int32) (macts : Int32) (mnow : kF) (mdiary : kF) (x1 : Int32) (x2 : Int32) (k1 : Int32) : Option (Int32 × Int32 × Int32 × kF × kF) :=
  (fn_X8_refused mref k1).bind fun o45 => if o45.1 = 0 then (fn_X8_remember macts mnow mdiary).bind fun o54 => (fn_X8_touchOn mnow x1 x2).bind fun o63 => some (o63.1, o45.2, o54.1, o63.2, o54.2) else some ((0 : Int32), o45.2, macts, mnow, mdiary)
def fn_X8_touch (mref : Int32) (macts : Int32) (mnow : kF) (mdiary : kF) (x1 : Int32) (x2 : Int32) : Option (Int32 × Int32 × Int32 × kF × kF) :=
  (fn_X8_isPin x1).bind fun o2 => if o2 = 0 then fn_X8_touch_45 mref macts mnow mdiary x1 x2 (1 : Int32) else (fn_X8_in ((x2).toInt64) (0 : Int64) (3 : Int64)).bind fun o18 => if o18 = 0 then fn_X8_touch_45 mref macts mnow mdiary x1 x2 (2 : Int32) else if ((0 : Int32) + x1) < 0 ∨ 79 ≤ ((0 : Int32) + x1).toNatClampNeg then none else if (mnow (((0 : Int32) + x1).toNatClampNeg)) = (4 : Int32) then fn_X8_touch_45 mref macts mnow mdiary x1 x2 (3 : Int32) else fn_X8_touch_45 mref macts mnow mdiary x1 x2 (0 : Int32)
def fn_X8_set_14 (mref : Int32) (macts : Int32) (mnow : kF) (mdiary : kF) (x1 : Int32) (x2 : Int32) (k1 : Int32) : Option (Int32 × Int32 × Int32 × kF × kF) :=
  (fn_X8_refused mref k1).bind fun o14 => if o14.1 = 0 then (fn_X8_remember macts mnow mdiary).bind fun o23 => if ((76 : Int32) + x1) < 0 ∨ 79 ≤ ((76 : Int32) + x1).toNatClampNeg then none else if ((76 : Int32) + x1) < 0 ∨ 79 ≤ ((76 : Int32) + x1).toNatClampNeg then none else some ((mnow (((76 : Int32) + x1).toNatClampNeg)), o14.2, o23.1, (upd mnow (((76 : Int32) + x1).toNatClampNeg) x2), o23.2) else some ((0 : Int32), o14.2, macts, mnow, mdiary)
def fn_X8_set (mref : Int32) (macts : Int32) (mnow : kF) (mdiary : kF) (x1 : Int32) (x2 : Int32) : Option (Int32 × Int32 × Int32 × kF × kF) :=
  (fn_X8_isSetting x1 x2).bind fun o3 => if o3 = 0 then fn_X8_set_14 mref macts mnow mdiary x1 x2 (1 : Int32) else fn_X8_set_14 mref macts mnow mdiary x1 x2 (0 : Int32)
def fn_X8_undo_13 (mref : Int32) (macts : Int32) (mnow : kF) (mdiary : kF) (k1 : Int32) : Option (Int32 × Int32 × Int32 × kF) :=
  (fn_X8_refused mref k1).bind fun o13 => if o13.1 = 0 then (fn_X8_copyState 1106 79 mdiary mnow ((79 : Int32) * (macts - (1 : Int32))) (0 : Int32)).bind fun o47 => some ((macts - (1 : Int32)), o13.2, (macts - (1 : Int32)), o47) else some ((0 : Int32), o13.2, macts, mnow)
def fn_X8_undo (mref : Int32) (macts : Int32) (mnow : kF) (mdiary : kF) : Option (Int32 × Int32 × Int32 × kF) :=
  if macts = 0 then fn_X8_undo_13 mref macts mnow mdiary (1 : Int32) else fn_X8_undo_13 mref macts mnow mdiary (0 : Int32)
def fn_X8_tryBall (mnow : kF) (mtrial : kF) (mside : kF) (x1 : Int32) (x2 : Int32) : Option (Int32 × kF × kF) :=
  (fn_X8_copyState 79 79 mnow mtrial (0 : Int32) (0 : Int32)).bind fun o10 => (fn_X8_ball mside o10 x1 x2).bind fun o20 => (fn_X8_tell o20.2).bind fun o27 => (fn_X8_toldOf mnow).bind fun o34 => (fn_X8_toldOf o27).bind fun o41 => some ((o34 - o41), o27, o20.1)
def fn_X8_would_221 (mref : Int32) (mnow : kF) (mtrial : kF) (mside : kF) (k0 : Int32) : Option (Int32 × Int32 × kF × kF) :=
  some (k0, mref, mtrial, mside)
def fn_X8_would_181 (q54 : Int32 → kF → kF → kF → Int32 → Int32 → Int32 → Int32 → Int32 → Int32 → Option (Int32 × Int32 × kF × kF)) (mref : Int32) (mnow : kF) (mtrial : kF) (mside : kF) (x3 : Int32) (x4 : Int32) (x5 : Int32) (x6 : Int32) (x8 : Int32) (k0 : Int32) (k1 : Int32) : Option (Int32 × Int32 × kF × kF) :=
  q54 mref mnow mtrial mside x3 x4 x5 x6 (k0 + k1) (x8 + 1)
def fn_X8_would_180 (q54 : Int32 → kF → kF → kF → Int32 → Int32 → Int32 → Int32 → Int32 → Int32 → Option (Int32 × Int32 × kF × kF)) (mref : Int32) (mnow : kF) (mtrial : kF) (mside : kF) (x3 : Int32) (x4 : Int32) (x5 : Int32) (x6 : Int32) (x8 : Int32) (k0 : Int32) : Option (Int32 × Int32 × kF × kF) :=
  fn_X8_would_181 q54 mref mnow mtrial mside x3 x4 x5 x6 x8 k0 (0 : Int32)
def fn_X8_would_139 (q54 : Int32 → kF → kF → kF → Int32 → Int32 → Int32 → Int32 → Int32 → Int32 → Option (Int32 × Int32 × kF × kF)) (mref : Int32) (mnow : kF) (mtrial : kF) (mside : kF) (x3 : Int32) (x4 : Int32) (x5 : Int32) (x7 : Int32) (x8 : Int32) (x9 : Int32) (k0 : Int32) (k1 : Int32) : Option (Int32 × Int32 × kF × kF) :=
  if x9 = 0 then if ((20 : Int32) + x8) < 0 ∨ 79 ≤ ((20 : Int32) + x8).toNatClampNeg then none else if (mnow (((20 : Int32) + x8).toNatClampNeg)) = (1 : Int32) then if ((20 : Int32) + x8) < 0 ∨ 79 ≤ ((20 : Int32) + x8).toNatClampNeg then none else if (mtrial (((20 : Int32) + x8).toNatClampNeg)) = 0 then fn_X8_would_181 q54 mref mnow mtrial mside x3 x4 x5 (k0 ||| k1) x8 x7 (1 : Int32) else fn_X8_would_180 q54 mref mnow mtrial mside x3 x4 x5 (k0 ||| k1) x8 x7 else fn_X8_would_180 q54 mref mnow mtrial mside x3 x4 x5 (k0 ||| k1) x8 x7 else fn_X8_would_180 q54 mref mnow mtrial mside x3 x4 x5 (k0 ||| k1) x8 x7
def fn_X8_would_138 (q54 : Int32 → kF → kF → kF → Int32 → Int32 → Int32 → Int32 → Int32 → Int32 → Option (Int32 × Int32 × kF × kF)) (mref : Int32) (mnow : kF) (mtrial : kF) (mside : kF) (x3 : Int32) (x4 : Int32) (x5 : Int32) (x7 : Int32) (x8 : Int32) (x9 : Int32) (k0 : Int32) : Option (Int32 × Int32 × kF × kF) :=
  fn_X8_would_139 q54 mref mnow mtrial mside x3 x4 x5 x7 x8 x9 k0 (0 : Int32)
def fn_X8_would_109 (q54 : Int32 → kF → kF → kF → Int32 → Int32 → Int32 → Int32 → Int32 → Int32 → Option (Int32 × Int32 × kF × kF)) (mref : Int32) (mnow : kF) (mtrial : kF) (mside : kF) (x3 : Int32) (x4 : Int32) (x6 : Int32) (x7 : Int32) (x8 : Int32) (x9 : Int32) (k0 : Int32) (k1 : Int32) : Option (Int32 × Int32 × kF × kF) :=
  if x9 = 0 then if ((0 : Int32) + x8) < 0 ∨ 79 ≤ ((0 : Int32) + x8).toNatClampNeg then none else if (mtrial (((0 : Int32) + x8).toNatClampNeg)) ≤ 0 then fn_X8_would_138 q54 mref mnow mtrial mside x3 x4 (k0 ||| k1) x7 x8 x9 x6 else fn_X8_would_139 q54 mref mnow mtrial mside x3 x4 (k0 ||| k1) x7 x8 x9 x6 ((1 : Int32) <<< (x8 &&& 31)) else fn_X8_would_138 q54 mref mnow mtrial mside x3 x4 (k0 ||| k1) x7 x8 x9 x6
def fn_X8_would_108 (q54 : Int32 → kF → kF → kF → Int32 → Int32 → Int32 → Int32 → Int32 → Int32 → Option (Int32 × Int32 × kF × kF)) (mref : Int32) (mnow : kF) (mtrial : kF) (mside : kF) (x3 : Int32) (x4 : Int32) (x6 : Int32) (x7 : Int32) (x8 : Int32) (x9 : Int32) (k0 : Int32) : Option (Int32 × Int32 × kF × kF) :=
  fn_X8_would_109 q54 mref mnow mtrial mside x3 x4 x6 x7 x8 x9 k0 (0 : Int32)
def fn_X8_would_79 (q54 : Int32 → kF → kF → kF → Int32 → Int32 → Int32 → Int32 → Int32 → Int32 → Option (Int32 × Int32 × kF × kF)) (mref : Int32) (mnow : kF) (mtrial : kF) (mside : kF) (x3 : Int32) (x4 : Int32) (x5 : Int32) (x6 : Int32) (x7 : Int32) (x8 : Int32) (k0 : Int32) : Option (Int32 × Int32 × kF × kF) :=
  if k0 = 0 then fn_X8_would_108 q54 mref mnow mtrial mside x3 x4 x6 x7 x8 k0 x5 else if ((0 : Int32) + x8) < 0 ∨ 79 ≤ ((0 : Int32) + x8).toNatClampNeg then none else if (mnow (((0 : Int32) + x8).toNatClampNeg)) = (4 : Int32) then fn_X8_would_108 q54 mref mnow mtrial mside x3 x4 x6 x7 x8 k0 x5 else fn_X8_would_109 q54 mref mnow mtrial mside x3 x4 x6 x7 x8 k0 x5 ((1 : Int32) <<< (x8 &&& 31))
def fn_X8_would_54  : Nat → Int32 → kF → kF → kF → Int32 → Int32 → Int32 → Int32 → Int32 → Int32 → Option (Int32 × Int32 × kF × kF)
  | 0, _, _, _, _, _, _, _, _, _, _ => none
  | q + 1, mref, mnow, mtrial, mside, x3, x4, x5, x6, x7, x8 =>
    if (10 : Int32) ≤ x8 then if x3 = 0 then fn_X8_would_221 mref mnow mtrial mside x5 else if x3 = (1 : Int32) then fn_X8_would_221 mref mnow mtrial mside x6 else if x3 = (2 : Int32) then fn_X8_would_221 mref mnow mtrial mside x4 else fn_X8_would_221 mref mnow mtrial mside x7 else if ((0 : Int32) + x8) < 0 ∨ 79 ≤ ((0 : Int32) + x8).toNatClampNeg then none else if (mtrial (((0 : Int32) + x8).toNatClampNeg)) = (4 : Int32) then fn_X8_would_79 (fn_X8_would_54 q) mref mnow mtrial mside x3 x4 x5 x6 x7 x8 (1 : Int32) else fn_X8_would_79 (fn_X8_would_54 q) mref mnow mtrial mside x3 x4 x5 x6 x7 x8 (0 : Int32)
def fn_X8_would_26 (mref : Int32) (mnow : kF) (mtrial : kF) (mside : kF) (x1 : Int32) (x2 : Int32) (x3 : Int32) (k1 : Int32) : Option (Int32 × Int32 × kF × kF) :=
  (fn_X8_refused mref k1).bind fun o26 => if o26.1 = 0 then (fn_X8_tryBall mnow mtrial mside x1 x2).bind fun o37 => fn_X8_would_54 4096 o26.2 mnow o37.2.1 o37.2.2 x3 o37.1 (0 : Int32) (0 : Int32) (0 : Int32) (0 : Int32) else some ((0 : Int32), o26.2, mtrial, mside)
def fn_X8_would_25 (mref : Int32) (mnow : kF) (mtrial : kF) (mside : kF) (x1 : Int32) (x2 : Int32) (x3 : Int32) : Option (Int32 × Int32 × kF × kF) :=
  fn_X8_would_26 mref mnow mtrial mside x1 x2 x3 (1 : Int32)
def fn_X8_would (mref : Int32) (mnow : kF) (mtrial : kF) (mside : kF) (x1 : Int32) (x2 : Int32) (x3 : Int32) : Option (Int32 × Int32 × kF × kF) :=
  (fn_X8_isBall x1 x2).bind fun o3 => if o3 = 0 then fn_X8_would_25 mref mnow mtrial mside x1 x2 x3 else (fn_X8_in ((x3).toInt64) (0 : Int64) (3 : Int64)).bind fun o15 => if o15 = 0 then fn_X8_would_25 mref mnow mtrial mside x1 x2 x3 else fn_X8_would_26 mref mnow mtrial mside x1 x2 x3 (0 : Int32)
def fn_X8_bestBoard_81 (q40 : Int32 → kF → kF → kF → Int32 → Int32 → Int32 → Int32 → Option (Int32 × Int32 × kF × kF)) (mref : Int32) (mnow : kF) (mtrial : kF) (mside : kF) (x1 : Int32) (x2 : Int32) (x4 : Int32) (k0 : Int32) : Option (Int32 × Int32 × kF × kF) :=
  q40 mref mnow mtrial mside x1 x2 k0 (x4 + 1)
def fn_X8_bestBoard_68 (q40 : Int32 → kF → kF → kF → Int32 → Int32 → Int32 → Int32 → Option (Int32 × Int32 × kF × kF)) (mref : Int32) (mnow : kF) (mtrial : kF) (mside : kF) (x1 : Int32) (x3 : Int32) (x4 : Int32) (x5 : Int32) (k0 : Int32) : Option (Int32 × Int32 × kF × kF) :=
  if x5 ≤ x3 then fn_X8_bestBoard_81 q40 mref mnow mtrial mside x1 k0 x4 x3 else fn_X8_bestBoard_81 q40 mref mnow mtrial mside x1 k0 x4 x5
def fn_X8_bestBoard_40  : Nat → Int32 → kF → kF → kF → Int32 → Int32 → Int32 → Int32 → Option (Int32 × Int32 × kF × kF)
  | 0, _, _, _, _, _, _, _, _ => none
  | q + 1, mref, mnow, mtrial, mside, x1, x2, x3, x4 =>
    if (40 : Int32) < x4 then some (x2, mref, mtrial, mside) else (fn_X8_tryBall mnow mtrial mside x4 x1).bind fun o51 => if o51.1 ≤ x3 then fn_X8_bestBoard_68 (fn_X8_bestBoard_40 q) mref mnow o51.2.1 o51.2.2 x1 x3 x4 o51.1 x2 else fn_X8_bestBoard_68 (fn_X8_bestBoard_40 q) mref mnow o51.2.1 o51.2.2 x1 x3 x4 o51.1 x4
def fn_X8_bestBoard_20 (mref : Int32) (mnow : kF) (mtrial : kF) (mside : kF) (x1 : Int32) (k1 : Int32) : Option (Int32 × Int32 × kF × kF) :=
  (fn_X8_refused mref k1).bind fun o20 => if o20.1 = 0 then (fn_X8_tryBall mnow mtrial mside (0 : Int32) x1).bind fun o33 => fn_X8_bestBoard_40 4096 o20.2 mnow o33.2.1 o33.2.2 x1 (0 : Int32) o33.1 (1 : Int32) else some ((0 : Int32), o20.2, mtrial, mside)
def fn_X8_bestBoard (mref : Int32) (mnow : kF) (mtrial : kF) (mside : kF) (x1 : Int32) : Option (Int32 × Int32 × kF × kF) :=
  (fn_X8_in ((x1).toInt64) (-2 : Int64) (2 : Int64)).bind fun o9 => if o9 = 0 then fn_X8_bestBoard_20 mref mnow mtrial mside x1 (1 : Int32) else fn_X8_bestBoard_20 mref mnow mtrial mside x1 (0 : Int32)
def fn_X8_slowest_7  : Nat → Int32 → kF → Int32 → Option (Int32 × Int32)
  | 0, _, _, _ => none
  | q + 1, mref, mnow, x1 =>
    (fn_X8_isStopped mnow x1).bind fun o12 => if o12 = 0 then some (x1, mref) else fn_X8_slowest_7 q mref mnow (x1 + 1)
def fn_X8_slowest (mref : Int32) (mnow : kF) : Option (Int32 × Int32) :=
  fn_X8_slowest_7 4096 (0 : Int32) mnow (1 : Int32)
def fn_X8_goesOn_35  : Nat → Int32 → kF → kF → kF → kF → Int32 → Int32 → Option (Int32 × Int32 × kF × kF × kF)
  | 0, _, _, _, _, _, _, _ => none
  | q + 1, mref, mnow, mtrial, mside, mwas, x1, x2 =>
    (fn_X8_isOver mtrial).bind fun o39 => if o39 = 0 then (fn_X8_rollOn mside mwas mtrial x1 x2 (0 : Int32)).bind fun o53 => fn_X8_goesOn_35 q mref mnow o53.2.2.2 o53.2.1 o53.2.2.1 x1 x2 else (fn_X8_points mtrial).bind fun o64 => some (o64, mref, mtrial, mside, mwas)
def fn_X8_goesOn_14 (mref : Int32) (mnow : kF) (mtrial : kF) (mside : kF) (mwas : kF) (x1 : Int32) (x2 : Int32) (k1 : Int32) : Option (Int32 × Int32 × kF × kF × kF) :=
  (fn_X8_refused mref k1).bind fun o14 => if o14.1 = 0 then (fn_X8_copyState 79 79 mnow mtrial (0 : Int32) (0 : Int32)).bind fun o32 => fn_X8_goesOn_35 4096 o14.2 mnow o32 mside mwas x1 x2 else some ((0 : Int32), o14.2, mtrial, mside, mwas)
def fn_X8_goesOn (mref : Int32) (mnow : kF) (mtrial : kF) (mside : kF) (mwas : kF) (x1 : Int32) (x2 : Int32) : Option (Int32 × Int32 × kF × kF × kF) :=
  (fn_X8_isBall x1 x2).bind fun o3 => if o3 = 0 then fn_X8_goesOn_14 mref mnow mtrial mside mwas x1 x2 (1 : Int32) else fn_X8_goesOn_14 mref mnow mtrial mside mwas x1 x2 (0 : Int32)
def fn_X8_drops_34 (q9 : Int32 → kF → Int32 → Int32 → Option (Int32 × Int32)) (mref : Int32) (mnow : kF) (x2 : Int32) (k0 : Int32) (k1 : Int32) : Option (Int32 × Int32) :=
  q9 mref mnow (k0 ||| k1) (x2 + 1)
def fn_X8_drops_9  : Nat → Int32 → kF → Int32 → Int32 → Option (Int32 × Int32)
  | 0, _, _, _, _ => none
  | q + 1, mref, mnow, x1, x2 =>
    if (10 : Int32) ≤ x2 then some (x1, mref) else (fn_X8_slips mnow x2).bind fun o21 => if o21 = 0 then fn_X8_drops_34 (fn_X8_drops_9 q) mref mnow x2 x1 (0 : Int32) else fn_X8_drops_34 (fn_X8_drops_9 q) mref mnow x2 x1 ((1 : Int32) <<< (x2 &&& 31))
def fn_X8_drops (mref : Int32) (mnow : kF) : Option (Int32 × Int32) :=
  fn_X8_drops_9 4096 (0 : Int32) mnow (0 : Int32) (0 : Int32)
def fn_X8_command_145 (mtrial : kF) (mside : kF) (mwas : kF) (k0 : Int32) : Option (Int32 × kF × kF × kF) :=
  if k0 = 0 ∨ k0 = 1 then some (k0, mtrial, mside, mwas) else none
def fn_X8_command_144 (mtrial : kF) (mside : kF) (mwas : kF) : Option (Int32 × kF × kF × kF) :=
  fn_X8_command_145 mtrial mside mwas (0 : Int32)
def fn_X8_command_134 (mtrial : kF) (mside : kF) (mwas : kF) (k2 : Int32) (k3 : Int32) (k4 : Int32) : Option (Int32 × kF × kF × kF) :=
  (fn_X8_rollOn mside mwas mtrial k2 k3 k4).bind fun o134 => if o134.1 < 0 then fn_X8_command_144 o134.2.2.2 o134.2.1 o134.2.2.1 else fn_X8_command_145 o134.2.2.2 o134.2.1 o134.2.2.1 (1 : Int32)
def fn_X8_command_194 (mtrial : kF) (mside : kF) (mwas : kF) (k0 : Int32) : Option (Int32 × kF × kF × kF) :=
  if k0 = 0 ∨ k0 = 1 then some (k0, mtrial, mside, mwas) else none
def fn_X8_command_193 (mtrial : kF) (mside : kF) (mwas : kF) : Option (Int32 × kF × kF × kF) :=
  fn_X8_command_194 mtrial mside mwas (0 : Int32)
def fn_X8_command_216 (mtrial : kF) (mside : kF) (mwas : kF) : Option (Int32 × kF × kF × kF) :=
  some ((0 : Int32), mtrial, mside, mwas)
def fn_X8_command_255 (mtrial : kF) (mside : kF) (mwas : kF) (k0 : Int32) : Option (Int32 × kF × kF × kF) :=
  if k0 = 0 ∨ k0 = 1 then some (k0, mtrial, mside, mwas) else none
def fn_X8_command_254 (mtrial : kF) (mside : kF) (mwas : kF) : Option (Int32 × kF × kF × kF) :=
  fn_X8_command_255 mtrial mside mwas (0 : Int32)
def fn_X8_command_278 (mtrial : kF) (mside : kF) (mwas : kF) (k0 : Int32) : Option (Int32 × kF × kF × kF) :=
  if k0 = 0 ∨ k0 = 1 then some (k0, mtrial, mside, mwas) else none
def fn_X8_command_277 (mtrial : kF) (mside : kF) (mwas : kF) : Option (Int32 × kF × kF × kF) :=
  fn_X8_command_278 mtrial mside mwas (0 : Int32)
def fn_X8_command_308 (mtrial : kF) (mside : kF) (mwas : kF) (k0 : Int32) : Option (Int32 × kF × kF × kF) :=
  if k0 = 0 ∨ k0 = 1 then some (k0, mtrial, mside, mwas) else none
def fn_X8_command_307 (mtrial : kF) (mside : kF) (mwas : kF) : Option (Int32 × kF × kF × kF) :=
  fn_X8_command_308 mtrial mside mwas (0 : Int32)
def fn_X8_command_332 (mtrial : kF) (mside : kF) (mwas : kF) (k0 : Int32) : Option (Int32 × kF × kF × kF) :=
  if k0 = 0 ∨ k0 = 1 then some (k0, mtrial, mside, mwas) else none
def fn_X8_command_331 (mtrial : kF) (mside : kF) (mwas : kF) : Option (Int32 × kF × kF × kF) :=
  fn_X8_command_332 mtrial mside mwas (0 : Int32)
def fn_X8_command_363 (mtrial : kF) (mside : kF) (mwas : kF) (k0 : Int32) : Option (Int32 × kF × kF × kF) :=
  if k0 = 0 ∨ k0 = 1 then some (k0, mtrial, mside, mwas) else none
def fn_X8_command_362 (mtrial : kF) (mside : kF) (mwas : kF) : Option (Int32 × kF × kF × kF) :=
  fn_X8_command_363 mtrial mside mwas (0 : Int32)
def fn_X8_command (mtrial : kF) (mside : kF) (mwas : kF) (x1 : Int32) (x2 : Int32) : Option (Int32 × kF × kF × kF) :=
  if x1 = 1 then if (x2 - x2 / (10 : Int32) * (10 : Int32)) = 0 then (fn_X8_isBall (x2 / (100 : Int32)) (((x2 / (10 : Int32)) - (x2 / (10 : Int32)) / (10 : Int32) * (10 : Int32)) - (2 : Int32))).bind fun o99 => if o99 = 0 then fn_X8_command_144 mtrial mside mwas else (fn_X8_isOver mtrial).bind fun o109 => if o109 = 0 then if x1 = (2 : Int32) then fn_X8_command_134 mtrial mside mwas (x2 / (100 : Int32)) (((x2 / (10 : Int32)) - (x2 / (10 : Int32)) / (10 : Int32) * (10 : Int32)) - (2 : Int32)) (1 : Int32) else fn_X8_command_134 mtrial mside mwas (x2 / (100 : Int32)) (((x2 / (10 : Int32)) - (x2 / (10 : Int32)) / (10 : Int32) * (10 : Int32)) - (2 : Int32)) (0 : Int32) else fn_X8_command_144 mtrial mside mwas else fn_X8_command_144 mtrial mside mwas else if x1 = 2 then if (x2 - x2 / (10 : Int32) * (10 : Int32)) = 0 then (fn_X8_isBall (x2 / (100 : Int32)) (((x2 / (10 : Int32)) - (x2 / (10 : Int32)) / (10 : Int32) * (10 : Int32)) - (2 : Int32))).bind fun o99 => if o99 = 0 then fn_X8_command_144 mtrial mside mwas else (fn_X8_isOver mtrial).bind fun o109 => if o109 = 0 then if x1 = (2 : Int32) then fn_X8_command_134 mtrial mside mwas (x2 / (100 : Int32)) (((x2 / (10 : Int32)) - (x2 / (10 : Int32)) / (10 : Int32) * (10 : Int32)) - (2 : Int32)) (1 : Int32) else fn_X8_command_134 mtrial mside mwas (x2 / (100 : Int32)) (((x2 / (10 : Int32)) - (x2 / (10 : Int32)) / (10 : Int32) * (10 : Int32)) - (2 : Int32)) (0 : Int32) else fn_X8_command_144 mtrial mside mwas else fn_X8_command_144 mtrial mside mwas else if x1 = 3 then if (x2 - x2 / (100 : Int32) * (100 : Int32)) = 0 then (fn_X8_in ((((x2 / (100 : Int32)) - (x2 / (100 : Int32)) / (10 : Int32) * (10 : Int32))).toInt64) (0 : Int64) (3 : Int64)).bind fun o158 => if o158 = 0 then fn_X8_command_193 mtrial mside mwas else if ((0 : Int32) + (x2 / (1000 : Int32))) < 0 ∨ 79 ≤ ((0 : Int32) + (x2 / (1000 : Int32))).toNatClampNeg then none else if (mtrial (((0 : Int32) + (x2 / (1000 : Int32))).toNatClampNeg)) = (4 : Int32) then fn_X8_command_193 mtrial mside mwas else (fn_X8_touchOn mtrial (x2 / (1000 : Int32)) ((x2 / (100 : Int32)) - (x2 / (100 : Int32)) / (10 : Int32) * (10 : Int32))).bind fun o183 => if o183.1 < 0 then fn_X8_command_193 o183.2 mside mwas else fn_X8_command_194 o183.2 mside mwas (1 : Int32) else fn_X8_command_193 mtrial mside mwas else if x1 = 4 then if 0 < (x2 - x2 / (10 : Int32) * (10 : Int32)) then fn_X8_command_216 mtrial mside mwas else (fn_X8_isSetting (x2 / (1000 : Int32)) ((x2 / (10 : Int32)) - (x2 / (10 : Int32)) / (100 : Int32) * (100 : Int32))).bind fun o210 => if o210 = 0 then fn_X8_command_216 mtrial mside mwas else if ((76 : Int32) + (x2 / (1000 : Int32))) < 0 ∨ 79 ≤ ((76 : Int32) + (x2 / (1000 : Int32))).toNatClampNeg then none else some ((1 : Int32), (upd mtrial (((76 : Int32) + (x2 / (1000 : Int32))).toNatClampNeg) ((x2 / (10 : Int32)) - (x2 / (10 : Int32)) / (100 : Int32) * (100 : Int32))), mside, mwas) else if x1 = 5 then if x2 = 0 then (fn_X8_beginOn mtrial).bind fun o244 => if o244.1 < 0 then fn_X8_command_254 o244.2 mside mwas else fn_X8_command_255 o244.2 mside mwas (1 : Int32) else fn_X8_command_254 mtrial mside mwas else if x1 = 6 then if (100 : Int32) ≤ x2 then fn_X8_command_277 mtrial mside mwas else (fn_X8_toldOf mtrial).bind fun o266 => if x2 < o266 then fn_X8_command_277 mtrial mside mwas else fn_X8_command_278 mtrial mside mwas (1 : Int32) else if x1 = 7 then if (x2 - x2 / (100 : Int32) * (100 : Int32)) = 0 then if (4 : Int32) < ((x2 / (100 : Int32)) - (x2 / (100 : Int32)) / (10 : Int32) * (10 : Int32)) then fn_X8_command_307 mtrial mside mwas else if ((0 : Int32) + (x2 / (1000 : Int32))) < 0 ∨ 79 ≤ ((0 : Int32) + (x2 / (1000 : Int32))).toNatClampNeg then none else if (mtrial (((0 : Int32) + (x2 / (1000 : Int32))).toNatClampNeg)) = ((x2 / (100 : Int32)) - (x2 / (100 : Int32)) / (10 : Int32) * (10 : Int32)) then fn_X8_command_308 mtrial mside mwas (1 : Int32) else fn_X8_command_307 mtrial mside mwas else fn_X8_command_307 mtrial mside mwas else if x1 = 8 then if (1000 : Int32) ≤ x2 then fn_X8_command_331 mtrial mside mwas else (fn_X8_points mtrial).bind fun o320 => if o320 < x2 then fn_X8_command_331 mtrial mside mwas else fn_X8_command_332 mtrial mside mwas (1 : Int32) else if x1 = 9 then if (3 : Int32) ≤ (x2 - x2 / (1000 : Int32) * (1000 : Int32)) then fn_X8_command_362 mtrial mside mwas else (fn_X8_markOf mtrial (x2 / (1000 : Int32))).bind fun o347 => if o347 = (x2 - x2 / (1000 : Int32) * (1000 : Int32)) then fn_X8_command_363 mtrial mside mwas (1 : Int32) else fn_X8_command_362 mtrial mside mwas else some ((0 : Int32), mtrial, mside, mwas)
def fn_X8_runScript_86  : Nat → Int32 → kF → kF → kF → kF → Int32 → Int64 → Int64 → Int32 → Option (Int32 × Int32 × kF × kF × kF)
  | 0, _, _, _, _, _, _, _, _, _ => none
  | q + 1, mref, mnow, mtrial, mside, mwas, x1, x2, x4, x6 =>
    if x1 ≤ x6 then some ((-1 : Int32), mref, mtrial, mside, mwas) else if (x4 / (100000 : Int64)) = 0 then none else (fn_X8_command mtrial mside mwas (((((x2 / (x4 / (100000 : Int64))) - (x2 / (x4 / (100000 : Int64))) / (100000 : Int64) * (100000 : Int64))).toInt32) / (10000 : Int32)) (((((x2 / (x4 / (100000 : Int64))) - (x2 / (x4 / (100000 : Int64))) / (100000 : Int64) * (100000 : Int64))).toInt32) - ((((x2 / (x4 / (100000 : Int64))) - (x2 / (x4 / (100000 : Int64))) / (100000 : Int64) * (100000 : Int64))).toInt32) / (10000 : Int32) * (10000 : Int32))).bind fun o124 => if o124.1 = 0 then some (x6, mref, o124.2.1, o124.2.2.1, o124.2.2.2) else fn_X8_runScript_86 q mref mnow o124.2.1 o124.2.2.1 o124.2.2.2 x1 x2 (x4 / (100000 : Int64)) (x6 + 1)
def fn_X8_runScript_62 (mref : Int32) (mnow : kF) (mtrial : kF) (mside : kF) (mwas : kF) (x1 : Int32) (x2 : Int64) (x4 : Int64) (k1 : Int32) : Option (Int32 × Int32 × kF × kF × kF) :=
  (fn_X8_refused mref k1).bind fun o62 => if o62.1 = 0 then (fn_X8_copyState 79 79 mnow mtrial (0 : Int32) (0 : Int32)).bind fun o80 => fn_X8_runScript_86 4096 o62.2 mnow o80 mside mwas x1 x2 x4 (0 : Int32) else some ((0 : Int32), o62.2, mtrial, mside, mwas)
def fn_X8_runScript_61 (mref : Int32) (mnow : kF) (mtrial : kF) (mside : kF) (mwas : kF) (x1 : Int32) (x2 : Int64) (x4 : Int64) : Option (Int32 × Int32 × kF × kF × kF) :=
  fn_X8_runScript_62 mref mnow mtrial mside mwas x1 x2 x4 (1 : Int32)
def fn_X8_runScript_32 (mref : Int32) (mnow : kF) (mtrial : kF) (mside : kF) (mwas : kF) (x1 : Int32) (x2 : Int64) (x4 : Int64) : Option (Int32 × Int32 × kF × kF × kF) :=
  (fn_X8_in ((x1).toInt64) (1 : Int64) (3 : Int64)).bind fun o39 => if o39 = 0 then fn_X8_runScript_61 mref mnow mtrial mside mwas x1 x2 x4 else (fn_X8_in x2 (0 : Int64) (x4 - (1 : Int64))).bind fun o51 => if o51 = 0 then fn_X8_runScript_61 mref mnow mtrial mside mwas x1 x2 x4 else fn_X8_runScript_62 mref mnow mtrial mside mwas x1 x2 x4 (0 : Int32)
def fn_X8_runScript_6  : Nat → Int32 → kF → kF → kF → kF → Int32 → Int64 → Int64 → Int32 → Option (Int32 × Int32 × kF × kF × kF)
  | 0, _, _, _, _, _, _, _, _, _ => none
  | q + 1, mref, mnow, mtrial, mside, mwas, x1, x2, x4, x6 =>
    if x1 ≤ x6 then fn_X8_runScript_32 mref mnow mtrial mside mwas x1 x2 x4 else if (3 : Int32) ≤ x6 then fn_X8_runScript_32 mref mnow mtrial mside mwas x1 x2 x4 else fn_X8_runScript_6 q mref mnow mtrial mside mwas x1 x2 (x4 * (100000 : Int64)) (x6 + 1)
def fn_X8_runScript (mref : Int32) (mnow : kF) (mtrial : kF) (mside : kF) (mwas : kF) (x1 : Int32) (x2 : Int64) : Option (Int32 × Int32 × kF × kF × kF) :=
  fn_X8_runScript_6 4096 mref mnow mtrial mside mwas x1 x2 (1 : Int64) (0 : Int32)
def fn_X8_turn_134 (mtrial : kF) (mside : kF) (mwas : kF) : Option (kF × kF × kF) :=
  some (mtrial, mside, mwas)
def fn_X8_turn_130 (mtrial : kF) (mside : kF) (mwas : kF) (k2 : Int32) (k3 : Int32) (k4 : Int32) (k5 : Int32) : Option (kF × kF × kF) :=
  (fn_X8_throwOn mside mwas mtrial k2 k3 k4 k5).bind fun o130 => fn_X8_turn_134 o130.2.2.2 o130.2.1 o130.2.2.1
def fn_X8_turn_71 (mtrial : kF) (mside : kF) (mwas : kF) : Option (kF × kF × kF) :=
  fn_X8_turn_134 mtrial mside mwas
def fn_X8_turn (mtrial : kF) (mside : kF) (mwas : kF) (x1 : Int32) : Option (kF × kF × kF) :=
  if (x1 - x1 / (8 : Int32) * (8 : Int32)) = 0 then if ((0 : Int32) + ((x1 / (8 : Int32)) - (x1 / (8 : Int32)) / (10 : Int32) * (10 : Int32))) < 0 ∨ 79 ≤ ((0 : Int32) + ((x1 / (8 : Int32)) - (x1 / (8 : Int32)) / (10 : Int32) * (10 : Int32))).toNatClampNeg then none else if (mtrial (((0 : Int32) + ((x1 / (8 : Int32)) - (x1 / (8 : Int32)) / (10 : Int32) * (10 : Int32))).toNatClampNeg)) = (4 : Int32) then fn_X8_turn_134 mtrial mside mwas else (fn_X8_touchOn mtrial ((x1 / (8 : Int32)) - (x1 / (8 : Int32)) / (10 : Int32) * (10 : Int32)) (((x1 / (8 : Int32)) / (16 : Int32)) - ((x1 / (8 : Int32)) / (16 : Int32)) / (4 : Int32) * (4 : Int32))).bind fun o43 => fn_X8_turn_134 o43.2 mside mwas else if (x1 - x1 / (8 : Int32) * (8 : Int32)) = (1 : Int32) then if ((77 : Int32) + ((x1 / (8 : Int32)) - (x1 / (8 : Int32)) / (2 : Int32) * (2 : Int32))) < 0 ∨ 79 ≤ ((77 : Int32) + ((x1 / (8 : Int32)) - (x1 / (8 : Int32)) / (2 : Int32) * (2 : Int32))).toNatClampNeg then none else fn_X8_turn_71 (upd mtrial (((77 : Int32) + ((x1 / (8 : Int32)) - (x1 / (8 : Int32)) / (2 : Int32) * (2 : Int32))).toNatClampNeg) (((x1 / (8 : Int32)) / (2 : Int32)) - ((x1 / (8 : Int32)) / (2 : Int32)) / (4 : Int32) * (4 : Int32))) mside mwas else (fn_X8_isOver mtrial).bind fun o78 => if o78 = 0 then if (((x1 / (8 : Int32)) / (8192 : Int32)) - ((x1 / (8 : Int32)) / (8192 : Int32)) / (16 : Int32) * (16 : Int32)) = 0 then fn_X8_turn_130 mtrial mside mwas ((10 : Int32) + ((x1 / (8 : Int32)) - (x1 / (8 : Int32)) / (21 : Int32) * (21 : Int32))) ((((x1 / (8 : Int32)) / (32 : Int32)) - ((x1 / (8 : Int32)) / (32 : Int32)) / (5 : Int32) * (5 : Int32)) - (2 : Int32)) ((1 : Int32) + (((x1 / (8 : Int32)) / (256 : Int32)) - ((x1 / (8 : Int32)) / (256 : Int32)) / (30 : Int32) * (30 : Int32))) (1 : Int32) else fn_X8_turn_130 mtrial mside mwas ((10 : Int32) + ((x1 / (8 : Int32)) - (x1 / (8 : Int32)) / (21 : Int32) * (21 : Int32))) ((((x1 / (8 : Int32)) / (32 : Int32)) - ((x1 / (8 : Int32)) / (32 : Int32)) / (5 : Int32) * (5 : Int32)) - (2 : Int32)) ((1 : Int32) + (((x1 / (8 : Int32)) / (256 : Int32)) - ((x1 / (8 : Int32)) / (256 : Int32)) / (30 : Int32) * (30 : Int32))) (0 : Int32) else fn_X8_turn_134 mtrial mside mwas
def fn_X8_simulate_45  : Nat → Int32 → kF → kF → kF → kF → Int32 → Int64 → Int32 → Option (Int32 × Int32 × kF × kF × kF)
  | 0, _, _, _, _, _, _, _, _ => none
  | q + 1, mref, mnow, mtrial, mside, mwas, x3, x4, x6 =>
    if x3 ≤ x6 then (fn_X8_points mtrial).bind fun o94 => some ((((1000 : Int32) * (mtrial 51)) + o94), mref, mtrial, mside, mwas) else (fn_X8_turn mtrial mside mwas (((((((x4 * (6364136223846793005 : Int64)) + (1442695040888963407 : Int64))).toUInt64 >>> (((33 : Int32)).toInt64.toUInt64 &&& Int64.toUInt64 63)).toInt64)).toInt32)).bind fun o70 => fn_X8_simulate_45 q mref mnow o70.1 o70.2.1 o70.2.2 x3 ((x4 * (6364136223846793005 : Int64)) + (1442695040888963407 : Int64)) (x6 + 1)
def fn_X8_simulate_18 (mref : Int32) (mnow : kF) (mtrial : kF) (mside : kF) (mwas : kF) (x1 : Int64) (x3 : Int32) (k1 : Int32) : Option (Int32 × Int32 × kF × kF × kF) :=
  (fn_X8_refused mref k1).bind fun o18 => if o18.1 = 0 then (fn_X8_copyState 79 79 mnow mtrial (0 : Int32) (0 : Int32)).bind fun o36 => fn_X8_simulate_45 4096 o18.2 mnow o36 mside mwas x3 x1 (0 : Int32) else some ((0 : Int32), o18.2, mtrial, mside, mwas)
def fn_X8_simulate (mref : Int32) (mnow : kF) (mtrial : kF) (mside : kF) (mwas : kF) (x1 : Int64) (x3 : Int32) : Option (Int32 × Int32 × kF × kF × kF) :=
  (fn_X8_in ((x3).toInt64) (1 : Int64) (60 : Int64)).bind fun o7 => if o7 = 0 then fn_X8_simulate_18 mref mnow mtrial mside mwas x1 x3 (1 : Int32) else fn_X8_simulate_18 mref mnow mtrial mside mwas x1 x3 (0 : Int32)
def fn_X8_save_16 (mref : Int32) (mnow : kF) (mkept : kF) (misk : kF) (x1 : Int32) (k1 : Int32) : Option (Int32 × Int32 × kF × kF) :=
  (fn_X8_refused mref k1).bind fun o16 => if o16.1 = 0 then (fn_X8_copyState 79 158 mnow mkept (0 : Int32) ((79 : Int32) * x1)).bind fun o37 => if x1 < 0 ∨ 2 ≤ x1.toNatClampNeg then none else some ((mnow 51), o16.2, o37, (upd misk (x1.toNatClampNeg) (vp_nar .boolean (1 : Int32)))) else some ((0 : Int32), o16.2, mkept, misk)
def fn_X8_save (mref : Int32) (mnow : kF) (mkept : kF) (misk : kF) (x1 : Int32) : Option (Int32 × Int32 × kF × kF) :=
  (fn_X8_in ((x1).toInt64) (0 : Int64) (1 : Int64)).bind fun o5 => if o5 = 0 then fn_X8_save_16 mref mnow mkept misk x1 (1 : Int32) else fn_X8_save_16 mref mnow mkept misk x1 (0 : Int32)
def fn_X8_restore_29 (mref : Int32) (macts : Int32) (mnow : kF) (mkept : kF) (misk : kF) (x1 : Int32) (k1 : Int32) : Option (Int32 × Int32 × Int32 × kF) :=
  (fn_X8_refused mref k1).bind fun o29 => if o29.1 = 0 then (fn_X8_copyState 158 79 mkept mnow ((79 : Int32) * x1) (0 : Int32)).bind fun o50 => some ((o50 51), o29.2, (0 : Int32), o50) else some ((0 : Int32), o29.2, macts, mnow)
def fn_X8_restore (mref : Int32) (macts : Int32) (mnow : kF) (mkept : kF) (misk : kF) (x1 : Int32) : Option (Int32 × Int32 × Int32 × kF) :=
  (fn_X8_in ((x1).toInt64) (0 : Int64) (1 : Int64)).bind fun o5 => if o5 = 0 then fn_X8_restore_29 mref macts mnow mkept misk x1 (1 : Int32) else if x1 < 0 ∨ 2 ≤ x1.toNatClampNeg then none else if (misk (x1.toNatClampNeg)) = 0 then fn_X8_restore_29 mref macts mnow mkept misk x1 (2 : Int32) else fn_X8_restore_29 mref macts mnow mkept misk x1 (0 : Int32)
